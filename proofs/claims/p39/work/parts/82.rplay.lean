/-! CONTRACTS of the reference: tellings gone, steps, plays (written by wip/p35/c82.py) -/
set_option maxRecDepth 4000 in
theorem sfX12_goAll {l : Launch} {M : Mem} (hB : Box M)  (s : Int) (p0 : 1 ≤ mI M 54 32) : Call l mdX12_goAll [aR 54, aI s] M (fun q N => ∃ r : Int, q = some (aI r) ∧ BF fS M N ∧ mI N 55 = mI M 55 ∧ mI N 57 = mI M 57 ∧ 0 ≤ r ∧ r ≤ 1 ∧ mI N 54 32 = mI M 54 32) := by
  have hB0 : BF fS M M := BF.start hB
  refine Call.of [some (aR 54), some (aI s), none] rfl (Nat.le_of_ble_eq_true rfl) rfl ?_
  refine vc_ok (fun hoM hoS hoL => ?_)
  have hr1 : -2147483648 ≤ s ∧ s < 2147483648 := hoL 1 _ rfl
  refine vc_iconst dX12_goAll_0 rfl ?_
  refine vc_istore_n dX12_goAll_1 (by decide) rfl (show _ = [some (aR 54), some (aI s), some (aI 0)] from rfl) ?_
  have lp2 : ∀ (n2 : Nat) (Mq2 : Mem) (v2 : Int), (BF fS M Mq2) → (mI Mq2 57 = mI M 57) → (mI Mq2 55 = mI M 55) → (0 ≤ v2) → (v2 ≤ 6) → (mI Mq2 54 32 = mI M 54 32) → (6 - v2).toNat < n2 → VC l mdX12_goAll 2 [some (aR 54), some (aI s), some (aI v2)] [] Mq2 0 0 (fun q N => ∃ r : Int, q = some (aI r) ∧ BF fS M N ∧ mI N 55 = mI M 55 ∧ mI N 57 = mI M 57 ∧ 0 ≤ r ∧ r ≤ 1 ∧ mI N 54 32 = mI M 54 32) := by
    intro n2
    induction n2 with
    | zero => intro Mq2 v2 hQ2 kp2_57 kp2_55 g2_2a g2_2b g2i0 hm2; exact absurd hm2 (Nat.not_lt_zero _)
    | succ n2 ih2 =>
      intro Mq2 v2 hQ2 kp2_57 kp2_55 g2_2a g2_2b g2i0 hm2
      refine vc_iload_n dX12_goAll_2 rfl ?_
      refine vc_aload_n dX12_goAll_3 rfl ?_
      refine vc_getI dX12_goAll_4 flX12_355 (s_54 hQ2.1.1) rfl ?_
      have k1 : 0 ≤ mI Mq2 54 32 ∧ mI Mq2 54 32 ≤ 6 := b54_32 (M := Mq2) hQ2.1
      refine vc_icmp_ge dX12_goAll_7 (fun h2 => ?_) (fun h2 => ?_)
      · refine vc_aload_n dX12_goAll_32 rfl ?_
        refine vc_getR dX12_goAll_33 flX12_42 (s_54 hQ2.1.1) rfl (r_54_31 hQ2.1.1) ?_
        refine vc_aload_n dX12_goAll_36 rfl ?_
        refine vc_getI dX12_goAll_37 flX12_355 (s_54 hQ2.1.1) rfl ?_
        refine vc_iconst dX12_goAll_40 rfl ?_
        refine vc_isubE dX12_goAll_41 (by omega) (by omega) ?_
        refine vc_iaload dX12_goAll_42 (s_63 hQ2.1.1) (by omega) (by omega) ?_
        refine vc_bipush dX12_goAll_43 rfl ?_
        refine vc_idiv dX12_goAll_45 (by omega) ?_
        refine vc_iconst dX12_goAll_46 rfl ?_
        refine vc_icmp_eq dX12_goAll_47 (fun h3 => ?_) (fun h3 => ?_)
        · refine vc_iconst dX12_goAll_57 rfl ?_
          refine vc_goto dX12_goAll_58 ?_
          refine vc_zret dX12_goAll_62 rfl (by first | decide | omega) (Nat.le_of_ble_eq_true rfl) (Nat.le_of_ble_eq_true rfl) ?_
          exact ⟨_, rfl, hQ2, kp2_55, kp2_57, by omega, by omega, by omega⟩
        · refine vc_aload_n dX12_goAll_50 rfl ?_
          refine vc_cVI dX12_goAll_51 (sfX12_goOn (M := Mq2) hQ2.1   ) rfl okX12_goOn viX12_goOn lkX12_348 (s_54 hQ2.1.1) cl_12 rfl (Nat.le_of_ble_eq_true rfl) ⟨rfl, rfl⟩ (Nat.le_of_ble_eq_true rfl) (Nat.le_of_ble_eq_true rfl) (Nat.le_of_ble_eq_true rfl) ?_
          rintro x4 M5 ⟨hB6, kp7, kp8, h9, h10, h11, h12⟩
          have hB13 : BF fS M M5 := BF.go hQ2 hB6
          have kp14 : mI M5 57 = mI M 57 := kp_go kp2_57 kp8
          have kp15 : mI M5 55 = mI M 55 := kp_go kp2_55 kp7
          refine vc_if_eq dX12_goAll_54 (fun h16 => ?_) (fun h16 => ?_)
          · refine vc_iconst dX12_goAll_61 rfl ?_
            refine vc_zret dX12_goAll_62 rfl (by first | decide | omega) (Nat.le_of_ble_eq_true rfl) (Nat.le_of_ble_eq_true rfl) ?_
            exact ⟨_, rfl, hB13, kp15, kp14, by omega, by omega, by omega⟩
          · refine vc_iconst dX12_goAll_57 rfl ?_
            refine vc_goto dX12_goAll_58 ?_
            refine vc_zret dX12_goAll_62 rfl (by first | decide | omega) (Nat.le_of_ble_eq_true rfl) (Nat.le_of_ble_eq_true rfl) ?_
            exact ⟨_, rfl, hB13, kp15, kp14, by omega, by omega, by omega⟩
      · refine vc_aload_n dX12_goAll_10 rfl ?_
        refine vc_aload_n dX12_goAll_11 rfl ?_
        refine vc_getR dX12_goAll_12 flX12_42 (s_54 hQ2.1.1) rfl (r_54_31 hQ2.1.1) ?_
        refine vc_iload_n dX12_goAll_15 rfl ?_
        refine vc_iaload dX12_goAll_16 (s_63 hQ2.1.1) (by omega) (by omega) ?_
        refine vc_iload_n dX12_goAll_17 rfl ?_
        refine vc_cVI dX12_goAll_18 (sfX12_goTurn (M := Mq2) hQ2.1  (mI Mq2 63 v2.toNat) s ) rfl okX12_goTurn viX12_goTurn lkX12_361 (s_54 hQ2.1.1) cl_12 rfl (Nat.le_of_ble_eq_true rfl) ⟨rfl, rfl⟩ (Nat.le_of_ble_eq_true rfl) (Nat.le_of_ble_eq_true rfl) (Nat.le_of_ble_eq_true rfl) ?_
        rintro x17 M18 ⟨hB19, kp20, kp21, h22, h23, h24⟩
        have hB25 : BF fS M M18 := BF.go hQ2 hB19
        have kp26 : mI M18 57 = mI M 57 := kp_go kp2_57 kp21
        have kp27 : mI M18 55 = mI M 55 := kp_go kp2_55 kp20
        refine vc_if_ne dX12_goAll_21 (fun h28 => ?_) (fun h28 => ?_)
        · refine vc_iincE dX12_goAll_26 rfl (by omega) (by omega) (by decide) rfl (show _ = [some (aR 54), some (aI s), some (aI (v2 + 1))] from rfl) ?_
          refine vc_goto dX12_goAll_29 ?_
          exact ih2 M18 (v2 + 1) hB25 kp26 kp27 (by omega) (by omega) (by omega) (by omega)
        · refine vc_iconst dX12_goAll_24 rfl ?_
          refine vc_zret dX12_goAll_25 rfl (by first | decide | omega) (Nat.le_of_ble_eq_true rfl) (Nat.le_of_ble_eq_true rfl) ?_
          exact ⟨_, rfl, hB25, kp27, kp26, by omega, by omega, by omega⟩
  exact lp2 _ M 0 hB0 rfl rfl (by omega) (by omega) (by omega) (Nat.lt_succ_self _)

set_option maxRecDepth 4000 in
theorem sfX12_leadsOf {l : Launch} {M : Mem} (hB : Box M)  (t : Int) (s : Int) (p0 : 0 ≤ t) (p1 : t ≤ 7) (p2 : t < mI M 55 3) : Call l mdX12_leadsOf [aR 54, aI t, aI s] M (fun q N => ∃ r : Int, q = some (aI r) ∧ BF fS M N ∧ mI N 55 = mI M 55 ∧ (-1) ≤ r ∧ r ≤ 15) := by
  have hB0 : BF fS M M := BF.start hB
  refine Call.of [some (aR 54), some (aI t), some (aI s)] rfl (Nat.le_of_ble_eq_true rfl) rfl ?_
  refine vc_ok (fun hoM hoS hoL => ?_)
  have hr2 : -2147483648 ≤ s ∧ s < 2147483648 := hoL 2 _ rfl
  have hcn := aB_cnt hB p0 p2
  refine vc_aload_n dX12_leadsOf_0 rfl ?_
  refine vc_iload_n dX12_leadsOf_1 rfl ?_
  refine vc_iconst dX12_leadsOf_2 rfl ?_
  refine vc_cVU dX12_leadsOf_3 (sfX12_takeTurns (M := M) hB0.1  t (-1) (by omega) (by omega)) rfl okX12_takeTurns viX12_takeTurns lkX12_364 (s_54 hB0.1.1) cl_12 rfl (Nat.le_of_ble_eq_true rfl) ⟨rfl, rfl⟩ (Nat.le_of_ble_eq_true rfl) (Nat.le_of_ble_eq_true rfl) (Nat.le_of_ble_eq_true rfl) ?_
  rintro M1 ⟨hB2, kp3, kp4, h5, h6⟩
  have hB7 : BF fS M M1 := BF.go hB0 hB2
  have kp8 : mI M1 55 = mI M 55 := kp_go rfl kp3
  refine vc_aload_n dX12_leadsOf_6 rfl ?_
  refine vc_aload_n dX12_leadsOf_7 rfl ?_
  refine vc_aload_n dX12_leadsOf_8 rfl ?_
  refine vc_iload_n dX12_leadsOf_9 rfl ?_
  refine vc_cVI dX12_leadsOf_10 (sfX12_tellerOf (M := M1) hB7.1  t (by omega) (by omega)) rfl okX12_tellerOf viX12_tellerOf lkX12_299 (s_54 hB7.1.1) cl_12 rfl (Nat.le_of_ble_eq_true rfl) ⟨rfl, rfl⟩ (Nat.le_of_ble_eq_true rfl) (Nat.le_of_ble_eq_true rfl) (Nat.le_of_ble_eq_true rfl) ?_
  rintro x9 _ ⟨rfl, h10, h11⟩
  refine vc_cVI dX12_leadsOf_13 (sfX12_cornerOf (M := M1) hB7.1  x9 (by omega) (by omega)) rfl okX12_cornerOf viX12_cornerOf lkX12_296 (s_54 hB7.1.1) cl_12 rfl (Nat.le_of_ble_eq_true rfl) ⟨rfl, rfl⟩ (Nat.le_of_ble_eq_true rfl) (Nat.le_of_ble_eq_true rfl) (Nat.le_of_ble_eq_true rfl) ?_
  rintro x12 _ ⟨rfl, h13, h14⟩
  refine vc_aload_n dX12_leadsOf_16 rfl ?_
  refine vc_iload_n dX12_leadsOf_17 rfl ?_
  refine vc_cVI dX12_leadsOf_18 (sfX12_facingOf (M := M1) hB7.1  t (by omega) (by omega)) rfl okX12_facingOf viX12_facingOf lkX12_308 (s_54 hB7.1.1) cl_12 rfl (Nat.le_of_ble_eq_true rfl) ⟨rfl, rfl⟩ (Nat.le_of_ble_eq_true rfl) (Nat.le_of_ble_eq_true rfl) (Nat.le_of_ble_eq_true rfl) ?_
  rintro x15 _ ⟨rfl, h16, h17⟩
  refine vc_cVU dX12_leadsOf_21 (sfX12_begin (M := M1) hB7.1  x12 x15 (by omega) (by omega) (by omega) (by omega)) rfl okX12_begin viX12_begin lkX12_367 (s_54 hB7.1.1) cl_12 rfl (Nat.le_of_ble_eq_true rfl) ⟨rfl, rfl⟩ (Nat.le_of_ble_eq_true rfl) (Nat.le_of_ble_eq_true rfl) (Nat.le_of_ble_eq_true rfl) ?_
  rintro M18 ⟨hB19, kp20, kp21, h22⟩
  have hB23 : BF fS M M18 := BF.go hB7 hB19
  have kp24 : mI M18 55 = mI M 55 := kp_go kp8 kp20
  refine vc_aload_n dX12_leadsOf_24 rfl ?_
  refine vc_iconst dX12_leadsOf_25 rfl ?_
  refine vc_putI dX12_leadsOf_26 (plX12_339 _ rfl) (s_54 hB23.1.1) rfl ?_
  have kp25 : mI (sI M18 54 30 (-1)) 55 = mI M 55 := (kp_sI kp24 rfl)
  have hB26 : BF fS M (sI M18 54 30 (-1)) := BF.w54_30 hB23 rfl
  refine vc_aload_n dX12_leadsOf_29 rfl ?_
  refine vc_iload_n dX12_leadsOf_30 rfl ?_
  have k27 : mI (sI M18 54 30 (-1)) 54 32 = mI M18 54 32 := rfl
  refine vc_cVI dX12_leadsOf_31 (sfX12_goAll (M := (sI M18 54 30 (-1))) hB26.1  s (by omega)) rfl okX12_goAll viX12_goAll lkX12_370 (s_54 hB26.1.1) cl_12 rfl (Nat.le_of_ble_eq_true rfl) ⟨rfl, rfl⟩ (Nat.le_of_ble_eq_true rfl) (Nat.le_of_ble_eq_true rfl) (Nat.le_of_ble_eq_true rfl) ?_
  rintro x28 M29 ⟨hB30, kp31, kp32, h33, h34, h35⟩
  have hB36 : BF fS M M29 := BF.go hB26 hB30
  have kp37 : mI M29 55 = mI M 55 := kp_go kp25 kp31
  refine vc_if_eq dX12_leadsOf_34 (fun h38 => ?_) (fun h38 => ?_)
  · refine vc_iconst dX12_leadsOf_44 rfl ?_
    refine vc_iret dX12_leadsOf_45 rfl (Nat.le_of_ble_eq_true rfl) (Nat.le_of_ble_eq_true rfl) ?_
    exact ⟨_, rfl, hB36, kp37, by omega, by omega⟩
  · refine vc_aload_n dX12_leadsOf_37 rfl ?_
    refine vc_getI dX12_leadsOf_38 flX12_321 (s_54 hB36.1.1) rfl ?_
    have k39 : 0 ≤ mI M29 54 24 ∧ mI M29 54 24 ≤ 15 := b54_24 (M := M29) hB36.1
    refine vc_goto dX12_leadsOf_41 ?_
    refine vc_iret dX12_leadsOf_45 rfl (Nat.le_of_ble_eq_true rfl) (Nat.le_of_ble_eq_true rfl) ?_
    exact ⟨_, rfl, hB36, kp37, by omega, by omega⟩

set_option maxRecDepth 8000 in
theorem aB_sh {M : Mem} (h : Box M) {x : Int} (h1 : 259 ≤ x) (h2 : x + 11 < 589) {y : Int} (hy : y = x + 11) : aB x.toNat (mI M 55 y.toNat) := by
  subst hy
  obtain ⟨-, -, -, -, -, -, -, -, -, -, -, -, -, -, -, a, b, c⟩ := h.2.1 55 (x + 11).toNat
  unfold aB
  refine ⟨?_, ?_, ?_, ?_, ?_, ?_, ?_, ?_, ?_, ?_, ?_, ?_, ?_, ?_, ?_, ?_, ?_, ?_⟩
  · intros; exfalso; omega
  · intros; exfalso; omega
  · intros; exfalso; omega
  · intros; exfalso; omega
  · intros; exfalso; omega
  · intros; exfalso; omega
  · intros; exfalso; omega
  · intros; exfalso; omega
  · intros; exfalso; omega
  · intros; exfalso; omega
  · intros; exfalso; omega
  · intros; exfalso; omega
  · intros; exfalso; omega
  · intros; exfalso; omega
  · intros; exfalso; omega
  · intro q1 q2 q3; exact a (by omega) (by omega) (by omega)
  · intro q1 q2 q3; exact b (by omega) (by omega) (by omega)
  · intro q1 q2 q3; exact c (by omega) (by omega) (by omega)
theorem aB_wk {M : Mem} (h : Box M) {x k : Int} (h1 : 259 ≤ x) (h2 : x + 10 < 589) (h3 : (x - 259) % 11 = 0) (k0 : 0 ≤ k) (k1 : k ≤ 2) {y z : Int} (hy : y = x + 1 + k) (hz : z = 256 + k) : aB y.toNat (mI M 55 z.toNat) := by
  subst hy; subst hz
  have q1 := b55_256 h
  have q2 := b55_257 h
  unfold aB
  rcases (by omega : k = 0 ∨ k = 1 ∨ k = 2) with rfl | rfl | rfl
  · refine ⟨?_, ?_, ?_, ?_, ?_, ?_, ?_, ?_, ?_, ?_, ?_, ?_, ?_, ?_, ?_, ?_, ?_, ?_⟩ <;> intros <;> first | (exfalso; omega) | exact q1
  · refine ⟨?_, ?_, ?_, ?_, ?_, ?_, ?_, ?_, ?_, ?_, ?_, ?_, ?_, ?_, ?_, ?_, ?_, ?_⟩ <;> intros <;> first | (exfalso; omega) | exact q2
  · refine ⟨?_, ?_, ?_, ?_, ?_, ?_, ?_, ?_, ?_, ?_, ?_, ?_, ?_, ?_, ?_, ?_, ?_, ?_⟩ <;> intros <;> (exfalso; omega)
theorem aB_kw {M : Mem} (h : Box M) {x k : Int} (h1 : 259 ≤ x) (h2 : x + 10 < 589) (h3 : (x - 259) % 11 = 0) (k0 : 0 ≤ k) (k1 : k ≤ 2) {y z : Int} (hy : y = x + 1 + k) (hz : z = 256 + k) : aB z.toNat (mI M 55 y.toNat) := by
  subst hy; subst hz
  obtain ⟨-, -, -, -, -, -, -, -, -, -, -, -, -, -, -, a, b, c⟩ := h.2.1 55 (x + 1 + k).toNat
  unfold aB
  rcases (by omega : k = 0 ∨ k = 1 ∨ k = 2) with rfl | rfl | rfl
  · refine ⟨?_, ?_, ?_, ?_, ?_, ?_, ?_, ?_, ?_, ?_, ?_, ?_, ?_, ?_, ?_, ?_, ?_, ?_⟩ <;> intros <;> first | (exfalso; omega) | exact a (by omega) (by omega) (by omega)
  · refine ⟨?_, ?_, ?_, ?_, ?_, ?_, ?_, ?_, ?_, ?_, ?_, ?_, ?_, ?_, ?_, ?_, ?_, ?_⟩ <;> intros <;> first | (exfalso; omega) | exact b (by omega) (by omega) (by omega)
  · refine ⟨?_, ?_, ?_, ?_, ?_, ?_, ?_, ?_, ?_, ?_, ?_, ?_, ?_, ?_, ?_, ?_, ?_, ?_⟩ <;> intros <;> (exfalso; omega)
theorem ba_x {M : Mem} (h : Box M) {x : Int} (h1 : 259 ≤ x) (h2 : x < 589) (h3 : (x - 259) % 11 = 10) : 0 ≤ mI M 55 x.toNat ∧ mI M 55 x.toNat ≤ 40025 := by
  obtain ⟨-, -, -, -, -, -, -, -, -, -, -, -, -, -, -, -, -, c⟩ := h.2.1 55 x.toNat
  exact c (by omega) (by omega) (by omega)
def FrS (M N : Mem) : Prop := ∀ j : Nat, j < 259 → j ≠ 7 → mI N 55 j = mI M 55 j
/-- so many streets lie ahead -/
def WK (f : Nat → Int) (d : Int) : Nat → Int → Prop
  | 0, _ => True
  | n + 1, c => 0 ≤ c ∧ c ≤ 15 ∧ 0 ≤ f ((((10 + (9 * c)) + 1) + d)).toNat ∧ WK f d n (f ((((10 + (9 * c)) + 1) + d)).toNat)
theorem WK_co {f g : Nat → Int} {d : Int} (h0 : 0 ≤ d) (h3 : d ≤ 3) (he : ∀ j : Nat, 10 ≤ j → j < 154 → g j = f j) : ∀ (n : Nat) (c : Int), WK f d n c → WK g d n c
  | 0, _, _ => trivial
  | n + 1, c, q => by
    have e := he ((((10 + (9 * c)) + 1) + d)).toNat (by have := q.1; omega) (by have := q.2.1; omega)
    refine ⟨q.1, q.2.1, by rw [e]; exact q.2.2.1, ?_⟩
    rw [e]
    exact WK_co h0 h3 he n _ q.2.2.2
