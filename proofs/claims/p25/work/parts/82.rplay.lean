/-! CONTRACTS of the reference: tellings gone, steps, plays (written by wip/p35/c82.py) -/
set_option maxRecDepth 4000 in
theorem sfX12_goAll {l : Launch} {M : Mem} (hB : Box M)  (s : Int) (p0 : 1 ≤ mI M 54 32) : Call l mdX12_goAll [aR 54, aI s] M (fun q N => ∃ r : Int, q = some (aI r) ∧ BF fS M N ∧ mI N 55 = mI M 55 ∧ mI N 57 = mI M 57 ∧ 0 ≤ r ∧ r ≤ 1 ∧ mI N 54 32 = mI M 54 32) := by
  have hB0 : BF fS M M := BF.start hB
  refine Call.of [some (aR 54), some (aI s), none] rfl (Nat.le_of_ble_eq_true rfl) rfl ?_
  refine vc_ok (fun hoM hoS hoL => ?_)
  have hr1 : -2147483648 ≤ s ∧ s < 2147483648 := hoL 1 _ rfl
  refine vc_iconst dX12_goAll_0 rfl ?_
  refine vc_istore_n dX12_goAll_1 (by decide) rfl (show _ = [some (aR 54), some (aI s), some (aI 0)] from rfl) ?_
  have lp2 : ∀ (n2 : Nat) (Mq2 : Mem) (v2 : Int), (BF fS M Mq2) → (mI Mq2 57 = mI M 57) → (mI Mq2 55 = mI M 55) → (0 ≤ v2) → (v2 ≤ 6) → (mI Mq2 54 32 = mI M 54 32) → (6 - v2).toNat < n2 → VC l mdX12_goAll 2 [some (aR 54), some (aI s), some (aI v2)] [] Mq2 0 0 (fun q N => ∃ r : Int, q = some (aI r) ∧ BF fS M N ∧ mI N 55 = mI M 55 ∧ mI N 57 = mI M 57 ∧ 0 ≤ r ∧ r ≤ 1 ∧ mI N 54 32 = mI M 54 32) := by
    intro n2
    induction n2 with
    | zero => intro Mq2 v2 hQ2 kp2_57 kp2_55 g2_2a g2_2b g2i0 hm2; exact absurd hm2 (Nat.not_lt_zero _)
    | succ n2 ih2 =>
      intro Mq2 v2 hQ2 kp2_57 kp2_55 g2_2a g2_2b g2i0 hm2
      refine vc_iload_n dX12_goAll_2 rfl ?_
      refine vc_aload_n dX12_goAll_3 rfl ?_
      refine vc_getI dX12_goAll_4 flX12_355 (s_54 hQ2.1.1) rfl ?_
      have k1 : 0 ≤ mI Mq2 54 32 ∧ mI Mq2 54 32 ≤ 6 := b54_32 (M := Mq2) hQ2.1
      refine vc_icmp_ge dX12_goAll_7 (fun h2 => ?_) (fun h2 => ?_)
      · refine vc_aload_n dX12_goAll_32 rfl ?_
        refine vc_getR dX12_goAll_33 flX12_42 (s_54 hQ2.1.1) rfl (r_54_31 hQ2.1.1) ?_
        refine vc_aload_n dX12_goAll_36 rfl ?_
        refine vc_getI dX12_goAll_37 flX12_355 (s_54 hQ2.1.1) rfl ?_
        refine vc_iconst dX12_goAll_40 rfl ?_
        refine vc_isubE dX12_goAll_41 (by omega) (by omega) ?_
        refine vc_iaload dX12_goAll_42 (s_63 hQ2.1.1) (by omega) (by omega) ?_
        refine vc_bipush dX12_goAll_43 rfl ?_
        refine vc_idiv dX12_goAll_45 (by omega) ?_
        refine vc_iconst dX12_goAll_46 rfl ?_
        refine vc_icmp_eq dX12_goAll_47 (fun h3 => ?_) (fun h3 => ?_)
        · refine vc_iconst dX12_goAll_57 rfl ?_
          refine vc_goto dX12_goAll_58 ?_
          refine vc_zret dX12_goAll_62 rfl (by first | decide | omega) (Nat.le_of_ble_eq_true rfl) (Nat.le_of_ble_eq_true rfl) ?_
          exact ⟨_, rfl, hQ2, kp2_55, kp2_57, by omega, by omega, by omega⟩
        · refine vc_aload_n dX12_goAll_50 rfl ?_
          refine vc_cVI dX12_goAll_51 (sfX12_goOn (M := Mq2) hQ2.1   ) rfl okX12_goOn viX12_goOn lkX12_348 (s_54 hQ2.1.1) cl_12 rfl (Nat.le_of_ble_eq_true rfl) ⟨rfl, rfl⟩ (Nat.le_of_ble_eq_true rfl) (Nat.le_of_ble_eq_true rfl) (Nat.le_of_ble_eq_true rfl) ?_
          rintro x4 M5 ⟨hB6, kp7, kp8, h9, h10, h11, h12⟩
          have hB13 : BF fS M M5 := BF.go hQ2 hB6
          have kp14 : mI M5 57 = mI M 57 := kp_go kp2_57 kp8
          have kp15 : mI M5 55 = mI M 55 := kp_go kp2_55 kp7
          refine vc_if_eq dX12_goAll_54 (fun h16 => ?_) (fun h16 => ?_)
          · refine vc_iconst dX12_goAll_61 rfl ?_
            refine vc_zret dX12_goAll_62 rfl (by first | decide | omega) (Nat.le_of_ble_eq_true rfl) (Nat.le_of_ble_eq_true rfl) ?_
            exact ⟨_, rfl, hB13, kp15, kp14, by omega, by omega, by omega⟩
          · refine vc_iconst dX12_goAll_57 rfl ?_
            refine vc_goto dX12_goAll_58 ?_
            refine vc_zret dX12_goAll_62 rfl (by first | decide | omega) (Nat.le_of_ble_eq_true rfl) (Nat.le_of_ble_eq_true rfl) ?_
            exact ⟨_, rfl, hB13, kp15, kp14, by omega, by omega, by omega⟩
      · refine vc_aload_n dX12_goAll_10 rfl ?_
        refine vc_aload_n dX12_goAll_11 rfl ?_
        refine vc_getR dX12_goAll_12 flX12_42 (s_54 hQ2.1.1) rfl (r_54_31 hQ2.1.1) ?_
        refine vc_iload_n dX12_goAll_15 rfl ?_
        refine vc_iaload dX12_goAll_16 (s_63 hQ2.1.1) (by omega) (by omega) ?_
        refine vc_iload_n dX12_goAll_17 rfl ?_
        refine vc_cVI dX12_goAll_18 (sfX12_goTurn (M := Mq2) hQ2.1  (mI Mq2 63 v2.toNat) s ) rfl okX12_goTurn viX12_goTurn lkX12_361 (s_54 hQ2.1.1) cl_12 rfl (Nat.le_of_ble_eq_true rfl) ⟨rfl, rfl⟩ (Nat.le_of_ble_eq_true rfl) (Nat.le_of_ble_eq_true rfl) (Nat.le_of_ble_eq_true rfl) ?_
        rintro x17 M18 ⟨hB19, kp20, kp21, h22, h23, h24⟩
        have hB25 : BF fS M M18 := BF.go hQ2 hB19
        have kp26 : mI M18 57 = mI M 57 := kp_go kp2_57 kp21
        have kp27 : mI M18 55 = mI M 55 := kp_go kp2_55 kp20
        refine vc_if_ne dX12_goAll_21 (fun h28 => ?_) (fun h28 => ?_)
        · refine vc_iincE dX12_goAll_26 rfl (by omega) (by omega) (by decide) rfl (show _ = [some (aR 54), some (aI s), some (aI (v2 + 1))] from rfl) ?_
          refine vc_goto dX12_goAll_29 ?_
          exact ih2 M18 (v2 + 1) hB25 kp26 kp27 (by omega) (by omega) (by omega) (by omega)
        · refine vc_iconst dX12_goAll_24 rfl ?_
          refine vc_zret dX12_goAll_25 rfl (by first | decide | omega) (Nat.le_of_ble_eq_true rfl) (Nat.le_of_ble_eq_true rfl) ?_
          exact ⟨_, rfl, hB25, kp27, kp26, by omega, by omega, by omega⟩
  exact lp2 _ M 0 hB0 rfl rfl (by omega) (by omega) (by omega) (Nat.lt_succ_self _)

set_option maxRecDepth 4000 in
theorem sfX12_leadsOf {l : Launch} {M : Mem} (hB : Box M)  (t : Int) (s : Int) (p0 : 0 ≤ t) (p1 : t ≤ 7) (p2 : t < mI M 55 3) : Call l mdX12_leadsOf [aR 54, aI t, aI s] M (fun q N => ∃ r : Int, q = some (aI r) ∧ BF fS M N ∧ mI N 55 = mI M 55 ∧ (-1) ≤ r ∧ r ≤ 15) := by
  have hB0 : BF fS M M := BF.start hB
  refine Call.of [some (aR 54), some (aI t), some (aI s)] rfl (Nat.le_of_ble_eq_true rfl) rfl ?_
  refine vc_ok (fun hoM hoS hoL => ?_)
  have hr2 : -2147483648 ≤ s ∧ s < 2147483648 := hoL 2 _ rfl
  have hcn := aB_cnt hB p0 p2
  refine vc_aload_n dX12_leadsOf_0 rfl ?_
  refine vc_iload_n dX12_leadsOf_1 rfl ?_
  refine vc_iconst dX12_leadsOf_2 rfl ?_
  refine vc_cVU dX12_leadsOf_3 (sfX12_takeTurns (M := M) hB0.1  t (-1) (by omega) (by omega)) rfl okX12_takeTurns viX12_takeTurns lkX12_364 (s_54 hB0.1.1) cl_12 rfl (Nat.le_of_ble_eq_true rfl) ⟨rfl, rfl⟩ (Nat.le_of_ble_eq_true rfl) (Nat.le_of_ble_eq_true rfl) (Nat.le_of_ble_eq_true rfl) ?_
  rintro M1 ⟨hB2, kp3, kp4, h5, h6⟩
  have hB7 : BF fS M M1 := BF.go hB0 hB2
  have kp8 : mI M1 55 = mI M 55 := kp_go rfl kp3
  refine vc_aload_n dX12_leadsOf_6 rfl ?_
  refine vc_aload_n dX12_leadsOf_7 rfl ?_
  refine vc_aload_n dX12_leadsOf_8 rfl ?_
  refine vc_iload_n dX12_leadsOf_9 rfl ?_
  refine vc_cVI dX12_leadsOf_10 (sfX12_tellerOf (M := M1) hB7.1  t (by omega) (by omega)) rfl okX12_tellerOf viX12_tellerOf lkX12_299 (s_54 hB7.1.1) cl_12 rfl (Nat.le_of_ble_eq_true rfl) ⟨rfl, rfl⟩ (Nat.le_of_ble_eq_true rfl) (Nat.le_of_ble_eq_true rfl) (Nat.le_of_ble_eq_true rfl) ?_
  rintro x9 _ ⟨rfl, h10, h11⟩
  refine vc_cVI dX12_leadsOf_13 (sfX12_cornerOf (M := M1) hB7.1  x9 (by omega) (by omega)) rfl okX12_cornerOf viX12_cornerOf lkX12_296 (s_54 hB7.1.1) cl_12 rfl (Nat.le_of_ble_eq_true rfl) ⟨rfl, rfl⟩ (Nat.le_of_ble_eq_true rfl) (Nat.le_of_ble_eq_true rfl) (Nat.le_of_ble_eq_true rfl) ?_
  rintro x12 _ ⟨rfl, h13, h14⟩
  refine vc_aload_n dX12_leadsOf_16 rfl ?_
  refine vc_iload_n dX12_leadsOf_17 rfl ?_
  refine vc_cVI dX12_leadsOf_18 (sfX12_facingOf (M := M1) hB7.1  t (by omega) (by omega)) rfl okX12_facingOf viX12_facingOf lkX12_308 (s_54 hB7.1.1) cl_12 rfl (Nat.le_of_ble_eq_true rfl) ⟨rfl, rfl⟩ (Nat.le_of_ble_eq_true rfl) (Nat.le_of_ble_eq_true rfl) (Nat.le_of_ble_eq_true rfl) ?_
  rintro x15 _ ⟨rfl, h16, h17⟩
  refine vc_cVU dX12_leadsOf_21 (sfX12_begin (M := M1) hB7.1  x12 x15 (by omega) (by omega) (by omega) (by omega)) rfl okX12_begin viX12_begin lkX12_367 (s_54 hB7.1.1) cl_12 rfl (Nat.le_of_ble_eq_true rfl) ⟨rfl, rfl⟩ (Nat.le_of_ble_eq_true rfl) (Nat.le_of_ble_eq_true rfl) (Nat.le_of_ble_eq_true rfl) ?_
  rintro M18 ⟨hB19, kp20, kp21, h22⟩
  have hB23 : BF fS M M18 := BF.go hB7 hB19
  have kp24 : mI M18 55 = mI M 55 := kp_go kp8 kp20
  refine vc_aload_n dX12_leadsOf_24 rfl ?_
  refine vc_iconst dX12_leadsOf_25 rfl ?_
  refine vc_putI dX12_leadsOf_26 (plX12_339 _ rfl) (s_54 hB23.1.1) rfl ?_
  have kp25 : mI (sI M18 54 30 (-1)) 55 = mI M 55 := (kp_sI kp24 rfl)
  have hB26 : BF fS M (sI M18 54 30 (-1)) := BF.w54_30 hB23 rfl
  refine vc_aload_n dX12_leadsOf_29 rfl ?_
  refine vc_iload_n dX12_leadsOf_30 rfl ?_
  have k27 : mI (sI M18 54 30 (-1)) 54 32 = mI M18 54 32 := rfl
  refine vc_cVI dX12_leadsOf_31 (sfX12_goAll (M := (sI M18 54 30 (-1))) hB26.1  s (by omega)) rfl okX12_goAll viX12_goAll lkX12_370 (s_54 hB26.1.1) cl_12 rfl (Nat.le_of_ble_eq_true rfl) ⟨rfl, rfl⟩ (Nat.le_of_ble_eq_true rfl) (Nat.le_of_ble_eq_true rfl) (Nat.le_of_ble_eq_true rfl) ?_
  rintro x28 M29 ⟨hB30, kp31, kp32, h33, h34, h35⟩
  have hB36 : BF fS M M29 := BF.go hB26 hB30
  have kp37 : mI M29 55 = mI M 55 := kp_go kp25 kp31
  refine vc_if_eq dX12_leadsOf_34 (fun h38 => ?_) (fun h38 => ?_)
  · refine vc_iconst dX12_leadsOf_44 rfl ?_
    refine vc_iret dX12_leadsOf_45 rfl (Nat.le_of_ble_eq_true rfl) (Nat.le_of_ble_eq_true rfl) ?_
    exact ⟨_, rfl, hB36, kp37, by omega, by omega⟩
  · refine vc_aload_n dX12_leadsOf_37 rfl ?_
    refine vc_getI dX12_leadsOf_38 flX12_321 (s_54 hB36.1.1) rfl ?_
    have k39 : 0 ≤ mI M29 54 24 ∧ mI M29 54 24 ≤ 15 := b54_24 (M := M29) hB36.1
    refine vc_goto dX12_leadsOf_41 ?_
    refine vc_iret dX12_leadsOf_45 rfl (Nat.le_of_ble_eq_true rfl) (Nat.le_of_ble_eq_true rfl) ?_
    exact ⟨_, rfl, hB36, kp37, by omega, by omega⟩

set_option maxRecDepth 8000 in
theorem aB_sh {M : Mem} (h : Box M) {x : Int} (h1 : 259 ≤ x) (h2 : x + 11 < 589) {y : Int} (hy : y = x + 11) : aB x.toNat (mI M 55 y.toNat) := by
  subst hy
  obtain ⟨-, -, -, -, -, -, -, -, -, -, -, -, -, -, -, a, b, c⟩ := h.2.1 55 (x + 11).toNat
  unfold aB
  refine ⟨?_, ?_, ?_, ?_, ?_, ?_, ?_, ?_, ?_, ?_, ?_, ?_, ?_, ?_, ?_, ?_, ?_, ?_⟩
  · intros; exfalso; omega
  · intros; exfalso; omega
  · intros; exfalso; omega
  · intros; exfalso; omega
  · intros; exfalso; omega
  · intros; exfalso; omega
  · intros; exfalso; omega
  · intros; exfalso; omega
  · intros; exfalso; omega
  · intros; exfalso; omega
  · intros; exfalso; omega
  · intros; exfalso; omega
  · intros; exfalso; omega
  · intros; exfalso; omega
  · intros; exfalso; omega
  · intro q1 q2 q3; exact a (by omega) (by omega) (by omega)
  · intro q1 q2 q3; exact b (by omega) (by omega) (by omega)
  · intro q1 q2 q3; exact c (by omega) (by omega) (by omega)
theorem aB_wk {M : Mem} (h : Box M) {x k : Int} (h1 : 259 ≤ x) (h2 : x + 10 < 589) (h3 : (x - 259) % 11 = 0) (k0 : 0 ≤ k) (k1 : k ≤ 2) {y z : Int} (hy : y = x + 1 + k) (hz : z = 256 + k) : aB y.toNat (mI M 55 z.toNat) := by
  subst hy; subst hz
  have q1 := b55_256 h
  have q2 := b55_257 h
  unfold aB
  rcases (by omega : k = 0 ∨ k = 1 ∨ k = 2) with rfl | rfl | rfl
  · refine ⟨?_, ?_, ?_, ?_, ?_, ?_, ?_, ?_, ?_, ?_, ?_, ?_, ?_, ?_, ?_, ?_, ?_, ?_⟩ <;> intros <;> first | (exfalso; omega) | exact q1
  · refine ⟨?_, ?_, ?_, ?_, ?_, ?_, ?_, ?_, ?_, ?_, ?_, ?_, ?_, ?_, ?_, ?_, ?_, ?_⟩ <;> intros <;> first | (exfalso; omega) | exact q2
  · refine ⟨?_, ?_, ?_, ?_, ?_, ?_, ?_, ?_, ?_, ?_, ?_, ?_, ?_, ?_, ?_, ?_, ?_, ?_⟩ <;> intros <;> (exfalso; omega)
theorem aB_kw {M : Mem} (h : Box M) {x k : Int} (h1 : 259 ≤ x) (h2 : x + 10 < 589) (h3 : (x - 259) % 11 = 0) (k0 : 0 ≤ k) (k1 : k ≤ 2) {y z : Int} (hy : y = x + 1 + k) (hz : z = 256 + k) : aB z.toNat (mI M 55 y.toNat) := by
  subst hy; subst hz
  obtain ⟨-, -, -, -, -, -, -, -, -, -, -, -, -, -, -, a, b, c⟩ := h.2.1 55 (x + 1 + k).toNat
  unfold aB
  rcases (by omega : k = 0 ∨ k = 1 ∨ k = 2) with rfl | rfl | rfl
  · refine ⟨?_, ?_, ?_, ?_, ?_, ?_, ?_, ?_, ?_, ?_, ?_, ?_, ?_, ?_, ?_, ?_, ?_, ?_⟩ <;> intros <;> first | (exfalso; omega) | exact a (by omega) (by omega) (by omega)
  · refine ⟨?_, ?_, ?_, ?_, ?_, ?_, ?_, ?_, ?_, ?_, ?_, ?_, ?_, ?_, ?_, ?_, ?_, ?_⟩ <;> intros <;> first | (exfalso; omega) | exact b (by omega) (by omega) (by omega)
  · refine ⟨?_, ?_, ?_, ?_, ?_, ?_, ?_, ?_, ?_, ?_, ?_, ?_, ?_, ?_, ?_, ?_, ?_, ?_⟩ <;> intros <;> (exfalso; omega)
theorem ba_x {M : Mem} (h : Box M) {x : Int} (h1 : 259 ≤ x) (h2 : x < 589) (h3 : (x - 259) % 11 = 10) : 0 ≤ mI M 55 x.toNat ∧ mI M 55 x.toNat ≤ 40025 := by
  obtain ⟨-, -, -, -, -, -, -, -, -, -, -, -, -, -, -, -, -, c⟩ := h.2.1 55 x.toNat
  exact c (by omega) (by omega) (by omega)
def FrS (M N : Mem) : Prop := ∀ j : Nat, j < 259 → j ≠ 7 → mI N 55 j = mI M 55 j
set_option maxRecDepth 4000 in
theorem sfX12_keep {l : Launch} {M : Mem} (hB : Box M)    : Call l mdX12_keep [aR 54] M (fun q N => q = none ∧ BF fR M N ∧ mI N 57 = mI M 57 ∧ (∀ j : Nat, j < 259 → j ≠ 7 → mI N 55 j = mI M 55 j)) := by
  have hB0 : BF fR M M := BF.start hB
  refine Call.of [some (aR 54), none, none] rfl (Nat.le_of_ble_eq_true rfl) rfl ?_
  refine vc_aload_n dX12_keep_0 rfl ?_
  refine vc_getR dX12_keep_1 flX12_7 (s_54 hB0.1.1) rfl (r_54_0 hB0.1.1) ?_
  refine vc_bipush dX12_keep_4 rfl ?_
  refine vc_iaload dX12_keep_6 (s_55 hB0.1.1) (by omega) (by omega) ?_
  refine vc_topI (mI M 55 7) rfl ?_
  have k1 : 0 ≤ mI M 55 7 ∧ mI M 55 7 ≤ 30 := b55_7 (M := M) hB0.1
  refine vc_bipush dX12_keep_7 rfl ?_
  refine vc_icmp_ne dX12_keep_9 (fun h2 => ?_) (fun h2 => ?_)
  · refine vc_sipush dX12_keep_58 rfl ?_
    refine vc_bipush dX12_keep_61 rfl ?_
    refine vc_aload_n dX12_keep_63 rfl ?_
    refine vc_getR dX12_keep_64 flX12_7 (s_54 hB0.1.1) rfl (r_54_0 hB0.1.1) ?_
    refine vc_bipush dX12_keep_67 rfl ?_
    refine vc_iaload dX12_keep_69 (s_55 hB0.1.1) (by omega) (by omega) ?_
    refine vc_topI (mI M 55 7) rfl ?_
    refine vc_imulE dX12_keep_70 (by omega) (by omega) ?_
    refine vc_iaddE dX12_keep_71 (by omega) (by omega) ?_
    refine vc_nameI (fun x3 ex3 => ?_)
    refine vc_istore_n dX12_keep_72 (by decide) rfl (show _ = [some (aR 54), some (aI x3), none] from rfl) ?_
    refine vc_aload_n dX12_keep_73 rfl ?_
    refine vc_getR dX12_keep_74 flX12_7 (s_54 hB0.1.1) rfl (r_54_0 hB0.1.1) ?_
    refine vc_iload_n dX12_keep_77 rfl ?_
    refine vc_aload_n dX12_keep_78 rfl ?_
    refine vc_getR dX12_keep_79 flX12_7 (s_54 hB0.1.1) rfl (r_54_0 hB0.1.1) ?_
    refine vc_iconst dX12_keep_82 rfl ?_
    refine vc_iaload dX12_keep_83 (s_55 hB0.1.1) (by omega) (by omega) ?_
    refine vc_topI (mI M 55 2) rfl ?_
    have k4 : 0 ≤ mI M 55 2 ∧ mI M 55 2 ≤ 6 := b55_2 (M := M) hB0.1
    refine vc_iastore dX12_keep_84 (s_55 hB0.1.1) (by omega) (by omega) ?_
    have kp5 : mI (sI M 55 x3.toNat (mI M 55 2)) 57 = mI M 57 := (kp_sI rfl rfl)
    have hB6 : BF fR M (sI M 55 x3.toNat (mI M 55 2)) := BF.a (x := x3) hB0 (by omega) (by omega) (by unfold aB; refine ⟨?_, ?_, ?_, ?_, ?_, ?_, ?_, ?_, ?_, ?_, ?_, ?_, ?_, ?_, ?_, ?_, ?_, ?_⟩ <;> intros <;> omega) (by omega) (by omega) (by omega) (by omega) (by omega) (by omega) fR_55
    refine vc_iconst dX12_keep_85 rfl ?_
    refine vc_istore_n dX12_keep_86 (by decide) rfl (show _ = [some (aR 54), some (aI x3), some (aI 0)] from rfl) ?_
    have lp87 : ∀ (n87 : Nat) (Mq87 : Mem) (v2 : Int), (BF fR M Mq87) → (mI Mq87 57 = mI M 57) → (0 ≤ v2) → (v2 ≤ 3) → (∀ j : Nat, j < 259 → j ≠ 7 → mI Mq87 55 j = mI M 55 j) → (mI Mq87 55 7 ≤ 29) → (3 - v2).toNat < n87 → VC l mdX12_keep 87 [some (aR 54), some (aI x3), some (aI v2)] [] Mq87 0 0 (fun q N => q = none ∧ BF fR M N ∧ mI N 57 = mI M 57 ∧ (∀ j : Nat, j < 259 → j ≠ 7 → mI N 55 j = mI M 55 j)) := by
      intro n87
      induction n87 with
      | zero => intro Mq87 v2 hQ87 kp87_57 g87_2a g87_2b g87i0 g87i1 hm87; exact absurd hm87 (Nat.not_lt_zero _)
      | succ n87 ih87 =>
        intro Mq87 v2 hQ87 kp87_57 g87_2a g87_2b g87i0 g87i1 hm87
        refine vc_iload_n dX12_keep_87 rfl ?_
        refine vc_iconst dX12_keep_88 rfl ?_
        refine vc_icmp_ge dX12_keep_89 (fun h7 => ?_) (fun h7 => ?_)
        · refine vc_iconst dX12_keep_118 rfl ?_
          refine vc_istore_n dX12_keep_119 (by decide) rfl (show _ = [some (aR 54), some (aI x3), some (aI 0)] from rfl) ?_
          have lp120 : ∀ (n120 : Nat) (Mq120 : Mem) (v2i : Int), (BF fR M Mq120) → (mI Mq120 57 = mI M 57) → (0 ≤ v2i) → (v2i ≤ 6) → (∀ j : Nat, j < 259 → j ≠ 7 → mI Mq120 55 j = mI M 55 j) → (mI Mq120 55 7 ≤ 29) → (6 - v2i).toNat < n120 → VC l mdX12_keep 120 [some (aR 54), some (aI x3), some (aI v2i)] [] Mq120 0 0 (fun q N => q = none ∧ BF fR M N ∧ mI N 57 = mI M 57 ∧ (∀ j : Nat, j < 259 → j ≠ 7 → mI N 55 j = mI M 55 j)) := by
            intro n120
            induction n120 with
            | zero => intro Mq120 v2i hQ120 kp120_57 g120_2a g120_2b g120i0 g120i1 hm120; exact absurd hm120 (Nat.not_lt_zero _)
            | succ n120 ih120 =>
              intro Mq120 v2i hQ120 kp120_57 g120_2a g120_2b g120i0 g120i1 hm120
              refine vc_iload_n dX12_keep_120 rfl ?_
              refine vc_bipush dX12_keep_121 rfl ?_
              refine vc_icmp_ge dX12_keep_123 (fun h8 => ?_) (fun h8 => ?_)
              · refine vc_aload_n dX12_keep_156 rfl ?_
                refine vc_getR dX12_keep_157 flX12_7 (s_54 hQ120.1.1) rfl (r_54_0 hQ120.1.1) ?_
                refine vc_iload_n dX12_keep_160 rfl ?_
                refine vc_bipush dX12_keep_161 rfl ?_
                refine vc_iaddE dX12_keep_163 (by omega) (by omega) ?_
                refine vc_aload_n dX12_keep_164 rfl ?_
                refine vc_getR dX12_keep_165 flX12_7 (s_54 hQ120.1.1) rfl (r_54_0 hQ120.1.1) ?_
                refine vc_iconst dX12_keep_168 rfl ?_
                refine vc_iaload dX12_keep_169 (s_55 hQ120.1.1) (by omega) (by omega) ?_
                refine vc_topI (mI Mq120 55 4) rfl ?_
                have k9 : 0 ≤ mI Mq120 55 4 ∧ mI Mq120 55 4 ≤ 40025 := b55_4 (M := Mq120) hQ120.1
                refine vc_iastore dX12_keep_170 (s_55 hQ120.1.1) (by omega) (by omega) ?_
                have kp10 : mI (sI Mq120 55 ((x3 + 10).toNat) (mI Mq120 55 4)) 57 = mI M 57 := (kp_sI kp120_57 rfl)
                have hB11 : BF fR M (sI Mq120 55 ((x3 + 10).toNat) (mI Mq120 55 4)) := BF.a (x := x3 + 10) hQ120 (by omega) (by omega) (by unfold aB; refine ⟨?_, ?_, ?_, ?_, ?_, ?_, ?_, ?_, ?_, ?_, ?_, ?_, ?_, ?_, ?_, ?_, ?_, ?_⟩ <;> intros <;> omega) (by omega) (by omega) (by omega) (by omega) (by omega) (by omega) fR_55
                refine vc_aload_n dX12_keep_171 rfl ?_
                refine vc_getR dX12_keep_172 flX12_7 (s_54 hB11.1.1) rfl (r_54_0 hB11.1.1) ?_
                refine vc_bipush dX12_keep_175 rfl ?_
                refine vc_dup2 dX12_keep_177 rfl rfl ?_
                refine vc_iaload dX12_keep_178 (s_55 hB11.1.1) (by omega) (by omega) ?_
                refine vc_topI (mI (sI Mq120 55 ((x3 + 10).toNat) (mI Mq120 55 4)) 55 7) rfl ?_
                have k12 : mI (sI Mq120 55 ((x3 + 10).toNat) (mI Mq120 55 4)) 55 7 = mI Mq120 55 7 := by repeat rw [mI_sI, if_neg (by omega)]
                have k13 : 0 ≤ mI (sI Mq120 55 ((x3 + 10).toNat) (mI Mq120 55 4)) 55 7 ∧ mI (sI Mq120 55 ((x3 + 10).toNat) (mI Mq120 55 4)) 55 7 ≤ 30 := b55_7 (M := (sI Mq120 55 ((x3 + 10).toNat) (mI Mq120 55 4))) hB11.1
                refine vc_iconst dX12_keep_179 rfl ?_
                refine vc_iaddE dX12_keep_180 (by omega) (by omega) ?_
                refine vc_iastore dX12_keep_181 (s_55 hB11.1.1) (by omega) (by omega) ?_
                refine vc_mem (sI (sI Mq120 55 ((x3 + 10).toNat) (mI Mq120 55 4)) 55 7 ((mI (sI Mq120 55 ((x3 + 10).toNat) (mI Mq120 55 4)) 55 7) + 1)) rfl ?_
                have kp14 : mI (sI (sI Mq120 55 ((x3 + 10).toNat) (mI Mq120 55 4)) 55 7 ((mI (sI Mq120 55 ((x3 + 10).toNat) (mI Mq120 55 4)) 55 7) + 1)) 57 = mI M 57 := (kp_sI kp10 rfl)
                have hB15 : BF fR M (sI (sI Mq120 55 ((x3 + 10).toNat) (mI Mq120 55 4)) 55 7 ((mI (sI Mq120 55 ((x3 + 10).toNat) (mI Mq120 55 4)) 55 7) + 1)) := BF.a (x := 7) hB11 (by omega) (by omega) (by unfold aB; refine ⟨?_, ?_, ?_, ?_, ?_, ?_, ?_, ?_, ?_, ?_, ?_, ?_, ?_, ?_, ?_, ?_, ?_, ?_⟩ <;> intros <;> omega) (by omega) (by omega) (by omega) (by omega) (by omega) (by omega) fR_55
                refine vc_vret dX12_keep_182 rfl (Nat.le_of_ble_eq_true rfl) (Nat.le_of_ble_eq_true rfl) ?_
                exact ⟨rfl, hB15, kp14, by intro j hj hj7; (repeat rw [mI_sI, if_neg (by omega)]); first | done | rfl | exact g120i0 j hj hj7⟩
              · refine vc_aload_n dX12_keep_126 rfl ?_
                refine vc_getR dX12_keep_127 flX12_7 (s_54 hQ120.1.1) rfl (r_54_0 hQ120.1.1) ?_
                refine vc_iload_n dX12_keep_130 rfl ?_
                refine vc_iconst dX12_keep_131 rfl ?_
                refine vc_iaddE dX12_keep_132 (by omega) (by omega) ?_
                refine vc_iload_n dX12_keep_133 rfl ?_
                refine vc_iaddE dX12_keep_134 (by omega) (by omega) ?_
                refine vc_aload_n dX12_keep_135 rfl ?_
                refine vc_getR dX12_keep_136 flX12_7 (s_54 hQ120.1.1) rfl (r_54_0 hQ120.1.1) ?_
                refine vc_sipush dX12_keep_139 rfl ?_
                refine vc_iconst dX12_keep_142 rfl ?_
                refine vc_iload_n dX12_keep_143 rfl ?_
                refine vc_imulE dX12_keep_144 (by omega) (by omega) ?_
                refine vc_iaddE dX12_keep_145 (by omega) (by omega) ?_
                refine vc_iconst dX12_keep_146 rfl ?_
                refine vc_iaddE dX12_keep_147 (by omega) (by omega) ?_
                refine vc_iaload dX12_keep_148 (s_55 hQ120.1.1) (by omega) (by omega) ?_
                refine vc_iastore dX12_keep_149 (s_55 hQ120.1.1) (by omega) (by omega) ?_
                have kp16 : mI (sI Mq120 55 (((x3 + 4) + v2i).toNat) (mI Mq120 55 (((154 + (5 * v2i)) + 4).toNat))) 57 = mI M 57 := (kp_sI kp120_57 rfl)
                have hB17 : BF fR M (sI Mq120 55 (((x3 + 4) + v2i).toNat) (mI Mq120 55 (((154 + (5 * v2i)) + 4).toNat))) := BF.a (x := (x3 + 4) + v2i) hQ120 (by omega) (by omega) (by unfold aB; refine ⟨?_, ?_, ?_, ?_, ?_, ?_, ?_, ?_, ?_, ?_, ?_, ?_, ?_, ?_, ?_, ?_, ?_, ?_⟩ <;> intros <;> omega) (by omega) (by omega) (by omega) (by omega) (by omega) (by omega) fR_55
                refine vc_iincE dX12_keep_150 rfl (by omega) (by omega) (by decide) rfl (show _ = [some (aR 54), some (aI x3), some (aI (v2i + 1))] from rfl) ?_
                refine vc_goto dX12_keep_153 ?_
                exact ih120 (sI Mq120 55 (((x3 + 4) + v2i).toNat) (mI Mq120 55 (((154 + (5 * v2i)) + 4).toNat))) (v2i + 1) hB17 kp16 (by omega) (by omega) (by intro j hj hj7; (repeat rw [mI_sI, if_neg (by omega)]); first | done | rfl | exact g120i0 j hj hj7 | exact g87i0 j hj hj7) (by ((repeat rw [mI_sI, if_neg (by omega)]); try omega)) (by omega)
          exact lp120 _ Mq87 0 hQ87 kp87_57 (by omega) (by omega) (by intro j hj hj7; (repeat rw [mI_sI, if_neg (by omega)]); first | done | rfl | exact g120i0 j hj hj7 | exact g87i0 j hj hj7) (by ((repeat rw [mI_sI, if_neg (by omega)]); try omega)) (Nat.lt_succ_self _)
        · refine vc_aload_n dX12_keep_92 rfl ?_
          refine vc_getR dX12_keep_93 flX12_7 (s_54 hQ87.1.1) rfl (r_54_0 hQ87.1.1) ?_
          refine vc_iload_n dX12_keep_96 rfl ?_
          refine vc_iconst dX12_keep_97 rfl ?_
          refine vc_iaddE dX12_keep_98 (by omega) (by omega) ?_
          refine vc_iload_n dX12_keep_99 rfl ?_
          refine vc_iaddE dX12_keep_100 (by omega) (by omega) ?_
          refine vc_aload_n dX12_keep_101 rfl ?_
          refine vc_getR dX12_keep_102 flX12_7 (s_54 hQ87.1.1) rfl (r_54_0 hQ87.1.1) ?_
          refine vc_sipush dX12_keep_105 rfl ?_
          refine vc_iload_n dX12_keep_108 rfl ?_
          refine vc_iaddE dX12_keep_109 (by omega) (by omega) ?_
          refine vc_iaload dX12_keep_110 (s_55 hQ87.1.1) (by omega) (by omega) ?_
          refine vc_iastore dX12_keep_111 (s_55 hQ87.1.1) (by omega) (by omega) ?_
          have kp18 : mI (sI Mq87 55 (((x3 + 1) + v2).toNat) (mI Mq87 55 ((256 + v2).toNat))) 57 = mI M 57 := (kp_sI kp87_57 rfl)
          have hB19 : BF fR M (sI Mq87 55 (((x3 + 1) + v2).toNat) (mI Mq87 55 ((256 + v2).toNat))) := BF.a (x := (x3 + 1) + v2) hQ87 (by omega) (by omega) (aB_wk (x := x3) (k := v2) hQ87.1 (by omega) (by omega) (by omega) g87_2a (by omega) (by omega) (by omega)) (by omega) (by omega) (by omega) (by omega) (by omega) (by omega) fR_55
          refine vc_iincE dX12_keep_112 rfl (by omega) (by omega) (by decide) rfl (show _ = [some (aR 54), some (aI x3), some (aI (v2 + 1))] from rfl) ?_
          refine vc_goto dX12_keep_115 ?_
          exact ih87 (sI Mq87 55 (((x3 + 1) + v2).toNat) (mI Mq87 55 ((256 + v2).toNat))) (v2 + 1) hB19 kp18 (by omega) (by omega) (by intro j hj hj7; (repeat rw [mI_sI, if_neg (by omega)]); first | done | rfl | exact g87i0 j hj hj7 | exact g14i0 j hj) (by ((repeat rw [mI_sI, if_neg (by omega)]); first | done | omega | (rw [mI_sI, if_pos ⟨rfl, rfl⟩]; omega))) (by omega)
    exact lp87 _ (sI M 55 x3.toNat (mI M 55 2)) 0 hB6 kp5 (by omega) (by omega) (by intro j hj hj7; (repeat rw [mI_sI, if_neg (by omega)]); first | done | rfl | exact g87i0 j hj hj7 | exact g14i0 j hj) (by ((repeat rw [mI_sI, if_neg (by omega)]); first | done | omega | (rw [mI_sI, if_pos ⟨rfl, rfl⟩]; omega))) (Nat.lt_succ_self _)
  · refine vc_iconst dX12_keep_12 rfl ?_
    refine vc_istore_n dX12_keep_13 (by decide) rfl (show _ = [some (aR 54), some (aI 0), none] from rfl) ?_
    have lp14 : ∀ (n14 : Nat) (Mq14 : Mem) (v1 : Int), (BF fR M Mq14) → (mI Mq14 57 = mI M 57) → (0 ≤ v1) → (v1 ≤ 319) → (∀ j : Nat, j < 259 → mI Mq14 55 j = mI M 55 j) → (319 - v1).toNat < n14 → VC l mdX12_keep 14 [some (aR 54), some (aI v1), none] [] Mq14 0 0 (fun q N => q = none ∧ BF fR M N ∧ mI N 57 = mI M 57 ∧ (∀ j : Nat, j < 259 → j ≠ 7 → mI N 55 j = mI M 55 j)) := by
      intro n14
      induction n14 with
      | zero => intro Mq14 v1 hQ14 kp14_57 g14_1a g14_1b g14i0 hm14; exact absurd hm14 (Nat.not_lt_zero _)
      | succ n14 ih14 =>
        intro Mq14 v1 hQ14 kp14_57 g14_1a g14_1b g14i0 hm14
        refine vc_iload_n dX12_keep_14 rfl ?_
        refine vc_sipush dX12_keep_15 rfl ?_
        refine vc_icmp_ge dX12_keep_18 (fun h20 => ?_) (fun h20 => ?_)
        · have e7 := g14i0 7 (by decide)
          refine vc_aload_n dX12_keep_47 rfl ?_
          refine vc_getR dX12_keep_48 flX12_7 (s_54 hQ14.1.1) rfl (r_54_0 hQ14.1.1) ?_
          refine vc_bipush dX12_keep_51 rfl ?_
          refine vc_dup2 dX12_keep_53 rfl rfl ?_
          refine vc_iaload dX12_keep_54 (s_55 hQ14.1.1) (by omega) (by omega) ?_
          refine vc_topI (mI Mq14 55 7) rfl ?_
          have k21 : 0 ≤ mI Mq14 55 7 ∧ mI Mq14 55 7 ≤ 30 := b55_7 (M := Mq14) hQ14.1
          refine vc_iconst dX12_keep_55 rfl ?_
          refine vc_isubE dX12_keep_56 (by omega) (by omega) ?_
          refine vc_iastore dX12_keep_57 (s_55 hQ14.1.1) (by omega) (by omega) ?_
          refine vc_mem (sI Mq14 55 7 ((mI Mq14 55 7) - 1)) rfl ?_
          have kp22 : mI (sI Mq14 55 7 ((mI Mq14 55 7) - 1)) 57 = mI M 57 := (kp_sI kp14_57 rfl)
          have hB23 : BF fR M (sI Mq14 55 7 ((mI Mq14 55 7) - 1)) := BF.a (x := 7) hQ14 (by omega) (by omega) (by unfold aB; refine ⟨?_, ?_, ?_, ?_, ?_, ?_, ?_, ?_, ?_, ?_, ?_, ?_, ?_, ?_, ?_, ?_, ?_, ?_⟩ <;> intros <;> omega) (by omega) (by omega) (by omega) (by omega) (by omega) (by omega) fR_55
          refine vc_sipush dX12_keep_58 rfl ?_
          refine vc_bipush dX12_keep_61 rfl ?_
          refine vc_aload_n dX12_keep_63 rfl ?_
          refine vc_getR dX12_keep_64 flX12_7 (s_54 hB23.1.1) rfl (r_54_0 hB23.1.1) ?_
          refine vc_bipush dX12_keep_67 rfl ?_
          refine vc_iaload dX12_keep_69 (s_55 hB23.1.1) (by omega) (by omega) ?_
          refine vc_topI ((mI Mq14 55 7) - 1) rfl ?_
          refine vc_imulE dX12_keep_70 (by omega) (by omega) ?_
          refine vc_iaddE dX12_keep_71 (by omega) (by omega) ?_
          refine vc_nameI (fun x24 ex24 => ?_)
          refine vc_istore_n dX12_keep_72 (by decide) rfl (show _ = [some (aR 54), some (aI x24), none] from rfl) ?_
          refine vc_aload_n dX12_keep_73 rfl ?_
          refine vc_getR dX12_keep_74 flX12_7 (s_54 hB23.1.1) rfl (r_54_0 hB23.1.1) ?_
          refine vc_iload_n dX12_keep_77 rfl ?_
          refine vc_aload_n dX12_keep_78 rfl ?_
          refine vc_getR dX12_keep_79 flX12_7 (s_54 hB23.1.1) rfl (r_54_0 hB23.1.1) ?_
          refine vc_iconst dX12_keep_82 rfl ?_
          refine vc_iaload dX12_keep_83 (s_55 hB23.1.1) (by omega) (by omega) ?_
          refine vc_topI (mI Mq14 55 2) rfl ?_
          have k25 : 0 ≤ mI Mq14 55 2 ∧ mI Mq14 55 2 ≤ 6 := b55_2 (M := (sI Mq14 55 7 ((mI Mq14 55 7) - 1))) hB23.1
          refine vc_iastore dX12_keep_84 (s_55 hB23.1.1) (by omega) (by omega) ?_
          have kp26 : mI (sI (sI Mq14 55 7 ((mI Mq14 55 7) - 1)) 55 x24.toNat (mI Mq14 55 2)) 57 = mI M 57 := (kp_sI kp22 rfl)
          have hB27 : BF fR M (sI (sI Mq14 55 7 ((mI Mq14 55 7) - 1)) 55 x24.toNat (mI Mq14 55 2)) := BF.a (x := x24) hB23 (by omega) (by omega) (by unfold aB; refine ⟨?_, ?_, ?_, ?_, ?_, ?_, ?_, ?_, ?_, ?_, ?_, ?_, ?_, ?_, ?_, ?_, ?_, ?_⟩ <;> intros <;> omega) (by omega) (by omega) (by omega) (by omega) (by omega) (by omega) fR_55
          refine vc_iconst dX12_keep_85 rfl ?_
          refine vc_istore_n dX12_keep_86 (by decide) rfl (show _ = [some (aR 54), some (aI x24), some (aI 0)] from rfl) ?_
          have lp87 : ∀ (n87 : Nat) (Mq87 : Mem) (v2 : Int), (BF fR M Mq87) → (mI Mq87 57 = mI M 57) → (0 ≤ v2) → (v2 ≤ 3) → (∀ j : Nat, j < 259 → j ≠ 7 → mI Mq87 55 j = mI M 55 j) → (mI Mq87 55 7 ≤ 29) → (3 - v2).toNat < n87 → VC l mdX12_keep 87 [some (aR 54), some (aI x24), some (aI v2)] [] Mq87 0 0 (fun q N => q = none ∧ BF fR M N ∧ mI N 57 = mI M 57 ∧ (∀ j : Nat, j < 259 → j ≠ 7 → mI N 55 j = mI M 55 j)) := by
            intro n87
            induction n87 with
            | zero => intro Mq87 v2 hQ87 kp87_57 g87_2a g87_2b g87i0 g87i1 hm87; exact absurd hm87 (Nat.not_lt_zero _)
            | succ n87 ih87 =>
              intro Mq87 v2 hQ87 kp87_57 g87_2a g87_2b g87i0 g87i1 hm87
              refine vc_iload_n dX12_keep_87 rfl ?_
              refine vc_iconst dX12_keep_88 rfl ?_
              refine vc_icmp_ge dX12_keep_89 (fun h28 => ?_) (fun h28 => ?_)
              · refine vc_iconst dX12_keep_118 rfl ?_
                refine vc_istore_n dX12_keep_119 (by decide) rfl (show _ = [some (aR 54), some (aI x24), some (aI 0)] from rfl) ?_
                have lp120 : ∀ (n120 : Nat) (Mq120 : Mem) (v2i : Int), (BF fR M Mq120) → (mI Mq120 57 = mI M 57) → (0 ≤ v2i) → (v2i ≤ 6) → (∀ j : Nat, j < 259 → j ≠ 7 → mI Mq120 55 j = mI M 55 j) → (mI Mq120 55 7 ≤ 29) → (6 - v2i).toNat < n120 → VC l mdX12_keep 120 [some (aR 54), some (aI x24), some (aI v2i)] [] Mq120 0 0 (fun q N => q = none ∧ BF fR M N ∧ mI N 57 = mI M 57 ∧ (∀ j : Nat, j < 259 → j ≠ 7 → mI N 55 j = mI M 55 j)) := by
                  intro n120
                  induction n120 with
                  | zero => intro Mq120 v2i hQ120 kp120_57 g120_2a g120_2b g120i0 g120i1 hm120; exact absurd hm120 (Nat.not_lt_zero _)
                  | succ n120 ih120 =>
                    intro Mq120 v2i hQ120 kp120_57 g120_2a g120_2b g120i0 g120i1 hm120
                    refine vc_iload_n dX12_keep_120 rfl ?_
                    refine vc_bipush dX12_keep_121 rfl ?_
                    refine vc_icmp_ge dX12_keep_123 (fun h29 => ?_) (fun h29 => ?_)
                    · refine vc_aload_n dX12_keep_156 rfl ?_
                      refine vc_getR dX12_keep_157 flX12_7 (s_54 hQ120.1.1) rfl (r_54_0 hQ120.1.1) ?_
                      refine vc_iload_n dX12_keep_160 rfl ?_
                      refine vc_bipush dX12_keep_161 rfl ?_
                      refine vc_iaddE dX12_keep_163 (by omega) (by omega) ?_
                      refine vc_aload_n dX12_keep_164 rfl ?_
                      refine vc_getR dX12_keep_165 flX12_7 (s_54 hQ120.1.1) rfl (r_54_0 hQ120.1.1) ?_
                      refine vc_iconst dX12_keep_168 rfl ?_
                      refine vc_iaload dX12_keep_169 (s_55 hQ120.1.1) (by omega) (by omega) ?_
                      refine vc_topI (mI Mq120 55 4) rfl ?_
                      have k30 : 0 ≤ mI Mq120 55 4 ∧ mI Mq120 55 4 ≤ 40025 := b55_4 (M := Mq120) hQ120.1
                      refine vc_iastore dX12_keep_170 (s_55 hQ120.1.1) (by omega) (by omega) ?_
                      have kp31 : mI (sI Mq120 55 ((x24 + 10).toNat) (mI Mq120 55 4)) 57 = mI M 57 := (kp_sI kp120_57 rfl)
                      have hB32 : BF fR M (sI Mq120 55 ((x24 + 10).toNat) (mI Mq120 55 4)) := BF.a (x := x24 + 10) hQ120 (by omega) (by omega) (by unfold aB; refine ⟨?_, ?_, ?_, ?_, ?_, ?_, ?_, ?_, ?_, ?_, ?_, ?_, ?_, ?_, ?_, ?_, ?_, ?_⟩ <;> intros <;> omega) (by omega) (by omega) (by omega) (by omega) (by omega) (by omega) fR_55
                      refine vc_aload_n dX12_keep_171 rfl ?_
                      refine vc_getR dX12_keep_172 flX12_7 (s_54 hB32.1.1) rfl (r_54_0 hB32.1.1) ?_
                      refine vc_bipush dX12_keep_175 rfl ?_
                      refine vc_dup2 dX12_keep_177 rfl rfl ?_
                      refine vc_iaload dX12_keep_178 (s_55 hB32.1.1) (by omega) (by omega) ?_
                      refine vc_topI (mI (sI Mq120 55 ((x24 + 10).toNat) (mI Mq120 55 4)) 55 7) rfl ?_
                      have k33 : mI (sI Mq120 55 ((x24 + 10).toNat) (mI Mq120 55 4)) 55 7 = mI Mq120 55 7 := by repeat rw [mI_sI, if_neg (by omega)]
                      have k34 : 0 ≤ mI (sI Mq120 55 ((x24 + 10).toNat) (mI Mq120 55 4)) 55 7 ∧ mI (sI Mq120 55 ((x24 + 10).toNat) (mI Mq120 55 4)) 55 7 ≤ 30 := b55_7 (M := (sI Mq120 55 ((x24 + 10).toNat) (mI Mq120 55 4))) hB32.1
                      refine vc_iconst dX12_keep_179 rfl ?_
                      refine vc_iaddE dX12_keep_180 (by omega) (by omega) ?_
                      refine vc_iastore dX12_keep_181 (s_55 hB32.1.1) (by omega) (by omega) ?_
                      refine vc_mem (sI (sI Mq120 55 ((x24 + 10).toNat) (mI Mq120 55 4)) 55 7 ((mI (sI Mq120 55 ((x24 + 10).toNat) (mI Mq120 55 4)) 55 7) + 1)) rfl ?_
                      have kp35 : mI (sI (sI Mq120 55 ((x24 + 10).toNat) (mI Mq120 55 4)) 55 7 ((mI (sI Mq120 55 ((x24 + 10).toNat) (mI Mq120 55 4)) 55 7) + 1)) 57 = mI M 57 := (kp_sI kp31 rfl)
                      have hB36 : BF fR M (sI (sI Mq120 55 ((x24 + 10).toNat) (mI Mq120 55 4)) 55 7 ((mI (sI Mq120 55 ((x24 + 10).toNat) (mI Mq120 55 4)) 55 7) + 1)) := BF.a (x := 7) hB32 (by omega) (by omega) (by unfold aB; refine ⟨?_, ?_, ?_, ?_, ?_, ?_, ?_, ?_, ?_, ?_, ?_, ?_, ?_, ?_, ?_, ?_, ?_, ?_⟩ <;> intros <;> omega) (by omega) (by omega) (by omega) (by omega) (by omega) (by omega) fR_55
                      refine vc_vret dX12_keep_182 rfl (Nat.le_of_ble_eq_true rfl) (Nat.le_of_ble_eq_true rfl) ?_
                      exact ⟨rfl, hB36, kp35, by intro j hj hj7; (repeat rw [mI_sI, if_neg (by omega)]); first | done | rfl | exact g120i0 j hj hj7⟩
                    · refine vc_aload_n dX12_keep_126 rfl ?_
                      refine vc_getR dX12_keep_127 flX12_7 (s_54 hQ120.1.1) rfl (r_54_0 hQ120.1.1) ?_
                      refine vc_iload_n dX12_keep_130 rfl ?_
                      refine vc_iconst dX12_keep_131 rfl ?_
                      refine vc_iaddE dX12_keep_132 (by omega) (by omega) ?_
                      refine vc_iload_n dX12_keep_133 rfl ?_
                      refine vc_iaddE dX12_keep_134 (by omega) (by omega) ?_
                      refine vc_aload_n dX12_keep_135 rfl ?_
                      refine vc_getR dX12_keep_136 flX12_7 (s_54 hQ120.1.1) rfl (r_54_0 hQ120.1.1) ?_
                      refine vc_sipush dX12_keep_139 rfl ?_
                      refine vc_iconst dX12_keep_142 rfl ?_
                      refine vc_iload_n dX12_keep_143 rfl ?_
                      refine vc_imulE dX12_keep_144 (by omega) (by omega) ?_
                      refine vc_iaddE dX12_keep_145 (by omega) (by omega) ?_
                      refine vc_iconst dX12_keep_146 rfl ?_
                      refine vc_iaddE dX12_keep_147 (by omega) (by omega) ?_
                      refine vc_iaload dX12_keep_148 (s_55 hQ120.1.1) (by omega) (by omega) ?_
                      refine vc_iastore dX12_keep_149 (s_55 hQ120.1.1) (by omega) (by omega) ?_
                      have kp37 : mI (sI Mq120 55 (((x24 + 4) + v2i).toNat) (mI Mq120 55 (((154 + (5 * v2i)) + 4).toNat))) 57 = mI M 57 := (kp_sI kp120_57 rfl)
                      have hB38 : BF fR M (sI Mq120 55 (((x24 + 4) + v2i).toNat) (mI Mq120 55 (((154 + (5 * v2i)) + 4).toNat))) := BF.a (x := (x24 + 4) + v2i) hQ120 (by omega) (by omega) (by unfold aB; refine ⟨?_, ?_, ?_, ?_, ?_, ?_, ?_, ?_, ?_, ?_, ?_, ?_, ?_, ?_, ?_, ?_, ?_, ?_⟩ <;> intros <;> omega) (by omega) (by omega) (by omega) (by omega) (by omega) (by omega) fR_55
                      refine vc_iincE dX12_keep_150 rfl (by omega) (by omega) (by decide) rfl (show _ = [some (aR 54), some (aI x24), some (aI (v2i + 1))] from rfl) ?_
                      refine vc_goto dX12_keep_153 ?_
                      exact ih120 (sI Mq120 55 (((x24 + 4) + v2i).toNat) (mI Mq120 55 (((154 + (5 * v2i)) + 4).toNat))) (v2i + 1) hB38 kp37 (by omega) (by omega) (by intro j hj hj7; (repeat rw [mI_sI, if_neg (by omega)]); first | done | rfl | exact g120i0 j hj hj7 | exact g87i0 j hj hj7) (by ((repeat rw [mI_sI, if_neg (by omega)]); try omega)) (by omega)
                exact lp120 _ Mq87 0 hQ87 kp87_57 (by omega) (by omega) (by intro j hj hj7; (repeat rw [mI_sI, if_neg (by omega)]); first | done | rfl | exact g120i0 j hj hj7 | exact g87i0 j hj hj7) (by ((repeat rw [mI_sI, if_neg (by omega)]); try omega)) (Nat.lt_succ_self _)
              · refine vc_aload_n dX12_keep_92 rfl ?_
                refine vc_getR dX12_keep_93 flX12_7 (s_54 hQ87.1.1) rfl (r_54_0 hQ87.1.1) ?_
                refine vc_iload_n dX12_keep_96 rfl ?_
                refine vc_iconst dX12_keep_97 rfl ?_
                refine vc_iaddE dX12_keep_98 (by omega) (by omega) ?_
                refine vc_iload_n dX12_keep_99 rfl ?_
                refine vc_iaddE dX12_keep_100 (by omega) (by omega) ?_
                refine vc_aload_n dX12_keep_101 rfl ?_
                refine vc_getR dX12_keep_102 flX12_7 (s_54 hQ87.1.1) rfl (r_54_0 hQ87.1.1) ?_
                refine vc_sipush dX12_keep_105 rfl ?_
                refine vc_iload_n dX12_keep_108 rfl ?_
                refine vc_iaddE dX12_keep_109 (by omega) (by omega) ?_
                refine vc_iaload dX12_keep_110 (s_55 hQ87.1.1) (by omega) (by omega) ?_
                refine vc_iastore dX12_keep_111 (s_55 hQ87.1.1) (by omega) (by omega) ?_
                have kp39 : mI (sI Mq87 55 (((x24 + 1) + v2).toNat) (mI Mq87 55 ((256 + v2).toNat))) 57 = mI M 57 := (kp_sI kp87_57 rfl)
                have hB40 : BF fR M (sI Mq87 55 (((x24 + 1) + v2).toNat) (mI Mq87 55 ((256 + v2).toNat))) := BF.a (x := (x24 + 1) + v2) hQ87 (by omega) (by omega) (aB_wk (x := x24) (k := v2) hQ87.1 (by omega) (by omega) (by omega) g87_2a (by omega) (by omega) (by omega)) (by omega) (by omega) (by omega) (by omega) (by omega) (by omega) fR_55
                refine vc_iincE dX12_keep_112 rfl (by omega) (by omega) (by decide) rfl (show _ = [some (aR 54), some (aI x24), some (aI (v2 + 1))] from rfl) ?_
                refine vc_goto dX12_keep_115 ?_
                exact ih87 (sI Mq87 55 (((x24 + 1) + v2).toNat) (mI Mq87 55 ((256 + v2).toNat))) (v2 + 1) hB40 kp39 (by omega) (by omega) (by intro j hj hj7; (repeat rw [mI_sI, if_neg (by omega)]); first | done | rfl | exact g87i0 j hj hj7 | exact g14i0 j hj) (by ((repeat rw [mI_sI, if_neg (by omega)]); first | done | omega | (rw [mI_sI, if_pos ⟨rfl, rfl⟩]; omega))) (by omega)
          exact lp87 _ (sI (sI Mq14 55 7 ((mI Mq14 55 7) - 1)) 55 x24.toNat (mI Mq14 55 2)) 0 hB27 kp26 (by omega) (by omega) (by intro j hj hj7; (repeat rw [mI_sI, if_neg (by omega)]); first | done | rfl | exact g87i0 j hj hj7 | exact g14i0 j hj) (by ((repeat rw [mI_sI, if_neg (by omega)]); first | done | omega | (rw [mI_sI, if_pos ⟨rfl, rfl⟩]; omega))) (Nat.lt_succ_self _)
        · refine vc_aload_n dX12_keep_21 rfl ?_
          refine vc_getR dX12_keep_22 flX12_7 (s_54 hQ14.1.1) rfl (r_54_0 hQ14.1.1) ?_
          refine vc_sipush dX12_keep_25 rfl ?_
          refine vc_iload_n dX12_keep_28 rfl ?_
          refine vc_iaddE dX12_keep_29 (by omega) (by omega) ?_
          refine vc_aload_n dX12_keep_30 rfl ?_
          refine vc_getR dX12_keep_31 flX12_7 (s_54 hQ14.1.1) rfl (r_54_0 hQ14.1.1) ?_
          refine vc_sipush dX12_keep_34 rfl ?_
          refine vc_iload_n dX12_keep_37 rfl ?_
          refine vc_iaddE dX12_keep_38 (by omega) (by omega) ?_
          refine vc_iaload dX12_keep_39 (s_55 hQ14.1.1) (by omega) (by omega) ?_
          refine vc_iastore dX12_keep_40 (s_55 hQ14.1.1) (by omega) (by omega) ?_
          have kp41 : mI (sI Mq14 55 ((259 + v1).toNat) (mI Mq14 55 ((270 + v1).toNat))) 57 = mI M 57 := (kp_sI kp14_57 rfl)
          have hB42 : BF fR M (sI Mq14 55 ((259 + v1).toNat) (mI Mq14 55 ((270 + v1).toNat))) := BF.a (x := 259 + v1) hQ14 (by omega) (by omega) (aB_sh hQ14.1 (by omega) (by omega) (by omega)) (by omega) (by omega) (by omega) (by omega) (by omega) (by omega) fR_55
          refine vc_iincE dX12_keep_41 rfl (by omega) (by omega) (by decide) rfl (show _ = [some (aR 54), some (aI (v1 + 1)), none] from rfl) ?_
          refine vc_goto dX12_keep_44 ?_
          exact ih14 (sI Mq14 55 ((259 + v1).toNat) (mI Mq14 55 ((270 + v1).toNat))) (v1 + 1) hB42 kp41 (by omega) (by omega) (by first | (intro j hj; rfl) | (intro j hj; rw [mI_sI, if_neg (by omega)]; exact g14i0 j hj)) (by omega)
    exact lp14 _ M 0 hB0 rfl (by omega) (by omega) (by first | (intro j hj; rfl) | (intro j hj; rw [mI_sI, if_neg (by omega)]; exact g14i0 j hj)) (Nat.lt_succ_self _)

set_option maxRecDepth 4000 in
theorem sfX12_undo {l : Launch} {M : Mem} (hB : Box M)    : Call l mdX12_undo [aR 54] M (fun q N => ∃ r : Int, q = some (aI r) ∧ BF fR M N) := by
  have hB0 : BF fR M M := BF.start hB
  refine Call.of [some (aR 54), none, none] rfl (Nat.le_of_ble_eq_true rfl) rfl ?_
  refine vc_aload_n dX12_undo_0 rfl ?_
  refine vc_getR dX12_undo_1 flX12_7 (s_54 hB0.1.1) rfl (r_54_0 hB0.1.1) ?_
  refine vc_bipush dX12_undo_4 rfl ?_
  refine vc_iaload dX12_undo_6 (s_55 hB0.1.1) (by omega) (by omega) ?_
  refine vc_topI (mI M 55 7) rfl ?_
  have k1 : 0 ≤ mI M 55 7 ∧ mI M 55 7 ≤ 30 := b55_7 (M := M) hB0.1
  refine vc_if_ne dX12_undo_7 (fun h2 => ?_) (fun h2 => ?_)
  · refine vc_aload_n dX12_undo_12 rfl ?_
    refine vc_getR dX12_undo_13 flX12_7 (s_54 hB0.1.1) rfl (r_54_0 hB0.1.1) ?_
    refine vc_bipush dX12_undo_16 rfl ?_
    refine vc_dup2 dX12_undo_18 rfl rfl ?_
    refine vc_iaload dX12_undo_19 (s_55 hB0.1.1) (by omega) (by omega) ?_
    refine vc_topI (mI M 55 7) rfl ?_
    refine vc_iconst dX12_undo_20 rfl ?_
    refine vc_isubE dX12_undo_21 (by omega) (by omega) ?_
    refine vc_iastore dX12_undo_22 (s_55 hB0.1.1) (by omega) (by omega) ?_
    refine vc_mem (sI M 55 7 ((mI M 55 7) - 1)) rfl ?_
    have hB3 : BF fR M (sI M 55 7 ((mI M 55 7) - 1)) := BF.a (x := 7) hB0 (by omega) (by omega) (by unfold aB; refine ⟨?_, ?_, ?_, ?_, ?_, ?_, ?_, ?_, ?_, ?_, ?_, ?_, ?_, ?_, ?_, ?_, ?_, ?_⟩ <;> intros <;> omega) (by omega) (by omega) (by omega) (by omega) (by omega) (by omega) fR_55
    refine vc_sipush dX12_undo_23 rfl ?_
    refine vc_bipush dX12_undo_26 rfl ?_
    refine vc_aload_n dX12_undo_28 rfl ?_
    refine vc_getR dX12_undo_29 flX12_7 (s_54 hB3.1.1) rfl (r_54_0 hB3.1.1) ?_
    refine vc_bipush dX12_undo_32 rfl ?_
    refine vc_iaload dX12_undo_34 (s_55 hB3.1.1) (by omega) (by omega) ?_
    refine vc_topI ((mI M 55 7) - 1) rfl ?_
    refine vc_imulE dX12_undo_35 (by omega) (by omega) ?_
    refine vc_iaddE dX12_undo_36 (by omega) (by omega) ?_
    refine vc_nameI (fun x4 ex4 => ?_)
    refine vc_istore_n dX12_undo_37 (by decide) rfl (show _ = [some (aR 54), some (aI x4), none] from rfl) ?_
    refine vc_iconst dX12_undo_38 rfl ?_
    refine vc_istore_n dX12_undo_39 (by decide) rfl (show _ = [some (aR 54), some (aI x4), some (aI 0)] from rfl) ?_
    have lp40 : ∀ (n40 : Nat) (Mq40 : Mem) (v2 : Int), (BF fR M Mq40) → (0 ≤ v2) → (v2 ≤ 3) → (3 - v2).toNat < n40 → VC l mdX12_undo 40 [some (aR 54), some (aI x4), some (aI v2)] [] Mq40 0 0 (fun q N => ∃ r : Int, q = some (aI r) ∧ BF fR M N) := by
      intro n40
      induction n40 with
      | zero => intro Mq40 v2 hQ40 g40_2a g40_2b hm40; exact absurd hm40 (Nat.not_lt_zero _)
      | succ n40 ih40 =>
        intro Mq40 v2 hQ40 g40_2a g40_2b hm40
        refine vc_iload_n dX12_undo_40 rfl ?_
        refine vc_iconst dX12_undo_41 rfl ?_
        refine vc_icmp_ge dX12_undo_42 (fun h5 => ?_) (fun h5 => ?_)
        · refine vc_iconst dX12_undo_71 rfl ?_
          refine vc_istore_n dX12_undo_72 (by decide) rfl (show _ = [some (aR 54), some (aI x4), some (aI 0)] from rfl) ?_
          have lp73 : ∀ (n73 : Nat) (Mq73 : Mem) (v2i : Int), (BF fR M Mq73) → (0 ≤ v2i) → (v2i ≤ 6) → (6 - v2i).toNat < n73 → VC l mdX12_undo 73 [some (aR 54), some (aI x4), some (aI v2i)] [] Mq73 0 0 (fun q N => ∃ r : Int, q = some (aI r) ∧ BF fR M N) := by
            intro n73
            induction n73 with
            | zero => intro Mq73 v2i hQ73 g73_2a g73_2b hm73; exact absurd hm73 (Nat.not_lt_zero _)
            | succ n73 ih73 =>
              intro Mq73 v2i hQ73 g73_2a g73_2b hm73
              refine vc_iload_n dX12_undo_73 rfl ?_
              refine vc_aload_n dX12_undo_74 rfl ?_
              refine vc_getR dX12_undo_75 flX12_7 (s_54 hQ73.1.1) rfl (r_54_0 hQ73.1.1) ?_
              refine vc_iconst dX12_undo_78 rfl ?_
              refine vc_iaload dX12_undo_79 (s_55 hQ73.1.1) (by omega) (by omega) ?_
              refine vc_topI (mI Mq73 55 2) rfl ?_
              have k6 : 0 ≤ mI Mq73 55 2 ∧ mI Mq73 55 2 ≤ 6 := b55_2 (M := Mq73) hQ73.1
              refine vc_icmp_ge dX12_undo_80 (fun h7 => ?_) (fun h7 => ?_)
              · refine vc_aload_n dX12_undo_127 rfl ?_
                refine vc_getR dX12_undo_128 flX12_7 (s_54 hQ73.1.1) rfl (r_54_0 hQ73.1.1) ?_
                refine vc_iconst dX12_undo_131 rfl ?_
                refine vc_aload_n dX12_undo_132 rfl ?_
                refine vc_getR dX12_undo_133 flX12_7 (s_54 hQ73.1.1) rfl (r_54_0 hQ73.1.1) ?_
                refine vc_iload_n dX12_undo_136 rfl ?_
                refine vc_bipush dX12_undo_137 rfl ?_
                refine vc_iaddE dX12_undo_139 (by omega) (by omega) ?_
                refine vc_iaload dX12_undo_140 (s_55 hQ73.1.1) (by omega) (by omega) ?_
                have k8 : 0 ≤ mI Mq73 55 ((x4 + 10).toNat) ∧ mI Mq73 55 ((x4 + 10).toNat) ≤ 40025 := ba_x (M := Mq73) hQ73.1 (x := x4 + 10) (by omega) (by omega) (by omega)
                refine vc_iastore dX12_undo_141 (s_55 hQ73.1.1) (by omega) (by omega) ?_
                refine vc_mem (sI Mq73 55 4 (mI Mq73 55 ((x4 + 10).toNat))) rfl ?_
                have hB9 : BF fR M (sI Mq73 55 4 (mI Mq73 55 ((x4 + 10).toNat))) := BF.a (x := 4) hQ73 (by omega) (by omega) (by unfold aB; refine ⟨?_, ?_, ?_, ?_, ?_, ?_, ?_, ?_, ?_, ?_, ?_, ?_, ?_, ?_, ?_, ?_, ?_, ?_⟩ <;> intros <;> omega) (by omega) (by omega) (by omega) (by omega) (by omega) (by omega) fR_55
                refine vc_aload_n dX12_undo_142 rfl ?_
                refine vc_getR dX12_undo_143 flX12_7 (s_54 hB9.1.1) rfl (r_54_0 hB9.1.1) ?_
                refine vc_bipush dX12_undo_146 rfl ?_
                refine vc_iaload dX12_undo_148 (s_55 hB9.1.1) (by omega) (by omega) ?_
                refine vc_topI (mI Mq73 55 7) rfl ?_
                have k10 : 0 ≤ mI Mq73 55 7 ∧ mI Mq73 55 7 ≤ 30 := b55_7 (M := (sI Mq73 55 4 (mI Mq73 55 ((x4 + 10).toNat)))) hB9.1
                refine vc_iret dX12_undo_149 rfl (Nat.le_of_ble_eq_true rfl) (Nat.le_of_ble_eq_true rfl) ?_
                exact ⟨_, rfl, hB9⟩
              · refine vc_aload_n dX12_undo_83 rfl ?_
                refine vc_getR dX12_undo_84 flX12_7 (s_54 hQ73.1.1) rfl (r_54_0 hQ73.1.1) ?_
                refine vc_sipush dX12_undo_87 rfl ?_
                refine vc_iconst dX12_undo_90 rfl ?_
                refine vc_iload_n dX12_undo_91 rfl ?_
                refine vc_imulE dX12_undo_92 (by omega) (by omega) ?_
                refine vc_iaddE dX12_undo_93 (by omega) (by omega) ?_
                refine vc_iconst dX12_undo_94 rfl ?_
                refine vc_iaddE dX12_undo_95 (by omega) (by omega) ?_
                refine vc_iload_n dX12_undo_96 rfl ?_
                refine vc_aload_n dX12_undo_97 rfl ?_
                refine vc_getR dX12_undo_98 flX12_7 (s_54 hQ73.1.1) rfl (r_54_0 hQ73.1.1) ?_
                refine vc_iload_n dX12_undo_101 rfl ?_
                refine vc_iaload dX12_undo_102 (s_55 hQ73.1.1) (by omega) (by omega) ?_
                refine vc_icmp_ge dX12_undo_103 (fun h11 => ?_) (fun h11 => ?_)
                · refine vc_iconst dX12_undo_119 rfl ?_
                  refine vc_iastore dX12_undo_120 (s_55 hQ73.1.1) (by omega) (by omega) ?_
                  have hB12 : BF fR M (sI Mq73 55 (((154 + (5 * v2i)) + 4).toNat) 0) := BF.a (x := (154 + (5 * v2i)) + 4) hQ73 (by omega) (by omega) (by unfold aB; refine ⟨?_, ?_, ?_, ?_, ?_, ?_, ?_, ?_, ?_, ?_, ?_, ?_, ?_, ?_, ?_, ?_, ?_, ?_⟩ <;> intros <;> omega) (by omega) (by omega) (by omega) (by omega) (by omega) (by omega) fR_55
                  refine vc_iincE dX12_undo_121 rfl (by omega) (by omega) (by decide) rfl (show _ = [some (aR 54), some (aI x4), some (aI (v2i + 1))] from rfl) ?_
                  refine vc_goto dX12_undo_124 ?_
                  exact ih73 (sI Mq73 55 (((154 + (5 * v2i)) + 4).toNat) 0) (v2i + 1) hB12 (by omega) (by omega) (by omega)
                · refine vc_aload_n dX12_undo_106 rfl ?_
                  refine vc_getR dX12_undo_107 flX12_7 (s_54 hQ73.1.1) rfl (r_54_0 hQ73.1.1) ?_
                  refine vc_iload_n dX12_undo_110 rfl ?_
                  refine vc_iconst dX12_undo_111 rfl ?_
                  refine vc_iaddE dX12_undo_112 (by omega) (by omega) ?_
                  refine vc_iload_n dX12_undo_113 rfl ?_
                  refine vc_iaddE dX12_undo_114 (by omega) (by omega) ?_
                  refine vc_iaload dX12_undo_115 (s_55 hQ73.1.1) (by omega) (by omega) ?_
                  refine vc_goto dX12_undo_116 ?_
                  refine vc_iastore dX12_undo_120 (s_55 hQ73.1.1) (by omega) (by omega) ?_
                  have hB13 : BF fR M (sI Mq73 55 (((154 + (5 * v2i)) + 4).toNat) (mI Mq73 55 (((x4 + 4) + v2i).toNat))) := BF.a (x := (154 + (5 * v2i)) + 4) hQ73 (by omega) (by omega) (by unfold aB; refine ⟨?_, ?_, ?_, ?_, ?_, ?_, ?_, ?_, ?_, ?_, ?_, ?_, ?_, ?_, ?_, ?_, ?_, ?_⟩ <;> intros <;> omega) (by omega) (by omega) (by omega) (by omega) (by omega) (by omega) fR_55
                  refine vc_iincE dX12_undo_121 rfl (by omega) (by omega) (by decide) rfl (show _ = [some (aR 54), some (aI x4), some (aI (v2i + 1))] from rfl) ?_
                  refine vc_goto dX12_undo_124 ?_
                  exact ih73 (sI Mq73 55 (((154 + (5 * v2i)) + 4).toNat) (mI Mq73 55 (((x4 + 4) + v2i).toNat))) (v2i + 1) hB13 (by omega) (by omega) (by omega)
          exact lp73 _ Mq40 0 hQ40 (by omega) (by omega) (Nat.lt_succ_self _)
        · refine vc_aload_n dX12_undo_45 rfl ?_
          refine vc_getR dX12_undo_46 flX12_7 (s_54 hQ40.1.1) rfl (r_54_0 hQ40.1.1) ?_
          refine vc_sipush dX12_undo_49 rfl ?_
          refine vc_iload_n dX12_undo_52 rfl ?_
          refine vc_iaddE dX12_undo_53 (by omega) (by omega) ?_
          refine vc_aload_n dX12_undo_54 rfl ?_
          refine vc_getR dX12_undo_55 flX12_7 (s_54 hQ40.1.1) rfl (r_54_0 hQ40.1.1) ?_
          refine vc_iload_n dX12_undo_58 rfl ?_
          refine vc_iconst dX12_undo_59 rfl ?_
          refine vc_iaddE dX12_undo_60 (by omega) (by omega) ?_
          refine vc_iload_n dX12_undo_61 rfl ?_
          refine vc_iaddE dX12_undo_62 (by omega) (by omega) ?_
          refine vc_iaload dX12_undo_63 (s_55 hQ40.1.1) (by omega) (by omega) ?_
          refine vc_iastore dX12_undo_64 (s_55 hQ40.1.1) (by omega) (by omega) ?_
          have hB14 : BF fR M (sI Mq40 55 ((256 + v2).toNat) (mI Mq40 55 (((x4 + 1) + v2).toNat))) := BF.a (x := 256 + v2) hQ40 (by omega) (by omega) (aB_kw (x := x4) (k := v2) hQ40.1 (by omega) (by omega) (by omega) g40_2a (by omega) (by omega) (by omega)) (by omega) (by omega) (by omega) (by omega) (by omega) (by omega) fR_55
          refine vc_iincE dX12_undo_65 rfl (by omega) (by omega) (by decide) rfl (show _ = [some (aR 54), some (aI x4), some (aI (v2 + 1))] from rfl) ?_
          refine vc_goto dX12_undo_68 ?_
          exact ih40 (sI Mq40 55 ((256 + v2).toNat) (mI Mq40 55 (((x4 + 1) + v2).toNat))) (v2 + 1) hB14 (by omega) (by omega) (by omega)
    exact lp40 _ (sI M 55 7 ((mI M 55 7) - 1)) 0 hB3 (by omega) (by omega) (Nat.lt_succ_self _)
  · refine vc_iconst dX12_undo_10 rfl ?_
    refine vc_iret dX12_undo_11 rfl (Nat.le_of_ble_eq_true rfl) (Nat.le_of_ble_eq_true rfl) ?_
    exact ⟨_, rfl, hB0⟩

/-- so many streets lie ahead -/
def WK (f : Nat → Int) (d : Int) : Nat → Int → Prop
  | 0, _ => True
  | n + 1, c => 0 ≤ c ∧ c ≤ 15 ∧ 0 ≤ f ((((10 + (9 * c)) + 1) + d)).toNat ∧ WK f d n (f ((((10 + (9 * c)) + 1) + d)).toNat)
theorem WK_le {f : Nat → Int} {d : Int} : ∀ (n m : Nat) (c : Int), m ≤ n → WK f d n c → WK f d m c
  | _, 0, _, _, _ => trivial
  | 0, m + 1, _, h, _ => absurd h (by omega)
  | n + 1, m + 1, c, h, q => ⟨q.1, q.2.1, q.2.2.1, WK_le n m _ (by omega) q.2.2.2⟩
theorem WK_co {f g : Nat → Int} {d : Int} (h0 : 0 ≤ d) (h3 : d ≤ 3) (he : ∀ j : Nat, 10 ≤ j → j < 154 → g j = f j) : ∀ (n : Nat) (c : Int), WK f d n c → WK g d n c
  | 0, _, _ => trivial
  | n + 1, c, q => by
    have e := he ((((10 + (9 * c)) + 1) + d)).toNat (by have := q.1; omega) (by have := q.2.1; omega)
    refine ⟨q.1, q.2.1, by rw [e]; exact q.2.2.1, ?_⟩
    rw [e]
    exact WK_co h0 h3 he n _ q.2.2.2
set_option maxRecDepth 4000 in
theorem sfX12_startNow {l : Launch} {M : Mem} (hB : Box M)  (c : Int) (f : Int) (p0 : 0 ≤ c) (p1 : c ≤ 15) (p2 : 0 ≤ f) (p3 : f ≤ 3) : Call l mdX12_startNow [aR 54, aI c, aI f] M (fun q N => q = none ∧ BF fR M N ∧ mI N 57 = mI M 57 ∧ mI N 55 256 = c ∧ (∀ j : Nat, j < 256 → mI N 55 j = mI M 55 j)) := by
  have hB0 : BF fR M M := BF.start hB
  refine Call.of [some (aR 54), some (aI c), some (aI f)] rfl (Nat.le_of_ble_eq_true rfl) rfl ?_
  refine vc_aload_n dX12_startNow_0 rfl ?_
  refine vc_getR dX12_startNow_1 flX12_7 (s_54 hB0.1.1) rfl (r_54_0 hB0.1.1) ?_
  refine vc_sipush dX12_startNow_4 rfl ?_
  refine vc_iload_n dX12_startNow_7 rfl ?_
  refine vc_iastore dX12_startNow_8 (s_55 hB0.1.1) (by omega) (by omega) ?_
  refine vc_mem (sI M 55 256 c) rfl ?_
  have kp1 : mI (sI M 55 256 c) 57 = mI M 57 := (kp_sI rfl rfl)
  have hB2 : BF fR M (sI M 55 256 c) := BF.a (x := 256) hB0 (by omega) (by omega) (by unfold aB; refine ⟨?_, ?_, ?_, ?_, ?_, ?_, ?_, ?_, ?_, ?_, ?_, ?_, ?_, ?_, ?_, ?_, ?_, ?_⟩ <;> intros <;> omega) (by omega) (by omega) (by omega) (by omega) (by omega) (by omega) fR_55
  refine vc_aload_n dX12_startNow_9 rfl ?_
  refine vc_getR dX12_startNow_10 flX12_7 (s_54 hB2.1.1) rfl (r_54_0 hB2.1.1) ?_
  refine vc_sipush dX12_startNow_13 rfl ?_
  refine vc_iload_n dX12_startNow_16 rfl ?_
  refine vc_iastore dX12_startNow_17 (s_55 hB2.1.1) (by omega) (by omega) ?_
  refine vc_mem (sI (sI M 55 256 c) 55 257 f) rfl ?_
  have kp3 : mI (sI (sI M 55 256 c) 55 257 f) 57 = mI M 57 := (kp_sI kp1 rfl)
  have hB4 : BF fR M (sI (sI M 55 256 c) 55 257 f) := BF.a (x := 257) hB2 (by omega) (by omega) (by unfold aB; refine ⟨?_, ?_, ?_, ?_, ?_, ?_, ?_, ?_, ?_, ?_, ?_, ?_, ?_, ?_, ?_, ?_, ?_, ?_⟩ <;> intros <;> omega) (by omega) (by omega) (by omega) (by omega) (by omega) (by omega) fR_55
  refine vc_aload_n dX12_startNow_18 rfl ?_
  refine vc_getR dX12_startNow_19 flX12_7 (s_54 hB4.1.1) rfl (r_54_0 hB4.1.1) ?_
  refine vc_sipush dX12_startNow_22 rfl ?_
  refine vc_iconst dX12_startNow_25 rfl ?_
  refine vc_iastore dX12_startNow_26 (s_55 hB4.1.1) (by omega) (by omega) ?_
  refine vc_mem (sI (sI (sI M 55 256 c) 55 257 f) 55 258 0) rfl ?_
  have kp5 : mI (sI (sI (sI M 55 256 c) 55 257 f) 55 258 0) 57 = mI M 57 := (kp_sI kp3 rfl)
  have hB6 : BF fR M (sI (sI (sI M 55 256 c) 55 257 f) 55 258 0) := BF.a (x := 258) hB4 (by omega) (by omega) (by unfold aB; refine ⟨?_, ?_, ?_, ?_, ?_, ?_, ?_, ?_, ?_, ?_, ?_, ?_, ?_, ?_, ?_, ?_, ?_, ?_⟩ <;> intros <;> omega) (by omega) (by omega) (by omega) (by omega) (by omega) (by omega) fR_55
  refine vc_vret dX12_startNow_27 rfl (Nat.le_of_ble_eq_true rfl) (Nat.le_of_ble_eq_true rfl) ?_
  exact ⟨rfl, hB6, kp5, by ((repeat rw [mI_sI, if_neg (by omega)]); rw [mI_sI, if_pos ⟨rfl, by omega⟩]), by intro j hj; (repeat rw [mI_sI, if_neg (by omega)])⟩

set_option maxRecDepth 4000 in
theorem sfX12_start {l : Launch} {M : Mem} (hB : Box M)  (c : Int) (f : Int)  : Call l mdX12_start [aR 54, aI c, aI f] M (fun q N => ∃ r : Int, q = some (aI r) ∧ BF fR M N ∧ mI N 57 = mI M 57 ∧ 0 ≤ r ∧ r ≤ 1) := by
  have hB0 : BF fR M M := BF.start hB
  refine Call.of [some (aR 54), some (aI c), some (aI f)] rfl (Nat.le_of_ble_eq_true rfl) rfl ?_
  refine vc_ok (fun hoM hoS hoL => ?_)
  have hr1 : -2147483648 ≤ c ∧ c < 2147483648 := hoL 1 _ rfl
  have hr2 : -2147483648 ≤ f ∧ f < 2147483648 := hoL 2 _ rfl
  refine vc_aload_n dX12_start_0 rfl ?_
  refine vc_iload_n dX12_start_1 rfl ?_
  refine vc_cVI dX12_start_2 (sfX12_isCorner (M := M) hB0.1  c ) rfl okX12_isCorner viX12_isCorner lkX12_87 (s_54 hB0.1.1) cl_12 rfl (Nat.le_of_ble_eq_true rfl) ⟨rfl, rfl⟩ (Nat.le_of_ble_eq_true rfl) (Nat.le_of_ble_eq_true rfl) (Nat.le_of_ble_eq_true rfl) ?_
  rintro x1 _ ⟨rfl, h2, h3, h4⟩
  refine vc_if_eq dX12_start_5 (fun h5 => ?_) (fun h5 => ?_)
  · refine vc_iconst dX12_start_17 rfl ?_
    refine vc_zret dX12_start_18 rfl (by first | decide | omega) (Nat.le_of_ble_eq_true rfl) (Nat.le_of_ble_eq_true rfl) ?_
    exact ⟨_, rfl, hB0, rfl, by omega, by omega⟩
  · refine vc_iload_n dX12_start_8 rfl ?_
    refine vc_iconst dX12_start_9 rfl ?_
    refine vc_iconst dX12_start_10 rfl ?_
    refine vc_cSI dX12_start_11 (sfX12_isIn (M := M) hB0.1  f 0 3 ) rfl okX12_isIn stX12_isIn lkX12_83 rfl (Nat.le_of_ble_eq_true rfl) ⟨rfl, rfl⟩ (Nat.le_of_ble_eq_true rfl) (Nat.le_of_ble_eq_true rfl) (Nat.le_of_ble_eq_true rfl) ?_
    rintro x6 _ ⟨rfl, h7, h8, h9⟩
    refine vc_if_ne dX12_start_14 (fun h10 => ?_) (fun h10 => ?_)
    · refine vc_aload_n dX12_start_19 rfl ?_
      refine vc_cVU dX12_start_20 (sfX12_keep (M := M) hB0.1   ) rfl okX12_keep viX12_keep lkX12_373 (s_54 hB0.1.1) cl_12 rfl (Nat.le_of_ble_eq_true rfl) ⟨rfl, rfl⟩ (Nat.le_of_ble_eq_true rfl) (Nat.le_of_ble_eq_true rfl) (Nat.le_of_ble_eq_true rfl) ?_
      rintro M11 ⟨hB12, kp13, h14⟩
      have hB15 : BF fR M M11 := BF.go hB0 hB12
      have kp16 : mI M11 57 = mI M 57 := kp_go rfl kp13
      refine vc_aload_n dX12_start_23 rfl ?_
      refine vc_iload_n dX12_start_24 rfl ?_
      refine vc_iload_n dX12_start_25 rfl ?_
      refine vc_cVU dX12_start_26 (sfX12_startNow (M := M11) hB15.1  c f (by omega) (by omega) (by omega) (by omega)) rfl okX12_startNow viX12_startNow lkX12_376 (s_54 hB15.1.1) cl_12 rfl (Nat.le_of_ble_eq_true rfl) ⟨rfl, rfl⟩ (Nat.le_of_ble_eq_true rfl) (Nat.le_of_ble_eq_true rfl) (Nat.le_of_ble_eq_true rfl) ?_
      rintro M17 ⟨hB18, kp19, h20, h21⟩
      have hB22 : BF fR M M17 := BF.go hB15 hB18
      have kp23 : mI M17 57 = mI M 57 := kp_go kp16 kp19
      refine vc_iconst dX12_start_29 rfl ?_
      refine vc_zret dX12_start_30 rfl (by first | decide | omega) (Nat.le_of_ble_eq_true rfl) (Nat.le_of_ble_eq_true rfl) ?_
      exact ⟨_, rfl, hB22, kp23, by omega, by omega⟩
    · refine vc_iconst dX12_start_17 rfl ?_
      refine vc_zret dX12_start_18 rfl (by first | decide | omega) (Nat.le_of_ble_eq_true rfl) (Nat.le_of_ble_eq_true rfl) ?_
      exact ⟨_, rfl, hB0, rfl, by omega, by omega⟩

set_option maxRecDepth 4000 in
theorem sfX12_isAhead {l : Launch} {M : Mem} (hB : Box M)    : Call l mdX12_isAhead [aR 54] M (fun q N => ∃ r : Int, q = some (aI r) ∧ M = N ∧ 0 ≤ r ∧ r ≤ 1 ∧ (r = 0 ∨ 0 ≤ mI M 55 256)) := by
  have hB0 : BF fQ M M := BF.start hB
  refine Call.of [some (aR 54)] rfl (Nat.le_of_ble_eq_true rfl) rfl ?_
  refine vc_aload_n dX12_isAhead_0 rfl ?_
  refine vc_cVI dX12_isAhead_1 (sfX12_isWalker (M := M) hB0.1   ) rfl okX12_isWalker viX12_isWalker lkX12_379 (s_54 hB0.1.1) cl_12 rfl (Nat.le_of_ble_eq_true rfl) ⟨rfl, rfl⟩ (Nat.le_of_ble_eq_true rfl) (Nat.le_of_ble_eq_true rfl) (Nat.le_of_ble_eq_true rfl) ?_
  rintro x1 _ ⟨rfl, h2, h3, h4⟩
  refine vc_if_eq dX12_isAhead_4 (fun h5 => ?_) (fun h5 => ?_)
  · refine vc_iconst dX12_isAhead_34 rfl ?_
    refine vc_zret dX12_isAhead_35 rfl (by first | decide | omega) (Nat.le_of_ble_eq_true rfl) (Nat.le_of_ble_eq_true rfl) ?_
    exact ⟨_, rfl, rfl, by omega, by omega, by omega⟩
  · refine vc_aload_n dX12_isAhead_7 rfl ?_
    refine vc_aload_n dX12_isAhead_8 rfl ?_
    refine vc_getR dX12_isAhead_9 flX12_7 (s_54 hB0.1.1) rfl (r_54_0 hB0.1.1) ?_
    refine vc_sipush dX12_isAhead_12 rfl ?_
    refine vc_iaload dX12_isAhead_15 (s_55 hB0.1.1) (by omega) (by omega) ?_
    refine vc_topI (mI M 55 256) rfl ?_
    have k6 : (-1) ≤ mI M 55 256 ∧ mI M 55 256 ≤ 15 := b55_256 (M := M) hB0.1
    refine vc_aload_n dX12_isAhead_16 rfl ?_
    refine vc_getR dX12_isAhead_17 flX12_7 (s_54 hB0.1.1) rfl (r_54_0 hB0.1.1) ?_
    refine vc_sipush dX12_isAhead_20 rfl ?_
    refine vc_iaload dX12_isAhead_23 (s_55 hB0.1.1) (by omega) (by omega) ?_
    refine vc_topI (mI M 55 257) rfl ?_
    have k7 : 0 ≤ mI M 55 257 ∧ mI M 55 257 ≤ 3 := b55_257 (M := M) hB0.1
    refine vc_cVI dX12_isAhead_24 (sfX12_streetOf (M := M) hB0.1  (mI M 55 256) (mI M 55 257) (by omega) (by omega) (by omega) (by omega)) rfl okX12_streetOf viX12_streetOf lkX12_91 (s_54 hB0.1.1) cl_12 rfl (Nat.le_of_ble_eq_true rfl) ⟨rfl, rfl⟩ (Nat.le_of_ble_eq_true rfl) (Nat.le_of_ble_eq_true rfl) (Nat.le_of_ble_eq_true rfl) ?_
    rintro x8 _ ⟨rfl, h9, h10, h11⟩
    refine vc_if_lt dX12_isAhead_27 (fun h12 => ?_) (fun h12 => ?_)
    · refine vc_iconst dX12_isAhead_34 rfl ?_
      refine vc_zret dX12_isAhead_35 rfl (by first | decide | omega) (Nat.le_of_ble_eq_true rfl) (Nat.le_of_ble_eq_true rfl) ?_
      exact ⟨_, rfl, rfl, by omega, by omega, by omega⟩
    · refine vc_iconst dX12_isAhead_30 rfl ?_
      refine vc_goto dX12_isAhead_31 ?_
      refine vc_zret dX12_isAhead_35 rfl (by first | decide | omega) (Nat.le_of_ble_eq_true rfl) (Nat.le_of_ble_eq_true rfl) ?_
      exact ⟨_, rfl, rfl, by omega, by omega, by omega⟩

set_option maxRecDepth 4000 in
theorem sfX12_walkNow {l : Launch} {M : Mem} (hB : Box M)   (p0 : 0 ≤ mI M 55 256) : Call l mdX12_walkNow [aR 54] M (fun q N => q = none ∧ BF fR M N ∧ mI N 57 = mI M 57 ∧ (∀ j : Nat, j < 256 → mI N 55 j = mI M 55 j) ∧ mI N 55 257 = mI M 55 257 ∧ mI N 55 256 = mI M 55 ((((10 + (9 * mI M 55 256)) + 1) + mI M 55 257)).toNat) := by
  have hB0 : BF fR M M := BF.start hB
  refine Call.of [some (aR 54), none] rfl (Nat.le_of_ble_eq_true rfl) rfl ?_
  refine vc_aload_n dX12_walkNow_0 rfl ?_
  refine vc_getR dX12_walkNow_1 flX12_7 (s_54 hB0.1.1) rfl (r_54_0 hB0.1.1) ?_
  refine vc_sipush dX12_walkNow_4 rfl ?_
  refine vc_iaload dX12_walkNow_7 (s_55 hB0.1.1) (by omega) (by omega) ?_
  refine vc_topI (mI M 55 256) rfl ?_
  have k1 : (-1) ≤ mI M 55 256 ∧ mI M 55 256 ≤ 15 := b55_256 (M := M) hB0.1
  refine vc_nameI (fun x3 ex3 => ?_)
  refine vc_istore_n dX12_walkNow_8 (by decide) rfl (show _ = [some (aR 54), some (aI x3)] from rfl) ?_
  refine vc_aload_n dX12_walkNow_9 rfl ?_
  refine vc_getR dX12_walkNow_10 flX12_7 (s_54 hB0.1.1) rfl (r_54_0 hB0.1.1) ?_
  refine vc_sipush dX12_walkNow_13 rfl ?_
  refine vc_dup2 dX12_walkNow_16 rfl rfl ?_
  refine vc_iaload dX12_walkNow_17 (s_55 hB0.1.1) (by omega) (by omega) ?_
  refine vc_topI (mI M 55 258) rfl ?_
  refine vc_aload_n dX12_walkNow_18 rfl ?_
  refine vc_iload_n dX12_walkNow_19 rfl ?_
  refine vc_aload_n dX12_walkNow_20 rfl ?_
  refine vc_getR dX12_walkNow_21 flX12_7 (s_54 hB0.1.1) rfl (r_54_0 hB0.1.1) ?_
  refine vc_sipush dX12_walkNow_24 rfl ?_
  refine vc_iaload dX12_walkNow_27 (s_55 hB0.1.1) (by omega) (by omega) ?_
  refine vc_topI (mI M 55 257) rfl ?_
  have k5 : 0 ≤ mI M 55 257 ∧ mI M 55 257 ≤ 3 := b55_257 (M := M) hB0.1
  refine vc_cVI dX12_walkNow_28 (sfX12_paceOf (M := M) hB0.1  x3 (mI M 55 257) (by omega) (by omega) (by omega) (by omega)) rfl okX12_paceOf viX12_paceOf lkX12_345 (s_54 hB0.1.1) cl_12 rfl (Nat.le_of_ble_eq_true rfl) ⟨rfl, rfl⟩ (Nat.le_of_ble_eq_true rfl) (Nat.le_of_ble_eq_true rfl) (Nat.le_of_ble_eq_true rfl) ?_
  rintro x7 M8 ⟨hB9, kp10, kp11, kp12, kp13, kp14, kp15⟩
  have hB16 : BF fR M M8 := BF.go hB0 hB9.sq.r
  have kp17 : mI M8 57 = mI M 57 := kp_go rfl kp12
  have kp18 : mI M8 55 = mI M 55 := kp_go rfl kp11
  refine vc_iadd dX12_walkNow_31 ?_
  refine vc_iastore dX12_walkNow_32 (s_55 hB16.1.1) (by omega) (by omega) ?_
  refine vc_mem (sI M8 55 258 (wI ((mI M 55 258) + x7))) rfl ?_
  have kp19 : mI (sI M8 55 258 (wI ((mI M 55 258) + x7))) 57 = mI M 57 := (kp_sI kp17 rfl)
  have hB20 : BF fR M (sI M8 55 258 (wI ((mI M 55 258) + x7))) := BF.a (x := 258) hB16 (by omega) (by omega) (by unfold aB; refine ⟨?_, ?_, ?_, ?_, ?_, ?_, ?_, ?_, ?_, ?_, ?_, ?_, ?_, ?_, ?_, ?_, ?_, ?_⟩ <;> intros <;> omega) (by omega) (by omega) (by omega) (by omega) (by omega) (by omega) fR_55
  refine vc_aload_n dX12_walkNow_33 rfl ?_
  refine vc_getR dX12_walkNow_34 flX12_7 (s_54 hB20.1.1) rfl (r_54_0 hB20.1.1) ?_
  refine vc_sipush dX12_walkNow_37 rfl ?_
  refine vc_aload_n dX12_walkNow_40 rfl ?_
  refine vc_iload_n dX12_walkNow_41 rfl ?_
  refine vc_aload_n dX12_walkNow_42 rfl ?_
  refine vc_getR dX12_walkNow_43 flX12_7 (s_54 hB20.1.1) rfl (r_54_0 hB20.1.1) ?_
  refine vc_sipush dX12_walkNow_46 rfl ?_
  refine vc_iaload dX12_walkNow_49 (s_55 hB20.1.1) (by omega) (by omega) ?_
  refine vc_topI (mI M8 55 257) rfl ?_
  have k21 : 0 ≤ mI M8 55 257 ∧ mI M8 55 257 ≤ 3 := b55_257 (M := (sI M8 55 258 (wI ((mI M 55 258) + x7)))) hB20.1
  refine vc_cVI dX12_walkNow_50 (sfX12_streetOf (M := (sI M8 55 258 (wI ((mI M 55 258) + x7)))) hB20.1  x3 (mI M8 55 257) (by omega) (by omega) (by omega) (by omega)) rfl okX12_streetOf viX12_streetOf lkX12_91 (s_54 hB20.1.1) cl_12 rfl (Nat.le_of_ble_eq_true rfl) ⟨rfl, rfl⟩ (Nat.le_of_ble_eq_true rfl) (Nat.le_of_ble_eq_true rfl) (Nat.le_of_ble_eq_true rfl) ?_
  rintro x22 _ ⟨rfl, h23, h24, h25⟩
  refine vc_iastore dX12_walkNow_53 (s_55 hB20.1.1) (by omega) (by omega) ?_
  refine vc_mem (sI (sI M8 55 258 (wI ((mI M 55 258) + x7))) 55 256 x22) rfl ?_
  have kp26 : mI (sI (sI M8 55 258 (wI ((mI M 55 258) + x7))) 55 256 x22) 57 = mI M 57 := (kp_sI kp19 rfl)
  have hB27 : BF fR M (sI (sI M8 55 258 (wI ((mI M 55 258) + x7))) 55 256 x22) := BF.a (x := 256) hB20 (by omega) (by omega) (by unfold aB; refine ⟨?_, ?_, ?_, ?_, ?_, ?_, ?_, ?_, ?_, ?_, ?_, ?_, ?_, ?_, ?_, ?_, ?_, ?_⟩ <;> intros <;> omega) (by omega) (by omega) (by omega) (by omega) (by omega) (by omega) fR_55
  refine vc_vret dX12_walkNow_54 rfl (Nat.le_of_ble_eq_true rfl) (Nat.le_of_ble_eq_true rfl) ?_
  refine ⟨rfl, hB27, kp26, ?_, ?_, ?_⟩
  · intro j hj; (repeat rw [mI_sI, if_neg (by omega)]); exact congrFun kp18 j
  · (repeat rw [mI_sI, if_neg (by omega)]); exact congrFun kp18 257
  · rw [mI_sI, if_pos ⟨rfl, rfl⟩, h25, mI_sI, if_neg (by omega), ex3, congrFun kp18 257]; exact congrFun kp18 _

set_option maxRecDepth 4000 in
theorem sfX12_walkable {l : Launch} {M : Mem} (hB : Box M)  (n : Int) (p0 : 0 ≤ mI M 55 256) : Call l mdX12_walkable [aR 54, aI n] M (fun q N => ∃ r : Int, q = some (aI r) ∧ M = N ∧ 0 ≤ r ∧ WK (mI M 55) (mI M 55 257) r.toNat (mI M 55 256) ∧ (n < 1 ∨ r ≤ n)) := by
  have hB0 : BF fQ M M := BF.start hB
  refine Call.of [some (aR 54), some (aI n), none, none] rfl (Nat.le_of_ble_eq_true rfl) rfl ?_
  refine vc_ok (fun hoM hoS hoL => ?_)
  have hr1 : -2147483648 ≤ n ∧ n < 2147483648 := hoL 1 _ rfl
  refine vc_aload_n dX12_walkable_0 rfl ?_
  refine vc_getR dX12_walkable_1 flX12_7 (s_54 hB0.1.1) rfl (r_54_0 hB0.1.1) ?_
  refine vc_sipush dX12_walkable_4 rfl ?_
  refine vc_iaload dX12_walkable_7 (s_55 hB0.1.1) (by omega) (by omega) ?_
  refine vc_topI (mI M 55 256) rfl ?_
  have k1 : (-1) ≤ mI M 55 256 ∧ mI M 55 256 ≤ 15 := b55_256 (M := M) hB0.1
  refine vc_nameI (fun x2 ex2 => ?_)
  refine vc_istore_n dX12_walkable_8 (by decide) rfl (show _ = [some (aR 54), some (aI n), some (aI x2), none] from rfl) ?_
  refine vc_iconst dX12_walkable_9 rfl ?_
  refine vc_istore_n dX12_walkable_10 (by decide) rfl (show _ = [some (aR 54), some (aI n), some (aI x2), some (aI 0)] from rfl) ?_
  have lp11 : ∀ (n11 : Nat) (v2 : Int) (v3 : Int), (0 ≤ v2) → (v2 ≤ 15) → (0 ≤ v3) → (∀ m : Nat, WK (mI M 55) (mI M 55 257) m v2 → WK (mI M 55) (mI M 55 257) (v3.toNat + m) (mI M 55 256)) → (n < 1 ∨ v3 ≤ n) → (n - v3).toNat < n11 → VC l mdX12_walkable 11 [some (aR 54), some (aI n), some (aI v2), some (aI v3)] [] M 0 0 (fun q N => ∃ r : Int, q = some (aI r) ∧ M = N ∧ 0 ≤ r ∧ WK (mI M 55) (mI M 55 257) r.toNat (mI M 55 256) ∧ (n < 1 ∨ r ≤ n)) := by
    intro n11
    induction n11 with
    | zero => intro v2 v3 g11_2a g11_2b g11_3a g11i0 g11i1 hm11; exact absurd hm11 (Nat.not_lt_zero _)
    | succ n11 ih11 =>
      intro v2 v3 g11_2a g11_2b g11_3a g11i0 g11i1 hm11
      refine vc_iload_n dX12_walkable_11 rfl ?_
      refine vc_iload_n dX12_walkable_12 rfl ?_
      refine vc_icmp_ge dX12_walkable_13 (fun h3 => ?_) (fun h3 => ?_)
      · refine vc_iload_n dX12_walkable_52 rfl ?_
        refine vc_iret dX12_walkable_53 rfl (Nat.le_of_ble_eq_true rfl) (Nat.le_of_ble_eq_true rfl) ?_
        exact ⟨_, rfl, rfl, by omega, by exact g11i0 0 trivial, by omega⟩
      · refine vc_aload_n dX12_walkable_16 rfl ?_
        refine vc_iload_n dX12_walkable_17 rfl ?_
        refine vc_aload_n dX12_walkable_18 rfl ?_
        refine vc_getR dX12_walkable_19 flX12_7 (s_54 hB0.1.1) rfl (r_54_0 hB0.1.1) ?_
        refine vc_sipush dX12_walkable_22 rfl ?_
        refine vc_iaload dX12_walkable_25 (s_55 hB0.1.1) (by omega) (by omega) ?_
        refine vc_topI (mI M 55 257) rfl ?_
        have k4 : 0 ≤ mI M 55 257 ∧ mI M 55 257 ≤ 3 := b55_257 (M := M) hB0.1
        refine vc_cVI dX12_walkable_26 (sfX12_streetOf (M := M) hB0.1  v2 (mI M 55 257) (by omega) (by omega) (by omega) (by omega)) rfl okX12_streetOf viX12_streetOf lkX12_91 (s_54 hB0.1.1) cl_12 rfl (Nat.le_of_ble_eq_true rfl) ⟨rfl, rfl⟩ (Nat.le_of_ble_eq_true rfl) (Nat.le_of_ble_eq_true rfl) (Nat.le_of_ble_eq_true rfl) ?_
        rintro x5 _ ⟨rfl, h6, h7, h8⟩
        refine vc_if_lt dX12_walkable_29 (fun h9 => ?_) (fun h9 => ?_)
        · refine vc_iload_n dX12_walkable_52 rfl ?_
          refine vc_iret dX12_walkable_53 rfl (Nat.le_of_ble_eq_true rfl) (Nat.le_of_ble_eq_true rfl) ?_
          exact ⟨_, rfl, rfl, by omega, by exact g11i0 0 trivial, by omega⟩
        · refine vc_aload_n dX12_walkable_32 rfl ?_
          refine vc_iload_n dX12_walkable_33 rfl ?_
          refine vc_aload_n dX12_walkable_34 rfl ?_
          refine vc_getR dX12_walkable_35 flX12_7 (s_54 hB0.1.1) rfl (r_54_0 hB0.1.1) ?_
          refine vc_sipush dX12_walkable_38 rfl ?_
          refine vc_iaload dX12_walkable_41 (s_55 hB0.1.1) (by omega) (by omega) ?_
          refine vc_topI (mI M 55 257) rfl ?_
          refine vc_cVI dX12_walkable_42 (sfX12_streetOf (M := M) hB0.1  v2 (mI M 55 257) (by omega) (by omega) (by omega) (by omega)) rfl okX12_streetOf viX12_streetOf lkX12_91 (s_54 hB0.1.1) cl_12 rfl (Nat.le_of_ble_eq_true rfl) ⟨rfl, rfl⟩ (Nat.le_of_ble_eq_true rfl) (Nat.le_of_ble_eq_true rfl) (Nat.le_of_ble_eq_true rfl) ?_
          rintro x10 _ ⟨rfl, h11, h12, h13⟩
          have hxx := h13.symm
          refine vc_istore_n dX12_walkable_45 (by decide) rfl (show _ = [some (aR 54), some (aI n), some (aI x10), some (aI v3)] from rfl) ?_
          refine vc_iincE dX12_walkable_46 rfl (by omega) (by omega) (by decide) rfl (show _ = [some (aR 54), some (aI n), some (aI x10), some (aI (v3 + 1))] from rfl) ?_
          refine vc_goto dX12_walkable_49 ?_
          exact ih11 x10 (v3 + 1) (by omega) (by omega) (by omega) (by first | (intro m hm; rw [show (0 : Int).toNat + m = m from Nat.zero_add m]; subst_vars; exact hm) | (intro m hm; have q := g11i0 (m + 1) ⟨by omega, by omega, by rw [hxx]; omega, by rw [hxx]; exact hm⟩; rw [show (v3 + 1).toNat + m = v3.toNat + (m + 1) by omega]; exact q)) (by omega) (by omega)
  exact lp11 _ x2 0 (by omega) (by omega) (by omega) (by first | (intro m hm; rw [show (0 : Int).toNat + m = m from Nat.zero_add m]; subst_vars; exact hm) | (intro m hm; have q := g11i0 (m + 1) ⟨by omega, by omega, by rw [hxx]; omega, by rw [hxx]; exact hm⟩; rw [show (v3 + 1).toNat + m = v3.toNat + (m + 1) by omega]; exact q)) (by omega) (Nat.lt_succ_self _)

set_option maxRecDepth 4000 in
theorem sfX12_walkSo {l : Launch} {M : Mem} (hB : Box M)  (n : Int) (p0 : WK (mI M 55) (mI M 55 257) n.toNat (mI M 55 256)) : Call l mdX12_walkSo [aR 54, aI n] M (fun q N => q = none ∧ BF fR M N ∧ mI N 57 = mI M 57) := by
  have hB0 : BF fR M M := BF.start hB
  refine Call.of [some (aR 54), some (aI n), none] rfl (Nat.le_of_ble_eq_true rfl) rfl ?_
  refine vc_ok (fun hoM hoS hoL => ?_)
  have hr1 : -2147483648 ≤ n ∧ n < 2147483648 := hoL 1 _ rfl
  refine vc_iconst dX12_walkSo_0 rfl ?_
  refine vc_istore_n dX12_walkSo_1 (by decide) rfl (show _ = [some (aR 54), some (aI n), some (aI 0)] from rfl) ?_
  have lp2 : ∀ (n2 : Nat) (Mq2 : Mem) (v2 : Int), (BF fR M Mq2) → (mI Mq2 57 = mI M 57) → (0 ≤ v2) → (WK (mI Mq2 55) (mI Mq2 55 257) (n - v2).toNat (mI Mq2 55 256)) → (n - v2).toNat < n2 → VC l mdX12_walkSo 2 [some (aR 54), some (aI n), some (aI v2)] [] Mq2 0 0 (fun q N => q = none ∧ BF fR M N ∧ mI N 57 = mI M 57) := by
    intro n2
    induction n2 with
    | zero => intro Mq2 v2 hQ2 kp2_57 g2_2a g2i0 hm2; exact absurd hm2 (Nat.not_lt_zero _)
    | succ n2 ih2 =>
      intro Mq2 v2 hQ2 kp2_57 g2_2a g2i0 hm2
      refine vc_iload_n dX12_walkSo_2 rfl ?_
      refine vc_iload_n dX12_walkSo_3 rfl ?_
      refine vc_icmp_ge dX12_walkSo_4 (fun h1 => ?_) (fun h1 => ?_)
      · refine vc_vret dX12_walkSo_21 rfl (Nat.le_of_ble_eq_true rfl) (Nat.le_of_ble_eq_true rfl) ?_
        exact ⟨rfl, hQ2, kp2_57⟩
      · have hw0 := g2i0
        rw [show (n - v2).toNat = (n - (v2 + 1)).toNat + 1 by omega] at hw0
        have hd := b55_257 hQ2.1
        refine vc_aload_n dX12_walkSo_7 rfl ?_
        refine vc_cVU dX12_walkSo_8 (sfX12_keep (M := Mq2) hQ2.1   ) rfl okX12_keep viX12_keep lkX12_373 (s_54 hQ2.1.1) cl_12 rfl (Nat.le_of_ble_eq_true rfl) ⟨rfl, rfl⟩ (Nat.le_of_ble_eq_true rfl) (Nat.le_of_ble_eq_true rfl) (Nat.le_of_ble_eq_true rfl) ?_
        rintro M2 ⟨hB3, kp4, h5⟩
        have hB6 : BF fR M M2 := BF.go hQ2 hB3
        have kp7 : mI M2 57 = mI M 57 := kp_go kp2_57 kp4
        have e256 := h5 256 (by decide) (by decide)
        have e257 := h5 257 (by decide) (by decide)
        have est := h5
        have hw1 := hw0.1
        have hw2 := hw0.2.1
        refine vc_aload_n dX12_walkSo_11 rfl ?_
        refine vc_cVU dX12_walkSo_12 (sfX12_walkNow (M := M2) hB6.1   (by omega)) rfl okX12_walkNow viX12_walkNow lkX12_382 (s_54 hB6.1.1) cl_12 rfl (Nat.le_of_ble_eq_true rfl) ⟨rfl, rfl⟩ (Nat.le_of_ble_eq_true rfl) (Nat.le_of_ble_eq_true rfl) (Nat.le_of_ble_eq_true rfl) ?_
        rintro M8 ⟨hB9, kp10, h11, h12, h13⟩
        have hB14 : BF fR M M8 := BF.go hB6 hB9
        have kp15 : mI M8 57 = mI M 57 := kp_go kp7 kp10
        have hwn : WK (mI M8 55) (mI M8 55 257) (n - (v2 + 1)).toNat (mI M8 55 256) := by
          rw [h12, h13, e256, e257, est _ (by omega) (by omega)]
          exact WK_co (by omega) (by omega) (fun j a b => (h11 j (by omega)).trans (est j (by omega) (by omega))) _ _ hw0.2.2.2
        refine vc_iincE dX12_walkSo_15 rfl (by omega) (by omega) (by decide) rfl (show _ = [some (aR 54), some (aI n), some (aI (v2 + 1))] from rfl) ?_
        refine vc_goto dX12_walkSo_18 ?_
        exact ih2 M8 (v2 + 1) hB14 kp15 (by omega) (by first | (show WK _ _ (n - 0).toNat _; rw [Int.sub_zero]; exact p0) | exact hwn) (by omega)
  exact lp2 _ M 0 hB0 rfl (by omega) (by first | (show WK _ _ (n - 0).toNat _; rw [Int.sub_zero]; exact p0) | exact hwn) (Nat.lt_succ_self _)

set_option maxRecDepth 4000 in
theorem sfX12_walk {l : Launch} {M : Mem} (hB : Box M)  (n : Int)  : Call l mdX12_walk [aR 54, aI n] M (fun q N => ∃ r : Int, q = some (aI r) ∧ BF fR M N) := by
  have hB0 : BF fR M M := BF.start hB
  refine Call.of [some (aR 54), some (aI n)] rfl (Nat.le_of_ble_eq_true rfl) rfl ?_
  refine vc_ok (fun hoM hoS hoL => ?_)
  have hr1 : -2147483648 ≤ n ∧ n < 2147483648 := hoL 1 _ rfl
  refine vc_aload_n dX12_walk_0 rfl ?_
  refine vc_cVI dX12_walk_1 (sfX12_isWalker (M := M) hB0.1   ) rfl okX12_isWalker viX12_isWalker lkX12_379 (s_54 hB0.1.1) cl_12 rfl (Nat.le_of_ble_eq_true rfl) ⟨rfl, rfl⟩ (Nat.le_of_ble_eq_true rfl) (Nat.le_of_ble_eq_true rfl) (Nat.le_of_ble_eq_true rfl) ?_
  rintro x1 _ ⟨rfl, h2, h3, h4⟩
  refine vc_if_eq dX12_walk_4 (fun h5 => ?_) (fun h5 => ?_)
  · refine vc_iconst dX12_walk_26 rfl ?_
    refine vc_iret dX12_walk_27 rfl (Nat.le_of_ble_eq_true rfl) (Nat.le_of_ble_eq_true rfl) ?_
    exact ⟨_, rfl, hB0⟩
  · refine vc_iload_n dX12_walk_7 rfl ?_
    refine vc_iconst dX12_walk_8 rfl ?_
    refine vc_bipush dX12_walk_9 rfl ?_
    refine vc_cSI dX12_walk_11 (sfX12_isIn (M := M) hB0.1  n 1 20 ) rfl okX12_isIn stX12_isIn lkX12_83 rfl (Nat.le_of_ble_eq_true rfl) ⟨rfl, rfl⟩ (Nat.le_of_ble_eq_true rfl) (Nat.le_of_ble_eq_true rfl) (Nat.le_of_ble_eq_true rfl) ?_
    rintro x6 _ ⟨rfl, h7, h8, h9⟩
    refine vc_if_eq dX12_walk_14 (fun h10 => ?_) (fun h10 => ?_)
    · refine vc_iconst dX12_walk_26 rfl ?_
      refine vc_iret dX12_walk_27 rfl (Nat.le_of_ble_eq_true rfl) (Nat.le_of_ble_eq_true rfl) ?_
      exact ⟨_, rfl, hB0⟩
    · refine vc_aload_n dX12_walk_17 rfl ?_
      refine vc_iload_n dX12_walk_18 rfl ?_
      refine vc_cVI dX12_walk_19 (sfX12_walkable (M := M) hB0.1  n (by omega)) rfl okX12_walkable viX12_walkable lkX12_385 (s_54 hB0.1.1) cl_12 rfl (Nat.le_of_ble_eq_true rfl) ⟨rfl, rfl⟩ (Nat.le_of_ble_eq_true rfl) (Nat.le_of_ble_eq_true rfl) (Nat.le_of_ble_eq_true rfl) ?_
      rintro x11 _ ⟨rfl, h12, h13, h14⟩
      have hwk : ¬ x11 < n → WK (mI M 55) (mI M 55 257) n.toNat (mI M 55 256) := fun q => by rw [show n = x11 by omega]; exact h13
      refine vc_iload_n dX12_walk_22 rfl ?_
      refine vc_icmp_ge dX12_walk_23 (fun h15 => ?_) (fun h15 => ?_)
      · refine vc_aload_n dX12_walk_28 rfl ?_
        refine vc_iload_n dX12_walk_29 rfl ?_
        refine vc_cVU dX12_walk_30 (sfX12_walkSo (M := M) hB0.1  n (by exact hwk (by omega))) rfl okX12_walkSo viX12_walkSo lkX12_388 (s_54 hB0.1.1) cl_12 rfl (Nat.le_of_ble_eq_true rfl) ⟨rfl, rfl⟩ (Nat.le_of_ble_eq_true rfl) (Nat.le_of_ble_eq_true rfl) (Nat.le_of_ble_eq_true rfl) ?_
        rintro M16 ⟨hB17, kp18⟩
        have hB19 : BF fR M M16 := BF.go hB0 hB17
        refine vc_aload_n dX12_walk_33 rfl ?_
        refine vc_getR dX12_walk_34 flX12_7 (s_54 hB19.1.1) rfl (r_54_0 hB19.1.1) ?_
        refine vc_sipush dX12_walk_37 rfl ?_
        refine vc_iaload dX12_walk_40 (s_55 hB19.1.1) (by omega) (by omega) ?_
        refine vc_topI (mI M16 55 256) rfl ?_
        have k20 : (-1) ≤ mI M16 55 256 ∧ mI M16 55 256 ≤ 15 := b55_256 (M := M16) hB19.1
        refine vc_iret dX12_walk_41 rfl (Nat.le_of_ble_eq_true rfl) (Nat.le_of_ble_eq_true rfl) ?_
        exact ⟨_, rfl, hB19⟩
      · refine vc_iconst dX12_walk_26 rfl ?_
        refine vc_iret dX12_walk_27 rfl (Nat.le_of_ble_eq_true rfl) (Nat.le_of_ble_eq_true rfl) ?_
        exact ⟨_, rfl, hB0⟩

set_option maxRecDepth 4000 in
theorem sfX12_turn {l : Launch} {M : Mem} (hB : Box M)  (s : Int)  : Call l mdX12_turn [aR 54, aI s] M (fun q N => ∃ r : Int, q = some (aI r) ∧ BF fR M N ∧ mI N 57 = mI M 57) := by
  have hB0 : BF fR M M := BF.start hB
  refine Call.of [some (aR 54), some (aI s)] rfl (Nat.le_of_ble_eq_true rfl) rfl ?_
  refine vc_ok (fun hoM hoS hoL => ?_)
  have hr1 : -2147483648 ≤ s ∧ s < 2147483648 := hoL 1 _ rfl
  refine vc_aload_n dX12_turn_0 rfl ?_
  refine vc_cVI dX12_turn_1 (sfX12_isWalker (M := M) hB0.1   ) rfl okX12_isWalker viX12_isWalker lkX12_379 (s_54 hB0.1.1) cl_12 rfl (Nat.le_of_ble_eq_true rfl) ⟨rfl, rfl⟩ (Nat.le_of_ble_eq_true rfl) (Nat.le_of_ble_eq_true rfl) (Nat.le_of_ble_eq_true rfl) ?_
  rintro x1 _ ⟨rfl, h2, h3, h4⟩
  refine vc_if_eq dX12_turn_4 (fun h5 => ?_) (fun h5 => ?_)
  · refine vc_iconst dX12_turn_16 rfl ?_
    refine vc_iret dX12_turn_17 rfl (Nat.le_of_ble_eq_true rfl) (Nat.le_of_ble_eq_true rfl) ?_
    exact ⟨_, rfl, hB0, rfl⟩
  · refine vc_iload_n dX12_turn_7 rfl ?_
    refine vc_iconst dX12_turn_8 rfl ?_
    refine vc_iconst dX12_turn_9 rfl ?_
    refine vc_cSI dX12_turn_10 (sfX12_isIn (M := M) hB0.1  s 1 3 ) rfl okX12_isIn stX12_isIn lkX12_83 rfl (Nat.le_of_ble_eq_true rfl) ⟨rfl, rfl⟩ (Nat.le_of_ble_eq_true rfl) (Nat.le_of_ble_eq_true rfl) (Nat.le_of_ble_eq_true rfl) ?_
    rintro x6 _ ⟨rfl, h7, h8, h9⟩
    refine vc_if_ne dX12_turn_13 (fun h10 => ?_) (fun h10 => ?_)
    · refine vc_aload_n dX12_turn_18 rfl ?_
      refine vc_cVU dX12_turn_19 (sfX12_keep (M := M) hB0.1   ) rfl okX12_keep viX12_keep lkX12_373 (s_54 hB0.1.1) cl_12 rfl (Nat.le_of_ble_eq_true rfl) ⟨rfl, rfl⟩ (Nat.le_of_ble_eq_true rfl) (Nat.le_of_ble_eq_true rfl) (Nat.le_of_ble_eq_true rfl) ?_
      rintro M11 ⟨hB12, kp13, h14⟩
      have hB15 : BF fR M M11 := BF.go hB0 hB12
      have kp16 : mI M11 57 = mI M 57 := kp_go rfl kp13
      refine vc_aload_n dX12_turn_22 rfl ?_
      refine vc_getR dX12_turn_23 flX12_7 (s_54 hB15.1.1) rfl (r_54_0 hB15.1.1) ?_
      refine vc_sipush dX12_turn_26 rfl ?_
      refine vc_aload_n dX12_turn_29 rfl ?_
      refine vc_getR dX12_turn_30 flX12_7 (s_54 hB15.1.1) rfl (r_54_0 hB15.1.1) ?_
      refine vc_sipush dX12_turn_33 rfl ?_
      refine vc_iaload dX12_turn_36 (s_55 hB15.1.1) (by omega) (by omega) ?_
      refine vc_topI (mI M11 55 257) rfl ?_
      have k17 : 0 ≤ mI M11 55 257 ∧ mI M11 55 257 ≤ 3 := b55_257 (M := M11) hB15.1
      refine vc_iload_n dX12_turn_37 rfl ?_
      refine vc_cSI dX12_turn_38 (sfX12_turned (M := M11) hB15.1  (mI M11 55 257) s (by omega) (by omega)) rfl okX12_turned stX12_turned lkX12_391 rfl (Nat.le_of_ble_eq_true rfl) ⟨rfl, rfl⟩ (Nat.le_of_ble_eq_true rfl) (Nat.le_of_ble_eq_true rfl) (Nat.le_of_ble_eq_true rfl) ?_
      rintro x18 _ ⟨rfl, h19, h20⟩
      refine vc_iastore dX12_turn_41 (s_55 hB15.1.1) (by omega) (by omega) ?_
      refine vc_mem (sI M11 55 257 x18) rfl ?_
      have kp21 : mI (sI M11 55 257 x18) 57 = mI M 57 := (kp_sI kp16 rfl)
      have hB22 : BF fR M (sI M11 55 257 x18) := BF.a (x := 257) hB15 (by omega) (by omega) (by unfold aB; refine ⟨?_, ?_, ?_, ?_, ?_, ?_, ?_, ?_, ?_, ?_, ?_, ?_, ?_, ?_, ?_, ?_, ?_, ?_⟩ <;> intros <;> omega) (by omega) (by omega) (by omega) (by omega) (by omega) (by omega) fR_55
      refine vc_aload_n dX12_turn_42 rfl ?_
      refine vc_getR dX12_turn_43 flX12_7 (s_54 hB22.1.1) rfl (r_54_0 hB22.1.1) ?_
      refine vc_sipush dX12_turn_46 rfl ?_
      refine vc_iaload dX12_turn_49 (s_55 hB22.1.1) (by omega) (by omega) ?_
      refine vc_topI (x18) rfl ?_
      refine vc_iret dX12_turn_50 rfl (Nat.le_of_ble_eq_true rfl) (Nat.le_of_ble_eq_true rfl) ?_
      exact ⟨_, rfl, hB22, kp21⟩
    · refine vc_iconst dX12_turn_16 rfl ?_
      refine vc_iret dX12_turn_17 rfl (Nat.le_of_ble_eq_true rfl) (Nat.le_of_ble_eq_true rfl) ?_
      exact ⟨_, rfl, hB0, rfl⟩

set_option maxRecDepth 4000 in
theorem sfX12_askNow {l : Launch} {M : Mem} (hB : Box M)  (t : Int) (p0 : 0 ≤ t) (p1 : t ≤ 5) : Call l mdX12_askNow [aR 54, aI t] M (fun q N => q = none ∧ BF fR M N ∧ mI N 57 = mI M 57) := by
  have hB0 : BF fR M M := BF.start hB
  refine Call.of [some (aR 54), some (aI t)] rfl (Nat.le_of_ble_eq_true rfl) rfl ?_
  refine vc_aload_n dX12_askNow_0 rfl ?_
  refine vc_getR dX12_askNow_1 flX12_7 (s_54 hB0.1.1) rfl (r_54_0 hB0.1.1) ?_
  refine vc_sipush dX12_askNow_4 rfl ?_
  refine vc_dup2 dX12_askNow_7 rfl rfl ?_
  refine vc_iaload dX12_askNow_8 (s_55 hB0.1.1) (by omega) (by omega) ?_
  refine vc_topI (mI M 55 258) rfl ?_
  refine vc_aload_n dX12_askNow_9 rfl ?_
  refine vc_iload_n dX12_askNow_10 rfl ?_
  refine vc_cVI dX12_askNow_11 (sfX12_asksOf (M := M) hB0.1  t (by omega) (by omega)) rfl okX12_asksOf viX12_asksOf lkX12_394 (s_54 hB0.1.1) cl_12 rfl (Nat.le_of_ble_eq_true rfl) ⟨rfl, rfl⟩ (Nat.le_of_ble_eq_true rfl) (Nat.le_of_ble_eq_true rfl) (Nat.le_of_ble_eq_true rfl) ?_
  rintro x1 M2 ⟨hB3, kp4, kp5, kp6, kp7, kp8, kp9⟩
  have hB10 : BF fR M M2 := BF.go hB0 hB3.sq.r
  have kp11 : mI M2 57 = mI M 57 := kp_go rfl kp6
  refine vc_iadd dX12_askNow_14 ?_
  refine vc_iastore dX12_askNow_15 (s_55 hB10.1.1) (by omega) (by omega) ?_
  refine vc_mem (sI M2 55 258 (wI ((mI M 55 258) + x1))) rfl ?_
  have kp12 : mI (sI M2 55 258 (wI ((mI M 55 258) + x1))) 57 = mI M 57 := (kp_sI kp11 rfl)
  have hB13 : BF fR M (sI M2 55 258 (wI ((mI M 55 258) + x1))) := BF.a (x := 258) hB10 (by omega) (by omega) (by unfold aB; refine ⟨?_, ?_, ?_, ?_, ?_, ?_, ?_, ?_, ?_, ?_, ?_, ?_, ?_, ?_, ?_, ?_, ?_, ?_⟩ <;> intros <;> omega) (by omega) (by omega) (by omega) (by omega) (by omega) (by omega) fR_55
  refine vc_aload_n dX12_askNow_16 rfl ?_
  refine vc_getR dX12_askNow_17 flX12_7 (s_54 hB13.1.1) rfl (r_54_0 hB13.1.1) ?_
  refine vc_sipush dX12_askNow_20 rfl ?_
  refine vc_iconst dX12_askNow_23 rfl ?_
  refine vc_iload_n dX12_askNow_24 rfl ?_
  refine vc_imulE dX12_askNow_25 (by omega) (by omega) ?_
  refine vc_iaddE dX12_askNow_26 (by omega) (by omega) ?_
  refine vc_iconst dX12_askNow_27 rfl ?_
  refine vc_iaddE dX12_askNow_28 (by omega) (by omega) ?_
  refine vc_dup2 dX12_askNow_29 rfl rfl ?_
  refine vc_iaload dX12_askNow_30 (s_55 hB13.1.1) (by omega) (by omega) ?_
  refine vc_iconst dX12_askNow_31 rfl ?_
  refine vc_iadd dX12_askNow_32 ?_
  refine vc_iastore dX12_askNow_33 (s_55 hB13.1.1) (by omega) (by omega) ?_
  have kp14 : mI (sI (sI M2 55 258 (wI ((mI M 55 258) + x1))) 55 (((154 + (5 * t)) + 4).toNat) (wI ((mI (sI M2 55 258 (wI ((mI M 55 258) + x1))) 55 (((154 + (5 * t)) + 4).toNat)) + 1))) 57 = mI M 57 := (kp_sI kp12 rfl)
  have hB15 : BF fR M (sI (sI M2 55 258 (wI ((mI M 55 258) + x1))) 55 (((154 + (5 * t)) + 4).toNat) (wI ((mI (sI M2 55 258 (wI ((mI M 55 258) + x1))) 55 (((154 + (5 * t)) + 4).toNat)) + 1))) := BF.a (x := (154 + (5 * t)) + 4) hB13 (by omega) (by omega) (by unfold aB; refine ⟨?_, ?_, ?_, ?_, ?_, ?_, ?_, ?_, ?_, ?_, ?_, ?_, ?_, ?_, ?_, ?_, ?_, ?_⟩ <;> intros <;> omega) (by omega) (by omega) (by omega) (by omega) (by omega) (by omega) fR_55
  refine vc_vret dX12_askNow_34 rfl (Nat.le_of_ble_eq_true rfl) (Nat.le_of_ble_eq_true rfl) ?_
  exact ⟨rfl, hB15, kp14⟩

set_option maxRecDepth 4000 in
theorem sfX12_ask {l : Launch} {M : Mem} (hB : Box M)  (t : Int)  : Call l mdX12_ask [aR 54, aI t] M (fun q N => ∃ r : Int, q = some (aI r) ∧ BF fR M N ∧ mI N 57 = mI M 57) := by
  have hB0 : BF fR M M := BF.start hB
  refine Call.of [some (aR 54), some (aI t)] rfl (Nat.le_of_ble_eq_true rfl) rfl ?_
  refine vc_ok (fun hoM hoS hoL => ?_)
  have hr1 : -2147483648 ≤ t ∧ t < 2147483648 := hoL 1 _ rfl
  refine vc_aload_n dX12_ask_0 rfl ?_
  refine vc_iload_n dX12_ask_1 rfl ?_
  refine vc_cVI dX12_ask_2 (sfX12_isTeller (M := M) hB0.1  t ) rfl okX12_isTeller viX12_isTeller lkX12_103 (s_54 hB0.1.1) cl_12 rfl (Nat.le_of_ble_eq_true rfl) ⟨rfl, rfl⟩ (Nat.le_of_ble_eq_true rfl) (Nat.le_of_ble_eq_true rfl) (Nat.le_of_ble_eq_true rfl) ?_
  rintro x1 _ ⟨rfl, h2, h3, h4⟩
  refine vc_if_eq dX12_ask_5 (fun h5 => ?_) (fun h5 => ?_)
  · refine vc_iconst dX12_ask_31 rfl ?_
    refine vc_iret dX12_ask_32 rfl (Nat.le_of_ble_eq_true rfl) (Nat.le_of_ble_eq_true rfl) ?_
    exact ⟨_, rfl, hB0, rfl⟩
  · refine vc_aload_n dX12_ask_8 rfl ?_
    refine vc_cVI dX12_ask_9 (sfX12_isWalker (M := M) hB0.1   ) rfl okX12_isWalker viX12_isWalker lkX12_379 (s_54 hB0.1.1) cl_12 rfl (Nat.le_of_ble_eq_true rfl) ⟨rfl, rfl⟩ (Nat.le_of_ble_eq_true rfl) (Nat.le_of_ble_eq_true rfl) (Nat.le_of_ble_eq_true rfl) ?_
    rintro x6 _ ⟨rfl, h7, h8, h9⟩
    refine vc_if_eq dX12_ask_12 (fun h10 => ?_) (fun h10 => ?_)
    · refine vc_iconst dX12_ask_31 rfl ?_
      refine vc_iret dX12_ask_32 rfl (Nat.le_of_ble_eq_true rfl) (Nat.le_of_ble_eq_true rfl) ?_
      exact ⟨_, rfl, hB0, rfl⟩
    · refine vc_aload_n dX12_ask_15 rfl ?_
      refine vc_iload_n dX12_ask_16 rfl ?_
      refine vc_cVI dX12_ask_17 (sfX12_cornerOf (M := M) hB0.1  t (by omega) (by omega)) rfl okX12_cornerOf viX12_cornerOf lkX12_296 (s_54 hB0.1.1) cl_12 rfl (Nat.le_of_ble_eq_true rfl) ⟨rfl, rfl⟩ (Nat.le_of_ble_eq_true rfl) (Nat.le_of_ble_eq_true rfl) (Nat.le_of_ble_eq_true rfl) ?_
      rintro x11 _ ⟨rfl, h12, h13⟩
      refine vc_aload_n dX12_ask_20 rfl ?_
      refine vc_getR dX12_ask_21 flX12_7 (s_54 hB0.1.1) rfl (r_54_0 hB0.1.1) ?_
      refine vc_sipush dX12_ask_24 rfl ?_
      refine vc_iaload dX12_ask_27 (s_55 hB0.1.1) (by omega) (by omega) ?_
      refine vc_topI (mI M 55 256) rfl ?_
      have k14 : (-1) ≤ mI M 55 256 ∧ mI M 55 256 ≤ 15 := b55_256 (M := M) hB0.1
      refine vc_icmp_eq dX12_ask_28 (fun h15 => ?_) (fun h15 => ?_)
      · refine vc_aload_n dX12_ask_33 rfl ?_
        refine vc_cVU dX12_ask_34 (sfX12_keep (M := M) hB0.1   ) rfl okX12_keep viX12_keep lkX12_373 (s_54 hB0.1.1) cl_12 rfl (Nat.le_of_ble_eq_true rfl) ⟨rfl, rfl⟩ (Nat.le_of_ble_eq_true rfl) (Nat.le_of_ble_eq_true rfl) (Nat.le_of_ble_eq_true rfl) ?_
        rintro M16 ⟨hB17, kp18, h19⟩
        have hB20 : BF fR M M16 := BF.go hB0 hB17
        have kp21 : mI M16 57 = mI M 57 := kp_go rfl kp18
        refine vc_aload_n dX12_ask_37 rfl ?_
        refine vc_iload_n dX12_ask_38 rfl ?_
        refine vc_cVU dX12_ask_39 (sfX12_askNow (M := M16) hB20.1  t (by omega) (by omega)) rfl okX12_askNow viX12_askNow lkX12_397 (s_54 hB20.1.1) cl_12 rfl (Nat.le_of_ble_eq_true rfl) ⟨rfl, rfl⟩ (Nat.le_of_ble_eq_true rfl) (Nat.le_of_ble_eq_true rfl) (Nat.le_of_ble_eq_true rfl) ?_
        rintro M22 ⟨hB23, kp24⟩
        have hB25 : BF fR M M22 := BF.go hB20 hB23
        have kp26 : mI M22 57 = mI M 57 := kp_go kp21 kp24
        refine vc_aload_n dX12_ask_42 rfl ?_
        refine vc_getR dX12_ask_43 flX12_7 (s_54 hB25.1.1) rfl (r_54_0 hB25.1.1) ?_
        refine vc_sipush dX12_ask_46 rfl ?_
        refine vc_iconst dX12_ask_49 rfl ?_
        refine vc_iload_n dX12_ask_50 rfl ?_
        refine vc_imulE dX12_ask_51 (by omega) (by omega) ?_
        refine vc_iaddE dX12_ask_52 (by omega) (by omega) ?_
        refine vc_iconst dX12_ask_53 rfl ?_
        refine vc_iaddE dX12_ask_54 (by omega) (by omega) ?_
        refine vc_iaload dX12_ask_55 (s_55 hB25.1.1) (by omega) (by omega) ?_
        refine vc_iret dX12_ask_56 rfl (Nat.le_of_ble_eq_true rfl) (Nat.le_of_ble_eq_true rfl) ?_
        exact ⟨_, rfl, hB25, kp26⟩
      · refine vc_iconst dX12_ask_31 rfl ?_
        refine vc_iret dX12_ask_32 rfl (Nat.le_of_ble_eq_true rfl) (Nat.le_of_ble_eq_true rfl) ?_
        exact ⟨_, rfl, hB0, rfl⟩

set_option maxRecDepth 4000 in
theorem sfX12_follow {l : Launch} {M : Mem} (hB : Box M)  (t : Int)  : Call l mdX12_follow [aR 54, aI t] M (fun q N => ∃ r : Int, q = some (aI r) ∧ BF fR M N ∧ mI N 57 = mI M 57) := by
  have hB0 : BF fR M M := BF.start hB
  refine Call.of [some (aR 54), some (aI t), none] rfl (Nat.le_of_ble_eq_true rfl) rfl ?_
  refine vc_ok (fun hoM hoS hoL => ?_)
  have hr1 : -2147483648 ≤ t ∧ t < 2147483648 := hoL 1 _ rfl
  refine vc_aload_n dX12_follow_0 rfl ?_
  refine vc_iload_n dX12_follow_1 rfl ?_
  refine vc_cVI dX12_follow_2 (sfX12_isTelling (M := M) hB0.1  t ) rfl okX12_isTelling viX12_isTelling lkX12_400 (s_54 hB0.1.1) cl_12 rfl (Nat.le_of_ble_eq_true rfl) ⟨rfl, rfl⟩ (Nat.le_of_ble_eq_true rfl) (Nat.le_of_ble_eq_true rfl) (Nat.le_of_ble_eq_true rfl) ?_
  rintro x1 _ ⟨rfl, h2, h3, h4⟩
  refine vc_if_eq dX12_follow_5 (fun h5 => ?_) (fun h5 => ?_)
  · refine vc_iconst dX12_follow_15 rfl ?_
    refine vc_iret dX12_follow_16 rfl (Nat.le_of_ble_eq_true rfl) (Nat.le_of_ble_eq_true rfl) ?_
    exact ⟨_, rfl, hB0, rfl⟩
  · refine vc_aload_n dX12_follow_8 rfl ?_
    refine vc_cVI dX12_follow_9 (sfX12_isWalker (M := M) hB0.1   ) rfl okX12_isWalker viX12_isWalker lkX12_379 (s_54 hB0.1.1) cl_12 rfl (Nat.le_of_ble_eq_true rfl) ⟨rfl, rfl⟩ (Nat.le_of_ble_eq_true rfl) (Nat.le_of_ble_eq_true rfl) (Nat.le_of_ble_eq_true rfl) ?_
    rintro x6 _ ⟨rfl, h7, h8, h9⟩
    refine vc_if_ne dX12_follow_12 (fun h10 => ?_) (fun h10 => ?_)
    · refine vc_aload_n dX12_follow_17 rfl ?_
      refine vc_cVU dX12_follow_18 (sfX12_keep (M := M) hB0.1   ) rfl okX12_keep viX12_keep lkX12_373 (s_54 hB0.1.1) cl_12 rfl (Nat.le_of_ble_eq_true rfl) ⟨rfl, rfl⟩ (Nat.le_of_ble_eq_true rfl) (Nat.le_of_ble_eq_true rfl) (Nat.le_of_ble_eq_true rfl) ?_
      rintro M11 ⟨hB12, kp13, h14⟩
      have hB15 : BF fR M M11 := BF.go hB0 hB12
      have kp16 : mI M11 57 = mI M 57 := kp_go rfl kp13
      have f3 := h14 3 (by decide) (by decide)
      have f256 := h14 256 (by decide) (by decide)
      have hcn := aB_cnt (t := t) hB15.1 (by omega) (by omega)
      refine vc_aload_n dX12_follow_21 rfl ?_
      refine vc_iload_n dX12_follow_22 rfl ?_
      refine vc_iconst dX12_follow_23 rfl ?_
      refine vc_cVU dX12_follow_24 (sfX12_takeTurns (M := M11) hB15.1  t (-1) (by omega) (by omega)) rfl okX12_takeTurns viX12_takeTurns lkX12_364 (s_54 hB15.1.1) cl_12 rfl (Nat.le_of_ble_eq_true rfl) ⟨rfl, rfl⟩ (Nat.le_of_ble_eq_true rfl) (Nat.le_of_ble_eq_true rfl) (Nat.le_of_ble_eq_true rfl) ?_
      rintro M17 ⟨hB18, kp19, kp20, h21, h22⟩
      have hB23 : BF fR M M17 := BF.go hB15 hB18.sq.r
      have kp24 : mI M17 57 = mI M 57 := kp_go kp16 kp20
      have f7 := congrFun kp19 256
      refine vc_aload_n dX12_follow_27 rfl ?_
      refine vc_aload_n dX12_follow_28 rfl ?_
      refine vc_getR dX12_follow_29 flX12_7 (s_54 hB23.1.1) rfl (r_54_0 hB23.1.1) ?_
      refine vc_sipush dX12_follow_32 rfl ?_
      refine vc_iaload dX12_follow_35 (s_55 hB23.1.1) (by omega) (by omega) ?_
      refine vc_topI (mI M17 55 256) rfl ?_
      have k25 : (-1) ≤ mI M17 55 256 ∧ mI M17 55 256 ≤ 15 := b55_256 (M := M17) hB23.1
      refine vc_aload_n dX12_follow_36 rfl ?_
      refine vc_getR dX12_follow_37 flX12_7 (s_54 hB23.1.1) rfl (r_54_0 hB23.1.1) ?_
      refine vc_sipush dX12_follow_40 rfl ?_
      refine vc_iaload dX12_follow_43 (s_55 hB23.1.1) (by omega) (by omega) ?_
      refine vc_topI (mI M17 55 257) rfl ?_
      have k26 : 0 ≤ mI M17 55 257 ∧ mI M17 55 257 ≤ 3 := b55_257 (M := M17) hB23.1
      refine vc_cVU dX12_follow_44 (sfX12_begin (M := M17) hB23.1  (mI M17 55 256) (mI M17 55 257) (by omega) (by omega) (by omega) (by omega)) rfl okX12_begin viX12_begin lkX12_367 (s_54 hB23.1.1) cl_12 rfl (Nat.le_of_ble_eq_true rfl) ⟨rfl, rfl⟩ (Nat.le_of_ble_eq_true rfl) (Nat.le_of_ble_eq_true rfl) (Nat.le_of_ble_eq_true rfl) ?_
      rintro M27 ⟨hB28, kp29, kp30, h31⟩
      have hB32 : BF fR M M27 := BF.go hB23 hB28.sq.r
      have kp33 : mI M27 57 = mI M 57 := kp_go kp24 kp30
      refine vc_aload_n dX12_follow_47 rfl ?_
      refine vc_iconst dX12_follow_48 rfl ?_
      refine vc_putI dX12_follow_49 (plX12_339 _ rfl) (s_54 hB32.1.1) rfl ?_
      have kp34 : mI (sI M27 54 30 (-1)) 57 = mI M 57 := (kp_sI kp33 rfl)
      have hB35 : BF fR M (sI M27 54 30 (-1)) := BF.w54_30 hB32 rfl
      refine vc_aload_n dX12_follow_52 rfl ?_
      refine vc_iconst dX12_follow_53 rfl ?_
      have k36 : mI (sI M27 54 30 (-1)) 54 32 = mI M27 54 32 := rfl
      refine vc_cVI dX12_follow_54 (sfX12_goAll (M := (sI M27 54 30 (-1))) hB35.1  0 (by omega)) rfl okX12_goAll viX12_goAll lkX12_370 (s_54 hB35.1.1) cl_12 rfl (Nat.le_of_ble_eq_true rfl) ⟨rfl, rfl⟩ (Nat.le_of_ble_eq_true rfl) (Nat.le_of_ble_eq_true rfl) (Nat.le_of_ble_eq_true rfl) ?_
      rintro x37 M38 ⟨hB39, kp40, kp41, h42, h43, h44⟩
      have hB45 : BF fR M M38 := BF.go hB35 hB39.sq.r
      have kp46 : mI M38 57 = mI M 57 := kp_go kp34 kp41
      refine vc_istore_n dX12_follow_57 (by decide) rfl (show _ = [some (aR 54), some (aI t), some (aI x37)] from rfl) ?_
      refine vc_aload_n dX12_follow_58 rfl ?_
      refine vc_getR dX12_follow_59 flX12_7 (s_54 hB45.1.1) rfl (r_54_0 hB45.1.1) ?_
      refine vc_sipush dX12_follow_62 rfl ?_
      refine vc_aload_n dX12_follow_65 rfl ?_
      refine vc_getI dX12_follow_66 flX12_321 (s_54 hB45.1.1) rfl ?_
      have k47 : 0 ≤ mI M38 54 24 ∧ mI M38 54 24 ≤ 15 := b54_24 (M := M38) hB45.1
      refine vc_iastore dX12_follow_69 (s_55 hB45.1.1) (by omega) (by omega) ?_
      refine vc_mem (sI M38 55 256 (mI M38 54 24)) rfl ?_
      have kp48 : mI (sI M38 55 256 (mI M38 54 24)) 57 = mI M 57 := (kp_sI kp46 rfl)
      have hB49 : BF fR M (sI M38 55 256 (mI M38 54 24)) := BF.a (x := 256) hB45 (by omega) (by omega) (by unfold aB; refine ⟨?_, ?_, ?_, ?_, ?_, ?_, ?_, ?_, ?_, ?_, ?_, ?_, ?_, ?_, ?_, ?_, ?_, ?_⟩ <;> intros <;> omega) (by omega) (by omega) (by omega) (by omega) (by omega) (by omega) fR_55
      refine vc_aload_n dX12_follow_70 rfl ?_
      refine vc_getR dX12_follow_71 flX12_7 (s_54 hB49.1.1) rfl (r_54_0 hB49.1.1) ?_
      refine vc_sipush dX12_follow_74 rfl ?_
      refine vc_aload_n dX12_follow_77 rfl ?_
      refine vc_getI dX12_follow_78 flX12_324 (s_54 hB49.1.1) rfl ?_
      refine vc_topI (mI M38 54 25) rfl ?_
      have k50 : 0 ≤ mI M38 54 25 ∧ mI M38 54 25 ≤ 3 := b54_25 (M := (sI M38 55 256 (mI M38 54 24))) hB49.1
      refine vc_iastore dX12_follow_81 (s_55 hB49.1.1) (by omega) (by omega) ?_
      refine vc_mem (sI (sI M38 55 256 (mI M38 54 24)) 55 257 (mI M38 54 25)) rfl ?_
      have kp51 : mI (sI (sI M38 55 256 (mI M38 54 24)) 55 257 (mI M38 54 25)) 57 = mI M 57 := (kp_sI kp48 rfl)
      have hB52 : BF fR M (sI (sI M38 55 256 (mI M38 54 24)) 55 257 (mI M38 54 25)) := BF.a (x := 257) hB49 (by omega) (by omega) (by unfold aB; refine ⟨?_, ?_, ?_, ?_, ?_, ?_, ?_, ?_, ?_, ?_, ?_, ?_, ?_, ?_, ?_, ?_, ?_, ?_⟩ <;> intros <;> omega) (by omega) (by omega) (by omega) (by omega) (by omega) (by omega) fR_55
      refine vc_aload_n dX12_follow_82 rfl ?_
      refine vc_getR dX12_follow_83 flX12_7 (s_54 hB52.1.1) rfl (r_54_0 hB52.1.1) ?_
      refine vc_sipush dX12_follow_86 rfl ?_
      refine vc_dup2 dX12_follow_89 rfl rfl ?_
      refine vc_iaload dX12_follow_90 (s_55 hB52.1.1) (by omega) (by omega) ?_
      refine vc_topI (mI M38 55 258) rfl ?_
      refine vc_aload_n dX12_follow_91 rfl ?_
      refine vc_getI dX12_follow_92 flX12_327 (s_54 hB52.1.1) rfl ?_
      refine vc_topI (mI M38 54 26) rfl ?_
      refine vc_iadd dX12_follow_95 ?_
      refine vc_iastore dX12_follow_96 (s_55 hB52.1.1) (by omega) (by omega) ?_
      refine vc_mem (sI (sI (sI M38 55 256 (mI M38 54 24)) 55 257 (mI M38 54 25)) 55 258 (wI ((mI M38 55 258) + (mI M38 54 26)))) rfl ?_
      have kp53 : mI (sI (sI (sI M38 55 256 (mI M38 54 24)) 55 257 (mI M38 54 25)) 55 258 (wI ((mI M38 55 258) + (mI M38 54 26)))) 57 = mI M 57 := (kp_sI kp51 rfl)
      have hB54 : BF fR M (sI (sI (sI M38 55 256 (mI M38 54 24)) 55 257 (mI M38 54 25)) 55 258 (wI ((mI M38 55 258) + (mI M38 54 26)))) := BF.a (x := 258) hB52 (by omega) (by omega) (by unfold aB; refine ⟨?_, ?_, ?_, ?_, ?_, ?_, ?_, ?_, ?_, ?_, ?_, ?_, ?_, ?_, ?_, ?_, ?_, ?_⟩ <;> intros <;> omega) (by omega) (by omega) (by omega) (by omega) (by omega) (by omega) fR_55
      refine vc_iload_n dX12_follow_97 rfl ?_
      refine vc_if_eq dX12_follow_98 (fun h55 => ?_) (fun h55 => ?_)
      · refine vc_iconst dX12_follow_105 rfl ?_
        refine vc_iret dX12_follow_106 rfl (Nat.le_of_ble_eq_true rfl) (Nat.le_of_ble_eq_true rfl) ?_
        have k56 : mI (sI (sI (sI M38 55 256 (mI M38 54 24)) 55 257 (mI M38 54 25)) 55 258 (wI ((mI M38 55 258) + (mI M38 54 26)))) 54 32 = mI M38 54 32 := rfl
        exact ⟨_, rfl, hB54, kp53⟩
      · refine vc_iconst dX12_follow_101 rfl ?_
        refine vc_goto dX12_follow_102 ?_
        refine vc_iret dX12_follow_106 rfl (Nat.le_of_ble_eq_true rfl) (Nat.le_of_ble_eq_true rfl) ?_
        have k57 : mI (sI (sI (sI M38 55 256 (mI M38 54 24)) 55 257 (mI M38 54 25)) 55 258 (wI ((mI M38 55 258) + (mI M38 54 26)))) 54 32 = mI M38 54 32 := rfl
        exact ⟨_, rfl, hB54, kp53⟩
    · refine vc_iconst dX12_follow_15 rfl ?_
      refine vc_iret dX12_follow_16 rfl (Nat.le_of_ble_eq_true rfl) (Nat.le_of_ble_eq_true rfl) ?_
      exact ⟨_, rfl, hB0, rfl⟩

set_option maxRecDepth 4000 in
theorem sfX12_isWalked {l : Launch} {M : Mem} (hB : Box M)  (n : Int)  : Call l mdX12_isWalked [aR 54, aI n] M (fun q N => ∃ r : Int, q = some (aI r) ∧ BF fR M N ∧ mI N 57 = mI M 57 ∧ 0 ≤ r ∧ r ≤ 1) := by
  have hB0 : BF fR M M := BF.start hB
  refine Call.of [some (aR 54), some (aI n), none] rfl (Nat.le_of_ble_eq_true rfl) rfl ?_
  refine vc_ok (fun hoM hoS hoL => ?_)
  have hr1 : -2147483648 ≤ n ∧ n < 2147483648 := hoL 1 _ rfl
  refine vc_aload_n dX12_isWalked_0 rfl ?_
  refine vc_cVI dX12_isWalked_1 (sfX12_isWalker (M := M) hB0.1   ) rfl okX12_isWalker viX12_isWalker lkX12_379 (s_54 hB0.1.1) cl_12 rfl (Nat.le_of_ble_eq_true rfl) ⟨rfl, rfl⟩ (Nat.le_of_ble_eq_true rfl) (Nat.le_of_ble_eq_true rfl) (Nat.le_of_ble_eq_true rfl) ?_
  rintro x1 _ ⟨rfl, h2, h3, h4⟩
  refine vc_if_ne dX12_isWalked_4 (fun h5 => ?_) (fun h5 => ?_)
  · refine vc_aload_n dX12_isWalked_9 rfl ?_
    refine vc_iload_n dX12_isWalked_10 rfl ?_
    refine vc_cVI dX12_isWalked_11 (sfX12_walkable (M := M) hB0.1  n (by omega)) rfl okX12_walkable viX12_walkable lkX12_385 (s_54 hB0.1.1) cl_12 rfl (Nat.le_of_ble_eq_true rfl) ⟨rfl, rfl⟩ (Nat.le_of_ble_eq_true rfl) (Nat.le_of_ble_eq_true rfl) (Nat.le_of_ble_eq_true rfl) ?_
    rintro x6 _ ⟨rfl, h7, h8, h9⟩
    refine vc_istore_n dX12_isWalked_14 (by decide) rfl (show _ = [some (aR 54), some (aI n), some (aI x6)] from rfl) ?_
    refine vc_aload_n dX12_isWalked_15 rfl ?_
    refine vc_iload_n dX12_isWalked_16 rfl ?_
    refine vc_cVU dX12_isWalked_17 (sfX12_walkSo (M := M) hB0.1  x6 (by assumption)) rfl okX12_walkSo viX12_walkSo lkX12_388 (s_54 hB0.1.1) cl_12 rfl (Nat.le_of_ble_eq_true rfl) ⟨rfl, rfl⟩ (Nat.le_of_ble_eq_true rfl) (Nat.le_of_ble_eq_true rfl) (Nat.le_of_ble_eq_true rfl) ?_
    rintro M10 ⟨hB11, kp12⟩
    have hB13 : BF fR M M10 := BF.go hB0 hB11
    have kp14 : mI M10 57 = mI M 57 := kp_go rfl kp12
    refine vc_iload_n dX12_isWalked_20 rfl ?_
    refine vc_iload_n dX12_isWalked_21 rfl ?_
    refine vc_icmp_ne dX12_isWalked_22 (fun h15 => ?_) (fun h15 => ?_)
    · refine vc_iconst dX12_isWalked_29 rfl ?_
      refine vc_zret dX12_isWalked_30 rfl (by first | decide | omega) (Nat.le_of_ble_eq_true rfl) (Nat.le_of_ble_eq_true rfl) ?_
      exact ⟨_, rfl, hB13, kp14, by omega, by omega⟩
    · refine vc_iconst dX12_isWalked_25 rfl ?_
      refine vc_goto dX12_isWalked_26 ?_
      refine vc_zret dX12_isWalked_30 rfl (by first | decide | omega) (Nat.le_of_ble_eq_true rfl) (Nat.le_of_ble_eq_true rfl) ?_
      exact ⟨_, rfl, hB13, kp14, by omega, by omega⟩
  · refine vc_iconst dX12_isWalked_7 rfl ?_
    refine vc_zret dX12_isWalked_8 rfl (by first | decide | omega) (Nat.le_of_ble_eq_true rfl) (Nat.le_of_ble_eq_true rfl) ?_
    exact ⟨_, rfl, hB0, rfl, by omega, by omega⟩
