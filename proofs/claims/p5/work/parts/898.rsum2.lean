theorem cd41 {v : Int} (h : v = 41 ∨ v = 43) : (if v = 43 then 41 else if v = 44 then 42 else v) = (41 : Int) := by
  rcases h with h | h <;> subst h <;> rfl
theorem cd42 {v : Int} (h : v = 42 ∨ v = 44) : (if v = 43 then 41 else if v = 44 then 42 else v) = (42 : Int) := by
  rcases h with h | h <;> subst h <;> rfl
theorem cd40 {v : Int} (h : v = 40) : (if v = 43 then 41 else if v = 44 then 42 else v) = (40 : Int) := by
  subst h; rfl
theorem pl_at {f : Nat → Int} : ∀ (m k : Nat), plO f m → k < m → (2 ≤ f k ∧ f k ≤ 6) ∨ (40 ≤ f k ∧ f k ≤ 44)
  | 0, _, _, h => absurd h (Nat.not_lt_zero _)
  | m + 1, k, h, hk => by
    by_cases e : k = m
    · rw [e]; exact h.2.1
    · exact pl_at m k h.1 (by omega)
theorem PI.at {M : Mem} {S : Int} {k : Nat} (h : PI M S) (hk : (k : Int) < mI M 54 18) : (2 ≤ mI M 60 k ∧ mI M 60 k ≤ 6) ∨ (40 ≤ mI M 60 k ∧ mI M 60 k ≤ 44) := pl_at _ k h.pl (by omega)
theorem SI0.mk {M N : Mem} {t : List Int} {k : Nat} (h1 : t = stk (mI M 60) k) (h2 : OM (mI M 60) k) (e60 : mI N 60 = mI M 60) (e18 : mI N 54 18 = k) : SI0 N t := by
  unfold SI0
  rw [e60, e18]
  exact ⟨h1, h2⟩
def SUM (g : Nat → Int) (n w : Int) (N : Mem) (p : Int) : Prop := ∃ s q, SJ N s ∧ RT g n N q ∧ ∀ o, Rn (tk g n) (nx g n) w s (decide (mI N 54 20 = 1)) q o → Rn (tk g n) (nx g n) w [] false p o
theorem SUM.bo {g : Nat → Int} {n w : Int} {M N : Mem} {s : List Int} {p q r : Int} (hk : ∀ o, Rn (tk g n) (nx g n) w s (decide (mI M 54 20 = 1)) q o → Rn (tk g n) (nx g n) w [] false p o) (h20 : mI M 54 20 = 0) (h : BO g n w N r q s) (hr : r = 0) : SUM g n w N p := by
  rcases h with ⟨a, s', q', b, c, d⟩ | h
  · rw [dec_f h20] at hk
    exact ⟨s', q', b, c, fun o z => hk o (d o z)⟩
  · exact absurd hr h.1
theorem SUM.bh {g : Nat → Int} {n w : Int} {M N : Mem} {s : List Int} {p q r : Int} (hk : ∀ o, Rn (tk g n) (nx g n) w s (decide (mI M 54 20 = 1)) q o → Rn (tk g n) (nx g n) w [] false p o) (h20 : mI M 54 20 = 1) (h : BH g n w N r q s) (hr : r = 0) : SUM g n w N p := by
  rcases h with ⟨a, s', q', b, c, d⟩ | h
  · rw [dec_t h20] at hk
    exact ⟨s', q', b, c, fun o z => hk o (d o z)⟩
  · omega
theorem SUM.bad {g : Nat → Int} {n w : Int} {M N : Mem} {s : List Int} {p q r : Int} (hk : ∀ o, Rn (tk g n) (nx g n) w s (decide (mI M 54 20 = 1)) q o → Rn (tk g n) (nx g n) w [] false p o) (h20 : mI M 54 20 = 0) (h : BO g n w N r q s) (hr : r ≠ 0) : FR g n N r (sLaw (tk g n) (nx g n) w p) := by
  rcases h with ⟨a, s', q', b, c, d⟩ | ⟨a, b⟩
  · omega
  · rw [dec_f h20] at hk
    exact FRb hr rfl (sLaw_eq (hk _ b))
theorem BH.one {g : Nat → Int} {n w : Int} {N : Mem} {s : List Int} {p r : Int} (h : BH g n w N r p s) (hr : r ≠ 0) : SJ N s ∧ RT g n N p ∧ EOp g n p ∧ (s ≠ [] → Rn (tk g n) (nx g n) w s true p (1, p)) := by
  rcases h with ⟨a, s', q', b, c, d⟩ | h
  · omega
  · exact h.2

set_option maxHeartbeats 4000000 in
set_option maxRecDepth 4000 in
theorem sfX12_shutF {l : Launch} {M : Mem} (hB : Box M) (S : Int) (g : Nat → Int) (n p : Int) (hT : RT g n M p) (t : List Int) (kk : Nat) (hk : t = stk (mI M 60) kk ∧ OM (mI M 60) kk ∧ (kk : Int) < mI M 54 18 ∧ (∀ q : Nat, kk < q → (q : Int) < mI M 54 18 → mI M 60 q < 40) ∧ 40 ≤ mI M 60 kk) (o : Int) (p0 : PI M S) (p1 : mI M 54 14 = 873 * mI M 55 5) (p2 : mI M 54 10 ≤ mI M 54 9) (p3 : mI M 54 11 = 0 ∨ mI M 54 10 < mI M 54 9) (p4 : mI M 54 20 = 1) (p5 : mI M 54 11 ≠ 0) (p6 : ∃ k : Nat, (k : Int) < mI M 54 18 ∧ mI M 60 k = o ∧ ∀ q : Nat, k < q → (q : Int) < mI M 54 18 → mI M 60 q < 40) (p7 : o = 40 ∨ o = 42 ∨ o = 44) (p8 : tk g n p = -259 ∨ tk g n p = 121) : Call l mdX12_shut [aR 54, aI o] M (fun q N => q = none ∧ BF fT M N ∧ mI N 55 = mI M 55 ∧ PI N S ∧ mI M 54 10 < mI N 54 10 ∧ mI N 54 10 ≤ mI N 54 9 ∧ (mI N 54 11 = 0 ∨ mI N 54 10 < mI N 54 9) ∧ mI N 54 14 = mI M 54 14 ∧ mI N 54 16 = mI M 54 16 ∧ mI N 54 21 = mI M 54 21 ∧ (∀ j : Nat, (j : Int) < mI M 54 14 + 265 + 2 * S → mI N 57 j = mI M 57 j) ∧ (SJ N (dm t) ∧ mI N 54 20 = 1 ∧ RT g n N (nx g n p))) := by
  have hB0 : BF fT M M := BF.start hB
  refine Call.of [some (aR 54), some (aI o)] rfl (Nat.le_of_ble_eq_true rfl) rfl ?_
  refine vc_ok (fun hoM hoS hoL => ?_)
  have hr1 : -2147483648 ≤ o ∧ o < 2147483648 := hoL 1 _ rfl
  have hle := p0.len
  have hk9 := b54_9 hB
  have hk5 := b55_5 hB
  have rg1 := RT.rg hT
  refine vc_aload_n dX12_shut_0 rfl ?_
  refine vc_iconst dX12_shut_1 rfl ?_
  refine vc_cVU dX12_shut_2 (sfX12_settlePileF (M := M) hB0.1  S 1 (by omega) (by omega) (by exact p0) (by omega) (by omega)) rfl okX12_settlePile viX12_settlePile lkX12_211 (s_54 hB0.1.1) cl_12 rfl (Nat.le_of_ble_eq_true rfl) ⟨rfl, rfl⟩ (Nat.le_of_ble_eq_true rfl) (Nat.le_of_ble_eq_true rfl) (Nat.le_of_ble_eq_true rfl) ?_
  rintro M2 ⟨hB3, kp4, kp5, h6, h7, h8, h9, h10, h11, h12, h13, h14, h15, h16, h17, h18, h19⟩
  have hB20 : BF fT M M2 := BF.go hB0 hB3
  have kp21 : mI M2 55 = mI M 55 := kp_go rfl kp4
  have fr22 : ∀ j : Nat, (j : Int) < mI M 54 14 + 265 + 2 * S → mI M2 57 j = mI M 57 j := fun j hj => (h15 j (by omega)).trans ((fun _ _ => rfl) j hj)
  have hl2 := h6.len
  obtain ⟨k, k1, k2, k3⟩ := id p6
  have htop := top_at (M := M) (N := M2) kp5 (by omega) (by omega) h16 h17 k1 (by omega) k3
  have htk : mI M2 60 (mI M2 54 18 - 1).toNat = o := by rw [htop, kp5, show ((k : Int) + 1 - 1).toNat = k by omega]; exact k2
  have htop2 := top_at (M := M) (N := M2) (k := kk) kp5 (by omega) (by omega) h16 h17 hk.2.2.1 hk.2.2.2.2 hk.2.2.2.1
  refine vc_aload_n dX12_shut_5 rfl ?_
  refine vc_dup dX12_shut_6 rfl ?_
  refine vc_getI dX12_shut_7 flX12_180 (s_54 hB20.1.1) rfl ?_
  have k23 : 0 ≤ mI M2 54 18 ∧ mI M2 54 18 ≤ 160 := b54_18 (M := M2) hB20.1
  refine vc_iconst dX12_shut_10 rfl ?_
  refine vc_isubE dX12_shut_11 (by omega) (by omega) ?_
  refine vc_putI dX12_shut_12 (plX12_180 _ rfl) (s_54 hB20.1.1) rfl ?_
  have kp24 : mI (sI M2 54 18 ((mI M2 54 18) - 1)) 55 = mI M 55 := (kp_sI kp21 rfl)
  have hB25 : BF fT M (sI M2 54 18 ((mI M2 54 18) - 1)) := BF.w54_18 hB20 rfl (by omega) (by omega)
  refine vc_aload_n dX12_shut_15 rfl ?_
  refine vc_dup dX12_shut_16 rfl ?_
  refine vc_getI dX12_shut_17 flX12_190 (s_54 hB25.1.1) rfl ?_
  refine vc_topI (mI M2 54 19) rfl ?_
  refine vc_iconst dX12_shut_20 rfl ?_
  refine vc_isubE dX12_shut_21 (by omega) (by omega) ?_
  refine vc_putI dX12_shut_22 (plX12_190 _ rfl) (s_54 hB25.1.1) rfl ?_
  have kp26 : mI (sI (sI M2 54 18 ((mI M2 54 18) - 1)) 54 19 ((mI M2 54 19) - 1)) 55 = mI M 55 := (kp_sI kp24 rfl)
  have hB27 : BF fT M (sI (sI M2 54 18 ((mI M2 54 18) - 1)) 54 19 ((mI M2 54 19) - 1)) := BF.w54_19 hB25 rfl
  refine vc_iload_n dX12_shut_25 rfl ?_
  refine vc_bipush dX12_shut_26 rfl ?_
  refine vc_icmp_eq dX12_shut_28 (fun h28 => ?_) (fun h28 => ?_)
  · refine vc_aload_n dX12_shut_49 rfl ?_
    have hgf := RT.gf hT hB27.2.2
    have hat0 := RT.at hT (by omega)
    have hrg0 := RT.rg hT
    have k29 : mI (sI (sI M2 54 18 ((mI M2 54 18) - 1)) 54 19 ((mI M2 54 19) - 1)) 54 9 = mI M2 54 9 := rfl
    have k30 : mI (sI (sI M2 54 18 ((mI M2 54 18) - 1)) 54 19 ((mI M2 54 19) - 1)) 54 10 = mI M2 54 10 := rfl
    have k31 : mI (sI (sI M2 54 18 ((mI M2 54 18) - 1)) 54 19 ((mI M2 54 19) - 1)) 54 11 = mI M2 54 11 := rfl
    have k32 : mI (sI (sI M2 54 18 ((mI M2 54 18) - 1)) 54 19 ((mI M2 54 19) - 1)) 54 14 = mI M2 54 14 := rfl
    have k33 : mI (sI (sI M2 54 18 ((mI M2 54 18) - 1)) 54 19 ((mI M2 54 19) - 1)) 54 15 = mI M2 54 15 := rfl
    have k34 : mI (sI (sI M2 54 18 ((mI M2 54 18) - 1)) 54 19 ((mI M2 54 19) - 1)) 54 16 = mI M2 54 16 := rfl
    have k35 : mI (sI (sI M2 54 18 ((mI M2 54 18) - 1)) 54 19 ((mI M2 54 19) - 1)) 54 18 = (mI M2 54 18) - 1 := rfl
    have k36 : mI (sI (sI M2 54 18 ((mI M2 54 18) - 1)) 54 19 ((mI M2 54 19) - 1)) 54 19 = (mI M2 54 19) - 1 := rfl
    have k37 : mI (sI (sI M2 54 18 ((mI M2 54 18) - 1)) 54 19 ((mI M2 54 19) - 1)) 54 20 = mI M2 54 20 := rfl
    have k38 : mI (sI (sI M2 54 18 ((mI M2 54 18) - 1)) 54 19 ((mI M2 54 19) - 1)) 54 21 = mI M2 54 21 := rfl
    refine vc_cVU dX12_shut_50 (sfX12_nextTokenF (M := (sI (sI M2 54 18 ((mI M2 54 18) - 1)) 54 19 ((mI M2 54 19) - 1))) hB27.1   (by first | (rw [hgf.2.1]; omega) | omega) (by first | (rw [hgf.1]; exact hgf.2.2) | assumption)) rfl okX12_nextToken viX12_nextToken lkX12_193 (s_54 hB27.1.1) cl_12 rfl (Nat.le_of_ble_eq_true rfl) ⟨rfl, rfl⟩ (Nat.le_of_ble_eq_true rfl) (Nat.le_of_ble_eq_true rfl) (Nat.le_of_ble_eq_true rfl) ?_
    rintro M39 ⟨hB40, kp41, kp42, kp43, h44, h45, h46, h47, h48, h49, h50, h51, h52, h53, h54⟩
    have hB55 : BF fT M M39 := BF.go hB27 hB40.t
    have kp56 : mI M39 55 = mI M 55 := kp_go kp26 kp41
    have rt57 : RT g n M39 (nx g n p) := by
      have z := h54
      rw [hgf.1, hgf.2.1, show mI (sI (sI M2 54 18 ((mI M2 54 18) - 1)) 54 19 ((mI M2 54 19) - 1)) 54 9 = en g n p by first | omega | (show mI M2 54 9 = _; omega)] at z
      exact z
    clear hrg0
    have rg58 := RT.rg rt57
    have fr59 : ∀ j : Nat, (j : Int) < mI M 54 14 + 265 + 2 * S → mI M39 57 j = mI M 57 j := fun j hj => (congrFun kp42 j).trans (fr22 j hj)
    have hbx := b54_10 (M := M39) hB55.1
    have hPI60 : PI M39 S := PI.par (M := M2) h6 (by omega) (by omega) (htk.trans (by omega)) kp42 kp43 (by omega) (by omega) (by omega) (by omega) (by omega) (by omega) (by omega)
    have e60s : mI M39 60 = mI M 60 := (show mI M39 60 = mI M2 60 from kp43).trans kp5
    have hSI0 : SI0 M39 t := SI0.mk hk.1 hk.2.1 e60s (by omega)
    refine vc_aload_n dX12_shut_53 rfl ?_
    refine vc_iconst dX12_shut_54 rfl ?_
    have hz6 := congrFun kp56 5
    refine vc_cVU dX12_shut_55 (sfX12_settlePileF (M := M39) hB55.1  S 3 (by omega) (by omega) (by assumption) (by omega) (by omega)) rfl okX12_settlePile viX12_settlePile lkX12_211 (s_54 hB55.1.1) cl_12 rfl (Nat.le_of_ble_eq_true rfl) ⟨rfl, rfl⟩ (Nat.le_of_ble_eq_true rfl) (Nat.le_of_ble_eq_true rfl) (Nat.le_of_ble_eq_true rfl) ?_
    rintro M61 ⟨hB62, kp63, kp64, h65, h66, h67, h68, h69, h70, h71, h72, h73, h74, h75, h76, h77, h78⟩
    have hB79 : BF fT M M61 := BF.go hB55 hB62
    have kp80 : mI M61 55 = mI M 55 := kp_go kp56 kp63
    have fr81 : ∀ j : Nat, (j : Int) < mI M 54 14 + 265 + 2 * S → mI M61 57 j = mI M 57 j := fun j hj => (h74 j (by omega)).trans (fr59 j hj)
    have hl2 := h65.len
    have hSJn : SJ M61 (dm t) := SJ.min (M := M39) hSI0 hPI60 kp64 (by omega) (by omega) h75 h76
    have rt82 : RT g n M61 (nx g n p) := RT.same rt57 hB62.2.2 (by omega) (by omega) (by omega) h77 h78
    refine vc_vret dX12_shut_58 rfl (Nat.le_of_ble_eq_true rfl) (Nat.le_of_ble_eq_true rfl) ?_
    exact ⟨rfl, hB79, kp80, h65, by omega, by omega, by omega, by omega, by omega, by omega, fr81, ⟨hSJn, by omega, rt82⟩⟩
  · refine vc_aload_n dX12_shut_31 rfl ?_
    refine vc_iload_n dX12_shut_32 rfl ?_
    refine vc_bipush dX12_shut_33 rfl ?_
    refine vc_icmp_ne dX12_shut_35 (fun h83 => ?_) (fun h83 => ?_)
    · refine vc_bipush dX12_shut_43 rfl ?_
      refine vc_iconst dX12_shut_45 rfl ?_
      have k84 : mI (sI (sI M2 54 18 ((mI M2 54 18) - 1)) 54 19 ((mI M2 54 19) - 1)) 54 9 = mI M2 54 9 := rfl
      have k85 : mI (sI (sI M2 54 18 ((mI M2 54 18) - 1)) 54 19 ((mI M2 54 19) - 1)) 54 10 = mI M2 54 10 := rfl
      have k86 : mI (sI (sI M2 54 18 ((mI M2 54 18) - 1)) 54 19 ((mI M2 54 19) - 1)) 54 11 = mI M2 54 11 := rfl
      have k87 : mI (sI (sI M2 54 18 ((mI M2 54 18) - 1)) 54 19 ((mI M2 54 19) - 1)) 54 14 = mI M2 54 14 := rfl
      have k88 : mI (sI (sI M2 54 18 ((mI M2 54 18) - 1)) 54 19 ((mI M2 54 19) - 1)) 54 15 = mI M2 54 15 := rfl
      have k89 : mI (sI (sI M2 54 18 ((mI M2 54 18) - 1)) 54 19 ((mI M2 54 19) - 1)) 54 16 = mI M2 54 16 := rfl
      have k90 : mI (sI (sI M2 54 18 ((mI M2 54 18) - 1)) 54 19 ((mI M2 54 19) - 1)) 54 18 = (mI M2 54 18) - 1 := rfl
      have k91 : mI (sI (sI M2 54 18 ((mI M2 54 18) - 1)) 54 19 ((mI M2 54 19) - 1)) 54 19 = (mI M2 54 19) - 1 := rfl
      have k92 : mI (sI (sI M2 54 18 ((mI M2 54 18) - 1)) 54 19 ((mI M2 54 19) - 1)) 54 20 = mI M2 54 20 := rfl
      have k93 : mI (sI (sI M2 54 18 ((mI M2 54 18) - 1)) 54 19 ((mI M2 54 19) - 1)) 54 21 = mI M2 54 21 := rfl
      have hz5 := congrFun kp26 5
      refine vc_cVU dX12_shut_46 (sfX12_emitF (M := (sI (sI M2 54 18 ((mI M2 54 18) - 1)) 54 19 ((mI M2 54 19) - 1))) hB27.1  8 0 (by omega) (by omega)) rfl okX12_emit viX12_emit lkX12_186 (s_54 hB27.1.1) cl_12 rfl (Nat.le_of_ble_eq_true rfl) ⟨rfl, rfl⟩ (Nat.le_of_ble_eq_true rfl) (Nat.le_of_ble_eq_true rfl) (Nat.le_of_ble_eq_true rfl) ?_
      rintro M94 ⟨hB95, kp96, kp97, h98, h99, h100, h101, h102, h103, h104, h105, h106, h107, h108, h109, h110⟩
      have hB111 : BF fT M M94 := BF.go hB27 hB95
      have kp112 : mI M94 55 = mI M 55 := kp_go kp26 kp96
      have h57 := h99
      have h60 := kp97
      have fr113 := fr_emit (A := M) (B := M2) (t := mI M 54 14 + 265 + 2 * S) (by omega) (by omega) h57 fr22
      refine vc_aload_n dX12_shut_49 rfl ?_
      have hgf := RT.gf hT hB111.2.2
      have hat0 := RT.at hT (by omega)
      have hrg0 := RT.rg hT
      refine vc_cVU dX12_shut_50 (sfX12_nextTokenF (M := M94) hB111.1   (by first | (rw [hgf.2.1]; omega) | omega) (by first | (rw [hgf.1]; exact hgf.2.2) | assumption)) rfl okX12_nextToken viX12_nextToken lkX12_193 (s_54 hB111.1.1) cl_12 rfl (Nat.le_of_ble_eq_true rfl) ⟨rfl, rfl⟩ (Nat.le_of_ble_eq_true rfl) (Nat.le_of_ble_eq_true rfl) (Nat.le_of_ble_eq_true rfl) ?_
      rintro M114 ⟨hB115, kp116, kp117, kp118, h119, h120, h121, h122, h123, h124, h125, h126, h127, h128, h129⟩
      have hB130 : BF fT M M114 := BF.go hB111 hB115.t
      have kp131 : mI M114 55 = mI M 55 := kp_go kp112 kp116
      have rt132 : RT g n M114 (nx g n p) := by
        have z := h129
        rw [hgf.1, hgf.2.1, show mI M94 54 9 = en g n p by first | omega | (show mI M94 54 9 = _; omega)] at z
        exact z
      clear hrg0
      have rg133 := RT.rg rt132
      have fr134 : ∀ j : Nat, (j : Int) < mI M 54 14 + 265 + 2 * S → mI M114 57 j = mI M 57 j := fun j hj => (congrFun kp117 j).trans (fr113 j hj)
      have hbx := b54_10 (M := M114) hB130.1
      have hPI135 : PI M114 S := PI.end (M := M2) (o := o) (o2 := 8) h6 (by omega) (by omega) htk (by omega) (by omega) (kp117.trans h57) (kp118.trans h60) (by omega) (by omega) (by omega) (by omega) (by omega) (by omega) (by omega)
      have e60s : mI M114 60 = mI M 60 := (show mI M114 60 = mI M2 60 from kp118.trans h60).trans kp5
      have hSI0 : SI0 M114 t := SI0.mk hk.1 hk.2.1 e60s (by omega)
      refine vc_aload_n dX12_shut_53 rfl ?_
      refine vc_iconst dX12_shut_54 rfl ?_
      have hz6 := congrFun kp131 5
      refine vc_cVU dX12_shut_55 (sfX12_settlePileF (M := M114) hB130.1  S 3 (by omega) (by omega) (by assumption) (by omega) (by omega)) rfl okX12_settlePile viX12_settlePile lkX12_211 (s_54 hB130.1.1) cl_12 rfl (Nat.le_of_ble_eq_true rfl) ⟨rfl, rfl⟩ (Nat.le_of_ble_eq_true rfl) (Nat.le_of_ble_eq_true rfl) (Nat.le_of_ble_eq_true rfl) ?_
      rintro M136 ⟨hB137, kp138, kp139, h140, h141, h142, h143, h144, h145, h146, h147, h148, h149, h150, h151, h152, h153⟩
      have hB154 : BF fT M M136 := BF.go hB130 hB137
      have kp155 : mI M136 55 = mI M 55 := kp_go kp131 kp138
      have fr156 : ∀ j : Nat, (j : Int) < mI M 54 14 + 265 + 2 * S → mI M136 57 j = mI M 57 j := fun j hj => (h149 j (by omega)).trans (fr134 j hj)
      have hl2 := h140.len
      have hSJn : SJ M136 (dm t) := SJ.min (M := M114) hSI0 hPI135 kp139 (by omega) (by omega) h150 h151
      have rt157 : RT g n M136 (nx g n p) := RT.same rt132 hB137.2.2 (by omega) (by omega) (by omega) h152 h153
      refine vc_vret dX12_shut_58 rfl (Nat.le_of_ble_eq_true rfl) (Nat.le_of_ble_eq_true rfl) ?_
      exact ⟨rfl, hB154, kp155, h140, by omega, by omega, by omega, by omega, by omega, by omega, fr156, ⟨hSJn, by omega, rt157⟩⟩
    · refine vc_bipush dX12_shut_38 rfl ?_
      refine vc_goto dX12_shut_40 ?_
      refine vc_iconst dX12_shut_45 rfl ?_
      have k158 : mI (sI (sI M2 54 18 ((mI M2 54 18) - 1)) 54 19 ((mI M2 54 19) - 1)) 54 9 = mI M2 54 9 := rfl
      have k159 : mI (sI (sI M2 54 18 ((mI M2 54 18) - 1)) 54 19 ((mI M2 54 19) - 1)) 54 10 = mI M2 54 10 := rfl
      have k160 : mI (sI (sI M2 54 18 ((mI M2 54 18) - 1)) 54 19 ((mI M2 54 19) - 1)) 54 11 = mI M2 54 11 := rfl
      have k161 : mI (sI (sI M2 54 18 ((mI M2 54 18) - 1)) 54 19 ((mI M2 54 19) - 1)) 54 14 = mI M2 54 14 := rfl
      have k162 : mI (sI (sI M2 54 18 ((mI M2 54 18) - 1)) 54 19 ((mI M2 54 19) - 1)) 54 15 = mI M2 54 15 := rfl
      have k163 : mI (sI (sI M2 54 18 ((mI M2 54 18) - 1)) 54 19 ((mI M2 54 19) - 1)) 54 16 = mI M2 54 16 := rfl
      have k164 : mI (sI (sI M2 54 18 ((mI M2 54 18) - 1)) 54 19 ((mI M2 54 19) - 1)) 54 18 = (mI M2 54 18) - 1 := rfl
      have k165 : mI (sI (sI M2 54 18 ((mI M2 54 18) - 1)) 54 19 ((mI M2 54 19) - 1)) 54 19 = (mI M2 54 19) - 1 := rfl
      have k166 : mI (sI (sI M2 54 18 ((mI M2 54 18) - 1)) 54 19 ((mI M2 54 19) - 1)) 54 20 = mI M2 54 20 := rfl
      have k167 : mI (sI (sI M2 54 18 ((mI M2 54 18) - 1)) 54 19 ((mI M2 54 19) - 1)) 54 21 = mI M2 54 21 := rfl
      have hz5 := congrFun kp26 5
      refine vc_cVU dX12_shut_46 (sfX12_emitF (M := (sI (sI M2 54 18 ((mI M2 54 18) - 1)) 54 19 ((mI M2 54 19) - 1))) hB27.1  7 0 (by omega) (by omega)) rfl okX12_emit viX12_emit lkX12_186 (s_54 hB27.1.1) cl_12 rfl (Nat.le_of_ble_eq_true rfl) ⟨rfl, rfl⟩ (Nat.le_of_ble_eq_true rfl) (Nat.le_of_ble_eq_true rfl) (Nat.le_of_ble_eq_true rfl) ?_
      rintro M168 ⟨hB169, kp170, kp171, h172, h173, h174, h175, h176, h177, h178, h179, h180, h181, h182, h183, h184⟩
      have hB185 : BF fT M M168 := BF.go hB27 hB169
      have kp186 : mI M168 55 = mI M 55 := kp_go kp26 kp170
      have h57 := h173
      have h60 := kp171
      have fr187 := fr_emit (A := M) (B := M2) (t := mI M 54 14 + 265 + 2 * S) (by omega) (by omega) h57 fr22
      refine vc_aload_n dX12_shut_49 rfl ?_
      have hgf := RT.gf hT hB185.2.2
      have hat0 := RT.at hT (by omega)
      have hrg0 := RT.rg hT
      refine vc_cVU dX12_shut_50 (sfX12_nextTokenF (M := M168) hB185.1   (by first | (rw [hgf.2.1]; omega) | omega) (by first | (rw [hgf.1]; exact hgf.2.2) | assumption)) rfl okX12_nextToken viX12_nextToken lkX12_193 (s_54 hB185.1.1) cl_12 rfl (Nat.le_of_ble_eq_true rfl) ⟨rfl, rfl⟩ (Nat.le_of_ble_eq_true rfl) (Nat.le_of_ble_eq_true rfl) (Nat.le_of_ble_eq_true rfl) ?_
      rintro M188 ⟨hB189, kp190, kp191, kp192, h193, h194, h195, h196, h197, h198, h199, h200, h201, h202, h203⟩
      have hB204 : BF fT M M188 := BF.go hB185 hB189.t
      have kp205 : mI M188 55 = mI M 55 := kp_go kp186 kp190
      have rt206 : RT g n M188 (nx g n p) := by
        have z := h203
        rw [hgf.1, hgf.2.1, show mI M168 54 9 = en g n p by first | omega | (show mI M168 54 9 = _; omega)] at z
        exact z
      clear hrg0
      have rg207 := RT.rg rt206
      have fr208 : ∀ j : Nat, (j : Int) < mI M 54 14 + 265 + 2 * S → mI M188 57 j = mI M 57 j := fun j hj => (congrFun kp191 j).trans (fr187 j hj)
      have hbx := b54_10 (M := M188) hB204.1
      have hPI209 : PI M188 S := PI.end (M := M2) (o := o) (o2 := 7) h6 (by omega) (by omega) htk (by omega) (by omega) (kp191.trans h57) (kp192.trans h60) (by omega) (by omega) (by omega) (by omega) (by omega) (by omega) (by omega)
      have e60s : mI M188 60 = mI M 60 := (show mI M188 60 = mI M2 60 from kp192.trans h60).trans kp5
      have hSI0 : SI0 M188 t := SI0.mk hk.1 hk.2.1 e60s (by omega)
      refine vc_aload_n dX12_shut_53 rfl ?_
      refine vc_iconst dX12_shut_54 rfl ?_
      have hz6 := congrFun kp205 5
      refine vc_cVU dX12_shut_55 (sfX12_settlePileF (M := M188) hB204.1  S 3 (by omega) (by omega) (by assumption) (by omega) (by omega)) rfl okX12_settlePile viX12_settlePile lkX12_211 (s_54 hB204.1.1) cl_12 rfl (Nat.le_of_ble_eq_true rfl) ⟨rfl, rfl⟩ (Nat.le_of_ble_eq_true rfl) (Nat.le_of_ble_eq_true rfl) (Nat.le_of_ble_eq_true rfl) ?_
      rintro M210 ⟨hB211, kp212, kp213, h214, h215, h216, h217, h218, h219, h220, h221, h222, h223, h224, h225, h226, h227⟩
      have hB228 : BF fT M M210 := BF.go hB204 hB211
      have kp229 : mI M210 55 = mI M 55 := kp_go kp205 kp212
      have fr230 : ∀ j : Nat, (j : Int) < mI M 54 14 + 265 + 2 * S → mI M210 57 j = mI M 57 j := fun j hj => (h223 j (by omega)).trans (fr208 j hj)
      have hl2 := h214.len
      have hSJn : SJ M210 (dm t) := SJ.min (M := M188) hSI0 hPI209 kp213 (by omega) (by omega) h224 h225
      have rt231 : RT g n M210 (nx g n p) := RT.same rt206 hB211.2.2 (by omega) (by omega) (by omega) h226 h227
      refine vc_vret dX12_shut_58 rfl (Nat.le_of_ble_eq_true rfl) (Nat.le_of_ble_eq_true rfl) ?_
      exact ⟨rfl, hB228, kp229, h214, by omega, by omega, by omega, by omega, by omega, by omega, fr230, ⟨hSJn, by omega, rt231⟩⟩

set_option maxHeartbeats 4000000 in
set_option maxRecDepth 4000 in
theorem sfX12_behindOneF {l : Launch} {M : Mem} (hB : Box M) (S : Int) (g : Nat → Int) (n p : Int) (hT : RT g n M p) (sk : List Int) (hS : SJ M sk) (w : Int)  (p0 : PI M S) (p1 : mI M 54 14 = 873 * mI M 55 5) (p2 : mI M 54 10 ≤ mI M 54 9) (p3 : mI M 54 11 = 0 ∨ mI M 54 10 < mI M 54 9) (p4 : mI M 54 20 = 1) (p5 : mI M 54 16 = w) (p6 : 0 ≤ w) (p7 : w ≤ 4) : Call l mdX12_behindOne [aR 54] M (fun q N => ∃ r : Int, q = some (aI r) ∧ BF fT M N ∧ mI N 55 = mI M 55 ∧ 0 ≤ r ∧ r ≤ 1 ∧ PI N S ∧ (r ≠ 0 ∨ mI M 54 10 < mI N 54 10) ∧ mI N 54 10 ≤ mI N 54 9 ∧ (mI N 54 11 = 0 ∨ mI N 54 10 < mI N 54 9) ∧ mI N 54 14 = mI M 54 14 ∧ mI N 54 16 = mI M 54 16 ∧ mI N 54 21 = mI M 54 21 ∧ (∀ j : Nat, (j : Int) < mI M 54 14 + 265 + 2 * S → mI N 57 j = mI M 57 j) ∧ mI M 54 10 ≤ mI N 54 10 ∧ (r = 0 ∨ mI N 54 20 = 1) ∧ BH g n w N r p sk) := by
  have hB0 : BF fT M M := BF.start hB
  refine Call.of [some (aR 54), none, none, none, none] rfl (Nat.le_of_ble_eq_true rfl) rfl ?_
  have hle := p0.len
  have hk9 := b54_9 hB
  have hk5 := b55_5 hB
  have rg1 := RT.rg hT
  have hs43 := RT.sg hT 43 (t := -257) (by decide) (by decide)
  refine vc_aload_n dX12_behindOne_0 rfl ?_
  refine vc_getI dX12_behindOne_1 flX12_129 (s_54 hB0.1.1) rfl ?_
  refine vc_bipush dX12_behindOne_4 rfl ?_
  refine vc_icmp_ne dX12_behindOne_6 (fun h2 => ?_) (fun h2 => ?_)
  · have hn43 : tk g n p ≠ -257 := fun e => absurd (hs43.mpr e) (by omega)
    clear hs43
    have hs45 := RT.sg hT 45 (t := -255) (by decide) (by decide)
    refine vc_aload_n dX12_behindOne_13 rfl ?_
    refine vc_getI dX12_behindOne_14 flX12_129 (s_54 hB0.1.1) rfl ?_
    refine vc_bipush dX12_behindOne_17 rfl ?_
    refine vc_icmp_ne dX12_behindOne_19 (fun h3 => ?_) (fun h3 => ?_)
    · have hn45 : tk g n p ≠ -255 := fun e => absurd (hs45.mpr e) (by omega)
      clear hs45
      have hs42 := RT.sg hT 42 (t := -258) (by decide) (by decide)
      refine vc_aload_n dX12_behindOne_26 rfl ?_
      refine vc_getI dX12_behindOne_27 flX12_129 (s_54 hB0.1.1) rfl ?_
      refine vc_bipush dX12_behindOne_30 rfl ?_
      refine vc_icmp_ne dX12_behindOne_32 (fun h4 => ?_) (fun h4 => ?_)
      · have hn42 : tk g n p ≠ -258 := fun e => absurd (hs42.mpr e) (by omega)
        clear hs42
        have hs47 := RT.sg hT 47 (t := -253) (by decide) (by decide)
        refine vc_aload_n dX12_behindOne_39 rfl ?_
        refine vc_getI dX12_behindOne_40 flX12_129 (s_54 hB0.1.1) rfl ?_
        refine vc_bipush dX12_behindOne_43 rfl ?_
        refine vc_icmp_ne dX12_behindOne_45 (fun h5 => ?_) (fun h5 => ?_)
        · have hn47 : tk g n p ≠ -253 := fun e => absurd (hs47.mpr e) (by omega)
          clear hs47
          refine vc_iconst dX12_behindOne_53 rfl ?_
          refine vc_istore_n dX12_behindOne_54 (by decide) rfl (show _ = [some (aR 54), some (aI (-1)), none, none, none] from rfl) ?_
          refine vc_iload_n dX12_behindOne_55 rfl ?_
          refine vc_if_lt dX12_behindOne_56 (fun h6 => ?_) (fun h6 => by exfalso; omega)
          refine vc_aload_n dX12_behindOne_98 rfl ?_
          refine vc_cVI dX12_behindOne_99 (sfX12_openAt (M := M) hB0.1   (by omega)) rfl okX12_openAt viX12_openAt lkX12_217 (s_54 hB0.1.1) cl_12 rfl (Nat.le_of_ble_eq_true rfl) ⟨rfl, rfl⟩ (Nat.le_of_ble_eq_true rfl) (Nat.le_of_ble_eq_true rfl) (Nat.le_of_ble_eq_true rfl) ?_
          rintro x7 _ ⟨rfl, h8, h9, h10, h11⟩
          have hq1 := h10
          have hq2 := h11
          refine vc_istore_n dX12_behindOne_102 (by decide) rfl (show _ = [some (aR 54), some (aI (-1)), some (aI x7), none, none] from rfl) ?_
          refine vc_iload_n dX12_behindOne_103 rfl ?_
          refine vc_if_ge dX12_behindOne_104 (fun h12 => ?_) (fun h12 => ?_)
          · obtain ⟨hop, hom⟩ := SJ.opn (k := x7.toNat) hS (by omega) p0 (by omega) (by omega) (fun q a b => hq2 q (by omega) b)
            have hop4 : 40 ≤ mI M 60 x7.toNat ∧ mI M 60 x7.toNat ≤ 44 := by have z := PI.at (k := x7.toNat) p0 (by omega); omega
            have hq3 : x7 < mI M 54 18 := by omega
            clear hq1
            refine vc_aload_n dX12_behindOne_111 rfl ?_
            refine vc_getR dX12_behindOne_112 flX12_32 (s_54 hB0.1.1) rfl (r_54_17 hB0.1.1) ?_
            refine vc_iload_n dX12_behindOne_115 rfl ?_
            refine vc_iaload dX12_behindOne_116 (s_60 hB0.1.1) (by omega) (by omega) ?_
            refine vc_nameI (fun x13 ex13 => ?_)
            refine vc_istore_n dX12_behindOne_117 (by decide) rfl (show _ = [some (aR 54), some (aI (-1)), some (aI x7), some (aI x13), none] from rfl) ?_
            have hs44 := RT.sg hT 44 (t := -256) (by decide) (by decide)
            refine vc_aload_n dX12_behindOne_118 rfl ?_
            refine vc_getI dX12_behindOne_119 flX12_129 (s_54 hB0.1.1) rfl ?_
            refine vc_bipush dX12_behindOne_122 rfl ?_
            refine vc_icmp_ne dX12_behindOne_124 (fun h14 => ?_) (fun h14 => ?_)
            · have hn44 : tk g n p ≠ -256 := fun e => absurd (hs44.mpr e) (by omega)
              clear hs44
              refine vc_iload_n dX12_behindOne_165 rfl ?_
              refine vc_bipush dX12_behindOne_166 rfl ?_
              refine vc_icmp_ne dX12_behindOne_168 (fun h15 => ?_) (fun h15 => ?_)
              · refine vc_iload_n dX12_behindOne_188 rfl ?_
                refine vc_bipush dX12_behindOne_189 rfl ?_
                refine vc_icmp_eq dX12_behindOne_191 (fun h16 => ?_) (fun h16 => ?_)
                · have hw2 := RT.w2 hT
                  refine vc_aload_n dX12_behindOne_200 rfl ?_
                  refine vc_bipush dX12_behindOne_201 rfl ?_
                  refine vc_bipush dX12_behindOne_203 rfl ?_
                  refine vc_bipush dX12_behindOne_205 rfl ?_
                  refine vc_cSL dX12_behindOne_207 (sfX12_w3F (M := M) hB0.1  101 110 100 ) rfl okX12_w3 stX12_w3 lkX12_155 rfl (Nat.le_of_ble_eq_true rfl) ⟨rfl, rfl⟩ (Nat.le_of_ble_eq_true rfl) (Nat.le_of_ble_eq_true rfl) (Nat.le_of_ble_eq_true rfl) ?_
                  rintro x17 _ ⟨rfl, h18⟩
                  have hw19 : x17 = 6647396 := h18.trans (by decide +kernel)
                  refine vc_cVI dX12_behindOne_210 (sfX12_isWordF (M := M) hB0.1  x17 ) rfl okX12_isWord viX12_isWord lkX12_196 (s_54 hB0.1.1) cl_12 rfl (Nat.le_of_ble_eq_true rfl) ⟨rfl, rfl⟩ (Nat.le_of_ble_eq_true rfl) (Nat.le_of_ble_eq_true rfl) (Nat.le_of_ble_eq_true rfl) ?_
                  rintro x20 _ ⟨rfl, h21, h22, h23⟩
                  have hz24 := isw h23 (RT.iw hT 20 (by decide) (hw19.trans pk_20) (t := 121) (by decide))
                  clear h23
                  refine vc_if_eq dX12_behindOne_213 (fun h25 => ?_) (fun h25 => ?_)
                  · have hn121 : tk g n p ≠ 121 := isw_no hz24 (by omega)
                    clear hz24
                    refine vc_iconst dX12_behindOne_220 rfl ?_
                    refine vc_istore dX12_behindOne_221 (by decide) rfl (show _ = [some (aR 54), some (aI (-1)), some (aI x7), some (aI x13), some (aI 0)] from rfl) ?_
                    refine vc_iload dX12_behindOne_223 rfl ?_
                    refine vc_if_ne dX12_behindOne_225 (fun h26 => by exfalso; omega) (fun h26 => ?_)
                    refine vc_iconst dX12_behindOne_228 rfl ?_
                    refine vc_iret dX12_behindOne_229 rfl (Nat.le_of_ble_eq_true rfl) (Nat.le_of_ble_eq_true rfl) ?_
                    have hEo : EOp g n p := by unfold EOp; omega
                    exact ⟨_, rfl, hB0, rfl, by omega, by omega, p0, by omega, by omega, by omega, by omega, by omega, by omega, (fun _ _ => rfl), by omega, by omega, Or.inr ⟨rfl, hS, hT, hEo, fun hne => by first | (rw [hop, cd41 (by omega)]; exact t_b41 hEo (by omega)) | (rw [hop, cd42 (by omega)]; exact t_b42 hEo (by omega)) | (rw [hop, cd40 (by omega)]; exact t_b40 hEo (by omega))⟩⟩
                  · have ht121 : tk g n p = 121 := isw_yes hz24 (by omega)
                    clear hz24
                    refine vc_iconst dX12_behindOne_216 rfl ?_
                    refine vc_goto dX12_behindOne_217 ?_
                    refine vc_istore dX12_behindOne_221 (by decide) rfl (show _ = [some (aR 54), some (aI (-1)), some (aI x7), some (aI x13), some (aI 1)] from rfl) ?_
                    refine vc_iload dX12_behindOne_223 rfl ?_
                    refine vc_if_ne dX12_behindOne_225 (fun h27 => ?_) (fun h27 => by exfalso; omega)
                    refine vc_aload_n dX12_behindOne_230 rfl ?_
                    refine vc_iload_n dX12_behindOne_231 rfl ?_
                    have hsh : ∃ k : Nat, (k : Int) < mI M 54 18 ∧ mI M 60 k = x13 ∧ ∀ q : Nat, k < q → (q : Int) < mI M 54 18 → mI M 60 q < 40 := ⟨x7.toNat, by omega, by omega, fun q a b => hq2 q (by omega) b⟩
                    refine vc_cVU dX12_behindOne_232 (sfX12_shutF (M := M) hB0.1  S g n p hT (stk (mI M 60) x7.toNat) x7.toNat ⟨rfl, hom, by omega, fun q a b => hq2 q (by omega) b, by omega⟩ x13 (by exact p0) (by omega) (by omega) (by omega) (by omega) (by omega) (by exact hsh) (by omega) (by omega)) rfl okX12_shut viX12_shut lkX12_220 (s_54 hB0.1.1) cl_12 rfl (Nat.le_of_ble_eq_true rfl) ⟨rfl, rfl⟩ (Nat.le_of_ble_eq_true rfl) (Nat.le_of_ble_eq_true rfl) (Nat.le_of_ble_eq_true rfl) ?_
                    rintro M28 ⟨hB29, kp30, h31, h32, h33, h34, h35, h36, h37, h38, h39⟩
                    have hB40 : BF fT M M28 := BF.go hB0 hB29
                    have kp41 : mI M28 55 = mI M 55 := kp_go rfl kp30
                    refine vc_iconst dX12_behindOne_235 rfl ?_
                    refine vc_iret dX12_behindOne_236 rfl (Nat.le_of_ble_eq_true rfl) (Nat.le_of_ble_eq_true rfl) ?_
                    exact ⟨_, rfl, hB40, kp41, by omega, by omega, h31, by omega, by omega, by omega, by omega, by omega, by omega, h38, by omega, by omega, Or.inl ⟨rfl, _, _, h39.1, h39.2.2, fun o z => by first | (rw [hop, cd40 (by omega)]; exact t_shut (by omega) (rn_t h39.2.1 z)) | (rw [hop, cd42 (by omega)]; exact t_end (by omega) (rn_t h39.2.1 z))⟩⟩
                · refine vc_iload_n dX12_behindOne_194 rfl ?_
                  refine vc_bipush dX12_behindOne_195 rfl ?_
                  refine vc_icmp_ne dX12_behindOne_197 (fun h42 => ?_) (fun h42 => ?_)
                  · refine vc_iconst dX12_behindOne_220 rfl ?_
                    refine vc_istore dX12_behindOne_221 (by decide) rfl (show _ = [some (aR 54), some (aI (-1)), some (aI x7), some (aI x13), some (aI 0)] from rfl) ?_
                    refine vc_iload dX12_behindOne_223 rfl ?_
                    refine vc_if_ne dX12_behindOne_225 (fun h43 => by exfalso; omega) (fun h43 => ?_)
                    refine vc_iconst dX12_behindOne_228 rfl ?_
                    refine vc_iret dX12_behindOne_229 rfl (Nat.le_of_ble_eq_true rfl) (Nat.le_of_ble_eq_true rfl) ?_
                    have hEo : EOp g n p := by unfold EOp; omega
                    exact ⟨_, rfl, hB0, rfl, by omega, by omega, p0, by omega, by omega, by omega, by omega, by omega, by omega, (fun _ _ => rfl), by omega, by omega, Or.inr ⟨rfl, hS, hT, hEo, fun hne => by first | (rw [hop, cd41 (by omega)]; exact t_b41 hEo (by omega)) | (rw [hop, cd42 (by omega)]; exact t_b42 hEo (by omega)) | (rw [hop, cd40 (by omega)]; exact t_b40 hEo (by omega))⟩⟩
                  · have hw2 := RT.w2 hT
                    refine vc_aload_n dX12_behindOne_200 rfl ?_
                    refine vc_bipush dX12_behindOne_201 rfl ?_
                    refine vc_bipush dX12_behindOne_203 rfl ?_
                    refine vc_bipush dX12_behindOne_205 rfl ?_
                    refine vc_cSL dX12_behindOne_207 (sfX12_w3F (M := M) hB0.1  101 110 100 ) rfl okX12_w3 stX12_w3 lkX12_155 rfl (Nat.le_of_ble_eq_true rfl) ⟨rfl, rfl⟩ (Nat.le_of_ble_eq_true rfl) (Nat.le_of_ble_eq_true rfl) (Nat.le_of_ble_eq_true rfl) ?_
                    rintro x44 _ ⟨rfl, h45⟩
                    have hw46 : x44 = 6647396 := h45.trans (by decide +kernel)
                    refine vc_cVI dX12_behindOne_210 (sfX12_isWordF (M := M) hB0.1  x44 ) rfl okX12_isWord viX12_isWord lkX12_196 (s_54 hB0.1.1) cl_12 rfl (Nat.le_of_ble_eq_true rfl) ⟨rfl, rfl⟩ (Nat.le_of_ble_eq_true rfl) (Nat.le_of_ble_eq_true rfl) (Nat.le_of_ble_eq_true rfl) ?_
                    rintro x47 _ ⟨rfl, h48, h49, h50⟩
                    have hz51 := isw h50 (RT.iw hT 20 (by decide) (hw46.trans pk_20) (t := 121) (by decide))
                    clear h50
                    refine vc_if_eq dX12_behindOne_213 (fun h52 => ?_) (fun h52 => ?_)
                    · have hn121 : tk g n p ≠ 121 := isw_no hz51 (by omega)
                      clear hz51
                      refine vc_iconst dX12_behindOne_220 rfl ?_
                      refine vc_istore dX12_behindOne_221 (by decide) rfl (show _ = [some (aR 54), some (aI (-1)), some (aI x7), some (aI x13), some (aI 0)] from rfl) ?_
                      refine vc_iload dX12_behindOne_223 rfl ?_
                      refine vc_if_ne dX12_behindOne_225 (fun h53 => by exfalso; omega) (fun h53 => ?_)
                      refine vc_iconst dX12_behindOne_228 rfl ?_
                      refine vc_iret dX12_behindOne_229 rfl (Nat.le_of_ble_eq_true rfl) (Nat.le_of_ble_eq_true rfl) ?_
                      have hEo : EOp g n p := by unfold EOp; omega
                      exact ⟨_, rfl, hB0, rfl, by omega, by omega, p0, by omega, by omega, by omega, by omega, by omega, by omega, (fun _ _ => rfl), by omega, by omega, Or.inr ⟨rfl, hS, hT, hEo, fun hne => by first | (rw [hop, cd41 (by omega)]; exact t_b41 hEo (by omega)) | (rw [hop, cd42 (by omega)]; exact t_b42 hEo (by omega)) | (rw [hop, cd40 (by omega)]; exact t_b40 hEo (by omega))⟩⟩
                    · have ht121 : tk g n p = 121 := isw_yes hz51 (by omega)
                      clear hz51
                      refine vc_iconst dX12_behindOne_216 rfl ?_
                      refine vc_goto dX12_behindOne_217 ?_
                      refine vc_istore dX12_behindOne_221 (by decide) rfl (show _ = [some (aR 54), some (aI (-1)), some (aI x7), some (aI x13), some (aI 1)] from rfl) ?_
                      refine vc_iload dX12_behindOne_223 rfl ?_
                      refine vc_if_ne dX12_behindOne_225 (fun h54 => ?_) (fun h54 => by exfalso; omega)
                      refine vc_aload_n dX12_behindOne_230 rfl ?_
                      refine vc_iload_n dX12_behindOne_231 rfl ?_
                      have hsh : ∃ k : Nat, (k : Int) < mI M 54 18 ∧ mI M 60 k = x13 ∧ ∀ q : Nat, k < q → (q : Int) < mI M 54 18 → mI M 60 q < 40 := ⟨x7.toNat, by omega, by omega, fun q a b => hq2 q (by omega) b⟩
                      refine vc_cVU dX12_behindOne_232 (sfX12_shutF (M := M) hB0.1  S g n p hT (stk (mI M 60) x7.toNat) x7.toNat ⟨rfl, hom, by omega, fun q a b => hq2 q (by omega) b, by omega⟩ x13 (by exact p0) (by omega) (by omega) (by omega) (by omega) (by omega) (by exact hsh) (by omega) (by omega)) rfl okX12_shut viX12_shut lkX12_220 (s_54 hB0.1.1) cl_12 rfl (Nat.le_of_ble_eq_true rfl) ⟨rfl, rfl⟩ (Nat.le_of_ble_eq_true rfl) (Nat.le_of_ble_eq_true rfl) (Nat.le_of_ble_eq_true rfl) ?_
                      rintro M55 ⟨hB56, kp57, h58, h59, h60, h61, h62, h63, h64, h65, h66⟩
                      have hB67 : BF fT M M55 := BF.go hB0 hB56
                      have kp68 : mI M55 55 = mI M 55 := kp_go rfl kp57
                      refine vc_iconst dX12_behindOne_235 rfl ?_
                      refine vc_iret dX12_behindOne_236 rfl (Nat.le_of_ble_eq_true rfl) (Nat.le_of_ble_eq_true rfl) ?_
                      exact ⟨_, rfl, hB67, kp68, by omega, by omega, h58, by omega, by omega, by omega, by omega, by omega, by omega, h65, by omega, by omega, Or.inl ⟨rfl, _, _, h66.1, h66.2.2, fun o z => by first | (rw [hop, cd40 (by omega)]; exact t_shut (by omega) (rn_t h66.2.1 z)) | (rw [hop, cd42 (by omega)]; exact t_end (by omega) (rn_t h66.2.1 z))⟩⟩
              · have hs41 := RT.sg hT 41 (t := -259) (by decide) (by decide)
                refine vc_aload_n dX12_behindOne_171 rfl ?_
                refine vc_getI dX12_behindOne_172 flX12_129 (s_54 hB0.1.1) rfl ?_
                refine vc_bipush dX12_behindOne_175 rfl ?_
                refine vc_icmp_ne dX12_behindOne_177 (fun h69 => ?_) (fun h69 => ?_)
                · have hn41 : tk g n p ≠ -259 := fun e => absurd (hs41.mpr e) (by omega)
                  clear hs41
                  refine vc_iconst dX12_behindOne_184 rfl ?_
                  refine vc_goto dX12_behindOne_185 ?_
                  refine vc_istore dX12_behindOne_221 (by decide) rfl (show _ = [some (aR 54), some (aI (-1)), some (aI x7), some (aI x13), some (aI 0)] from rfl) ?_
                  refine vc_iload dX12_behindOne_223 rfl ?_
                  refine vc_if_ne dX12_behindOne_225 (fun h70 => by exfalso; omega) (fun h70 => ?_)
                  refine vc_iconst dX12_behindOne_228 rfl ?_
                  refine vc_iret dX12_behindOne_229 rfl (Nat.le_of_ble_eq_true rfl) (Nat.le_of_ble_eq_true rfl) ?_
                  have hEo : EOp g n p := by unfold EOp; omega
                  exact ⟨_, rfl, hB0, rfl, by omega, by omega, p0, by omega, by omega, by omega, by omega, by omega, by omega, (fun _ _ => rfl), by omega, by omega, Or.inr ⟨rfl, hS, hT, hEo, fun hne => by first | (rw [hop, cd41 (by omega)]; exact t_b41 hEo (by omega)) | (rw [hop, cd42 (by omega)]; exact t_b42 hEo (by omega)) | (rw [hop, cd40 (by omega)]; exact t_b40 hEo (by omega))⟩⟩
                · have ht41 : tk g n p = -259 := hs41.mp (by omega)
                  clear hs41
                  refine vc_iconst dX12_behindOne_180 rfl ?_
                  refine vc_goto dX12_behindOne_181 ?_
                  refine vc_istore dX12_behindOne_221 (by decide) rfl (show _ = [some (aR 54), some (aI (-1)), some (aI x7), some (aI x13), some (aI 1)] from rfl) ?_
                  refine vc_iload dX12_behindOne_223 rfl ?_
                  refine vc_if_ne dX12_behindOne_225 (fun h71 => ?_) (fun h71 => by exfalso; omega)
                  refine vc_aload_n dX12_behindOne_230 rfl ?_
                  refine vc_iload_n dX12_behindOne_231 rfl ?_
                  have hsh : ∃ k : Nat, (k : Int) < mI M 54 18 ∧ mI M 60 k = x13 ∧ ∀ q : Nat, k < q → (q : Int) < mI M 54 18 → mI M 60 q < 40 := ⟨x7.toNat, by omega, by omega, fun q a b => hq2 q (by omega) b⟩
                  refine vc_cVU dX12_behindOne_232 (sfX12_shutF (M := M) hB0.1  S g n p hT (stk (mI M 60) x7.toNat) x7.toNat ⟨rfl, hom, by omega, fun q a b => hq2 q (by omega) b, by omega⟩ x13 (by exact p0) (by omega) (by omega) (by omega) (by omega) (by omega) (by exact hsh) (by omega) (by omega)) rfl okX12_shut viX12_shut lkX12_220 (s_54 hB0.1.1) cl_12 rfl (Nat.le_of_ble_eq_true rfl) ⟨rfl, rfl⟩ (Nat.le_of_ble_eq_true rfl) (Nat.le_of_ble_eq_true rfl) (Nat.le_of_ble_eq_true rfl) ?_
                  rintro M72 ⟨hB73, kp74, h75, h76, h77, h78, h79, h80, h81, h82, h83⟩
                  have hB84 : BF fT M M72 := BF.go hB0 hB73
                  have kp85 : mI M72 55 = mI M 55 := kp_go rfl kp74
                  refine vc_iconst dX12_behindOne_235 rfl ?_
                  refine vc_iret dX12_behindOne_236 rfl (Nat.le_of_ble_eq_true rfl) (Nat.le_of_ble_eq_true rfl) ?_
                  exact ⟨_, rfl, hB84, kp85, by omega, by omega, h75, by omega, by omega, by omega, by omega, by omega, by omega, h82, by omega, by omega, Or.inl ⟨rfl, _, _, h83.1, h83.2.2, fun o z => by first | (rw [hop, cd40 (by omega)]; exact t_shut (by omega) (rn_t h83.2.1 z)) | (rw [hop, cd42 (by omega)]; exact t_end (by omega) (rn_t h83.2.1 z))⟩⟩
            · have ht44 : tk g n p = -256 := hs44.mp (by omega)
              clear hs44
              refine vc_iload_n dX12_behindOne_127 rfl ?_
              refine vc_bipush dX12_behindOne_128 rfl ?_
              refine vc_icmp_eq dX12_behindOne_130 (fun h86 => ?_) (fun h86 => ?_)
              · refine vc_aload_n dX12_behindOne_139 rfl ?_
                refine vc_iconst dX12_behindOne_140 rfl ?_
                refine vc_cVU dX12_behindOne_141 (sfX12_settlePileF (M := M) hB0.1  S 1 (by omega) (by omega) (by exact p0) (by omega) (by omega)) rfl okX12_settlePile viX12_settlePile lkX12_211 (s_54 hB0.1.1) cl_12 rfl (Nat.le_of_ble_eq_true rfl) ⟨rfl, rfl⟩ (Nat.le_of_ble_eq_true rfl) (Nat.le_of_ble_eq_true rfl) (Nat.le_of_ble_eq_true rfl) ?_
                rintro M87 ⟨hB88, kp89, kp90, h91, h92, h93, h94, h95, h96, h97, h98, h99, h100, h101, h102, h103, h104⟩
                have hB105 : BF fT M M87 := BF.go hB0 hB88
                have kp106 : mI M87 55 = mI M 55 := kp_go rfl kp89
                have fr107 : ∀ j : Nat, (j : Int) < mI M 54 14 + 265 + 2 * S → mI M87 57 j = mI M 57 j := fun j hj => (h100 j (by omega)).trans ((fun _ _ => rfl) j hj)
                have hl2 := h91.len
                have htop := top_at (M := M) (N := M87) (k := x7.toNat) kp90 (by omega) (by omega) h101 h102 (by omega) (by omega) (fun q a b => hq2 q (by omega) b)
                have htk : mI M87 60 (mI M87 54 18 - 1).toNat = x13 := by rw [htop, kp90, show ((x7.toNat : Int) + 1 - 1).toNat = x7.toNat by omega]; omega
                have hix : (x7).toNat = (mI M87 54 18 - 1).toNat := by omega
                have htk2 : mI M87 60 (x7).toNat = x13 := by rw [hix]; exact htk
                refine vc_aload_n dX12_behindOne_144 rfl ?_
                refine vc_getR dX12_behindOne_145 flX12_32 (s_54 hB105.1.1) rfl (r_54_17 hB105.1.1) ?_
                refine vc_iload_n dX12_behindOne_148 rfl ?_
                refine vc_dup2 dX12_behindOne_149 rfl rfl ?_
                refine vc_iaload dX12_behindOne_150 (s_60 hB105.1.1) (by omega) (by omega) ?_
                refine vc_iconst dX12_behindOne_151 rfl ?_
                refine vc_iaddE dX12_behindOne_152 (by omega) (by omega) ?_
                refine vc_iastore dX12_behindOne_153 (s_60 hB105.1.1) (by omega) (by omega) ?_
                have kp108 : mI (sI M87 60 x7.toNat ((mI M87 60 x7.toNat) + 1)) 55 = mI M 55 := (kp_sI kp106 rfl)
                have hB109 : BF fT M (sI M87 60 x7.toNat ((mI M87 60 x7.toNat) + 1)) := BF.w60 hB105 (fun _ => rfl) _
                refine vc_aload_n dX12_behindOne_154 rfl ?_
                refine vc_iconst dX12_behindOne_155 rfl ?_
                refine vc_putZ dX12_behindOne_156 (plX12_207 _ rfl) (s_54 hB109.1.1) rfl (by first | decide | omega) ?_
                have kp110 : mI (sI (sI M87 60 x7.toNat ((mI M87 60 x7.toNat) + 1)) 54 20 0) 55 = mI M 55 := (kp_sI kp108 rfl)
                have hB111 : BF fT M (sI (sI M87 60 x7.toNat ((mI M87 60 x7.toNat) + 1)) 54 20 0) := BF.w54_20 hB109 rfl
                refine vc_aload_n dX12_behindOne_159 rfl ?_
                have hgf := RT.gf hT hB111.2.2
                have hat0 := RT.at hT (by omega)
                have hrg0 := RT.rg hT
                have k112 : mI (sI (sI M87 60 x7.toNat ((mI M87 60 x7.toNat) + 1)) 54 20 0) 54 9 = mI M87 54 9 := rfl
                have k113 : mI (sI (sI M87 60 x7.toNat ((mI M87 60 x7.toNat) + 1)) 54 20 0) 54 10 = mI M87 54 10 := rfl
                have k114 : mI (sI (sI M87 60 x7.toNat ((mI M87 60 x7.toNat) + 1)) 54 20 0) 54 11 = mI M87 54 11 := rfl
                have k115 : mI (sI (sI M87 60 x7.toNat ((mI M87 60 x7.toNat) + 1)) 54 20 0) 54 14 = mI M87 54 14 := rfl
                have k116 : mI (sI (sI M87 60 x7.toNat ((mI M87 60 x7.toNat) + 1)) 54 20 0) 54 15 = mI M87 54 15 := rfl
                have k117 : mI (sI (sI M87 60 x7.toNat ((mI M87 60 x7.toNat) + 1)) 54 20 0) 54 16 = mI M87 54 16 := rfl
                have k118 : mI (sI (sI M87 60 x7.toNat ((mI M87 60 x7.toNat) + 1)) 54 20 0) 54 18 = mI M87 54 18 := rfl
                have k119 : mI (sI (sI M87 60 x7.toNat ((mI M87 60 x7.toNat) + 1)) 54 20 0) 54 19 = mI M87 54 19 := rfl
                have k120 : mI (sI (sI M87 60 x7.toNat ((mI M87 60 x7.toNat) + 1)) 54 20 0) 54 20 = 0 := rfl
                have k121 : mI (sI (sI M87 60 x7.toNat ((mI M87 60 x7.toNat) + 1)) 54 20 0) 54 21 = mI M87 54 21 := rfl
                refine vc_cVU dX12_behindOne_160 (sfX12_nextTokenF (M := (sI (sI M87 60 x7.toNat ((mI M87 60 x7.toNat) + 1)) 54 20 0)) hB111.1   (by first | (rw [hgf.2.1]; omega) | omega) (by first | (rw [hgf.1]; exact hgf.2.2) | assumption)) rfl okX12_nextToken viX12_nextToken lkX12_193 (s_54 hB111.1.1) cl_12 rfl (Nat.le_of_ble_eq_true rfl) ⟨rfl, rfl⟩ (Nat.le_of_ble_eq_true rfl) (Nat.le_of_ble_eq_true rfl) (Nat.le_of_ble_eq_true rfl) ?_
                rintro M122 ⟨hB123, kp124, kp125, kp126, h127, h128, h129, h130, h131, h132, h133, h134, h135, h136, h137⟩
                have hB138 : BF fT M M122 := BF.go hB111 hB123.t
                have kp139 : mI M122 55 = mI M 55 := kp_go kp110 kp124
                have rt140 : RT g n M122 (nx g n p) := by
                  have z := h137
                  rw [hgf.1, hgf.2.1, show mI (sI (sI M87 60 x7.toNat ((mI M87 60 x7.toNat) + 1)) 54 20 0) 54 9 = en g n p by first | omega | (show mI M87 54 9 = _; omega)] at z
                  exact z
                clear hrg0
                have rg141 := RT.rg rt140
                have fr142 : ∀ j : Nat, (j : Int) < mI M 54 14 + 265 + 2 * S → mI M122 57 j = mI M 57 j := fun j hj => (congrFun kp125 j).trans (fr107 j hj)
                have hbx := b54_10 (M := M122) hB138.1
                have hPI143 : PI M122 S := PI.two (M := M87) (o := x13) h91 (by omega) (by omega) htk (by omega) kp125 (by rw [← hix]; first | exact kp126 | (rw [kp126]; funext b; rw [← htk, ← hix]; rfl)) (by omega) (by omega) (by omega) (by omega) (by omega) (by omega) (by omega)
                have hSJn : SJ M122 (42 :: stk (mI M 60) x7.toNat) := SJ.two (M := M87) (k := x7.toNat) (o := mI M87 60 x7.toNat + 1) (by rw [kp90]) (by rw [kp90]; exact hom) (by first | exact kp126 | (rw [kp126]; funext b; rfl)) (by omega) (by omega) (by omega)
                refine vc_iconst dX12_behindOne_163 rfl ?_
                refine vc_iret dX12_behindOne_164 rfl (Nat.le_of_ble_eq_true rfl) (Nat.le_of_ble_eq_true rfl) ?_
                exact ⟨_, rfl, hB138, kp139, by omega, by omega, hPI143, by omega, by omega, by omega, by omega, by omega, by omega, fr142, by omega, by omega, Or.inl ⟨rfl, _, _, hSJn, rt140, fun o z => by rw [hop, cd41 (by omega)]; exact t_com (by omega) (rn_f (by omega) z)⟩⟩
              · refine vc_iload_n dX12_behindOne_133 rfl ?_
                refine vc_bipush dX12_behindOne_134 rfl ?_
                refine vc_icmp_ne dX12_behindOne_136 (fun h144 => ?_) (fun h144 => ?_)
                · refine vc_iload_n dX12_behindOne_165 rfl ?_
                  refine vc_bipush dX12_behindOne_166 rfl ?_
                  refine vc_icmp_ne dX12_behindOne_168 (fun h145 => ?_) (fun h145 => ?_)
                  · refine vc_iload_n dX12_behindOne_188 rfl ?_
                    refine vc_bipush dX12_behindOne_189 rfl ?_
                    refine vc_icmp_eq dX12_behindOne_191 (fun h146 => ?_) (fun h146 => ?_)
                    · have hw2 := RT.w2 hT
                      refine vc_aload_n dX12_behindOne_200 rfl ?_
                      refine vc_bipush dX12_behindOne_201 rfl ?_
                      refine vc_bipush dX12_behindOne_203 rfl ?_
                      refine vc_bipush dX12_behindOne_205 rfl ?_
                      refine vc_cSL dX12_behindOne_207 (sfX12_w3F (M := M) hB0.1  101 110 100 ) rfl okX12_w3 stX12_w3 lkX12_155 rfl (Nat.le_of_ble_eq_true rfl) ⟨rfl, rfl⟩ (Nat.le_of_ble_eq_true rfl) (Nat.le_of_ble_eq_true rfl) (Nat.le_of_ble_eq_true rfl) ?_
                      rintro x147 _ ⟨rfl, h148⟩
                      have hw149 : x147 = 6647396 := h148.trans (by decide +kernel)
                      refine vc_cVI dX12_behindOne_210 (sfX12_isWordF (M := M) hB0.1  x147 ) rfl okX12_isWord viX12_isWord lkX12_196 (s_54 hB0.1.1) cl_12 rfl (Nat.le_of_ble_eq_true rfl) ⟨rfl, rfl⟩ (Nat.le_of_ble_eq_true rfl) (Nat.le_of_ble_eq_true rfl) (Nat.le_of_ble_eq_true rfl) ?_
                      rintro x150 _ ⟨rfl, h151, h152, h153⟩
                      have hz154 := isw h153 (RT.iw hT 20 (by decide) (hw149.trans pk_20) (t := 121) (by decide))
                      clear h153
                      refine vc_if_eq dX12_behindOne_213 (fun h155 => ?_) (fun h155 => ?_)
                      · have hn121 : tk g n p ≠ 121 := isw_no hz154 (by omega)
                        clear hz154
                        refine vc_iconst dX12_behindOne_220 rfl ?_
                        refine vc_istore dX12_behindOne_221 (by decide) rfl (show _ = [some (aR 54), some (aI (-1)), some (aI x7), some (aI x13), some (aI 0)] from rfl) ?_
                        refine vc_iload dX12_behindOne_223 rfl ?_
                        refine vc_if_ne dX12_behindOne_225 (fun h156 => by exfalso; omega) (fun h156 => ?_)
                        refine vc_iconst dX12_behindOne_228 rfl ?_
                        refine vc_iret dX12_behindOne_229 rfl (Nat.le_of_ble_eq_true rfl) (Nat.le_of_ble_eq_true rfl) ?_
                        have hEo : EOp g n p := by unfold EOp; omega
                        exact ⟨_, rfl, hB0, rfl, by omega, by omega, p0, by omega, by omega, by omega, by omega, by omega, by omega, (fun _ _ => rfl), by omega, by omega, Or.inr ⟨rfl, hS, hT, hEo, fun hne => by first | (rw [hop, cd41 (by omega)]; exact t_b41 hEo (by omega)) | (rw [hop, cd42 (by omega)]; exact t_b42 hEo (by omega)) | (rw [hop, cd40 (by omega)]; exact t_b40 hEo (by omega))⟩⟩
                      · have ht121 : tk g n p = 121 := isw_yes hz154 (by omega)
                        clear hz154
                        refine vc_iconst dX12_behindOne_216 rfl ?_
                        refine vc_goto dX12_behindOne_217 ?_
                        refine vc_istore dX12_behindOne_221 (by decide) rfl (show _ = [some (aR 54), some (aI (-1)), some (aI x7), some (aI x13), some (aI 1)] from rfl) ?_
                        refine vc_iload dX12_behindOne_223 rfl ?_
                        refine vc_if_ne dX12_behindOne_225 (fun h157 => ?_) (fun h157 => by exfalso; omega)
                        refine vc_aload_n dX12_behindOne_230 rfl ?_
                        refine vc_iload_n dX12_behindOne_231 rfl ?_
                        have hsh : ∃ k : Nat, (k : Int) < mI M 54 18 ∧ mI M 60 k = x13 ∧ ∀ q : Nat, k < q → (q : Int) < mI M 54 18 → mI M 60 q < 40 := ⟨x7.toNat, by omega, by omega, fun q a b => hq2 q (by omega) b⟩
                        refine vc_cVU dX12_behindOne_232 (sfX12_shutF (M := M) hB0.1  S g n p hT (stk (mI M 60) x7.toNat) x7.toNat ⟨rfl, hom, by omega, fun q a b => hq2 q (by omega) b, by omega⟩ x13 (by exact p0) (by omega) (by omega) (by omega) (by omega) (by omega) (by exact hsh) (by omega) (by omega)) rfl okX12_shut viX12_shut lkX12_220 (s_54 hB0.1.1) cl_12 rfl (Nat.le_of_ble_eq_true rfl) ⟨rfl, rfl⟩ (Nat.le_of_ble_eq_true rfl) (Nat.le_of_ble_eq_true rfl) (Nat.le_of_ble_eq_true rfl) ?_
                        rintro M158 ⟨hB159, kp160, h161, h162, h163, h164, h165, h166, h167, h168, h169⟩
                        have hB170 : BF fT M M158 := BF.go hB0 hB159
                        have kp171 : mI M158 55 = mI M 55 := kp_go rfl kp160
                        refine vc_iconst dX12_behindOne_235 rfl ?_
                        refine vc_iret dX12_behindOne_236 rfl (Nat.le_of_ble_eq_true rfl) (Nat.le_of_ble_eq_true rfl) ?_
                        exact ⟨_, rfl, hB170, kp171, by omega, by omega, h161, by omega, by omega, by omega, by omega, by omega, by omega, h168, by omega, by omega, Or.inl ⟨rfl, _, _, h169.1, h169.2.2, fun o z => by first | (rw [hop, cd40 (by omega)]; exact t_shut (by omega) (rn_t h169.2.1 z)) | (rw [hop, cd42 (by omega)]; exact t_end (by omega) (rn_t h169.2.1 z))⟩⟩
                    · refine vc_iload_n dX12_behindOne_194 rfl ?_
                      refine vc_bipush dX12_behindOne_195 rfl ?_
                      refine vc_icmp_ne dX12_behindOne_197 (fun h172 => ?_) (fun h172 => ?_)
                      · refine vc_iconst dX12_behindOne_220 rfl ?_
                        refine vc_istore dX12_behindOne_221 (by decide) rfl (show _ = [some (aR 54), some (aI (-1)), some (aI x7), some (aI x13), some (aI 0)] from rfl) ?_
                        refine vc_iload dX12_behindOne_223 rfl ?_
                        refine vc_if_ne dX12_behindOne_225 (fun h173 => by exfalso; omega) (fun h173 => ?_)
                        refine vc_iconst dX12_behindOne_228 rfl ?_
                        refine vc_iret dX12_behindOne_229 rfl (Nat.le_of_ble_eq_true rfl) (Nat.le_of_ble_eq_true rfl) ?_
                        have hEo : EOp g n p := by unfold EOp; omega
                        exact ⟨_, rfl, hB0, rfl, by omega, by omega, p0, by omega, by omega, by omega, by omega, by omega, by omega, (fun _ _ => rfl), by omega, by omega, Or.inr ⟨rfl, hS, hT, hEo, fun hne => by first | (rw [hop, cd41 (by omega)]; exact t_b41 hEo (by omega)) | (rw [hop, cd42 (by omega)]; exact t_b42 hEo (by omega)) | (rw [hop, cd40 (by omega)]; exact t_b40 hEo (by omega))⟩⟩
                      · have hw2 := RT.w2 hT
                        refine vc_aload_n dX12_behindOne_200 rfl ?_
                        refine vc_bipush dX12_behindOne_201 rfl ?_
                        refine vc_bipush dX12_behindOne_203 rfl ?_
                        refine vc_bipush dX12_behindOne_205 rfl ?_
                        refine vc_cSL dX12_behindOne_207 (sfX12_w3F (M := M) hB0.1  101 110 100 ) rfl okX12_w3 stX12_w3 lkX12_155 rfl (Nat.le_of_ble_eq_true rfl) ⟨rfl, rfl⟩ (Nat.le_of_ble_eq_true rfl) (Nat.le_of_ble_eq_true rfl) (Nat.le_of_ble_eq_true rfl) ?_
                        rintro x174 _ ⟨rfl, h175⟩
                        have hw176 : x174 = 6647396 := h175.trans (by decide +kernel)
                        refine vc_cVI dX12_behindOne_210 (sfX12_isWordF (M := M) hB0.1  x174 ) rfl okX12_isWord viX12_isWord lkX12_196 (s_54 hB0.1.1) cl_12 rfl (Nat.le_of_ble_eq_true rfl) ⟨rfl, rfl⟩ (Nat.le_of_ble_eq_true rfl) (Nat.le_of_ble_eq_true rfl) (Nat.le_of_ble_eq_true rfl) ?_
                        rintro x177 _ ⟨rfl, h178, h179, h180⟩
                        have hz181 := isw h180 (RT.iw hT 20 (by decide) (hw176.trans pk_20) (t := 121) (by decide))
                        clear h180
                        refine vc_if_eq dX12_behindOne_213 (fun h182 => ?_) (fun h182 => ?_)
                        · have hn121 : tk g n p ≠ 121 := isw_no hz181 (by omega)
                          clear hz181
                          refine vc_iconst dX12_behindOne_220 rfl ?_
                          refine vc_istore dX12_behindOne_221 (by decide) rfl (show _ = [some (aR 54), some (aI (-1)), some (aI x7), some (aI x13), some (aI 0)] from rfl) ?_
                          refine vc_iload dX12_behindOne_223 rfl ?_
                          refine vc_if_ne dX12_behindOne_225 (fun h183 => by exfalso; omega) (fun h183 => ?_)
                          refine vc_iconst dX12_behindOne_228 rfl ?_
                          refine vc_iret dX12_behindOne_229 rfl (Nat.le_of_ble_eq_true rfl) (Nat.le_of_ble_eq_true rfl) ?_
                          have hEo : EOp g n p := by unfold EOp; omega
                          exact ⟨_, rfl, hB0, rfl, by omega, by omega, p0, by omega, by omega, by omega, by omega, by omega, by omega, (fun _ _ => rfl), by omega, by omega, Or.inr ⟨rfl, hS, hT, hEo, fun hne => by first | (rw [hop, cd41 (by omega)]; exact t_b41 hEo (by omega)) | (rw [hop, cd42 (by omega)]; exact t_b42 hEo (by omega)) | (rw [hop, cd40 (by omega)]; exact t_b40 hEo (by omega))⟩⟩
                        · have ht121 : tk g n p = 121 := isw_yes hz181 (by omega)
                          clear hz181
                          refine vc_iconst dX12_behindOne_216 rfl ?_
                          refine vc_goto dX12_behindOne_217 ?_
                          refine vc_istore dX12_behindOne_221 (by decide) rfl (show _ = [some (aR 54), some (aI (-1)), some (aI x7), some (aI x13), some (aI 1)] from rfl) ?_
                          refine vc_iload dX12_behindOne_223 rfl ?_
                          refine vc_if_ne dX12_behindOne_225 (fun h184 => ?_) (fun h184 => by exfalso; omega)
                          refine vc_aload_n dX12_behindOne_230 rfl ?_
                          refine vc_iload_n dX12_behindOne_231 rfl ?_
                          have hsh : ∃ k : Nat, (k : Int) < mI M 54 18 ∧ mI M 60 k = x13 ∧ ∀ q : Nat, k < q → (q : Int) < mI M 54 18 → mI M 60 q < 40 := ⟨x7.toNat, by omega, by omega, fun q a b => hq2 q (by omega) b⟩
                          refine vc_cVU dX12_behindOne_232 (sfX12_shutF (M := M) hB0.1  S g n p hT (stk (mI M 60) x7.toNat) x7.toNat ⟨rfl, hom, by omega, fun q a b => hq2 q (by omega) b, by omega⟩ x13 (by exact p0) (by omega) (by omega) (by omega) (by omega) (by omega) (by exact hsh) (by omega) (by omega)) rfl okX12_shut viX12_shut lkX12_220 (s_54 hB0.1.1) cl_12 rfl (Nat.le_of_ble_eq_true rfl) ⟨rfl, rfl⟩ (Nat.le_of_ble_eq_true rfl) (Nat.le_of_ble_eq_true rfl) (Nat.le_of_ble_eq_true rfl) ?_
                          rintro M185 ⟨hB186, kp187, h188, h189, h190, h191, h192, h193, h194, h195, h196⟩
                          have hB197 : BF fT M M185 := BF.go hB0 hB186
                          have kp198 : mI M185 55 = mI M 55 := kp_go rfl kp187
                          refine vc_iconst dX12_behindOne_235 rfl ?_
                          refine vc_iret dX12_behindOne_236 rfl (Nat.le_of_ble_eq_true rfl) (Nat.le_of_ble_eq_true rfl) ?_
                          exact ⟨_, rfl, hB197, kp198, by omega, by omega, h188, by omega, by omega, by omega, by omega, by omega, by omega, h195, by omega, by omega, Or.inl ⟨rfl, _, _, h196.1, h196.2.2, fun o z => by first | (rw [hop, cd40 (by omega)]; exact t_shut (by omega) (rn_t h196.2.1 z)) | (rw [hop, cd42 (by omega)]; exact t_end (by omega) (rn_t h196.2.1 z))⟩⟩
                  · have hs41 := RT.sg hT 41 (t := -259) (by decide) (by decide)
                    refine vc_aload_n dX12_behindOne_171 rfl ?_
                    refine vc_getI dX12_behindOne_172 flX12_129 (s_54 hB0.1.1) rfl ?_
                    refine vc_bipush dX12_behindOne_175 rfl ?_
                    refine vc_icmp_ne dX12_behindOne_177 (fun h199 => ?_) (fun h199 => by exfalso; omega)
                    have hn41 : tk g n p ≠ -259 := fun e => absurd (hs41.mpr e) (by omega)
                    clear hs41
                    refine vc_iconst dX12_behindOne_184 rfl ?_
                    refine vc_goto dX12_behindOne_185 ?_
                    refine vc_istore dX12_behindOne_221 (by decide) rfl (show _ = [some (aR 54), some (aI (-1)), some (aI x7), some (aI x13), some (aI 0)] from rfl) ?_
                    refine vc_iload dX12_behindOne_223 rfl ?_
                    refine vc_if_ne dX12_behindOne_225 (fun h200 => by exfalso; omega) (fun h200 => ?_)
                    refine vc_iconst dX12_behindOne_228 rfl ?_
                    refine vc_iret dX12_behindOne_229 rfl (Nat.le_of_ble_eq_true rfl) (Nat.le_of_ble_eq_true rfl) ?_
                    have hEo : EOp g n p := by unfold EOp; omega
                    exact ⟨_, rfl, hB0, rfl, by omega, by omega, p0, by omega, by omega, by omega, by omega, by omega, by omega, (fun _ _ => rfl), by omega, by omega, Or.inr ⟨rfl, hS, hT, hEo, fun hne => by first | (rw [hop, cd41 (by omega)]; exact t_b41 hEo (by omega)) | (rw [hop, cd42 (by omega)]; exact t_b42 hEo (by omega)) | (rw [hop, cd40 (by omega)]; exact t_b40 hEo (by omega))⟩⟩
                · refine vc_aload_n dX12_behindOne_139 rfl ?_
                  refine vc_iconst dX12_behindOne_140 rfl ?_
                  refine vc_cVU dX12_behindOne_141 (sfX12_settlePileF (M := M) hB0.1  S 1 (by omega) (by omega) (by exact p0) (by omega) (by omega)) rfl okX12_settlePile viX12_settlePile lkX12_211 (s_54 hB0.1.1) cl_12 rfl (Nat.le_of_ble_eq_true rfl) ⟨rfl, rfl⟩ (Nat.le_of_ble_eq_true rfl) (Nat.le_of_ble_eq_true rfl) (Nat.le_of_ble_eq_true rfl) ?_
                  rintro M201 ⟨hB202, kp203, kp204, h205, h206, h207, h208, h209, h210, h211, h212, h213, h214, h215, h216, h217, h218⟩
                  have hB219 : BF fT M M201 := BF.go hB0 hB202
                  have kp220 : mI M201 55 = mI M 55 := kp_go rfl kp203
                  have fr221 : ∀ j : Nat, (j : Int) < mI M 54 14 + 265 + 2 * S → mI M201 57 j = mI M 57 j := fun j hj => (h214 j (by omega)).trans ((fun _ _ => rfl) j hj)
                  have hl2 := h205.len
                  have htop := top_at (M := M) (N := M201) (k := x7.toNat) kp204 (by omega) (by omega) h215 h216 (by omega) (by omega) (fun q a b => hq2 q (by omega) b)
                  have htk : mI M201 60 (mI M201 54 18 - 1).toNat = x13 := by rw [htop, kp204, show ((x7.toNat : Int) + 1 - 1).toNat = x7.toNat by omega]; omega
                  have hix : (x7).toNat = (mI M201 54 18 - 1).toNat := by omega
                  have htk2 : mI M201 60 (x7).toNat = x13 := by rw [hix]; exact htk
                  refine vc_aload_n dX12_behindOne_144 rfl ?_
                  refine vc_getR dX12_behindOne_145 flX12_32 (s_54 hB219.1.1) rfl (r_54_17 hB219.1.1) ?_
                  refine vc_iload_n dX12_behindOne_148 rfl ?_
                  refine vc_dup2 dX12_behindOne_149 rfl rfl ?_
                  refine vc_iaload dX12_behindOne_150 (s_60 hB219.1.1) (by omega) (by omega) ?_
                  refine vc_iconst dX12_behindOne_151 rfl ?_
                  refine vc_iaddE dX12_behindOne_152 (by omega) (by omega) ?_
                  refine vc_iastore dX12_behindOne_153 (s_60 hB219.1.1) (by omega) (by omega) ?_
                  have kp222 : mI (sI M201 60 x7.toNat ((mI M201 60 x7.toNat) + 1)) 55 = mI M 55 := (kp_sI kp220 rfl)
                  have hB223 : BF fT M (sI M201 60 x7.toNat ((mI M201 60 x7.toNat) + 1)) := BF.w60 hB219 (fun _ => rfl) _
                  refine vc_aload_n dX12_behindOne_154 rfl ?_
                  refine vc_iconst dX12_behindOne_155 rfl ?_
                  refine vc_putZ dX12_behindOne_156 (plX12_207 _ rfl) (s_54 hB223.1.1) rfl (by first | decide | omega) ?_
                  have kp224 : mI (sI (sI M201 60 x7.toNat ((mI M201 60 x7.toNat) + 1)) 54 20 0) 55 = mI M 55 := (kp_sI kp222 rfl)
                  have hB225 : BF fT M (sI (sI M201 60 x7.toNat ((mI M201 60 x7.toNat) + 1)) 54 20 0) := BF.w54_20 hB223 rfl
                  refine vc_aload_n dX12_behindOne_159 rfl ?_
                  have hgf := RT.gf hT hB225.2.2
                  have hat0 := RT.at hT (by omega)
                  have hrg0 := RT.rg hT
                  have k226 : mI (sI (sI M201 60 x7.toNat ((mI M201 60 x7.toNat) + 1)) 54 20 0) 54 9 = mI M201 54 9 := rfl
                  have k227 : mI (sI (sI M201 60 x7.toNat ((mI M201 60 x7.toNat) + 1)) 54 20 0) 54 10 = mI M201 54 10 := rfl
                  have k228 : mI (sI (sI M201 60 x7.toNat ((mI M201 60 x7.toNat) + 1)) 54 20 0) 54 11 = mI M201 54 11 := rfl
                  have k229 : mI (sI (sI M201 60 x7.toNat ((mI M201 60 x7.toNat) + 1)) 54 20 0) 54 14 = mI M201 54 14 := rfl
                  have k230 : mI (sI (sI M201 60 x7.toNat ((mI M201 60 x7.toNat) + 1)) 54 20 0) 54 15 = mI M201 54 15 := rfl
                  have k231 : mI (sI (sI M201 60 x7.toNat ((mI M201 60 x7.toNat) + 1)) 54 20 0) 54 16 = mI M201 54 16 := rfl
                  have k232 : mI (sI (sI M201 60 x7.toNat ((mI M201 60 x7.toNat) + 1)) 54 20 0) 54 18 = mI M201 54 18 := rfl
                  have k233 : mI (sI (sI M201 60 x7.toNat ((mI M201 60 x7.toNat) + 1)) 54 20 0) 54 19 = mI M201 54 19 := rfl
                  have k234 : mI (sI (sI M201 60 x7.toNat ((mI M201 60 x7.toNat) + 1)) 54 20 0) 54 20 = 0 := rfl
                  have k235 : mI (sI (sI M201 60 x7.toNat ((mI M201 60 x7.toNat) + 1)) 54 20 0) 54 21 = mI M201 54 21 := rfl
                  refine vc_cVU dX12_behindOne_160 (sfX12_nextTokenF (M := (sI (sI M201 60 x7.toNat ((mI M201 60 x7.toNat) + 1)) 54 20 0)) hB225.1   (by first | (rw [hgf.2.1]; omega) | omega) (by first | (rw [hgf.1]; exact hgf.2.2) | assumption)) rfl okX12_nextToken viX12_nextToken lkX12_193 (s_54 hB225.1.1) cl_12 rfl (Nat.le_of_ble_eq_true rfl) ⟨rfl, rfl⟩ (Nat.le_of_ble_eq_true rfl) (Nat.le_of_ble_eq_true rfl) (Nat.le_of_ble_eq_true rfl) ?_
                  rintro M236 ⟨hB237, kp238, kp239, kp240, h241, h242, h243, h244, h245, h246, h247, h248, h249, h250, h251⟩
                  have hB252 : BF fT M M236 := BF.go hB225 hB237.t
                  have kp253 : mI M236 55 = mI M 55 := kp_go kp224 kp238
                  have rt254 : RT g n M236 (nx g n p) := by
                    have z := h251
                    rw [hgf.1, hgf.2.1, show mI (sI (sI M201 60 x7.toNat ((mI M201 60 x7.toNat) + 1)) 54 20 0) 54 9 = en g n p by first | omega | (show mI M201 54 9 = _; omega)] at z
                    exact z
                  clear hrg0
                  have rg255 := RT.rg rt254
                  have fr256 : ∀ j : Nat, (j : Int) < mI M 54 14 + 265 + 2 * S → mI M236 57 j = mI M 57 j := fun j hj => (congrFun kp239 j).trans (fr221 j hj)
                  have hbx := b54_10 (M := M236) hB252.1
                  have hPI257 : PI M236 S := PI.two (M := M201) (o := x13) h205 (by omega) (by omega) htk (by omega) kp239 (by rw [← hix]; first | exact kp240 | (rw [kp240]; funext b; rw [← htk, ← hix]; rfl)) (by omega) (by omega) (by omega) (by omega) (by omega) (by omega) (by omega)
                  have hSJn : SJ M236 (42 :: stk (mI M 60) x7.toNat) := SJ.two (M := M201) (k := x7.toNat) (o := mI M201 60 x7.toNat + 1) (by rw [kp204]) (by rw [kp204]; exact hom) (by first | exact kp240 | (rw [kp240]; funext b; rfl)) (by omega) (by omega) (by omega)
                  refine vc_iconst dX12_behindOne_163 rfl ?_
                  refine vc_iret dX12_behindOne_164 rfl (Nat.le_of_ble_eq_true rfl) (Nat.le_of_ble_eq_true rfl) ?_
                  exact ⟨_, rfl, hB252, kp253, by omega, by omega, hPI257, by omega, by omega, by omega, by omega, by omega, by omega, fr256, by omega, by omega, Or.inl ⟨rfl, _, _, hSJn, rt254, fun o z => by rw [hop, cd41 (by omega)]; exact t_com (by omega) (rn_f (by omega) z)⟩⟩
          · have hnone : sk = [] := SJ.none hS (by omega) p0 (fun q a => hq2 q (by omega) a)
            refine vc_iconst dX12_behindOne_107 rfl ?_
            refine vc_goto dX12_behindOne_108 ?_
            refine vc_istore_n dX12_behindOne_117 (by decide) rfl (show _ = [some (aR 54), some (aI (-1)), some (aI x7), some (aI (-1)), none] from rfl) ?_
            have hs44 := RT.sg hT 44 (t := -256) (by decide) (by decide)
            refine vc_aload_n dX12_behindOne_118 rfl ?_
            refine vc_getI dX12_behindOne_119 flX12_129 (s_54 hB0.1.1) rfl ?_
            refine vc_bipush dX12_behindOne_122 rfl ?_
            refine vc_icmp_ne dX12_behindOne_124 (fun h258 => ?_) (fun h258 => ?_)
            · have hn44 : tk g n p ≠ -256 := fun e => absurd (hs44.mpr e) (by omega)
              clear hs44
              refine vc_iload_n dX12_behindOne_165 rfl ?_
              refine vc_bipush dX12_behindOne_166 rfl ?_
              refine vc_icmp_ne dX12_behindOne_168 (fun h259 => ?_) (fun h259 => by exfalso; omega)
              refine vc_iload_n dX12_behindOne_188 rfl ?_
              refine vc_bipush dX12_behindOne_189 rfl ?_
              refine vc_icmp_eq dX12_behindOne_191 (fun h260 => by exfalso; omega) (fun h260 => ?_)
              refine vc_iload_n dX12_behindOne_194 rfl ?_
              refine vc_bipush dX12_behindOne_195 rfl ?_
              refine vc_icmp_ne dX12_behindOne_197 (fun h261 => ?_) (fun h261 => by exfalso; omega)
              refine vc_iconst dX12_behindOne_220 rfl ?_
              refine vc_istore dX12_behindOne_221 (by decide) rfl (show _ = [some (aR 54), some (aI (-1)), some (aI x7), some (aI (-1)), some (aI 0)] from rfl) ?_
              refine vc_iload dX12_behindOne_223 rfl ?_
              refine vc_if_ne dX12_behindOne_225 (fun h262 => by exfalso; omega) (fun h262 => ?_)
              refine vc_iconst dX12_behindOne_228 rfl ?_
              refine vc_iret dX12_behindOne_229 rfl (Nat.le_of_ble_eq_true rfl) (Nat.le_of_ble_eq_true rfl) ?_
              have hEo : EOp g n p := by unfold EOp; omega
              exact ⟨_, rfl, hB0, rfl, by omega, by omega, p0, by omega, by omega, by omega, by omega, by omega, by omega, (fun _ _ => rfl), by omega, by omega, Or.inr ⟨rfl, hS, hT, hEo, fun hne => absurd hnone hne⟩⟩
            · have ht44 : tk g n p = -256 := hs44.mp (by omega)
              clear hs44
              refine vc_iload_n dX12_behindOne_127 rfl ?_
              refine vc_bipush dX12_behindOne_128 rfl ?_
              refine vc_icmp_eq dX12_behindOne_130 (fun h263 => by exfalso; omega) (fun h263 => ?_)
              refine vc_iload_n dX12_behindOne_133 rfl ?_
              refine vc_bipush dX12_behindOne_134 rfl ?_
              refine vc_icmp_ne dX12_behindOne_136 (fun h264 => ?_) (fun h264 => by exfalso; omega)
              refine vc_iload_n dX12_behindOne_165 rfl ?_
              refine vc_bipush dX12_behindOne_166 rfl ?_
              refine vc_icmp_ne dX12_behindOne_168 (fun h265 => ?_) (fun h265 => by exfalso; omega)
              refine vc_iload_n dX12_behindOne_188 rfl ?_
              refine vc_bipush dX12_behindOne_189 rfl ?_
              refine vc_icmp_eq dX12_behindOne_191 (fun h266 => by exfalso; omega) (fun h266 => ?_)
              refine vc_iload_n dX12_behindOne_194 rfl ?_
              refine vc_bipush dX12_behindOne_195 rfl ?_
              refine vc_icmp_ne dX12_behindOne_197 (fun h267 => ?_) (fun h267 => by exfalso; omega)
              refine vc_iconst dX12_behindOne_220 rfl ?_
              refine vc_istore dX12_behindOne_221 (by decide) rfl (show _ = [some (aR 54), some (aI (-1)), some (aI x7), some (aI (-1)), some (aI 0)] from rfl) ?_
              refine vc_iload dX12_behindOne_223 rfl ?_
              refine vc_if_ne dX12_behindOne_225 (fun h268 => by exfalso; omega) (fun h268 => ?_)
              refine vc_iconst dX12_behindOne_228 rfl ?_
              refine vc_iret dX12_behindOne_229 rfl (Nat.le_of_ble_eq_true rfl) (Nat.le_of_ble_eq_true rfl) ?_
              have hEo : EOp g n p := by unfold EOp; omega
              exact ⟨_, rfl, hB0, rfl, by omega, by omega, p0, by omega, by omega, by omega, by omega, by omega, by omega, (fun _ _ => rfl), by omega, by omega, Or.inr ⟨rfl, hS, hT, hEo, fun hne => absurd hnone hne⟩⟩
        · have ht : tk g n p = -253 := hs47.mp (by omega)
          clear hs47
          refine vc_bipush dX12_behindOne_48 rfl ?_
          refine vc_goto dX12_behindOne_50 ?_
          refine vc_istore_n dX12_behindOne_54 (by decide) rfl (show _ = [some (aR 54), some (aI 6), none, none, none] from rfl) ?_
          refine vc_iload_n dX12_behindOne_55 rfl ?_
          refine vc_if_lt dX12_behindOne_56 (fun h269 => by exfalso; omega) (fun h269 => ?_)
          refine vc_aload_n dX12_behindOne_59 rfl ?_
          refine vc_iload_n dX12_behindOne_60 rfl ?_
          refine vc_cSI dX12_behindOne_61 (sfX12_rank (M := M) hB0.1  6 ) rfl okX12_rank stX12_rank lkX12_183 rfl (Nat.le_of_ble_eq_true rfl) ⟨rfl, rfl⟩ (Nat.le_of_ble_eq_true rfl) (Nat.le_of_ble_eq_true rfl) (Nat.le_of_ble_eq_true rfl) ?_
          rintro x270 _ ⟨rfl, h271, h272, h273⟩
          have hrk : rkI 6 = 2 := by decide
          have hrx := h273
          refine vc_cVU dX12_behindOne_64 (sfX12_settlePileF (M := M) hB0.1  S x270 (by omega) (by omega) (by exact p0) (by omega) (by omega)) rfl okX12_settlePile viX12_settlePile lkX12_211 (s_54 hB0.1.1) cl_12 rfl (Nat.le_of_ble_eq_true rfl) ⟨rfl, rfl⟩ (Nat.le_of_ble_eq_true rfl) (Nat.le_of_ble_eq_true rfl) (Nat.le_of_ble_eq_true rfl) ?_
          rintro M274 ⟨hB275, kp276, kp277, h278, h279, h280, h281, h282, h283, h284, h285, h286, h287, h288, h289, h290, h291⟩
          have hB292 : BF fT M M274 := BF.go hB0 hB275
          have kp293 : mI M274 55 = mI M 55 := kp_go rfl kp276
          have fr294 : ∀ j : Nat, (j : Int) < mI M 54 14 + 265 + 2 * S → mI M274 57 j = mI M 57 j := fun j hj => (h287 j (by omega)).trans ((fun _ _ => rfl) j hj)
          have hl2 := h278.len
          obtain ⟨hS0, hT0⟩ := SJ.ops hS (by omega) p0 kp277 (by omega) (by omega) (fun q a b => rk_1 (by have z := h289 q a b; omega))
          refine vc_aload_n dX12_behindOne_67 rfl ?_
          refine vc_getR dX12_behindOne_68 flX12_32 (s_54 hB292.1.1) rfl (r_54_17 hB292.1.1) ?_
          refine vc_aload_n dX12_behindOne_71 rfl ?_
          refine vc_getI dX12_behindOne_72 flX12_180 (s_54 hB292.1.1) rfl ?_
          have k295 : 0 ≤ mI M274 54 18 ∧ mI M274 54 18 ≤ 160 := b54_18 (M := M274) hB292.1
          refine vc_iload_n dX12_behindOne_75 rfl ?_
          refine vc_iastore dX12_behindOne_76 (s_60 hB292.1.1) (by omega) (by omega) ?_
          have kp296 : mI (sI M274 60 ((mI M274 54 18).toNat) 6) 55 = mI M 55 := (kp_sI kp293 rfl)
          have hB297 : BF fT M (sI M274 60 ((mI M274 54 18).toNat) 6) := BF.w60 hB292 (fun _ => rfl) _
          refine vc_aload_n dX12_behindOne_77 rfl ?_
          refine vc_dup dX12_behindOne_78 rfl ?_
          refine vc_getI dX12_behindOne_79 flX12_180 (s_54 hB297.1.1) rfl ?_
          refine vc_topI (mI M274 54 18) rfl ?_
          have k298 : 0 ≤ mI M274 54 18 ∧ mI M274 54 18 ≤ 160 := b54_18 (M := (sI M274 60 ((mI M274 54 18).toNat) 6)) hB297.1
          refine vc_iconst dX12_behindOne_82 rfl ?_
          refine vc_iaddE dX12_behindOne_83 (by omega) (by omega) ?_
          refine vc_putI dX12_behindOne_84 (plX12_180 _ rfl) (s_54 hB297.1.1) rfl ?_
          have kp299 : mI (sI (sI M274 60 ((mI M274 54 18).toNat) 6) 54 18 ((mI M274 54 18) + 1)) 55 = mI M 55 := (kp_sI kp296 rfl)
          have hB300 : BF fT M (sI (sI M274 60 ((mI M274 54 18).toNat) 6) 54 18 ((mI M274 54 18) + 1)) := BF.w54_18 hB297 rfl (by omega) (by omega)
          refine vc_aload_n dX12_behindOne_87 rfl ?_
          refine vc_iconst dX12_behindOne_88 rfl ?_
          refine vc_putZ dX12_behindOne_89 (plX12_207 _ rfl) (s_54 hB300.1.1) rfl (by first | decide | omega) ?_
          have kp301 : mI (sI (sI (sI M274 60 ((mI M274 54 18).toNat) 6) 54 18 ((mI M274 54 18) + 1)) 54 20 0) 55 = mI M 55 := (kp_sI kp299 rfl)
          have hB302 : BF fT M (sI (sI (sI M274 60 ((mI M274 54 18).toNat) 6) 54 18 ((mI M274 54 18) + 1)) 54 20 0) := BF.w54_20 hB300 rfl
          refine vc_aload_n dX12_behindOne_92 rfl ?_
          have hgf := RT.gf hT hB302.2.2
          have hat0 := RT.at hT (by omega)
          have hrg0 := RT.rg hT
          have k303 : mI (sI (sI (sI M274 60 ((mI M274 54 18).toNat) 6) 54 18 ((mI M274 54 18) + 1)) 54 20 0) 54 9 = mI M274 54 9 := rfl
          have k304 : mI (sI (sI (sI M274 60 ((mI M274 54 18).toNat) 6) 54 18 ((mI M274 54 18) + 1)) 54 20 0) 54 10 = mI M274 54 10 := rfl
          have k305 : mI (sI (sI (sI M274 60 ((mI M274 54 18).toNat) 6) 54 18 ((mI M274 54 18) + 1)) 54 20 0) 54 11 = mI M274 54 11 := rfl
          have k306 : mI (sI (sI (sI M274 60 ((mI M274 54 18).toNat) 6) 54 18 ((mI M274 54 18) + 1)) 54 20 0) 54 14 = mI M274 54 14 := rfl
          have k307 : mI (sI (sI (sI M274 60 ((mI M274 54 18).toNat) 6) 54 18 ((mI M274 54 18) + 1)) 54 20 0) 54 15 = mI M274 54 15 := rfl
          have k308 : mI (sI (sI (sI M274 60 ((mI M274 54 18).toNat) 6) 54 18 ((mI M274 54 18) + 1)) 54 20 0) 54 16 = mI M274 54 16 := rfl
          have k309 : mI (sI (sI (sI M274 60 ((mI M274 54 18).toNat) 6) 54 18 ((mI M274 54 18) + 1)) 54 20 0) 54 18 = (mI M274 54 18) + 1 := rfl
          have k310 : mI (sI (sI (sI M274 60 ((mI M274 54 18).toNat) 6) 54 18 ((mI M274 54 18) + 1)) 54 20 0) 54 19 = mI M274 54 19 := rfl
          have k311 : mI (sI (sI (sI M274 60 ((mI M274 54 18).toNat) 6) 54 18 ((mI M274 54 18) + 1)) 54 20 0) 54 20 = 0 := rfl
          have k312 : mI (sI (sI (sI M274 60 ((mI M274 54 18).toNat) 6) 54 18 ((mI M274 54 18) + 1)) 54 20 0) 54 21 = mI M274 54 21 := rfl
          refine vc_cVU dX12_behindOne_93 (sfX12_nextTokenF (M := (sI (sI (sI M274 60 ((mI M274 54 18).toNat) 6) 54 18 ((mI M274 54 18) + 1)) 54 20 0)) hB302.1   (by first | (rw [hgf.2.1]; omega) | omega) (by first | (rw [hgf.1]; exact hgf.2.2) | assumption)) rfl okX12_nextToken viX12_nextToken lkX12_193 (s_54 hB302.1.1) cl_12 rfl (Nat.le_of_ble_eq_true rfl) ⟨rfl, rfl⟩ (Nat.le_of_ble_eq_true rfl) (Nat.le_of_ble_eq_true rfl) (Nat.le_of_ble_eq_true rfl) ?_
          rintro M313 ⟨hB314, kp315, kp316, kp317, h318, h319, h320, h321, h322, h323, h324, h325, h326, h327, h328⟩
          have hB329 : BF fT M M313 := BF.go hB302 hB314.t
          have kp330 : mI M313 55 = mI M 55 := kp_go kp301 kp315
          have rt331 : RT g n M313 (nx g n p) := by
            have z := h328
            rw [hgf.1, hgf.2.1, show mI (sI (sI (sI M274 60 ((mI M274 54 18).toNat) 6) 54 18 ((mI M274 54 18) + 1)) 54 20 0) 54 9 = en g n p by first | omega | (show mI M274 54 9 = _; omega)] at z
            exact z
          clear hrg0
          have rg332 := RT.rg rt331
          have fr333 : ∀ j : Nat, (j : Int) < mI M 54 14 + 265 + 2 * S → mI M313 57 j = mI M 57 j := fun j hj => (congrFun kp316 j).trans (fr294 j hj)
          have hbx := b54_10 (M := M313) hB329.1
          have hPI334 : PI M313 S := PI.bin (M := M274) (o := 6) h278 (by omega) (by omega) (by rcases h288 with e | e; (left; exact e); (right; omega)) kp316 (by first | exact kp317 | (rw [kp317]; funext b; rfl)) (by omega) (by omega) (by omega) (by omega) (by omega) (by omega) (by omega)
          have hSJn : SJ M313 sk := SJ.wait (M := M274) (o := 6) hS0 (by omega) hT0 (by first | exact kp317 | (rw [kp317]; funext b; rfl)) (by omega) (by omega) (by omega)
          refine vc_iconst dX12_behindOne_96 rfl ?_
          refine vc_iret dX12_behindOne_97 rfl (Nat.le_of_ble_eq_true rfl) (Nat.le_of_ble_eq_true rfl) ?_
          exact ⟨_, rfl, hB329, kp330, by omega, by omega, hPI334, by omega, by omega, by omega, by omega, by omega, by omega, fr333, by omega, by omega, Or.inl ⟨rfl, _, _, hSJn, rt331, fun o z => t_op (by omega) (rn_f (by omega) z)⟩⟩
      · have ht : tk g n p = -258 := hs42.mp (by omega)
        clear hs42
        refine vc_iconst dX12_behindOne_35 rfl ?_
        refine vc_goto dX12_behindOne_36 ?_
        refine vc_istore_n dX12_behindOne_54 (by decide) rfl (show _ = [some (aR 54), some (aI 5), none, none, none] from rfl) ?_
        refine vc_iload_n dX12_behindOne_55 rfl ?_
        refine vc_if_lt dX12_behindOne_56 (fun h335 => by exfalso; omega) (fun h335 => ?_)
        refine vc_aload_n dX12_behindOne_59 rfl ?_
        refine vc_iload_n dX12_behindOne_60 rfl ?_
        refine vc_cSI dX12_behindOne_61 (sfX12_rank (M := M) hB0.1  5 ) rfl okX12_rank stX12_rank lkX12_183 rfl (Nat.le_of_ble_eq_true rfl) ⟨rfl, rfl⟩ (Nat.le_of_ble_eq_true rfl) (Nat.le_of_ble_eq_true rfl) (Nat.le_of_ble_eq_true rfl) ?_
        rintro x336 _ ⟨rfl, h337, h338, h339⟩
        have hrk : rkI 5 = 2 := by decide
        have hrx := h339
        refine vc_cVU dX12_behindOne_64 (sfX12_settlePileF (M := M) hB0.1  S x336 (by omega) (by omega) (by exact p0) (by omega) (by omega)) rfl okX12_settlePile viX12_settlePile lkX12_211 (s_54 hB0.1.1) cl_12 rfl (Nat.le_of_ble_eq_true rfl) ⟨rfl, rfl⟩ (Nat.le_of_ble_eq_true rfl) (Nat.le_of_ble_eq_true rfl) (Nat.le_of_ble_eq_true rfl) ?_
        rintro M340 ⟨hB341, kp342, kp343, h344, h345, h346, h347, h348, h349, h350, h351, h352, h353, h354, h355, h356, h357⟩
        have hB358 : BF fT M M340 := BF.go hB0 hB341
        have kp359 : mI M340 55 = mI M 55 := kp_go rfl kp342
        have fr360 : ∀ j : Nat, (j : Int) < mI M 54 14 + 265 + 2 * S → mI M340 57 j = mI M 57 j := fun j hj => (h353 j (by omega)).trans ((fun _ _ => rfl) j hj)
        have hl2 := h344.len
        obtain ⟨hS0, hT0⟩ := SJ.ops hS (by omega) p0 kp343 (by omega) (by omega) (fun q a b => rk_1 (by have z := h355 q a b; omega))
        refine vc_aload_n dX12_behindOne_67 rfl ?_
        refine vc_getR dX12_behindOne_68 flX12_32 (s_54 hB358.1.1) rfl (r_54_17 hB358.1.1) ?_
        refine vc_aload_n dX12_behindOne_71 rfl ?_
        refine vc_getI dX12_behindOne_72 flX12_180 (s_54 hB358.1.1) rfl ?_
        have k361 : 0 ≤ mI M340 54 18 ∧ mI M340 54 18 ≤ 160 := b54_18 (M := M340) hB358.1
        refine vc_iload_n dX12_behindOne_75 rfl ?_
        refine vc_iastore dX12_behindOne_76 (s_60 hB358.1.1) (by omega) (by omega) ?_
        have kp362 : mI (sI M340 60 ((mI M340 54 18).toNat) 5) 55 = mI M 55 := (kp_sI kp359 rfl)
        have hB363 : BF fT M (sI M340 60 ((mI M340 54 18).toNat) 5) := BF.w60 hB358 (fun _ => rfl) _
        refine vc_aload_n dX12_behindOne_77 rfl ?_
        refine vc_dup dX12_behindOne_78 rfl ?_
        refine vc_getI dX12_behindOne_79 flX12_180 (s_54 hB363.1.1) rfl ?_
        refine vc_topI (mI M340 54 18) rfl ?_
        have k364 : 0 ≤ mI M340 54 18 ∧ mI M340 54 18 ≤ 160 := b54_18 (M := (sI M340 60 ((mI M340 54 18).toNat) 5)) hB363.1
        refine vc_iconst dX12_behindOne_82 rfl ?_
        refine vc_iaddE dX12_behindOne_83 (by omega) (by omega) ?_
        refine vc_putI dX12_behindOne_84 (plX12_180 _ rfl) (s_54 hB363.1.1) rfl ?_
        have kp365 : mI (sI (sI M340 60 ((mI M340 54 18).toNat) 5) 54 18 ((mI M340 54 18) + 1)) 55 = mI M 55 := (kp_sI kp362 rfl)
        have hB366 : BF fT M (sI (sI M340 60 ((mI M340 54 18).toNat) 5) 54 18 ((mI M340 54 18) + 1)) := BF.w54_18 hB363 rfl (by omega) (by omega)
        refine vc_aload_n dX12_behindOne_87 rfl ?_
        refine vc_iconst dX12_behindOne_88 rfl ?_
        refine vc_putZ dX12_behindOne_89 (plX12_207 _ rfl) (s_54 hB366.1.1) rfl (by first | decide | omega) ?_
        have kp367 : mI (sI (sI (sI M340 60 ((mI M340 54 18).toNat) 5) 54 18 ((mI M340 54 18) + 1)) 54 20 0) 55 = mI M 55 := (kp_sI kp365 rfl)
        have hB368 : BF fT M (sI (sI (sI M340 60 ((mI M340 54 18).toNat) 5) 54 18 ((mI M340 54 18) + 1)) 54 20 0) := BF.w54_20 hB366 rfl
        refine vc_aload_n dX12_behindOne_92 rfl ?_
        have hgf := RT.gf hT hB368.2.2
        have hat0 := RT.at hT (by omega)
        have hrg0 := RT.rg hT
        have k369 : mI (sI (sI (sI M340 60 ((mI M340 54 18).toNat) 5) 54 18 ((mI M340 54 18) + 1)) 54 20 0) 54 9 = mI M340 54 9 := rfl
        have k370 : mI (sI (sI (sI M340 60 ((mI M340 54 18).toNat) 5) 54 18 ((mI M340 54 18) + 1)) 54 20 0) 54 10 = mI M340 54 10 := rfl
        have k371 : mI (sI (sI (sI M340 60 ((mI M340 54 18).toNat) 5) 54 18 ((mI M340 54 18) + 1)) 54 20 0) 54 11 = mI M340 54 11 := rfl
        have k372 : mI (sI (sI (sI M340 60 ((mI M340 54 18).toNat) 5) 54 18 ((mI M340 54 18) + 1)) 54 20 0) 54 14 = mI M340 54 14 := rfl
        have k373 : mI (sI (sI (sI M340 60 ((mI M340 54 18).toNat) 5) 54 18 ((mI M340 54 18) + 1)) 54 20 0) 54 15 = mI M340 54 15 := rfl
        have k374 : mI (sI (sI (sI M340 60 ((mI M340 54 18).toNat) 5) 54 18 ((mI M340 54 18) + 1)) 54 20 0) 54 16 = mI M340 54 16 := rfl
        have k375 : mI (sI (sI (sI M340 60 ((mI M340 54 18).toNat) 5) 54 18 ((mI M340 54 18) + 1)) 54 20 0) 54 18 = (mI M340 54 18) + 1 := rfl
        have k376 : mI (sI (sI (sI M340 60 ((mI M340 54 18).toNat) 5) 54 18 ((mI M340 54 18) + 1)) 54 20 0) 54 19 = mI M340 54 19 := rfl
        have k377 : mI (sI (sI (sI M340 60 ((mI M340 54 18).toNat) 5) 54 18 ((mI M340 54 18) + 1)) 54 20 0) 54 20 = 0 := rfl
        have k378 : mI (sI (sI (sI M340 60 ((mI M340 54 18).toNat) 5) 54 18 ((mI M340 54 18) + 1)) 54 20 0) 54 21 = mI M340 54 21 := rfl
        refine vc_cVU dX12_behindOne_93 (sfX12_nextTokenF (M := (sI (sI (sI M340 60 ((mI M340 54 18).toNat) 5) 54 18 ((mI M340 54 18) + 1)) 54 20 0)) hB368.1   (by first | (rw [hgf.2.1]; omega) | omega) (by first | (rw [hgf.1]; exact hgf.2.2) | assumption)) rfl okX12_nextToken viX12_nextToken lkX12_193 (s_54 hB368.1.1) cl_12 rfl (Nat.le_of_ble_eq_true rfl) ⟨rfl, rfl⟩ (Nat.le_of_ble_eq_true rfl) (Nat.le_of_ble_eq_true rfl) (Nat.le_of_ble_eq_true rfl) ?_
        rintro M379 ⟨hB380, kp381, kp382, kp383, h384, h385, h386, h387, h388, h389, h390, h391, h392, h393, h394⟩
        have hB395 : BF fT M M379 := BF.go hB368 hB380.t
        have kp396 : mI M379 55 = mI M 55 := kp_go kp367 kp381
        have rt397 : RT g n M379 (nx g n p) := by
          have z := h394
          rw [hgf.1, hgf.2.1, show mI (sI (sI (sI M340 60 ((mI M340 54 18).toNat) 5) 54 18 ((mI M340 54 18) + 1)) 54 20 0) 54 9 = en g n p by first | omega | (show mI M340 54 9 = _; omega)] at z
          exact z
        clear hrg0
        have rg398 := RT.rg rt397
        have fr399 : ∀ j : Nat, (j : Int) < mI M 54 14 + 265 + 2 * S → mI M379 57 j = mI M 57 j := fun j hj => (congrFun kp382 j).trans (fr360 j hj)
        have hbx := b54_10 (M := M379) hB395.1
        have hPI400 : PI M379 S := PI.bin (M := M340) (o := 5) h344 (by omega) (by omega) (by rcases h354 with e | e; (left; exact e); (right; omega)) kp382 (by first | exact kp383 | (rw [kp383]; funext b; rfl)) (by omega) (by omega) (by omega) (by omega) (by omega) (by omega) (by omega)
        have hSJn : SJ M379 sk := SJ.wait (M := M340) (o := 5) hS0 (by omega) hT0 (by first | exact kp383 | (rw [kp383]; funext b; rfl)) (by omega) (by omega) (by omega)
        refine vc_iconst dX12_behindOne_96 rfl ?_
        refine vc_iret dX12_behindOne_97 rfl (Nat.le_of_ble_eq_true rfl) (Nat.le_of_ble_eq_true rfl) ?_
        exact ⟨_, rfl, hB395, kp396, by omega, by omega, hPI400, by omega, by omega, by omega, by omega, by omega, by omega, fr399, by omega, by omega, Or.inl ⟨rfl, _, _, hSJn, rt397, fun o z => t_op (by omega) (rn_f (by omega) z)⟩⟩
    · have ht : tk g n p = -255 := hs45.mp (by omega)
      clear hs45
      refine vc_iconst dX12_behindOne_22 rfl ?_
      refine vc_goto dX12_behindOne_23 ?_
      refine vc_istore_n dX12_behindOne_54 (by decide) rfl (show _ = [some (aR 54), some (aI 4), none, none, none] from rfl) ?_
      refine vc_iload_n dX12_behindOne_55 rfl ?_
      refine vc_if_lt dX12_behindOne_56 (fun h401 => by exfalso; omega) (fun h401 => ?_)
      refine vc_aload_n dX12_behindOne_59 rfl ?_
      refine vc_iload_n dX12_behindOne_60 rfl ?_
      refine vc_cSI dX12_behindOne_61 (sfX12_rank (M := M) hB0.1  4 ) rfl okX12_rank stX12_rank lkX12_183 rfl (Nat.le_of_ble_eq_true rfl) ⟨rfl, rfl⟩ (Nat.le_of_ble_eq_true rfl) (Nat.le_of_ble_eq_true rfl) (Nat.le_of_ble_eq_true rfl) ?_
      rintro x402 _ ⟨rfl, h403, h404, h405⟩
      have hrk : rkI 4 = 1 := by decide
      have hrx := h405
      refine vc_cVU dX12_behindOne_64 (sfX12_settlePileF (M := M) hB0.1  S x402 (by omega) (by omega) (by exact p0) (by omega) (by omega)) rfl okX12_settlePile viX12_settlePile lkX12_211 (s_54 hB0.1.1) cl_12 rfl (Nat.le_of_ble_eq_true rfl) ⟨rfl, rfl⟩ (Nat.le_of_ble_eq_true rfl) (Nat.le_of_ble_eq_true rfl) (Nat.le_of_ble_eq_true rfl) ?_
      rintro M406 ⟨hB407, kp408, kp409, h410, h411, h412, h413, h414, h415, h416, h417, h418, h419, h420, h421, h422, h423⟩
      have hB424 : BF fT M M406 := BF.go hB0 hB407
      have kp425 : mI M406 55 = mI M 55 := kp_go rfl kp408
      have fr426 : ∀ j : Nat, (j : Int) < mI M 54 14 + 265 + 2 * S → mI M406 57 j = mI M 57 j := fun j hj => (h419 j (by omega)).trans ((fun _ _ => rfl) j hj)
      have hl2 := h410.len
      obtain ⟨hS0, hT0⟩ := SJ.ops hS (by omega) p0 kp409 (by omega) (by omega) (fun q a b => rk_1 (by have z := h421 q a b; omega))
      refine vc_aload_n dX12_behindOne_67 rfl ?_
      refine vc_getR dX12_behindOne_68 flX12_32 (s_54 hB424.1.1) rfl (r_54_17 hB424.1.1) ?_
      refine vc_aload_n dX12_behindOne_71 rfl ?_
      refine vc_getI dX12_behindOne_72 flX12_180 (s_54 hB424.1.1) rfl ?_
      have k427 : 0 ≤ mI M406 54 18 ∧ mI M406 54 18 ≤ 160 := b54_18 (M := M406) hB424.1
      refine vc_iload_n dX12_behindOne_75 rfl ?_
      refine vc_iastore dX12_behindOne_76 (s_60 hB424.1.1) (by omega) (by omega) ?_
      have kp428 : mI (sI M406 60 ((mI M406 54 18).toNat) 4) 55 = mI M 55 := (kp_sI kp425 rfl)
      have hB429 : BF fT M (sI M406 60 ((mI M406 54 18).toNat) 4) := BF.w60 hB424 (fun _ => rfl) _
      refine vc_aload_n dX12_behindOne_77 rfl ?_
      refine vc_dup dX12_behindOne_78 rfl ?_
      refine vc_getI dX12_behindOne_79 flX12_180 (s_54 hB429.1.1) rfl ?_
      refine vc_topI (mI M406 54 18) rfl ?_
      have k430 : 0 ≤ mI M406 54 18 ∧ mI M406 54 18 ≤ 160 := b54_18 (M := (sI M406 60 ((mI M406 54 18).toNat) 4)) hB429.1
      refine vc_iconst dX12_behindOne_82 rfl ?_
      refine vc_iaddE dX12_behindOne_83 (by omega) (by omega) ?_
      refine vc_putI dX12_behindOne_84 (plX12_180 _ rfl) (s_54 hB429.1.1) rfl ?_
      have kp431 : mI (sI (sI M406 60 ((mI M406 54 18).toNat) 4) 54 18 ((mI M406 54 18) + 1)) 55 = mI M 55 := (kp_sI kp428 rfl)
      have hB432 : BF fT M (sI (sI M406 60 ((mI M406 54 18).toNat) 4) 54 18 ((mI M406 54 18) + 1)) := BF.w54_18 hB429 rfl (by omega) (by omega)
      refine vc_aload_n dX12_behindOne_87 rfl ?_
      refine vc_iconst dX12_behindOne_88 rfl ?_
      refine vc_putZ dX12_behindOne_89 (plX12_207 _ rfl) (s_54 hB432.1.1) rfl (by first | decide | omega) ?_
      have kp433 : mI (sI (sI (sI M406 60 ((mI M406 54 18).toNat) 4) 54 18 ((mI M406 54 18) + 1)) 54 20 0) 55 = mI M 55 := (kp_sI kp431 rfl)
      have hB434 : BF fT M (sI (sI (sI M406 60 ((mI M406 54 18).toNat) 4) 54 18 ((mI M406 54 18) + 1)) 54 20 0) := BF.w54_20 hB432 rfl
      refine vc_aload_n dX12_behindOne_92 rfl ?_
      have hgf := RT.gf hT hB434.2.2
      have hat0 := RT.at hT (by omega)
      have hrg0 := RT.rg hT
      have k435 : mI (sI (sI (sI M406 60 ((mI M406 54 18).toNat) 4) 54 18 ((mI M406 54 18) + 1)) 54 20 0) 54 9 = mI M406 54 9 := rfl
      have k436 : mI (sI (sI (sI M406 60 ((mI M406 54 18).toNat) 4) 54 18 ((mI M406 54 18) + 1)) 54 20 0) 54 10 = mI M406 54 10 := rfl
      have k437 : mI (sI (sI (sI M406 60 ((mI M406 54 18).toNat) 4) 54 18 ((mI M406 54 18) + 1)) 54 20 0) 54 11 = mI M406 54 11 := rfl
      have k438 : mI (sI (sI (sI M406 60 ((mI M406 54 18).toNat) 4) 54 18 ((mI M406 54 18) + 1)) 54 20 0) 54 14 = mI M406 54 14 := rfl
      have k439 : mI (sI (sI (sI M406 60 ((mI M406 54 18).toNat) 4) 54 18 ((mI M406 54 18) + 1)) 54 20 0) 54 15 = mI M406 54 15 := rfl
      have k440 : mI (sI (sI (sI M406 60 ((mI M406 54 18).toNat) 4) 54 18 ((mI M406 54 18) + 1)) 54 20 0) 54 16 = mI M406 54 16 := rfl
      have k441 : mI (sI (sI (sI M406 60 ((mI M406 54 18).toNat) 4) 54 18 ((mI M406 54 18) + 1)) 54 20 0) 54 18 = (mI M406 54 18) + 1 := rfl
      have k442 : mI (sI (sI (sI M406 60 ((mI M406 54 18).toNat) 4) 54 18 ((mI M406 54 18) + 1)) 54 20 0) 54 19 = mI M406 54 19 := rfl
      have k443 : mI (sI (sI (sI M406 60 ((mI M406 54 18).toNat) 4) 54 18 ((mI M406 54 18) + 1)) 54 20 0) 54 20 = 0 := rfl
      have k444 : mI (sI (sI (sI M406 60 ((mI M406 54 18).toNat) 4) 54 18 ((mI M406 54 18) + 1)) 54 20 0) 54 21 = mI M406 54 21 := rfl
      refine vc_cVU dX12_behindOne_93 (sfX12_nextTokenF (M := (sI (sI (sI M406 60 ((mI M406 54 18).toNat) 4) 54 18 ((mI M406 54 18) + 1)) 54 20 0)) hB434.1   (by first | (rw [hgf.2.1]; omega) | omega) (by first | (rw [hgf.1]; exact hgf.2.2) | assumption)) rfl okX12_nextToken viX12_nextToken lkX12_193 (s_54 hB434.1.1) cl_12 rfl (Nat.le_of_ble_eq_true rfl) ⟨rfl, rfl⟩ (Nat.le_of_ble_eq_true rfl) (Nat.le_of_ble_eq_true rfl) (Nat.le_of_ble_eq_true rfl) ?_
      rintro M445 ⟨hB446, kp447, kp448, kp449, h450, h451, h452, h453, h454, h455, h456, h457, h458, h459, h460⟩
      have hB461 : BF fT M M445 := BF.go hB434 hB446.t
      have kp462 : mI M445 55 = mI M 55 := kp_go kp433 kp447
      have rt463 : RT g n M445 (nx g n p) := by
        have z := h460
        rw [hgf.1, hgf.2.1, show mI (sI (sI (sI M406 60 ((mI M406 54 18).toNat) 4) 54 18 ((mI M406 54 18) + 1)) 54 20 0) 54 9 = en g n p by first | omega | (show mI M406 54 9 = _; omega)] at z
        exact z
      clear hrg0
      have rg464 := RT.rg rt463
      have fr465 : ∀ j : Nat, (j : Int) < mI M 54 14 + 265 + 2 * S → mI M445 57 j = mI M 57 j := fun j hj => (congrFun kp448 j).trans (fr426 j hj)
      have hbx := b54_10 (M := M445) hB461.1
      have hPI466 : PI M445 S := PI.bin (M := M406) (o := 4) h410 (by omega) (by omega) (by rcases h420 with e | e; (left; exact e); (right; omega)) kp448 (by first | exact kp449 | (rw [kp449]; funext b; rfl)) (by omega) (by omega) (by omega) (by omega) (by omega) (by omega) (by omega)
      have hSJn : SJ M445 sk := SJ.wait (M := M406) (o := 4) hS0 (by omega) hT0 (by first | exact kp449 | (rw [kp449]; funext b; rfl)) (by omega) (by omega) (by omega)
      refine vc_iconst dX12_behindOne_96 rfl ?_
      refine vc_iret dX12_behindOne_97 rfl (Nat.le_of_ble_eq_true rfl) (Nat.le_of_ble_eq_true rfl) ?_
      exact ⟨_, rfl, hB461, kp462, by omega, by omega, hPI466, by omega, by omega, by omega, by omega, by omega, by omega, fr465, by omega, by omega, Or.inl ⟨rfl, _, _, hSJn, rt463, fun o z => t_op (by omega) (rn_f (by omega) z)⟩⟩
  · have ht : tk g n p = -257 := hs43.mp (by omega)
    clear hs43
    refine vc_iconst dX12_behindOne_9 rfl ?_
    refine vc_goto dX12_behindOne_10 ?_
    refine vc_istore_n dX12_behindOne_54 (by decide) rfl (show _ = [some (aR 54), some (aI 3), none, none, none] from rfl) ?_
    refine vc_iload_n dX12_behindOne_55 rfl ?_
    refine vc_if_lt dX12_behindOne_56 (fun h467 => by exfalso; omega) (fun h467 => ?_)
    refine vc_aload_n dX12_behindOne_59 rfl ?_
    refine vc_iload_n dX12_behindOne_60 rfl ?_
    refine vc_cSI dX12_behindOne_61 (sfX12_rank (M := M) hB0.1  3 ) rfl okX12_rank stX12_rank lkX12_183 rfl (Nat.le_of_ble_eq_true rfl) ⟨rfl, rfl⟩ (Nat.le_of_ble_eq_true rfl) (Nat.le_of_ble_eq_true rfl) (Nat.le_of_ble_eq_true rfl) ?_
    rintro x468 _ ⟨rfl, h469, h470, h471⟩
    have hrk : rkI 3 = 1 := by decide
    have hrx := h471
    refine vc_cVU dX12_behindOne_64 (sfX12_settlePileF (M := M) hB0.1  S x468 (by omega) (by omega) (by exact p0) (by omega) (by omega)) rfl okX12_settlePile viX12_settlePile lkX12_211 (s_54 hB0.1.1) cl_12 rfl (Nat.le_of_ble_eq_true rfl) ⟨rfl, rfl⟩ (Nat.le_of_ble_eq_true rfl) (Nat.le_of_ble_eq_true rfl) (Nat.le_of_ble_eq_true rfl) ?_
    rintro M472 ⟨hB473, kp474, kp475, h476, h477, h478, h479, h480, h481, h482, h483, h484, h485, h486, h487, h488, h489⟩
    have hB490 : BF fT M M472 := BF.go hB0 hB473
    have kp491 : mI M472 55 = mI M 55 := kp_go rfl kp474
    have fr492 : ∀ j : Nat, (j : Int) < mI M 54 14 + 265 + 2 * S → mI M472 57 j = mI M 57 j := fun j hj => (h485 j (by omega)).trans ((fun _ _ => rfl) j hj)
    have hl2 := h476.len
    obtain ⟨hS0, hT0⟩ := SJ.ops hS (by omega) p0 kp475 (by omega) (by omega) (fun q a b => rk_1 (by have z := h487 q a b; omega))
    refine vc_aload_n dX12_behindOne_67 rfl ?_
    refine vc_getR dX12_behindOne_68 flX12_32 (s_54 hB490.1.1) rfl (r_54_17 hB490.1.1) ?_
    refine vc_aload_n dX12_behindOne_71 rfl ?_
    refine vc_getI dX12_behindOne_72 flX12_180 (s_54 hB490.1.1) rfl ?_
    have k493 : 0 ≤ mI M472 54 18 ∧ mI M472 54 18 ≤ 160 := b54_18 (M := M472) hB490.1
    refine vc_iload_n dX12_behindOne_75 rfl ?_
    refine vc_iastore dX12_behindOne_76 (s_60 hB490.1.1) (by omega) (by omega) ?_
    have kp494 : mI (sI M472 60 ((mI M472 54 18).toNat) 3) 55 = mI M 55 := (kp_sI kp491 rfl)
    have hB495 : BF fT M (sI M472 60 ((mI M472 54 18).toNat) 3) := BF.w60 hB490 (fun _ => rfl) _
    refine vc_aload_n dX12_behindOne_77 rfl ?_
    refine vc_dup dX12_behindOne_78 rfl ?_
    refine vc_getI dX12_behindOne_79 flX12_180 (s_54 hB495.1.1) rfl ?_
    refine vc_topI (mI M472 54 18) rfl ?_
    have k496 : 0 ≤ mI M472 54 18 ∧ mI M472 54 18 ≤ 160 := b54_18 (M := (sI M472 60 ((mI M472 54 18).toNat) 3)) hB495.1
    refine vc_iconst dX12_behindOne_82 rfl ?_
    refine vc_iaddE dX12_behindOne_83 (by omega) (by omega) ?_
    refine vc_putI dX12_behindOne_84 (plX12_180 _ rfl) (s_54 hB495.1.1) rfl ?_
    have kp497 : mI (sI (sI M472 60 ((mI M472 54 18).toNat) 3) 54 18 ((mI M472 54 18) + 1)) 55 = mI M 55 := (kp_sI kp494 rfl)
    have hB498 : BF fT M (sI (sI M472 60 ((mI M472 54 18).toNat) 3) 54 18 ((mI M472 54 18) + 1)) := BF.w54_18 hB495 rfl (by omega) (by omega)
    refine vc_aload_n dX12_behindOne_87 rfl ?_
    refine vc_iconst dX12_behindOne_88 rfl ?_
    refine vc_putZ dX12_behindOne_89 (plX12_207 _ rfl) (s_54 hB498.1.1) rfl (by first | decide | omega) ?_
    have kp499 : mI (sI (sI (sI M472 60 ((mI M472 54 18).toNat) 3) 54 18 ((mI M472 54 18) + 1)) 54 20 0) 55 = mI M 55 := (kp_sI kp497 rfl)
    have hB500 : BF fT M (sI (sI (sI M472 60 ((mI M472 54 18).toNat) 3) 54 18 ((mI M472 54 18) + 1)) 54 20 0) := BF.w54_20 hB498 rfl
    refine vc_aload_n dX12_behindOne_92 rfl ?_
    have hgf := RT.gf hT hB500.2.2
    have hat0 := RT.at hT (by omega)
    have hrg0 := RT.rg hT
    have k501 : mI (sI (sI (sI M472 60 ((mI M472 54 18).toNat) 3) 54 18 ((mI M472 54 18) + 1)) 54 20 0) 54 9 = mI M472 54 9 := rfl
    have k502 : mI (sI (sI (sI M472 60 ((mI M472 54 18).toNat) 3) 54 18 ((mI M472 54 18) + 1)) 54 20 0) 54 10 = mI M472 54 10 := rfl
    have k503 : mI (sI (sI (sI M472 60 ((mI M472 54 18).toNat) 3) 54 18 ((mI M472 54 18) + 1)) 54 20 0) 54 11 = mI M472 54 11 := rfl
    have k504 : mI (sI (sI (sI M472 60 ((mI M472 54 18).toNat) 3) 54 18 ((mI M472 54 18) + 1)) 54 20 0) 54 14 = mI M472 54 14 := rfl
    have k505 : mI (sI (sI (sI M472 60 ((mI M472 54 18).toNat) 3) 54 18 ((mI M472 54 18) + 1)) 54 20 0) 54 15 = mI M472 54 15 := rfl
    have k506 : mI (sI (sI (sI M472 60 ((mI M472 54 18).toNat) 3) 54 18 ((mI M472 54 18) + 1)) 54 20 0) 54 16 = mI M472 54 16 := rfl
    have k507 : mI (sI (sI (sI M472 60 ((mI M472 54 18).toNat) 3) 54 18 ((mI M472 54 18) + 1)) 54 20 0) 54 18 = (mI M472 54 18) + 1 := rfl
    have k508 : mI (sI (sI (sI M472 60 ((mI M472 54 18).toNat) 3) 54 18 ((mI M472 54 18) + 1)) 54 20 0) 54 19 = mI M472 54 19 := rfl
    have k509 : mI (sI (sI (sI M472 60 ((mI M472 54 18).toNat) 3) 54 18 ((mI M472 54 18) + 1)) 54 20 0) 54 20 = 0 := rfl
    have k510 : mI (sI (sI (sI M472 60 ((mI M472 54 18).toNat) 3) 54 18 ((mI M472 54 18) + 1)) 54 20 0) 54 21 = mI M472 54 21 := rfl
    refine vc_cVU dX12_behindOne_93 (sfX12_nextTokenF (M := (sI (sI (sI M472 60 ((mI M472 54 18).toNat) 3) 54 18 ((mI M472 54 18) + 1)) 54 20 0)) hB500.1   (by first | (rw [hgf.2.1]; omega) | omega) (by first | (rw [hgf.1]; exact hgf.2.2) | assumption)) rfl okX12_nextToken viX12_nextToken lkX12_193 (s_54 hB500.1.1) cl_12 rfl (Nat.le_of_ble_eq_true rfl) ⟨rfl, rfl⟩ (Nat.le_of_ble_eq_true rfl) (Nat.le_of_ble_eq_true rfl) (Nat.le_of_ble_eq_true rfl) ?_
    rintro M511 ⟨hB512, kp513, kp514, kp515, h516, h517, h518, h519, h520, h521, h522, h523, h524, h525, h526⟩
    have hB527 : BF fT M M511 := BF.go hB500 hB512.t
    have kp528 : mI M511 55 = mI M 55 := kp_go kp499 kp513
    have rt529 : RT g n M511 (nx g n p) := by
      have z := h526
      rw [hgf.1, hgf.2.1, show mI (sI (sI (sI M472 60 ((mI M472 54 18).toNat) 3) 54 18 ((mI M472 54 18) + 1)) 54 20 0) 54 9 = en g n p by first | omega | (show mI M472 54 9 = _; omega)] at z
      exact z
    clear hrg0
    have rg530 := RT.rg rt529
    have fr531 : ∀ j : Nat, (j : Int) < mI M 54 14 + 265 + 2 * S → mI M511 57 j = mI M 57 j := fun j hj => (congrFun kp514 j).trans (fr492 j hj)
    have hbx := b54_10 (M := M511) hB527.1
    have hPI532 : PI M511 S := PI.bin (M := M472) (o := 3) h476 (by omega) (by omega) (by rcases h486 with e | e; (left; exact e); (right; omega)) kp514 (by first | exact kp515 | (rw [kp515]; funext b; rfl)) (by omega) (by omega) (by omega) (by omega) (by omega) (by omega) (by omega)
    have hSJn : SJ M511 sk := SJ.wait (M := M472) (o := 3) hS0 (by omega) hT0 (by first | exact kp515 | (rw [kp515]; funext b; rfl)) (by omega) (by omega) (by omega)
    refine vc_iconst dX12_behindOne_96 rfl ?_
    refine vc_iret dX12_behindOne_97 rfl (Nat.le_of_ble_eq_true rfl) (Nat.le_of_ble_eq_true rfl) ?_
    exact ⟨_, rfl, hB527, kp528, by omega, by omega, hPI532, by omega, by omega, by omega, by omega, by omega, by omega, fr531, by omega, by omega, Or.inl ⟨rfl, _, _, hSJn, rt529, fun o z => t_op (by omega) (rn_f (by omega) z)⟩⟩

set_option maxHeartbeats 4000000 in
set_option maxRecDepth 4000 in
theorem sfX12_summedF {l : Launch} {M : Mem} (hB : Box M) (g : Nat → Int) (n p : Int) (hT : RT g n M p)  (p0 : mI M 54 14 = 873 * mI M 55 5) (p1 : mI M 54 10 ≤ mI M 54 9) (p2 : mI M 54 11 = 0 ∨ mI M 54 10 < mI M 54 9) (p3 : mI M 54 15 ≤ mI M 54 10) (p4 : 0 ≤ mI M 54 16) (p5 : mI M 54 16 ≤ 4) : Call l mdX12_summed [aR 54] M (fun q N => ∃ r : Int, q = some (aI r) ∧ BF fT M N ∧ mI N 55 = mI M 55 ∧ (r = 0 → wfC (mI N 57) (mI N 54 15 - mI M 54 15).toNat (mI M 54 14 + 265 + 2 * mI M 54 15).toNat 0) ∧ (r ≠ 0 ∨ mI M 54 15 ≤ mI N 54 15) ∧ (r ≠ 0 ∨ mI N 54 15 ≤ mI N 54 10) ∧ mI N 54 10 ≤ mI N 54 9 ∧ (mI N 54 11 = 0 ∨ mI N 54 10 < mI N 54 9) ∧ mI N 54 14 = mI M 54 14 ∧ mI N 54 16 = mI M 54 16 ∧ mI N 54 21 = mI M 54 21 ∧ (∀ j : Nat, (j : Int) < mI M 54 14 + 265 + 2 * mI M 54 15 → mI N 57 j = mI M 57 j) ∧ mI M 54 10 ≤ mI N 54 10 ∧ FR g n N r (sLaw (tk g n) (nx g n) (mI M 54 16) p)) := by
  have hB0 : BF fT M M := BF.start hB
  refine Call.of [some (aR 54), none, none] rfl (Nat.le_of_ble_eq_true rfl) rfl ?_
  obtain ⟨S, hS⟩ : ∃ S, S = mI M 54 15 := ⟨_, rfl⟩
  have hk9 := b54_9 hB
  have hk10 := b54_10 hB
  have hk15 := b54_15 hB
  have hk14 := b54_14 hB
  have rg1 := RT.rg hT
  refine vc_aload_n dX12_summed_0 rfl ?_
  refine vc_iconst dX12_summed_1 rfl ?_
  refine vc_putI dX12_summed_2 (plX12_180 _ rfl) (s_54 hB0.1.1) rfl ?_
  have kp2 : mI (sI M 54 18 0) 55 = mI M 55 := (kp_sI rfl rfl)
  have hB3 : BF fT M (sI M 54 18 0) := BF.w54_18 hB0 rfl (by omega) (by omega)
  refine vc_aload_n dX12_summed_5 rfl ?_
  refine vc_iconst dX12_summed_6 rfl ?_
  refine vc_putI dX12_summed_7 (plX12_190 _ rfl) (s_54 hB3.1.1) rfl ?_
  have kp4 : mI (sI (sI M 54 18 0) 54 19 0) 55 = mI M 55 := (kp_sI kp2 rfl)
  have hB5 : BF fT M (sI (sI M 54 18 0) 54 19 0) := BF.w54_19 hB3 rfl
  refine vc_aload_n dX12_summed_10 rfl ?_
  refine vc_iconst dX12_summed_11 rfl ?_
  refine vc_putZ dX12_summed_12 (plX12_207 _ rfl) (s_54 hB5.1.1) rfl (by first | decide | omega) ?_
  have kp6 : mI (sI (sI (sI M 54 18 0) 54 19 0) 54 20 0) 55 = mI M 55 := (kp_sI kp4 rfl)
  have hB7 : BF fT M (sI (sI (sI M 54 18 0) 54 19 0) 54 20 0) := BF.w54_20 hB5 rfl
  have lp15 : ∀ (n15 : Nat) (Mq15 : Mem) , (BF fT M Mq15) → (mI Mq15 55 = mI M 55) → (PI Mq15 S) → (mI Mq15 54 10 ≤ mI Mq15 54 9) → (mI Mq15 54 11 = 0 ∨ mI Mq15 54 10 < mI Mq15 54 9) → (mI Mq15 54 14 = mI M 54 14) → (mI Mq15 54 16 = mI M 54 16) → (mI Mq15 54 21 = mI M 54 21) → (∀ j : Nat, (j : Int) < mI M 54 14 + 265 + 2 * S → mI Mq15 57 j = mI M 57 j) → (mI M 54 10 ≤ mI Mq15 54 10) → (SUM g n (mI M 54 16) Mq15 p) → (300 - mI Mq15 54 10).toNat < n15 → VC l mdX12_summed 15 [some (aR 54), none, none] [] Mq15 0 0 (fun q N => ∃ r : Int, q = some (aI r) ∧ BF fT M N ∧ mI N 55 = mI M 55 ∧ (r = 0 → wfC (mI N 57) (mI N 54 15 - mI M 54 15).toNat (mI M 54 14 + 265 + 2 * mI M 54 15).toNat 0) ∧ (r ≠ 0 ∨ mI M 54 15 ≤ mI N 54 15) ∧ (r ≠ 0 ∨ mI N 54 15 ≤ mI N 54 10) ∧ mI N 54 10 ≤ mI N 54 9 ∧ (mI N 54 11 = 0 ∨ mI N 54 10 < mI N 54 9) ∧ mI N 54 14 = mI M 54 14 ∧ mI N 54 16 = mI M 54 16 ∧ mI N 54 21 = mI M 54 21 ∧ (∀ j : Nat, (j : Int) < mI M 54 14 + 265 + 2 * mI M 54 15 → mI N 57 j = mI M 57 j) ∧ mI M 54 10 ≤ mI N 54 10 ∧ FR g n N r (sLaw (tk g n) (nx g n) (mI M 54 16) p)) := by
    intro n15
    induction n15 with
    | zero => intro Mq15 hQ15 kp15_55 g15i0 g15i1 g15i2 g15i3 g15i4 g15i5 g15i6 g15i7 g15i8 hm15; exact absurd hm15 (Nat.not_lt_zero _)
    | succ n15 ih15 =>
      intro Mq15 hQ15 kp15_55 g15i0 g15i1 g15i2 g15i3 g15i4 g15i5 g15i6 g15i7 g15i8 hm15
      obtain ⟨sk, q, hSk, hTq, hkq⟩ := g15i8
      have hrgq := RT.rg hTq
      refine vc_aload_n dX12_summed_15 rfl ?_
      refine vc_getZ dX12_summed_16 flX12_207 (s_54 hQ15.1.1) rfl ?_
      refine vc_nameI (fun x8 ex8 => ?_)
      refine vc_istore_n dX12_summed_19 (by decide) rfl (show _ = [some (aR 54), some (aI x8), none] from rfl) ?_
      refine vc_iload_n dX12_summed_20 rfl ?_
      refine vc_if_eq dX12_summed_21 (fun h9 => ?_) (fun h9 => ?_)
      · refine vc_aload_n dX12_summed_31 rfl ?_
        have hz5 := congrFun kp15_55 5
        have hl5 := g15i0.len
        refine vc_cVI dX12_summed_32 (sfX12_beginOneF (M := Mq15) hQ15.1  S g n q hTq sk hSk (mI M 54 16) (by exact g15i0) (by omega) (by omega) (by omega) (by omega) (by omega) (by omega) (by omega)) rfl okX12_beginOne viX12_beginOne lkX12_226 (s_54 hQ15.1.1) cl_12 rfl (Nat.le_of_ble_eq_true rfl) ⟨rfl, rfl⟩ (Nat.le_of_ble_eq_true rfl) (Nat.le_of_ble_eq_true rfl) (Nat.le_of_ble_eq_true rfl) ?_
        rintro x10 M11 ⟨hB12, kp13, h14, h15, h16, h17, h18, h19, h20, h21, h22, h23, h24, h25⟩
        have hB26 : BF fT M M11 := BF.go hQ15 hB12
        have kp27 : mI M11 55 = mI M 55 := kp_go kp15_55 kp13
        have hb0 := h16
        have hfr : ∀ j : Nat, (j : Int) < mI M 54 14 + 265 + 2 * S → mI M11 57 j = mI M 57 j := fun j hj => (h23 j (by omega)).trans (g15i6 j hj)
        have hbx := b54_10 (M := M11) hB26.1
        refine vc_istore_n dX12_summed_35 (by decide) rfl (show _ = [some (aR 54), some (aI x8), some (aI x10)] from rfl) ?_
        refine vc_iload_n dX12_summed_36 rfl ?_
        refine vc_if_ne dX12_summed_37 (fun h28 => ?_) (fun h28 => ?_)
        · refine vc_iload_n dX12_summed_43 rfl ?_
          refine vc_if_ne dX12_summed_44 (fun h29 => by exfalso; omega) (fun h29 => ?_)
          refine vc_iload_n dX12_summed_47 rfl ?_
          refine vc_iret dX12_summed_48 rfl (Nat.le_of_ble_eq_true rfl) (Nat.le_of_ble_eq_true rfl) ?_
          exact ⟨_, rfl, hB26, kp27, fun h => absurd h (by assumption), by omega, by omega, by omega, by omega, by omega, by omega, by omega, fun j hj => hfr j (by omega), by omega, (by first | exact SUM.bad hkq (by omega) h25 (by omega) | (exfalso; omega))⟩
        · have hsumN : SUM g n (mI M 54 16) M11 p := SUM.bo hkq (by omega) h25 (by omega)
          refine vc_goto dX12_summed_40 ?_
          refine vc_less [some (aR 54), none, none] (lessL_keep (lessL_drop (lessL_drop (lessL_nil)))) ?_
          exact ih15 M11 hB26 kp27 (by first | exact hnew | exact hc0 | exact hb0 (by omega)) (by omega) (by omega) (by omega) (by omega) (by omega) (by first | exact hfr | (intro j hj; rfl)) (by omega) (by first | exact hsum0 | exact hsumN) (by omega)
      · refine vc_aload_n dX12_summed_24 rfl ?_
        have hz5 := congrFun kp15_55 5
        have hl5 := g15i0.len
        refine vc_cVI dX12_summed_25 (sfX12_behindOneF (M := Mq15) hQ15.1  S g n q hTq sk hSk (mI M 54 16) (by exact g15i0) (by omega) (by omega) (by omega) (by omega) (by omega) (by omega) (by omega)) rfl okX12_behindOne viX12_behindOne lkX12_223 (s_54 hQ15.1.1) cl_12 rfl (Nat.le_of_ble_eq_true rfl) ⟨rfl, rfl⟩ (Nat.le_of_ble_eq_true rfl) (Nat.le_of_ble_eq_true rfl) (Nat.le_of_ble_eq_true rfl) ?_
        rintro x30 M31 ⟨hB32, kp33, h34, h35, h36, h37, h38, h39, h40, h41, h42, h43, h44, h45, h46⟩
        have hB47 : BF fT M M31 := BF.go hQ15 hB32
        have kp48 : mI M31 55 = mI M 55 := kp_go kp15_55 kp33
        have hb0 := h36
        have hfr : ∀ j : Nat, (j : Int) < mI M 54 14 + 265 + 2 * S → mI M31 57 j = mI M 57 j := fun j hj => (h43 j (by omega)).trans (g15i6 j hj)
        have hbx := b54_10 (M := M31) hB47.1
        have hc0 := h36
        have hl3 := hc0.len
        refine vc_goto dX12_summed_28 ?_
        refine vc_istore_n dX12_summed_35 (by decide) rfl (show _ = [some (aR 54), some (aI x8), some (aI x30)] from rfl) ?_
        refine vc_iload_n dX12_summed_36 rfl ?_
        refine vc_if_ne dX12_summed_37 (fun h49 => ?_) (fun h49 => ?_)
        · refine vc_iload_n dX12_summed_43 rfl ?_
          refine vc_if_ne dX12_summed_44 (fun h50 => ?_) (fun h50 => ?_)
          · obtain ⟨hS1, hT1, hE1, hR1⟩ := BH.one h46 (by omega)
            have hrg1 := RT.rg hT1
            refine vc_aload_n dX12_summed_49 rfl ?_
            refine vc_cVI dX12_summed_50 (sfX12_openAt (M := M31) hB47.1   (by omega)) rfl okX12_openAt viX12_openAt lkX12_217 (s_54 hB47.1.1) cl_12 rfl (Nat.le_of_ble_eq_true rfl) ⟨rfl, rfl⟩ (Nat.le_of_ble_eq_true rfl) (Nat.le_of_ble_eq_true rfl) (Nat.le_of_ble_eq_true rfl) ?_
            rintro x51 _ ⟨rfl, h52, h53, h54, h55⟩
            have hno := h55
            have hno1 := h54
            refine vc_if_lt dX12_summed_53 (fun h56 => ?_) (fun h56 => ?_)
            · have hnone : sk = [] := SJ.none hS1 (by omega) hc0 (fun q a => hno q (by omega) a)
              refine vc_aload_n dX12_summed_58 rfl ?_
              refine vc_iconst dX12_summed_59 rfl ?_
              have hz5 := congrFun kp48 5
              have hl5 := g15i0.len
              refine vc_cVU dX12_summed_60 (sfX12_settlePileF (M := M31) hB47.1  S 1 (by omega) (by omega) (by exact hc0) (by omega) (by omega)) rfl okX12_settlePile viX12_settlePile lkX12_211 (s_54 hB47.1.1) cl_12 rfl (Nat.le_of_ble_eq_true rfl) ⟨rfl, rfl⟩ (Nat.le_of_ble_eq_true rfl) (Nat.le_of_ble_eq_true rfl) (Nat.le_of_ble_eq_true rfl) ?_
              rintro M57 ⟨hB58, kp59, kp60, h61, h62, h63, h64, h65, h66, h67, h68, h69, h70, h71, h72, h73, h74⟩
              have hB75 : BF fT M M57 := BF.go hB47 hB58
              have kp76 : mI M57 55 = mI M 55 := kp_go kp48 kp59
              have fr77 : ∀ j : Nat, (j : Int) < mI M 54 14 + 265 + 2 * S → mI M57 57 j = mI M 57 j := fun j hj => (h70 j (by omega)).trans (hfr j hj)
              have hl2 := h61.len
              have hn0 := top_no (M := M31) (N := M57) kp60 (by omega) (by omega) h71 (fun q a => hno q (by omega) a)
              have rt78 : RT g n M57 q := RT.same hT1 hB58.2.2 (by omega) (by omega) (by omega) h73 h74
              refine vc_iconst dX12_summed_63 rfl ?_
              refine vc_iret dX12_summed_64 rfl (Nat.le_of_ble_eq_true rfl) (Nat.le_of_ble_eq_true rfl) ?_
              exact ⟨_, rfl, hB75, kp76, fun _ => by have q := h61.fin hn0; rw [show mI M57 54 14 = mI M 54 14 by omega, hS] at q; exact q, by omega, by omega, by omega, by omega, by omega, by omega, by omega, fun j hj => fr77 j (by omega), by omega, FRo rfl rt78 (sLaw_eq (by rw [dec_t (by omega), hnone] at hkq; exact hkq _ (t_fin hE1)))⟩
            · obtain ⟨hop, hom⟩ := SJ.opn (k := x51.toNat) hS1 (by omega) hc0 (by omega) (by omega) (fun q a b => hno q (by omega) b)
              refine vc_iconst dX12_summed_56 rfl ?_
              refine vc_iret dX12_summed_57 rfl (Nat.le_of_ble_eq_true rfl) (Nat.le_of_ble_eq_true rfl) ?_
              exact ⟨_, rfl, hB47, kp48, fun h => absurd h (by decide), by omega, by omega, by omega, by omega, by omega, by omega, by omega, fun j hj => hfr j (by omega), by omega, FRb (q := q) (by decide) (by omega) (sLaw_eq (by rw [dec_t (by omega)] at hkq; exact hkq _ (hR1 (by rw [hop]; exact List.cons_ne_nil _ _))))⟩
          · refine vc_iload_n dX12_summed_47 rfl ?_
            refine vc_iret dX12_summed_48 rfl (Nat.le_of_ble_eq_true rfl) (Nat.le_of_ble_eq_true rfl) ?_
            exact ⟨_, rfl, hB47, kp48, fun h => absurd h (by assumption), by omega, by omega, by omega, by omega, by omega, by omega, by omega, fun j hj => hfr j (by omega), by omega, (by first | exact SUM.bad hkq (by omega) h46 (by omega) | (exfalso; omega))⟩
        · have hsumN : SUM g n (mI M 54 16) M31 p := SUM.bh hkq (by omega) h46 (by omega)
          refine vc_goto dX12_summed_40 ?_
          refine vc_less [some (aR 54), none, none] (lessL_keep (lessL_drop (lessL_drop (lessL_nil)))) ?_
          exact ih15 M31 hB47 kp48 (by first | exact hnew | exact hc0 | exact hb0 (by omega)) (by omega) (by omega) (by omega) (by omega) (by omega) (by first | exact hfr | (intro j hj; rfl)) (by omega) (by first | exact hsum0 | exact hsumN) (by omega)
  have k79 : mI (sI (sI (sI M 54 18 0) 54 19 0) 54 20 0) 54 9 = mI M 54 9 := rfl
  have k80 : mI (sI (sI (sI M 54 18 0) 54 19 0) 54 20 0) 54 10 = mI M 54 10 := rfl
  have k81 : mI (sI (sI (sI M 54 18 0) 54 19 0) 54 20 0) 54 11 = mI M 54 11 := rfl
  have k82 : mI (sI (sI (sI M 54 18 0) 54 19 0) 54 20 0) 54 14 = mI M 54 14 := rfl
  have k83 : mI (sI (sI (sI M 54 18 0) 54 19 0) 54 20 0) 54 15 = mI M 54 15 := rfl
  have k84 : mI (sI (sI (sI M 54 18 0) 54 19 0) 54 20 0) 54 16 = mI M 54 16 := rfl
  have k85 : mI (sI (sI (sI M 54 18 0) 54 19 0) 54 20 0) 54 18 = 0 := rfl
  have k86 : mI (sI (sI (sI M 54 18 0) 54 19 0) 54 20 0) 54 19 = 0 := rfl
  have k87 : mI (sI (sI (sI M 54 18 0) 54 19 0) 54 20 0) 54 20 = 0 := rfl
  have k88 : mI (sI (sI (sI M 54 18 0) 54 19 0) 54 20 0) 54 21 = mI M 54 21 := rfl
  have hnew : PI (sI (sI (sI M 54 18 0) 54 19 0) 54 20 0) S := by rw [hS]; exact PI.new (M := sI (sI (sI M 54 18 0) 54 19 0) 54 20 0) (by omega) (by omega) (by omega) (by omega) (by omega) (by omega) (by omega)
  have hsum0 : SUM g n (mI M 54 16) (sI (sI (sI M 54 18 0) 54 19 0) 54 20 0) p := ⟨[], p, SJ.new rfl rfl, RT.same hT (((Fz.sI rfl).trans (Fz.sI rfl)).trans (Fz.sI rfl)) rfl rfl rfl rfl rfl, fun o z => rn_f rfl z⟩
  exact lp15 _ (sI (sI (sI M 54 18 0) 54 19 0) 54 20 0) hB7 kp6 (by first | exact hnew | exact hc0 | exact hb0 (by omega)) (by omega) (by omega) (by omega) (by omega) (by omega) (by first | exact hfr | (intro j hj; rfl)) (by omega) (by first | exact hsum0 | exact hsumN) (Nat.lt_succ_self _)
