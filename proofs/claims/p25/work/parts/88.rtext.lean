/-! CONTRACTS of the reference: its reader, clauses and texts (written by wip/p35/c88.py) -/
set_option maxRecDepth 4000 in
theorem sfX12_figure {l : Launch} {M : Mem} (hB : Box M)  (x : Int) (lo : Int) (hi : Int) (p0 : 1 ≤ x) (p1 : x ≤ 2883) (p2 : 873 * mI M 55 5 ≤ x) (p3 : mI M 54 10 ≤ mI M 54 9) (p4 : mI M 54 11 = 0 ∨ mI M 54 10 < mI M 54 9) : Call l mdX12_figure [aR 54, aI x, aI lo, aI hi] M (fun q N => ∃ r : Int, q = some (aI r) ∧ BF fT M N ∧ mI N 55 = mI M 55 ∧ 0 ≤ r ∧ r ≤ 2 ∧ (r ≠ 0 ∨ (lo ≤ mI N 57 x.toNat ∧ mI N 57 x.toNat ≤ hi)) ∧ mI N 54 10 ≤ mI N 54 9 ∧ (mI N 54 11 = 0 ∨ mI N 54 10 < mI N 54 9) ∧ mI M 54 10 ≤ mI N 54 10 ∧ mI N 54 14 = mI M 54 14 ∧ mI N 54 15 = mI M 54 15 ∧ mI N 54 16 = mI M 54 16 ∧ mI N 54 18 = mI M 54 18 ∧ mI N 54 19 = mI M 54 19 ∧ mI N 54 20 = mI M 54 20 ∧ mI N 54 21 = mI M 54 21 ∧ (∀ j : Nat, j ≠ x.toNat → mI N 57 j = mI M 57 j)) := by
  have hB0 : BF fT M M := BF.start hB
  refine Call.of [some (aR 54), some (aI x), some (aI lo), some (aI hi)] rfl (Nat.le_of_ble_eq_true rfl) rfl ?_
  refine vc_ok (fun hoM hoS hoL => ?_)
  have hr2 : -2147483648 ≤ lo ∧ lo < 2147483648 := hoL 2 _ rfl
  have hr3 : -2147483648 ≤ hi ∧ hi < 2147483648 := hoL 3 _ rfl
  refine vc_aload_n dX12_figure_0 rfl ?_
  refine vc_getI dX12_figure_1 flX12_129 (s_54 hB0.1.1) rfl ?_
  refine vc_iconst dX12_figure_4 rfl ?_
  refine vc_icmp_eq dX12_figure_5 (fun h1 => ?_) (fun h1 => ?_)
  · refine vc_aload_n dX12_figure_10 rfl ?_
    refine vc_getI dX12_figure_11 flX12_135 (s_54 hB0.1.1) rfl ?_
    refine vc_iload_n dX12_figure_14 rfl ?_
    refine vc_iload_n dX12_figure_15 rfl ?_
    refine vc_cSI dX12_figure_16 (sfX12_isIn (M := M) hB0.1  (mI M 54 12) lo hi ) rfl okX12_isIn stX12_isIn lkX12_83 rfl (Nat.le_of_ble_eq_true rfl) ⟨rfl, rfl⟩ (Nat.le_of_ble_eq_true rfl) (Nat.le_of_ble_eq_true rfl) (Nat.le_of_ble_eq_true rfl) ?_
    rintro x2 _ ⟨rfl, h3, h4, h5⟩
    refine vc_if_ne dX12_figure_19 (fun h6 => ?_) (fun h6 => ?_)
    · refine vc_aload_n dX12_figure_24 rfl ?_
      refine vc_getR dX12_figure_25 flX12_16 (s_54 hB0.1.1) rfl (r_54_2 hB0.1.1) ?_
      refine vc_iload_n dX12_figure_28 rfl ?_
      refine vc_aload_n dX12_figure_29 rfl ?_
      refine vc_getI dX12_figure_30 flX12_135 (s_54 hB0.1.1) rfl ?_
      refine vc_iastore dX12_figure_33 (s_57 hB0.1.1) (by omega) (by omega) ?_
      have kp7 : mI (sI M 57 x.toNat (mI M 54 12)) 55 = mI M 55 := (kp_sI rfl rfl)
      have hB8 : BF fT M (sI M 57 x.toNat (mI M 54 12)) := BF.x57 (x := x) hB0 (by omega)
      have fr9 : ∀ j : Nat, j ≠ x.toNat → mI (sI M 57 x.toNat (mI M 54 12)) 57 j = mI M 57 j := fun j hj => by rw [mI_sI, if_neg (fun e => by omega)]
      refine vc_aload_n dX12_figure_34 rfl ?_
      have k10 : mI (sI M 57 x.toNat (mI M 54 12)) 54 9 = mI M 54 9 := rfl
      have k11 : mI (sI M 57 x.toNat (mI M 54 12)) 54 10 = mI M 54 10 := rfl
      have k12 : mI (sI M 57 x.toNat (mI M 54 12)) 54 11 = mI M 54 11 := rfl
      have k13 : mI (sI M 57 x.toNat (mI M 54 12)) 54 14 = mI M 54 14 := rfl
      have k14 : mI (sI M 57 x.toNat (mI M 54 12)) 54 15 = mI M 54 15 := rfl
      have k15 : mI (sI M 57 x.toNat (mI M 54 12)) 54 16 = mI M 54 16 := rfl
      have k16 : mI (sI M 57 x.toNat (mI M 54 12)) 54 18 = mI M 54 18 := rfl
      have k17 : mI (sI M 57 x.toNat (mI M 54 12)) 54 19 = mI M 54 19 := rfl
      have k18 : mI (sI M 57 x.toNat (mI M 54 12)) 54 20 = mI M 54 20 := rfl
      have k19 : mI (sI M 57 x.toNat (mI M 54 12)) 54 21 = mI M 54 21 := rfl
      refine vc_cVU dX12_figure_35 (sfX12_nextToken (M := (sI M 57 x.toNat (mI M 54 12))) hB8.1   ) rfl okX12_nextToken viX12_nextToken lkX12_193 (s_54 hB8.1.1) cl_12 rfl (Nat.le_of_ble_eq_true rfl) ⟨rfl, rfl⟩ (Nat.le_of_ble_eq_true rfl) (Nat.le_of_ble_eq_true rfl) (Nat.le_of_ble_eq_true rfl) ?_
      rintro M20 ⟨hB21, kp22, kp23, kp24, h25, h26, h27, h28, h29, h30, h31, h32, h33, h34⟩
      have hB35 : BF fT M M20 := BF.go hB8 hB21.t
      have kp36 : mI M20 55 = mI M 55 := kp_go kp7 kp22
      have fr37 : ∀ j : Nat, j ≠ x.toNat → mI M20 57 j = mI M 57 j := fun j hj => (congrFun kp23 j).trans (fr9 j hj)
      have hv57 : mI M20 57 x.toNat = mI M 54 12 := (congrFun kp23 x.toNat).trans mI_same
      refine vc_iconst dX12_figure_38 rfl ?_
      refine vc_iret dX12_figure_39 rfl (Nat.le_of_ble_eq_true rfl) (Nat.le_of_ble_eq_true rfl) ?_
      exact ⟨_, rfl, hB35, kp36, by omega, by omega, by omega, by omega, by omega, by omega, by omega, by omega, by omega, by omega, by omega, by omega, by omega, fr37⟩
    · refine vc_iconst dX12_figure_22 rfl ?_
      refine vc_iret dX12_figure_23 rfl (Nat.le_of_ble_eq_true rfl) (Nat.le_of_ble_eq_true rfl) ?_
      exact ⟨_, rfl, hB0, rfl, by omega, by omega, by omega, by omega, by omega, by omega, by omega, by omega, by omega, by omega, by omega, by omega, by omega, (fun _ _ => rfl)⟩
  · refine vc_iconst dX12_figure_8 rfl ?_
    refine vc_iret dX12_figure_9 rfl (Nat.le_of_ble_eq_true rfl) (Nat.le_of_ble_eq_true rfl) ?_
    exact ⟨_, rfl, hB0, rfl, by omega, by omega, by omega, by omega, by omega, by omega, by omega, by omega, by omega, by omega, by omega, by omega, by omega, (fun _ _ => rfl)⟩

set_option maxRecDepth 4000 in
theorem sfX12_worded {l : Launch} {M : Mem} (hB : Box M)  (w : Int) (x : Int) (lo : Int) (hi : Int) (p0 : 1 ≤ x) (p1 : x ≤ 2883) (p2 : 873 * mI M 55 5 ≤ x) (p3 : mI M 54 10 ≤ mI M 54 9) (p4 : mI M 54 11 = 0 ∨ mI M 54 10 < mI M 54 9) : Call l mdX12_worded [aR 54, aL w, aI x, aI lo, aI hi] M (fun q N => ∃ r : Int, q = some (aI r) ∧ BF fT M N ∧ mI N 55 = mI M 55 ∧ 0 ≤ r ∧ r ≤ 2 ∧ (r ≠ 0 ∨ (lo ≤ mI N 57 x.toNat ∧ mI N 57 x.toNat ≤ hi)) ∧ mI N 54 10 ≤ mI N 54 9 ∧ (mI N 54 11 = 0 ∨ mI N 54 10 < mI N 54 9) ∧ mI M 54 10 ≤ mI N 54 10 ∧ mI N 54 14 = mI M 54 14 ∧ mI N 54 15 = mI M 54 15 ∧ mI N 54 16 = mI M 54 16 ∧ mI N 54 18 = mI M 54 18 ∧ mI N 54 19 = mI M 54 19 ∧ mI N 54 20 = mI M 54 20 ∧ mI N 54 21 = mI M 54 21 ∧ (∀ j : Nat, j ≠ x.toNat → mI N 57 j = mI M 57 j)) := by
  have hB0 : BF fT M M := BF.start hB
  refine Call.of [some (aR 54), some (aL w), none, some (aI x), some (aI lo), some (aI hi)] rfl (Nat.le_of_ble_eq_true rfl) rfl ?_
  refine vc_ok (fun hoM hoS hoL => ?_)
  have hr4 : -2147483648 ≤ lo ∧ lo < 2147483648 := hoL 4 _ rfl
  have hr5 : -2147483648 ≤ hi ∧ hi < 2147483648 := hoL 5 _ rfl
  refine vc_aload_n dX12_worded_0 rfl ?_
  refine vc_lload_n dX12_worded_1 rfl ?_
  refine vc_cVI dX12_worded_2 (sfX12_isWord (M := M) hB0.1  w ) rfl okX12_isWord viX12_isWord lkX12_196 (s_54 hB0.1.1) cl_12 rfl (Nat.le_of_ble_eq_true rfl) ⟨rfl, rfl⟩ (Nat.le_of_ble_eq_true rfl) (Nat.le_of_ble_eq_true rfl) (Nat.le_of_ble_eq_true rfl) ?_
  rintro x1 _ ⟨rfl, h2, h3, h4⟩
  refine vc_if_ne dX12_worded_5 (fun h5 => ?_) (fun h5 => ?_)
  · refine vc_aload_n dX12_worded_10 rfl ?_
    refine vc_cVU dX12_worded_11 (sfX12_nextToken (M := M) hB0.1   ) rfl okX12_nextToken viX12_nextToken lkX12_193 (s_54 hB0.1.1) cl_12 rfl (Nat.le_of_ble_eq_true rfl) ⟨rfl, rfl⟩ (Nat.le_of_ble_eq_true rfl) (Nat.le_of_ble_eq_true rfl) (Nat.le_of_ble_eq_true rfl) ?_
    rintro M6 ⟨hB7, kp8, kp9, kp10, h11, h12, h13, h14, h15, h16, h17, h18, h19, h20⟩
    have hB21 : BF fT M M6 := BF.go hB0 hB7.t
    have kp22 : mI M6 55 = mI M 55 := kp_go rfl kp8
    have fr23 : ∀ j : Nat, j ≠ x.toNat → mI M6 57 j = mI M 57 j := fun j hj => (congrFun kp9 j).trans ((fun _ _ => rfl) j hj)
    refine vc_aload_n dX12_worded_14 rfl ?_
    refine vc_iload_n dX12_worded_15 rfl ?_
    refine vc_iload dX12_worded_16 rfl ?_
    refine vc_iload dX12_worded_18 rfl ?_
    have hz5 := congrFun kp22 5
    refine vc_cVI dX12_worded_20 (sfX12_figure (M := M6) hB21.1  x lo hi (by omega) (by omega) (by omega) (by omega) (by omega)) rfl okX12_figure viX12_figure lkX12_229 (s_54 hB21.1.1) cl_12 rfl (Nat.le_of_ble_eq_true rfl) ⟨rfl, rfl⟩ (Nat.le_of_ble_eq_true rfl) (Nat.le_of_ble_eq_true rfl) (Nat.le_of_ble_eq_true rfl) ?_
    rintro x24 M25 ⟨hB26, kp27, h28, h29, h30, h31, h32, h33, h34, h35, h36, h37, h38, h39, h40, h41⟩
    have hB42 : BF fT M M25 := BF.go hB21 hB26
    have kp43 : mI M25 55 = mI M 55 := kp_go kp22 kp27
    have fr44 : ∀ j : Nat, j ≠ x.toNat → mI M25 57 j = mI M 57 j := fun j hj => (h41 j hj).trans (fr23 j hj)
    refine vc_iret dX12_worded_23 rfl (Nat.le_of_ble_eq_true rfl) (Nat.le_of_ble_eq_true rfl) ?_
    exact ⟨_, rfl, hB42, kp43, by omega, by omega, by omega, by omega, by omega, by omega, by omega, by omega, by omega, by omega, by omega, by omega, by omega, fr44⟩
  · refine vc_iconst dX12_worded_8 rfl ?_
    refine vc_iret dX12_worded_9 rfl (Nat.le_of_ble_eq_true rfl) (Nat.le_of_ble_eq_true rfl) ?_
    exact ⟨_, rfl, hB0, rfl, by omega, by omega, by omega, by omega, by omega, by omega, by omega, by omega, by omega, by omega, by omega, by omega, by omega, (fun _ _ => rfl)⟩

set_option maxRecDepth 4000 in
theorem sfX12_sideOf {l : Launch} {M : Mem} (hB : Box M)  (w : Int)  : Call l mdX12_sideOf [aR 54, aL w] M (fun q N => ∃ r : Int, q = some (aI r) ∧ M = N ∧ 0 ≤ r ∧ r ≤ 3) := by
  have hB0 : BF fQ M M := BF.start hB
  refine Call.of [some (aR 54), some (aL w), none] rfl (Nat.le_of_ble_eq_true rfl) rfl ?_
  refine vc_aload_n dX12_sideOf_0 rfl ?_
  refine vc_bipush dX12_sideOf_1 rfl ?_
  refine vc_bipush dX12_sideOf_3 rfl ?_
  refine vc_bipush dX12_sideOf_5 rfl ?_
  refine vc_bipush dX12_sideOf_7 rfl ?_
  refine vc_cSL dX12_sideOf_9 (sfX12_w4 (M := M) hB0.1  108 101 102 116 ) rfl okX12_w4 stX12_w4 lkX12_159 rfl (Nat.le_of_ble_eq_true rfl) ⟨rfl, rfl⟩ (Nat.le_of_ble_eq_true rfl) (Nat.le_of_ble_eq_true rfl) (Nat.le_of_ble_eq_true rfl) ?_
  rintro x1 _ rfl
  refine vc_cVI dX12_sideOf_12 (sfX12_isWord (M := M) hB0.1  x1 ) rfl okX12_isWord viX12_isWord lkX12_196 (s_54 hB0.1.1) cl_12 rfl (Nat.le_of_ble_eq_true rfl) ⟨rfl, rfl⟩ (Nat.le_of_ble_eq_true rfl) (Nat.le_of_ble_eq_true rfl) (Nat.le_of_ble_eq_true rfl) ?_
  rintro x2 _ ⟨rfl, h3, h4, h5⟩
  refine vc_if_eq dX12_sideOf_15 (fun h6 => ?_) (fun h6 => ?_)
  · refine vc_aload_n dX12_sideOf_22 rfl ?_
    refine vc_bipush dX12_sideOf_23 rfl ?_
    refine vc_bipush dX12_sideOf_25 rfl ?_
    refine vc_bipush dX12_sideOf_27 rfl ?_
    refine vc_bipush dX12_sideOf_29 rfl ?_
    refine vc_bipush dX12_sideOf_31 rfl ?_
    refine vc_cSL dX12_sideOf_33 (sfX12_w5 (M := M) hB0.1  114 105 103 104 116 ) rfl okX12_w5 stX12_w5 lkX12_163 rfl (Nat.le_of_ble_eq_true rfl) ⟨rfl, rfl⟩ (Nat.le_of_ble_eq_true rfl) (Nat.le_of_ble_eq_true rfl) (Nat.le_of_ble_eq_true rfl) ?_
    rintro x7 _ rfl
    refine vc_cVI dX12_sideOf_36 (sfX12_isWord (M := M) hB0.1  x7 ) rfl okX12_isWord viX12_isWord lkX12_196 (s_54 hB0.1.1) cl_12 rfl (Nat.le_of_ble_eq_true rfl) ⟨rfl, rfl⟩ (Nat.le_of_ble_eq_true rfl) (Nat.le_of_ble_eq_true rfl) (Nat.le_of_ble_eq_true rfl) ?_
    rintro x8 _ ⟨rfl, h9, h10, h11⟩
    refine vc_if_eq dX12_sideOf_39 (fun h12 => ?_) (fun h12 => ?_)
    · refine vc_aload_n dX12_sideOf_46 rfl ?_
      refine vc_lload_n dX12_sideOf_47 rfl ?_
      refine vc_cVI dX12_sideOf_48 (sfX12_isWord (M := M) hB0.1  w ) rfl okX12_isWord viX12_isWord lkX12_196 (s_54 hB0.1.1) cl_12 rfl (Nat.le_of_ble_eq_true rfl) ⟨rfl, rfl⟩ (Nat.le_of_ble_eq_true rfl) (Nat.le_of_ble_eq_true rfl) (Nat.le_of_ble_eq_true rfl) ?_
      rintro x13 _ ⟨rfl, h14, h15, h16⟩
      refine vc_if_eq dX12_sideOf_51 (fun h17 => ?_) (fun h17 => ?_)
      · refine vc_iconst dX12_sideOf_58 rfl ?_
        refine vc_iret dX12_sideOf_59 rfl (Nat.le_of_ble_eq_true rfl) (Nat.le_of_ble_eq_true rfl) ?_
        exact ⟨_, rfl, rfl, by omega, by omega⟩
      · refine vc_iconst dX12_sideOf_54 rfl ?_
        refine vc_goto dX12_sideOf_55 ?_
        refine vc_iret dX12_sideOf_59 rfl (Nat.le_of_ble_eq_true rfl) (Nat.le_of_ble_eq_true rfl) ?_
        exact ⟨_, rfl, rfl, by omega, by omega⟩
    · refine vc_iconst dX12_sideOf_42 rfl ?_
      refine vc_goto dX12_sideOf_43 ?_
      refine vc_iret dX12_sideOf_59 rfl (Nat.le_of_ble_eq_true rfl) (Nat.le_of_ble_eq_true rfl) ?_
      exact ⟨_, rfl, rfl, by omega, by omega⟩
  · refine vc_iconst dX12_sideOf_18 rfl ?_
    refine vc_goto dX12_sideOf_19 ?_
    refine vc_iret dX12_sideOf_59 rfl (Nat.le_of_ble_eq_true rfl) (Nat.le_of_ble_eq_true rfl) ?_
    exact ⟨_, rfl, rfl, by omega, by omega⟩

set_option maxRecDepth 4000 in
theorem sfX12_streetClause {l : Launch} {M : Mem} (hB : Box M)  (x : Int) (p0 : 1 ≤ x) (p1 : x ≤ 2873) (p2 : mI M 54 14 = 873 * mI M 55 5) (p3 : mI M 54 14 + 1 ≤ x) (p4 : mI M 54 10 ≤ mI M 54 9) (p5 : mI M 54 11 = 0 ∨ mI M 54 10 < mI M 54 9) : Call l mdX12_streetClause [aR 54, aI x] M (fun q N => ∃ r : Int, q = some (aI r) ∧ BF fT M N ∧ mI N 55 = mI M 55 ∧ 0 ≤ r ∧ r ≤ 2 ∧ mI N 54 10 ≤ mI N 54 9 ∧ (mI N 54 11 = 0 ∨ mI N 54 10 < mI N 54 9) ∧ mI M 54 10 ≤ mI N 54 10 ∧ mI N 54 14 = mI M 54 14 ∧ mI N 54 15 = mI M 54 15 ∧ mI N 54 16 = mI M 54 16 ∧ mI N 54 18 = mI M 54 18 ∧ mI N 54 19 = mI M 54 19 ∧ mI N 54 20 = mI M 54 20 ∧ mI N 54 21 = mI M 54 21 ∧ (∀ j : Nat, ((j : Int) ≤ x ∨ x + 11 ≤ j) → mI N 57 j = mI M 57 j)) := by
  have hB0 : BF fT M M := BF.start hB
  refine Call.of [some (aR 54), some (aI x), none] rfl (Nat.le_of_ble_eq_true rfl) rfl ?_
  refine vc_aload_n dX12_streetClause_0 rfl ?_
  refine vc_iload_n dX12_streetClause_1 rfl ?_
  refine vc_iconst dX12_streetClause_2 rfl ?_
  refine vc_iaddE dX12_streetClause_3 (by omega) (by omega) ?_
  refine vc_iconst dX12_streetClause_4 rfl ?_
  refine vc_bipush dX12_streetClause_5 rfl ?_
  refine vc_cVI dX12_streetClause_7 (sfX12_figure (M := M) hB0.1  (x + 1) 0 15 (by omega) (by omega) (by omega) (by omega) (by omega)) rfl okX12_figure viX12_figure lkX12_229 (s_54 hB0.1.1) cl_12 rfl (Nat.le_of_ble_eq_true rfl) ⟨rfl, rfl⟩ (Nat.le_of_ble_eq_true rfl) (Nat.le_of_ble_eq_true rfl) (Nat.le_of_ble_eq_true rfl) ?_
  rintro x1 M2 ⟨hB3, kp4, h5, h6, h7, h8, h9, h10, h11, h12, h13, h14, h15, h16, h17, h18⟩
  have hB19 : BF fT M M2 := BF.go hB0 hB3
  have kp20 : mI M2 55 = mI M 55 := kp_go rfl kp4
  have fr21 : ∀ j : Nat, ((j : Int) ≤ x ∨ x + 11 ≤ j) → mI M2 57 j = mI M 57 j := fun j hj => (h18 j (by omega)).trans ((fun _ _ => rfl) j hj)
  refine vc_istore_n dX12_streetClause_10 (by decide) rfl (show _ = [some (aR 54), some (aI x), some (aI x1)] from rfl) ?_
  refine vc_iload_n dX12_streetClause_11 rfl ?_
  refine vc_if_ne dX12_streetClause_12 (fun h22 => ?_) (fun h22 => ?_)
  · refine vc_iload_n dX12_streetClause_25 rfl ?_
    refine vc_if_eq dX12_streetClause_26 (fun h23 => by exfalso; omega) (fun h23 => ?_)
    refine vc_iload_n dX12_streetClause_29 rfl ?_
    refine vc_goto dX12_streetClause_30 ?_
    refine vc_iret dX12_streetClause_50 rfl (Nat.le_of_ble_eq_true rfl) (Nat.le_of_ble_eq_true rfl) ?_
    exact ⟨_, rfl, hB19, kp20, by omega, by omega, by omega, by omega, by omega, by omega, by omega, by omega, by omega, by omega, by omega, by omega, fr21⟩
  · refine vc_aload_n dX12_streetClause_15 rfl ?_
    refine vc_iload_n dX12_streetClause_16 rfl ?_
    refine vc_iconst dX12_streetClause_17 rfl ?_
    refine vc_iaddE dX12_streetClause_18 (by omega) (by omega) ?_
    refine vc_iconst dX12_streetClause_19 rfl ?_
    refine vc_iconst dX12_streetClause_20 rfl ?_
    have hz5 := congrFun kp20 5
    refine vc_cVI dX12_streetClause_21 (sfX12_figure (M := M2) hB19.1  (x + 2) 0 3 (by omega) (by omega) (by omega) (by omega) (by omega)) rfl okX12_figure viX12_figure lkX12_229 (s_54 hB19.1.1) cl_12 rfl (Nat.le_of_ble_eq_true rfl) ⟨rfl, rfl⟩ (Nat.le_of_ble_eq_true rfl) (Nat.le_of_ble_eq_true rfl) (Nat.le_of_ble_eq_true rfl) ?_
    rintro x24 M25 ⟨hB26, kp27, h28, h29, h30, h31, h32, h33, h34, h35, h36, h37, h38, h39, h40, h41⟩
    have hB42 : BF fT M M25 := BF.go hB19 hB26
    have kp43 : mI M25 55 = mI M 55 := kp_go kp20 kp27
    have fr44 : ∀ j : Nat, ((j : Int) ≤ x ∨ x + 11 ≤ j) → mI M25 57 j = mI M 57 j := fun j hj => (h41 j (by omega)).trans (fr21 j hj)
    refine vc_istore_n dX12_streetClause_24 (by decide) rfl (show _ = [some (aR 54), some (aI x), some (aI x24)] from rfl) ?_
    refine vc_iload_n dX12_streetClause_25 rfl ?_
    refine vc_if_eq dX12_streetClause_26 (fun h45 => ?_) (fun h45 => ?_)
    · refine vc_aload_n dX12_streetClause_33 rfl ?_
      refine vc_bipush dX12_streetClause_34 rfl ?_
      refine vc_bipush dX12_streetClause_36 rfl ?_
      refine vc_cSL dX12_streetClause_38 (sfX12_w2 (M := M25) hB42.1  116 111 ) rfl okX12_w2 stX12_w2 lkX12_151 rfl (Nat.le_of_ble_eq_true rfl) ⟨rfl, rfl⟩ (Nat.le_of_ble_eq_true rfl) (Nat.le_of_ble_eq_true rfl) (Nat.le_of_ble_eq_true rfl) ?_
      rintro x46 _ rfl
      refine vc_iload_n dX12_streetClause_41 rfl ?_
      refine vc_iconst dX12_streetClause_42 rfl ?_
      refine vc_iaddE dX12_streetClause_43 (by omega) (by omega) ?_
      refine vc_iconst dX12_streetClause_44 rfl ?_
      refine vc_bipush dX12_streetClause_45 rfl ?_
      have hz5 := congrFun kp43 5
      refine vc_cVI dX12_streetClause_47 (sfX12_worded (M := M25) hB42.1  x46 (x + 3) 0 15 (by omega) (by omega) (by omega) (by omega) (by omega)) rfl okX12_worded viX12_worded lkX12_233 (s_54 hB42.1.1) cl_12 rfl (Nat.le_of_ble_eq_true rfl) ⟨rfl, rfl⟩ (Nat.le_of_ble_eq_true rfl) (Nat.le_of_ble_eq_true rfl) (Nat.le_of_ble_eq_true rfl) ?_
      rintro x47 M48 ⟨hB49, kp50, h51, h52, h53, h54, h55, h56, h57, h58, h59, h60, h61, h62, h63, h64⟩
      have hB65 : BF fT M M48 := BF.go hB42 hB49
      have kp66 : mI M48 55 = mI M 55 := kp_go kp43 kp50
      have fr67 : ∀ j : Nat, ((j : Int) ≤ x ∨ x + 11 ≤ j) → mI M48 57 j = mI M 57 j := fun j hj => (h64 j (by omega)).trans (fr44 j hj)
      refine vc_iret dX12_streetClause_50 rfl (Nat.le_of_ble_eq_true rfl) (Nat.le_of_ble_eq_true rfl) ?_
      exact ⟨_, rfl, hB65, kp66, by omega, by omega, by omega, by omega, by omega, by omega, by omega, by omega, by omega, by omega, by omega, by omega, fr67⟩
    · refine vc_iload_n dX12_streetClause_29 rfl ?_
      refine vc_goto dX12_streetClause_30 ?_
      refine vc_iret dX12_streetClause_50 rfl (Nat.le_of_ble_eq_true rfl) (Nat.le_of_ble_eq_true rfl) ?_
      exact ⟨_, rfl, hB42, kp43, by omega, by omega, by omega, by omega, by omega, by omega, by omega, by omega, by omega, by omega, by omega, by omega, fr44⟩

set_option maxRecDepth 4000 in
theorem sfX12_startClause {l : Launch} {M : Mem} (hB : Box M)  (x : Int) (p0 : 1 ≤ x) (p1 : x ≤ 2873) (p2 : mI M 54 14 = 873 * mI M 55 5) (p3 : mI M 54 14 + 1 ≤ x) (p4 : mI M 54 10 ≤ mI M 54 9) (p5 : mI M 54 11 = 0 ∨ mI M 54 10 < mI M 54 9) : Call l mdX12_startClause [aR 54, aI x] M (fun q N => ∃ r : Int, q = some (aI r) ∧ BF fT M N ∧ mI N 55 = mI M 55 ∧ 0 ≤ r ∧ r ≤ 2 ∧ mI N 54 10 ≤ mI N 54 9 ∧ (mI N 54 11 = 0 ∨ mI N 54 10 < mI N 54 9) ∧ mI M 54 10 ≤ mI N 54 10 ∧ mI N 54 14 = mI M 54 14 ∧ mI N 54 15 = mI M 54 15 ∧ mI N 54 16 = mI M 54 16 ∧ mI N 54 18 = mI M 54 18 ∧ mI N 54 19 = mI M 54 19 ∧ mI N 54 20 = mI M 54 20 ∧ mI N 54 21 = mI M 54 21 ∧ (∀ j : Nat, ((j : Int) ≤ x ∨ x + 11 ≤ j) → mI N 57 j = mI M 57 j)) := by
  have hB0 : BF fT M M := BF.start hB
  refine Call.of [some (aR 54), some (aI x), none] rfl (Nat.le_of_ble_eq_true rfl) rfl ?_
  refine vc_aload_n dX12_startClause_0 rfl ?_
  refine vc_iload_n dX12_startClause_1 rfl ?_
  refine vc_iconst dX12_startClause_2 rfl ?_
  refine vc_iaddE dX12_startClause_3 (by omega) (by omega) ?_
  refine vc_iconst dX12_startClause_4 rfl ?_
  refine vc_bipush dX12_startClause_5 rfl ?_
  refine vc_cVI dX12_startClause_7 (sfX12_figure (M := M) hB0.1  (x + 1) 0 15 (by omega) (by omega) (by omega) (by omega) (by omega)) rfl okX12_figure viX12_figure lkX12_229 (s_54 hB0.1.1) cl_12 rfl (Nat.le_of_ble_eq_true rfl) ⟨rfl, rfl⟩ (Nat.le_of_ble_eq_true rfl) (Nat.le_of_ble_eq_true rfl) (Nat.le_of_ble_eq_true rfl) ?_
  rintro x1 M2 ⟨hB3, kp4, h5, h6, h7, h8, h9, h10, h11, h12, h13, h14, h15, h16, h17, h18⟩
  have hB19 : BF fT M M2 := BF.go hB0 hB3
  have kp20 : mI M2 55 = mI M 55 := kp_go rfl kp4
  have fr21 : ∀ j : Nat, ((j : Int) ≤ x ∨ x + 11 ≤ j) → mI M2 57 j = mI M 57 j := fun j hj => (h18 j (by omega)).trans ((fun _ _ => rfl) j hj)
  refine vc_istore_n dX12_startClause_10 (by decide) rfl (show _ = [some (aR 54), some (aI x), some (aI x1)] from rfl) ?_
  refine vc_iload_n dX12_startClause_11 rfl ?_
  refine vc_if_eq dX12_startClause_12 (fun h22 => ?_) (fun h22 => ?_)
  · refine vc_aload_n dX12_startClause_19 rfl ?_
    refine vc_bipush dX12_startClause_20 rfl ?_
    refine vc_bipush dX12_startClause_22 rfl ?_
    refine vc_bipush dX12_startClause_24 rfl ?_
    refine vc_bipush dX12_startClause_26 rfl ?_
    refine vc_bipush dX12_startClause_28 rfl ?_
    refine vc_bipush dX12_startClause_30 rfl ?_
    refine vc_cSL dX12_startClause_32 (sfX12_w6 (M := M2) hB19.1  102 97 99 105 110 103 ) rfl okX12_w6 stX12_w6 lkX12_173 rfl (Nat.le_of_ble_eq_true rfl) ⟨rfl, rfl⟩ (Nat.le_of_ble_eq_true rfl) (Nat.le_of_ble_eq_true rfl) (Nat.le_of_ble_eq_true rfl) ?_
    rintro x23 _ rfl
    refine vc_iload_n dX12_startClause_35 rfl ?_
    refine vc_iconst dX12_startClause_36 rfl ?_
    refine vc_iaddE dX12_startClause_37 (by omega) (by omega) ?_
    refine vc_iconst dX12_startClause_38 rfl ?_
    refine vc_iconst dX12_startClause_39 rfl ?_
    have hz5 := congrFun kp20 5
    refine vc_cVI dX12_startClause_40 (sfX12_worded (M := M2) hB19.1  x23 (x + 2) 0 3 (by omega) (by omega) (by omega) (by omega) (by omega)) rfl okX12_worded viX12_worded lkX12_233 (s_54 hB19.1.1) cl_12 rfl (Nat.le_of_ble_eq_true rfl) ⟨rfl, rfl⟩ (Nat.le_of_ble_eq_true rfl) (Nat.le_of_ble_eq_true rfl) (Nat.le_of_ble_eq_true rfl) ?_
    rintro x24 M25 ⟨hB26, kp27, h28, h29, h30, h31, h32, h33, h34, h35, h36, h37, h38, h39, h40, h41⟩
    have hB42 : BF fT M M25 := BF.go hB19 hB26
    have kp43 : mI M25 55 = mI M 55 := kp_go kp20 kp27
    have fr44 : ∀ j : Nat, ((j : Int) ≤ x ∨ x + 11 ≤ j) → mI M25 57 j = mI M 57 j := fun j hj => (h41 j (by omega)).trans (fr21 j hj)
    refine vc_iret dX12_startClause_43 rfl (Nat.le_of_ble_eq_true rfl) (Nat.le_of_ble_eq_true rfl) ?_
    exact ⟨_, rfl, hB42, kp43, by omega, by omega, by omega, by omega, by omega, by omega, by omega, by omega, by omega, by omega, by omega, by omega, fr44⟩
  · refine vc_iload_n dX12_startClause_15 rfl ?_
    refine vc_goto dX12_startClause_16 ?_
    refine vc_iret dX12_startClause_43 rfl (Nat.le_of_ble_eq_true rfl) (Nat.le_of_ble_eq_true rfl) ?_
    exact ⟨_, rfl, hB19, kp20, by omega, by omega, by omega, by omega, by omega, by omega, by omega, by omega, by omega, by omega, by omega, by omega, fr21⟩

set_option maxRecDepth 4000 in
theorem sfX12_turnClause {l : Launch} {M : Mem} (hB : Box M)  (x : Int) (p0 : 1 ≤ x) (p1 : x ≤ 2873) (p2 : mI M 54 14 = 873 * mI M 55 5) (p3 : mI M 54 14 + 1 ≤ x) (p4 : mI M 54 10 ≤ mI M 54 9) (p5 : mI M 54 11 = 0 ∨ mI M 54 10 < mI M 54 9) : Call l mdX12_turnClause [aR 54, aI x] M (fun q N => ∃ r : Int, q = some (aI r) ∧ BF fT M N ∧ mI N 55 = mI M 55 ∧ 0 ≤ r ∧ r ≤ 1 ∧ mI N 54 10 ≤ mI N 54 9 ∧ (mI N 54 11 = 0 ∨ mI N 54 10 < mI N 54 9) ∧ mI M 54 10 ≤ mI N 54 10 ∧ mI N 54 14 = mI M 54 14 ∧ mI N 54 15 = mI M 54 15 ∧ mI N 54 16 = mI M 54 16 ∧ mI N 54 18 = mI M 54 18 ∧ mI N 54 19 = mI M 54 19 ∧ mI N 54 20 = mI M 54 20 ∧ mI N 54 21 = mI M 54 21 ∧ (∀ j : Nat, ((j : Int) ≤ x ∨ x + 11 ≤ j) → mI N 57 j = mI M 57 j)) := by
  have hB0 : BF fT M M := BF.start hB
  refine Call.of [some (aR 54), some (aI x), none] rfl (Nat.le_of_ble_eq_true rfl) rfl ?_
  refine vc_aload_n dX12_turnClause_0 rfl ?_
  refine vc_bipush dX12_turnClause_1 rfl ?_
  refine vc_bipush dX12_turnClause_3 rfl ?_
  refine vc_bipush dX12_turnClause_5 rfl ?_
  refine vc_bipush dX12_turnClause_7 rfl ?_
  refine vc_cSL dX12_turnClause_9 (sfX12_w4 (M := M) hB0.1  98 97 99 107 ) rfl okX12_w4 stX12_w4 lkX12_159 rfl (Nat.le_of_ble_eq_true rfl) ⟨rfl, rfl⟩ (Nat.le_of_ble_eq_true rfl) (Nat.le_of_ble_eq_true rfl) (Nat.le_of_ble_eq_true rfl) ?_
  rintro x1 _ rfl
  refine vc_cVI dX12_turnClause_12 (sfX12_sideOf (M := M) hB0.1  x1 ) rfl okX12_sideOf viX12_sideOf lkX12_237 (s_54 hB0.1.1) cl_12 rfl (Nat.le_of_ble_eq_true rfl) ⟨rfl, rfl⟩ (Nat.le_of_ble_eq_true rfl) (Nat.le_of_ble_eq_true rfl) (Nat.le_of_ble_eq_true rfl) ?_
  rintro x2 _ ⟨rfl, h3, h4⟩
  refine vc_istore_n dX12_turnClause_15 (by decide) rfl (show _ = [some (aR 54), some (aI x), some (aI x2)] from rfl) ?_
  refine vc_iload_n dX12_turnClause_16 rfl ?_
  refine vc_if_ne dX12_turnClause_17 (fun h5 => ?_) (fun h5 => ?_)
  · refine vc_aload_n dX12_turnClause_22 rfl ?_
    refine vc_getR dX12_turnClause_23 flX12_16 (s_54 hB0.1.1) rfl (r_54_2 hB0.1.1) ?_
    refine vc_iload_n dX12_turnClause_26 rfl ?_
    refine vc_iconst dX12_turnClause_27 rfl ?_
    refine vc_iaddE dX12_turnClause_28 (by omega) (by omega) ?_
    refine vc_iload_n dX12_turnClause_29 rfl ?_
    refine vc_iastore dX12_turnClause_30 (s_57 hB0.1.1) (by omega) (by omega) ?_
    have kp6 : mI (sI M 57 ((x + 1).toNat) x2) 55 = mI M 55 := (kp_sI rfl rfl)
    have hB7 : BF fT M (sI M 57 ((x + 1).toNat) x2) := BF.x57 (x := x + 1) hB0 (by omega)
    have fr8 : ∀ j : Nat, ((j : Int) ≤ x ∨ x + 11 ≤ j) → mI (sI M 57 ((x + 1).toNat) x2) 57 j = mI M 57 j := fun j hj => by rw [mI_sI, if_neg (fun e => by omega)]
    refine vc_aload_n dX12_turnClause_31 rfl ?_
    have k9 : mI (sI M 57 ((x + 1).toNat) x2) 54 9 = mI M 54 9 := rfl
    have k10 : mI (sI M 57 ((x + 1).toNat) x2) 54 10 = mI M 54 10 := rfl
    have k11 : mI (sI M 57 ((x + 1).toNat) x2) 54 11 = mI M 54 11 := rfl
    have k12 : mI (sI M 57 ((x + 1).toNat) x2) 54 14 = mI M 54 14 := rfl
    have k13 : mI (sI M 57 ((x + 1).toNat) x2) 54 15 = mI M 54 15 := rfl
    have k14 : mI (sI M 57 ((x + 1).toNat) x2) 54 16 = mI M 54 16 := rfl
    have k15 : mI (sI M 57 ((x + 1).toNat) x2) 54 18 = mI M 54 18 := rfl
    have k16 : mI (sI M 57 ((x + 1).toNat) x2) 54 19 = mI M 54 19 := rfl
    have k17 : mI (sI M 57 ((x + 1).toNat) x2) 54 20 = mI M 54 20 := rfl
    have k18 : mI (sI M 57 ((x + 1).toNat) x2) 54 21 = mI M 54 21 := rfl
    have hz5 := congrFun kp6 5
    refine vc_cVU dX12_turnClause_32 (sfX12_nextToken (M := (sI M 57 ((x + 1).toNat) x2)) hB7.1   ) rfl okX12_nextToken viX12_nextToken lkX12_193 (s_54 hB7.1.1) cl_12 rfl (Nat.le_of_ble_eq_true rfl) ⟨rfl, rfl⟩ (Nat.le_of_ble_eq_true rfl) (Nat.le_of_ble_eq_true rfl) (Nat.le_of_ble_eq_true rfl) ?_
    rintro M19 ⟨hB20, kp21, kp22, kp23, h24, h25, h26, h27, h28, h29, h30, h31, h32, h33⟩
    have hB34 : BF fT M M19 := BF.go hB7 hB20.t
    have kp35 : mI M19 55 = mI M 55 := kp_go kp6 kp21
    have fr36 : ∀ j : Nat, ((j : Int) ≤ x ∨ x + 11 ≤ j) → mI M19 57 j = mI M 57 j := fun j hj => (congrFun kp22 j).trans (fr8 j hj)
    refine vc_iconst dX12_turnClause_35 rfl ?_
    refine vc_iret dX12_turnClause_36 rfl (Nat.le_of_ble_eq_true rfl) (Nat.le_of_ble_eq_true rfl) ?_
    exact ⟨_, rfl, hB34, kp35, by omega, by omega, by omega, by omega, by omega, by omega, by omega, by omega, by omega, by omega, by omega, by omega, fr36⟩
  · refine vc_iconst dX12_turnClause_20 rfl ?_
    refine vc_iret dX12_turnClause_21 rfl (Nat.le_of_ble_eq_true rfl) (Nat.le_of_ble_eq_true rfl) ?_
    exact ⟨_, rfl, hB0, rfl, by omega, by omega, by omega, by omega, by omega, by omega, by omega, by omega, by omega, by omega, by omega, by omega, (fun _ _ => rfl)⟩

set_option maxRecDepth 4000 in
theorem sfX12_oneTurn {l : Launch} {M : Mem} (hB : Box M)  (x : Int) (k : Int) (p0 : 1 ≤ x) (p1 : x ≤ 2873) (p2 : 0 ≤ k) (p3 : k ≤ 6) (p4 : mI M 54 14 = 873 * mI M 55 5) (p5 : mI M 54 14 + 1 ≤ x) (p6 : mI M 54 10 ≤ mI M 54 9) (p7 : mI M 54 11 = 0 ∨ mI M 54 10 < mI M 54 9) : Call l mdX12_oneTurn [aR 54, aI x, aI k] M (fun q N => ∃ r : Int, q = some (aI r) ∧ BF fT M N ∧ mI N 55 = mI M 55 ∧ 0 ≤ r ∧ r ≤ 7 ∧ (r ≠ 0 ∨ (mI N 57 (x + 3).toNat = k + 1 ∧ k ≤ 5)) ∧ mI N 54 10 ≤ mI N 54 9 ∧ (mI N 54 11 = 0 ∨ mI N 54 10 < mI N 54 9) ∧ mI M 54 10 ≤ mI N 54 10 ∧ mI N 54 14 = mI M 54 14 ∧ mI N 54 15 = mI M 54 15 ∧ mI N 54 16 = mI M 54 16 ∧ mI N 54 18 = mI M 54 18 ∧ mI N 54 19 = mI M 54 19 ∧ mI N 54 20 = mI M 54 20 ∧ mI N 54 21 = mI M 54 21 ∧ (∀ j : Nat, ((j : Int) ≤ x + 2 ∨ x + 11 ≤ j) → mI N 57 j = mI M 57 j)) := by
  have hB0 : BF fT M M := BF.start hB
  refine Call.of [some (aR 54), some (aI x), some (aI k), none, none, none] rfl (Nat.le_of_ble_eq_true rfl) rfl ?_
  refine vc_aload_n dX12_oneTurn_0 rfl ?_
  refine vc_bipush dX12_oneTurn_1 rfl ?_
  refine vc_bipush dX12_oneTurn_3 rfl ?_
  refine vc_cSL dX12_oneTurn_5 (sfX12_w2 (M := M) hB0.1  97 116 ) rfl okX12_w2 stX12_w2 lkX12_151 rfl (Nat.le_of_ble_eq_true rfl) ⟨rfl, rfl⟩ (Nat.le_of_ble_eq_true rfl) (Nat.le_of_ble_eq_true rfl) (Nat.le_of_ble_eq_true rfl) ?_
  rintro x1 _ rfl
  refine vc_cVI dX12_oneTurn_8 (sfX12_isWord (M := M) hB0.1  x1 ) rfl okX12_isWord viX12_isWord lkX12_196 (s_54 hB0.1.1) cl_12 rfl (Nat.le_of_ble_eq_true rfl) ⟨rfl, rfl⟩ (Nat.le_of_ble_eq_true rfl) (Nat.le_of_ble_eq_true rfl) (Nat.le_of_ble_eq_true rfl) ?_
  rintro x2 _ ⟨rfl, h3, h4, h5⟩
  refine vc_istore_n dX12_oneTurn_11 (by decide) rfl (show _ = [some (aR 54), some (aI x), some (aI k), some (aI x2), none, none] from rfl) ?_
  refine vc_iload_n dX12_oneTurn_12 rfl ?_
  refine vc_if_eq dX12_oneTurn_13 (fun h6 => ?_) (fun h6 => ?_)
  · refine vc_iload_n dX12_oneTurn_25 rfl ?_
    refine vc_if_eq dX12_oneTurn_26 (fun h7 => ?_) (fun h7 => by exfalso; omega)
    refine vc_aload_n dX12_oneTurn_33 rfl ?_
    refine vc_getI dX12_oneTurn_34 flX12_129 (s_54 hB0.1.1) rfl ?_
    refine vc_iconst dX12_oneTurn_37 rfl ?_
    refine vc_icmp_eq dX12_oneTurn_38 (fun h8 => ?_) (fun h8 => ?_)
    · refine vc_aload_n dX12_oneTurn_43 rfl ?_
      refine vc_getI dX12_oneTurn_44 flX12_135 (s_54 hB0.1.1) rfl ?_
      refine vc_iconst dX12_oneTurn_47 rfl ?_
      refine vc_iload_n dX12_oneTurn_48 rfl ?_
      refine vc_if_eq dX12_oneTurn_49 (fun h9 => ?_) (fun h9 => by exfalso; omega)
      refine vc_iconst dX12_oneTurn_56 rfl ?_
      refine vc_cSI dX12_oneTurn_57 (sfX12_isIn (M := M) hB0.1  (mI M 54 12) 1 4 ) rfl okX12_isIn stX12_isIn lkX12_83 rfl (Nat.le_of_ble_eq_true rfl) ⟨rfl, rfl⟩ (Nat.le_of_ble_eq_true rfl) (Nat.le_of_ble_eq_true rfl) (Nat.le_of_ble_eq_true rfl) ?_
      rintro x10 _ ⟨rfl, h11, h12, h13⟩
      refine vc_if_ne dX12_oneTurn_60 (fun h14 => ?_) (fun h14 => ?_)
      · refine vc_iload_n dX12_oneTurn_65 rfl ?_
        refine vc_bipush dX12_oneTurn_66 rfl ?_
        refine vc_icmp_ne dX12_oneTurn_68 (fun h15 => ?_) (fun h15 => ?_)
        · refine vc_aload_n dX12_oneTurn_74 rfl ?_
          refine vc_getI dX12_oneTurn_75 flX12_135 (s_54 hB0.1.1) rfl ?_
          refine vc_nameI (fun x16 ex16 => ?_)
          refine vc_istore dX12_oneTurn_78 (by decide) rfl (show _ = [some (aR 54), some (aI x), some (aI k), some (aI x2), some (aI x16), none] from rfl) ?_
          refine vc_aload_n dX12_oneTurn_80 rfl ?_
          refine vc_cVU dX12_oneTurn_81 (sfX12_nextToken (M := M) hB0.1   ) rfl okX12_nextToken viX12_nextToken lkX12_193 (s_54 hB0.1.1) cl_12 rfl (Nat.le_of_ble_eq_true rfl) ⟨rfl, rfl⟩ (Nat.le_of_ble_eq_true rfl) (Nat.le_of_ble_eq_true rfl) (Nat.le_of_ble_eq_true rfl) ?_
          rintro M17 ⟨hB18, kp19, kp20, kp21, h22, h23, h24, h25, h26, h27, h28, h29, h30, h31⟩
          have hB32 : BF fT M M17 := BF.go hB0 hB18.t
          have kp33 : mI M17 55 = mI M 55 := kp_go rfl kp19
          have fr34 : ∀ j : Nat, ((j : Int) ≤ x + 2 ∨ x + 11 ≤ j) → mI M17 57 j = mI M 57 j := fun j hj => (congrFun kp20 j).trans ((fun _ _ => rfl) j hj)
          refine vc_aload_n dX12_oneTurn_84 rfl ?_
          refine vc_bipush dX12_oneTurn_85 rfl ?_
          refine vc_bipush dX12_oneTurn_87 rfl ?_
          refine vc_cSL dX12_oneTurn_89 (sfX12_w2 (M := M17) hB32.1  111 110 ) rfl okX12_w2 stX12_w2 lkX12_151 rfl (Nat.le_of_ble_eq_true rfl) ⟨rfl, rfl⟩ (Nat.le_of_ble_eq_true rfl) (Nat.le_of_ble_eq_true rfl) (Nat.le_of_ble_eq_true rfl) ?_
          rintro x35 _ rfl
          refine vc_cVI dX12_oneTurn_92 (sfX12_sideOf (M := M17) hB32.1  x35 ) rfl okX12_sideOf viX12_sideOf lkX12_237 (s_54 hB32.1.1) cl_12 rfl (Nat.le_of_ble_eq_true rfl) ⟨rfl, rfl⟩ (Nat.le_of_ble_eq_true rfl) (Nat.le_of_ble_eq_true rfl) (Nat.le_of_ble_eq_true rfl) ?_
          rintro x36 _ ⟨rfl, h37, h38⟩
          refine vc_istore dX12_oneTurn_95 (by decide) rfl (show _ = [some (aR 54), some (aI x), some (aI k), some (aI x2), some (aI x16), some (aI x36)] from rfl) ?_
          refine vc_iload dX12_oneTurn_97 rfl ?_
          refine vc_if_ne dX12_oneTurn_99 (fun h39 => ?_) (fun h39 => ?_)
          · refine vc_aload_n dX12_oneTurn_104 rfl ?_
            refine vc_cVU dX12_oneTurn_105 (sfX12_nextToken (M := M17) hB32.1   ) rfl okX12_nextToken viX12_nextToken lkX12_193 (s_54 hB32.1.1) cl_12 rfl (Nat.le_of_ble_eq_true rfl) ⟨rfl, rfl⟩ (Nat.le_of_ble_eq_true rfl) (Nat.le_of_ble_eq_true rfl) (Nat.le_of_ble_eq_true rfl) ?_
            rintro M40 ⟨hB41, kp42, kp43, kp44, h45, h46, h47, h48, h49, h50, h51, h52, h53, h54⟩
            have hB55 : BF fT M M40 := BF.go hB32 hB41.t
            have kp56 : mI M40 55 = mI M 55 := kp_go kp33 kp42
            have fr57 : ∀ j : Nat, ((j : Int) ≤ x + 2 ∨ x + 11 ≤ j) → mI M40 57 j = mI M 57 j := fun j hj => (congrFun kp43 j).trans (fr34 j hj)
            have hz5 := congrFun kp56 5
            refine vc_aload_n dX12_oneTurn_108 rfl ?_
            refine vc_getR dX12_oneTurn_109 flX12_16 (s_54 hB55.1.1) rfl (r_54_2 hB55.1.1) ?_
            refine vc_iload_n dX12_oneTurn_112 rfl ?_
            refine vc_iconst dX12_oneTurn_113 rfl ?_
            refine vc_iaddE dX12_oneTurn_114 (by omega) (by omega) ?_
            refine vc_iload_n dX12_oneTurn_115 rfl ?_
            refine vc_iaddE dX12_oneTurn_116 (by omega) (by omega) ?_
            refine vc_bipush dX12_oneTurn_117 rfl ?_
            refine vc_iload dX12_oneTurn_119 rfl ?_
            refine vc_imulE dX12_oneTurn_121 (by omega) (by omega) ?_
            refine vc_iload_n dX12_oneTurn_122 rfl ?_
            refine vc_if_eq dX12_oneTurn_123 (fun h58 => ?_) (fun h58 => by exfalso; omega)
            refine vc_iconst dX12_oneTurn_131 rfl ?_
            refine vc_iaddE dX12_oneTurn_132 (by omega) (by omega) ?_
            refine vc_iload dX12_oneTurn_133 rfl ?_
            refine vc_iaddE dX12_oneTurn_135 (by omega) (by omega) ?_
            refine vc_iastore dX12_oneTurn_136 (s_57 hB55.1.1) (by omega) (by omega) ?_
            have kp59 : mI (sI M40 57 (((x + 4) + k).toNat) (((100 * x36) + 0) + x16)) 55 = mI M 55 := (kp_sI kp56 rfl)
            have hB60 : BF fT M (sI M40 57 (((x + 4) + k).toNat) (((100 * x36) + 0) + x16)) := BF.x57 (x := (x + 4) + k) hB55 (by omega)
            have hz5 := congrFun kp59 5
            refine vc_aload_n dX12_oneTurn_137 rfl ?_
            refine vc_getR dX12_oneTurn_138 flX12_16 (s_54 hB60.1.1) rfl (r_54_2 hB60.1.1) ?_
            refine vc_iload_n dX12_oneTurn_141 rfl ?_
            refine vc_iconst dX12_oneTurn_142 rfl ?_
            refine vc_iaddE dX12_oneTurn_143 (by omega) (by omega) ?_
            refine vc_iload_n dX12_oneTurn_144 rfl ?_
            refine vc_iconst dX12_oneTurn_145 rfl ?_
            refine vc_iaddE dX12_oneTurn_146 (by omega) (by omega) ?_
            refine vc_iastore dX12_oneTurn_147 (s_57 hB60.1.1) (by omega) (by omega) ?_
            have kp61 : mI (sI (sI M40 57 (((x + 4) + k).toNat) (((100 * x36) + 0) + x16)) 57 ((x + 3).toNat) (k + 1)) 55 = mI M 55 := (kp_sI kp59 rfl)
            have hB62 : BF fT M (sI (sI M40 57 (((x + 4) + k).toNat) (((100 * x36) + 0) + x16)) 57 ((x + 3).toNat) (k + 1)) := BF.x57 (x := x + 3) hB60 (by omega)
            have fr63 : ∀ j : Nat, ((j : Int) ≤ x + 2 ∨ x + 11 ≤ j) → mI (sI (sI M40 57 (((x + 4) + k).toNat) (((100 * x36) + 0) + x16)) 57 ((x + 3).toNat) (k + 1)) 57 j = mI M 57 j := fun j hj => by
              rw [mI_sI, if_neg (fun e => by omega), mI_sI, if_neg (fun e => by omega)]
              exact fr57 j hj
            have hx3 : mI (sI (sI M40 57 (((x + 4) + k).toNat) (((100 * x36) + 0) + x16)) 57 ((x + 3).toNat) (k + 1)) 57 (x + 3).toNat = k + 1 := mI_same
            refine vc_iconst dX12_oneTurn_148 rfl ?_
            refine vc_iret dX12_oneTurn_149 rfl (Nat.le_of_ble_eq_true rfl) (Nat.le_of_ble_eq_true rfl) ?_
            have k64 : mI (sI (sI M40 57 (((x + 4) + k).toNat) (((100 * x36) + 0) + x16)) 57 ((x + 3).toNat) (k + 1)) 54 9 = mI M40 54 9 := rfl
            have k65 : mI (sI (sI M40 57 (((x + 4) + k).toNat) (((100 * x36) + 0) + x16)) 57 ((x + 3).toNat) (k + 1)) 54 10 = mI M40 54 10 := rfl
            have k66 : mI (sI (sI M40 57 (((x + 4) + k).toNat) (((100 * x36) + 0) + x16)) 57 ((x + 3).toNat) (k + 1)) 54 11 = mI M40 54 11 := rfl
            have k67 : mI (sI (sI M40 57 (((x + 4) + k).toNat) (((100 * x36) + 0) + x16)) 57 ((x + 3).toNat) (k + 1)) 54 14 = mI M40 54 14 := rfl
            have k68 : mI (sI (sI M40 57 (((x + 4) + k).toNat) (((100 * x36) + 0) + x16)) 57 ((x + 3).toNat) (k + 1)) 54 15 = mI M40 54 15 := rfl
            have k69 : mI (sI (sI M40 57 (((x + 4) + k).toNat) (((100 * x36) + 0) + x16)) 57 ((x + 3).toNat) (k + 1)) 54 16 = mI M40 54 16 := rfl
            have k70 : mI (sI (sI M40 57 (((x + 4) + k).toNat) (((100 * x36) + 0) + x16)) 57 ((x + 3).toNat) (k + 1)) 54 18 = mI M40 54 18 := rfl
            have k71 : mI (sI (sI M40 57 (((x + 4) + k).toNat) (((100 * x36) + 0) + x16)) 57 ((x + 3).toNat) (k + 1)) 54 19 = mI M40 54 19 := rfl
            have k72 : mI (sI (sI M40 57 (((x + 4) + k).toNat) (((100 * x36) + 0) + x16)) 57 ((x + 3).toNat) (k + 1)) 54 20 = mI M40 54 20 := rfl
            have k73 : mI (sI (sI M40 57 (((x + 4) + k).toNat) (((100 * x36) + 0) + x16)) 57 ((x + 3).toNat) (k + 1)) 54 21 = mI M40 54 21 := rfl
            exact ⟨_, rfl, hB62, kp61, by omega, by omega, by omega, by omega, by omega, by omega, by omega, by omega, by omega, by omega, by omega, by omega, by omega, fr63⟩
          · refine vc_iconst dX12_oneTurn_102 rfl ?_
            refine vc_iret dX12_oneTurn_103 rfl (Nat.le_of_ble_eq_true rfl) (Nat.le_of_ble_eq_true rfl) ?_
            exact ⟨_, rfl, hB32, kp33, by omega, by omega, by omega, by omega, by omega, by omega, by omega, by omega, by omega, by omega, by omega, by omega, by omega, fr34⟩
        · refine vc_bipush dX12_oneTurn_71 rfl ?_
          refine vc_iret dX12_oneTurn_73 rfl (Nat.le_of_ble_eq_true rfl) (Nat.le_of_ble_eq_true rfl) ?_
          exact ⟨_, rfl, hB0, rfl, by omega, by omega, by omega, by omega, by omega, by omega, by omega, by omega, by omega, by omega, by omega, by omega, by omega, (fun _ _ => rfl)⟩
      · refine vc_iconst dX12_oneTurn_63 rfl ?_
        refine vc_iret dX12_oneTurn_64 rfl (Nat.le_of_ble_eq_true rfl) (Nat.le_of_ble_eq_true rfl) ?_
        exact ⟨_, rfl, hB0, rfl, by omega, by omega, by omega, by omega, by omega, by omega, by omega, by omega, by omega, by omega, by omega, by omega, by omega, (fun _ _ => rfl)⟩
    · refine vc_iconst dX12_oneTurn_41 rfl ?_
      refine vc_iret dX12_oneTurn_42 rfl (Nat.le_of_ble_eq_true rfl) (Nat.le_of_ble_eq_true rfl) ?_
      exact ⟨_, rfl, hB0, rfl, by omega, by omega, by omega, by omega, by omega, by omega, by omega, by omega, by omega, by omega, by omega, by omega, by omega, (fun _ _ => rfl)⟩
  · refine vc_iload_n dX12_oneTurn_16 rfl ?_
    refine vc_bipush dX12_oneTurn_17 rfl ?_
    refine vc_icmp_ne dX12_oneTurn_19 (fun h74 => ?_) (fun h74 => ?_)
    · refine vc_iload_n dX12_oneTurn_25 rfl ?_
      refine vc_if_eq dX12_oneTurn_26 (fun h75 => by exfalso; omega) (fun h75 => ?_)
      refine vc_aload_n dX12_oneTurn_29 rfl ?_
      refine vc_cVU dX12_oneTurn_30 (sfX12_nextToken (M := M) hB0.1   ) rfl okX12_nextToken viX12_nextToken lkX12_193 (s_54 hB0.1.1) cl_12 rfl (Nat.le_of_ble_eq_true rfl) ⟨rfl, rfl⟩ (Nat.le_of_ble_eq_true rfl) (Nat.le_of_ble_eq_true rfl) (Nat.le_of_ble_eq_true rfl) ?_
      rintro M76 ⟨hB77, kp78, kp79, kp80, h81, h82, h83, h84, h85, h86, h87, h88, h89, h90⟩
      have hB91 : BF fT M M76 := BF.go hB0 hB77.t
      have kp92 : mI M76 55 = mI M 55 := kp_go rfl kp78
      have fr93 : ∀ j : Nat, ((j : Int) ≤ x + 2 ∨ x + 11 ≤ j) → mI M76 57 j = mI M 57 j := fun j hj => (congrFun kp79 j).trans ((fun _ _ => rfl) j hj)
      refine vc_aload_n dX12_oneTurn_33 rfl ?_
      refine vc_getI dX12_oneTurn_34 flX12_129 (s_54 hB91.1.1) rfl ?_
      refine vc_iconst dX12_oneTurn_37 rfl ?_
      refine vc_icmp_eq dX12_oneTurn_38 (fun h94 => ?_) (fun h94 => ?_)
      · refine vc_aload_n dX12_oneTurn_43 rfl ?_
        refine vc_getI dX12_oneTurn_44 flX12_135 (s_54 hB91.1.1) rfl ?_
        refine vc_iconst dX12_oneTurn_47 rfl ?_
        refine vc_iload_n dX12_oneTurn_48 rfl ?_
        refine vc_if_eq dX12_oneTurn_49 (fun h95 => by exfalso; omega) (fun h95 => ?_)
        refine vc_iconst dX12_oneTurn_52 rfl ?_
        refine vc_goto dX12_oneTurn_53 ?_
        refine vc_cSI dX12_oneTurn_57 (sfX12_isIn (M := M76) hB91.1  (mI M76 54 12) 1 5 ) rfl okX12_isIn stX12_isIn lkX12_83 rfl (Nat.le_of_ble_eq_true rfl) ⟨rfl, rfl⟩ (Nat.le_of_ble_eq_true rfl) (Nat.le_of_ble_eq_true rfl) (Nat.le_of_ble_eq_true rfl) ?_
        rintro x96 _ ⟨rfl, h97, h98, h99⟩
        refine vc_if_ne dX12_oneTurn_60 (fun h100 => ?_) (fun h100 => ?_)
        · refine vc_iload_n dX12_oneTurn_65 rfl ?_
          refine vc_bipush dX12_oneTurn_66 rfl ?_
          refine vc_icmp_ne dX12_oneTurn_68 (fun h101 => ?_) (fun h101 => by exfalso; omega)
          refine vc_aload_n dX12_oneTurn_74 rfl ?_
          refine vc_getI dX12_oneTurn_75 flX12_135 (s_54 hB91.1.1) rfl ?_
          refine vc_nameI (fun x102 ex102 => ?_)
          refine vc_istore dX12_oneTurn_78 (by decide) rfl (show _ = [some (aR 54), some (aI x), some (aI k), some (aI x2), some (aI x102), none] from rfl) ?_
          refine vc_aload_n dX12_oneTurn_80 rfl ?_
          refine vc_cVU dX12_oneTurn_81 (sfX12_nextToken (M := M76) hB91.1   ) rfl okX12_nextToken viX12_nextToken lkX12_193 (s_54 hB91.1.1) cl_12 rfl (Nat.le_of_ble_eq_true rfl) ⟨rfl, rfl⟩ (Nat.le_of_ble_eq_true rfl) (Nat.le_of_ble_eq_true rfl) (Nat.le_of_ble_eq_true rfl) ?_
          rintro M103 ⟨hB104, kp105, kp106, kp107, h108, h109, h110, h111, h112, h113, h114, h115, h116, h117⟩
          have hB118 : BF fT M M103 := BF.go hB91 hB104.t
          have kp119 : mI M103 55 = mI M 55 := kp_go kp92 kp105
          have fr120 : ∀ j : Nat, ((j : Int) ≤ x + 2 ∨ x + 11 ≤ j) → mI M103 57 j = mI M 57 j := fun j hj => (congrFun kp106 j).trans (fr93 j hj)
          refine vc_aload_n dX12_oneTurn_84 rfl ?_
          refine vc_bipush dX12_oneTurn_85 rfl ?_
          refine vc_bipush dX12_oneTurn_87 rfl ?_
          refine vc_cSL dX12_oneTurn_89 (sfX12_w2 (M := M103) hB118.1  111 110 ) rfl okX12_w2 stX12_w2 lkX12_151 rfl (Nat.le_of_ble_eq_true rfl) ⟨rfl, rfl⟩ (Nat.le_of_ble_eq_true rfl) (Nat.le_of_ble_eq_true rfl) (Nat.le_of_ble_eq_true rfl) ?_
          rintro x121 _ rfl
          refine vc_cVI dX12_oneTurn_92 (sfX12_sideOf (M := M103) hB118.1  x121 ) rfl okX12_sideOf viX12_sideOf lkX12_237 (s_54 hB118.1.1) cl_12 rfl (Nat.le_of_ble_eq_true rfl) ⟨rfl, rfl⟩ (Nat.le_of_ble_eq_true rfl) (Nat.le_of_ble_eq_true rfl) (Nat.le_of_ble_eq_true rfl) ?_
          rintro x122 _ ⟨rfl, h123, h124⟩
          refine vc_istore dX12_oneTurn_95 (by decide) rfl (show _ = [some (aR 54), some (aI x), some (aI k), some (aI x2), some (aI x102), some (aI x122)] from rfl) ?_
          refine vc_iload dX12_oneTurn_97 rfl ?_
          refine vc_if_ne dX12_oneTurn_99 (fun h125 => ?_) (fun h125 => ?_)
          · refine vc_aload_n dX12_oneTurn_104 rfl ?_
            refine vc_cVU dX12_oneTurn_105 (sfX12_nextToken (M := M103) hB118.1   ) rfl okX12_nextToken viX12_nextToken lkX12_193 (s_54 hB118.1.1) cl_12 rfl (Nat.le_of_ble_eq_true rfl) ⟨rfl, rfl⟩ (Nat.le_of_ble_eq_true rfl) (Nat.le_of_ble_eq_true rfl) (Nat.le_of_ble_eq_true rfl) ?_
            rintro M126 ⟨hB127, kp128, kp129, kp130, h131, h132, h133, h134, h135, h136, h137, h138, h139, h140⟩
            have hB141 : BF fT M M126 := BF.go hB118 hB127.t
            have kp142 : mI M126 55 = mI M 55 := kp_go kp119 kp128
            have fr143 : ∀ j : Nat, ((j : Int) ≤ x + 2 ∨ x + 11 ≤ j) → mI M126 57 j = mI M 57 j := fun j hj => (congrFun kp129 j).trans (fr120 j hj)
            have hz5 := congrFun kp142 5
            refine vc_aload_n dX12_oneTurn_108 rfl ?_
            refine vc_getR dX12_oneTurn_109 flX12_16 (s_54 hB141.1.1) rfl (r_54_2 hB141.1.1) ?_
            refine vc_iload_n dX12_oneTurn_112 rfl ?_
            refine vc_iconst dX12_oneTurn_113 rfl ?_
            refine vc_iaddE dX12_oneTurn_114 (by omega) (by omega) ?_
            refine vc_iload_n dX12_oneTurn_115 rfl ?_
            refine vc_iaddE dX12_oneTurn_116 (by omega) (by omega) ?_
            refine vc_bipush dX12_oneTurn_117 rfl ?_
            refine vc_iload dX12_oneTurn_119 rfl ?_
            refine vc_imulE dX12_oneTurn_121 (by omega) (by omega) ?_
            refine vc_iload_n dX12_oneTurn_122 rfl ?_
            refine vc_if_eq dX12_oneTurn_123 (fun h144 => by exfalso; omega) (fun h144 => ?_)
            refine vc_bipush dX12_oneTurn_126 rfl ?_
            refine vc_goto dX12_oneTurn_128 ?_
            refine vc_iaddE dX12_oneTurn_132 (by omega) (by omega) ?_
            refine vc_iload dX12_oneTurn_133 rfl ?_
            refine vc_iaddE dX12_oneTurn_135 (by omega) (by omega) ?_
            refine vc_iastore dX12_oneTurn_136 (s_57 hB141.1.1) (by omega) (by omega) ?_
            have kp145 : mI (sI M126 57 (((x + 4) + k).toNat) (((100 * x122) + 10) + x102)) 55 = mI M 55 := (kp_sI kp142 rfl)
            have hB146 : BF fT M (sI M126 57 (((x + 4) + k).toNat) (((100 * x122) + 10) + x102)) := BF.x57 (x := (x + 4) + k) hB141 (by omega)
            have hz5 := congrFun kp145 5
            refine vc_aload_n dX12_oneTurn_137 rfl ?_
            refine vc_getR dX12_oneTurn_138 flX12_16 (s_54 hB146.1.1) rfl (r_54_2 hB146.1.1) ?_
            refine vc_iload_n dX12_oneTurn_141 rfl ?_
            refine vc_iconst dX12_oneTurn_142 rfl ?_
            refine vc_iaddE dX12_oneTurn_143 (by omega) (by omega) ?_
            refine vc_iload_n dX12_oneTurn_144 rfl ?_
            refine vc_iconst dX12_oneTurn_145 rfl ?_
            refine vc_iaddE dX12_oneTurn_146 (by omega) (by omega) ?_
            refine vc_iastore dX12_oneTurn_147 (s_57 hB146.1.1) (by omega) (by omega) ?_
            have kp147 : mI (sI (sI M126 57 (((x + 4) + k).toNat) (((100 * x122) + 10) + x102)) 57 ((x + 3).toNat) (k + 1)) 55 = mI M 55 := (kp_sI kp145 rfl)
            have hB148 : BF fT M (sI (sI M126 57 (((x + 4) + k).toNat) (((100 * x122) + 10) + x102)) 57 ((x + 3).toNat) (k + 1)) := BF.x57 (x := x + 3) hB146 (by omega)
            have fr149 : ∀ j : Nat, ((j : Int) ≤ x + 2 ∨ x + 11 ≤ j) → mI (sI (sI M126 57 (((x + 4) + k).toNat) (((100 * x122) + 10) + x102)) 57 ((x + 3).toNat) (k + 1)) 57 j = mI M 57 j := fun j hj => by
              rw [mI_sI, if_neg (fun e => by omega), mI_sI, if_neg (fun e => by omega)]
              exact fr143 j hj
            have hx3 : mI (sI (sI M126 57 (((x + 4) + k).toNat) (((100 * x122) + 10) + x102)) 57 ((x + 3).toNat) (k + 1)) 57 (x + 3).toNat = k + 1 := mI_same
            refine vc_iconst dX12_oneTurn_148 rfl ?_
            refine vc_iret dX12_oneTurn_149 rfl (Nat.le_of_ble_eq_true rfl) (Nat.le_of_ble_eq_true rfl) ?_
            have k150 : mI (sI (sI M126 57 (((x + 4) + k).toNat) (((100 * x122) + 10) + x102)) 57 ((x + 3).toNat) (k + 1)) 54 9 = mI M126 54 9 := rfl
            have k151 : mI (sI (sI M126 57 (((x + 4) + k).toNat) (((100 * x122) + 10) + x102)) 57 ((x + 3).toNat) (k + 1)) 54 10 = mI M126 54 10 := rfl
            have k152 : mI (sI (sI M126 57 (((x + 4) + k).toNat) (((100 * x122) + 10) + x102)) 57 ((x + 3).toNat) (k + 1)) 54 11 = mI M126 54 11 := rfl
            have k153 : mI (sI (sI M126 57 (((x + 4) + k).toNat) (((100 * x122) + 10) + x102)) 57 ((x + 3).toNat) (k + 1)) 54 14 = mI M126 54 14 := rfl
            have k154 : mI (sI (sI M126 57 (((x + 4) + k).toNat) (((100 * x122) + 10) + x102)) 57 ((x + 3).toNat) (k + 1)) 54 15 = mI M126 54 15 := rfl
            have k155 : mI (sI (sI M126 57 (((x + 4) + k).toNat) (((100 * x122) + 10) + x102)) 57 ((x + 3).toNat) (k + 1)) 54 16 = mI M126 54 16 := rfl
            have k156 : mI (sI (sI M126 57 (((x + 4) + k).toNat) (((100 * x122) + 10) + x102)) 57 ((x + 3).toNat) (k + 1)) 54 18 = mI M126 54 18 := rfl
            have k157 : mI (sI (sI M126 57 (((x + 4) + k).toNat) (((100 * x122) + 10) + x102)) 57 ((x + 3).toNat) (k + 1)) 54 19 = mI M126 54 19 := rfl
            have k158 : mI (sI (sI M126 57 (((x + 4) + k).toNat) (((100 * x122) + 10) + x102)) 57 ((x + 3).toNat) (k + 1)) 54 20 = mI M126 54 20 := rfl
            have k159 : mI (sI (sI M126 57 (((x + 4) + k).toNat) (((100 * x122) + 10) + x102)) 57 ((x + 3).toNat) (k + 1)) 54 21 = mI M126 54 21 := rfl
            exact ⟨_, rfl, hB148, kp147, by omega, by omega, by omega, by omega, by omega, by omega, by omega, by omega, by omega, by omega, by omega, by omega, by omega, fr149⟩
          · refine vc_iconst dX12_oneTurn_102 rfl ?_
            refine vc_iret dX12_oneTurn_103 rfl (Nat.le_of_ble_eq_true rfl) (Nat.le_of_ble_eq_true rfl) ?_
            exact ⟨_, rfl, hB118, kp119, by omega, by omega, by omega, by omega, by omega, by omega, by omega, by omega, by omega, by omega, by omega, by omega, by omega, fr120⟩
        · refine vc_iconst dX12_oneTurn_63 rfl ?_
          refine vc_iret dX12_oneTurn_64 rfl (Nat.le_of_ble_eq_true rfl) (Nat.le_of_ble_eq_true rfl) ?_
          exact ⟨_, rfl, hB91, kp92, by omega, by omega, by omega, by omega, by omega, by omega, by omega, by omega, by omega, by omega, by omega, by omega, by omega, fr93⟩
      · refine vc_iconst dX12_oneTurn_41 rfl ?_
        refine vc_iret dX12_oneTurn_42 rfl (Nat.le_of_ble_eq_true rfl) (Nat.le_of_ble_eq_true rfl) ?_
        exact ⟨_, rfl, hB91, kp92, by omega, by omega, by omega, by omega, by omega, by omega, by omega, by omega, by omega, by omega, by omega, by omega, by omega, fr93⟩
    · refine vc_bipush dX12_oneTurn_22 rfl ?_
      refine vc_iret dX12_oneTurn_24 rfl (Nat.le_of_ble_eq_true rfl) (Nat.le_of_ble_eq_true rfl) ?_
      exact ⟨_, rfl, hB0, rfl, by omega, by omega, by omega, by omega, by omega, by omega, by omega, by omega, by omega, by omega, by omega, by omega, by omega, (fun _ _ => rfl)⟩
