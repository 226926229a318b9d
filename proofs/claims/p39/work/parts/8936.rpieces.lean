theorem pk_0 : (495924113523 : Int) = pkr (WL.getD 0 []).reverse := by decide
theorem pk_1 : (119182682645875 : Int) = pkr (WL.getD 1 []).reverse := by decide
theorem pk_2 : (469920933235 : Int) = pkr (WL.getD 2 []).reverse := by decide
theorem pk_3 : (1885430629 : Int) = pkr (WL.getD 3 []).reverse := by decide
theorem pk_4 : (1634954099 : Int) = pkr (WL.getD 4 []).reverse := by decide
theorem pk_5 : (109330312357234 : Int) = pkr (WL.getD 5 []).reverse := by decide
theorem pk_6 : (126943972648308 : Int) = pkr (WL.getD 6 []).reverse := by decide
theorem pk_7 : (1818324581 : Int) = pkr (WL.getD 7 []).reverse := by decide
theorem pk_8 : (1735352684 : Int) = pkr (WL.getD 8 []).reverse := by decide
theorem pk_9 : (127978959562098 : Int) = pkr (WL.getD 9 []).reverse := by decide
theorem pk_10 : (32762613648158311 : Int) = pkr (WL.getD 10 []).reverse := by decide
theorem pk_11 : (495873782388 : Int) = pkr (WL.getD 11 []).reverse := by decide
theorem pk_12 : (2002873451 : Int) = pkr (WL.getD 12 []).reverse := by decide
theorem pk_13 : (1953854062 : Int) = pkr (WL.getD 13 []).reverse := by decide
theorem pk_14 : (6386539 : Int) = pkr (WL.getD 14 []).reverse := by decide
theorem pk_15 : (112628746448759 : Int) = pkr (WL.getD 15 []).reverse := by decide
theorem pk_16 : (29807 : Int) = pkr (WL.getD 16 []).reverse := by decide
theorem pk_17 : (112568465714791 : Int) = pkr (WL.getD 17 []).reverse := by decide
theorem pk_18 : (24948 : Int) = pkr (WL.getD 18 []).reverse := by decide
theorem pk_19 : (28518 : Int) = pkr (WL.getD 19 []).reverse := by decide
theorem pk_20 : (6647396 : Int) = pkr (WL.getD 20 []).reverse := by decide
theorem pk_21 : (465557353332 : Int) = pkr (WL.getD 21 []).reverse := by decide
theorem pk_22 : (1836020596 : Int) = pkr (WL.getD 22 []).reverse := by decide
theorem pk_23 : (1818584692 : Int) = pkr (WL.getD 23 []).reverse := by decide
theorem pk_24 : (491394656372 : Int) = pkr (WL.getD 24 []).reverse := by decide
theorem pk_25 : (28526 : Int) = pkr (WL.getD 25 []).reverse := by decide
theorem pk_26 : (1650549611 : Int) = pkr (WL.getD 26 []).reverse := by decide
theorem pk_27 : (7825519 : Int) = pkr (WL.getD 27 []).reverse := by decide
theorem pk_28 : (1751478885 : Int) = pkr (WL.getD 28 []).reverse := by decide
theorem pk_29 : (418548245860 : Int) = pkr (WL.getD 29 []).reverse := by decide
theorem pk_30 : (500186639987 : Int) = pkr (WL.getD 30 []).reverse := by decide
theorem pk_31 : (1717658469 : Int) = pkr (WL.getD 31 []).reverse := by decide
theorem pk_32 : (1953459300 : Int) = pkr (WL.getD 32 []).reverse := by decide
theorem pk_33 : (121364810985335 : Int) = pkr (WL.getD 33 []).reverse := by decide
theorem pk_34 : (495689623668 : Int) = pkr (WL.getD 34 []).reverse := by decide
theorem pk_35 : (7823737 : Int) = pkr (WL.getD 35 []).reverse := by decide
theorem isw {r : Int} {A B : Prop} (h : (r = 1 ∧ A) ∨ (r = 0 ∧ ¬ A)) (e : A ↔ B) : (r = 1 ∧ B) ∨ (r = 0 ∧ ¬ B) := by
  rw [← e]; exact h
def w2v (x y : Int) : Int := orL (shlL x 8) y
def w3v (x y z : Int) : Int := orL (shlL (w2v x y) 8) z
def w4v (x y z t : Int) : Int := orL (shlL (w3v x y z) 8) t
def w5v (x y z t u : Int) : Int := orL (shlL (w4v x y z t) 8) u
def w6v (x y z t u v : Int) : Int := orL (shlL (w5v x y z t u) 8) v
set_option maxRecDepth 4000 in
theorem sfX12_w2F {l : Launch} {M : Mem} (hB : Box M)  (x : Int) (y : Int)  : Call l mdX12_w2 [aI x, aI y] M (fun q N => ∃ r : Int, q = some (aL r) ∧ M = N ∧ r = w2v x y) := by
  have hB0 : BF fQ M M := BF.start hB
  refine Call.of [some (aI x), some (aI y)] rfl (Nat.le_of_ble_eq_true rfl) rfl ?_
  refine vc_iload_n dX12_w2_0 rfl ?_
  refine vc_i2l dX12_w2_1 ?_
  refine vc_bipush dX12_w2_2 rfl ?_
  refine vc_lshl dX12_w2_4 ?_
  refine vc_iload_n dX12_w2_5 rfl ?_
  refine vc_i2l dX12_w2_6 ?_
  refine vc_lor dX12_w2_7 ?_
  refine vc_lret dX12_w2_8 rfl (Nat.le_of_ble_eq_true rfl) (Nat.le_of_ble_eq_true rfl) ?_
  exact ⟨_, rfl, rfl, by subst_vars; rfl⟩

set_option maxRecDepth 4000 in
theorem sfX12_w3F {l : Launch} {M : Mem} (hB : Box M)  (x : Int) (y : Int) (z : Int)  : Call l mdX12_w3 [aI x, aI y, aI z] M (fun q N => ∃ r : Int, q = some (aL r) ∧ M = N ∧ r = w3v x y z) := by
  have hB0 : BF fQ M M := BF.start hB
  refine Call.of [some (aI x), some (aI y), some (aI z)] rfl (Nat.le_of_ble_eq_true rfl) rfl ?_
  refine vc_iload_n dX12_w3_0 rfl ?_
  refine vc_iload_n dX12_w3_1 rfl ?_
  refine vc_cSL dX12_w3_2 (sfX12_w2F (M := M) hB0.1  x y ) rfl okX12_w2 stX12_w2 lkX12_151 rfl (Nat.le_of_ble_eq_true rfl) ⟨rfl, rfl⟩ (Nat.le_of_ble_eq_true rfl) (Nat.le_of_ble_eq_true rfl) (Nat.le_of_ble_eq_true rfl) ?_
  rintro x1 _ ⟨rfl, h2⟩
  refine vc_bipush dX12_w3_5 rfl ?_
  refine vc_lshl dX12_w3_7 ?_
  refine vc_iload_n dX12_w3_8 rfl ?_
  refine vc_i2l dX12_w3_9 ?_
  refine vc_lor dX12_w3_10 ?_
  refine vc_lret dX12_w3_11 rfl (Nat.le_of_ble_eq_true rfl) (Nat.le_of_ble_eq_true rfl) ?_
  exact ⟨_, rfl, rfl, by subst_vars; rfl⟩

set_option maxRecDepth 4000 in
theorem sfX12_w4F {l : Launch} {M : Mem} (hB : Box M)  (x : Int) (y : Int) (z : Int) (t : Int)  : Call l mdX12_w4 [aI x, aI y, aI z, aI t] M (fun q N => ∃ r : Int, q = some (aL r) ∧ M = N ∧ r = w4v x y z t) := by
  have hB0 : BF fQ M M := BF.start hB
  refine Call.of [some (aI x), some (aI y), some (aI z), some (aI t)] rfl (Nat.le_of_ble_eq_true rfl) rfl ?_
  refine vc_iload_n dX12_w4_0 rfl ?_
  refine vc_iload_n dX12_w4_1 rfl ?_
  refine vc_iload_n dX12_w4_2 rfl ?_
  refine vc_cSL dX12_w4_3 (sfX12_w3F (M := M) hB0.1  x y z ) rfl okX12_w3 stX12_w3 lkX12_155 rfl (Nat.le_of_ble_eq_true rfl) ⟨rfl, rfl⟩ (Nat.le_of_ble_eq_true rfl) (Nat.le_of_ble_eq_true rfl) (Nat.le_of_ble_eq_true rfl) ?_
  rintro x1 _ ⟨rfl, h2⟩
  refine vc_bipush dX12_w4_6 rfl ?_
  refine vc_lshl dX12_w4_8 ?_
  refine vc_iload_n dX12_w4_9 rfl ?_
  refine vc_i2l dX12_w4_10 ?_
  refine vc_lor dX12_w4_11 ?_
  refine vc_lret dX12_w4_12 rfl (Nat.le_of_ble_eq_true rfl) (Nat.le_of_ble_eq_true rfl) ?_
  exact ⟨_, rfl, rfl, by subst_vars; rfl⟩

set_option maxRecDepth 4000 in
theorem sfX12_w5F {l : Launch} {M : Mem} (hB : Box M)  (x : Int) (y : Int) (z : Int) (t : Int) (u : Int)  : Call l mdX12_w5 [aI x, aI y, aI z, aI t, aI u] M (fun q N => ∃ r : Int, q = some (aL r) ∧ M = N ∧ r = w5v x y z t u) := by
  have hB0 : BF fQ M M := BF.start hB
  refine Call.of [some (aI x), some (aI y), some (aI z), some (aI t), some (aI u)] rfl (Nat.le_of_ble_eq_true rfl) rfl ?_
  refine vc_iload_n dX12_w5_0 rfl ?_
  refine vc_iload_n dX12_w5_1 rfl ?_
  refine vc_iload_n dX12_w5_2 rfl ?_
  refine vc_iload_n dX12_w5_3 rfl ?_
  refine vc_cSL dX12_w5_4 (sfX12_w4F (M := M) hB0.1  x y z t ) rfl okX12_w4 stX12_w4 lkX12_159 rfl (Nat.le_of_ble_eq_true rfl) ⟨rfl, rfl⟩ (Nat.le_of_ble_eq_true rfl) (Nat.le_of_ble_eq_true rfl) (Nat.le_of_ble_eq_true rfl) ?_
  rintro x1 _ ⟨rfl, h2⟩
  refine vc_bipush dX12_w5_7 rfl ?_
  refine vc_lshl dX12_w5_9 ?_
  refine vc_iload dX12_w5_10 rfl ?_
  refine vc_i2l dX12_w5_12 ?_
  refine vc_lor dX12_w5_13 ?_
  refine vc_lret dX12_w5_14 rfl (Nat.le_of_ble_eq_true rfl) (Nat.le_of_ble_eq_true rfl) ?_
  exact ⟨_, rfl, rfl, by subst_vars; rfl⟩

set_option maxRecDepth 4000 in
theorem sfX12_w6F {l : Launch} {M : Mem} (hB : Box M)  (x : Int) (y : Int) (z : Int) (t : Int) (u : Int) (v : Int)  : Call l mdX12_w6 [aI x, aI y, aI z, aI t, aI u, aI v] M (fun q N => ∃ r : Int, q = some (aL r) ∧ M = N ∧ r = w6v x y z t u v) := by
  have hB0 : BF fQ M M := BF.start hB
  refine Call.of [some (aI x), some (aI y), some (aI z), some (aI t), some (aI u), some (aI v)] rfl (Nat.le_of_ble_eq_true rfl) rfl ?_
  refine vc_iload_n dX12_w6_0 rfl ?_
  refine vc_iload_n dX12_w6_1 rfl ?_
  refine vc_iload_n dX12_w6_2 rfl ?_
  refine vc_iload_n dX12_w6_3 rfl ?_
  refine vc_iload dX12_w6_4 rfl ?_
  refine vc_cSL dX12_w6_6 (sfX12_w5F (M := M) hB0.1  x y z t u ) rfl okX12_w5 stX12_w5 lkX12_163 rfl (Nat.le_of_ble_eq_true rfl) ⟨rfl, rfl⟩ (Nat.le_of_ble_eq_true rfl) (Nat.le_of_ble_eq_true rfl) (Nat.le_of_ble_eq_true rfl) ?_
  rintro x1 _ ⟨rfl, h2⟩
  refine vc_bipush dX12_w6_9 rfl ?_
  refine vc_lshl dX12_w6_11 ?_
  refine vc_iload dX12_w6_12 rfl ?_
  refine vc_i2l dX12_w6_14 ?_
  refine vc_lor dX12_w6_15 ?_
  refine vc_lret dX12_w6_16 rfl (Nat.le_of_ble_eq_true rfl) (Nat.le_of_ble_eq_true rfl) ?_
  exact ⟨_, rfl, rfl, by subst_vars; rfl⟩

set_option maxRecDepth 4000 in
theorem sfX12_isWordF {l : Launch} {M : Mem} (hB : Box M)  (w : Int)  : Call l mdX12_isWord [aR 54, aL w] M (fun q N => ∃ r : Int, q = some (aI r) ∧ M = N ∧ 0 ≤ r ∧ r ≤ 1 ∧ ((r = 1 ∧ mI M 54 11 = 2 ∧ mJ M 54 13 = w) ∨ (r = 0 ∧ ¬ (mI M 54 11 = 2 ∧ mJ M 54 13 = w)))) := by
  have hB0 : BF fQ M M := BF.start hB
  refine Call.of [some (aR 54), some (aL w), none] rfl (Nat.le_of_ble_eq_true rfl) rfl ?_
  refine vc_aload_n dX12_isWord_0 rfl ?_
  refine vc_getI dX12_isWord_1 flX12_129 (s_54 hB0.1.1) rfl ?_
  refine vc_iconst dX12_isWord_4 rfl ?_
  refine vc_icmp_ne dX12_isWord_5 (fun h1 => ?_) (fun h1 => ?_)
  · refine vc_iconst dX12_isWord_21 rfl ?_
    refine vc_zret dX12_isWord_22 rfl (by first | decide | omega) (Nat.le_of_ble_eq_true rfl) (Nat.le_of_ble_eq_true rfl) ?_
    exact ⟨_, rfl, rfl, by omega, by omega, by omega⟩
  · refine vc_aload_n dX12_isWord_8 rfl ?_
    refine vc_getJ dX12_isWord_9 flX12_142 (s_54 hB0.1.1) rfl ?_
    refine vc_lload_n dX12_isWord_12 rfl ?_
    refine vc_lif_ne dX12_isWord_13 dX12_isWord_14 (fun h2 => ?_) (fun h2 => ?_)
    · refine vc_iconst dX12_isWord_21 rfl ?_
      refine vc_zret dX12_isWord_22 rfl (by first | decide | omega) (Nat.le_of_ble_eq_true rfl) (Nat.le_of_ble_eq_true rfl) ?_
      exact ⟨_, rfl, rfl, by omega, by omega, by omega⟩
    · refine vc_iconst dX12_isWord_17 rfl ?_
      refine vc_goto dX12_isWord_18 ?_
      refine vc_zret dX12_isWord_22 rfl (by first | decide | omega) (Nat.le_of_ble_eq_true rfl) (Nat.le_of_ble_eq_true rfl) ?_
      exact ⟨_, rfl, rfl, by omega, by omega, by omega⟩

set_option maxRecDepth 4000 in
theorem sfX12_isOfF {l : Launch} {M : Mem} (hB : Box M)  (n : Int) (p0 : 0 ≤ n) (p1 : n ≤ 8) (p2 : 0 ≤ mI M 54 16) (p3 : mI M 54 16 ≤ 4) : Call l mdX12_isOf [aR 54, aI n] M (fun q N => ∃ r : Int, q = some (aI r) ∧ M = N ∧ 0 ≤ r ∧ r ≤ 1 ∧ ((r = 1 ∧ okN (mI M 54 16) n) ∨ (r = 0 ∧ ¬ okN (mI M 54 16) n))) := by
  have hB0 : BF fQ M M := BF.start hB
  refine Call.of [some (aR 54), some (aI n)] rfl (Nat.le_of_ble_eq_true rfl) rfl ?_
  refine vc_ok (fun hoM hoS hoL => ?_)
  have hr1 : -2147483648 ≤ n ∧ n < 2147483648 := hoL 1 _ rfl
  refine vc_iload_n dX12_isOf_0 rfl ?_
  refine vc_iconst dX12_isOf_1 rfl ?_
  refine vc_icmp_le dX12_isOf_2 (fun h1 => ?_) (fun h1 => ?_)
  · refine vc_iload_n dX12_isOf_21 rfl ?_
    refine vc_iconst dX12_isOf_22 rfl ?_
    refine vc_icmp_le dX12_isOf_23 (fun h2 => ?_) (fun h2 => ?_)
    · refine vc_aload_n dX12_isOf_42 rfl ?_
      refine vc_getI dX12_isOf_43 flX12_177 (s_54 hB0.1.1) rfl ?_
      refine vc_iconst dX12_isOf_46 rfl ?_
      refine vc_icmp_eq dX12_isOf_47 (fun h3 => ?_) (fun h3 => ?_)
      · refine vc_iconst dX12_isOf_54 rfl ?_
        refine vc_zret dX12_isOf_55 rfl (by first | decide | omega) (Nat.le_of_ble_eq_true rfl) (Nat.le_of_ble_eq_true rfl) ?_
        exact ⟨_, rfl, rfl, by omega, by omega, by unfold okN; omega⟩
      · refine vc_iconst dX12_isOf_50 rfl ?_
        refine vc_goto dX12_isOf_51 ?_
        refine vc_zret dX12_isOf_55 rfl (by first | decide | omega) (Nat.le_of_ble_eq_true rfl) (Nat.le_of_ble_eq_true rfl) ?_
        exact ⟨_, rfl, rfl, by omega, by omega, by unfold okN; omega⟩
    · refine vc_aload_n dX12_isOf_26 rfl ?_
      refine vc_getI dX12_isOf_27 flX12_177 (s_54 hB0.1.1) rfl ?_
      refine vc_iconst dX12_isOf_30 rfl ?_
      refine vc_icmp_gt dX12_isOf_31 (fun h4 => ?_) (fun h4 => ?_)
      · refine vc_iconst dX12_isOf_38 rfl ?_
        refine vc_goto dX12_isOf_39 ?_
        refine vc_zret dX12_isOf_55 rfl (by first | decide | omega) (Nat.le_of_ble_eq_true rfl) (Nat.le_of_ble_eq_true rfl) ?_
        exact ⟨_, rfl, rfl, by omega, by omega, by unfold okN; omega⟩
      · refine vc_iconst dX12_isOf_34 rfl ?_
        refine vc_goto dX12_isOf_35 ?_
        refine vc_zret dX12_isOf_55 rfl (by first | decide | omega) (Nat.le_of_ble_eq_true rfl) (Nat.le_of_ble_eq_true rfl) ?_
        exact ⟨_, rfl, rfl, by omega, by omega, by unfold okN; omega⟩
  · refine vc_aload_n dX12_isOf_5 rfl ?_
    refine vc_getI dX12_isOf_6 flX12_177 (s_54 hB0.1.1) rfl ?_
    refine vc_iconst dX12_isOf_9 rfl ?_
    refine vc_icmp_ne dX12_isOf_10 (fun h5 => ?_) (fun h5 => ?_)
    · refine vc_iconst dX12_isOf_17 rfl ?_
      refine vc_goto dX12_isOf_18 ?_
      refine vc_zret dX12_isOf_55 rfl (by first | decide | omega) (Nat.le_of_ble_eq_true rfl) (Nat.le_of_ble_eq_true rfl) ?_
      exact ⟨_, rfl, rfl, by omega, by omega, by unfold okN; omega⟩
    · refine vc_iconst dX12_isOf_13 rfl ?_
      refine vc_goto dX12_isOf_14 ?_
      refine vc_zret dX12_isOf_55 rfl (by first | decide | omega) (Nat.le_of_ble_eq_true rfl) (Nat.le_of_ble_eq_true rfl) ?_
      exact ⟨_, rfl, rfl, by omega, by omega, by unfold okN; omega⟩

set_option maxHeartbeats 4000000 in
set_option maxRecDepth 4000 in
theorem sfX12_nameOfF {l : Launch} {M : Mem} (hB : Box M) (g : Nat → Int) (n p : Int) (hT : RT g n M p)   : Call l mdX12_nameOf [aR 54] M (fun q N => ∃ r : Int, q = some (aI r) ∧ M = N ∧ (-1) ≤ r ∧ r ≤ 8 ∧ (r < 0 ∨ mI M 54 11 = 2) ∧ ((0 ≤ r ∧ r ≤ 8 ∧ tk g n p = 128 + r) ∨ (r = -1 ∧ ¬ (128 ≤ tk g n p ∧ tk g n p ≤ 136)))) := by
  have hB0 : BF fQ M M := BF.start hB
  refine Call.of [some (aR 54)] rfl (Nat.le_of_ble_eq_true rfl) rfl ?_
  have rg1 := RT.rg hT
  have hw2 := RT.w2 hT
  refine vc_aload_n dX12_nameOf_0 rfl ?_
  refine vc_getI dX12_nameOf_1 flX12_129 (s_54 hB0.1.1) rfl ?_
  refine vc_iconst dX12_nameOf_4 rfl ?_
  refine vc_icmp_eq dX12_nameOf_5 (fun h2 => ?_) (fun h2 => ?_)
  · have ht2 : mI M 54 11 = 2 := by omega
    refine vc_aload_n dX12_nameOf_10 rfl ?_
    refine vc_getJ dX12_nameOf_11 flX12_142 (s_54 hB0.1.1) rfl ?_
    refine vc_bipush dX12_nameOf_14 rfl ?_
    refine vc_bipush dX12_nameOf_16 rfl ?_
    refine vc_bipush dX12_nameOf_18 rfl ?_
    refine vc_cSL dX12_nameOf_20 (sfX12_w3F (M := M) hB0.1  119 104 111 ) rfl okX12_w3 stX12_w3 lkX12_155 rfl (Nat.le_of_ble_eq_true rfl) ⟨rfl, rfl⟩ (Nat.le_of_ble_eq_true rfl) (Nat.le_of_ble_eq_true rfl) (Nat.le_of_ble_eq_true rfl) ?_
    rintro x3 _ ⟨rfl, h4⟩
    have hw5 : x3 = 7825519 := h4.trans (by decide +kernel)
    have hi0 := RT.iw hT 27 (by decide) pk_27 (t := 128) (by decide)
    refine vc_lif_ne dX12_nameOf_23 dX12_nameOf_24 (fun h6 => ?_) (fun h6 => ?_)
    · have hn0 : tk g n p ≠ 128 := fun e => by have z := hi0.mpr e; omega
      clear hi0
      refine vc_aload_n dX12_nameOf_29 rfl ?_
      refine vc_getJ dX12_nameOf_30 flX12_142 (s_54 hB0.1.1) rfl ?_
      refine vc_bipush dX12_nameOf_33 rfl ?_
      refine vc_bipush dX12_nameOf_35 rfl ?_
      refine vc_bipush dX12_nameOf_37 rfl ?_
      refine vc_bipush dX12_nameOf_39 rfl ?_
      refine vc_cSL dX12_nameOf_41 (sfX12_w4F (M := M) hB0.1  104 101 114 101 ) rfl okX12_w4 stX12_w4 lkX12_159 rfl (Nat.le_of_ble_eq_true rfl) ⟨rfl, rfl⟩ (Nat.le_of_ble_eq_true rfl) (Nat.le_of_ble_eq_true rfl) (Nat.le_of_ble_eq_true rfl) ?_
      rintro x7 _ ⟨rfl, h8⟩
      have hw9 : x7 = 1751478885 := h8.trans (by decide +kernel)
      have hi1 := RT.iw hT 28 (by decide) pk_28 (t := 129) (by decide)
      refine vc_lif_ne dX12_nameOf_44 dX12_nameOf_45 (fun h10 => ?_) (fun h10 => ?_)
      · have hn1 : tk g n p ≠ 129 := fun e => by have z := hi1.mpr e; omega
        clear hi1
        refine vc_aload_n dX12_nameOf_50 rfl ?_
        refine vc_getJ dX12_nameOf_51 flX12_142 (s_54 hB0.1.1) rfl ?_
        refine vc_bipush dX12_nameOf_54 rfl ?_
        refine vc_bipush dX12_nameOf_56 rfl ?_
        refine vc_bipush dX12_nameOf_58 rfl ?_
        refine vc_bipush dX12_nameOf_60 rfl ?_
        refine vc_bipush dX12_nameOf_62 rfl ?_
        refine vc_cSL dX12_nameOf_64 (sfX12_w5F (M := M) hB0.1  97 115 107 101 100 ) rfl okX12_w5 stX12_w5 lkX12_163 rfl (Nat.le_of_ble_eq_true rfl) ⟨rfl, rfl⟩ (Nat.le_of_ble_eq_true rfl) (Nat.le_of_ble_eq_true rfl) (Nat.le_of_ble_eq_true rfl) ?_
        rintro x11 _ ⟨rfl, h12⟩
        have hw13 : x11 = 418548245860 := h12.trans (by decide +kernel)
        have hi2 := RT.iw hT 29 (by decide) pk_29 (t := 130) (by decide)
        refine vc_lif_ne dX12_nameOf_67 dX12_nameOf_68 (fun h14 => ?_) (fun h14 => ?_)
        · have hn2 : tk g n p ≠ 130 := fun e => by have z := hi2.mpr e; omega
          clear hi2
          refine vc_aload_n dX12_nameOf_73 rfl ?_
          refine vc_getJ dX12_nameOf_74 flX12_142 (s_54 hB0.1.1) rfl ?_
          refine vc_bipush dX12_nameOf_77 rfl ?_
          refine vc_bipush dX12_nameOf_79 rfl ?_
          refine vc_bipush dX12_nameOf_81 rfl ?_
          refine vc_bipush dX12_nameOf_83 rfl ?_
          refine vc_bipush dX12_nameOf_85 rfl ?_
          refine vc_cSL dX12_nameOf_87 (sfX12_w5F (M := M) hB0.1  116 117 114 110 115 ) rfl okX12_w5 stX12_w5 lkX12_163 rfl (Nat.le_of_ble_eq_true rfl) ⟨rfl, rfl⟩ (Nat.le_of_ble_eq_true rfl) (Nat.le_of_ble_eq_true rfl) (Nat.le_of_ble_eq_true rfl) ?_
          rintro x15 _ ⟨rfl, h16⟩
          have hw17 : x15 = 500186639987 := h16.trans (by decide +kernel)
          have hi3 := RT.iw hT 30 (by decide) pk_30 (t := 131) (by decide)
          refine vc_lif_ne dX12_nameOf_90 dX12_nameOf_91 (fun h18 => ?_) (fun h18 => ?_)
          · have hn3 : tk g n p ≠ 131 := fun e => by have z := hi3.mpr e; omega
            clear hi3
            refine vc_aload_n dX12_nameOf_96 rfl ?_
            refine vc_getJ dX12_nameOf_97 flX12_142 (s_54 hB0.1.1) rfl ?_
            refine vc_bipush dX12_nameOf_100 rfl ?_
            refine vc_bipush dX12_nameOf_102 rfl ?_
            refine vc_bipush dX12_nameOf_104 rfl ?_
            refine vc_bipush dX12_nameOf_106 rfl ?_
            refine vc_cSL dX12_nameOf_108 (sfX12_w4F (M := M) hB0.1  102 97 99 101 ) rfl okX12_w4 stX12_w4 lkX12_159 rfl (Nat.le_of_ble_eq_true rfl) ⟨rfl, rfl⟩ (Nat.le_of_ble_eq_true rfl) (Nat.le_of_ble_eq_true rfl) (Nat.le_of_ble_eq_true rfl) ?_
            rintro x19 _ ⟨rfl, h20⟩
            have hw21 : x19 = 1717658469 := h20.trans (by decide +kernel)
            have hi4 := RT.iw hT 31 (by decide) pk_31 (t := 132) (by decide)
            refine vc_lif_ne dX12_nameOf_111 dX12_nameOf_112 (fun h22 => ?_) (fun h22 => ?_)
            · have hn4 : tk g n p ≠ 132 := fun e => by have z := hi4.mpr e; omega
              clear hi4
              refine vc_aload_n dX12_nameOf_117 rfl ?_
              refine vc_getJ dX12_nameOf_118 flX12_142 (s_54 hB0.1.1) rfl ?_
              refine vc_bipush dX12_nameOf_121 rfl ?_
              refine vc_bipush dX12_nameOf_123 rfl ?_
              refine vc_bipush dX12_nameOf_125 rfl ?_
              refine vc_bipush dX12_nameOf_127 rfl ?_
              refine vc_cSL dX12_nameOf_129 (sfX12_w4F (M := M) hB0.1  116 111 108 100 ) rfl okX12_w4 stX12_w4 lkX12_159 rfl (Nat.le_of_ble_eq_true rfl) ⟨rfl, rfl⟩ (Nat.le_of_ble_eq_true rfl) (Nat.le_of_ble_eq_true rfl) (Nat.le_of_ble_eq_true rfl) ?_
              rintro x23 _ ⟨rfl, h24⟩
              have hw25 : x23 = 1953459300 := h24.trans (by decide +kernel)
              have hi5 := RT.iw hT 32 (by decide) pk_32 (t := 133) (by decide)
              refine vc_lif_ne dX12_nameOf_132 dX12_nameOf_133 (fun h26 => ?_) (fun h26 => ?_)
              · have hn5 : tk g n p ≠ 133 := fun e => by have z := hi5.mpr e; omega
                clear hi5
                refine vc_aload_n dX12_nameOf_138 rfl ?_
                refine vc_getJ dX12_nameOf_139 flX12_142 (s_54 hB0.1.1) rfl ?_
                refine vc_bipush dX12_nameOf_142 rfl ?_
                refine vc_bipush dX12_nameOf_144 rfl ?_
                refine vc_bipush dX12_nameOf_146 rfl ?_
                refine vc_bipush dX12_nameOf_148 rfl ?_
                refine vc_bipush dX12_nameOf_150 rfl ?_
                refine vc_bipush dX12_nameOf_152 rfl ?_
                refine vc_cSL dX12_nameOf_154 (sfX12_w6F (M := M) hB0.1  110 97 114 114 111 119 ) rfl okX12_w6 stX12_w6 lkX12_173 rfl (Nat.le_of_ble_eq_true rfl) ⟨rfl, rfl⟩ (Nat.le_of_ble_eq_true rfl) (Nat.le_of_ble_eq_true rfl) (Nat.le_of_ble_eq_true rfl) ?_
                rintro x27 _ ⟨rfl, h28⟩
                have hw29 : x27 = 121364810985335 := h28.trans (by decide +kernel)
                have hi6 := RT.iw hT 33 (by decide) pk_33 (t := 134) (by decide)
                refine vc_lif_ne dX12_nameOf_157 dX12_nameOf_158 (fun h30 => ?_) (fun h30 => ?_)
                · have hn6 : tk g n p ≠ 134 := fun e => by have z := hi6.mpr e; omega
                  clear hi6
                  refine vc_aload_n dX12_nameOf_164 rfl ?_
                  refine vc_getJ dX12_nameOf_165 flX12_142 (s_54 hB0.1.1) rfl ?_
                  refine vc_bipush dX12_nameOf_168 rfl ?_
                  refine vc_bipush dX12_nameOf_170 rfl ?_
                  refine vc_bipush dX12_nameOf_172 rfl ?_
                  refine vc_bipush dX12_nameOf_174 rfl ?_
                  refine vc_bipush dX12_nameOf_176 rfl ?_
                  refine vc_cSL dX12_nameOf_178 (sfX12_w5F (M := M) hB0.1  115 105 103 104 116 ) rfl okX12_w5 stX12_w5 lkX12_163 rfl (Nat.le_of_ble_eq_true rfl) ⟨rfl, rfl⟩ (Nat.le_of_ble_eq_true rfl) (Nat.le_of_ble_eq_true rfl) (Nat.le_of_ble_eq_true rfl) ?_
                  rintro x31 _ ⟨rfl, h32⟩
                  have hw33 : x31 = 495689623668 := h32.trans (by decide +kernel)
                  have hi7 := RT.iw hT 34 (by decide) pk_34 (t := 135) (by decide)
                  refine vc_lif_ne dX12_nameOf_181 dX12_nameOf_182 (fun h34 => ?_) (fun h34 => ?_)
                  · have hn7 : tk g n p ≠ 135 := fun e => by have z := hi7.mpr e; omega
                    clear hi7
                    refine vc_aload_n dX12_nameOf_190 rfl ?_
                    refine vc_getJ dX12_nameOf_191 flX12_142 (s_54 hB0.1.1) rfl ?_
                    refine vc_bipush dX12_nameOf_194 rfl ?_
                    refine vc_bipush dX12_nameOf_196 rfl ?_
                    refine vc_bipush dX12_nameOf_198 rfl ?_
                    refine vc_cSL dX12_nameOf_200 (sfX12_w3F (M := M) hB0.1  119 97 121 ) rfl okX12_w3 stX12_w3 lkX12_155 rfl (Nat.le_of_ble_eq_true rfl) ⟨rfl, rfl⟩ (Nat.le_of_ble_eq_true rfl) (Nat.le_of_ble_eq_true rfl) (Nat.le_of_ble_eq_true rfl) ?_
                    rintro x35 _ ⟨rfl, h36⟩
                    have hw37 : x35 = 7823737 := h36.trans (by decide +kernel)
                    have hi8 := RT.iw hT 35 (by decide) pk_35 (t := 136) (by decide)
                    refine vc_lif_ne dX12_nameOf_203 dX12_nameOf_204 (fun h38 => ?_) (fun h38 => ?_)
                    · have hn8 : tk g n p ≠ 136 := fun e => by have z := hi8.mpr e; omega
                      clear hi8
                      refine vc_iconst dX12_nameOf_212 rfl ?_
                      refine vc_iret dX12_nameOf_213 rfl (Nat.le_of_ble_eq_true rfl) (Nat.le_of_ble_eq_true rfl) ?_
                      exact ⟨_, rfl, rfl, by omega, by omega, by omega, Or.inr ⟨rfl, by omega⟩⟩
                    · refine vc_bipush dX12_nameOf_207 rfl ?_
                      refine vc_goto dX12_nameOf_209 ?_
                      refine vc_iret dX12_nameOf_213 rfl (Nat.le_of_ble_eq_true rfl) (Nat.le_of_ble_eq_true rfl) ?_
                      exact ⟨_, rfl, rfl, by omega, by omega, by omega, Or.inl ⟨by decide, by decide, hi8.mp ⟨ht2, by omega⟩⟩⟩
                  · refine vc_bipush dX12_nameOf_185 rfl ?_
                    refine vc_goto dX12_nameOf_187 ?_
                    refine vc_iret dX12_nameOf_213 rfl (Nat.le_of_ble_eq_true rfl) (Nat.le_of_ble_eq_true rfl) ?_
                    exact ⟨_, rfl, rfl, by omega, by omega, by omega, Or.inl ⟨by decide, by decide, hi7.mp ⟨ht2, by omega⟩⟩⟩
                · refine vc_bipush dX12_nameOf_161 rfl ?_
                  refine vc_iret dX12_nameOf_163 rfl (Nat.le_of_ble_eq_true rfl) (Nat.le_of_ble_eq_true rfl) ?_
                  exact ⟨_, rfl, rfl, by omega, by omega, by omega, Or.inl ⟨by decide, by decide, hi6.mp ⟨ht2, by omega⟩⟩⟩
              · refine vc_iconst dX12_nameOf_136 rfl ?_
                refine vc_iret dX12_nameOf_137 rfl (Nat.le_of_ble_eq_true rfl) (Nat.le_of_ble_eq_true rfl) ?_
                exact ⟨_, rfl, rfl, by omega, by omega, by omega, Or.inl ⟨by decide, by decide, hi5.mp ⟨ht2, by omega⟩⟩⟩
            · refine vc_iconst dX12_nameOf_115 rfl ?_
              refine vc_iret dX12_nameOf_116 rfl (Nat.le_of_ble_eq_true rfl) (Nat.le_of_ble_eq_true rfl) ?_
              exact ⟨_, rfl, rfl, by omega, by omega, by omega, Or.inl ⟨by decide, by decide, hi4.mp ⟨ht2, by omega⟩⟩⟩
          · refine vc_iconst dX12_nameOf_94 rfl ?_
            refine vc_iret dX12_nameOf_95 rfl (Nat.le_of_ble_eq_true rfl) (Nat.le_of_ble_eq_true rfl) ?_
            exact ⟨_, rfl, rfl, by omega, by omega, by omega, Or.inl ⟨by decide, by decide, hi3.mp ⟨ht2, by omega⟩⟩⟩
        · refine vc_iconst dX12_nameOf_71 rfl ?_
          refine vc_iret dX12_nameOf_72 rfl (Nat.le_of_ble_eq_true rfl) (Nat.le_of_ble_eq_true rfl) ?_
          exact ⟨_, rfl, rfl, by omega, by omega, by omega, Or.inl ⟨by decide, by decide, hi2.mp ⟨ht2, by omega⟩⟩⟩
      · refine vc_iconst dX12_nameOf_48 rfl ?_
        refine vc_iret dX12_nameOf_49 rfl (Nat.le_of_ble_eq_true rfl) (Nat.le_of_ble_eq_true rfl) ?_
        exact ⟨_, rfl, rfl, by omega, by omega, by omega, Or.inl ⟨by decide, by decide, hi1.mp ⟨ht2, by omega⟩⟩⟩
    · refine vc_iconst dX12_nameOf_27 rfl ?_
      refine vc_iret dX12_nameOf_28 rfl (Nat.le_of_ble_eq_true rfl) (Nat.le_of_ble_eq_true rfl) ?_
      exact ⟨_, rfl, rfl, by omega, by omega, by omega, Or.inl ⟨by decide, by decide, hi0.mp ⟨ht2, by omega⟩⟩⟩
  · refine vc_iconst dX12_nameOf_8 rfl ?_
    refine vc_iret dX12_nameOf_9 rfl (Nat.le_of_ble_eq_true rfl) (Nat.le_of_ble_eq_true rfl) ?_
    exact ⟨_, rfl, rfl, by omega, by omega, by omega, Or.inr ⟨rfl, by omega⟩⟩

theorem sTok_no {k x : Int → Int} {t p : Int} {F : Int → Int × Int} (h : k p ≠ t) : sBind (sTok k x t p) F = (1, p) := by
  unfold sTok; rw [if_neg h]; exact sBind_bad (by show (1 : Int) ≠ 0; decide)
theorem sTok_yes {k x : Int → Int} {t p : Int} {F : Int → Int × Int} (h : k p = t) : sBind (sTok k x t p) F = F (x p) := by
  unfold sTok; rw [if_pos h]; rfl
theorem sNum_1 {k x : Int → Int} {lo hi p : Int} (h : k p < 1000) : sNum k x lo hi p = (1, p) := if_pos h
theorem sNum_2 {k x : Int → Int} {lo hi p : Int} (h : ¬ k p < 1000) (h2 : k p - 1000 < lo ∨ hi < k p - 1000) : sNum k x lo hi p = (2, p) := by
  unfold sNum; rw [if_neg h, if_pos h2]
theorem sNum_0 {k x : Int → Int} {lo hi p : Int} (h : ¬ k p < 1000) (h2 : ¬ (k p - 1000 < lo ∨ hi < k p - 1000)) : sNum k x lo hi p = (0, x p) := by
  unfold sNum; rw [if_neg h, if_neg h2]
theorem sTurn_at {k x : Int → Int} {i p : Int} (h : k p = 119) (h6 : ¬ 6 ≤ i) : sTurn k x i p = sBind (sNum k x 1 5 (x p)) (fun q => sOn k x q) := by
  unfold sTurn; rw [if_pos h, if_neg h6]
theorem sB_p {e q : Int} {F : Int → Int × Int} (h : e ≠ 0) : sBind (e, q) F = (e, q) := sBind_bad h
theorem isw_no {r : Int} {B : Prop} (h : (r = 1 ∧ B) ∨ (r = 0 ∧ ¬ B)) (h0 : r = 0) : ¬ B := by
  rcases h with h | h
  · omega
  · exact h.2
theorem isw_yes {r : Int} {B : Prop} (h : (r = 1 ∧ B) ∨ (r = 0 ∧ ¬ B)) (h0 : r ≠ 0) : B := by
  rcases h with h | h
  · exact h.2
  · exact absurd h.1 h0
theorem sB_0 {q : Int} {F : Int → Int × Int} : sBind (0, q) F = F q := rfl
set_option maxHeartbeats 4000000 in
set_option maxRecDepth 4000 in
theorem sfX12_figureF {l : Launch} {M : Mem} (hB : Box M) (g : Nat → Int) (n p : Int) (hT : RT g n M p) (x : Int) (lo : Int) (hi : Int) (p0 : 1 ≤ x) (p1 : x ≤ 2883) (p2 : 873 * mI M 55 5 ≤ x) (p3 : mI M 54 10 ≤ mI M 54 9) (p4 : mI M 54 11 = 0 ∨ mI M 54 10 < mI M 54 9) (p5 : 0 ≤ lo) (p6 : hi ≤ 9999) : Call l mdX12_figure [aR 54, aI x, aI lo, aI hi] M (fun q N => ∃ r : Int, q = some (aI r) ∧ BF fT M N ∧ mI N 55 = mI M 55 ∧ 0 ≤ r ∧ r ≤ 2 ∧ (r ≠ 0 ∨ (lo ≤ mI N 57 x.toNat ∧ mI N 57 x.toNat ≤ hi)) ∧ mI N 54 10 ≤ mI N 54 9 ∧ (mI N 54 11 = 0 ∨ mI N 54 10 < mI N 54 9) ∧ mI M 54 10 ≤ mI N 54 10 ∧ mI N 54 14 = mI M 54 14 ∧ mI N 54 15 = mI M 54 15 ∧ mI N 54 16 = mI M 54 16 ∧ mI N 54 18 = mI M 54 18 ∧ mI N 54 19 = mI M 54 19 ∧ mI N 54 20 = mI M 54 20 ∧ mI N 54 21 = mI M 54 21 ∧ (∀ j : Nat, j ≠ x.toNat → mI N 57 j = mI M 57 j) ∧ (FR g n N r (sNum (tk g n) (nx g n) lo hi p) ∧ (r = 0 → mI N 57 x.toNat = tk g n p - 1000))) := by
  have hB0 : BF fT M M := BF.start hB
  refine Call.of [some (aR 54), some (aI x), some (aI lo), some (aI hi)] rfl (Nat.le_of_ble_eq_true rfl) rfl ?_
  refine vc_ok (fun hoM hoS hoL => ?_)
  have hr2 : -2147483648 ≤ lo ∧ lo < 2147483648 := hoL 2 _ rfl
  have hr3 : -2147483648 ≤ hi ∧ hi < 2147483648 := hoL 3 _ rfl
  have rg1 := RT.rg hT
  have nm2 := RT.nm hT
  refine vc_aload_n dX12_figure_0 rfl ?_
  refine vc_getI dX12_figure_1 flX12_129 (s_54 hB0.1.1) rfl ?_
  refine vc_iconst dX12_figure_4 rfl ?_
  refine vc_icmp_eq dX12_figure_5 (fun h3 => ?_) (fun h3 => ?_)
  · refine vc_aload_n dX12_figure_10 rfl ?_
    refine vc_getI dX12_figure_11 flX12_135 (s_54 hB0.1.1) rfl ?_
    refine vc_iload_n dX12_figure_14 rfl ?_
    refine vc_iload_n dX12_figure_15 rfl ?_
    refine vc_cSI dX12_figure_16 (sfX12_isInF (M := M) hB0.1  (mI M 54 12) lo hi ) rfl okX12_isIn stX12_isIn lkX12_83 rfl (Nat.le_of_ble_eq_true rfl) ⟨rfl, rfl⟩ (Nat.le_of_ble_eq_true rfl) (Nat.le_of_ble_eq_true rfl) (Nat.le_of_ble_eq_true rfl) ?_
    rintro x4 _ ⟨rfl, h5, h6, h7⟩
    refine vc_if_ne dX12_figure_19 (fun h8 => ?_) (fun h8 => ?_)
    · refine vc_aload_n dX12_figure_24 rfl ?_
      refine vc_getR dX12_figure_25 flX12_16 (s_54 hB0.1.1) rfl (r_54_2 hB0.1.1) ?_
      refine vc_iload_n dX12_figure_28 rfl ?_
      refine vc_aload_n dX12_figure_29 rfl ?_
      refine vc_getI dX12_figure_30 flX12_135 (s_54 hB0.1.1) rfl ?_
      refine vc_iastore dX12_figure_33 (s_57 hB0.1.1) (by omega) (by omega) ?_
      have kp9 : mI (sI M 57 x.toNat (mI M 54 12)) 55 = mI M 55 := (kp_sI rfl rfl)
      have hB10 : BF fT M (sI M 57 x.toNat (mI M 54 12)) := BF.x57 (x := x) hB0 (by omega)
      have fr11 : ∀ j : Nat, j ≠ x.toNat → mI (sI M 57 x.toNat (mI M 54 12)) 57 j = mI M 57 j := fun j hj => by rw [mI_sI, if_neg (fun e => by omega)]
      refine vc_aload_n dX12_figure_34 rfl ?_
      have hgf := RT.gf hT hB10.2.2
      have hat0 := RT.at hT (by omega)
      have hrg0 := RT.rg hT
      have k12 : mI (sI M 57 x.toNat (mI M 54 12)) 54 9 = mI M 54 9 := rfl
      have k13 : mI (sI M 57 x.toNat (mI M 54 12)) 54 10 = mI M 54 10 := rfl
      have k14 : mI (sI M 57 x.toNat (mI M 54 12)) 54 11 = mI M 54 11 := rfl
      have k15 : mI (sI M 57 x.toNat (mI M 54 12)) 54 14 = mI M 54 14 := rfl
      have k16 : mI (sI M 57 x.toNat (mI M 54 12)) 54 15 = mI M 54 15 := rfl
      have k17 : mI (sI M 57 x.toNat (mI M 54 12)) 54 16 = mI M 54 16 := rfl
      have k18 : mI (sI M 57 x.toNat (mI M 54 12)) 54 18 = mI M 54 18 := rfl
      have k19 : mI (sI M 57 x.toNat (mI M 54 12)) 54 19 = mI M 54 19 := rfl
      have k20 : mI (sI M 57 x.toNat (mI M 54 12)) 54 20 = mI M 54 20 := rfl
      have k21 : mI (sI M 57 x.toNat (mI M 54 12)) 54 21 = mI M 54 21 := rfl
      refine vc_cVU dX12_figure_35 (sfX12_nextTokenF (M := (sI M 57 x.toNat (mI M 54 12))) hB10.1   (by first | (rw [hgf.2.1]; omega) | omega) (by first | (rw [hgf.1]; exact hgf.2.2) | assumption)) rfl okX12_nextToken viX12_nextToken lkX12_193 (s_54 hB10.1.1) cl_12 rfl (Nat.le_of_ble_eq_true rfl) ⟨rfl, rfl⟩ (Nat.le_of_ble_eq_true rfl) (Nat.le_of_ble_eq_true rfl) (Nat.le_of_ble_eq_true rfl) ?_
      rintro M22 ⟨hB23, kp24, kp25, kp26, h27, h28, h29, h30, h31, h32, h33, h34, h35, h36, h37⟩
      have hB38 : BF fT M M22 := BF.go hB10 hB23.t
      have kp39 : mI M22 55 = mI M 55 := kp_go kp9 kp24
      have rt40 : RT g n M22 (nx g n p) := by
        have z := h37
        rw [hgf.1, hgf.2.1, show mI (sI M 57 x.toNat (mI M 54 12)) 54 9 = en g n p by first | omega | (show mI M 54 9 = _; omega)] at z
        exact z
      clear hrg0
      have rg41 := RT.rg rt40
      have fr42 : ∀ j : Nat, j ≠ x.toNat → mI M22 57 j = mI M 57 j := fun j hj => (congrFun kp25 j).trans (fr11 j hj)
      have hv57 : mI M22 57 x.toNat = mI M 54 12 := (congrFun kp25 x.toNat).trans mI_same
      refine vc_iconst dX12_figure_38 rfl ?_
      refine vc_iret dX12_figure_39 rfl (Nat.le_of_ble_eq_true rfl) (Nat.le_of_ble_eq_true rfl) ?_
      exact ⟨_, rfl, hB38, kp39, by omega, by omega, by omega, by omega, by omega, by omega, by omega, by omega, by omega, by omega, by omega, by omega, by omega, fr42, ⟨FRo rfl rt40 (sNum_0 (by omega) (by omega)), fun _ => by omega⟩⟩
    · refine vc_iconst dX12_figure_22 rfl ?_
      refine vc_iret dX12_figure_23 rfl (Nat.le_of_ble_eq_true rfl) (Nat.le_of_ble_eq_true rfl) ?_
      exact ⟨_, rfl, hB0, rfl, by omega, by omega, by omega, by omega, by omega, by omega, by omega, by omega, by omega, by omega, by omega, by omega, by omega, (fun _ _ => rfl), ⟨FRb (q := p) (by decide) (by omega) (sNum_2 (by omega) (by omega)), fun hr => absurd hr (by omega)⟩⟩
  · refine vc_iconst dX12_figure_8 rfl ?_
    refine vc_iret dX12_figure_9 rfl (Nat.le_of_ble_eq_true rfl) (Nat.le_of_ble_eq_true rfl) ?_
    exact ⟨_, rfl, hB0, rfl, by omega, by omega, by omega, by omega, by omega, by omega, by omega, by omega, by omega, by omega, by omega, by omega, by omega, (fun _ _ => rfl), ⟨FRb (q := p) (by decide) (by omega) (sNum_1 (by omega)), fun hr => absurd hr (by omega)⟩⟩

set_option maxHeartbeats 4000000 in
set_option maxRecDepth 4000 in
theorem sfX12_wordedF {l : Launch} {M : Mem} (hB : Box M) (g : Nat → Int) (n p : Int) (hT : RT g n M p) (i : Nat) (w : Int) (x : Int) (lo : Int) (hi : Int) (p0 : 1 ≤ x) (p1 : x ≤ 2883) (p2 : 873 * mI M 55 5 ≤ x) (p3 : mI M 54 10 ≤ mI M 54 9) (p4 : mI M 54 11 = 0 ∨ mI M 54 10 < mI M 54 9) (p5 : 0 ≤ lo) (p6 : hi ≤ 9999) (p7 : i < 36) (p8 : w = pkr (WL.getD i []).reverse) : Call l mdX12_worded [aR 54, aL w, aI x, aI lo, aI hi] M (fun q N => ∃ r : Int, q = some (aI r) ∧ BF fT M N ∧ mI N 55 = mI M 55 ∧ 0 ≤ r ∧ r ≤ 2 ∧ (r ≠ 0 ∨ (lo ≤ mI N 57 x.toNat ∧ mI N 57 x.toNat ≤ hi)) ∧ mI N 54 10 ≤ mI N 54 9 ∧ (mI N 54 11 = 0 ∨ mI N 54 10 < mI N 54 9) ∧ mI M 54 10 ≤ mI N 54 10 ∧ mI N 54 14 = mI M 54 14 ∧ mI N 54 15 = mI M 54 15 ∧ mI N 54 16 = mI M 54 16 ∧ mI N 54 18 = mI M 54 18 ∧ mI N 54 19 = mI M 54 19 ∧ mI N 54 20 = mI M 54 20 ∧ mI N 54 21 = mI M 54 21 ∧ (∀ j : Nat, j ≠ x.toNat → mI N 57 j = mI M 57 j) ∧ (FR g n N r (sBind (sTok (tk g n) (nx g n) (101 + (i : Int)) p) (fun q => sNum (tk g n) (nx g n) lo hi q)) ∧ (r = 0 → mI N 57 x.toNat = tk g n (nx g n p) - 1000))) := by
  have hB0 : BF fT M M := BF.start hB
  refine Call.of [some (aR 54), some (aL w), none, some (aI x), some (aI lo), some (aI hi)] rfl (Nat.le_of_ble_eq_true rfl) rfl ?_
  refine vc_ok (fun hoM hoS hoL => ?_)
  have hr4 : -2147483648 ≤ lo ∧ lo < 2147483648 := hoL 4 _ rfl
  have hr5 : -2147483648 ≤ hi ∧ hi < 2147483648 := hoL 5 _ rfl
  have rg1 := RT.rg hT
  refine vc_aload_n dX12_worded_0 rfl ?_
  refine vc_lload_n dX12_worded_1 rfl ?_
  refine vc_cVI dX12_worded_2 (sfX12_isWordF (M := M) hB0.1  w ) rfl okX12_isWord viX12_isWord lkX12_196 (s_54 hB0.1.1) cl_12 rfl (Nat.le_of_ble_eq_true rfl) ⟨rfl, rfl⟩ (Nat.le_of_ble_eq_true rfl) (Nat.le_of_ble_eq_true rfl) (Nat.le_of_ble_eq_true rfl) ?_
  rintro x2 _ ⟨rfl, h3, h4, h5⟩
  have hz6 := isw h5 (RT.iw (t := (101 + (i : Int))) hT i p7 p8 rfl)
  clear h5
  refine vc_if_ne dX12_worded_5 (fun h7 => ?_) (fun h7 => ?_)
  · refine vc_aload_n dX12_worded_10 rfl ?_
    have hgf := RT.gf hT hB0.2.2
    have hat0 := RT.at hT (by omega)
    have hrg0 := RT.rg hT
    refine vc_cVU dX12_worded_11 (sfX12_nextTokenF (M := M) hB0.1   (by first | (rw [hgf.2.1]; omega) | omega) (by first | (rw [hgf.1]; exact hgf.2.2) | assumption)) rfl okX12_nextToken viX12_nextToken lkX12_193 (s_54 hB0.1.1) cl_12 rfl (Nat.le_of_ble_eq_true rfl) ⟨rfl, rfl⟩ (Nat.le_of_ble_eq_true rfl) (Nat.le_of_ble_eq_true rfl) (Nat.le_of_ble_eq_true rfl) ?_
    rintro M8 ⟨hB9, kp10, kp11, kp12, h13, h14, h15, h16, h17, h18, h19, h20, h21, h22, h23⟩
    have hB24 : BF fT M M8 := BF.go hB0 hB9.t
    have kp25 : mI M8 55 = mI M 55 := kp_go rfl kp10
    have rt26 : RT g n M8 (nx g n p) := by
      have z := h23
      rw [hgf.1, hgf.2.1, show mI M 54 9 = en g n p by first | omega | (show mI M 54 9 = _; omega)] at z
      exact z
    clear hrg0
    have rg27 := RT.rg rt26
    have fr28 : ∀ j : Nat, j ≠ x.toNat → mI M8 57 j = mI M 57 j := fun j hj => (congrFun kp11 j).trans ((fun _ _ => rfl) j hj)
    refine vc_aload_n dX12_worded_14 rfl ?_
    refine vc_iload_n dX12_worded_15 rfl ?_
    refine vc_iload dX12_worded_16 rfl ?_
    refine vc_iload dX12_worded_18 rfl ?_
    have hz5 := congrFun kp25 5
    refine vc_cVI dX12_worded_20 (sfX12_figureF (M := M8) hB24.1  g n (nx g n p) rt26 x lo hi (by omega) (by omega) (by omega) (by omega) (by omega) (by omega) (by omega)) rfl okX12_figure viX12_figure lkX12_229 (s_54 hB24.1.1) cl_12 rfl (Nat.le_of_ble_eq_true rfl) ⟨rfl, rfl⟩ (Nat.le_of_ble_eq_true rfl) (Nat.le_of_ble_eq_true rfl) (Nat.le_of_ble_eq_true rfl) ?_
    rintro x29 M30 ⟨hB31, kp32, h33, h34, h35, h36, h37, h38, h39, h40, h41, h42, h43, h44, h45, h46, h47⟩
    have hB48 : BF fT M M30 := BF.go hB24 hB31
    have kp49 : mI M30 55 = mI M 55 := kp_go kp25 kp32
    have hF50 : FR g n M30 x29 (sNum (tk g n) (nx g n) lo hi (nx g n p)) := h47.1
    have fr51 : ∀ j : Nat, j ≠ x.toNat → mI M30 57 j = mI M 57 j := fun j hj => (h46 j hj).trans (fr28 j hj)
    refine vc_iret dX12_worded_23 rfl (Nat.le_of_ble_eq_true rfl) (Nat.le_of_ble_eq_true rfl) ?_
    exact ⟨_, rfl, hB48, kp49, by omega, by omega, by omega, by omega, by omega, by omega, by omega, by omega, by omega, by omega, by omega, by omega, by omega, fr51, ⟨(by rw [sTok_yes (by omega)]; exact FR.cast hF50 (by omega)), fun hr => h47.2 (by omega)⟩⟩
  · refine vc_iconst dX12_worded_8 rfl ?_
    refine vc_iret dX12_worded_9 rfl (Nat.le_of_ble_eq_true rfl) (Nat.le_of_ble_eq_true rfl) ?_
    exact ⟨_, rfl, hB0, rfl, by omega, by omega, by omega, by omega, by omega, by omega, by omega, by omega, by omega, by omega, by omega, by omega, by omega, (fun _ _ => rfl), ⟨FRb (q := p) (by decide) (by omega) (sTok_no (by omega)), fun hr => absurd hr (by omega)⟩⟩

set_option maxHeartbeats 4000000 in
set_option maxRecDepth 4000 in
theorem sfX12_sideOfF {l : Launch} {M : Mem} (hB : Box M) (g : Nat → Int) (n p : Int) (hT : RT g n M p) (i : Nat) (w : Int) (p0 : i < 36) (p1 : w = pkr (WL.getD i []).reverse) : Call l mdX12_sideOf [aR 54, aL w] M (fun q N => ∃ r : Int, q = some (aI r) ∧ M = N ∧ 0 ≤ r ∧ r ≤ 3 ∧ ((r = 1 ∧ tk g n p = 124) ∨ (r = 2 ∧ tk g n p = 125) ∨ (r = 3 ∧ tk g n p = 101 + (i : Int)) ∨ (r = 0 ∧ tk g n p ≠ 124 ∧ tk g n p ≠ 125 ∧ tk g n p ≠ 101 + (i : Int)))) := by
  have hB0 : BF fQ M M := BF.start hB
  refine Call.of [some (aR 54), some (aL w), none] rfl (Nat.le_of_ble_eq_true rfl) rfl ?_
  have rg1 := RT.rg hT
  refine vc_aload_n dX12_sideOf_0 rfl ?_
  refine vc_bipush dX12_sideOf_1 rfl ?_
  refine vc_bipush dX12_sideOf_3 rfl ?_
  refine vc_bipush dX12_sideOf_5 rfl ?_
  refine vc_bipush dX12_sideOf_7 rfl ?_
  refine vc_cSL dX12_sideOf_9 (sfX12_w4F (M := M) hB0.1  108 101 102 116 ) rfl okX12_w4 stX12_w4 lkX12_159 rfl (Nat.le_of_ble_eq_true rfl) ⟨rfl, rfl⟩ (Nat.le_of_ble_eq_true rfl) (Nat.le_of_ble_eq_true rfl) (Nat.le_of_ble_eq_true rfl) ?_
  rintro x2 _ ⟨rfl, h3⟩
  have hw4 : x2 = 1818584692 := h3.trans (by decide +kernel)
  refine vc_cVI dX12_sideOf_12 (sfX12_isWordF (M := M) hB0.1  x2 ) rfl okX12_isWord viX12_isWord lkX12_196 (s_54 hB0.1.1) cl_12 rfl (Nat.le_of_ble_eq_true rfl) ⟨rfl, rfl⟩ (Nat.le_of_ble_eq_true rfl) (Nat.le_of_ble_eq_true rfl) (Nat.le_of_ble_eq_true rfl) ?_
  rintro x5 _ ⟨rfl, h6, h7, h8⟩
  have hz9 := isw h8 (RT.iw hT 23 (by decide) (hw4.trans pk_23) (t := 124) (by decide))
  clear h8
  refine vc_if_eq dX12_sideOf_15 (fun h10 => ?_) (fun h10 => ?_)
  · refine vc_aload_n dX12_sideOf_22 rfl ?_
    refine vc_bipush dX12_sideOf_23 rfl ?_
    refine vc_bipush dX12_sideOf_25 rfl ?_
    refine vc_bipush dX12_sideOf_27 rfl ?_
    refine vc_bipush dX12_sideOf_29 rfl ?_
    refine vc_bipush dX12_sideOf_31 rfl ?_
    refine vc_cSL dX12_sideOf_33 (sfX12_w5F (M := M) hB0.1  114 105 103 104 116 ) rfl okX12_w5 stX12_w5 lkX12_163 rfl (Nat.le_of_ble_eq_true rfl) ⟨rfl, rfl⟩ (Nat.le_of_ble_eq_true rfl) (Nat.le_of_ble_eq_true rfl) (Nat.le_of_ble_eq_true rfl) ?_
    rintro x11 _ ⟨rfl, h12⟩
    have hw13 : x11 = 491394656372 := h12.trans (by decide +kernel)
    refine vc_cVI dX12_sideOf_36 (sfX12_isWordF (M := M) hB0.1  x11 ) rfl okX12_isWord viX12_isWord lkX12_196 (s_54 hB0.1.1) cl_12 rfl (Nat.le_of_ble_eq_true rfl) ⟨rfl, rfl⟩ (Nat.le_of_ble_eq_true rfl) (Nat.le_of_ble_eq_true rfl) (Nat.le_of_ble_eq_true rfl) ?_
    rintro x14 _ ⟨rfl, h15, h16, h17⟩
    have hz18 := isw h17 (RT.iw hT 24 (by decide) (hw13.trans pk_24) (t := 125) (by decide))
    clear h17
    refine vc_if_eq dX12_sideOf_39 (fun h19 => ?_) (fun h19 => ?_)
    · refine vc_aload_n dX12_sideOf_46 rfl ?_
      refine vc_lload_n dX12_sideOf_47 rfl ?_
      refine vc_cVI dX12_sideOf_48 (sfX12_isWordF (M := M) hB0.1  w ) rfl okX12_isWord viX12_isWord lkX12_196 (s_54 hB0.1.1) cl_12 rfl (Nat.le_of_ble_eq_true rfl) ⟨rfl, rfl⟩ (Nat.le_of_ble_eq_true rfl) (Nat.le_of_ble_eq_true rfl) (Nat.le_of_ble_eq_true rfl) ?_
      rintro x20 _ ⟨rfl, h21, h22, h23⟩
      have hz24 := isw h23 (RT.iw (t := (101 + (i : Int))) hT i p0 p1 rfl)
      clear h23
      refine vc_if_eq dX12_sideOf_51 (fun h25 => ?_) (fun h25 => ?_)
      · refine vc_iconst dX12_sideOf_58 rfl ?_
        refine vc_iret dX12_sideOf_59 rfl (Nat.le_of_ble_eq_true rfl) (Nat.le_of_ble_eq_true rfl) ?_
        exact ⟨_, rfl, rfl, by omega, by omega, by omega⟩
      · refine vc_iconst dX12_sideOf_54 rfl ?_
        refine vc_goto dX12_sideOf_55 ?_
        refine vc_iret dX12_sideOf_59 rfl (Nat.le_of_ble_eq_true rfl) (Nat.le_of_ble_eq_true rfl) ?_
        exact ⟨_, rfl, rfl, by omega, by omega, by omega⟩
    · refine vc_iconst dX12_sideOf_42 rfl ?_
      refine vc_goto dX12_sideOf_43 ?_
      refine vc_iret dX12_sideOf_59 rfl (Nat.le_of_ble_eq_true rfl) (Nat.le_of_ble_eq_true rfl) ?_
      exact ⟨_, rfl, rfl, by omega, by omega, by omega⟩
  · refine vc_iconst dX12_sideOf_18 rfl ?_
    refine vc_goto dX12_sideOf_19 ?_
    refine vc_iret dX12_sideOf_59 rfl (Nat.le_of_ble_eq_true rfl) (Nat.le_of_ble_eq_true rfl) ?_
    exact ⟨_, rfl, rfl, by omega, by omega, by omega⟩

set_option maxHeartbeats 4000000 in
set_option maxRecDepth 4000 in
theorem sfX12_streetClauseF {l : Launch} {M : Mem} (hB : Box M) (g : Nat → Int) (n p : Int) (hT : RT g n M p) (x : Int) (p0 : 1 ≤ x) (p1 : x ≤ 2873) (p2 : mI M 54 14 = 873 * mI M 55 5) (p3 : mI M 54 14 + 1 ≤ x) (p4 : mI M 54 10 ≤ mI M 54 9) (p5 : mI M 54 11 = 0 ∨ mI M 54 10 < mI M 54 9) : Call l mdX12_streetClause [aR 54, aI x] M (fun q N => ∃ r : Int, q = some (aI r) ∧ BF fT M N ∧ mI N 55 = mI M 55 ∧ 0 ≤ r ∧ r ≤ 2 ∧ mI N 54 10 ≤ mI N 54 9 ∧ (mI N 54 11 = 0 ∨ mI N 54 10 < mI N 54 9) ∧ mI M 54 10 ≤ mI N 54 10 ∧ mI N 54 14 = mI M 54 14 ∧ mI N 54 15 = mI M 54 15 ∧ mI N 54 16 = mI M 54 16 ∧ mI N 54 18 = mI M 54 18 ∧ mI N 54 19 = mI M 54 19 ∧ mI N 54 20 = mI M 54 20 ∧ mI N 54 21 = mI M 54 21 ∧ (∀ j : Nat, ((j : Int) ≤ x ∨ x + 11 ≤ j) → mI N 57 j = mI M 57 j) ∧ (FR g n N r (sBind (sNum (tk g n) (nx g n) 0 15 p) (fun q => sBind (sNum (tk g n) (nx g n) 0 3 q) (fun q => sBind (sTok (tk g n) (nx g n) 117 q) (fun q => sNum (tk g n) (nx g n) 0 15 q)))) ∧ (r = 0 → mI N 57 (x + 1).toNat = tk g n p - 1000 ∧ mI N 57 (x + 2).toNat = tk g n (nx g n p) - 1000 ∧ mI N 57 (x + 3).toNat = tk g n (nx g n (nx g n (nx g n p))) - 1000))) := by
  have hB0 : BF fT M M := BF.start hB
  refine Call.of [some (aR 54), some (aI x), none] rfl (Nat.le_of_ble_eq_true rfl) rfl ?_
  have rg1 := RT.rg hT
  refine vc_aload_n dX12_streetClause_0 rfl ?_
  refine vc_iload_n dX12_streetClause_1 rfl ?_
  refine vc_iconst dX12_streetClause_2 rfl ?_
  refine vc_iaddE dX12_streetClause_3 (by omega) (by omega) ?_
  refine vc_iconst dX12_streetClause_4 rfl ?_
  refine vc_bipush dX12_streetClause_5 rfl ?_
  refine vc_cVI dX12_streetClause_7 (sfX12_figureF (M := M) hB0.1  g n p hT (x + 1) 0 15 (by omega) (by omega) (by omega) (by omega) (by omega) (by omega) (by omega)) rfl okX12_figure viX12_figure lkX12_229 (s_54 hB0.1.1) cl_12 rfl (Nat.le_of_ble_eq_true rfl) ⟨rfl, rfl⟩ (Nat.le_of_ble_eq_true rfl) (Nat.le_of_ble_eq_true rfl) (Nat.le_of_ble_eq_true rfl) ?_
  rintro x2 M3 ⟨hB4, kp5, h6, h7, h8, h9, h10, h11, h12, h13, h14, h15, h16, h17, h18, h19, h20⟩
  have hB21 : BF fT M M3 := BF.go hB0 hB4
  have kp22 : mI M3 55 = mI M 55 := kp_go rfl kp5
  have hF23 : FR g n M3 x2 (sNum (tk g n) (nx g n) 0 15 p) := h20.1
  have fr24 : ∀ j : Nat, ((j : Int) ≤ x ∨ x + 11 ≤ j) → mI M3 57 j = mI M 57 j := fun j hj => (h19 j (by omega)).trans ((fun _ _ => rfl) j hj)
  refine vc_istore_n dX12_streetClause_10 (by decide) rfl (show _ = [some (aR 54), some (aI x), some (aI x2)] from rfl) ?_
  refine vc_iload_n dX12_streetClause_11 rfl ?_
  refine vc_if_ne dX12_streetClause_12 (fun h25 => ?_) (fun h25 => ?_)
  · refine vc_iload_n dX12_streetClause_25 rfl ?_
    refine vc_if_eq dX12_streetClause_26 (fun h26 => by exfalso; omega) (fun h26 => ?_)
    refine vc_iload_n dX12_streetClause_29 rfl ?_
    refine vc_goto dX12_streetClause_30 ?_
    refine vc_iret dX12_streetClause_50 rfl (Nat.le_of_ble_eq_true rfl) (Nat.le_of_ble_eq_true rfl) ?_
    exact ⟨_, rfl, hB21, kp22, by omega, by omega, by omega, by omega, by omega, by omega, by omega, by omega, by omega, by omega, by omega, by omega, fr24, ⟨FR.b_bad hF23 (by omega) (by omega), fun hr => absurd hr (by omega)⟩⟩
  · have e27 := FR.ok hF23 (by omega)
    refine vc_aload_n dX12_streetClause_15 rfl ?_
    refine vc_iload_n dX12_streetClause_16 rfl ?_
    refine vc_iconst dX12_streetClause_17 rfl ?_
    refine vc_iaddE dX12_streetClause_18 (by omega) (by omega) ?_
    refine vc_iconst dX12_streetClause_19 rfl ?_
    refine vc_iconst dX12_streetClause_20 rfl ?_
    have hz5 := congrFun kp22 5
    refine vc_cVI dX12_streetClause_21 (sfX12_figureF (M := M3) hB21.1  g n ((sNum (tk g n) (nx g n) 0 15 p).2) e27.2 (x + 2) 0 3 (by omega) (by omega) (by omega) (by omega) (by omega) (by omega) (by omega)) rfl okX12_figure viX12_figure lkX12_229 (s_54 hB21.1.1) cl_12 rfl (Nat.le_of_ble_eq_true rfl) ⟨rfl, rfl⟩ (Nat.le_of_ble_eq_true rfl) (Nat.le_of_ble_eq_true rfl) (Nat.le_of_ble_eq_true rfl) ?_
    rintro x28 M29 ⟨hB30, kp31, h32, h33, h34, h35, h36, h37, h38, h39, h40, h41, h42, h43, h44, h45, h46⟩
    have hB47 : BF fT M M29 := BF.go hB21 hB30
    have kp48 : mI M29 55 = mI M 55 := kp_go kp22 kp31
    have hF49 : FR g n M29 x28 (sNum (tk g n) (nx g n) 0 3 ((sNum (tk g n) (nx g n) 0 15 p).2)) := h46.1
    have fr50 : ∀ j : Nat, ((j : Int) ≤ x ∨ x + 11 ≤ j) → mI M29 57 j = mI M 57 j := fun j hj => (h45 j (by omega)).trans (fr24 j hj)
    refine vc_istore_n dX12_streetClause_24 (by decide) rfl (show _ = [some (aR 54), some (aI x), some (aI x28)] from rfl) ?_
    refine vc_iload_n dX12_streetClause_25 rfl ?_
    refine vc_if_eq dX12_streetClause_26 (fun h51 => ?_) (fun h51 => ?_)
    · have e52 := FR.ok hF49 (by omega)
      refine vc_aload_n dX12_streetClause_33 rfl ?_
      refine vc_bipush dX12_streetClause_34 rfl ?_
      refine vc_bipush dX12_streetClause_36 rfl ?_
      refine vc_cSL dX12_streetClause_38 (sfX12_w2F (M := M29) hB47.1  116 111 ) rfl okX12_w2 stX12_w2 lkX12_151 rfl (Nat.le_of_ble_eq_true rfl) ⟨rfl, rfl⟩ (Nat.le_of_ble_eq_true rfl) (Nat.le_of_ble_eq_true rfl) (Nat.le_of_ble_eq_true rfl) ?_
      rintro x53 _ ⟨rfl, h54⟩
      have hw55 : x53 = 29807 := h54.trans (by decide +kernel)
      refine vc_iload_n dX12_streetClause_41 rfl ?_
      refine vc_iconst dX12_streetClause_42 rfl ?_
      refine vc_iaddE dX12_streetClause_43 (by omega) (by omega) ?_
      refine vc_iconst dX12_streetClause_44 rfl ?_
      refine vc_bipush dX12_streetClause_45 rfl ?_
      have hz5 := congrFun kp48 5
      refine vc_cVI dX12_streetClause_47 (sfX12_wordedF (M := M29) hB47.1  g n ((sNum (tk g n) (nx g n) 0 3 ((sNum (tk g n) (nx g n) 0 15 p).2)).2) e52.2 16 x53 (x + 3) 0 15 (by omega) (by omega) (by omega) (by omega) (by omega) (by omega) (by omega) (by decide) (by exact hw55.trans pk_16)) rfl okX12_worded viX12_worded lkX12_233 (s_54 hB47.1.1) cl_12 rfl (Nat.le_of_ble_eq_true rfl) ⟨rfl, rfl⟩ (Nat.le_of_ble_eq_true rfl) (Nat.le_of_ble_eq_true rfl) (Nat.le_of_ble_eq_true rfl) ?_
      rintro x56 M57 ⟨hB58, kp59, h60, h61, h62, h63, h64, h65, h66, h67, h68, h69, h70, h71, h72, h73, h74⟩
      have hB75 : BF fT M M57 := BF.go hB47 hB58
      have kp76 : mI M57 55 = mI M 55 := kp_go kp48 kp59
      have hF77 : FR g n M57 x56 (sBind (sTok (tk g n) (nx g n) 117 ((sNum (tk g n) (nx g n) 0 3 ((sNum (tk g n) (nx g n) 0 15 p).2)).2)) (fun q => sNum (tk g n) (nx g n) 0 15 q)) := h74.1
      have fr78 : ∀ j : Nat, ((j : Int) ≤ x ∨ x + 11 ≤ j) → mI M57 57 j = mI M 57 j := fun j hj => (h73 j (by omega)).trans (fr50 j hj)
      refine vc_iret dX12_streetClause_50 rfl (Nat.le_of_ble_eq_true rfl) (Nat.le_of_ble_eq_true rfl) ?_
      have hp0 := (sNum_ok e27.1).1
      have hp1 := (sNum_ok e52.1).1
      exact ⟨_, rfl, hB75, kp76, by omega, by omega, by omega, by omega, by omega, by omega, by omega, by omega, by omega, by omega, by omega, by omega, fr78, ⟨FR.b_ok hF23 (by omega) (FR.b_ok hF49 (by omega) (FR.cast hF77 (by omega))), fun hr => ⟨(((h73 (x + 1).toNat (by omega)).trans (h45 (x + 1).toNat (by omega))).trans (h20.2 (by omega))), by rw [← hp0]; exact ((h73 (x + 2).toNat (by omega)).trans (h46.2 (by omega))), by rw [← hp0, ← hp1]; exact (h74.2 (by omega))⟩⟩⟩
    · refine vc_iload_n dX12_streetClause_29 rfl ?_
      refine vc_goto dX12_streetClause_30 ?_
      refine vc_iret dX12_streetClause_50 rfl (Nat.le_of_ble_eq_true rfl) (Nat.le_of_ble_eq_true rfl) ?_
      exact ⟨_, rfl, hB47, kp48, by omega, by omega, by omega, by omega, by omega, by omega, by omega, by omega, by omega, by omega, by omega, by omega, fr50, ⟨FR.b_ok hF23 (by omega) (FR.b_bad hF49 (by omega) (by omega)), fun hr => absurd hr (by omega)⟩⟩

set_option maxHeartbeats 4000000 in
set_option maxRecDepth 4000 in
theorem sfX12_startClauseF {l : Launch} {M : Mem} (hB : Box M) (g : Nat → Int) (n p : Int) (hT : RT g n M p) (x : Int) (p0 : 1 ≤ x) (p1 : x ≤ 2873) (p2 : mI M 54 14 = 873 * mI M 55 5) (p3 : mI M 54 14 + 1 ≤ x) (p4 : mI M 54 10 ≤ mI M 54 9) (p5 : mI M 54 11 = 0 ∨ mI M 54 10 < mI M 54 9) : Call l mdX12_startClause [aR 54, aI x] M (fun q N => ∃ r : Int, q = some (aI r) ∧ BF fT M N ∧ mI N 55 = mI M 55 ∧ 0 ≤ r ∧ r ≤ 2 ∧ mI N 54 10 ≤ mI N 54 9 ∧ (mI N 54 11 = 0 ∨ mI N 54 10 < mI N 54 9) ∧ mI M 54 10 ≤ mI N 54 10 ∧ mI N 54 14 = mI M 54 14 ∧ mI N 54 15 = mI M 54 15 ∧ mI N 54 16 = mI M 54 16 ∧ mI N 54 18 = mI M 54 18 ∧ mI N 54 19 = mI M 54 19 ∧ mI N 54 20 = mI M 54 20 ∧ mI N 54 21 = mI M 54 21 ∧ (∀ j : Nat, ((j : Int) ≤ x ∨ x + 11 ≤ j) → mI N 57 j = mI M 57 j) ∧ (FR g n N r (sBind (sNum (tk g n) (nx g n) 0 15 p) (fun q => sFac (tk g n) (nx g n) q)) ∧ (r = 0 → mI N 57 (x + 1).toNat = tk g n p - 1000 ∧ mI N 57 (x + 2).toNat = tk g n (nx g n (nx g n p)) - 1000))) := by
  have hB0 : BF fT M M := BF.start hB
  refine Call.of [some (aR 54), some (aI x), none] rfl (Nat.le_of_ble_eq_true rfl) rfl ?_
  have rg1 := RT.rg hT
  refine vc_aload_n dX12_startClause_0 rfl ?_
  refine vc_iload_n dX12_startClause_1 rfl ?_
  refine vc_iconst dX12_startClause_2 rfl ?_
  refine vc_iaddE dX12_startClause_3 (by omega) (by omega) ?_
  refine vc_iconst dX12_startClause_4 rfl ?_
  refine vc_bipush dX12_startClause_5 rfl ?_
  refine vc_cVI dX12_startClause_7 (sfX12_figureF (M := M) hB0.1  g n p hT (x + 1) 0 15 (by omega) (by omega) (by omega) (by omega) (by omega) (by omega) (by omega)) rfl okX12_figure viX12_figure lkX12_229 (s_54 hB0.1.1) cl_12 rfl (Nat.le_of_ble_eq_true rfl) ⟨rfl, rfl⟩ (Nat.le_of_ble_eq_true rfl) (Nat.le_of_ble_eq_true rfl) (Nat.le_of_ble_eq_true rfl) ?_
  rintro x2 M3 ⟨hB4, kp5, h6, h7, h8, h9, h10, h11, h12, h13, h14, h15, h16, h17, h18, h19, h20⟩
  have hB21 : BF fT M M3 := BF.go hB0 hB4
  have kp22 : mI M3 55 = mI M 55 := kp_go rfl kp5
  have hF23 : FR g n M3 x2 (sNum (tk g n) (nx g n) 0 15 p) := h20.1
  have fr24 : ∀ j : Nat, ((j : Int) ≤ x ∨ x + 11 ≤ j) → mI M3 57 j = mI M 57 j := fun j hj => (h19 j (by omega)).trans ((fun _ _ => rfl) j hj)
  refine vc_istore_n dX12_startClause_10 (by decide) rfl (show _ = [some (aR 54), some (aI x), some (aI x2)] from rfl) ?_
  refine vc_iload_n dX12_startClause_11 rfl ?_
  refine vc_if_eq dX12_startClause_12 (fun h25 => ?_) (fun h25 => ?_)
  · have e26 := FR.ok hF23 (by omega)
    refine vc_aload_n dX12_startClause_19 rfl ?_
    refine vc_bipush dX12_startClause_20 rfl ?_
    refine vc_bipush dX12_startClause_22 rfl ?_
    refine vc_bipush dX12_startClause_24 rfl ?_
    refine vc_bipush dX12_startClause_26 rfl ?_
    refine vc_bipush dX12_startClause_28 rfl ?_
    refine vc_bipush dX12_startClause_30 rfl ?_
    refine vc_cSL dX12_startClause_32 (sfX12_w6F (M := M3) hB21.1  102 97 99 105 110 103 ) rfl okX12_w6 stX12_w6 lkX12_173 rfl (Nat.le_of_ble_eq_true rfl) ⟨rfl, rfl⟩ (Nat.le_of_ble_eq_true rfl) (Nat.le_of_ble_eq_true rfl) (Nat.le_of_ble_eq_true rfl) ?_
    rintro x27 _ ⟨rfl, h28⟩
    have hw29 : x27 = 112568465714791 := h28.trans (by decide +kernel)
    refine vc_iload_n dX12_startClause_35 rfl ?_
    refine vc_iconst dX12_startClause_36 rfl ?_
    refine vc_iaddE dX12_startClause_37 (by omega) (by omega) ?_
    refine vc_iconst dX12_startClause_38 rfl ?_
    refine vc_iconst dX12_startClause_39 rfl ?_
    have hz5 := congrFun kp22 5
    refine vc_cVI dX12_startClause_40 (sfX12_wordedF (M := M3) hB21.1  g n ((sNum (tk g n) (nx g n) 0 15 p).2) e26.2 17 x27 (x + 2) 0 3 (by omega) (by omega) (by omega) (by omega) (by omega) (by omega) (by omega) (by decide) (by exact hw29.trans pk_17)) rfl okX12_worded viX12_worded lkX12_233 (s_54 hB21.1.1) cl_12 rfl (Nat.le_of_ble_eq_true rfl) ⟨rfl, rfl⟩ (Nat.le_of_ble_eq_true rfl) (Nat.le_of_ble_eq_true rfl) (Nat.le_of_ble_eq_true rfl) ?_
    rintro x30 M31 ⟨hB32, kp33, h34, h35, h36, h37, h38, h39, h40, h41, h42, h43, h44, h45, h46, h47, h48⟩
    have hB49 : BF fT M M31 := BF.go hB21 hB32
    have kp50 : mI M31 55 = mI M 55 := kp_go kp22 kp33
    have hF51 : FR g n M31 x30 (sFac (tk g n) (nx g n) ((sNum (tk g n) (nx g n) 0 15 p).2)) := h48.1
    have fr52 : ∀ j : Nat, ((j : Int) ≤ x ∨ x + 11 ≤ j) → mI M31 57 j = mI M 57 j := fun j hj => (h47 j (by omega)).trans (fr24 j hj)
    refine vc_iret dX12_startClause_43 rfl (Nat.le_of_ble_eq_true rfl) (Nat.le_of_ble_eq_true rfl) ?_
    have hp0 := (sNum_ok e26.1).1
    exact ⟨_, rfl, hB49, kp50, by omega, by omega, by omega, by omega, by omega, by omega, by omega, by omega, by omega, by omega, by omega, by omega, fr52, ⟨FR.b_ok hF23 (by omega) (FR.cast hF51 (by omega)), fun hr => ⟨((h47 (x + 1).toNat (by omega)).trans (h20.2 (by omega))), by rw [← hp0]; exact (h48.2 (by omega))⟩⟩⟩
  · refine vc_iload_n dX12_startClause_15 rfl ?_
    refine vc_goto dX12_startClause_16 ?_
    refine vc_iret dX12_startClause_43 rfl (Nat.le_of_ble_eq_true rfl) (Nat.le_of_ble_eq_true rfl) ?_
    exact ⟨_, rfl, hB21, kp22, by omega, by omega, by omega, by omega, by omega, by omega, by omega, by omega, by omega, by omega, by omega, by omega, fr24, ⟨FR.b_bad hF23 (by omega) (by omega), fun hr => absurd hr (by omega)⟩⟩

set_option maxHeartbeats 4000000 in
set_option maxRecDepth 4000 in
theorem sfX12_turnClauseF {l : Launch} {M : Mem} (hB : Box M) (g : Nat → Int) (n p : Int) (hT : RT g n M p) (x : Int) (p0 : 1 ≤ x) (p1 : x ≤ 2873) (p2 : mI M 54 14 = 873 * mI M 55 5) (p3 : mI M 54 14 + 1 ≤ x) (p4 : mI M 54 10 ≤ mI M 54 9) (p5 : mI M 54 11 = 0 ∨ mI M 54 10 < mI M 54 9) : Call l mdX12_turnClause [aR 54, aI x] M (fun q N => ∃ r : Int, q = some (aI r) ∧ BF fT M N ∧ mI N 55 = mI M 55 ∧ 0 ≤ r ∧ r ≤ 1 ∧ mI N 54 10 ≤ mI N 54 9 ∧ (mI N 54 11 = 0 ∨ mI N 54 10 < mI N 54 9) ∧ mI M 54 10 ≤ mI N 54 10 ∧ mI N 54 14 = mI M 54 14 ∧ mI N 54 15 = mI M 54 15 ∧ mI N 54 16 = mI M 54 16 ∧ mI N 54 18 = mI M 54 18 ∧ mI N 54 19 = mI M 54 19 ∧ mI N 54 20 = mI M 54 20 ∧ mI N 54 21 = mI M 54 21 ∧ (∀ j : Nat, ((j : Int) ≤ x ∨ x + 11 ≤ j) → mI N 57 j = mI M 57 j) ∧ (FR g n N r (sSide (tk g n) (nx g n) p) ∧ (r = 0 → mI N 57 (x + 1).toNat = rw1 (tk g n) 13 p))) := by
  have hB0 : BF fT M M := BF.start hB
  refine Call.of [some (aR 54), some (aI x), none] rfl (Nat.le_of_ble_eq_true rfl) rfl ?_
  have rg1 := RT.rg hT
  refine vc_aload_n dX12_turnClause_0 rfl ?_
  refine vc_bipush dX12_turnClause_1 rfl ?_
  refine vc_bipush dX12_turnClause_3 rfl ?_
  refine vc_bipush dX12_turnClause_5 rfl ?_
  refine vc_bipush dX12_turnClause_7 rfl ?_
  refine vc_cSL dX12_turnClause_9 (sfX12_w4F (M := M) hB0.1  98 97 99 107 ) rfl okX12_w4 stX12_w4 lkX12_159 rfl (Nat.le_of_ble_eq_true rfl) ⟨rfl, rfl⟩ (Nat.le_of_ble_eq_true rfl) (Nat.le_of_ble_eq_true rfl) (Nat.le_of_ble_eq_true rfl) ?_
  rintro x2 _ ⟨rfl, h3⟩
  have hw4 : x2 = 1650549611 := h3.trans (by decide +kernel)
  refine vc_cVI dX12_turnClause_12 (sfX12_sideOfF (M := M) hB0.1  g n p hT 26 x2 (by decide) (by exact hw4.trans pk_26)) rfl okX12_sideOf viX12_sideOf lkX12_237 (s_54 hB0.1.1) cl_12 rfl (Nat.le_of_ble_eq_true rfl) ⟨rfl, rfl⟩ (Nat.le_of_ble_eq_true rfl) (Nat.le_of_ble_eq_true rfl) (Nat.le_of_ble_eq_true rfl) ?_
  rintro x5 _ ⟨rfl, h6, h7, h8⟩
  have hS9 : (x5 = 1 ∧ tk g n p = 124) ∨ (x5 = 2 ∧ tk g n p = 125) ∨ (x5 = 3 ∧ tk g n p = 127) ∨ (x5 = 0 ∧ tk g n p ≠ 124 ∧ tk g n p ≠ 125 ∧ tk g n p ≠ 127) := h8
  refine vc_istore_n dX12_turnClause_15 (by decide) rfl (show _ = [some (aR 54), some (aI x), some (aI x5)] from rfl) ?_
  refine vc_iload_n dX12_turnClause_16 rfl ?_
  refine vc_if_ne dX12_turnClause_17 (fun h10 => ?_) (fun h10 => ?_)
  · refine vc_aload_n dX12_turnClause_22 rfl ?_
    refine vc_getR dX12_turnClause_23 flX12_16 (s_54 hB0.1.1) rfl (r_54_2 hB0.1.1) ?_
    refine vc_iload_n dX12_turnClause_26 rfl ?_
    refine vc_iconst dX12_turnClause_27 rfl ?_
    refine vc_iaddE dX12_turnClause_28 (by omega) (by omega) ?_
    refine vc_iload_n dX12_turnClause_29 rfl ?_
    refine vc_iastore dX12_turnClause_30 (s_57 hB0.1.1) (by omega) (by omega) ?_
    have kp11 : mI (sI M 57 ((x + 1).toNat) x5) 55 = mI M 55 := (kp_sI rfl rfl)
    have hB12 : BF fT M (sI M 57 ((x + 1).toNat) x5) := BF.x57 (x := x + 1) hB0 (by omega)
    have fr13 : ∀ j : Nat, ((j : Int) ≤ x ∨ x + 11 ≤ j) → mI (sI M 57 ((x + 1).toNat) x5) 57 j = mI M 57 j := fun j hj => by rw [mI_sI, if_neg (fun e => by omega)]
    refine vc_aload_n dX12_turnClause_31 rfl ?_
    have hgf := RT.gf hT hB12.2.2
    have hat0 := RT.at hT (by omega)
    have hrg0 := RT.rg hT
    have k14 : mI (sI M 57 ((x + 1).toNat) x5) 54 9 = mI M 54 9 := rfl
    have k15 : mI (sI M 57 ((x + 1).toNat) x5) 54 10 = mI M 54 10 := rfl
    have k16 : mI (sI M 57 ((x + 1).toNat) x5) 54 11 = mI M 54 11 := rfl
    have k17 : mI (sI M 57 ((x + 1).toNat) x5) 54 14 = mI M 54 14 := rfl
    have k18 : mI (sI M 57 ((x + 1).toNat) x5) 54 15 = mI M 54 15 := rfl
    have k19 : mI (sI M 57 ((x + 1).toNat) x5) 54 16 = mI M 54 16 := rfl
    have k20 : mI (sI M 57 ((x + 1).toNat) x5) 54 18 = mI M 54 18 := rfl
    have k21 : mI (sI M 57 ((x + 1).toNat) x5) 54 19 = mI M 54 19 := rfl
    have k22 : mI (sI M 57 ((x + 1).toNat) x5) 54 20 = mI M 54 20 := rfl
    have k23 : mI (sI M 57 ((x + 1).toNat) x5) 54 21 = mI M 54 21 := rfl
    have hz5 := congrFun kp11 5
    refine vc_cVU dX12_turnClause_32 (sfX12_nextTokenF (M := (sI M 57 ((x + 1).toNat) x5)) hB12.1   (by first | (rw [hgf.2.1]; omega) | omega) (by first | (rw [hgf.1]; exact hgf.2.2) | assumption)) rfl okX12_nextToken viX12_nextToken lkX12_193 (s_54 hB12.1.1) cl_12 rfl (Nat.le_of_ble_eq_true rfl) ⟨rfl, rfl⟩ (Nat.le_of_ble_eq_true rfl) (Nat.le_of_ble_eq_true rfl) (Nat.le_of_ble_eq_true rfl) ?_
    rintro M24 ⟨hB25, kp26, kp27, kp28, h29, h30, h31, h32, h33, h34, h35, h36, h37, h38, h39⟩
    have hB40 : BF fT M M24 := BF.go hB12 hB25.t
    have kp41 : mI M24 55 = mI M 55 := kp_go kp11 kp26
    have rt42 : RT g n M24 (nx g n p) := by
      have z := h39
      rw [hgf.1, hgf.2.1, show mI (sI M 57 ((x + 1).toNat) x5) 54 9 = en g n p by first | omega | (show mI M 54 9 = _; omega)] at z
      exact z
    clear hrg0
    have rg43 := RT.rg rt42
    have fr44 : ∀ j : Nat, ((j : Int) ≤ x ∨ x + 11 ≤ j) → mI M24 57 j = mI M 57 j := fun j hj => (congrFun kp27 j).trans (fr13 j hj)
    refine vc_iconst dX12_turnClause_35 rfl ?_
    refine vc_iret dX12_turnClause_36 rfl (Nat.le_of_ble_eq_true rfl) (Nat.le_of_ble_eq_true rfl) ?_
    exact ⟨_, rfl, hB40, kp41, by omega, by omega, by omega, by omega, by omega, by omega, by omega, by omega, by omega, by omega, by omega, by omega, fr44, ⟨FRo rfl rt42 (by unfold sSide; rw [if_pos (by omega)]), fun _ => by unfold rw1; rw [if_pos rfl]; rw [congrFun kp27 _, mI_same]; (repeat' split) <;> omega⟩⟩
  · refine vc_iconst dX12_turnClause_20 rfl ?_
    refine vc_iret dX12_turnClause_21 rfl (Nat.le_of_ble_eq_true rfl) (Nat.le_of_ble_eq_true rfl) ?_
    exact ⟨_, rfl, hB0, rfl, by omega, by omega, by omega, by omega, by omega, by omega, by omega, by omega, by omega, by omega, by omega, by omega, (fun _ _ => rfl), ⟨FRb (q := p) (by decide) (by omega) (by unfold sSide; rw [if_neg (by omega)]), fun hr => absurd hr (by omega)⟩⟩

set_option maxHeartbeats 4000000 in
set_option maxRecDepth 4000 in
theorem sfX12_oneTurnF {l : Launch} {M : Mem} (hB : Box M) (g : Nat → Int) (n p : Int) (hT : RT g n M p) (x : Int) (k : Int) (p0 : 1 ≤ x) (p1 : x ≤ 2873) (p2 : 0 ≤ k) (p3 : k ≤ 6) (p4 : mI M 54 14 = 873 * mI M 55 5) (p5 : mI M 54 14 + 1 ≤ x) (p6 : mI M 54 10 ≤ mI M 54 9) (p7 : mI M 54 11 = 0 ∨ mI M 54 10 < mI M 54 9) : Call l mdX12_oneTurn [aR 54, aI x, aI k] M (fun q N => ∃ r : Int, q = some (aI r) ∧ BF fT M N ∧ mI N 55 = mI M 55 ∧ 0 ≤ r ∧ r ≤ 7 ∧ (r ≠ 0 ∨ (mI N 57 (x + 3).toNat = k + 1 ∧ k ≤ 5)) ∧ mI N 54 10 ≤ mI N 54 9 ∧ (mI N 54 11 = 0 ∨ mI N 54 10 < mI N 54 9) ∧ mI M 54 10 ≤ mI N 54 10 ∧ mI N 54 14 = mI M 54 14 ∧ mI N 54 15 = mI M 54 15 ∧ mI N 54 16 = mI M 54 16 ∧ mI N 54 18 = mI M 54 18 ∧ mI N 54 19 = mI M 54 19 ∧ mI N 54 20 = mI M 54 20 ∧ mI N 54 21 = mI M 54 21 ∧ (∀ j : Nat, ((j : Int) ≤ x + 2 ∨ x + 11 ≤ j) → mI N 57 j = mI M 57 j) ∧ (FR g n N r (sTurn (tk g n) (nx g n) k p) ∧ (r = 0 → mI N 57 (x + 4 + k).toNat = tvS (tk g n) (nx g n) p ∧ ∀ j : Nat, (j : Int) ≠ x + 3 → (j : Int) ≠ x + 4 + k → mI N 57 j = mI M 57 j))) := by
  have hB0 : BF fT M M := BF.start hB
  refine Call.of [some (aR 54), some (aI x), some (aI k), none, none, none] rfl (Nat.le_of_ble_eq_true rfl) rfl ?_
  have rg1 := hT.2.1
  refine vc_aload_n dX12_oneTurn_0 rfl ?_
  refine vc_bipush dX12_oneTurn_1 rfl ?_
  refine vc_bipush dX12_oneTurn_3 rfl ?_
  refine vc_cSL dX12_oneTurn_5 (sfX12_w2F (M := M) hB0.1  97 116 ) rfl okX12_w2 stX12_w2 lkX12_151 rfl (Nat.le_of_ble_eq_true rfl) ⟨rfl, rfl⟩ (Nat.le_of_ble_eq_true rfl) (Nat.le_of_ble_eq_true rfl) (Nat.le_of_ble_eq_true rfl) ?_
  rintro x2 _ ⟨rfl, h3⟩
  have hw4 : x2 = 24948 := h3.trans (by decide +kernel)
  refine vc_cVI dX12_oneTurn_8 (sfX12_isWordF (M := M) hB0.1  x2 ) rfl okX12_isWord viX12_isWord lkX12_196 (s_54 hB0.1.1) cl_12 rfl (Nat.le_of_ble_eq_true rfl) ⟨rfl, rfl⟩ (Nat.le_of_ble_eq_true rfl) (Nat.le_of_ble_eq_true rfl) (Nat.le_of_ble_eq_true rfl) ?_
  rintro x5 _ ⟨rfl, h6, h7, h8⟩
  have hz9 := isw h8 (RT.iw hT 18 (by decide) (hw4.trans pk_18) (t := 119) (by decide))
  clear h8
  refine vc_istore_n dX12_oneTurn_11 (by decide) rfl (show _ = [some (aR 54), some (aI x), some (aI k), some (aI x5), none, none] from rfl) ?_
  refine vc_iload_n dX12_oneTurn_12 rfl ?_
  refine vc_if_eq dX12_oneTurn_13 (fun h10 => ?_) (fun h10 => ?_)
  · refine vc_iload_n dX12_oneTurn_25 rfl ?_
    refine vc_if_eq dX12_oneTurn_26 (fun h11 => ?_) (fun h11 => by exfalso; omega)
    have hat9 : ¬ tk g n p = 119 := isw_no hz9 (by omega)
    clear hz9
    have nm0 := RT.nm hT
    refine vc_aload_n dX12_oneTurn_33 rfl ?_
    refine vc_getI dX12_oneTurn_34 flX12_129 (s_54 hB0.1.1) rfl ?_
    refine vc_iconst dX12_oneTurn_37 rfl ?_
    refine vc_icmp_eq dX12_oneTurn_38 (fun h12 => ?_) (fun h12 => ?_)
    · have nm1 : 1000 ≤ tk g n p ∧ ((mI M 54 12 = tk g n p - 1000 ∧ tk g n p ≤ 10999) ∨ (10000 ≤ mI M 54 12 ∧ tk g n p = 11000)) := by omega
      clear nm0
      refine vc_aload_n dX12_oneTurn_43 rfl ?_
      refine vc_getI dX12_oneTurn_44 flX12_135 (s_54 hB0.1.1) rfl ?_
      refine vc_iconst dX12_oneTurn_47 rfl ?_
      refine vc_iload_n dX12_oneTurn_48 rfl ?_
      refine vc_if_eq dX12_oneTurn_49 (fun h13 => ?_) (fun h13 => by exfalso; omega)
      refine vc_iconst dX12_oneTurn_56 rfl ?_
      refine vc_cSI dX12_oneTurn_57 (sfX12_isInF (M := M) hB0.1  (mI M 54 12) 1 4 ) rfl okX12_isIn stX12_isIn lkX12_83 rfl (Nat.le_of_ble_eq_true rfl) ⟨rfl, rfl⟩ (Nat.le_of_ble_eq_true rfl) (Nat.le_of_ble_eq_true rfl) (Nat.le_of_ble_eq_true rfl) ?_
      rintro x14 _ ⟨rfl, h15, h16, h17⟩
      refine vc_if_ne dX12_oneTurn_60 (fun h18 => ?_) (fun h18 => ?_)
      · have nm2 : tk g n p = 1000 + mI M 54 12 ∧ 1 ≤ mI M 54 12 ∧ mI M 54 12 ≤ 4 := by omega
        clear nm1 h17
        refine vc_iload_n dX12_oneTurn_65 rfl ?_
        refine vc_bipush dX12_oneTurn_66 rfl ?_
        refine vc_icmp_ne dX12_oneTurn_68 (fun h19 => ?_) (fun h19 => ?_)
        · refine vc_aload_n dX12_oneTurn_74 rfl ?_
          refine vc_getI dX12_oneTurn_75 flX12_135 (s_54 hB0.1.1) rfl ?_
          refine vc_nameI (fun x20 ex20 => ?_)
          refine vc_istore dX12_oneTurn_78 (by decide) rfl (show _ = [some (aR 54), some (aI x), some (aI k), some (aI x5), some (aI x20), none] from rfl) ?_
          refine vc_aload_n dX12_oneTurn_80 rfl ?_
          have hgf := RT.gf hT hB0.2.2
          have hat0 := RT.at hT (by omega)
          have hrg0 := RT.rg hT
          refine vc_cVU dX12_oneTurn_81 (sfX12_nextTokenF (M := M) hB0.1   (by first | (rw [hgf.2.1]; omega) | omega) (by first | (rw [hgf.1]; exact hgf.2.2) | assumption)) rfl okX12_nextToken viX12_nextToken lkX12_193 (s_54 hB0.1.1) cl_12 rfl (Nat.le_of_ble_eq_true rfl) ⟨rfl, rfl⟩ (Nat.le_of_ble_eq_true rfl) (Nat.le_of_ble_eq_true rfl) (Nat.le_of_ble_eq_true rfl) ?_
          rintro M21 ⟨hB22, kp23, kp24, kp25, h26, h27, h28, h29, h30, h31, h32, h33, h34, h35, h36⟩
          have hB37 : BF fT M M21 := BF.go hB0 hB22.t
          have kp38 : mI M21 55 = mI M 55 := kp_go rfl kp23
          have rt39 : RT g n M21 (nx g n p) := by
            have z := h36
            rw [hgf.1, hgf.2.1, show mI M 54 9 = en g n p by first | omega | (show mI M 54 9 = _; omega)] at z
            exact z
          clear hrg0
          have fr40 : ∀ j : Nat, ((j : Int) ≤ x + 2 ∨ x + 11 ≤ j) → mI M21 57 j = mI M 57 j := fun j hj => (congrFun kp24 j).trans ((fun _ _ => rfl) j hj)
          refine vc_aload_n dX12_oneTurn_84 rfl ?_
          refine vc_bipush dX12_oneTurn_85 rfl ?_
          refine vc_bipush dX12_oneTurn_87 rfl ?_
          refine vc_cSL dX12_oneTurn_89 (sfX12_w2F (M := M21) hB37.1  111 110 ) rfl okX12_w2 stX12_w2 lkX12_151 rfl (Nat.le_of_ble_eq_true rfl) ⟨rfl, rfl⟩ (Nat.le_of_ble_eq_true rfl) (Nat.le_of_ble_eq_true rfl) (Nat.le_of_ble_eq_true rfl) ?_
          rintro x41 _ ⟨rfl, h42⟩
          have hw43 : x41 = 28526 := h42.trans (by decide +kernel)
          refine vc_cVI dX12_oneTurn_92 (sfX12_sideOfF (M := M21) hB37.1  g n (nx g n p) rt39 25 x41 (by decide) (by exact hw43.trans pk_25)) rfl okX12_sideOf viX12_sideOf lkX12_237 (s_54 hB37.1.1) cl_12 rfl (Nat.le_of_ble_eq_true rfl) ⟨rfl, rfl⟩ (Nat.le_of_ble_eq_true rfl) (Nat.le_of_ble_eq_true rfl) (Nat.le_of_ble_eq_true rfl) ?_
          rintro x44 _ ⟨rfl, h45, h46, h47⟩
          have hS48 : (x44 = 1 ∧ tk g n (nx g n p) = 124) ∨ (x44 = 2 ∧ tk g n (nx g n p) = 125) ∨ (x44 = 3 ∧ tk g n (nx g n p) = 126) ∨ (x44 = 0 ∧ tk g n (nx g n p) ≠ 124 ∧ tk g n (nx g n p) ≠ 125 ∧ tk g n (nx g n p) ≠ 126) := h47
          refine vc_istore dX12_oneTurn_95 (by decide) rfl (show _ = [some (aR 54), some (aI x), some (aI k), some (aI x5), some (aI x20), some (aI x44)] from rfl) ?_
          refine vc_iload dX12_oneTurn_97 rfl ?_
          refine vc_if_ne dX12_oneTurn_99 (fun h49 => ?_) (fun h49 => ?_)
          · have hsd : 124 ≤ tk g n (nx g n p) ∧ tk g n (nx g n p) ≤ 126 := by omega
            have hsv : x44 = tk g n (nx g n p) - 123 := by omega
            clear hS48
            refine vc_aload_n dX12_oneTurn_104 rfl ?_
            have hgf := RT.gf hT hB37.2.2
            have hat0 := RT.at rt39 (by omega)
            have hrg0 := RT.rg rt39
            refine vc_cVU dX12_oneTurn_105 (sfX12_nextTokenF (M := M21) hB37.1   (by first | (rw [hgf.2.1]; omega) | omega) (by first | (rw [hgf.1]; exact hgf.2.2) | assumption)) rfl okX12_nextToken viX12_nextToken lkX12_193 (s_54 hB37.1.1) cl_12 rfl (Nat.le_of_ble_eq_true rfl) ⟨rfl, rfl⟩ (Nat.le_of_ble_eq_true rfl) (Nat.le_of_ble_eq_true rfl) (Nat.le_of_ble_eq_true rfl) ?_
            rintro M50 ⟨hB51, kp52, kp53, kp54, h55, h56, h57, h58, h59, h60, h61, h62, h63, h64, h65⟩
            have hB66 : BF fT M M50 := BF.go hB37 hB51.t
            have kp67 : mI M50 55 = mI M 55 := kp_go kp38 kp52
            have rt68 : RT g n M50 (nx g n (nx g n p)) := by
              have z := h65
              rw [hgf.1, hgf.2.1, show mI M21 54 9 = en g n (nx g n p) by first | omega | (show mI M21 54 9 = _; omega)] at z
              exact z
            clear hrg0
            have fr69 : ∀ j : Nat, ((j : Int) ≤ x + 2 ∨ x + 11 ≤ j) → mI M50 57 j = mI M 57 j := fun j hj => (congrFun kp53 j).trans (fr40 j hj)
            have hz5 := congrFun kp67 5
            refine vc_aload_n dX12_oneTurn_108 rfl ?_
            refine vc_getR dX12_oneTurn_109 flX12_16 (s_54 hB66.1.1) rfl (r_54_2 hB66.1.1) ?_
            refine vc_iload_n dX12_oneTurn_112 rfl ?_
            refine vc_iconst dX12_oneTurn_113 rfl ?_
            refine vc_iaddE dX12_oneTurn_114 (by omega) (by omega) ?_
            refine vc_iload_n dX12_oneTurn_115 rfl ?_
            refine vc_iaddE dX12_oneTurn_116 (by omega) (by omega) ?_
            refine vc_bipush dX12_oneTurn_117 rfl ?_
            refine vc_iload dX12_oneTurn_119 rfl ?_
            refine vc_imulE dX12_oneTurn_121 (by omega) (by omega) ?_
            refine vc_iload_n dX12_oneTurn_122 rfl ?_
            refine vc_if_eq dX12_oneTurn_123 (fun h70 => ?_) (fun h70 => by exfalso; omega)
            refine vc_iconst dX12_oneTurn_131 rfl ?_
            refine vc_iaddE dX12_oneTurn_132 (by omega) (by omega) ?_
            refine vc_iload dX12_oneTurn_133 rfl ?_
            refine vc_iadd dX12_oneTurn_135 ?_
            refine vc_iastore dX12_oneTurn_136 (s_57 hB66.1.1) (by omega) (by omega) ?_
            have kp71 : mI (sI M50 57 (((x + 4) + k).toNat) (wI (((100 * x44) + 0) + x20))) 55 = mI M 55 := (kp_sI kp67 rfl)
            have hB72 : BF fT M (sI M50 57 (((x + 4) + k).toNat) (wI (((100 * x44) + 0) + x20))) := BF.x57 (x := (x + 4) + k) hB66 (by omega)
            have hz5 := congrFun kp71 5
            refine vc_aload_n dX12_oneTurn_137 rfl ?_
            refine vc_getR dX12_oneTurn_138 flX12_16 (s_54 hB72.1.1) rfl (r_54_2 hB72.1.1) ?_
            refine vc_iload_n dX12_oneTurn_141 rfl ?_
            refine vc_iconst dX12_oneTurn_142 rfl ?_
            refine vc_iaddE dX12_oneTurn_143 (by omega) (by omega) ?_
            refine vc_iload_n dX12_oneTurn_144 rfl ?_
            refine vc_iconst dX12_oneTurn_145 rfl ?_
            refine vc_iaddE dX12_oneTurn_146 (by omega) (by omega) ?_
            refine vc_iastore dX12_oneTurn_147 (s_57 hB72.1.1) (by omega) (by omega) ?_
            have kp73 : mI (sI (sI M50 57 (((x + 4) + k).toNat) (wI (((100 * x44) + 0) + x20))) 57 ((x + 3).toNat) (k + 1)) 55 = mI M 55 := (kp_sI kp71 rfl)
            have hB74 : BF fT M (sI (sI M50 57 (((x + 4) + k).toNat) (wI (((100 * x44) + 0) + x20))) 57 ((x + 3).toNat) (k + 1)) := BF.x57 (x := x + 3) hB72 (by omega)
            have fr75 : ∀ j : Nat, ((j : Int) ≤ x + 2 ∨ x + 11 ≤ j) → mI (sI (sI M50 57 (((x + 4) + k).toNat) (wI (((100 * x44) + 0) + x20))) 57 ((x + 3).toNat) (k + 1)) 57 j = mI M 57 j := fun j hj => by
              rw [mI_sI, if_neg (fun e => by omega), mI_sI, if_neg (fun e => by omega)]
              exact fr69 j hj
            have hx3 : mI (sI (sI M50 57 (((x + 4) + k).toNat) (wI (((100 * x44) + 0) + x20))) 57 ((x + 3).toNat) (k + 1)) 57 (x + 3).toNat = k + 1 := mI_same
            refine vc_iconst dX12_oneTurn_148 rfl ?_
            refine vc_iret dX12_oneTurn_149 rfl (Nat.le_of_ble_eq_true rfl) (Nat.le_of_ble_eq_true rfl) ?_
            have k76 : mI (sI (sI M50 57 (((x + 4) + k).toNat) (wI (((100 * x44) + 0) + x20))) 57 ((x + 3).toNat) (k + 1)) 54 9 = mI M50 54 9 := rfl
            have k77 : mI (sI (sI M50 57 (((x + 4) + k).toNat) (wI (((100 * x44) + 0) + x20))) 57 ((x + 3).toNat) (k + 1)) 54 10 = mI M50 54 10 := rfl
            have k78 : mI (sI (sI M50 57 (((x + 4) + k).toNat) (wI (((100 * x44) + 0) + x20))) 57 ((x + 3).toNat) (k + 1)) 54 11 = mI M50 54 11 := rfl
            have k79 : mI (sI (sI M50 57 (((x + 4) + k).toNat) (wI (((100 * x44) + 0) + x20))) 57 ((x + 3).toNat) (k + 1)) 54 14 = mI M50 54 14 := rfl
            have k80 : mI (sI (sI M50 57 (((x + 4) + k).toNat) (wI (((100 * x44) + 0) + x20))) 57 ((x + 3).toNat) (k + 1)) 54 15 = mI M50 54 15 := rfl
            have k81 : mI (sI (sI M50 57 (((x + 4) + k).toNat) (wI (((100 * x44) + 0) + x20))) 57 ((x + 3).toNat) (k + 1)) 54 16 = mI M50 54 16 := rfl
            have k82 : mI (sI (sI M50 57 (((x + 4) + k).toNat) (wI (((100 * x44) + 0) + x20))) 57 ((x + 3).toNat) (k + 1)) 54 18 = mI M50 54 18 := rfl
            have k83 : mI (sI (sI M50 57 (((x + 4) + k).toNat) (wI (((100 * x44) + 0) + x20))) 57 ((x + 3).toNat) (k + 1)) 54 19 = mI M50 54 19 := rfl
            have k84 : mI (sI (sI M50 57 (((x + 4) + k).toNat) (wI (((100 * x44) + 0) + x20))) 57 ((x + 3).toNat) (k + 1)) 54 20 = mI M50 54 20 := rfl
            have k85 : mI (sI (sI M50 57 (((x + 4) + k).toNat) (wI (((100 * x44) + 0) + x20))) 57 ((x + 3).toNat) (k + 1)) 54 21 = mI M50 54 21 := rfl
            have rt86 : RT g n (sI (sI M50 57 (((x + 4) + k).toNat) (wI (((100 * x44) + 0) + x20))) 57 ((x + 3).toNat) (k + 1)) (nx g n (nx g n p)) := RT.same rt68 ((Fz.sI rfl).trans (Fz.sI rfl)) rfl rfl rfl rfl rfl
            exact ⟨_, rfl, hB74, kp73, by omega, by omega, by omega, by omega, by omega, by omega, by omega, by omega, by omega, by omega, by omega, by omega, by omega, fr75, ⟨FRo rfl rt86 (by unfold sTurn; rw [if_neg (by omega), if_neg (by omega), if_neg (by omega), if_neg (by omega)]; unfold sOn; rw [if_pos (by omega)]), fun _ => ⟨by rw [mI_sI, if_neg (by omega), mI_sI, if_pos (by omega)]; (try rw [wI_id (by omega) (by omega)]); unfold tvS; rw [if_neg (by omega)]; omega, fun j j1 j2 => by rw [mI_sI, if_neg (by omega), mI_sI, if_neg (by omega)]; exact ((congrFun kp53 j).trans (congrFun kp24 j))⟩⟩⟩
          · have hsd : ¬ (124 ≤ tk g n (nx g n p) ∧ tk g n (nx g n p) ≤ 126) := by omega
            clear hS48
            refine vc_iconst dX12_oneTurn_102 rfl ?_
            refine vc_iret dX12_oneTurn_103 rfl (Nat.le_of_ble_eq_true rfl) (Nat.le_of_ble_eq_true rfl) ?_
            exact ⟨_, rfl, hB37, kp38, by omega, by omega, by omega, by omega, by omega, by omega, by omega, by omega, by omega, by omega, by omega, by omega, by omega, fr40, ⟨FRb (q := (nx g n p)) (by decide) (RT.rg rt39).1 (by unfold sTurn; rw [if_neg (by omega), if_neg (by omega), if_neg (by omega), if_neg (by omega)]; unfold sOn; rw [if_neg (by omega)]), fun hr => absurd hr (by omega)⟩⟩
        · refine vc_bipush dX12_oneTurn_71 rfl ?_
          refine vc_iret dX12_oneTurn_73 rfl (Nat.le_of_ble_eq_true rfl) (Nat.le_of_ble_eq_true rfl) ?_
          exact ⟨_, rfl, hB0, rfl, by omega, by omega, by omega, by omega, by omega, by omega, by omega, by omega, by omega, by omega, by omega, by omega, by omega, (fun _ _ => rfl), ⟨FRb (q := p) (by decide) (RT.rg hT).1 (by unfold sTurn; rw [if_neg (by omega), if_neg (by omega), if_neg (by omega), if_pos (by omega)]), fun hr => absurd hr (by omega)⟩⟩
      · refine vc_iconst dX12_oneTurn_63 rfl ?_
        refine vc_iret dX12_oneTurn_64 rfl (Nat.le_of_ble_eq_true rfl) (Nat.le_of_ble_eq_true rfl) ?_
        exact ⟨_, rfl, hB0, rfl, by omega, by omega, by omega, by omega, by omega, by omega, by omega, by omega, by omega, by omega, by omega, by omega, by omega, (fun _ _ => rfl), ⟨FRb (q := p) (by decide) (RT.rg hT).1 (by unfold sTurn; rw [if_neg (by omega), if_neg (by omega), if_pos (by omega)]), fun hr => absurd hr (by omega)⟩⟩
    · refine vc_iconst dX12_oneTurn_41 rfl ?_
      refine vc_iret dX12_oneTurn_42 rfl (Nat.le_of_ble_eq_true rfl) (Nat.le_of_ble_eq_true rfl) ?_
      exact ⟨_, rfl, hB0, rfl, by omega, by omega, by omega, by omega, by omega, by omega, by omega, by omega, by omega, by omega, by omega, by omega, by omega, (fun _ _ => rfl), ⟨FRb (q := p) (by decide) (RT.rg hT).1 (by unfold sTurn; rw [if_neg (by omega), if_pos (by omega)]), fun hr => absurd hr (by omega)⟩⟩
  · have hat9 : tk g n p = 119 := isw_yes hz9 (by omega)
    clear hz9
    refine vc_iload_n dX12_oneTurn_16 rfl ?_
    refine vc_bipush dX12_oneTurn_17 rfl ?_
    refine vc_icmp_ne dX12_oneTurn_19 (fun h87 => ?_) (fun h87 => ?_)
    · refine vc_iload_n dX12_oneTurn_25 rfl ?_
      refine vc_if_eq dX12_oneTurn_26 (fun h88 => by exfalso; omega) (fun h88 => ?_)
      refine vc_aload_n dX12_oneTurn_29 rfl ?_
      have hgf := RT.gf hT hB0.2.2
      have hat0 := RT.at hT (by omega)
      have hrg0 := RT.rg hT
      refine vc_cVU dX12_oneTurn_30 (sfX12_nextTokenF (M := M) hB0.1   (by first | (rw [hgf.2.1]; omega) | omega) (by first | (rw [hgf.1]; exact hgf.2.2) | assumption)) rfl okX12_nextToken viX12_nextToken lkX12_193 (s_54 hB0.1.1) cl_12 rfl (Nat.le_of_ble_eq_true rfl) ⟨rfl, rfl⟩ (Nat.le_of_ble_eq_true rfl) (Nat.le_of_ble_eq_true rfl) (Nat.le_of_ble_eq_true rfl) ?_
      rintro M89 ⟨hB90, kp91, kp92, kp93, h94, h95, h96, h97, h98, h99, h100, h101, h102, h103, h104⟩
      have hB105 : BF fT M M89 := BF.go hB0 hB90.t
      have kp106 : mI M89 55 = mI M 55 := kp_go rfl kp91
      have rt107 : RT g n M89 (nx g n p) := by
        have z := h104
        rw [hgf.1, hgf.2.1, show mI M 54 9 = en g n p by first | omega | (show mI M 54 9 = _; omega)] at z
        exact z
      clear hrg0
      have fr108 : ∀ j : Nat, ((j : Int) ≤ x + 2 ∨ x + 11 ≤ j) → mI M89 57 j = mI M 57 j := fun j hj => (congrFun kp92 j).trans ((fun _ _ => rfl) j hj)
      have nm0 := RT.nm rt107
      refine vc_aload_n dX12_oneTurn_33 rfl ?_
      refine vc_getI dX12_oneTurn_34 flX12_129 (s_54 hB105.1.1) rfl ?_
      refine vc_iconst dX12_oneTurn_37 rfl ?_
      refine vc_icmp_eq dX12_oneTurn_38 (fun h109 => ?_) (fun h109 => ?_)
      · have nm1 : 1000 ≤ tk g n (nx g n p) ∧ ((mI M89 54 12 = tk g n (nx g n p) - 1000 ∧ tk g n (nx g n p) ≤ 10999) ∨ (10000 ≤ mI M89 54 12 ∧ tk g n (nx g n p) = 11000)) := by omega
        clear nm0
        refine vc_aload_n dX12_oneTurn_43 rfl ?_
        refine vc_getI dX12_oneTurn_44 flX12_135 (s_54 hB105.1.1) rfl ?_
        refine vc_iconst dX12_oneTurn_47 rfl ?_
        refine vc_iload_n dX12_oneTurn_48 rfl ?_
        refine vc_if_eq dX12_oneTurn_49 (fun h110 => by exfalso; omega) (fun h110 => ?_)
        refine vc_iconst dX12_oneTurn_52 rfl ?_
        refine vc_goto dX12_oneTurn_53 ?_
        refine vc_cSI dX12_oneTurn_57 (sfX12_isInF (M := M89) hB105.1  (mI M89 54 12) 1 5 ) rfl okX12_isIn stX12_isIn lkX12_83 rfl (Nat.le_of_ble_eq_true rfl) ⟨rfl, rfl⟩ (Nat.le_of_ble_eq_true rfl) (Nat.le_of_ble_eq_true rfl) (Nat.le_of_ble_eq_true rfl) ?_
        rintro x111 _ ⟨rfl, h112, h113, h114⟩
        refine vc_if_ne dX12_oneTurn_60 (fun h115 => ?_) (fun h115 => ?_)
        · have nm2 : tk g n (nx g n p) = 1000 + mI M89 54 12 ∧ 1 ≤ mI M89 54 12 ∧ mI M89 54 12 ≤ 5 := by omega
          clear nm1 h114
          refine vc_iload_n dX12_oneTurn_65 rfl ?_
          refine vc_bipush dX12_oneTurn_66 rfl ?_
          refine vc_icmp_ne dX12_oneTurn_68 (fun h116 => ?_) (fun h116 => by exfalso; omega)
          refine vc_aload_n dX12_oneTurn_74 rfl ?_
          refine vc_getI dX12_oneTurn_75 flX12_135 (s_54 hB105.1.1) rfl ?_
          refine vc_nameI (fun x117 ex117 => ?_)
          refine vc_istore dX12_oneTurn_78 (by decide) rfl (show _ = [some (aR 54), some (aI x), some (aI k), some (aI x5), some (aI x117), none] from rfl) ?_
          refine vc_aload_n dX12_oneTurn_80 rfl ?_
          have hgf := RT.gf hT hB105.2.2
          have hat0 := RT.at rt107 (by omega)
          have hrg0 := RT.rg rt107
          refine vc_cVU dX12_oneTurn_81 (sfX12_nextTokenF (M := M89) hB105.1   (by first | (rw [hgf.2.1]; omega) | omega) (by first | (rw [hgf.1]; exact hgf.2.2) | assumption)) rfl okX12_nextToken viX12_nextToken lkX12_193 (s_54 hB105.1.1) cl_12 rfl (Nat.le_of_ble_eq_true rfl) ⟨rfl, rfl⟩ (Nat.le_of_ble_eq_true rfl) (Nat.le_of_ble_eq_true rfl) (Nat.le_of_ble_eq_true rfl) ?_
          rintro M118 ⟨hB119, kp120, kp121, kp122, h123, h124, h125, h126, h127, h128, h129, h130, h131, h132, h133⟩
          have hB134 : BF fT M M118 := BF.go hB105 hB119.t
          have kp135 : mI M118 55 = mI M 55 := kp_go kp106 kp120
          have rt136 : RT g n M118 (nx g n (nx g n p)) := by
            have z := h133
            rw [hgf.1, hgf.2.1, show mI M89 54 9 = en g n (nx g n p) by first | omega | (show mI M89 54 9 = _; omega)] at z
            exact z
          clear hrg0
          have fr137 : ∀ j : Nat, ((j : Int) ≤ x + 2 ∨ x + 11 ≤ j) → mI M118 57 j = mI M 57 j := fun j hj => (congrFun kp121 j).trans (fr108 j hj)
          refine vc_aload_n dX12_oneTurn_84 rfl ?_
          refine vc_bipush dX12_oneTurn_85 rfl ?_
          refine vc_bipush dX12_oneTurn_87 rfl ?_
          refine vc_cSL dX12_oneTurn_89 (sfX12_w2F (M := M118) hB134.1  111 110 ) rfl okX12_w2 stX12_w2 lkX12_151 rfl (Nat.le_of_ble_eq_true rfl) ⟨rfl, rfl⟩ (Nat.le_of_ble_eq_true rfl) (Nat.le_of_ble_eq_true rfl) (Nat.le_of_ble_eq_true rfl) ?_
          rintro x138 _ ⟨rfl, h139⟩
          have hw140 : x138 = 28526 := h139.trans (by decide +kernel)
          refine vc_cVI dX12_oneTurn_92 (sfX12_sideOfF (M := M118) hB134.1  g n (nx g n (nx g n p)) rt136 25 x138 (by decide) (by exact hw140.trans pk_25)) rfl okX12_sideOf viX12_sideOf lkX12_237 (s_54 hB134.1.1) cl_12 rfl (Nat.le_of_ble_eq_true rfl) ⟨rfl, rfl⟩ (Nat.le_of_ble_eq_true rfl) (Nat.le_of_ble_eq_true rfl) (Nat.le_of_ble_eq_true rfl) ?_
          rintro x141 _ ⟨rfl, h142, h143, h144⟩
          have hS145 : (x141 = 1 ∧ tk g n (nx g n (nx g n p)) = 124) ∨ (x141 = 2 ∧ tk g n (nx g n (nx g n p)) = 125) ∨ (x141 = 3 ∧ tk g n (nx g n (nx g n p)) = 126) ∨ (x141 = 0 ∧ tk g n (nx g n (nx g n p)) ≠ 124 ∧ tk g n (nx g n (nx g n p)) ≠ 125 ∧ tk g n (nx g n (nx g n p)) ≠ 126) := h144
          refine vc_istore dX12_oneTurn_95 (by decide) rfl (show _ = [some (aR 54), some (aI x), some (aI k), some (aI x5), some (aI x117), some (aI x141)] from rfl) ?_
          refine vc_iload dX12_oneTurn_97 rfl ?_
          refine vc_if_ne dX12_oneTurn_99 (fun h146 => ?_) (fun h146 => ?_)
          · have hsd : 124 ≤ tk g n (nx g n (nx g n p)) ∧ tk g n (nx g n (nx g n p)) ≤ 126 := by omega
            have hsv : x141 = tk g n (nx g n (nx g n p)) - 123 := by omega
            clear hS145
            refine vc_aload_n dX12_oneTurn_104 rfl ?_
            have hgf := RT.gf hT hB134.2.2
            have hat0 := RT.at rt136 (by omega)
            have hrg0 := RT.rg rt136
            refine vc_cVU dX12_oneTurn_105 (sfX12_nextTokenF (M := M118) hB134.1   (by first | (rw [hgf.2.1]; omega) | omega) (by first | (rw [hgf.1]; exact hgf.2.2) | assumption)) rfl okX12_nextToken viX12_nextToken lkX12_193 (s_54 hB134.1.1) cl_12 rfl (Nat.le_of_ble_eq_true rfl) ⟨rfl, rfl⟩ (Nat.le_of_ble_eq_true rfl) (Nat.le_of_ble_eq_true rfl) (Nat.le_of_ble_eq_true rfl) ?_
            rintro M147 ⟨hB148, kp149, kp150, kp151, h152, h153, h154, h155, h156, h157, h158, h159, h160, h161, h162⟩
            have hB163 : BF fT M M147 := BF.go hB134 hB148.t
            have kp164 : mI M147 55 = mI M 55 := kp_go kp135 kp149
            have rt165 : RT g n M147 (nx g n (nx g n (nx g n p))) := by
              have z := h162
              rw [hgf.1, hgf.2.1, show mI M118 54 9 = en g n (nx g n (nx g n p)) by first | omega | (show mI M118 54 9 = _; omega)] at z
              exact z
            clear hrg0
            have fr166 : ∀ j : Nat, ((j : Int) ≤ x + 2 ∨ x + 11 ≤ j) → mI M147 57 j = mI M 57 j := fun j hj => (congrFun kp150 j).trans (fr137 j hj)
            have hz5 := congrFun kp164 5
            refine vc_aload_n dX12_oneTurn_108 rfl ?_
            refine vc_getR dX12_oneTurn_109 flX12_16 (s_54 hB163.1.1) rfl (r_54_2 hB163.1.1) ?_
            refine vc_iload_n dX12_oneTurn_112 rfl ?_
            refine vc_iconst dX12_oneTurn_113 rfl ?_
            refine vc_iaddE dX12_oneTurn_114 (by omega) (by omega) ?_
            refine vc_iload_n dX12_oneTurn_115 rfl ?_
            refine vc_iaddE dX12_oneTurn_116 (by omega) (by omega) ?_
            refine vc_bipush dX12_oneTurn_117 rfl ?_
            refine vc_iload dX12_oneTurn_119 rfl ?_
            refine vc_imulE dX12_oneTurn_121 (by omega) (by omega) ?_
            refine vc_iload_n dX12_oneTurn_122 rfl ?_
            refine vc_if_eq dX12_oneTurn_123 (fun h167 => by exfalso; omega) (fun h167 => ?_)
            refine vc_bipush dX12_oneTurn_126 rfl ?_
            refine vc_goto dX12_oneTurn_128 ?_
            refine vc_iaddE dX12_oneTurn_132 (by omega) (by omega) ?_
            refine vc_iload dX12_oneTurn_133 rfl ?_
            refine vc_iadd dX12_oneTurn_135 ?_
            refine vc_iastore dX12_oneTurn_136 (s_57 hB163.1.1) (by omega) (by omega) ?_
            have kp168 : mI (sI M147 57 (((x + 4) + k).toNat) (wI (((100 * x141) + 10) + x117))) 55 = mI M 55 := (kp_sI kp164 rfl)
            have hB169 : BF fT M (sI M147 57 (((x + 4) + k).toNat) (wI (((100 * x141) + 10) + x117))) := BF.x57 (x := (x + 4) + k) hB163 (by omega)
            have hz5 := congrFun kp168 5
            refine vc_aload_n dX12_oneTurn_137 rfl ?_
            refine vc_getR dX12_oneTurn_138 flX12_16 (s_54 hB169.1.1) rfl (r_54_2 hB169.1.1) ?_
            refine vc_iload_n dX12_oneTurn_141 rfl ?_
            refine vc_iconst dX12_oneTurn_142 rfl ?_
            refine vc_iaddE dX12_oneTurn_143 (by omega) (by omega) ?_
            refine vc_iload_n dX12_oneTurn_144 rfl ?_
            refine vc_iconst dX12_oneTurn_145 rfl ?_
            refine vc_iaddE dX12_oneTurn_146 (by omega) (by omega) ?_
            refine vc_iastore dX12_oneTurn_147 (s_57 hB169.1.1) (by omega) (by omega) ?_
            have kp170 : mI (sI (sI M147 57 (((x + 4) + k).toNat) (wI (((100 * x141) + 10) + x117))) 57 ((x + 3).toNat) (k + 1)) 55 = mI M 55 := (kp_sI kp168 rfl)
            have hB171 : BF fT M (sI (sI M147 57 (((x + 4) + k).toNat) (wI (((100 * x141) + 10) + x117))) 57 ((x + 3).toNat) (k + 1)) := BF.x57 (x := x + 3) hB169 (by omega)
            have fr172 : ∀ j : Nat, ((j : Int) ≤ x + 2 ∨ x + 11 ≤ j) → mI (sI (sI M147 57 (((x + 4) + k).toNat) (wI (((100 * x141) + 10) + x117))) 57 ((x + 3).toNat) (k + 1)) 57 j = mI M 57 j := fun j hj => by
              rw [mI_sI, if_neg (fun e => by omega), mI_sI, if_neg (fun e => by omega)]
              exact fr166 j hj
            have hx3 : mI (sI (sI M147 57 (((x + 4) + k).toNat) (wI (((100 * x141) + 10) + x117))) 57 ((x + 3).toNat) (k + 1)) 57 (x + 3).toNat = k + 1 := mI_same
            refine vc_iconst dX12_oneTurn_148 rfl ?_
            refine vc_iret dX12_oneTurn_149 rfl (Nat.le_of_ble_eq_true rfl) (Nat.le_of_ble_eq_true rfl) ?_
            have k173 : mI (sI (sI M147 57 (((x + 4) + k).toNat) (wI (((100 * x141) + 10) + x117))) 57 ((x + 3).toNat) (k + 1)) 54 9 = mI M147 54 9 := rfl
            have k174 : mI (sI (sI M147 57 (((x + 4) + k).toNat) (wI (((100 * x141) + 10) + x117))) 57 ((x + 3).toNat) (k + 1)) 54 10 = mI M147 54 10 := rfl
            have k175 : mI (sI (sI M147 57 (((x + 4) + k).toNat) (wI (((100 * x141) + 10) + x117))) 57 ((x + 3).toNat) (k + 1)) 54 11 = mI M147 54 11 := rfl
            have k176 : mI (sI (sI M147 57 (((x + 4) + k).toNat) (wI (((100 * x141) + 10) + x117))) 57 ((x + 3).toNat) (k + 1)) 54 14 = mI M147 54 14 := rfl
            have k177 : mI (sI (sI M147 57 (((x + 4) + k).toNat) (wI (((100 * x141) + 10) + x117))) 57 ((x + 3).toNat) (k + 1)) 54 15 = mI M147 54 15 := rfl
            have k178 : mI (sI (sI M147 57 (((x + 4) + k).toNat) (wI (((100 * x141) + 10) + x117))) 57 ((x + 3).toNat) (k + 1)) 54 16 = mI M147 54 16 := rfl
            have k179 : mI (sI (sI M147 57 (((x + 4) + k).toNat) (wI (((100 * x141) + 10) + x117))) 57 ((x + 3).toNat) (k + 1)) 54 18 = mI M147 54 18 := rfl
            have k180 : mI (sI (sI M147 57 (((x + 4) + k).toNat) (wI (((100 * x141) + 10) + x117))) 57 ((x + 3).toNat) (k + 1)) 54 19 = mI M147 54 19 := rfl
            have k181 : mI (sI (sI M147 57 (((x + 4) + k).toNat) (wI (((100 * x141) + 10) + x117))) 57 ((x + 3).toNat) (k + 1)) 54 20 = mI M147 54 20 := rfl
            have k182 : mI (sI (sI M147 57 (((x + 4) + k).toNat) (wI (((100 * x141) + 10) + x117))) 57 ((x + 3).toNat) (k + 1)) 54 21 = mI M147 54 21 := rfl
            have rt183 : RT g n (sI (sI M147 57 (((x + 4) + k).toNat) (wI (((100 * x141) + 10) + x117))) 57 ((x + 3).toNat) (k + 1)) (nx g n (nx g n (nx g n p))) := RT.same rt165 ((Fz.sI rfl).trans (Fz.sI rfl)) rfl rfl rfl rfl rfl
            exact ⟨_, rfl, hB171, kp170, by omega, by omega, by omega, by omega, by omega, by omega, by omega, by omega, by omega, by omega, by omega, by omega, by omega, fr172, ⟨FRo rfl rt183 (by rw [sTurn_at (by omega) (by omega), sNum_0 (by omega) (by omega), sB_0]; unfold sOn; rw [if_pos (by omega)]), fun _ => ⟨by rw [mI_sI, if_neg (by omega), mI_sI, if_pos (by omega)]; (try rw [wI_id (by omega) (by omega)]); unfold tvS; rw [if_pos (by omega)]; omega, fun j j1 j2 => by rw [mI_sI, if_neg (by omega), mI_sI, if_neg (by omega)]; exact ((congrFun kp150 j).trans ((congrFun kp121 j).trans (congrFun kp92 j)))⟩⟩⟩
          · have hsd : ¬ (124 ≤ tk g n (nx g n (nx g n p)) ∧ tk g n (nx g n (nx g n p)) ≤ 126) := by omega
            clear hS145
            refine vc_iconst dX12_oneTurn_102 rfl ?_
            refine vc_iret dX12_oneTurn_103 rfl (Nat.le_of_ble_eq_true rfl) (Nat.le_of_ble_eq_true rfl) ?_
            exact ⟨_, rfl, hB134, kp135, by omega, by omega, by omega, by omega, by omega, by omega, by omega, by omega, by omega, by omega, by omega, by omega, by omega, fr137, ⟨FRb (q := (nx g n (nx g n p))) (by decide) (RT.rg rt136).1 (by rw [sTurn_at (by omega) (by omega), sNum_0 (by omega) (by omega), sB_0]; unfold sOn; rw [if_neg (by omega)]), fun hr => absurd hr (by omega)⟩⟩
        · refine vc_iconst dX12_oneTurn_63 rfl ?_
          refine vc_iret dX12_oneTurn_64 rfl (Nat.le_of_ble_eq_true rfl) (Nat.le_of_ble_eq_true rfl) ?_
          exact ⟨_, rfl, hB105, kp106, by omega, by omega, by omega, by omega, by omega, by omega, by omega, by omega, by omega, by omega, by omega, by omega, by omega, fr108, ⟨FRb (q := (nx g n p)) (by decide) (RT.rg rt107).1 (by rw [sTurn_at (by omega) (by omega), sNum_2 (by omega) (by omega)]; exact sB_p (by decide)), fun hr => absurd hr (by omega)⟩⟩
      · refine vc_iconst dX12_oneTurn_41 rfl ?_
        refine vc_iret dX12_oneTurn_42 rfl (Nat.le_of_ble_eq_true rfl) (Nat.le_of_ble_eq_true rfl) ?_
        exact ⟨_, rfl, hB105, kp106, by omega, by omega, by omega, by omega, by omega, by omega, by omega, by omega, by omega, by omega, by omega, by omega, by omega, fr108, ⟨FRb (q := (nx g n p)) (by decide) (RT.rg rt107).1 (by rw [sTurn_at (by omega) (by omega), sNum_1 (by omega)]; exact sB_p (by decide)), fun hr => absurd hr (by omega)⟩⟩
    · refine vc_bipush dX12_oneTurn_22 rfl ?_
      refine vc_iret dX12_oneTurn_24 rfl (Nat.le_of_ble_eq_true rfl) (Nat.le_of_ble_eq_true rfl) ?_
      exact ⟨_, rfl, hB0, rfl, by omega, by omega, by omega, by omega, by omega, by omega, by omega, by omega, by omega, by omega, by omega, by omega, by omega, (fun _ _ => rfl), ⟨FRb (q := p) (by decide) (RT.rg hT).1 (by unfold sTurn; rw [if_pos (by omega), if_pos (by omega)]), fun hr => absurd hr (by omega)⟩⟩
