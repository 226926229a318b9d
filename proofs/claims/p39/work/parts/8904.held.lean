set_option maxRecDepth 4000 in
theorem sfX12_heldV {l : Launch} {M : Mem} (hB : Box M)  (v : Int)  : Call l mdX12_held [aL v] M (fun q N => ∃ r : Int, q = some (aL r) ∧ M = N ∧ r = hvI v) := by
  have hB0 : BF fQ M M := BF.start hB
  refine Call.of [some (aL v), none] rfl (Nat.le_of_ble_eq_true rfl) rfl ?_
  refine vc_lload_n dX12_held_0 rfl ?_
  refine vc_ldc2 dX12_held_1 rfl klX12_281 ?_
  refine vc_lif_le dX12_held_4 dX12_held_5 (fun h1 => ?_) (fun h1 => ?_)
  · refine vc_lload_n dX12_held_14 rfl ?_
    refine vc_ldc2 dX12_held_15 rfl klX12_283 ?_
    refine vc_lif_ge dX12_held_18 dX12_held_19 (fun h2 => ?_) (fun h2 => ?_)
    · refine vc_lload_n dX12_held_28 rfl ?_
      refine vc_lret dX12_held_29 rfl (Nat.le_of_ble_eq_true rfl) (Nat.le_of_ble_eq_true rfl) ?_
      exact ⟨_, rfl, rfl, by unfold hvI; first | (rw [if_pos (by omega)]) | (rw [if_neg (by omega), if_pos (by omega)]) | (rw [if_neg (by omega), if_neg (by omega)])⟩
    · refine vc_ldc2 dX12_held_22 rfl klX12_283 ?_
      refine vc_goto dX12_held_25 ?_
      refine vc_lret dX12_held_29 rfl (Nat.le_of_ble_eq_true rfl) (Nat.le_of_ble_eq_true rfl) ?_
      exact ⟨_, rfl, rfl, by unfold hvI; first | (rw [if_pos (by omega)]) | (rw [if_neg (by omega), if_pos (by omega)]) | (rw [if_neg (by omega), if_neg (by omega)])⟩
  · refine vc_ldc2 dX12_held_8 rfl klX12_281 ?_
    refine vc_goto dX12_held_11 ?_
    refine vc_lret dX12_held_29 rfl (Nat.le_of_ble_eq_true rfl) (Nat.le_of_ble_eq_true rfl) ?_
    exact ⟨_, rfl, rfl, by unfold hvI; first | (rw [if_pos (by omega)]) | (rw [if_neg (by omega), if_pos (by omega)]) | (rw [if_neg (by omega), if_neg (by omega)])⟩
theorem tw_3 {o a b : Int} (h : o = 3) : twV o a b = hvI (a + b) := by unfold twV; rw [if_pos h]
theorem tw_4 {o a b : Int} (h : o = 4) : twV o a b = hvI (a - b) := by unfold twV; rw [if_neg (by omega), if_pos h]
theorem tw_5 {o a b : Int} (h : o = 5) : twV o a b = hvI (a * b) := by unfold twV; rw [if_neg (by omega), if_neg (by omega), if_pos h]
theorem tw_7 {o a b : Int} (h : o = 7) : twV o a b = if a < b then a else b := by unfold twV; rw [if_neg (by omega), if_neg (by omega), if_neg (by omega), if_pos h]
theorem tw_8 {o a b : Int} (h : o = 8) : twV o a b = if a > b then a else b := by unfold twV; rw [if_neg (by omega), if_neg (by omega), if_neg (by omega), if_neg (by omega), if_pos h]
theorem tw_6 {o a b : Int} (h : o = 6) : twV o a b = if b = 0 then 0 else Int.tdiv a b := by unfold twV; rw [if_neg (by omega), if_neg (by omega), if_neg (by omega), if_neg (by omega), if_neg (by omega)]
theorem mul_b {a b : Int} (ha : -1000000 ≤ a ∧ a ≤ 1000000) (hb : -1000000 ≤ b ∧ b ≤ 1000000) : -1000000000000 ≤ a * b ∧ a * b ≤ 1000000000000 := by
  have z : (a * b).natAbs ≤ 1000000 * 1000000 := by
    rw [Int.natAbs_mul]
    exact Nat.mul_le_mul (by omega) (by omega)
  omega
set_option maxRecDepth 4000 in
theorem sfX12_twoV {l : Launch} {M : Mem} (hB : Box M)  (op : Int) (x : Int) (y : Int) (hx : -1000000 ≤ x ∧ x ≤ 1000000) (hy : -1000000 ≤ y ∧ y ≤ 1000000) (h38 : 3 ≤ op ∧ op ≤ 8) : Call l mdX12_two [aI op, aL x, aL y] M (fun q N => ∃ r : Int, q = some (aL r) ∧ M = N ∧ r = twV op x y) := by
  have hB0 : BF fQ M M := BF.start hB
  refine Call.of [some (aI op), some (aL x), none, some (aL y), none] rfl (Nat.le_of_ble_eq_true rfl) rfl ?_
  refine vc_ok (fun hoM hoS hoL => ?_)
  have hr0 : -2147483648 ≤ op ∧ op < 2147483648 := hoL 0 _ rfl
  refine vc_iload_n dX12_two_0 rfl ?_
  by_cases h1 : op = 3
  · refine vc_tabIn dX12_two_1 3 40 h1 rfl rfl rfl ?_
    refine vc_lload_n dX12_two_40 rfl ?_
    refine vc_lload_n dX12_two_41 rfl ?_
    refine vc_ladd dX12_two_42 ?_
    refine vc_cSL dX12_two_43 (sfX12_heldV (M := M) hB0.1  (wL (x + y)) ) rfl okX12_held stX12_held lkX12_285 rfl (Nat.le_of_ble_eq_true rfl) ⟨rfl, rfl⟩ (Nat.le_of_ble_eq_true rfl) (Nat.le_of_ble_eq_true rfl) (Nat.le_of_ble_eq_true rfl) ?_
    rintro x2 _ ⟨rfl, hv⟩
    refine vc_lret dX12_two_46 rfl (Nat.le_of_ble_eq_true rfl) (Nat.le_of_ble_eq_true rfl) ?_
    exact ⟨_, rfl, rfl, by first | (exfalso; omega) | (rw [hv, tw_3 (by omega), wL_id (by omega) (by omega)]) | (rw [hv, tw_4 (by omega), wL_id (by omega) (by omega)]) | (have z := mul_b hx hy; rw [hv, tw_5 (by omega), wL_id (by omega) (by omega)]) | (rw [tw_7 (by omega), if_pos (by omega)]) | (rw [tw_7 (by omega), if_neg (by omega)]) | (rw [tw_8 (by omega), if_pos (by omega)]) | (rw [tw_8 (by omega), if_neg (by omega)]) | (rw [tw_6 (by omega), if_pos (by omega)]) | (rw [tw_6 (by omega), if_neg (by omega)]; unfold dvL; have z := Int.natAbs_tdiv_le_natAbs x y; exact wL_id (by omega) (by omega))⟩
  by_cases h3 : op = 4
  · refine vc_tabIn dX12_two_1 4 47 h3 rfl rfl rfl ?_
    refine vc_lload_n dX12_two_47 rfl ?_
    refine vc_lload_n dX12_two_48 rfl ?_
    refine vc_lsub dX12_two_49 ?_
    refine vc_cSL dX12_two_50 (sfX12_heldV (M := M) hB0.1  (wL (x - y)) ) rfl okX12_held stX12_held lkX12_285 rfl (Nat.le_of_ble_eq_true rfl) ⟨rfl, rfl⟩ (Nat.le_of_ble_eq_true rfl) (Nat.le_of_ble_eq_true rfl) (Nat.le_of_ble_eq_true rfl) ?_
    rintro x4 _ ⟨rfl, hv⟩
    refine vc_lret dX12_two_53 rfl (Nat.le_of_ble_eq_true rfl) (Nat.le_of_ble_eq_true rfl) ?_
    exact ⟨_, rfl, rfl, by first | (exfalso; omega) | (rw [hv, tw_3 (by omega), wL_id (by omega) (by omega)]) | (rw [hv, tw_4 (by omega), wL_id (by omega) (by omega)]) | (have z := mul_b hx hy; rw [hv, tw_5 (by omega), wL_id (by omega) (by omega)]) | (rw [tw_7 (by omega), if_pos (by omega)]) | (rw [tw_7 (by omega), if_neg (by omega)]) | (rw [tw_8 (by omega), if_pos (by omega)]) | (rw [tw_8 (by omega), if_neg (by omega)]) | (rw [tw_6 (by omega), if_pos (by omega)]) | (rw [tw_6 (by omega), if_neg (by omega)]; unfold dvL; have z := Int.natAbs_tdiv_le_natAbs x y; exact wL_id (by omega) (by omega))⟩
  by_cases h5 : op = 5
  · refine vc_tabIn dX12_two_1 5 54 h5 rfl rfl rfl ?_
    refine vc_lload_n dX12_two_54 rfl ?_
    refine vc_lload_n dX12_two_55 rfl ?_
    refine vc_lmul dX12_two_56 ?_
    refine vc_cSL dX12_two_57 (sfX12_heldV (M := M) hB0.1  (wL (x * y)) ) rfl okX12_held stX12_held lkX12_285 rfl (Nat.le_of_ble_eq_true rfl) ⟨rfl, rfl⟩ (Nat.le_of_ble_eq_true rfl) (Nat.le_of_ble_eq_true rfl) (Nat.le_of_ble_eq_true rfl) ?_
    rintro x6 _ ⟨rfl, hv⟩
    refine vc_lret dX12_two_60 rfl (Nat.le_of_ble_eq_true rfl) (Nat.le_of_ble_eq_true rfl) ?_
    exact ⟨_, rfl, rfl, by first | (exfalso; omega) | (rw [hv, tw_3 (by omega), wL_id (by omega) (by omega)]) | (rw [hv, tw_4 (by omega), wL_id (by omega) (by omega)]) | (have z := mul_b hx hy; rw [hv, tw_5 (by omega), wL_id (by omega) (by omega)]) | (rw [tw_7 (by omega), if_pos (by omega)]) | (rw [tw_7 (by omega), if_neg (by omega)]) | (rw [tw_8 (by omega), if_pos (by omega)]) | (rw [tw_8 (by omega), if_neg (by omega)]) | (rw [tw_6 (by omega), if_pos (by omega)]) | (rw [tw_6 (by omega), if_neg (by omega)]; unfold dvL; have z := Int.natAbs_tdiv_le_natAbs x y; exact wL_id (by omega) (by omega))⟩
  by_cases h7 : op = 7
  · refine vc_tabIn dX12_two_1 7 61 h7 rfl rfl rfl ?_
    refine vc_lload_n dX12_two_61 rfl ?_
    refine vc_lload_n dX12_two_62 rfl ?_
    refine vc_lif_ge dX12_two_63 dX12_two_64 (fun h8 => ?_) (fun h8 => ?_)
    · refine vc_lload_n dX12_two_71 rfl ?_
      refine vc_lret dX12_two_72 rfl (Nat.le_of_ble_eq_true rfl) (Nat.le_of_ble_eq_true rfl) ?_
      exact ⟨_, rfl, rfl, by first | (exfalso; omega) | (rw [hv, tw_3 (by omega), wL_id (by omega) (by omega)]) | (rw [hv, tw_4 (by omega), wL_id (by omega) (by omega)]) | (have z := mul_b hx hy; rw [hv, tw_5 (by omega), wL_id (by omega) (by omega)]) | (rw [tw_7 (by omega), if_pos (by omega)]) | (rw [tw_7 (by omega), if_neg (by omega)]) | (rw [tw_8 (by omega), if_pos (by omega)]) | (rw [tw_8 (by omega), if_neg (by omega)]) | (rw [tw_6 (by omega), if_pos (by omega)]) | (rw [tw_6 (by omega), if_neg (by omega)]; unfold dvL; have z := Int.natAbs_tdiv_le_natAbs x y; exact wL_id (by omega) (by omega))⟩
    · refine vc_lload_n dX12_two_67 rfl ?_
      refine vc_goto dX12_two_68 ?_
      refine vc_lret dX12_two_72 rfl (Nat.le_of_ble_eq_true rfl) (Nat.le_of_ble_eq_true rfl) ?_
      exact ⟨_, rfl, rfl, by first | (exfalso; omega) | (rw [hv, tw_3 (by omega), wL_id (by omega) (by omega)]) | (rw [hv, tw_4 (by omega), wL_id (by omega) (by omega)]) | (have z := mul_b hx hy; rw [hv, tw_5 (by omega), wL_id (by omega) (by omega)]) | (rw [tw_7 (by omega), if_pos (by omega)]) | (rw [tw_7 (by omega), if_neg (by omega)]) | (rw [tw_8 (by omega), if_pos (by omega)]) | (rw [tw_8 (by omega), if_neg (by omega)]) | (rw [tw_6 (by omega), if_pos (by omega)]) | (rw [tw_6 (by omega), if_neg (by omega)]; unfold dvL; have z := Int.natAbs_tdiv_le_natAbs x y; exact wL_id (by omega) (by omega))⟩
  by_cases h9 : op = 8
  · refine vc_tabIn dX12_two_1 8 73 h9 rfl rfl rfl ?_
    refine vc_lload_n dX12_two_73 rfl ?_
    refine vc_lload_n dX12_two_74 rfl ?_
    refine vc_lif_le dX12_two_75 dX12_two_76 (fun h10 => ?_) (fun h10 => ?_)
    · refine vc_lload_n dX12_two_83 rfl ?_
      refine vc_lret dX12_two_84 rfl (Nat.le_of_ble_eq_true rfl) (Nat.le_of_ble_eq_true rfl) ?_
      exact ⟨_, rfl, rfl, by first | (exfalso; omega) | (rw [hv, tw_3 (by omega), wL_id (by omega) (by omega)]) | (rw [hv, tw_4 (by omega), wL_id (by omega) (by omega)]) | (have z := mul_b hx hy; rw [hv, tw_5 (by omega), wL_id (by omega) (by omega)]) | (rw [tw_7 (by omega), if_pos (by omega)]) | (rw [tw_7 (by omega), if_neg (by omega)]) | (rw [tw_8 (by omega), if_pos (by omega)]) | (rw [tw_8 (by omega), if_neg (by omega)]) | (rw [tw_6 (by omega), if_pos (by omega)]) | (rw [tw_6 (by omega), if_neg (by omega)]; unfold dvL; have z := Int.natAbs_tdiv_le_natAbs x y; exact wL_id (by omega) (by omega))⟩
    · refine vc_lload_n dX12_two_79 rfl ?_
      refine vc_goto dX12_two_80 ?_
      refine vc_lret dX12_two_84 rfl (Nat.le_of_ble_eq_true rfl) (Nat.le_of_ble_eq_true rfl) ?_
      exact ⟨_, rfl, rfl, by first | (exfalso; omega) | (rw [hv, tw_3 (by omega), wL_id (by omega) (by omega)]) | (rw [hv, tw_4 (by omega), wL_id (by omega) (by omega)]) | (have z := mul_b hx hy; rw [hv, tw_5 (by omega), wL_id (by omega) (by omega)]) | (rw [tw_7 (by omega), if_pos (by omega)]) | (rw [tw_7 (by omega), if_neg (by omega)]) | (rw [tw_8 (by omega), if_pos (by omega)]) | (rw [tw_8 (by omega), if_neg (by omega)]) | (rw [tw_6 (by omega), if_pos (by omega)]) | (rw [tw_6 (by omega), if_neg (by omega)]; unfold dvL; have z := Int.natAbs_tdiv_le_natAbs x y; exact wL_id (by omega) (by omega))⟩
  by_cases h11 : op = 6
  · refine vc_tabIn dX12_two_1 6 85 h11 rfl rfl rfl ?_
    refine vc_lload_n dX12_two_85 rfl ?_
    refine vc_lconst dX12_two_86 ?_
    refine vc_topL 0 rfl ?_
    refine vc_lif_ne dX12_two_87 dX12_two_88 (fun h12 => ?_) (fun h12 => ?_)
    · refine vc_lload_n dX12_two_95 rfl ?_
      refine vc_lload_n dX12_two_96 rfl ?_
      refine vc_ldiv dX12_two_97 (by omega) ?_
      refine vc_lret dX12_two_98 rfl (Nat.le_of_ble_eq_true rfl) (Nat.le_of_ble_eq_true rfl) ?_
      exact ⟨_, rfl, rfl, by first | (exfalso; omega) | (rw [hv, tw_3 (by omega), wL_id (by omega) (by omega)]) | (rw [hv, tw_4 (by omega), wL_id (by omega) (by omega)]) | (have z := mul_b hx hy; rw [hv, tw_5 (by omega), wL_id (by omega) (by omega)]) | (rw [tw_7 (by omega), if_pos (by omega)]) | (rw [tw_7 (by omega), if_neg (by omega)]) | (rw [tw_8 (by omega), if_pos (by omega)]) | (rw [tw_8 (by omega), if_neg (by omega)]) | (rw [tw_6 (by omega), if_pos (by omega)]) | (rw [tw_6 (by omega), if_neg (by omega)]; unfold dvL; have z := Int.natAbs_tdiv_le_natAbs x y; exact wL_id (by omega) (by omega))⟩
    · refine vc_lconst dX12_two_91 ?_
      refine vc_topL 0 rfl ?_
      refine vc_goto dX12_two_92 ?_
      refine vc_lret dX12_two_98 rfl (Nat.le_of_ble_eq_true rfl) (Nat.le_of_ble_eq_true rfl) ?_
      exact ⟨_, rfl, rfl, by first | (exfalso; omega) | (rw [hv, tw_3 (by omega), wL_id (by omega) (by omega)]) | (rw [hv, tw_4 (by omega), wL_id (by omega) (by omega)]) | (have z := mul_b hx hy; rw [hv, tw_5 (by omega), wL_id (by omega) (by omega)]) | (rw [tw_7 (by omega), if_pos (by omega)]) | (rw [tw_7 (by omega), if_neg (by omega)]) | (rw [tw_8 (by omega), if_pos (by omega)]) | (rw [tw_8 (by omega), if_neg (by omega)]) | (rw [tw_6 (by omega), if_pos (by omega)]) | (rw [tw_6 (by omega), if_neg (by omega)]; unfold dvL; have z := Int.natAbs_tdiv_le_natAbs x y; exact wL_id (by omega) (by omega))⟩
  refine vc_tabOut dX12_two_1 85 (by omega) rfl ?_
  refine vc_lload_n dX12_two_85 rfl ?_
  refine vc_lconst dX12_two_86 ?_
  refine vc_topL 0 rfl ?_
  refine vc_lif_ne dX12_two_87 dX12_two_88 (fun h13 => ?_) (fun h13 => ?_)
  · refine vc_lload_n dX12_two_95 rfl ?_
    refine vc_lload_n dX12_two_96 rfl ?_
    refine vc_ldiv dX12_two_97 (by omega) ?_
    refine vc_lret dX12_two_98 rfl (Nat.le_of_ble_eq_true rfl) (Nat.le_of_ble_eq_true rfl) ?_
    exact ⟨_, rfl, rfl, by first | (exfalso; omega) | (rw [hv, tw_3 (by omega), wL_id (by omega) (by omega)]) | (rw [hv, tw_4 (by omega), wL_id (by omega) (by omega)]) | (have z := mul_b hx hy; rw [hv, tw_5 (by omega), wL_id (by omega) (by omega)]) | (rw [tw_7 (by omega), if_pos (by omega)]) | (rw [tw_7 (by omega), if_neg (by omega)]) | (rw [tw_8 (by omega), if_pos (by omega)]) | (rw [tw_8 (by omega), if_neg (by omega)]) | (rw [tw_6 (by omega), if_pos (by omega)]) | (rw [tw_6 (by omega), if_neg (by omega)]; unfold dvL; have z := Int.natAbs_tdiv_le_natAbs x y; exact wL_id (by omega) (by omega))⟩
  · refine vc_lconst dX12_two_91 ?_
    refine vc_topL 0 rfl ?_
    refine vc_goto dX12_two_92 ?_
    refine vc_lret dX12_two_98 rfl (Nat.le_of_ble_eq_true rfl) (Nat.le_of_ble_eq_true rfl) ?_
    exact ⟨_, rfl, rfl, by first | (exfalso; omega) | (rw [hv, tw_3 (by omega), wL_id (by omega) (by omega)]) | (rw [hv, tw_4 (by omega), wL_id (by omega) (by omega)]) | (have z := mul_b hx hy; rw [hv, tw_5 (by omega), wL_id (by omega) (by omega)]) | (rw [tw_7 (by omega), if_pos (by omega)]) | (rw [tw_7 (by omega), if_neg (by omega)]) | (rw [tw_8 (by omega), if_pos (by omega)]) | (rw [tw_8 (by omega), if_neg (by omega)]) | (rw [tw_6 (by omega), if_pos (by omega)]) | (rw [tw_6 (by omega), if_neg (by omega)]; unfold dvL; have z := Int.natAbs_tdiv_le_natAbs x y; exact wL_id (by omega) (by omega))⟩
