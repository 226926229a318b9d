/-! LAWS: two values, in the class -/
theorem tk_3 {o a b : Int} (h : o = 3) : twK o a b = hvI (a + b) := by unfold twK; rw [if_pos h]
theorem tk_4 {o a b : Int} (h : o = 4) : twK o a b = hvI (a - b) := by unfold twK; rw [if_neg (by omega), if_pos h]
theorem tk_5 {o a b : Int} (h : o = 5) : twK o a b = hvI (a * b) := by unfold twK; rw [if_neg (by omega), if_neg (by omega), if_pos h]
theorem tk_7 {o a b : Int} (h : o = 7) : twK o a b = hvI (if a < b then a else b) := by unfold twK; rw [if_neg (by omega), if_neg (by omega), if_neg (by omega), if_pos h]
theorem tk_8 {o a b : Int} (h : o = 8) : twK o a b = hvI (if a > b then a else b) := by unfold twK; rw [if_neg (by omega), if_neg (by omega), if_neg (by omega), if_neg (by omega), if_pos h]
theorem tk_6 {o a b : Int} (h : o = 6) : twK o a b = hvI (if b = 0 then 0 else Int.tdiv a b) := by unfold twK; rw [if_neg (by omega), if_neg (by omega), if_neg (by omega), if_neg (by omega), if_neg (by omega)]
theorem mul_i {a b : Int} (ha : -2147483648 ≤ a ∧ a < 2147483648) (hb : -2147483648 ≤ b ∧ b < 2147483648) : -4611686018427387904 ≤ a * b ∧ a * b ≤ 4611686018427387904 := by
  have z : (a * b).natAbs ≤ 2147483648 * 2147483648 := by
    rw [Int.natAbs_mul]
    exact Nat.mul_le_mul (by omega) (by omega)
  omega
theorem cl_hv (v : Int) : wI (maxZ (-1000000) (minZ 1000000 v)) = hvI v := by
  have k1 := minZ_bd 1000000 v
  have k2 := maxZ_bd (-1000000) (minZ 1000000 v)
  rw [wI_id (by omega) (by omega)]
  unfold maxZ minZ hvI
  (repeat' split) <;> omega
set_option maxRecDepth 4000 in
theorem sfX5_ofTwoK {l : Launch} {M : Mem} (hB : Box M)  (op : Int) (a : Int) (b : Int) (hx : -2147483648 ≤ a ∧ a < 2147483648) (hy : -2147483648 ≤ b ∧ b < 2147483648) (h38 : 20000 ≤ op ∧ op ≤ 20005) : Call l mdX5_ofTwo [aI op, aL a, aL b] M (fun q N => ∃ r : Int, q = some (aI r) ∧ M = N ∧ r = twK (op - 19997) a b) := by
  have hB0 : BF fQ M M := BF.start hB
  refine Call.of [some (aI op), some (aL a), none, some (aL b), none, none, none] rfl (Nat.le_of_ble_eq_true rfl) rfl ?_
  refine vc_ok (fun hoM hoS hoL => ?_)
  have hr0 : -2147483648 ≤ op ∧ op < 2147483648 := hoL 0 _ rfl
  refine vc_lconst dX5_ofTwo_0 ?_
  refine vc_topL 0 rfl ?_
  refine vc_lstore dX5_ofTwo_1 (by decide) rfl rfl (show _ = [some (aI op), some (aL a), none, some (aL b), none, some (aL 0), none] from rfl) ?_
  refine vc_iload_n dX5_ofTwo_3 rfl ?_
  by_cases h1 : op = 20000
  · refine vc_tabIn dX5_ofTwo_4 20000 44 h1 rfl rfl rfl ?_
    refine vc_lload_n dX5_ofTwo_44 rfl ?_
    refine vc_lload_n dX5_ofTwo_45 rfl ?_
    refine vc_ladd dX5_ofTwo_46 ?_
    refine vc_nameL (fun x2 ex2 => ?_)
    refine vc_lstore dX5_ofTwo_47 (by decide) rfl rfl (show _ = [some (aI op), some (aL a), none, some (aL b), none, some (aL x2), none] from rfl) ?_
    refine vc_goto dX5_ofTwo_49 ?_
    refine vc_ldc2 dX5_ofTwo_106 rfl klX5_45 ?_
    refine vc_ldc2 dX5_ofTwo_109 rfl klX5_47 ?_
    refine vc_lload dX5_ofTwo_112 rfl ?_
    refine vc_mminL dX5_ofTwo_114 lkX5_39 (Nat.le_of_ble_eq_true rfl) (Nat.le_of_ble_eq_true rfl) (Nat.le_of_ble_eq_true rfl) ?_
    have k3 := minZ_bd 1000000 x2
    refine vc_mmaxL dX5_ofTwo_117 lkX5_42 (Nat.le_of_ble_eq_true rfl) (Nat.le_of_ble_eq_true rfl) (Nat.le_of_ble_eq_true rfl) ?_
    have k4 := maxZ_bd (-1000000) (minZ 1000000 x2)
    refine vc_l2i dX5_ofTwo_120 ?_
    refine vc_iret dX5_ofTwo_121 rfl (Nat.le_of_ble_eq_true rfl) (Nat.le_of_ble_eq_true rfl) ?_
    exact ⟨_, rfl, rfl, by rw [cl_hv, ex2]; first | (rw [tk_3 (by omega), wL_id (by omega) (by omega)]) | (rw [tk_4 (by omega), wL_id (by omega) (by omega)]) | (have z := mul_i hx hy; rw [tk_5 (by omega), wL_id (by omega) (by omega)]) | (rw [tk_7 (by omega)]; congr 1; unfold minZ; split <;> split <;> omega) | (rw [tk_8 (by omega)]; congr 1; unfold maxZ; split <;> split <;> omega) | (rw [tk_6 (by omega), if_neg (by omega)]; unfold dvL; have z := Int.natAbs_tdiv_le_natAbs a b; rw [wL_id (by omega) (by omega)])⟩
  by_cases h5 : op = 20001
  · refine vc_tabIn dX5_ofTwo_4 20001 52 h5 rfl rfl rfl ?_
    refine vc_lload_n dX5_ofTwo_52 rfl ?_
    refine vc_lload_n dX5_ofTwo_53 rfl ?_
    refine vc_lsub dX5_ofTwo_54 ?_
    refine vc_nameL (fun x6 ex6 => ?_)
    refine vc_lstore dX5_ofTwo_55 (by decide) rfl rfl (show _ = [some (aI op), some (aL a), none, some (aL b), none, some (aL x6), none] from rfl) ?_
    refine vc_goto dX5_ofTwo_57 ?_
    refine vc_ldc2 dX5_ofTwo_106 rfl klX5_45 ?_
    refine vc_ldc2 dX5_ofTwo_109 rfl klX5_47 ?_
    refine vc_lload dX5_ofTwo_112 rfl ?_
    refine vc_mminL dX5_ofTwo_114 lkX5_39 (Nat.le_of_ble_eq_true rfl) (Nat.le_of_ble_eq_true rfl) (Nat.le_of_ble_eq_true rfl) ?_
    have k7 := minZ_bd 1000000 x6
    refine vc_mmaxL dX5_ofTwo_117 lkX5_42 (Nat.le_of_ble_eq_true rfl) (Nat.le_of_ble_eq_true rfl) (Nat.le_of_ble_eq_true rfl) ?_
    have k8 := maxZ_bd (-1000000) (minZ 1000000 x6)
    refine vc_l2i dX5_ofTwo_120 ?_
    refine vc_iret dX5_ofTwo_121 rfl (Nat.le_of_ble_eq_true rfl) (Nat.le_of_ble_eq_true rfl) ?_
    exact ⟨_, rfl, rfl, by rw [cl_hv, ex6]; first | (rw [tk_3 (by omega), wL_id (by omega) (by omega)]) | (rw [tk_4 (by omega), wL_id (by omega) (by omega)]) | (have z := mul_i hx hy; rw [tk_5 (by omega), wL_id (by omega) (by omega)]) | (rw [tk_7 (by omega)]; congr 1; unfold minZ; split <;> split <;> omega) | (rw [tk_8 (by omega)]; congr 1; unfold maxZ; split <;> split <;> omega) | (rw [tk_6 (by omega), if_neg (by omega)]; unfold dvL; have z := Int.natAbs_tdiv_le_natAbs a b; rw [wL_id (by omega) (by omega)])⟩
  by_cases h9 : op = 20002
  · refine vc_tabIn dX5_ofTwo_4 20002 60 h9 rfl rfl rfl ?_
    refine vc_lload_n dX5_ofTwo_60 rfl ?_
    refine vc_lload_n dX5_ofTwo_61 rfl ?_
    refine vc_lmul dX5_ofTwo_62 ?_
    refine vc_nameL (fun x10 ex10 => ?_)
    refine vc_lstore dX5_ofTwo_63 (by decide) rfl rfl (show _ = [some (aI op), some (aL a), none, some (aL b), none, some (aL x10), none] from rfl) ?_
    refine vc_goto dX5_ofTwo_65 ?_
    refine vc_ldc2 dX5_ofTwo_106 rfl klX5_45 ?_
    refine vc_ldc2 dX5_ofTwo_109 rfl klX5_47 ?_
    refine vc_lload dX5_ofTwo_112 rfl ?_
    refine vc_mminL dX5_ofTwo_114 lkX5_39 (Nat.le_of_ble_eq_true rfl) (Nat.le_of_ble_eq_true rfl) (Nat.le_of_ble_eq_true rfl) ?_
    have k11 := minZ_bd 1000000 x10
    refine vc_mmaxL dX5_ofTwo_117 lkX5_42 (Nat.le_of_ble_eq_true rfl) (Nat.le_of_ble_eq_true rfl) (Nat.le_of_ble_eq_true rfl) ?_
    have k12 := maxZ_bd (-1000000) (minZ 1000000 x10)
    refine vc_l2i dX5_ofTwo_120 ?_
    refine vc_iret dX5_ofTwo_121 rfl (Nat.le_of_ble_eq_true rfl) (Nat.le_of_ble_eq_true rfl) ?_
    exact ⟨_, rfl, rfl, by rw [cl_hv, ex10]; first | (rw [tk_3 (by omega), wL_id (by omega) (by omega)]) | (rw [tk_4 (by omega), wL_id (by omega) (by omega)]) | (have z := mul_i hx hy; rw [tk_5 (by omega), wL_id (by omega) (by omega)]) | (rw [tk_7 (by omega)]; congr 1; unfold minZ; split <;> split <;> omega) | (rw [tk_8 (by omega)]; congr 1; unfold maxZ; split <;> split <;> omega) | (rw [tk_6 (by omega), if_neg (by omega)]; unfold dvL; have z := Int.natAbs_tdiv_le_natAbs a b; rw [wL_id (by omega) (by omega)])⟩
  by_cases h13 : op = 20003
  · refine vc_tabIn dX5_ofTwo_4 20003 68 h13 rfl rfl rfl ?_
    refine vc_lload_n dX5_ofTwo_68 rfl ?_
    refine vc_lconst dX5_ofTwo_69 ?_
    refine vc_topL 0 rfl ?_
    refine vc_lif_ne dX5_ofTwo_70 dX5_ofTwo_71 (fun h14 => ?_) (fun h14 => ?_)
    · refine vc_lload_n dX5_ofTwo_78 rfl ?_
      refine vc_lload_n dX5_ofTwo_79 rfl ?_
      refine vc_ldiv dX5_ofTwo_80 (by omega) ?_
      refine vc_nameL (fun x15 ex15 => ?_)
      refine vc_lstore dX5_ofTwo_81 (by decide) rfl rfl (show _ = [some (aI op), some (aL a), none, some (aL b), none, some (aL x15), none] from rfl) ?_
      refine vc_goto dX5_ofTwo_83 ?_
      refine vc_ldc2 dX5_ofTwo_106 rfl klX5_45 ?_
      refine vc_ldc2 dX5_ofTwo_109 rfl klX5_47 ?_
      refine vc_lload dX5_ofTwo_112 rfl ?_
      refine vc_mminL dX5_ofTwo_114 lkX5_39 (Nat.le_of_ble_eq_true rfl) (Nat.le_of_ble_eq_true rfl) (Nat.le_of_ble_eq_true rfl) ?_
      have k16 := minZ_bd 1000000 x15
      refine vc_mmaxL dX5_ofTwo_117 lkX5_42 (Nat.le_of_ble_eq_true rfl) (Nat.le_of_ble_eq_true rfl) (Nat.le_of_ble_eq_true rfl) ?_
      have k17 := maxZ_bd (-1000000) (minZ 1000000 x15)
      refine vc_l2i dX5_ofTwo_120 ?_
      refine vc_iret dX5_ofTwo_121 rfl (Nat.le_of_ble_eq_true rfl) (Nat.le_of_ble_eq_true rfl) ?_
      exact ⟨_, rfl, rfl, by rw [cl_hv, ex15]; first | (rw [tk_3 (by omega), wL_id (by omega) (by omega)]) | (rw [tk_4 (by omega), wL_id (by omega) (by omega)]) | (have z := mul_i hx hy; rw [tk_5 (by omega), wL_id (by omega) (by omega)]) | (rw [tk_7 (by omega)]; congr 1; unfold minZ; split <;> split <;> omega) | (rw [tk_8 (by omega)]; congr 1; unfold maxZ; split <;> split <;> omega) | (rw [tk_6 (by omega), if_neg (by omega)]; unfold dvL; have z := Int.natAbs_tdiv_le_natAbs a b; rw [wL_id (by omega) (by omega)])⟩
    · refine vc_lconst dX5_ofTwo_74 ?_
      refine vc_topL 0 rfl ?_
      refine vc_goto dX5_ofTwo_75 ?_
      refine vc_lstore dX5_ofTwo_81 (by decide) rfl rfl (show _ = [some (aI op), some (aL a), none, some (aL b), none, some (aL 0), none] from rfl) ?_
      refine vc_goto dX5_ofTwo_83 ?_
      refine vc_ldc2 dX5_ofTwo_106 rfl klX5_45 ?_
      refine vc_ldc2 dX5_ofTwo_109 rfl klX5_47 ?_
      refine vc_lload dX5_ofTwo_112 rfl ?_
      refine vc_mminL dX5_ofTwo_114 lkX5_39 (Nat.le_of_ble_eq_true rfl) (Nat.le_of_ble_eq_true rfl) (Nat.le_of_ble_eq_true rfl) ?_
      refine vc_topL 0 rfl ?_
      refine vc_mmaxL dX5_ofTwo_117 lkX5_42 (Nat.le_of_ble_eq_true rfl) (Nat.le_of_ble_eq_true rfl) (Nat.le_of_ble_eq_true rfl) ?_
      refine vc_topL 0 rfl ?_
      refine vc_l2iE dX5_ofTwo_120 (by omega) (by omega) ?_
      refine vc_iret dX5_ofTwo_121 rfl (Nat.le_of_ble_eq_true rfl) (Nat.le_of_ble_eq_true rfl) ?_
      exact ⟨_, rfl, rfl, by first | (exfalso; omega) | (rw [tk_6 (by omega), if_pos (by omega)]; rfl)⟩
  by_cases h18 : op = 20004
  · refine vc_tabIn dX5_ofTwo_4 20004 86 h18 rfl rfl rfl ?_
    refine vc_lload_n dX5_ofTwo_86 rfl ?_
    refine vc_lload_n dX5_ofTwo_87 rfl ?_
    refine vc_mminL dX5_ofTwo_88 lkX5_39 (Nat.le_of_ble_eq_true rfl) (Nat.le_of_ble_eq_true rfl) (Nat.le_of_ble_eq_true rfl) ?_
    have k19 := minZ_bd a b
    refine vc_nameL (fun x20 ex20 => ?_)
    refine vc_lstore dX5_ofTwo_91 (by decide) rfl rfl (show _ = [some (aI op), some (aL a), none, some (aL b), none, some (aL x20), none] from rfl) ?_
    refine vc_goto dX5_ofTwo_93 ?_
    refine vc_ldc2 dX5_ofTwo_106 rfl klX5_45 ?_
    refine vc_ldc2 dX5_ofTwo_109 rfl klX5_47 ?_
    refine vc_lload dX5_ofTwo_112 rfl ?_
    refine vc_mminL dX5_ofTwo_114 lkX5_39 (Nat.le_of_ble_eq_true rfl) (Nat.le_of_ble_eq_true rfl) (Nat.le_of_ble_eq_true rfl) ?_
    have k21 := minZ_bd 1000000 x20
    refine vc_mmaxL dX5_ofTwo_117 lkX5_42 (Nat.le_of_ble_eq_true rfl) (Nat.le_of_ble_eq_true rfl) (Nat.le_of_ble_eq_true rfl) ?_
    have k22 := maxZ_bd (-1000000) (minZ 1000000 x20)
    refine vc_l2i dX5_ofTwo_120 ?_
    refine vc_iret dX5_ofTwo_121 rfl (Nat.le_of_ble_eq_true rfl) (Nat.le_of_ble_eq_true rfl) ?_
    exact ⟨_, rfl, rfl, by rw [cl_hv, ex20]; first | (rw [tk_3 (by omega), wL_id (by omega) (by omega)]) | (rw [tk_4 (by omega), wL_id (by omega) (by omega)]) | (have z := mul_i hx hy; rw [tk_5 (by omega), wL_id (by omega) (by omega)]) | (rw [tk_7 (by omega)]; congr 1; unfold minZ; split <;> split <;> omega) | (rw [tk_8 (by omega)]; congr 1; unfold maxZ; split <;> split <;> omega) | (rw [tk_6 (by omega), if_neg (by omega)]; unfold dvL; have z := Int.natAbs_tdiv_le_natAbs a b; rw [wL_id (by omega) (by omega)])⟩
  by_cases h23 : op = 20005
  · refine vc_tabIn dX5_ofTwo_4 20005 96 h23 rfl rfl rfl ?_
    refine vc_lload_n dX5_ofTwo_96 rfl ?_
    refine vc_lload_n dX5_ofTwo_97 rfl ?_
    refine vc_mmaxL dX5_ofTwo_98 lkX5_42 (Nat.le_of_ble_eq_true rfl) (Nat.le_of_ble_eq_true rfl) (Nat.le_of_ble_eq_true rfl) ?_
    have k24 := maxZ_bd a b
    refine vc_nameL (fun x25 ex25 => ?_)
    refine vc_lstore dX5_ofTwo_101 (by decide) rfl rfl (show _ = [some (aI op), some (aL a), none, some (aL b), none, some (aL x25), none] from rfl) ?_
    refine vc_goto dX5_ofTwo_103 ?_
    refine vc_ldc2 dX5_ofTwo_106 rfl klX5_45 ?_
    refine vc_ldc2 dX5_ofTwo_109 rfl klX5_47 ?_
    refine vc_lload dX5_ofTwo_112 rfl ?_
    refine vc_mminL dX5_ofTwo_114 lkX5_39 (Nat.le_of_ble_eq_true rfl) (Nat.le_of_ble_eq_true rfl) (Nat.le_of_ble_eq_true rfl) ?_
    have k26 := minZ_bd 1000000 x25
    refine vc_mmaxL dX5_ofTwo_117 lkX5_42 (Nat.le_of_ble_eq_true rfl) (Nat.le_of_ble_eq_true rfl) (Nat.le_of_ble_eq_true rfl) ?_
    have k27 := maxZ_bd (-1000000) (minZ 1000000 x25)
    refine vc_l2i dX5_ofTwo_120 ?_
    refine vc_iret dX5_ofTwo_121 rfl (Nat.le_of_ble_eq_true rfl) (Nat.le_of_ble_eq_true rfl) ?_
    exact ⟨_, rfl, rfl, by rw [cl_hv, ex25]; first | (rw [tk_3 (by omega), wL_id (by omega) (by omega)]) | (rw [tk_4 (by omega), wL_id (by omega) (by omega)]) | (have z := mul_i hx hy; rw [tk_5 (by omega), wL_id (by omega) (by omega)]) | (rw [tk_7 (by omega)]; congr 1; unfold minZ; split <;> split <;> omega) | (rw [tk_8 (by omega)]; congr 1; unfold maxZ; split <;> split <;> omega) | (rw [tk_6 (by omega), if_neg (by omega)]; unfold dvL; have z := Int.natAbs_tdiv_le_natAbs a b; rw [wL_id (by omega) (by omega)])⟩
  refine vc_tabOut dX5_ofTwo_4 106 (by omega) rfl ?_
  refine vc_ldc2 dX5_ofTwo_106 rfl klX5_45 ?_
  refine vc_ldc2 dX5_ofTwo_109 rfl klX5_47 ?_
  refine vc_lload dX5_ofTwo_112 rfl ?_
  refine vc_mminL dX5_ofTwo_114 lkX5_39 (Nat.le_of_ble_eq_true rfl) (Nat.le_of_ble_eq_true rfl) (Nat.le_of_ble_eq_true rfl) ?_
  refine vc_topL 0 rfl ?_
  refine vc_mmaxL dX5_ofTwo_117 lkX5_42 (Nat.le_of_ble_eq_true rfl) (Nat.le_of_ble_eq_true rfl) (Nat.le_of_ble_eq_true rfl) ?_
  refine vc_topL 0 rfl ?_
  refine vc_l2iE dX5_ofTwo_120 (by omega) (by omega) ?_
  refine vc_iret dX5_ofTwo_121 rfl (Nat.le_of_ble_eq_true rfl) (Nat.le_of_ble_eq_true rfl) ?_
  exact ⟨_, rfl, rfl, by first | (exfalso; omega) | (rw [tk_6 (by omega), if_pos (by omega)]; rfl)⟩
