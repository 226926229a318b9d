/-! CONTRACTS of Text, Laws, Going, Walker (written by wip/p35/c73.py) -/
set_option maxRecDepth 4000 in
theorem sfX5_rules {l : Launch} {M : Mem} (hB : Box M)  (y : Nat) (law : Int) (p0 : TxO M y) : Call l mdX5_rules [aR y, aI law] M (fun q N => ∃ r : Int, q = some (aI r) ∧ M = N ∧ 0 ≤ r ∧ r ≤ 1 ∧ (r = 0 ∨ ∀ b, mR M y 1 = some b → 0 ≤ mI M b (2 * law).toNat)) := by
  have hB0 : BF fQ M M := BF.start hB
  refine Call.of [some (aR y), some (aI law)] rfl (Nat.le_of_ble_eq_true rfl) rfl ?_
  refine vc_ok (fun hoM hoS hoL => ?_)
  have hr1 : -2147483648 ≤ law ∧ law < 2147483648 := hoL 1 _ rfl
  have t1 : TxO M y := p0
  obtain ⟨q7, q8, q21, ta2, tb3, tc4, tn5, tm6, q9, q10, q11, q12, q13, q14, q15, q16, q17, q18, q19, q20⟩ := id t1
  refine vc_iload_n dX5_rules_0 rfl ?_
  refine vc_if_lt dX5_rules_1 (fun h22 => ?_) (fun h22 => ?_)
  · refine vc_iconst dX5_rules_25 rfl ?_
    refine vc_zret dX5_rules_26 rfl (by first | decide | omega) (Nat.le_of_ble_eq_true rfl) (Nat.le_of_ble_eq_true rfl) ?_
    exact ⟨_, rfl, rfl, by omega, by omega, Or.inl rfl⟩
  · refine vc_iload_n dX5_rules_4 rfl ?_
    refine vc_iconst dX5_rules_5 rfl ?_
    refine vc_icmp_ge dX5_rules_6 (fun h23 => ?_) (fun h23 => ?_)
    · refine vc_iconst dX5_rules_25 rfl ?_
      refine vc_zret dX5_rules_26 rfl (by first | decide | omega) (Nat.le_of_ble_eq_true rfl) (Nat.le_of_ble_eq_true rfl) ?_
      exact ⟨_, rfl, rfl, by omega, by omega, Or.inl rfl⟩
    · refine vc_aload_n dX5_rules_9 rfl ?_
      refine vc_getR dX5_rules_10 flX5_15 (hB0.2.sh q7 q8) rfl ((hB0.2.rf q7 q8 1).trans q10) ?_
      refine vc_iconst dX5_rules_13 rfl ?_
      refine vc_iload_n dX5_rules_14 rfl ?_
      refine vc_imulE dX5_rules_15 (by omega) (by omega) ?_
      refine vc_iaload dX5_rules_16 (hB0.2.sh q13 q16) (by omega) (by omega) ?_
      have k24 : (-1) ≤ mI M tb3 ((2 * law).toNat) ∧ mI M tb3 ((2 * law).toNat) ≤ 300 := (by rw [hB0.2.vl q13 q16]; exact q20 _)
      refine vc_iconst dX5_rules_17 rfl ?_
      refine vc_icmp_eq dX5_rules_18 (fun h25 => ?_) (fun h25 => ?_)
      · refine vc_iconst dX5_rules_25 rfl ?_
        refine vc_zret dX5_rules_26 rfl (by first | decide | omega) (Nat.le_of_ble_eq_true rfl) (Nat.le_of_ble_eq_true rfl) ?_
        exact ⟨_, rfl, rfl, by omega, by omega, Or.inl rfl⟩
      · refine vc_iconst dX5_rules_21 rfl ?_
        refine vc_goto dX5_rules_22 ?_
        refine vc_zret dX5_rules_26 rfl (by first | decide | omega) (Nat.le_of_ble_eq_true rfl) (Nat.le_of_ble_eq_true rfl) ?_
        exact ⟨_, rfl, rfl, by omega, by omega, Or.inr (fun b hb => by have e9 : tb3 = b := Option.some.inj (q10.symm.trans hb); subst e9; omega)⟩

set_option maxRecDepth 4000 in
theorem sfX5_ofTwo {l : Launch} {M : Mem} (hB : Box M)  (op : Int) (a : Int) (b : Int)  : Call l mdX5_ofTwo [aI op, aL a, aL b] M (fun q N => ∃ r : Int, q = some (aI r) ∧ M = N) := by
  have hB0 : BF fQ M M := BF.start hB
  refine Call.of [some (aI op), some (aL a), none, some (aL b), none, none, none] rfl (Nat.le_of_ble_eq_true rfl) rfl ?_
  refine vc_ok (fun hoM hoS hoL => ?_)
  have hr0 : -2147483648 ≤ op ∧ op < 2147483648 := hoL 0 _ rfl
  refine vc_lconst dX5_ofTwo_0 ?_
  refine vc_topL 0 rfl ?_
  refine vc_lstore dX5_ofTwo_1 (by decide) rfl rfl (show _ = [some (aI op), some (aL a), none, some (aL b), none, some (aL 0), none] from rfl) ?_
  refine vc_iload_n dX5_ofTwo_3 rfl ?_
  by_cases h1 : op = 20000
  · refine vc_tabIn dX5_ofTwo_4 20000 44 h1 rfl rfl rfl ?_
    refine vc_lload_n dX5_ofTwo_44 rfl ?_
    refine vc_lload_n dX5_ofTwo_45 rfl ?_
    refine vc_ladd dX5_ofTwo_46 ?_
    refine vc_nameL (fun x2 ex2 => ?_)
    refine vc_lstore dX5_ofTwo_47 (by decide) rfl rfl (show _ = [some (aI op), some (aL a), none, some (aL b), none, some (aL x2), none] from rfl) ?_
    refine vc_goto dX5_ofTwo_49 ?_
    refine vc_ldc2 dX5_ofTwo_106 rfl klX5_45 ?_
    refine vc_ldc2 dX5_ofTwo_109 rfl klX5_47 ?_
    refine vc_lload dX5_ofTwo_112 rfl ?_
    refine vc_mminL dX5_ofTwo_114 lkX5_39 (Nat.le_of_ble_eq_true rfl) (Nat.le_of_ble_eq_true rfl) (Nat.le_of_ble_eq_true rfl) ?_
    have k3 := minZ_bd 1000000 x2
    refine vc_mmaxL dX5_ofTwo_117 lkX5_42 (Nat.le_of_ble_eq_true rfl) (Nat.le_of_ble_eq_true rfl) (Nat.le_of_ble_eq_true rfl) ?_
    have k4 := maxZ_bd (-1000000) (minZ 1000000 x2)
    refine vc_l2i dX5_ofTwo_120 ?_
    refine vc_iret dX5_ofTwo_121 rfl (Nat.le_of_ble_eq_true rfl) (Nat.le_of_ble_eq_true rfl) ?_
    exact ⟨_, rfl, rfl⟩
  by_cases h5 : op = 20001
  · refine vc_tabIn dX5_ofTwo_4 20001 52 h5 rfl rfl rfl ?_
    refine vc_lload_n dX5_ofTwo_52 rfl ?_
    refine vc_lload_n dX5_ofTwo_53 rfl ?_
    refine vc_lsub dX5_ofTwo_54 ?_
    refine vc_nameL (fun x6 ex6 => ?_)
    refine vc_lstore dX5_ofTwo_55 (by decide) rfl rfl (show _ = [some (aI op), some (aL a), none, some (aL b), none, some (aL x6), none] from rfl) ?_
    refine vc_goto dX5_ofTwo_57 ?_
    refine vc_ldc2 dX5_ofTwo_106 rfl klX5_45 ?_
    refine vc_ldc2 dX5_ofTwo_109 rfl klX5_47 ?_
    refine vc_lload dX5_ofTwo_112 rfl ?_
    refine vc_mminL dX5_ofTwo_114 lkX5_39 (Nat.le_of_ble_eq_true rfl) (Nat.le_of_ble_eq_true rfl) (Nat.le_of_ble_eq_true rfl) ?_
    have k7 := minZ_bd 1000000 x6
    refine vc_mmaxL dX5_ofTwo_117 lkX5_42 (Nat.le_of_ble_eq_true rfl) (Nat.le_of_ble_eq_true rfl) (Nat.le_of_ble_eq_true rfl) ?_
    have k8 := maxZ_bd (-1000000) (minZ 1000000 x6)
    refine vc_l2i dX5_ofTwo_120 ?_
    refine vc_iret dX5_ofTwo_121 rfl (Nat.le_of_ble_eq_true rfl) (Nat.le_of_ble_eq_true rfl) ?_
    exact ⟨_, rfl, rfl⟩
  by_cases h9 : op = 20002
  · refine vc_tabIn dX5_ofTwo_4 20002 60 h9 rfl rfl rfl ?_
    refine vc_lload_n dX5_ofTwo_60 rfl ?_
    refine vc_lload_n dX5_ofTwo_61 rfl ?_
    refine vc_lmul dX5_ofTwo_62 ?_
    refine vc_nameL (fun x10 ex10 => ?_)
    refine vc_lstore dX5_ofTwo_63 (by decide) rfl rfl (show _ = [some (aI op), some (aL a), none, some (aL b), none, some (aL x10), none] from rfl) ?_
    refine vc_goto dX5_ofTwo_65 ?_
    refine vc_ldc2 dX5_ofTwo_106 rfl klX5_45 ?_
    refine vc_ldc2 dX5_ofTwo_109 rfl klX5_47 ?_
    refine vc_lload dX5_ofTwo_112 rfl ?_
    refine vc_mminL dX5_ofTwo_114 lkX5_39 (Nat.le_of_ble_eq_true rfl) (Nat.le_of_ble_eq_true rfl) (Nat.le_of_ble_eq_true rfl) ?_
    have k11 := minZ_bd 1000000 x10
    refine vc_mmaxL dX5_ofTwo_117 lkX5_42 (Nat.le_of_ble_eq_true rfl) (Nat.le_of_ble_eq_true rfl) (Nat.le_of_ble_eq_true rfl) ?_
    have k12 := maxZ_bd (-1000000) (minZ 1000000 x10)
    refine vc_l2i dX5_ofTwo_120 ?_
    refine vc_iret dX5_ofTwo_121 rfl (Nat.le_of_ble_eq_true rfl) (Nat.le_of_ble_eq_true rfl) ?_
    exact ⟨_, rfl, rfl⟩
  by_cases h13 : op = 20003
  · refine vc_tabIn dX5_ofTwo_4 20003 68 h13 rfl rfl rfl ?_
    refine vc_lload_n dX5_ofTwo_68 rfl ?_
    refine vc_lconst dX5_ofTwo_69 ?_
    refine vc_topL 0 rfl ?_
    refine vc_lif_ne dX5_ofTwo_70 dX5_ofTwo_71 (fun h14 => ?_) (fun h14 => ?_)
    · refine vc_lload_n dX5_ofTwo_78 rfl ?_
      refine vc_lload_n dX5_ofTwo_79 rfl ?_
      refine vc_ldiv dX5_ofTwo_80 (by omega) ?_
      refine vc_nameL (fun x15 ex15 => ?_)
      refine vc_lstore dX5_ofTwo_81 (by decide) rfl rfl (show _ = [some (aI op), some (aL a), none, some (aL b), none, some (aL x15), none] from rfl) ?_
      refine vc_goto dX5_ofTwo_83 ?_
      refine vc_ldc2 dX5_ofTwo_106 rfl klX5_45 ?_
      refine vc_ldc2 dX5_ofTwo_109 rfl klX5_47 ?_
      refine vc_lload dX5_ofTwo_112 rfl ?_
      refine vc_mminL dX5_ofTwo_114 lkX5_39 (Nat.le_of_ble_eq_true rfl) (Nat.le_of_ble_eq_true rfl) (Nat.le_of_ble_eq_true rfl) ?_
      have k16 := minZ_bd 1000000 x15
      refine vc_mmaxL dX5_ofTwo_117 lkX5_42 (Nat.le_of_ble_eq_true rfl) (Nat.le_of_ble_eq_true rfl) (Nat.le_of_ble_eq_true rfl) ?_
      have k17 := maxZ_bd (-1000000) (minZ 1000000 x15)
      refine vc_l2i dX5_ofTwo_120 ?_
      refine vc_iret dX5_ofTwo_121 rfl (Nat.le_of_ble_eq_true rfl) (Nat.le_of_ble_eq_true rfl) ?_
      exact ⟨_, rfl, rfl⟩
    · refine vc_lconst dX5_ofTwo_74 ?_
      refine vc_topL 0 rfl ?_
      refine vc_goto dX5_ofTwo_75 ?_
      refine vc_lstore dX5_ofTwo_81 (by decide) rfl rfl (show _ = [some (aI op), some (aL a), none, some (aL b), none, some (aL 0), none] from rfl) ?_
      refine vc_goto dX5_ofTwo_83 ?_
      refine vc_ldc2 dX5_ofTwo_106 rfl klX5_45 ?_
      refine vc_ldc2 dX5_ofTwo_109 rfl klX5_47 ?_
      refine vc_lload dX5_ofTwo_112 rfl ?_
      refine vc_mminL dX5_ofTwo_114 lkX5_39 (Nat.le_of_ble_eq_true rfl) (Nat.le_of_ble_eq_true rfl) (Nat.le_of_ble_eq_true rfl) ?_
      refine vc_topL 0 rfl ?_
      refine vc_mmaxL dX5_ofTwo_117 lkX5_42 (Nat.le_of_ble_eq_true rfl) (Nat.le_of_ble_eq_true rfl) (Nat.le_of_ble_eq_true rfl) ?_
      refine vc_topL 0 rfl ?_
      refine vc_l2iE dX5_ofTwo_120 (by omega) (by omega) ?_
      refine vc_iret dX5_ofTwo_121 rfl (Nat.le_of_ble_eq_true rfl) (Nat.le_of_ble_eq_true rfl) ?_
      exact ⟨_, rfl, rfl⟩
  by_cases h18 : op = 20004
  · refine vc_tabIn dX5_ofTwo_4 20004 86 h18 rfl rfl rfl ?_
    refine vc_lload_n dX5_ofTwo_86 rfl ?_
    refine vc_lload_n dX5_ofTwo_87 rfl ?_
    refine vc_mminL dX5_ofTwo_88 lkX5_39 (Nat.le_of_ble_eq_true rfl) (Nat.le_of_ble_eq_true rfl) (Nat.le_of_ble_eq_true rfl) ?_
    have k19 := minZ_bd a b
    refine vc_nameL (fun x20 ex20 => ?_)
    refine vc_lstore dX5_ofTwo_91 (by decide) rfl rfl (show _ = [some (aI op), some (aL a), none, some (aL b), none, some (aL x20), none] from rfl) ?_
    refine vc_goto dX5_ofTwo_93 ?_
    refine vc_ldc2 dX5_ofTwo_106 rfl klX5_45 ?_
    refine vc_ldc2 dX5_ofTwo_109 rfl klX5_47 ?_
    refine vc_lload dX5_ofTwo_112 rfl ?_
    refine vc_mminL dX5_ofTwo_114 lkX5_39 (Nat.le_of_ble_eq_true rfl) (Nat.le_of_ble_eq_true rfl) (Nat.le_of_ble_eq_true rfl) ?_
    have k21 := minZ_bd 1000000 x20
    refine vc_mmaxL dX5_ofTwo_117 lkX5_42 (Nat.le_of_ble_eq_true rfl) (Nat.le_of_ble_eq_true rfl) (Nat.le_of_ble_eq_true rfl) ?_
    have k22 := maxZ_bd (-1000000) (minZ 1000000 x20)
    refine vc_l2i dX5_ofTwo_120 ?_
    refine vc_iret dX5_ofTwo_121 rfl (Nat.le_of_ble_eq_true rfl) (Nat.le_of_ble_eq_true rfl) ?_
    exact ⟨_, rfl, rfl⟩
  by_cases h23 : op = 20005
  · refine vc_tabIn dX5_ofTwo_4 20005 96 h23 rfl rfl rfl ?_
    refine vc_lload_n dX5_ofTwo_96 rfl ?_
    refine vc_lload_n dX5_ofTwo_97 rfl ?_
    refine vc_mmaxL dX5_ofTwo_98 lkX5_42 (Nat.le_of_ble_eq_true rfl) (Nat.le_of_ble_eq_true rfl) (Nat.le_of_ble_eq_true rfl) ?_
    have k24 := maxZ_bd a b
    refine vc_nameL (fun x25 ex25 => ?_)
    refine vc_lstore dX5_ofTwo_101 (by decide) rfl rfl (show _ = [some (aI op), some (aL a), none, some (aL b), none, some (aL x25), none] from rfl) ?_
    refine vc_goto dX5_ofTwo_103 ?_
    refine vc_ldc2 dX5_ofTwo_106 rfl klX5_45 ?_
    refine vc_ldc2 dX5_ofTwo_109 rfl klX5_47 ?_
    refine vc_lload dX5_ofTwo_112 rfl ?_
    refine vc_mminL dX5_ofTwo_114 lkX5_39 (Nat.le_of_ble_eq_true rfl) (Nat.le_of_ble_eq_true rfl) (Nat.le_of_ble_eq_true rfl) ?_
    have k26 := minZ_bd 1000000 x25
    refine vc_mmaxL dX5_ofTwo_117 lkX5_42 (Nat.le_of_ble_eq_true rfl) (Nat.le_of_ble_eq_true rfl) (Nat.le_of_ble_eq_true rfl) ?_
    have k27 := maxZ_bd (-1000000) (minZ 1000000 x25)
    refine vc_l2i dX5_ofTwo_120 ?_
    refine vc_iret dX5_ofTwo_121 rfl (Nat.le_of_ble_eq_true rfl) (Nat.le_of_ble_eq_true rfl) ?_
    exact ⟨_, rfl, rfl⟩
  refine vc_tabOut dX5_ofTwo_4 106 (by omega) rfl ?_
  refine vc_ldc2 dX5_ofTwo_106 rfl klX5_45 ?_
  refine vc_ldc2 dX5_ofTwo_109 rfl klX5_47 ?_
  refine vc_lload dX5_ofTwo_112 rfl ?_
  refine vc_mminL dX5_ofTwo_114 lkX5_39 (Nat.le_of_ble_eq_true rfl) (Nat.le_of_ble_eq_true rfl) (Nat.le_of_ble_eq_true rfl) ?_
  refine vc_topL 0 rfl ?_
  refine vc_mmaxL dX5_ofTwo_117 lkX5_42 (Nat.le_of_ble_eq_true rfl) (Nat.le_of_ble_eq_true rfl) (Nat.le_of_ble_eq_true rfl) ?_
  refine vc_topL 0 rfl ?_
  refine vc_l2iE dX5_ofTwo_120 (by omega) (by omega) ?_
  refine vc_iret dX5_ofTwo_121 rfl (Nat.le_of_ble_eq_true rfl) (Nat.le_of_ble_eq_true rfl) ?_
  exact ⟨_, rfl, rfl⟩

set_option maxRecDepth 4000 in
theorem sfX5_value {l : Launch} {M : Mem} (hB : Box M)  (y : Nat) (law : Int) (p0 : 0 ≤ law) (p1 : law ≤ 4) (p2 : TxO M y) : Call l mdX5_value [aR y, aI law, aR 30, aR 31] M (fun q N => ∃ r : Int, q = some (aI r) ∧ BF fS M N) := by
  have hB0 : BF fS M M := BF.start hB
  refine Call.of [some (aR y), some (aI law), some (aR 30), some (aR 31), none, none, none, none] rfl (Nat.le_of_ble_eq_true rfl) rfl ?_
  have t1 : TxO M y := p2
  obtain ⟨q7, q8, q21, ta2, tb3, tc4, tn5, tm6, q9, q10, q11, q12, q13, q14, q15, q16, q17, q18, q19, q20⟩ := id t1
  refine vc_aload_n dX5_value_0 rfl ?_
  refine vc_iload_n dX5_value_1 rfl ?_
  refine vc_cVI dX5_value_2 (sfX5_rules (M := M) hB0.1  y law ((t1).dy hB0.2)) rfl okX5_rules viX5_rules lkX5_25 (hB0.2.sh q7 q8) cl_5 rfl (Nat.le_of_ble_eq_true rfl) ⟨rfl, rfl⟩ (Nat.le_of_ble_eq_true rfl) (Nat.le_of_ble_eq_true rfl) (Nat.le_of_ble_eq_true rfl) ?_
  rintro x22 _ ⟨rfl, h23, h24, h25⟩
  have hz9 : x22 = 0 ∨ 0 ≤ mI M tb3 (2 * law).toNat := h25.imp id (fun h => h tb3 q10)
  refine vc_if_ne dX5_value_5 (fun h26 => ?_) (fun h26 => ?_)
  · refine vc_iconst dX5_value_10 rfl ?_
    refine vc_istore dX5_value_11 (by decide) rfl (show _ = [some (aR y), some (aI law), some (aR 30), some (aR 31), some (aI 0), none, none, none] from rfl) ?_
    refine vc_aload_n dX5_value_13 rfl ?_
    refine vc_getR dX5_value_14 flX5_15 (hB0.2.sh q7 q8) rfl ((hB0.2.rf q7 q8 1).trans q10) ?_
    refine vc_iconst dX5_value_17 rfl ?_
    refine vc_iload_n dX5_value_18 rfl ?_
    refine vc_imulE dX5_value_19 (by omega) (by omega) ?_
    refine vc_iconst dX5_value_20 rfl ?_
    refine vc_iaddE dX5_value_21 (by omega) (by omega) ?_
    refine vc_iaload dX5_value_22 (hB0.2.sh q13 q16) (by omega) (by omega) ?_
    have k27 : (-1) ≤ mI M tb3 (((2 * law) + 1).toNat) ∧ mI M tb3 (((2 * law) + 1).toNat) ≤ 300 := (by rw [hB0.2.vl q13 q16]; exact q20 _)
    refine vc_ok (fun _ hoSz29 _ => ?_)
    have k28 : -2147483648 ≤ mI M tb3 (((2 * law) + 1).toNat) ∧ mI M tb3 (((2 * law) + 1).toNat) < 2147483648 := hoSz29 (aI (mI M tb3 (((2 * law) + 1).toNat))) (List.mem_cons_self ..)
    refine vc_aload_n dX5_value_23 rfl ?_
    refine vc_getR dX5_value_24 flX5_9 (hB0.2.sh q7 q8) rfl ((hB0.2.rf q7 q8 0).trans q9) ?_
    refine vc_alen dX5_value_27 (hB0.2.sh q12 q15) (by simp only [Bool.and_eq_true, decide_eq_true_eq]; omega) ?_
    refine vc_mminI dX5_value_28 lkX5_29 (Nat.le_of_ble_eq_true rfl) (Nat.le_of_ble_eq_true rfl) (Nat.le_of_ble_eq_true rfl) ?_
    have k30 := minZ_bd (mI M tb3 (((2 * law) + 1).toNat)) (tn5 : Int)
    refine vc_nameI (fun x31 ex31 => ?_)
    refine vc_istore dX5_value_31 (by decide) rfl (show _ = [some (aR y), some (aI law), some (aR 30), some (aR 31), some (aI 0), some (aI x31), none, none] from rfl) ?_
    refine vc_aload_n dX5_value_33 rfl ?_
    refine vc_getR dX5_value_34 flX5_15 (hB0.2.sh q7 q8) rfl ((hB0.2.rf q7 q8 1).trans q10) ?_
    refine vc_iconst dX5_value_37 rfl ?_
    refine vc_iload_n dX5_value_38 rfl ?_
    refine vc_imulE dX5_value_39 (by omega) (by omega) ?_
    refine vc_iaload dX5_value_40 (hB0.2.sh q13 q16) (by omega) (by omega) ?_
    have k32 : (-1) ≤ mI M tb3 ((2 * law).toNat) ∧ mI M tb3 ((2 * law).toNat) ≤ 300 := (by rw [hB0.2.vl q13 q16]; exact q20 _)
    refine vc_ok (fun _ hoSz34 _ => ?_)
    have k33 : -2147483648 ≤ mI M tb3 ((2 * law).toNat) ∧ mI M tb3 ((2 * law).toNat) < 2147483648 := hoSz34 (aI (mI M tb3 ((2 * law).toNat))) (List.mem_cons_self ..)
    refine vc_nameI (fun x35 ex35 => ?_)
    refine vc_istore dX5_value_41 (by decide) rfl (show _ = [some (aR y), some (aI law), some (aR 30), some (aR 31), some (aI 0), some (aI x31), some (aI x35), none] from rfl) ?_
    have lp43 : ∀ (n43 : Nat) (Mq43 : Mem) (v4 : Int) (v6 : Int), (BF fS M Mq43) → (0 ≤ v4) → (v4 ≤ 40) → (0 ≤ v6) → (x31 - v6).toNat < n43 → VC l mdX5_value 43 [some (aR y), none, some (aR 30), some (aR 31), some (aI v4), some (aI x31), some (aI v6), none] [] Mq43 0 0 (fun q N => ∃ r : Int, q = some (aI r) ∧ BF fS M N) := by
      intro n43
      induction n43 with
      | zero => intro Mq43 v4 v6 hQ43 g43_4a g43_4b g43_6a hm43; exact absurd hm43 (Nat.not_lt_zero _)
      | succ n43 ih43 =>
        intro Mq43 v4 v6 hQ43 g43_4a g43_4b g43_6a hm43
        refine vc_iload dX5_value_43 rfl ?_
        refine vc_iload dX5_value_45 rfl ?_
        refine vc_icmp_ge dX5_value_47 (fun h36 => ?_) (fun h36 => ?_)
        · refine vc_aload_n dX5_value_183 rfl ?_
          refine vc_iconst dX5_value_184 rfl ?_
          refine vc_iaload dX5_value_185 (s_31 hQ43.1.1) (by omega) (by omega) ?_
          refine vc_topI (mI Mq43 31 0) rfl ?_
          refine vc_ok (fun _ hoSz38 _ => ?_)
          have k37 : -2147483648 ≤ mI Mq43 31 0 ∧ mI Mq43 31 0 < 2147483648 := hoSz38 (aI (mI Mq43 31 0)) (List.mem_cons_self ..)
          refine vc_iret dX5_value_186 rfl (Nat.le_of_ble_eq_true rfl) (Nat.le_of_ble_eq_true rfl) ?_
          exact ⟨_, rfl, hQ43⟩
        · refine vc_iload dX5_value_50 rfl ?_
          refine vc_aload_n dX5_value_52 rfl ?_
          refine vc_alen dX5_value_53 (s_31 hQ43.1.1) rfl ?_
          refine vc_topI 40 rfl ?_
          refine vc_icmp_ge dX5_value_54 (fun h39 => ?_) (fun h39 => ?_)
          · refine vc_aload_n dX5_value_183 rfl ?_
            refine vc_iconst dX5_value_184 rfl ?_
            refine vc_iaload dX5_value_185 (s_31 hQ43.1.1) (by omega) (by omega) ?_
            refine vc_topI (mI Mq43 31 0) rfl ?_
            refine vc_ok (fun _ hoSz41 _ => ?_)
            have k40 : -2147483648 ≤ mI Mq43 31 0 ∧ mI Mq43 31 0 < 2147483648 := hoSz41 (aI (mI Mq43 31 0)) (List.mem_cons_self ..)
            refine vc_iret dX5_value_186 rfl (Nat.le_of_ble_eq_true rfl) (Nat.le_of_ble_eq_true rfl) ?_
            exact ⟨_, rfl, hQ43⟩
          · refine vc_aload_n dX5_value_57 rfl ?_
            refine vc_getR dX5_value_58 flX5_9 (hQ43.2.sh q7 q8) rfl ((hQ43.2.rf q7 q8 0).trans q9) ?_
            refine vc_iload dX5_value_61 rfl ?_
            refine vc_iaload dX5_value_63 (hQ43.2.sh q12 q15) (by omega) (by omega) ?_
            refine vc_ok (fun _ hoSz43 _ => ?_)
            have k42 : -2147483648 ≤ mI Mq43 ta2 v6.toNat ∧ mI Mq43 ta2 v6.toNat < 2147483648 := hoSz43 (aI (mI Mq43 ta2 v6.toNat)) (List.mem_cons_self ..)
            refine vc_nameI (fun x44 ex44 => ?_)
            refine vc_istore dX5_value_64 (by decide) rfl (show _ = [some (aR y), none, some (aR 30), some (aR 31), some (aI v4), some (aI x31), some (aI v6), some (aI x44)] from rfl) ?_
            refine vc_iload dX5_value_66 rfl ?_
            refine vc_sipush dX5_value_68 rfl ?_
            refine vc_icmp_ge dX5_value_71 (fun h45 => ?_) (fun h45 => ?_)
            · refine vc_iload dX5_value_86 rfl ?_
              refine vc_sipush dX5_value_88 rfl ?_
              refine vc_isubE dX5_value_91 (by omega) (by omega) ?_
              refine vc_aload_n dX5_value_92 rfl ?_
              refine vc_alen dX5_value_93 (s_30 hQ43.1.1) rfl ?_
              refine vc_topI 9 rfl ?_
              refine vc_icmp_ge dX5_value_94 (fun h46 => ?_) (fun h46 => ?_)
              · refine vc_iload dX5_value_115 rfl ?_
                refine vc_sipush dX5_value_117 rfl ?_
                refine vc_icmp_ne dX5_value_120 (fun h47 => ?_) (fun h47 => ?_)
                · refine vc_iload dX5_value_145 rfl ?_
                  refine vc_iconst dX5_value_147 rfl ?_
                  refine vc_icmp_lt dX5_value_148 (fun h48 => ?_) (fun h48 => ?_)
                  · refine vc_iincE dX5_value_177 rfl (by omega) (by omega) (by decide) rfl (show _ = [some (aR y), none, some (aR 30), some (aR 31), some (aI v4), some (aI x31), some (aI (v6 + 1)), some (aI x44)] from rfl) ?_
                    refine vc_goto dX5_value_180 ?_
                    refine vc_less [some (aR y), none, some (aR 30), some (aR 31), some (aI v4), some (aI x31), some (aI (v6 + 1)), none] (lessL_keep (lessL_keep (lessL_keep (lessL_keep (lessL_keep (lessL_keep (lessL_keep (lessL_drop (lessL_nil))))))))) ?_
                    exact ih43 Mq43 v4 (v6 + 1) hQ43 (by omega) (by omega) (by omega) (by omega)
                  · refine vc_iincE dX5_value_151 rfl (by omega) (by omega) (by decide) rfl (show _ = [some (aR y), none, some (aR 30), some (aR 31), some (aI (v4 + (-1))), some (aI x31), some (aI v6), some (aI x44)] from rfl) ?_
                    refine vc_aload_n dX5_value_154 rfl ?_
                    refine vc_iload dX5_value_155 rfl ?_
                    refine vc_iconst dX5_value_157 rfl ?_
                    refine vc_isubE dX5_value_158 (by omega) (by omega) ?_
                    refine vc_iload dX5_value_159 rfl ?_
                    refine vc_aload_n dX5_value_161 rfl ?_
                    refine vc_iload dX5_value_162 rfl ?_
                    refine vc_iconst dX5_value_164 rfl ?_
                    refine vc_isubE dX5_value_165 (by omega) (by omega) ?_
                    refine vc_iaload dX5_value_166 (s_31 hQ43.1.1) (by omega) (by omega) ?_
                    refine vc_ok (fun _ hoSz50 _ => ?_)
                    have k49 : -2147483648 ≤ mI Mq43 31 (((v4 + (-1)) - 1).toNat) ∧ mI Mq43 31 (((v4 + (-1)) - 1).toNat) < 2147483648 := hoSz50 (aI (mI Mq43 31 (((v4 + (-1)) - 1).toNat))) (List.mem_cons_self ..)
                    refine vc_i2l dX5_value_167 ?_
                    refine vc_aload_n dX5_value_168 rfl ?_
                    refine vc_iload dX5_value_169 rfl ?_
                    refine vc_iaload dX5_value_171 (s_31 hQ43.1.1) (by omega) (by omega) ?_
                    refine vc_ok (fun _ hoSz52 _ => ?_)
                    have k51 : -2147483648 ≤ mI Mq43 31 ((v4 + (-1)).toNat) ∧ mI Mq43 31 ((v4 + (-1)).toNat) < 2147483648 := hoSz52 (aI (mI Mq43 31 ((v4 + (-1)).toNat))) (List.mem_cons_self ..)
                    refine vc_i2l dX5_value_172 ?_
                    refine vc_cSI dX5_value_173 (sfX5_ofTwo (M := Mq43) hQ43.1  x44 (mI Mq43 31 (((v4 + (-1)) - 1).toNat)) (mI Mq43 31 ((v4 + (-1)).toNat)) ) rfl okX5_ofTwo stX5_ofTwo lkX5_35 rfl (Nat.le_of_ble_eq_true rfl) ⟨rfl, rfl⟩ (Nat.le_of_ble_eq_true rfl) (Nat.le_of_ble_eq_true rfl) (Nat.le_of_ble_eq_true rfl) ?_
                    rintro x53 _ rfl
                    refine vc_iastore dX5_value_176 (s_31 hQ43.1.1) (by omega) (by omega) ?_
                    have hB54 : BF fS M (sI Mq43 31 (((v4 + (-1)) - 1).toNat) x53) := BF.w31 hQ43 (fun _ => rfl) _
                    refine vc_iincE dX5_value_177 rfl (by omega) (by omega) (by decide) rfl (show _ = [some (aR y), none, some (aR 30), some (aR 31), some (aI (v4 + (-1))), some (aI x31), some (aI (v6 + 1)), some (aI x44)] from rfl) ?_
                    refine vc_goto dX5_value_180 ?_
                    refine vc_less [some (aR y), none, some (aR 30), some (aR 31), some (aI (v4 + (-1))), some (aI x31), some (aI (v6 + 1)), none] (lessL_keep (lessL_keep (lessL_keep (lessL_keep (lessL_keep (lessL_keep (lessL_keep (lessL_drop (lessL_nil))))))))) ?_
                    exact ih43 (sI Mq43 31 (((v4 + (-1)) - 1).toNat) x53) (v4 + (-1)) (v6 + 1) hB54 (by omega) (by omega) (by omega) (by omega)
                · refine vc_iload dX5_value_123 rfl ?_
                  refine vc_iconst dX5_value_125 rfl ?_
                  refine vc_icmp_lt dX5_value_126 (fun h55 => ?_) (fun h55 => ?_)
                  · refine vc_iload dX5_value_145 rfl ?_
                    refine vc_iconst dX5_value_147 rfl ?_
                    refine vc_icmp_lt dX5_value_148 (fun h56 => ?_) (fun h56 => by exfalso; omega)
                    refine vc_iincE dX5_value_177 rfl (by omega) (by omega) (by decide) rfl (show _ = [some (aR y), none, some (aR 30), some (aR 31), some (aI v4), some (aI x31), some (aI (v6 + 1)), some (aI x44)] from rfl) ?_
                    refine vc_goto dX5_value_180 ?_
                    refine vc_less [some (aR y), none, some (aR 30), some (aR 31), some (aI v4), some (aI x31), some (aI (v6 + 1)), none] (lessL_keep (lessL_keep (lessL_keep (lessL_keep (lessL_keep (lessL_keep (lessL_keep (lessL_drop (lessL_nil))))))))) ?_
                    exact ih43 Mq43 v4 (v6 + 1) hQ43 (by omega) (by omega) (by omega) (by omega)
                  · refine vc_aload_n dX5_value_129 rfl ?_
                    refine vc_iload dX5_value_130 rfl ?_
                    refine vc_iconst dX5_value_132 rfl ?_
                    refine vc_isubE dX5_value_133 (by omega) (by omega) ?_
                    refine vc_aload_n dX5_value_134 rfl ?_
                    refine vc_iload dX5_value_135 rfl ?_
                    refine vc_iconst dX5_value_137 rfl ?_
                    refine vc_isubE dX5_value_138 (by omega) (by omega) ?_
                    refine vc_iaload dX5_value_139 (s_31 hQ43.1.1) (by omega) (by omega) ?_
                    refine vc_ok (fun _ hoSz58 _ => ?_)
                    have k57 : -2147483648 ≤ mI Mq43 31 ((v4 - 1).toNat) ∧ mI Mq43 31 ((v4 - 1).toNat) < 2147483648 := hoSz58 (aI (mI Mq43 31 ((v4 - 1).toNat))) (List.mem_cons_self ..)
                    refine vc_ineg dX5_value_140 ?_
                    refine vc_iastore dX5_value_141 (s_31 hQ43.1.1) (by omega) (by omega) ?_
                    have hB59 : BF fS M (sI Mq43 31 ((v4 - 1).toNat) (wI (-(mI Mq43 31 ((v4 - 1).toNat))))) := BF.w31 hQ43 (fun _ => rfl) _
                    refine vc_goto dX5_value_142 ?_
                    refine vc_iincE dX5_value_177 rfl (by omega) (by omega) (by decide) rfl (show _ = [some (aR y), none, some (aR 30), some (aR 31), some (aI v4), some (aI x31), some (aI (v6 + 1)), some (aI x44)] from rfl) ?_
                    refine vc_goto dX5_value_180 ?_
                    refine vc_less [some (aR y), none, some (aR 30), some (aR 31), some (aI v4), some (aI x31), some (aI (v6 + 1)), none] (lessL_keep (lessL_keep (lessL_keep (lessL_keep (lessL_keep (lessL_keep (lessL_keep (lessL_drop (lessL_nil))))))))) ?_
                    exact ih43 (sI Mq43 31 ((v4 - 1).toNat) (wI (-(mI Mq43 31 ((v4 - 1).toNat))))) v4 (v6 + 1) hB59 (by omega) (by omega) (by omega) (by omega)
              · refine vc_aload_n dX5_value_97 rfl ?_
                refine vc_iload dX5_value_98 rfl ?_
                refine vc_aload_n dX5_value_100 rfl ?_
                refine vc_iload dX5_value_101 rfl ?_
                refine vc_sipush dX5_value_103 rfl ?_
                refine vc_isubE dX5_value_106 (by omega) (by omega) ?_
                refine vc_iaload dX5_value_107 (s_30 hQ43.1.1) (by omega) (by omega) ?_
                refine vc_ok (fun _ hoSz61 _ => ?_)
                have k60 : -2147483648 ≤ mI Mq43 30 ((x44 - 10000).toNat) ∧ mI Mq43 30 ((x44 - 10000).toNat) < 2147483648 := hoSz61 (aI (mI Mq43 30 ((x44 - 10000).toNat))) (List.mem_cons_self ..)
                refine vc_iastore dX5_value_108 (s_31 hQ43.1.1) (by omega) (by omega) ?_
                have hB62 : BF fS M (sI Mq43 31 v4.toNat (mI Mq43 30 ((x44 - 10000).toNat))) := BF.w31 hQ43 (fun _ => rfl) _
                refine vc_iincE dX5_value_109 rfl (by omega) (by omega) (by decide) rfl (show _ = [some (aR y), none, some (aR 30), some (aR 31), some (aI (v4 + 1)), some (aI x31), some (aI v6), some (aI x44)] from rfl) ?_
                refine vc_goto dX5_value_112 ?_
                refine vc_iincE dX5_value_177 rfl (by omega) (by omega) (by decide) rfl (show _ = [some (aR y), none, some (aR 30), some (aR 31), some (aI (v4 + 1)), some (aI x31), some (aI (v6 + 1)), some (aI x44)] from rfl) ?_
                refine vc_goto dX5_value_180 ?_
                refine vc_less [some (aR y), none, some (aR 30), some (aR 31), some (aI (v4 + 1)), some (aI x31), some (aI (v6 + 1)), none] (lessL_keep (lessL_keep (lessL_keep (lessL_keep (lessL_keep (lessL_keep (lessL_keep (lessL_drop (lessL_nil))))))))) ?_
                exact ih43 (sI Mq43 31 v4.toNat (mI Mq43 30 ((x44 - 10000).toNat))) (v4 + 1) (v6 + 1) hB62 (by omega) (by omega) (by omega) (by omega)
            · refine vc_aload_n dX5_value_74 rfl ?_
              refine vc_iload dX5_value_75 rfl ?_
              refine vc_iload dX5_value_77 rfl ?_
              refine vc_iastore dX5_value_79 (s_31 hQ43.1.1) (by omega) (by omega) ?_
              have hB63 : BF fS M (sI Mq43 31 v4.toNat x44) := BF.w31 hQ43 (fun _ => rfl) _
              refine vc_iincE dX5_value_80 rfl (by omega) (by omega) (by decide) rfl (show _ = [some (aR y), none, some (aR 30), some (aR 31), some (aI (v4 + 1)), some (aI x31), some (aI v6), some (aI x44)] from rfl) ?_
              refine vc_goto dX5_value_83 ?_
              refine vc_iincE dX5_value_177 rfl (by omega) (by omega) (by decide) rfl (show _ = [some (aR y), none, some (aR 30), some (aR 31), some (aI (v4 + 1)), some (aI x31), some (aI (v6 + 1)), some (aI x44)] from rfl) ?_
              refine vc_goto dX5_value_180 ?_
              refine vc_less [some (aR y), none, some (aR 30), some (aR 31), some (aI (v4 + 1)), some (aI x31), some (aI (v6 + 1)), none] (lessL_keep (lessL_keep (lessL_keep (lessL_keep (lessL_keep (lessL_keep (lessL_keep (lessL_drop (lessL_nil))))))))) ?_
              exact ih43 (sI Mq43 31 v4.toNat x44) (v4 + 1) (v6 + 1) hB63 (by omega) (by omega) (by omega) (by omega)
    refine vc_less [some (aR y), none, some (aR 30), some (aR 31), some (aI 0), some (aI x31), some (aI x35), none] (lessL_keep (lessL_drop (lessL_keep (lessL_keep (lessL_keep (lessL_keep (lessL_keep (lessL_keep (lessL_nil))))))))) ?_
    exact lp43 _ M 0 x35 hB0 (by omega) (by omega) (by omega) (Nat.lt_succ_self _)
  · refine vc_iconst dX5_value_8 rfl ?_
    refine vc_iret dX5_value_9 rfl (Nat.le_of_ble_eq_true rfl) (Nat.le_of_ble_eq_true rfl) ?_
    exact ⟨_, rfl, hB0⟩

set_option maxRecDepth 4000 in
theorem sfX2_nameTeller {l : Launch} {M : Mem} (hB : Box M)  (t : Int)  : Call l mdX2_nameTeller [aR 29, aI t] M (fun q N => q = none ∧ BF fS M N) := by
  have hB0 : BF fS M M := BF.start hB
  refine Call.of [some (aR 29), some (aI t)] rfl (Nat.le_of_ble_eq_true rfl) rfl ?_
  refine vc_ok (fun hoM hoS hoL => ?_)
  have hr1 : -2147483648 ≤ t ∧ t < 2147483648 := hoL 1 _ rfl
  refine vc_aload_n dX2_nameTeller_0 rfl ?_
  refine vc_getR dX2_nameTeller_1 flX2_19 (s_29 hB0.1.1) rfl (r_29_2 hB0.1.1) ?_
  refine vc_iconst dX2_nameTeller_4 rfl ?_
  refine vc_iload_n dX2_nameTeller_5 rfl ?_
  refine vc_iastore dX2_nameTeller_6 (s_30 hB0.1.1) (by omega) (by omega) ?_
  refine vc_mem (sI M 30 0 t) rfl ?_
  have hB1 : BF fS M (sI M 30 0 t) := BF.w30 hB0 (fun _ => rfl) _
  refine vc_aload_n dX2_nameTeller_7 rfl ?_
  refine vc_getR dX2_nameTeller_8 flX2_19 (s_29 hB1.1.1) rfl (r_29_2 hB1.1.1) ?_
  refine vc_iconst dX2_nameTeller_11 rfl ?_
  refine vc_aload_n dX2_nameTeller_12 rfl ?_
  refine vc_getR dX2_nameTeller_13 flX2_9 (s_29 hB1.1.1) rfl (r_29_0 hB1.1.1) ?_
  refine vc_iload_n dX2_nameTeller_16 rfl ?_
  refine vc_iconst dX2_nameTeller_17 rfl ?_
  refine vc_cVI dX2_nameTeller_18 (sfX6_tellerCell (M := (sI M 30 0 t)) hB1.1  t 0 ) rfl okX6_tellerCell viX6_tellerCell lkX2_32 (s_1 hB1.1.1) cl_6 rfl (Nat.le_of_ble_eq_true rfl) ⟨rfl, rfl⟩ (Nat.le_of_ble_eq_true rfl) (Nat.le_of_ble_eq_true rfl) (Nat.le_of_ble_eq_true rfl) ?_
  rintro x2 _ rfl
  refine vc_iastore dX2_nameTeller_21 (s_30 hB1.1.1) (by omega) (by omega) ?_
  refine vc_mem (sI (sI M 30 0 t) 30 1 x2) rfl ?_
  have hB3 : BF fS M (sI (sI M 30 0 t) 30 1 x2) := BF.w30 hB1 (fun _ => rfl) _
  refine vc_aload_n dX2_nameTeller_22 rfl ?_
  refine vc_getR dX2_nameTeller_23 flX2_19 (s_29 hB3.1.1) rfl (r_29_2 hB3.1.1) ?_
  refine vc_iconst dX2_nameTeller_26 rfl ?_
  refine vc_aload_n dX2_nameTeller_27 rfl ?_
  refine vc_getR dX2_nameTeller_28 flX2_9 (s_29 hB3.1.1) rfl (r_29_0 hB3.1.1) ?_
  refine vc_iload_n dX2_nameTeller_31 rfl ?_
  refine vc_cVI dX2_nameTeller_32 (sfX6_hasTeller (M := (sI (sI M 30 0 t) 30 1 x2)) hB3.1  t ) rfl okX6_hasTeller viX6_hasTeller lkX2_71 (s_1 hB3.1.1) cl_6 rfl (Nat.le_of_ble_eq_true rfl) ⟨rfl, rfl⟩ (Nat.le_of_ble_eq_true rfl) (Nat.le_of_ble_eq_true rfl) (Nat.le_of_ble_eq_true rfl) ?_
  rintro x4 _ ⟨rfl, h5, h6, h7⟩
  refine vc_if_eq dX2_nameTeller_35 (fun h8 => ?_) (fun h8 => ?_)
  · refine vc_iconst dX2_nameTeller_52 rfl ?_
    refine vc_iastore dX2_nameTeller_53 (s_30 hB3.1.1) (by omega) (by omega) ?_
    refine vc_mem (sI (sI (sI M 30 0 t) 30 1 x2) 30 2 0) rfl ?_
    have hB9 : BF fS M (sI (sI (sI M 30 0 t) 30 1 x2) 30 2 0) := BF.w30 hB3 (fun _ => rfl) _
    refine vc_vret dX2_nameTeller_54 rfl (Nat.le_of_ble_eq_true rfl) (Nat.le_of_ble_eq_true rfl) ?_
    exact ⟨rfl, hB9⟩
  · refine vc_aload_n dX2_nameTeller_38 rfl ?_
    refine vc_getR dX2_nameTeller_39 flX2_15 (s_29 hB3.1.1) rfl (r_29_1 hB3.1.1) ?_
    refine vc_getR dX2_nameTeller_42 flX2_74 (s_15 hB3.1.1) rfl (r_15_0 hB3.1.1) ?_
    refine vc_iconst dX2_nameTeller_45 rfl ?_
    refine vc_iload_n dX2_nameTeller_46 rfl ?_
    refine vc_iaddE dX2_nameTeller_47 (by omega) (by omega) ?_
    refine vc_iaload dX2_nameTeller_48 (s_16 hB3.1.1) (by omega) (by omega) ?_
    refine vc_topI (mI M 16 ((4 + t).toNat)) rfl ?_
    refine vc_goto dX2_nameTeller_49 ?_
    refine vc_iastore dX2_nameTeller_53 (s_30 hB3.1.1) (by omega) (by omega) ?_
    refine vc_mem (sI (sI (sI M 30 0 t) 30 1 x2) 30 2 (mI M 16 ((4 + t).toNat))) rfl ?_
    have hB10 : BF fS M (sI (sI (sI M 30 0 t) 30 1 x2) 30 2 (mI M 16 ((4 + t).toNat))) := BF.w30 hB3 (fun _ => rfl) _
    refine vc_vret dX2_nameTeller_54 rfl (Nat.le_of_ble_eq_true rfl) (Nat.le_of_ble_eq_true rfl) ?_
    exact ⟨rfl, hB10⟩

set_option maxRecDepth 4000 in
theorem sfX2_slip {l : Launch} {M : Mem} (hB : Box M)  (t : Int) (law : Int) (p0 : 0 ≤ law) (p1 : law ≤ 2) : Call l mdX2_slip [aR 29, aI t, aI law] M (fun q N => ∃ r : Int, q = some (aI r) ∧ BF fS M N) := by
  have hB0 : BF fS M M := BF.start hB
  refine Call.of [some (aR 29), some (aI t), some (aI law), none, none, none] rfl (Nat.le_of_ble_eq_true rfl) rfl ?_
  refine vc_ok (fun hoM hoS hoL => ?_)
  have hr1 : -2147483648 ≤ t ∧ t < 2147483648 := hoL 1 _ rfl
  refine vc_aload_n dX2_slip_0 rfl ?_
  refine vc_getR dX2_slip_1 flX2_9 (s_29 hB0.1.1) rfl (r_29_0 hB0.1.1) ?_
  refine vc_iload_n dX2_slip_4 rfl ?_
  refine vc_iconst dX2_slip_5 rfl ?_
  refine vc_cVI dX2_slip_6 (sfX6_tellingCell (M := M) hB0.1  t 0 ) rfl okX6_tellingCell viX6_tellingCell lkX2_26 (s_1 hB0.1.1) cl_6 rfl (Nat.le_of_ble_eq_true rfl) ⟨rfl, rfl⟩ (Nat.le_of_ble_eq_true rfl) (Nat.le_of_ble_eq_true rfl) (Nat.le_of_ble_eq_true rfl) ?_
  rintro x1 _ rfl
  refine vc_istore_n dX2_slip_9 (by decide) rfl (show _ = [some (aR 29), some (aI t), some (aI law), some (aI x1), none, none] from rfl) ?_
  refine vc_aload_n dX2_slip_10 rfl ?_
  refine vc_getR dX2_slip_11 flX2_9 (s_29 hB0.1.1) rfl (r_29_0 hB0.1.1) ?_
  refine vc_iload_n dX2_slip_14 rfl ?_
  refine vc_iconst dX2_slip_15 rfl ?_
  refine vc_iload_n dX2_slip_16 rfl ?_
  refine vc_iaddE dX2_slip_17 (by omega) (by omega) ?_
  refine vc_cVI dX2_slip_18 (sfX6_tellerCell (M := M) hB0.1  x1 (1 + law) ) rfl okX6_tellerCell viX6_tellerCell lkX2_32 (s_1 hB0.1.1) cl_6 rfl (Nat.le_of_ble_eq_true rfl) ⟨rfl, rfl⟩ (Nat.le_of_ble_eq_true rfl) (Nat.le_of_ble_eq_true rfl) (Nat.le_of_ble_eq_true rfl) ?_
  rintro x2 _ rfl
  refine vc_istore dX2_slip_21 (by decide) rfl (show _ = [some (aR 29), some (aI t), some (aI law), some (aI x1), some (aI x2), none] from rfl) ?_
  refine vc_aload_n dX2_slip_23 rfl ?_
  refine vc_getR dX2_slip_24 flX2_9 (s_29 hB0.1.1) rfl (r_29_0 hB0.1.1) ?_
  refine vc_aload_n dX2_slip_27 rfl ?_
  refine vc_getR dX2_slip_28 flX2_9 (s_29 hB0.1.1) rfl (r_29_0 hB0.1.1) ?_
  refine vc_getI dX2_slip_31 flX2_35 (s_1 hB0.1.1) rfl ?_
  refine vc_cVO dX2_slip_34 (sfX6_textOf (M := M) hB0.1  (mI M 1 11) ) rfl okX6_textOf viX6_textOf lkX2_39 (s_1 hB0.1.1) cl_6 rfl (Nat.le_of_ble_eq_true rfl) ⟨rfl, rfl⟩ (Nat.le_of_ble_eq_true rfl) (Nat.le_of_ble_eq_true rfl) (Nat.le_of_ble_eq_true rfl) ?_
  rintro o3 _ ⟨rfl, h4⟩
  refine vc_astore dX2_slip_37 (by decide) rfl (show _ = [some (aR 29), some (aI t), some (aI law), some (aI x1), some (aI x2), some (.inr (.inr o3))] from rfl) ?_
  refine vc_aload dX2_slip_39 rfl ?_
  refine vc_ifnull dX2_slip_41 (fun h5 => ?_) (fun h5 => ?_)
  · subst h5
    refine vc_iload dX2_slip_53 rfl ?_
    refine vc_iret dX2_slip_55 rfl (Nat.le_of_ble_eq_true rfl) (Nat.le_of_ble_eq_true rfl) ?_
    exact ⟨_, rfl, hB0⟩
  · obtain ⟨y6, h5⟩ := Option.ne_none_iff_exists'.mp h5
    subst h5
    have t7 : TxO M y6 := h4 y6 rfl
    obtain ⟨q13, q14, q27, ta8, tb9, tc10, tn11, tm12, q15, q16, q17, q18, q19, q20, q21, q22, q23, q24, q25, q26⟩ := id t7
    refine vc_aload dX2_slip_44 rfl ?_
    refine vc_iload_n dX2_slip_46 rfl ?_
    refine vc_cVI dX2_slip_47 (sfX5_rules (M := M) hB0.1  y6 law ((t7).dy hB0.2)) rfl okX5_rules viX5_rules lkX2_43 (hB0.2.sh q13 q14) cl_5 rfl (Nat.le_of_ble_eq_true rfl) ⟨rfl, rfl⟩ (Nat.le_of_ble_eq_true rfl) (Nat.le_of_ble_eq_true rfl) (Nat.le_of_ble_eq_true rfl) ?_
    rintro x28 _ ⟨rfl, h29, h30, h31⟩
    refine vc_if_ne dX2_slip_50 (fun h32 => ?_) (fun h32 => ?_)
    · refine vc_aload_n dX2_slip_56 rfl ?_
      refine vc_iload_n dX2_slip_57 rfl ?_
      refine vc_cVU dX2_slip_58 (sfX2_nameTeller (M := M) hB0.1  x1 ) rfl okX2_nameTeller viX2_nameTeller lkX2_49 (s_29 hB0.1.1) cl_2 rfl (Nat.le_of_ble_eq_true rfl) ⟨rfl, rfl⟩ (Nat.le_of_ble_eq_true rfl) (Nat.le_of_ble_eq_true rfl) (Nat.le_of_ble_eq_true rfl) ?_
      rintro M33 hB34
      have hB35 : BF fS M M33 := BF.go hB0 hB34
      refine vc_aload_n dX2_slip_61 rfl ?_
      refine vc_getR dX2_slip_62 flX2_19 (s_29 hB35.1.1) rfl (r_29_2 hB35.1.1) ?_
      refine vc_iconst dX2_slip_65 rfl ?_
      refine vc_aload_n dX2_slip_66 rfl ?_
      refine vc_getR dX2_slip_67 flX2_9 (s_29 hB35.1.1) rfl (r_29_0 hB35.1.1) ?_
      refine vc_iload_n dX2_slip_70 rfl ?_
      refine vc_iconst dX2_slip_71 rfl ?_
      refine vc_cVI dX2_slip_72 (sfX6_tellingCell (M := M33) hB35.1  t 2 ) rfl okX6_tellingCell viX6_tellingCell lkX2_26 (s_1 hB35.1.1) cl_6 rfl (Nat.le_of_ble_eq_true rfl) ⟨rfl, rfl⟩ (Nat.le_of_ble_eq_true rfl) (Nat.le_of_ble_eq_true rfl) (Nat.le_of_ble_eq_true rfl) ?_
      rintro x36 _ rfl
      refine vc_iastore dX2_slip_75 (s_30 hB35.1.1) (by omega) (by omega) ?_
      refine vc_mem (sI M33 30 3 x36) rfl ?_
      have hB37 : BF fS M (sI M33 30 3 x36) := BF.w30 hB35 (fun _ => rfl) _
      refine vc_aload_n dX2_slip_76 rfl ?_
      refine vc_getR dX2_slip_77 flX2_19 (s_29 hB37.1.1) rfl (r_29_2 hB37.1.1) ?_
      refine vc_iconst dX2_slip_80 rfl ?_
      refine vc_aload_n dX2_slip_81 rfl ?_
      refine vc_getR dX2_slip_82 flX2_9 (s_29 hB37.1.1) rfl (r_29_0 hB37.1.1) ?_
      refine vc_iload_n dX2_slip_85 rfl ?_
      refine vc_iconst dX2_slip_86 rfl ?_
      refine vc_cVI dX2_slip_87 (sfX6_tellingCell (M := (sI M33 30 3 x36)) hB37.1  t 1 ) rfl okX6_tellingCell viX6_tellingCell lkX2_26 (s_1 hB37.1.1) cl_6 rfl (Nat.le_of_ble_eq_true rfl) ⟨rfl, rfl⟩ (Nat.le_of_ble_eq_true rfl) (Nat.le_of_ble_eq_true rfl) (Nat.le_of_ble_eq_true rfl) ?_
      rintro x38 _ rfl
      refine vc_iastore dX2_slip_90 (s_30 hB37.1.1) (by omega) (by omega) ?_
      refine vc_mem (sI (sI M33 30 3 x36) 30 4 x38) rfl ?_
      have hB39 : BF fS M (sI (sI M33 30 3 x36) 30 4 x38) := BF.w30 hB37 (fun _ => rfl) _
      refine vc_aload_n dX2_slip_91 rfl ?_
      refine vc_getR dX2_slip_92 flX2_19 (s_29 hB39.1.1) rfl (r_29_2 hB39.1.1) ?_
      refine vc_iconst dX2_slip_95 rfl ?_
      refine vc_iload dX2_slip_96 rfl ?_
      refine vc_iastore dX2_slip_98 (s_30 hB39.1.1) (by omega) (by omega) ?_
      refine vc_mem (sI (sI (sI M33 30 3 x36) 30 4 x38) 30 5 x2) rfl ?_
      have hB40 : BF fS M (sI (sI (sI M33 30 3 x36) 30 4 x38) 30 5 x2) := BF.w30 hB39 (fun _ => rfl) _
      refine vc_aload dX2_slip_99 rfl ?_
      refine vc_iload_n dX2_slip_101 rfl ?_
      refine vc_aload_n dX2_slip_102 rfl ?_
      refine vc_getR dX2_slip_103 flX2_19 (s_29 hB40.1.1) rfl (r_29_2 hB40.1.1) ?_
      refine vc_aload_n dX2_slip_106 rfl ?_
      refine vc_getR dX2_slip_107 flX2_23 (s_29 hB40.1.1) rfl (r_29_3 hB40.1.1) ?_
      refine vc_cVI dX2_slip_110 (sfX5_value (M := (sI (sI (sI M33 30 3 x36) 30 4 x38) 30 5 x2)) hB40.1  y6 law (by omega) (by omega) ((t7).dy hB40.2)) rfl okX5_value viX5_value lkX2_53 (hB40.2.sh q13 q14) cl_5 rfl (Nat.le_of_ble_eq_true rfl) ⟨rfl, rfl⟩ (Nat.le_of_ble_eq_true rfl) (Nat.le_of_ble_eq_true rfl) (Nat.le_of_ble_eq_true rfl) ?_
      rintro x41 M42 hB43
      have hB44 : BF fS M M42 := BF.go hB40 hB43
      refine vc_iconst dX2_slip_113 rfl ?_
      refine vc_bipush dX2_slip_114 rfl ?_
      refine vc_cNI dX2_slip_116 (sfX11_held (M := M42) hB44.1  x41 0 10 ) rfl okX11_held stX11_held nkX2_57 rfl (Nat.le_of_ble_eq_true rfl) ⟨rfl, rfl⟩ (Nat.le_of_ble_eq_true rfl) (Nat.le_of_ble_eq_true rfl) (Nat.le_of_ble_eq_true rfl) ?_
      rintro x45 _ rfl
      refine vc_iret dX2_slip_119 rfl (Nat.le_of_ble_eq_true rfl) (Nat.le_of_ble_eq_true rfl) ?_
      exact ⟨_, rfl, hB44⟩
    · refine vc_iload dX2_slip_53 rfl ?_
      refine vc_iret dX2_slip_55 rfl (Nat.le_of_ble_eq_true rfl) (Nat.le_of_ble_eq_true rfl) ?_
      exact ⟨_, rfl, hB0⟩

set_option maxRecDepth 4000 in
theorem sfX2_pace {l : Launch} {M : Mem} (hB : Box M)  (c : Int) (d : Int)  : Call l mdX2_pace [aR 29, aI c, aI d] M (fun q N => ∃ r : Int, q = some (aI r) ∧ BF fS M N) := by
  have hB0 : BF fS M M := BF.start hB
  refine Call.of [some (aR 29), some (aI c), some (aI d), none] rfl (Nat.le_of_ble_eq_true rfl) rfl ?_
  refine vc_ok (fun hoM hoS hoL => ?_)
  have hr1 : -2147483648 ≤ c ∧ c < 2147483648 := hoL 1 _ rfl
  have hr2 : -2147483648 ≤ d ∧ d < 2147483648 := hoL 2 _ rfl
  refine vc_aload_n dX2_pace_0 rfl ?_
  refine vc_getR dX2_pace_1 flX2_9 (s_29 hB0.1.1) rfl (r_29_0 hB0.1.1) ?_
  refine vc_aload_n dX2_pace_4 rfl ?_
  refine vc_getR dX2_pace_5 flX2_9 (s_29 hB0.1.1) rfl (r_29_0 hB0.1.1) ?_
  refine vc_getI dX2_pace_8 flX2_35 (s_1 hB0.1.1) rfl ?_
  refine vc_cVO dX2_pace_11 (sfX6_textOf (M := M) hB0.1  (mI M 1 11) ) rfl okX6_textOf viX6_textOf lkX2_39 (s_1 hB0.1.1) cl_6 rfl (Nat.le_of_ble_eq_true rfl) ⟨rfl, rfl⟩ (Nat.le_of_ble_eq_true rfl) (Nat.le_of_ble_eq_true rfl) (Nat.le_of_ble_eq_true rfl) ?_
  rintro o1 _ ⟨rfl, h2⟩
  refine vc_astore_n dX2_pace_14 (by decide) rfl (show _ = [some (aR 29), some (aI c), some (aI d), some (.inr (.inr o1))] from rfl) ?_
  refine vc_aload_n dX2_pace_15 rfl ?_
  refine vc_ifnull dX2_pace_16 (fun h3 => ?_) (fun h3 => ?_)
  · subst h3
    refine vc_bipush dX2_pace_27 rfl ?_
    refine vc_iret dX2_pace_29 rfl (Nat.le_of_ble_eq_true rfl) (Nat.le_of_ble_eq_true rfl) ?_
    exact ⟨_, rfl, hB0⟩
  · obtain ⟨y4, h3⟩ := Option.ne_none_iff_exists'.mp h3
    subst h3
    have t5 : TxO M y4 := h2 y4 rfl
    obtain ⟨q11, q12, q25, ta6, tb7, tc8, tn9, tm10, q13, q14, q15, q16, q17, q18, q19, q20, q21, q22, q23, q24⟩ := id t5
    refine vc_aload_n dX2_pace_19 rfl ?_
    refine vc_iconst dX2_pace_20 rfl ?_
    refine vc_cVI dX2_pace_21 (sfX5_rules (M := M) hB0.1  y4 3 ((t5).dy hB0.2)) rfl okX5_rules viX5_rules lkX2_43 (hB0.2.sh q11 q12) cl_5 rfl (Nat.le_of_ble_eq_true rfl) ⟨rfl, rfl⟩ (Nat.le_of_ble_eq_true rfl) (Nat.le_of_ble_eq_true rfl) (Nat.le_of_ble_eq_true rfl) ?_
    rintro x26 _ ⟨rfl, h27, h28, h29⟩
    refine vc_if_ne dX2_pace_24 (fun h30 => ?_) (fun h30 => ?_)
    · refine vc_aload_n dX2_pace_30 rfl ?_
      refine vc_getR dX2_pace_31 flX2_19 (s_29 hB0.1.1) rfl (r_29_2 hB0.1.1) ?_
      refine vc_bipush dX2_pace_34 rfl ?_
      refine vc_aload_n dX2_pace_36 rfl ?_
      refine vc_getR dX2_pace_37 flX2_9 (s_29 hB0.1.1) rfl (r_29_0 hB0.1.1) ?_
      refine vc_iload_n dX2_pace_40 rfl ?_
      refine vc_iload_n dX2_pace_41 rfl ?_
      refine vc_cVI dX2_pace_42 (sfX6_laneAt (M := M) hB0.1  c d ) rfl okX6_laneAt viX6_laneAt lkX2_61 (s_1 hB0.1.1) cl_6 rfl (Nat.le_of_ble_eq_true rfl) ⟨rfl, rfl⟩ (Nat.le_of_ble_eq_true rfl) (Nat.le_of_ble_eq_true rfl) (Nat.le_of_ble_eq_true rfl) ?_
      rintro x31 _ rfl
      refine vc_iastore dX2_pace_45 (s_30 hB0.1.1) (by omega) (by omega) ?_
      refine vc_mem (sI M 30 6 x31) rfl ?_
      have hB32 : BF fS M (sI M 30 6 x31) := BF.w30 hB0 (fun _ => rfl) _
      refine vc_aload_n dX2_pace_46 rfl ?_
      refine vc_getR dX2_pace_47 flX2_19 (s_29 hB32.1.1) rfl (r_29_2 hB32.1.1) ?_
      refine vc_bipush dX2_pace_50 rfl ?_
      refine vc_aload_n dX2_pace_52 rfl ?_
      refine vc_getR dX2_pace_53 flX2_9 (s_29 hB32.1.1) rfl (r_29_0 hB32.1.1) ?_
      refine vc_aload_n dX2_pace_56 rfl ?_
      refine vc_getR dX2_pace_57 flX2_9 (s_29 hB32.1.1) rfl (r_29_0 hB32.1.1) ?_
      refine vc_iload_n dX2_pace_60 rfl ?_
      refine vc_iload_n dX2_pace_61 rfl ?_
      refine vc_cVI dX2_pace_62 (sfX6_ahead (M := (sI M 30 6 x31)) hB32.1  c d ) rfl okX6_ahead viX6_ahead lkX2_64 (s_1 hB32.1.1) cl_6 rfl (Nat.le_of_ble_eq_true rfl) ⟨rfl, rfl⟩ (Nat.le_of_ble_eq_true rfl) (Nat.le_of_ble_eq_true rfl) (Nat.le_of_ble_eq_true rfl) ?_
      rintro x33 _ ⟨rfl, h34, h35, h36, h37⟩
      refine vc_cVI dX2_pace_65 (sfX6_sightOf (M := (sI M 30 6 x31)) hB32.1  x33 ) rfl okX6_sightOf viX6_sightOf lkX2_67 (s_1 hB32.1.1) cl_6 rfl (Nat.le_of_ble_eq_true rfl) ⟨rfl, rfl⟩ (Nat.le_of_ble_eq_true rfl) (Nat.le_of_ble_eq_true rfl) (Nat.le_of_ble_eq_true rfl) ?_
      rintro x38 _ rfl
      refine vc_iastore dX2_pace_68 (s_30 hB32.1.1) (by omega) (by omega) ?_
      refine vc_mem (sI (sI M 30 6 x31) 30 7 x38) rfl ?_
      have hB39 : BF fS M (sI (sI M 30 6 x31) 30 7 x38) := BF.w30 hB32 (fun _ => rfl) _
      refine vc_aload_n dX2_pace_69 rfl ?_
      refine vc_getR dX2_pace_70 flX2_19 (s_29 hB39.1.1) rfl (r_29_2 hB39.1.1) ?_
      refine vc_bipush dX2_pace_73 rfl ?_
      refine vc_iload_n dX2_pace_75 rfl ?_
      refine vc_iastore dX2_pace_76 (s_30 hB39.1.1) (by omega) (by omega) ?_
      refine vc_mem (sI (sI (sI M 30 6 x31) 30 7 x38) 30 8 d) rfl ?_
      have hB40 : BF fS M (sI (sI (sI M 30 6 x31) 30 7 x38) 30 8 d) := BF.w30 hB39 (fun _ => rfl) _
      refine vc_aload_n dX2_pace_77 rfl ?_
      refine vc_iconst dX2_pace_78 rfl ?_
      refine vc_aload_n dX2_pace_79 rfl ?_
      refine vc_getR dX2_pace_80 flX2_19 (s_29 hB40.1.1) rfl (r_29_2 hB40.1.1) ?_
      refine vc_aload_n dX2_pace_83 rfl ?_
      refine vc_getR dX2_pace_84 flX2_23 (s_29 hB40.1.1) rfl (r_29_3 hB40.1.1) ?_
      refine vc_cVI dX2_pace_87 (sfX5_value (M := (sI (sI (sI M 30 6 x31) 30 7 x38) 30 8 d)) hB40.1  y4 3 (by omega) (by omega) ((t5).dy hB40.2)) rfl okX5_value viX5_value lkX2_53 (hB40.2.sh q11 q12) cl_5 rfl (Nat.le_of_ble_eq_true rfl) ⟨rfl, rfl⟩ (Nat.le_of_ble_eq_true rfl) (Nat.le_of_ble_eq_true rfl) (Nat.le_of_ble_eq_true rfl) ?_
      rintro x41 M42 hB43
      have hB44 : BF fS M M42 := BF.go hB40 hB43
      refine vc_iconst dX2_pace_90 rfl ?_
      refine vc_bipush dX2_pace_91 rfl ?_
      refine vc_cNI dX2_pace_93 (sfX11_held (M := M42) hB44.1  x41 1 99 ) rfl okX11_held stX11_held nkX2_57 rfl (Nat.le_of_ble_eq_true rfl) ⟨rfl, rfl⟩ (Nat.le_of_ble_eq_true rfl) (Nat.le_of_ble_eq_true rfl) (Nat.le_of_ble_eq_true rfl) ?_
      rintro x45 _ rfl
      refine vc_iret dX2_pace_96 rfl (Nat.le_of_ble_eq_true rfl) (Nat.le_of_ble_eq_true rfl) ?_
      exact ⟨_, rfl, hB44⟩
    · refine vc_bipush dX2_pace_27 rfl ?_
      refine vc_iret dX2_pace_29 rfl (Nat.le_of_ble_eq_true rfl) (Nat.le_of_ble_eq_true rfl) ?_
      exact ⟨_, rfl, hB0⟩

set_option maxRecDepth 4000 in
theorem sfX2_asking {l : Launch} {M : Mem} (hB : Box M)  (t : Int)  : Call l mdX2_asking [aR 29, aI t] M (fun q N => ∃ r : Int, q = some (aI r) ∧ BF fS M N) := by
  have hB0 : BF fS M M := BF.start hB
  refine Call.of [some (aR 29), some (aI t), none] rfl (Nat.le_of_ble_eq_true rfl) rfl ?_
  refine vc_ok (fun hoM hoS hoL => ?_)
  have hr1 : -2147483648 ≤ t ∧ t < 2147483648 := hoL 1 _ rfl
  refine vc_aload_n dX2_asking_0 rfl ?_
  refine vc_getR dX2_asking_1 flX2_9 (s_29 hB0.1.1) rfl (r_29_0 hB0.1.1) ?_
  refine vc_aload_n dX2_asking_4 rfl ?_
  refine vc_getR dX2_asking_5 flX2_9 (s_29 hB0.1.1) rfl (r_29_0 hB0.1.1) ?_
  refine vc_getI dX2_asking_8 flX2_35 (s_1 hB0.1.1) rfl ?_
  refine vc_cVO dX2_asking_11 (sfX6_textOf (M := M) hB0.1  (mI M 1 11) ) rfl okX6_textOf viX6_textOf lkX2_39 (s_1 hB0.1.1) cl_6 rfl (Nat.le_of_ble_eq_true rfl) ⟨rfl, rfl⟩ (Nat.le_of_ble_eq_true rfl) (Nat.le_of_ble_eq_true rfl) (Nat.le_of_ble_eq_true rfl) ?_
  rintro o1 _ ⟨rfl, h2⟩
  refine vc_astore_n dX2_asking_14 (by decide) rfl (show _ = [some (aR 29), some (aI t), some (.inr (.inr o1))] from rfl) ?_
  refine vc_aload_n dX2_asking_15 rfl ?_
  refine vc_ifnull dX2_asking_16 (fun h3 => ?_) (fun h3 => ?_)
  · subst h3
    refine vc_bipush dX2_asking_27 rfl ?_
    refine vc_iret dX2_asking_29 rfl (Nat.le_of_ble_eq_true rfl) (Nat.le_of_ble_eq_true rfl) ?_
    exact ⟨_, rfl, hB0⟩
  · obtain ⟨y4, h3⟩ := Option.ne_none_iff_exists'.mp h3
    subst h3
    have t5 : TxO M y4 := h2 y4 rfl
    obtain ⟨q11, q12, q25, ta6, tb7, tc8, tn9, tm10, q13, q14, q15, q16, q17, q18, q19, q20, q21, q22, q23, q24⟩ := id t5
    refine vc_aload_n dX2_asking_19 rfl ?_
    refine vc_iconst dX2_asking_20 rfl ?_
    refine vc_cVI dX2_asking_21 (sfX5_rules (M := M) hB0.1  y4 4 ((t5).dy hB0.2)) rfl okX5_rules viX5_rules lkX2_43 (hB0.2.sh q11 q12) cl_5 rfl (Nat.le_of_ble_eq_true rfl) ⟨rfl, rfl⟩ (Nat.le_of_ble_eq_true rfl) (Nat.le_of_ble_eq_true rfl) (Nat.le_of_ble_eq_true rfl) ?_
    rintro x26 _ ⟨rfl, h27, h28, h29⟩
    refine vc_if_ne dX2_asking_24 (fun h30 => ?_) (fun h30 => ?_)
    · refine vc_aload_n dX2_asking_30 rfl ?_
      refine vc_iload_n dX2_asking_31 rfl ?_
      refine vc_cVU dX2_asking_32 (sfX2_nameTeller (M := M) hB0.1  t ) rfl okX2_nameTeller viX2_nameTeller lkX2_49 (s_29 hB0.1.1) cl_2 rfl (Nat.le_of_ble_eq_true rfl) ⟨rfl, rfl⟩ (Nat.le_of_ble_eq_true rfl) (Nat.le_of_ble_eq_true rfl) (Nat.le_of_ble_eq_true rfl) ?_
      rintro M31 hB32
      have hB33 : BF fS M M31 := BF.go hB0 hB32
      refine vc_aload_n dX2_asking_35 rfl ?_
      refine vc_iconst dX2_asking_36 rfl ?_
      refine vc_aload_n dX2_asking_37 rfl ?_
      refine vc_getR dX2_asking_38 flX2_19 (s_29 hB33.1.1) rfl (r_29_2 hB33.1.1) ?_
      refine vc_aload_n dX2_asking_41 rfl ?_
      refine vc_getR dX2_asking_42 flX2_23 (s_29 hB33.1.1) rfl (r_29_3 hB33.1.1) ?_
      refine vc_cVI dX2_asking_45 (sfX5_value (M := M31) hB33.1  y4 4 (by omega) (by omega) ((t5).dy hB33.2)) rfl okX5_value viX5_value lkX2_53 (hB33.2.sh q11 q12) cl_5 rfl (Nat.le_of_ble_eq_true rfl) ⟨rfl, rfl⟩ (Nat.le_of_ble_eq_true rfl) (Nat.le_of_ble_eq_true rfl) (Nat.le_of_ble_eq_true rfl) ?_
      rintro x34 M35 hB36
      have hB37 : BF fS M M35 := BF.go hB33 hB36
      refine vc_iconst dX2_asking_48 rfl ?_
      refine vc_bipush dX2_asking_49 rfl ?_
      refine vc_cNI dX2_asking_51 (sfX11_held (M := M35) hB37.1  x34 0 99 ) rfl okX11_held stX11_held nkX2_57 rfl (Nat.le_of_ble_eq_true rfl) ⟨rfl, rfl⟩ (Nat.le_of_ble_eq_true rfl) (Nat.le_of_ble_eq_true rfl) (Nat.le_of_ble_eq_true rfl) ?_
      rintro x38 _ rfl
      refine vc_iret dX2_asking_54 rfl (Nat.le_of_ble_eq_true rfl) (Nat.le_of_ble_eq_true rfl) ?_
      exact ⟨_, rfl, hB37⟩
    · refine vc_bipush dX2_asking_27 rfl ?_
      refine vc_iret dX2_asking_29 rfl (Nat.le_of_ble_eq_true rfl) (Nat.le_of_ble_eq_true rfl) ?_
      exact ⟨_, rfl, hB0⟩

set_option maxRecDepth 4000 in
theorem sfX1_setOut {l : Launch} {M : Mem} (hB : Box M)  (c : Int) (d : Int)  : Call l mdX1_setOut [aR 32, aI c, aI d] M (fun q N => q = none ∧ BF fS M N) := by
  have hB0 : BF fS M M := BF.start hB
  refine Call.of [some (aR 32), some (aI c), some (aI d)] rfl (Nat.le_of_ble_eq_true rfl) rfl ?_
  refine vc_ok (fun hoM hoS hoL => ?_)
  have hr1 : -2147483648 ≤ c ∧ c < 2147483648 := hoL 1 _ rfl
  have hr2 : -2147483648 ≤ d ∧ d < 2147483648 := hoL 2 _ rfl
  refine vc_aload_n dX1_setOut_0 rfl ?_
  refine vc_iload_n dX1_setOut_1 rfl ?_
  refine vc_putI dX1_setOut_2 (plX1_19 _ rfl) (s_32 hB0.1.1) rfl ?_
  have hB1 : BF fS M (sI M 32 2 c) := BF.w32_2 hB0 rfl
  refine vc_aload_n dX1_setOut_5 rfl ?_
  refine vc_iload_n dX1_setOut_6 rfl ?_
  refine vc_putI dX1_setOut_7 (plX1_23 _ rfl) (s_32 hB1.1.1) rfl ?_
  have hB2 : BF fS M (sI (sI M 32 2 c) 32 3 d) := BF.w32_3 hB1 rfl
  refine vc_aload_n dX1_setOut_10 rfl ?_
  refine vc_iconst dX1_setOut_11 rfl ?_
  refine vc_putI dX1_setOut_12 (plX1_26 _ rfl) (s_32 hB2.1.1) rfl ?_
  have hB3 : BF fS M (sI (sI (sI M 32 2 c) 32 3 d) 32 4 0) := BF.w32_4 hB2 rfl (by omega) (by omega)
  refine vc_vret dX1_setOut_15 rfl (Nat.le_of_ble_eq_true rfl) (Nat.le_of_ble_eq_true rfl) ?_
  exact ⟨rfl, hB3⟩

set_option maxRecDepth 4000 in
theorem sfX1_setOutAsTold {l : Launch} {M : Mem} (hB : Box M)  (t : Int)  : Call l mdX1_setOutAsTold [aR 32, aI t] M (fun q N => q = none ∧ BF fS M N) := by
  have hB0 : BF fS M M := BF.start hB
  refine Call.of [some (aR 32), some (aI t)] rfl (Nat.le_of_ble_eq_true rfl) rfl ?_
  refine vc_ok (fun hoM hoS hoL => ?_)
  have hr1 : -2147483648 ≤ t ∧ t < 2147483648 := hoL 1 _ rfl
  refine vc_aload_n dX1_setOutAsTold_0 rfl ?_
  refine vc_aload_n dX1_setOutAsTold_1 rfl ?_
  refine vc_getR dX1_setOutAsTold_2 flX1_9 (s_32 hB0.1.1) rfl (r_32_0 hB0.1.1) ?_
  refine vc_aload_n dX1_setOutAsTold_5 rfl ?_
  refine vc_getR dX1_setOutAsTold_6 flX1_9 (s_32 hB0.1.1) rfl (r_32_0 hB0.1.1) ?_
  refine vc_iload_n dX1_setOutAsTold_9 rfl ?_
  refine vc_iconst dX1_setOutAsTold_10 rfl ?_
  refine vc_cVI dX1_setOutAsTold_11 (sfX6_tellingCell (M := M) hB0.1  t 0 ) rfl okX6_tellingCell viX6_tellingCell lkX1_29 (s_1 hB0.1.1) cl_6 rfl (Nat.le_of_ble_eq_true rfl) ⟨rfl, rfl⟩ (Nat.le_of_ble_eq_true rfl) (Nat.le_of_ble_eq_true rfl) (Nat.le_of_ble_eq_true rfl) ?_
  rintro x1 _ rfl
  refine vc_iconst dX1_setOutAsTold_14 rfl ?_
  refine vc_cVI dX1_setOutAsTold_15 (sfX6_tellerCell (M := M) hB0.1  x1 0 ) rfl okX6_tellerCell viX6_tellerCell lkX1_35 (s_1 hB0.1.1) cl_6 rfl (Nat.le_of_ble_eq_true rfl) ⟨rfl, rfl⟩ (Nat.le_of_ble_eq_true rfl) (Nat.le_of_ble_eq_true rfl) (Nat.le_of_ble_eq_true rfl) ?_
  rintro x2 _ rfl
  refine vc_aload_n dX1_setOutAsTold_18 rfl ?_
  refine vc_getR dX1_setOutAsTold_19 flX1_9 (s_32 hB0.1.1) rfl (r_32_0 hB0.1.1) ?_
  refine vc_iload_n dX1_setOutAsTold_22 rfl ?_
  refine vc_iconst dX1_setOutAsTold_23 rfl ?_
  refine vc_cVI dX1_setOutAsTold_24 (sfX6_tellingCell (M := M) hB0.1  t 1 ) rfl okX6_tellingCell viX6_tellingCell lkX1_29 (s_1 hB0.1.1) cl_6 rfl (Nat.le_of_ble_eq_true rfl) ⟨rfl, rfl⟩ (Nat.le_of_ble_eq_true rfl) (Nat.le_of_ble_eq_true rfl) (Nat.le_of_ble_eq_true rfl) ?_
  rintro x3 _ rfl
  refine vc_cVU dX1_setOutAsTold_27 (sfX1_setOut (M := M) hB0.1  x2 x3 ) rfl okX1_setOut viX1_setOut lkX1_38 (s_32 hB0.1.1) cl_1 rfl (Nat.le_of_ble_eq_true rfl) ⟨rfl, rfl⟩ (Nat.le_of_ble_eq_true rfl) (Nat.le_of_ble_eq_true rfl) (Nat.le_of_ble_eq_true rfl) ?_
  rintro M4 hB5
  have hB6 : BF fS M M4 := BF.go hB0 hB5
  refine vc_vret dX1_setOutAsTold_30 rfl (Nat.le_of_ble_eq_true rfl) (Nat.le_of_ble_eq_true rfl) ?_
  exact ⟨rfl, hB6⟩

set_option maxRecDepth 4000 in
theorem sfX1_meant {l : Launch} {M : Mem} (hB : Box M)  (t : Int) (s : Int)  : Call l mdX1_meant [aI t, aI s] M (fun q N => ∃ r : Int, q = some (aI r) ∧ M = N) := by
  have hB0 : BF fQ M M := BF.start hB
  refine Call.of [some (aI t), some (aI s), none, none, none] rfl (Nat.le_of_ble_eq_true rfl) rfl ?_
  refine vc_ok (fun hoM hoS hoL => ?_)
  have hr0 : -2147483648 ≤ t ∧ t < 2147483648 := hoL 0 _ rfl
  have hr1 : -2147483648 ≤ s ∧ s < 2147483648 := hoL 1 _ rfl
  refine vc_iload_n dX1_meant_0 rfl ?_
  refine vc_bipush dX1_meant_1 rfl ?_
  refine vc_idiv dX1_meant_3 (by omega) ?_
  refine vc_nameI (fun x1 ex1 => ?_)
  refine vc_istore_n dX1_meant_4 (by decide) rfl (show _ = [some (aI t), some (aI s), some (aI x1), none, none] from rfl) ?_
  refine vc_iload_n dX1_meant_5 rfl ?_
  refine vc_bipush dX1_meant_6 rfl ?_
  refine vc_idiv dX1_meant_8 (by omega) ?_
  refine vc_bipush dX1_meant_9 rfl ?_
  refine vc_irem dX1_meant_11 (by omega) ?_
  refine vc_nameI (fun x2 ex2 => ?_)
  refine vc_istore_n dX1_meant_12 (by decide) rfl (show _ = [some (aI t), some (aI s), some (aI x1), some (aI x2), none] from rfl) ?_
  refine vc_iload_n dX1_meant_13 rfl ?_
  refine vc_bipush dX1_meant_14 rfl ?_
  refine vc_irem dX1_meant_16 (by omega) ?_
  refine vc_nameI (fun x3 ex3 => ?_)
  refine vc_istore dX1_meant_17 (by decide) rfl (show _ = [some (aI t), some (aI s), some (aI x1), some (aI x2), some (aI x3)] from rfl) ?_
  refine vc_iload_n dX1_meant_19 rfl ?_
  refine vc_iconst dX1_meant_20 rfl ?_
  refine vc_iandM dX1_meant_21 2 1 rfl (by decide) rfl ?_
  refine vc_if_eq dX1_meant_22 (fun h4 => ?_) (fun h4 => ?_)
  · refine vc_iload_n dX1_meant_34 rfl ?_
    refine vc_iconst dX1_meant_35 rfl ?_
    refine vc_iand dX1_meant_36 ?_
    refine vc_if_eq dX1_meant_37 (fun h5 => ?_) (fun h5 => ?_)
    · refine vc_bipush dX1_meant_57 rfl ?_
      refine vc_iload_n dX1_meant_59 rfl ?_
      refine vc_imul dX1_meant_60 ?_
      refine vc_bipush dX1_meant_61 rfl ?_
      refine vc_iload_n dX1_meant_63 rfl ?_
      refine vc_imul dX1_meant_64 ?_
      refine vc_iadd dX1_meant_65 ?_
      refine vc_iload dX1_meant_66 rfl ?_
      refine vc_iadd dX1_meant_68 ?_
      refine vc_iret dX1_meant_69 rfl (Nat.le_of_ble_eq_true rfl) (Nat.le_of_ble_eq_true rfl) ?_
      exact ⟨_, rfl, rfl⟩
    · refine vc_iload_n dX1_meant_40 rfl ?_
      refine vc_iconst dX1_meant_41 rfl ?_
      refine vc_icmp_ne dX1_meant_42 (fun h6 => ?_) (fun h6 => ?_)
      · refine vc_bipush dX1_meant_57 rfl ?_
        refine vc_iload_n dX1_meant_59 rfl ?_
        refine vc_imul dX1_meant_60 ?_
        refine vc_bipush dX1_meant_61 rfl ?_
        refine vc_iload_n dX1_meant_63 rfl ?_
        refine vc_imul dX1_meant_64 ?_
        refine vc_iadd dX1_meant_65 ?_
        refine vc_iload dX1_meant_66 rfl ?_
        refine vc_iadd dX1_meant_68 ?_
        refine vc_iret dX1_meant_69 rfl (Nat.le_of_ble_eq_true rfl) (Nat.le_of_ble_eq_true rfl) ?_
        exact ⟨_, rfl, rfl⟩
      · refine vc_iload dX1_meant_45 rfl ?_
        refine vc_iconst dX1_meant_47 rfl ?_
        refine vc_icmp_gt dX1_meant_48 (fun h7 => ?_) (fun h7 => ?_)
        · refine vc_bipush dX1_meant_57 rfl ?_
          refine vc_iload_n dX1_meant_59 rfl ?_
          refine vc_imul dX1_meant_60 ?_
          refine vc_bipush dX1_meant_61 rfl ?_
          refine vc_iload_n dX1_meant_63 rfl ?_
          refine vc_imulE dX1_meant_64 (by omega) (by omega) ?_
          refine vc_iadd dX1_meant_65 ?_
          refine vc_iload dX1_meant_66 rfl ?_
          refine vc_iadd dX1_meant_68 ?_
          refine vc_iret dX1_meant_69 rfl (Nat.le_of_ble_eq_true rfl) (Nat.le_of_ble_eq_true rfl) ?_
          exact ⟨_, rfl, rfl⟩
        · refine vc_iconst dX1_meant_51 rfl ?_
          refine vc_iload dX1_meant_52 rfl ?_
          refine vc_isub dX1_meant_54 ?_
          refine vc_nameI (fun x8 ex8 => ?_)
          refine vc_istore dX1_meant_55 (by decide) rfl (show _ = [some (aI t), some (aI s), some (aI x1), some (aI x2), some (aI x8)] from rfl) ?_
          refine vc_bipush dX1_meant_57 rfl ?_
          refine vc_iload_n dX1_meant_59 rfl ?_
          refine vc_imul dX1_meant_60 ?_
          refine vc_bipush dX1_meant_61 rfl ?_
          refine vc_iload_n dX1_meant_63 rfl ?_
          refine vc_imulE dX1_meant_64 (by omega) (by omega) ?_
          refine vc_iadd dX1_meant_65 ?_
          refine vc_iload dX1_meant_66 rfl ?_
          refine vc_iadd dX1_meant_68 ?_
          refine vc_iret dX1_meant_69 rfl (Nat.le_of_ble_eq_true rfl) (Nat.le_of_ble_eq_true rfl) ?_
          exact ⟨_, rfl, rfl⟩
  · refine vc_iload_n dX1_meant_25 rfl ?_
    refine vc_iconst dX1_meant_26 rfl ?_
    refine vc_icmp_eq dX1_meant_27 (fun h9 => ?_) (fun h9 => ?_)
    · refine vc_iload_n dX1_meant_34 rfl ?_
      refine vc_iconst dX1_meant_35 rfl ?_
      refine vc_iand dX1_meant_36 ?_
      refine vc_if_eq dX1_meant_37 (fun h10 => ?_) (fun h10 => ?_)
      · refine vc_bipush dX1_meant_57 rfl ?_
        refine vc_iload_n dX1_meant_59 rfl ?_
        refine vc_imulE dX1_meant_60 (by omega) (by omega) ?_
        refine vc_bipush dX1_meant_61 rfl ?_
        refine vc_iload_n dX1_meant_63 rfl ?_
        refine vc_imul dX1_meant_64 ?_
        refine vc_iadd dX1_meant_65 ?_
        refine vc_iload dX1_meant_66 rfl ?_
        refine vc_iadd dX1_meant_68 ?_
        refine vc_iret dX1_meant_69 rfl (Nat.le_of_ble_eq_true rfl) (Nat.le_of_ble_eq_true rfl) ?_
        exact ⟨_, rfl, rfl⟩
      · refine vc_iload_n dX1_meant_40 rfl ?_
        refine vc_iconst dX1_meant_41 rfl ?_
        refine vc_icmp_ne dX1_meant_42 (fun h11 => ?_) (fun h11 => ?_)
        · refine vc_bipush dX1_meant_57 rfl ?_
          refine vc_iload_n dX1_meant_59 rfl ?_
          refine vc_imulE dX1_meant_60 (by omega) (by omega) ?_
          refine vc_bipush dX1_meant_61 rfl ?_
          refine vc_iload_n dX1_meant_63 rfl ?_
          refine vc_imul dX1_meant_64 ?_
          refine vc_iadd dX1_meant_65 ?_
          refine vc_iload dX1_meant_66 rfl ?_
          refine vc_iadd dX1_meant_68 ?_
          refine vc_iret dX1_meant_69 rfl (Nat.le_of_ble_eq_true rfl) (Nat.le_of_ble_eq_true rfl) ?_
          exact ⟨_, rfl, rfl⟩
        · refine vc_iload dX1_meant_45 rfl ?_
          refine vc_iconst dX1_meant_47 rfl ?_
          refine vc_icmp_gt dX1_meant_48 (fun h12 => ?_) (fun h12 => ?_)
          · refine vc_bipush dX1_meant_57 rfl ?_
            refine vc_iload_n dX1_meant_59 rfl ?_
            refine vc_imulE dX1_meant_60 (by omega) (by omega) ?_
            refine vc_bipush dX1_meant_61 rfl ?_
            refine vc_iload_n dX1_meant_63 rfl ?_
            refine vc_imulE dX1_meant_64 (by omega) (by omega) ?_
            refine vc_iaddE dX1_meant_65 (by omega) (by omega) ?_
            refine vc_iload dX1_meant_66 rfl ?_
            refine vc_iadd dX1_meant_68 ?_
            refine vc_iret dX1_meant_69 rfl (Nat.le_of_ble_eq_true rfl) (Nat.le_of_ble_eq_true rfl) ?_
            exact ⟨_, rfl, rfl⟩
          · refine vc_iconst dX1_meant_51 rfl ?_
            refine vc_iload dX1_meant_52 rfl ?_
            refine vc_isub dX1_meant_54 ?_
            refine vc_nameI (fun x13 ex13 => ?_)
            refine vc_istore dX1_meant_55 (by decide) rfl (show _ = [some (aI t), some (aI s), some (aI x1), some (aI x2), some (aI x13)] from rfl) ?_
            refine vc_bipush dX1_meant_57 rfl ?_
            refine vc_iload_n dX1_meant_59 rfl ?_
            refine vc_imulE dX1_meant_60 (by omega) (by omega) ?_
            refine vc_bipush dX1_meant_61 rfl ?_
            refine vc_iload_n dX1_meant_63 rfl ?_
            refine vc_imulE dX1_meant_64 (by omega) (by omega) ?_
            refine vc_iaddE dX1_meant_65 (by omega) (by omega) ?_
            refine vc_iload dX1_meant_66 rfl ?_
            refine vc_iadd dX1_meant_68 ?_
            refine vc_iret dX1_meant_69 rfl (Nat.le_of_ble_eq_true rfl) (Nat.le_of_ble_eq_true rfl) ?_
            exact ⟨_, rfl, rfl⟩
    · refine vc_iconst dX1_meant_30 rfl ?_
      refine vc_iload_n dX1_meant_31 rfl ?_
      refine vc_isub dX1_meant_32 ?_
      refine vc_nameI (fun x14 ex14 => ?_)
      refine vc_istore_n dX1_meant_33 (by decide) rfl (show _ = [some (aI t), some (aI s), some (aI x14), some (aI x2), some (aI x3)] from rfl) ?_
      refine vc_iload_n dX1_meant_34 rfl ?_
      refine vc_iconst dX1_meant_35 rfl ?_
      refine vc_iand dX1_meant_36 ?_
      refine vc_if_eq dX1_meant_37 (fun h15 => ?_) (fun h15 => ?_)
      · refine vc_bipush dX1_meant_57 rfl ?_
        refine vc_iload_n dX1_meant_59 rfl ?_
        refine vc_imul dX1_meant_60 ?_
        refine vc_bipush dX1_meant_61 rfl ?_
        refine vc_iload_n dX1_meant_63 rfl ?_
        refine vc_imul dX1_meant_64 ?_
        refine vc_iadd dX1_meant_65 ?_
        refine vc_iload dX1_meant_66 rfl ?_
        refine vc_iadd dX1_meant_68 ?_
        refine vc_iret dX1_meant_69 rfl (Nat.le_of_ble_eq_true rfl) (Nat.le_of_ble_eq_true rfl) ?_
        exact ⟨_, rfl, rfl⟩
      · refine vc_iload_n dX1_meant_40 rfl ?_
        refine vc_iconst dX1_meant_41 rfl ?_
        refine vc_icmp_ne dX1_meant_42 (fun h16 => ?_) (fun h16 => ?_)
        · refine vc_bipush dX1_meant_57 rfl ?_
          refine vc_iload_n dX1_meant_59 rfl ?_
          refine vc_imul dX1_meant_60 ?_
          refine vc_bipush dX1_meant_61 rfl ?_
          refine vc_iload_n dX1_meant_63 rfl ?_
          refine vc_imul dX1_meant_64 ?_
          refine vc_iadd dX1_meant_65 ?_
          refine vc_iload dX1_meant_66 rfl ?_
          refine vc_iadd dX1_meant_68 ?_
          refine vc_iret dX1_meant_69 rfl (Nat.le_of_ble_eq_true rfl) (Nat.le_of_ble_eq_true rfl) ?_
          exact ⟨_, rfl, rfl⟩
        · refine vc_iload dX1_meant_45 rfl ?_
          refine vc_iconst dX1_meant_47 rfl ?_
          refine vc_icmp_gt dX1_meant_48 (fun h17 => ?_) (fun h17 => ?_)
          · refine vc_bipush dX1_meant_57 rfl ?_
            refine vc_iload_n dX1_meant_59 rfl ?_
            refine vc_imul dX1_meant_60 ?_
            refine vc_bipush dX1_meant_61 rfl ?_
            refine vc_iload_n dX1_meant_63 rfl ?_
            refine vc_imulE dX1_meant_64 (by omega) (by omega) ?_
            refine vc_iadd dX1_meant_65 ?_
            refine vc_iload dX1_meant_66 rfl ?_
            refine vc_iadd dX1_meant_68 ?_
            refine vc_iret dX1_meant_69 rfl (Nat.le_of_ble_eq_true rfl) (Nat.le_of_ble_eq_true rfl) ?_
            exact ⟨_, rfl, rfl⟩
          · refine vc_iconst dX1_meant_51 rfl ?_
            refine vc_iload dX1_meant_52 rfl ?_
            refine vc_isub dX1_meant_54 ?_
            refine vc_nameI (fun x18 ex18 => ?_)
            refine vc_istore dX1_meant_55 (by decide) rfl (show _ = [some (aI t), some (aI s), some (aI x14), some (aI x2), some (aI x18)] from rfl) ?_
            refine vc_bipush dX1_meant_57 rfl ?_
            refine vc_iload_n dX1_meant_59 rfl ?_
            refine vc_imul dX1_meant_60 ?_
            refine vc_bipush dX1_meant_61 rfl ?_
            refine vc_iload_n dX1_meant_63 rfl ?_
            refine vc_imulE dX1_meant_64 (by omega) (by omega) ?_
            refine vc_iadd dX1_meant_65 ?_
            refine vc_iload dX1_meant_66 rfl ?_
            refine vc_iadd dX1_meant_68 ?_
            refine vc_iret dX1_meant_69 rfl (Nat.le_of_ble_eq_true rfl) (Nat.le_of_ble_eq_true rfl) ?_
            exact ⟨_, rfl, rfl⟩

set_option maxRecDepth 4000 in
theorem sfX1_goesOn {l : Launch} {M : Mem} (hB : Box M)    : Call l mdX1_goesOn [aR 32] M (fun q N => ∃ r : Int, q = some (aI r) ∧ BF fS M N ∧ 0 ≤ r ∧ r ≤ 1) := by
  have hB0 : BF fS M M := BF.start hB
  refine Call.of [some (aR 32), none] rfl (Nat.le_of_ble_eq_true rfl) rfl ?_
  refine vc_aload_n dX1_goesOn_0 rfl ?_
  refine vc_getR dX1_goesOn_1 flX1_9 (s_32 hB0.1.1) rfl (r_32_0 hB0.1.1) ?_
  refine vc_aload_n dX1_goesOn_4 rfl ?_
  refine vc_getI dX1_goesOn_5 flX1_19 (s_32 hB0.1.1) rfl ?_
  refine vc_aload_n dX1_goesOn_8 rfl ?_
  refine vc_getI dX1_goesOn_9 flX1_23 (s_32 hB0.1.1) rfl ?_
  refine vc_cVI dX1_goesOn_12 (sfX6_ahead (M := M) hB0.1  (mI M 32 2) (mI M 32 3) ) rfl okX6_ahead viX6_ahead lkX1_64 (s_1 hB0.1.1) cl_6 rfl (Nat.le_of_ble_eq_true rfl) ⟨rfl, rfl⟩ (Nat.le_of_ble_eq_true rfl) (Nat.le_of_ble_eq_true rfl) (Nat.le_of_ble_eq_true rfl) ?_
  rintro x1 _ ⟨rfl, h2, h3, h4, h5⟩
  refine vc_istore_n dX1_goesOn_15 (by decide) rfl (show _ = [some (aR 32), some (aI x1)] from rfl) ?_
  refine vc_iload_n dX1_goesOn_16 rfl ?_
  refine vc_iconst dX1_goesOn_17 rfl ?_
  refine vc_icmp_eq dX1_goesOn_18 (fun h6 => ?_) (fun h6 => ?_)
  · refine vc_iconst dX1_goesOn_33 rfl ?_
    refine vc_zret dX1_goesOn_34 rfl (by first | decide | omega) (Nat.le_of_ble_eq_true rfl) (Nat.le_of_ble_eq_true rfl) ?_
    exact ⟨_, rfl, hB0, by omega, by omega⟩
  · refine vc_aload_n dX1_goesOn_21 rfl ?_
    refine vc_getI dX1_goesOn_22 flX1_26 (s_32 hB0.1.1) rfl ?_
    have k7 : 0 ≤ mI M 32 4 ∧ mI M 32 4 ≤ 40 := b32_4 (M := M) hB0.1
    refine vc_aload_n dX1_goesOn_25 rfl ?_
    refine vc_getR dX1_goesOn_26 flX1_15 (s_32 hB0.1.1) rfl (r_32_1 hB0.1.1) ?_
    refine vc_alen dX1_goesOn_29 (s_33 hB0.1.1) rfl ?_
    refine vc_topI 40 rfl ?_
    refine vc_icmp_lt dX1_goesOn_30 (fun h8 => ?_) (fun h8 => ?_)
    · refine vc_aload_n dX1_goesOn_35 rfl ?_
      refine vc_getR dX1_goesOn_36 flX1_15 (s_32 hB0.1.1) rfl (r_32_1 hB0.1.1) ?_
      refine vc_aload_n dX1_goesOn_39 rfl ?_
      refine vc_getI dX1_goesOn_40 flX1_26 (s_32 hB0.1.1) rfl ?_
      refine vc_iconst dX1_goesOn_43 rfl ?_
      refine vc_aload_n dX1_goesOn_44 rfl ?_
      refine vc_getI dX1_goesOn_45 flX1_19 (s_32 hB0.1.1) rfl ?_
      refine vc_imul dX1_goesOn_48 ?_
      refine vc_aload_n dX1_goesOn_49 rfl ?_
      refine vc_getI dX1_goesOn_50 flX1_23 (s_32 hB0.1.1) rfl ?_
      refine vc_iadd dX1_goesOn_53 ?_
      refine vc_iastore dX1_goesOn_54 (s_33 hB0.1.1) (by omega) (by omega) ?_
      have hB9 : BF fS M (sI M 33 ((mI M 32 4).toNat) (wI ((wI (4 * (mI M 32 2))) + (mI M 32 3)))) := BF.w33 hB0 (fun _ => rfl) _
      refine vc_aload_n dX1_goesOn_55 rfl ?_
      refine vc_dup dX1_goesOn_56 rfl ?_
      refine vc_getI dX1_goesOn_57 flX1_26 (s_32 hB9.1.1) rfl ?_
      refine vc_topI (mI M 32 4) rfl ?_
      have k10 : 0 ≤ mI M 32 4 ∧ mI M 32 4 ≤ 40 := b32_4 (M := (sI M 33 ((mI M 32 4).toNat) (wI ((wI (4 * (mI M 32 2))) + (mI M 32 3))))) hB9.1
      refine vc_iconst dX1_goesOn_60 rfl ?_
      refine vc_iaddE dX1_goesOn_61 (by omega) (by omega) ?_
      refine vc_putI dX1_goesOn_62 (plX1_26 _ rfl) (s_32 hB9.1.1) rfl ?_
      have hB11 : BF fS M (sI (sI M 33 ((mI M 32 4).toNat) (wI ((wI (4 * (mI M 32 2))) + (mI M 32 3)))) 32 4 ((mI M 32 4) + 1)) := BF.w32_4 hB9 rfl (by omega) (by omega)
      refine vc_aload_n dX1_goesOn_65 rfl ?_
      refine vc_iload_n dX1_goesOn_66 rfl ?_
      refine vc_putI dX1_goesOn_67 (plX1_19 _ rfl) (s_32 hB11.1.1) rfl ?_
      have hB12 : BF fS M (sI (sI (sI M 33 ((mI M 32 4).toNat) (wI ((wI (4 * (mI M 32 2))) + (mI M 32 3)))) 32 4 ((mI M 32 4) + 1)) 32 2 x1) := BF.w32_2 hB11 rfl
      refine vc_iconst dX1_goesOn_70 rfl ?_
      refine vc_zret dX1_goesOn_71 rfl (by first | decide | omega) (Nat.le_of_ble_eq_true rfl) (Nat.le_of_ble_eq_true rfl) ?_
      exact ⟨_, rfl, hB12, by omega, by omega⟩
    · refine vc_iconst dX1_goesOn_33 rfl ?_
      refine vc_zret dX1_goesOn_34 rfl (by first | decide | omega) (Nat.le_of_ble_eq_true rfl) (Nat.le_of_ble_eq_true rfl) ?_
      exact ⟨_, rfl, hB0, by omega, by omega⟩

set_option maxRecDepth 4000 in
theorem sfX1_takes {l : Launch} {M : Mem} (hB : Box M)  (t : Int) (s : Int)  : Call l mdX1_takes [aR 32, aI t, aI s] M (fun q N => ∃ r : Int, q = some (aI r) ∧ BF fS M N ∧ 0 ≤ r ∧ r ≤ 1) := by
  have hB0 : BF fS M M := BF.start hB
  refine Call.of [some (aR 32), some (aI t), some (aI s), none, none, none, none, none, none, none, none] rfl (Nat.le_of_ble_eq_true rfl) rfl ?_
  refine vc_ok (fun hoM hoS hoL => ?_)
  have hr1 : -2147483648 ≤ t ∧ t < 2147483648 := hoL 1 _ rfl
  have hr2 : -2147483648 ≤ s ∧ s < 2147483648 := hoL 2 _ rfl
  refine vc_iload_n dX1_takes_0 rfl ?_
  refine vc_bipush dX1_takes_1 rfl ?_
  refine vc_idiv dX1_takes_3 (by omega) ?_
  refine vc_nameI (fun x1 ex1 => ?_)
  refine vc_istore_n dX1_takes_4 (by decide) rfl (show _ = [some (aR 32), some (aI t), some (aI s), some (aI x1), none, none, none, none, none, none, none] from rfl) ?_
  refine vc_iload_n dX1_takes_5 rfl ?_
  refine vc_bipush dX1_takes_6 rfl ?_
  refine vc_idiv dX1_takes_8 (by omega) ?_
  refine vc_bipush dX1_takes_9 rfl ?_
  refine vc_irem dX1_takes_11 (by omega) ?_
  refine vc_iconst dX1_takes_12 rfl ?_
  refine vc_icmp_ne dX1_takes_13 (fun h2 => ?_) (fun h2 => ?_)
  · refine vc_iconst dX1_takes_20 rfl ?_
    refine vc_istore dX1_takes_21 (by decide) rfl (show _ = [some (aR 32), some (aI t), some (aI s), some (aI x1), some (aI 0), none, none, none, none, none, none] from rfl) ?_
    refine vc_iload_n dX1_takes_23 rfl ?_
    refine vc_bipush dX1_takes_24 rfl ?_
    refine vc_irem dX1_takes_26 (by omega) ?_
    refine vc_nameI (fun x3 ex3 => ?_)
    refine vc_istore dX1_takes_27 (by decide) rfl (show _ = [some (aR 32), some (aI t), some (aI s), some (aI x1), some (aI 0), some (aI x3), none, none, none, none, none] from rfl) ?_
    refine vc_iload dX1_takes_29 rfl ?_
    refine vc_if_eq dX1_takes_31 (fun h4 => ?_) (fun h4 => by exfalso; omega)
    refine vc_iload dX1_takes_38 rfl ?_
    refine vc_istore dX1_takes_40 (by decide) rfl (show _ = [some (aR 32), some (aI t), some (aI s), some (aI x1), some (aI 0), some (aI x3), some (aI x3), none, none, none, none] from rfl) ?_
    refine vc_aload_n dX1_takes_42 rfl ?_
    refine vc_getI dX1_takes_43 flX1_23 (s_32 hB0.1.1) rfl ?_
    refine vc_iload_n dX1_takes_46 rfl ?_
    refine vc_cSI dX1_takes_47 (sfX1_sideOf (M := M) hB0.1  (mI M 32 3) x1 ) rfl okX1_sideOf stX1_sideOf lkX1_67 rfl (Nat.le_of_ble_eq_true rfl) ⟨rfl, rfl⟩ (Nat.le_of_ble_eq_true rfl) (Nat.le_of_ble_eq_true rfl) (Nat.le_of_ble_eq_true rfl) ?_
    rintro x5 _ rfl
    refine vc_istore dX1_takes_50 (by decide) rfl (show _ = [some (aR 32), some (aI t), some (aI s), some (aI x1), some (aI 0), some (aI x3), some (aI x3), some (aI x5), none, none, none] from rfl) ?_
    refine vc_iload_n dX1_takes_52 rfl ?_
    refine vc_iconst dX1_takes_53 rfl ?_
    refine vc_iand dX1_takes_54 ?_
    refine vc_if_ne dX1_takes_55 (fun h6 => ?_) (fun h6 => ?_)
    · refine vc_iconst dX1_takes_62 rfl ?_
      refine vc_istore dX1_takes_63 (by decide) rfl (show _ = [some (aR 32), some (aI t), some (aI s), some (aI x1), some (aI 0), some (aI x3), some (aI x3), some (aI x5), some (aI 0), none, none] from rfl) ?_
      refine vc_iconst dX1_takes_65 rfl ?_
      refine vc_istore dX1_takes_66 (by decide) rfl (show _ = [some (aR 32), some (aI t), some (aI s), some (aI x1), some (aI 0), some (aI x3), some (aI x3), some (aI x5), some (aI 0), some (aI 0), none] from rfl) ?_
      refine vc_iconst dX1_takes_68 rfl ?_
      refine vc_istore dX1_takes_69 (by decide) rfl (show _ = [some (aR 32), some (aI t), some (aI s), some (aI x1), some (aI 0), some (aI x3), some (aI x3), some (aI x5), some (aI 0), some (aI 0), some (aI 0)] from rfl) ?_
      have lp71 : ∀ (n71 : Nat) (Mq71 : Mem) (v9 : Int) (v10 : Int), (BF fS M Mq71) → (0 ≤ v9) → (v9 ≤ v10) → (0 ≤ v10) → (v10 ≤ 41) → (41 - v10).toNat < n71 → VC l mdX1_takes 71 [some (aR 32), none, none, some (aI x1), some (aI 0), some (aI x3), some (aI x3), some (aI x5), some (aI 0), some (aI v9), some (aI v10)] [] Mq71 0 0 (fun q N => ∃ r : Int, q = some (aI r) ∧ BF fS M N ∧ 0 ≤ r ∧ r ≤ 1) := by
        intro n71
        induction n71 with
        | zero => intro Mq71 v9 v10 hQ71 g71_9a g71_9b g71_10a g71_10b hm71; exact absurd hm71 (Nat.not_lt_zero _)
        | succ n71 ih71 =>
          intro Mq71 v9 v10 hQ71 g71_9a g71_9b g71_10a g71_10b hm71
          refine vc_iload dX1_takes_71 rfl ?_
          refine vc_bipush dX1_takes_73 rfl ?_
          refine vc_icmp_gt dX1_takes_75 (fun h7 => ?_) (fun h7 => ?_)
          · refine vc_iload_n dX1_takes_150 rfl ?_
            refine vc_iconst dX1_takes_151 rfl ?_
            refine vc_icmp_eq dX1_takes_152 (fun h8 => ?_) (fun h8 => ?_)
            · refine vc_aload_n dX1_takes_175 rfl ?_
              refine vc_iload dX1_takes_176 rfl ?_
              refine vc_putI dX1_takes_178 (plX1_23 _ rfl) (s_32 hQ71.1.1) rfl ?_
              have hB9 : BF fS M (sI Mq71 32 3 x5) := BF.w32_3 hQ71 rfl
              refine vc_iconst dX1_takes_181 rfl ?_
              refine vc_zret dX1_takes_182 rfl (by first | decide | omega) (Nat.le_of_ble_eq_true rfl) (Nat.le_of_ble_eq_true rfl) ?_
              exact ⟨_, rfl, hB9, by omega, by omega⟩
            · refine vc_aload_n dX1_takes_155 rfl ?_
              refine vc_getR dX1_takes_156 flX1_9 (s_32 hQ71.1.1) rfl (r_32_0 hQ71.1.1) ?_
              refine vc_aload_n dX1_takes_159 rfl ?_
              refine vc_getI dX1_takes_160 flX1_19 (s_32 hQ71.1.1) rfl ?_
              refine vc_iload dX1_takes_163 rfl ?_
              refine vc_iload dX1_takes_165 rfl ?_
              refine vc_cVI dX1_takes_167 (sfX6_counts (M := Mq71) hQ71.1  (mI Mq71 32 2) x5 0 ) rfl okX6_counts viX6_counts lkX1_74 (s_1 hQ71.1.1) cl_6 rfl (Nat.le_of_ble_eq_true rfl) ⟨rfl, rfl⟩ (Nat.le_of_ble_eq_true rfl) (Nat.le_of_ble_eq_true rfl) (Nat.le_of_ble_eq_true rfl) ?_
              rintro x10 _ ⟨rfl, h11, h12⟩
              refine vc_if_ne dX1_takes_170 (fun h13 => ?_) (fun h13 => ?_)
              · refine vc_aload_n dX1_takes_175 rfl ?_
                refine vc_iload dX1_takes_176 rfl ?_
                refine vc_putI dX1_takes_178 (plX1_23 _ rfl) (s_32 hQ71.1.1) rfl ?_
                have hB14 : BF fS M (sI Mq71 32 3 x5) := BF.w32_3 hQ71 rfl
                refine vc_iconst dX1_takes_181 rfl ?_
                refine vc_zret dX1_takes_182 rfl (by first | decide | omega) (Nat.le_of_ble_eq_true rfl) (Nat.le_of_ble_eq_true rfl) ?_
                exact ⟨_, rfl, hB14, by omega, by omega⟩
              · refine vc_iconst dX1_takes_173 rfl ?_
                refine vc_zret dX1_takes_174 rfl (by first | decide | omega) (Nat.le_of_ble_eq_true rfl) (Nat.le_of_ble_eq_true rfl) ?_
                exact ⟨_, rfl, hQ71, by omega, by omega⟩
          · refine vc_iload dX1_takes_78 rfl ?_
            refine vc_iload dX1_takes_80 rfl ?_
            refine vc_icmp_ge dX1_takes_82 (fun h15 => ?_) (fun h15 => ?_)
            · refine vc_iload_n dX1_takes_150 rfl ?_
              refine vc_iconst dX1_takes_151 rfl ?_
              refine vc_icmp_eq dX1_takes_152 (fun h16 => ?_) (fun h16 => ?_)
              · refine vc_aload_n dX1_takes_175 rfl ?_
                refine vc_iload dX1_takes_176 rfl ?_
                refine vc_putI dX1_takes_178 (plX1_23 _ rfl) (s_32 hQ71.1.1) rfl ?_
                have hB17 : BF fS M (sI Mq71 32 3 x5) := BF.w32_3 hQ71 rfl
                refine vc_iconst dX1_takes_181 rfl ?_
                refine vc_zret dX1_takes_182 rfl (by first | decide | omega) (Nat.le_of_ble_eq_true rfl) (Nat.le_of_ble_eq_true rfl) ?_
                exact ⟨_, rfl, hB17, by omega, by omega⟩
              · refine vc_aload_n dX1_takes_155 rfl ?_
                refine vc_getR dX1_takes_156 flX1_9 (s_32 hQ71.1.1) rfl (r_32_0 hQ71.1.1) ?_
                refine vc_aload_n dX1_takes_159 rfl ?_
                refine vc_getI dX1_takes_160 flX1_19 (s_32 hQ71.1.1) rfl ?_
                refine vc_iload dX1_takes_163 rfl ?_
                refine vc_iload dX1_takes_165 rfl ?_
                refine vc_cVI dX1_takes_167 (sfX6_counts (M := Mq71) hQ71.1  (mI Mq71 32 2) x5 0 ) rfl okX6_counts viX6_counts lkX1_74 (s_1 hQ71.1.1) cl_6 rfl (Nat.le_of_ble_eq_true rfl) ⟨rfl, rfl⟩ (Nat.le_of_ble_eq_true rfl) (Nat.le_of_ble_eq_true rfl) (Nat.le_of_ble_eq_true rfl) ?_
                rintro x18 _ ⟨rfl, h19, h20⟩
                refine vc_if_ne dX1_takes_170 (fun h21 => ?_) (fun h21 => ?_)
                · refine vc_aload_n dX1_takes_175 rfl ?_
                  refine vc_iload dX1_takes_176 rfl ?_
                  refine vc_putI dX1_takes_178 (plX1_23 _ rfl) (s_32 hQ71.1.1) rfl ?_
                  have hB22 : BF fS M (sI Mq71 32 3 x5) := BF.w32_3 hQ71 rfl
                  refine vc_iconst dX1_takes_181 rfl ?_
                  refine vc_zret dX1_takes_182 rfl (by first | decide | omega) (Nat.le_of_ble_eq_true rfl) (Nat.le_of_ble_eq_true rfl) ?_
                  exact ⟨_, rfl, hB22, by omega, by omega⟩
                · refine vc_iconst dX1_takes_173 rfl ?_
                  refine vc_zret dX1_takes_174 rfl (by first | decide | omega) (Nat.le_of_ble_eq_true rfl) (Nat.le_of_ble_eq_true rfl) ?_
                  exact ⟨_, rfl, hQ71, by omega, by omega⟩
            · refine vc_aload_n dX1_takes_85 rfl ?_
              refine vc_cVI dX1_takes_86 (sfX1_goesOn (M := Mq71) hQ71.1   ) rfl okX1_goesOn viX1_goesOn lkX1_60 (s_32 hQ71.1.1) cl_1 rfl (Nat.le_of_ble_eq_true rfl) ⟨rfl, rfl⟩ (Nat.le_of_ble_eq_true rfl) (Nat.le_of_ble_eq_true rfl) (Nat.le_of_ble_eq_true rfl) ?_
              rintro x23 M24 ⟨hB25, h26, h27⟩
              have hB28 : BF fS M M24 := BF.go hQ71 hB25
              refine vc_if_ne dX1_takes_89 (fun h29 => ?_) (fun h29 => ?_)
              · refine vc_iload dX1_takes_94 rfl ?_
                refine vc_if_eq dX1_takes_96 (fun h30 => ?_) (fun h30 => by exfalso; omega)
                refine vc_iload_n dX1_takes_118 rfl ?_
                refine vc_iconst dX1_takes_119 rfl ?_
                refine vc_icmp_eq dX1_takes_120 (fun h31 => ?_) (fun h31 => ?_)
                · refine vc_iincE dX1_takes_141 rfl (by omega) (by omega) (by decide) rfl (show _ = [some (aR 32), none, none, some (aI x1), some (aI 0), some (aI x3), some (aI x3), some (aI x5), some (aI 0), some (aI (v9 + 1)), some (aI v10)] from rfl) ?_
                  refine vc_iincE dX1_takes_144 rfl (by omega) (by omega) (by decide) rfl (show _ = [some (aR 32), none, none, some (aI x1), some (aI 0), some (aI x3), some (aI x3), some (aI x5), some (aI 0), some (aI (v9 + 1)), some (aI (v10 + 1))] from rfl) ?_
                  refine vc_goto dX1_takes_147 ?_
                  exact ih71 M24 (v9 + 1) (v10 + 1) hB28 (by omega) (by omega) (by omega) (by omega) (by omega)
                · refine vc_aload_n dX1_takes_123 rfl ?_
                  refine vc_getR dX1_takes_124 flX1_9 (s_32 hB28.1.1) rfl (r_32_0 hB28.1.1) ?_
                  refine vc_aload_n dX1_takes_127 rfl ?_
                  refine vc_getI dX1_takes_128 flX1_19 (s_32 hB28.1.1) rfl ?_
                  refine vc_iload dX1_takes_131 rfl ?_
                  refine vc_iload dX1_takes_133 rfl ?_
                  refine vc_cVI dX1_takes_135 (sfX6_counts (M := M24) hB28.1  (mI M24 32 2) x5 0 ) rfl okX6_counts viX6_counts lkX1_74 (s_1 hB28.1.1) cl_6 rfl (Nat.le_of_ble_eq_true rfl) ⟨rfl, rfl⟩ (Nat.le_of_ble_eq_true rfl) (Nat.le_of_ble_eq_true rfl) (Nat.le_of_ble_eq_true rfl) ?_
                  rintro x32 _ ⟨rfl, h33, h34⟩
                  refine vc_if_eq dX1_takes_138 (fun h35 => ?_) (fun h35 => ?_)
                  · refine vc_iincE dX1_takes_144 rfl (by omega) (by omega) (by decide) rfl (show _ = [some (aR 32), none, none, some (aI x1), some (aI 0), some (aI x3), some (aI x3), some (aI x5), some (aI 0), some (aI v9), some (aI (v10 + 1))] from rfl) ?_
                    refine vc_goto dX1_takes_147 ?_
                    exact ih71 M24 v9 (v10 + 1) hB28 (by omega) (by omega) (by omega) (by omega) (by omega)
                  · refine vc_iincE dX1_takes_141 rfl (by omega) (by omega) (by decide) rfl (show _ = [some (aR 32), none, none, some (aI x1), some (aI 0), some (aI x3), some (aI x3), some (aI x5), some (aI 0), some (aI (v9 + 1)), some (aI v10)] from rfl) ?_
                    refine vc_iincE dX1_takes_144 rfl (by omega) (by omega) (by decide) rfl (show _ = [some (aR 32), none, none, some (aI x1), some (aI 0), some (aI x3), some (aI x3), some (aI x5), some (aI 0), some (aI (v9 + 1)), some (aI (v10 + 1))] from rfl) ?_
                    refine vc_goto dX1_takes_147 ?_
                    exact ih71 M24 (v9 + 1) (v10 + 1) hB28 (by omega) (by omega) (by omega) (by omega) (by omega)
              · refine vc_iconst dX1_takes_92 rfl ?_
                refine vc_zret dX1_takes_93 rfl (by first | decide | omega) (Nat.le_of_ble_eq_true rfl) (Nat.le_of_ble_eq_true rfl) ?_
                exact ⟨_, rfl, hB28, by omega, by omega⟩
      refine vc_less [some (aR 32), none, none, some (aI x1), some (aI 0), some (aI x3), some (aI x3), some (aI x5), some (aI 0), some (aI 0), some (aI 0)] (lessL_keep (lessL_drop (lessL_drop (lessL_keep (lessL_keep (lessL_keep (lessL_keep (lessL_keep (lessL_keep (lessL_keep (lessL_keep (lessL_nil)))))))))))) ?_
      exact lp71 _ M 0 0 hB0 (by omega) (by omega) (by omega) (by omega) (Nat.lt_succ_self _)
    · refine vc_iconst dX1_takes_58 rfl ?_
      refine vc_goto dX1_takes_59 ?_
      refine vc_istore dX1_takes_63 (by decide) rfl (show _ = [some (aR 32), some (aI t), some (aI s), some (aI x1), some (aI 0), some (aI x3), some (aI x3), some (aI x5), some (aI 1), none, none] from rfl) ?_
      refine vc_iconst dX1_takes_65 rfl ?_
      refine vc_istore dX1_takes_66 (by decide) rfl (show _ = [some (aR 32), some (aI t), some (aI s), some (aI x1), some (aI 0), some (aI x3), some (aI x3), some (aI x5), some (aI 1), some (aI 0), none] from rfl) ?_
      refine vc_iconst dX1_takes_68 rfl ?_
      refine vc_istore dX1_takes_69 (by decide) rfl (show _ = [some (aR 32), some (aI t), some (aI s), some (aI x1), some (aI 0), some (aI x3), some (aI x3), some (aI x5), some (aI 1), some (aI 0), some (aI 0)] from rfl) ?_
      have lp71 : ∀ (n71 : Nat) (Mq71 : Mem) (v9 : Int) (v10 : Int), (BF fS M Mq71) → (0 ≤ v9) → (v9 ≤ v10) → (0 ≤ v10) → (v10 ≤ 41) → (41 - v10).toNat < n71 → VC l mdX1_takes 71 [some (aR 32), none, none, some (aI x1), some (aI 0), some (aI x3), some (aI x3), some (aI x5), some (aI 1), some (aI v9), some (aI v10)] [] Mq71 0 0 (fun q N => ∃ r : Int, q = some (aI r) ∧ BF fS M N ∧ 0 ≤ r ∧ r ≤ 1) := by
        intro n71
        induction n71 with
        | zero => intro Mq71 v9 v10 hQ71 g71_9a g71_9b g71_10a g71_10b hm71; exact absurd hm71 (Nat.not_lt_zero _)
        | succ n71 ih71 =>
          intro Mq71 v9 v10 hQ71 g71_9a g71_9b g71_10a g71_10b hm71
          refine vc_iload dX1_takes_71 rfl ?_
          refine vc_bipush dX1_takes_73 rfl ?_
          refine vc_icmp_gt dX1_takes_75 (fun h36 => ?_) (fun h36 => ?_)
          · refine vc_iload_n dX1_takes_150 rfl ?_
            refine vc_iconst dX1_takes_151 rfl ?_
            refine vc_icmp_eq dX1_takes_152 (fun h37 => ?_) (fun h37 => ?_)
            · refine vc_aload_n dX1_takes_175 rfl ?_
              refine vc_iload dX1_takes_176 rfl ?_
              refine vc_putI dX1_takes_178 (plX1_23 _ rfl) (s_32 hQ71.1.1) rfl ?_
              have hB38 : BF fS M (sI Mq71 32 3 x5) := BF.w32_3 hQ71 rfl
              refine vc_iconst dX1_takes_181 rfl ?_
              refine vc_zret dX1_takes_182 rfl (by first | decide | omega) (Nat.le_of_ble_eq_true rfl) (Nat.le_of_ble_eq_true rfl) ?_
              exact ⟨_, rfl, hB38, by omega, by omega⟩
            · refine vc_aload_n dX1_takes_155 rfl ?_
              refine vc_getR dX1_takes_156 flX1_9 (s_32 hQ71.1.1) rfl (r_32_0 hQ71.1.1) ?_
              refine vc_aload_n dX1_takes_159 rfl ?_
              refine vc_getI dX1_takes_160 flX1_19 (s_32 hQ71.1.1) rfl ?_
              refine vc_iload dX1_takes_163 rfl ?_
              refine vc_iload dX1_takes_165 rfl ?_
              refine vc_cVI dX1_takes_167 (sfX6_counts (M := Mq71) hQ71.1  (mI Mq71 32 2) x5 1 ) rfl okX6_counts viX6_counts lkX1_74 (s_1 hQ71.1.1) cl_6 rfl (Nat.le_of_ble_eq_true rfl) ⟨rfl, rfl⟩ (Nat.le_of_ble_eq_true rfl) (Nat.le_of_ble_eq_true rfl) (Nat.le_of_ble_eq_true rfl) ?_
              rintro x39 _ ⟨rfl, h40, h41⟩
              refine vc_if_ne dX1_takes_170 (fun h42 => ?_) (fun h42 => ?_)
              · refine vc_aload_n dX1_takes_175 rfl ?_
                refine vc_iload dX1_takes_176 rfl ?_
                refine vc_putI dX1_takes_178 (plX1_23 _ rfl) (s_32 hQ71.1.1) rfl ?_
                have hB43 : BF fS M (sI Mq71 32 3 x5) := BF.w32_3 hQ71 rfl
                refine vc_iconst dX1_takes_181 rfl ?_
                refine vc_zret dX1_takes_182 rfl (by first | decide | omega) (Nat.le_of_ble_eq_true rfl) (Nat.le_of_ble_eq_true rfl) ?_
                exact ⟨_, rfl, hB43, by omega, by omega⟩
              · refine vc_iconst dX1_takes_173 rfl ?_
                refine vc_zret dX1_takes_174 rfl (by first | decide | omega) (Nat.le_of_ble_eq_true rfl) (Nat.le_of_ble_eq_true rfl) ?_
                exact ⟨_, rfl, hQ71, by omega, by omega⟩
          · refine vc_iload dX1_takes_78 rfl ?_
            refine vc_iload dX1_takes_80 rfl ?_
            refine vc_icmp_ge dX1_takes_82 (fun h44 => ?_) (fun h44 => ?_)
            · refine vc_iload_n dX1_takes_150 rfl ?_
              refine vc_iconst dX1_takes_151 rfl ?_
              refine vc_icmp_eq dX1_takes_152 (fun h45 => ?_) (fun h45 => ?_)
              · refine vc_aload_n dX1_takes_175 rfl ?_
                refine vc_iload dX1_takes_176 rfl ?_
                refine vc_putI dX1_takes_178 (plX1_23 _ rfl) (s_32 hQ71.1.1) rfl ?_
                have hB46 : BF fS M (sI Mq71 32 3 x5) := BF.w32_3 hQ71 rfl
                refine vc_iconst dX1_takes_181 rfl ?_
                refine vc_zret dX1_takes_182 rfl (by first | decide | omega) (Nat.le_of_ble_eq_true rfl) (Nat.le_of_ble_eq_true rfl) ?_
                exact ⟨_, rfl, hB46, by omega, by omega⟩
              · refine vc_aload_n dX1_takes_155 rfl ?_
                refine vc_getR dX1_takes_156 flX1_9 (s_32 hQ71.1.1) rfl (r_32_0 hQ71.1.1) ?_
                refine vc_aload_n dX1_takes_159 rfl ?_
                refine vc_getI dX1_takes_160 flX1_19 (s_32 hQ71.1.1) rfl ?_
                refine vc_iload dX1_takes_163 rfl ?_
                refine vc_iload dX1_takes_165 rfl ?_
                refine vc_cVI dX1_takes_167 (sfX6_counts (M := Mq71) hQ71.1  (mI Mq71 32 2) x5 1 ) rfl okX6_counts viX6_counts lkX1_74 (s_1 hQ71.1.1) cl_6 rfl (Nat.le_of_ble_eq_true rfl) ⟨rfl, rfl⟩ (Nat.le_of_ble_eq_true rfl) (Nat.le_of_ble_eq_true rfl) (Nat.le_of_ble_eq_true rfl) ?_
                rintro x47 _ ⟨rfl, h48, h49⟩
                refine vc_if_ne dX1_takes_170 (fun h50 => ?_) (fun h50 => ?_)
                · refine vc_aload_n dX1_takes_175 rfl ?_
                  refine vc_iload dX1_takes_176 rfl ?_
                  refine vc_putI dX1_takes_178 (plX1_23 _ rfl) (s_32 hQ71.1.1) rfl ?_
                  have hB51 : BF fS M (sI Mq71 32 3 x5) := BF.w32_3 hQ71 rfl
                  refine vc_iconst dX1_takes_181 rfl ?_
                  refine vc_zret dX1_takes_182 rfl (by first | decide | omega) (Nat.le_of_ble_eq_true rfl) (Nat.le_of_ble_eq_true rfl) ?_
                  exact ⟨_, rfl, hB51, by omega, by omega⟩
                · refine vc_iconst dX1_takes_173 rfl ?_
                  refine vc_zret dX1_takes_174 rfl (by first | decide | omega) (Nat.le_of_ble_eq_true rfl) (Nat.le_of_ble_eq_true rfl) ?_
                  exact ⟨_, rfl, hQ71, by omega, by omega⟩
            · refine vc_aload_n dX1_takes_85 rfl ?_
              refine vc_cVI dX1_takes_86 (sfX1_goesOn (M := Mq71) hQ71.1   ) rfl okX1_goesOn viX1_goesOn lkX1_60 (s_32 hQ71.1.1) cl_1 rfl (Nat.le_of_ble_eq_true rfl) ⟨rfl, rfl⟩ (Nat.le_of_ble_eq_true rfl) (Nat.le_of_ble_eq_true rfl) (Nat.le_of_ble_eq_true rfl) ?_
              rintro x52 M53 ⟨hB54, h55, h56⟩
              have hB57 : BF fS M M53 := BF.go hQ71 hB54
              refine vc_if_ne dX1_takes_89 (fun h58 => ?_) (fun h58 => ?_)
              · refine vc_iload dX1_takes_94 rfl ?_
                refine vc_if_eq dX1_takes_96 (fun h59 => ?_) (fun h59 => by exfalso; omega)
                refine vc_iload_n dX1_takes_118 rfl ?_
                refine vc_iconst dX1_takes_119 rfl ?_
                refine vc_icmp_eq dX1_takes_120 (fun h60 => ?_) (fun h60 => ?_)
                · refine vc_iincE dX1_takes_141 rfl (by omega) (by omega) (by decide) rfl (show _ = [some (aR 32), none, none, some (aI x1), some (aI 0), some (aI x3), some (aI x3), some (aI x5), some (aI 1), some (aI (v9 + 1)), some (aI v10)] from rfl) ?_
                  refine vc_iincE dX1_takes_144 rfl (by omega) (by omega) (by decide) rfl (show _ = [some (aR 32), none, none, some (aI x1), some (aI 0), some (aI x3), some (aI x3), some (aI x5), some (aI 1), some (aI (v9 + 1)), some (aI (v10 + 1))] from rfl) ?_
                  refine vc_goto dX1_takes_147 ?_
                  exact ih71 M53 (v9 + 1) (v10 + 1) hB57 (by omega) (by omega) (by omega) (by omega) (by omega)
                · refine vc_aload_n dX1_takes_123 rfl ?_
                  refine vc_getR dX1_takes_124 flX1_9 (s_32 hB57.1.1) rfl (r_32_0 hB57.1.1) ?_
                  refine vc_aload_n dX1_takes_127 rfl ?_
                  refine vc_getI dX1_takes_128 flX1_19 (s_32 hB57.1.1) rfl ?_
                  refine vc_iload dX1_takes_131 rfl ?_
                  refine vc_iload dX1_takes_133 rfl ?_
                  refine vc_cVI dX1_takes_135 (sfX6_counts (M := M53) hB57.1  (mI M53 32 2) x5 1 ) rfl okX6_counts viX6_counts lkX1_74 (s_1 hB57.1.1) cl_6 rfl (Nat.le_of_ble_eq_true rfl) ⟨rfl, rfl⟩ (Nat.le_of_ble_eq_true rfl) (Nat.le_of_ble_eq_true rfl) (Nat.le_of_ble_eq_true rfl) ?_
                  rintro x61 _ ⟨rfl, h62, h63⟩
                  refine vc_if_eq dX1_takes_138 (fun h64 => ?_) (fun h64 => ?_)
                  · refine vc_iincE dX1_takes_144 rfl (by omega) (by omega) (by decide) rfl (show _ = [some (aR 32), none, none, some (aI x1), some (aI 0), some (aI x3), some (aI x3), some (aI x5), some (aI 1), some (aI v9), some (aI (v10 + 1))] from rfl) ?_
                    refine vc_goto dX1_takes_147 ?_
                    exact ih71 M53 v9 (v10 + 1) hB57 (by omega) (by omega) (by omega) (by omega) (by omega)
                  · refine vc_iincE dX1_takes_141 rfl (by omega) (by omega) (by decide) rfl (show _ = [some (aR 32), none, none, some (aI x1), some (aI 0), some (aI x3), some (aI x3), some (aI x5), some (aI 1), some (aI (v9 + 1)), some (aI v10)] from rfl) ?_
                    refine vc_iincE dX1_takes_144 rfl (by omega) (by omega) (by decide) rfl (show _ = [some (aR 32), none, none, some (aI x1), some (aI 0), some (aI x3), some (aI x3), some (aI x5), some (aI 1), some (aI (v9 + 1)), some (aI (v10 + 1))] from rfl) ?_
                    refine vc_goto dX1_takes_147 ?_
                    exact ih71 M53 (v9 + 1) (v10 + 1) hB57 (by omega) (by omega) (by omega) (by omega) (by omega)
              · refine vc_iconst dX1_takes_92 rfl ?_
                refine vc_zret dX1_takes_93 rfl (by first | decide | omega) (Nat.le_of_ble_eq_true rfl) (Nat.le_of_ble_eq_true rfl) ?_
                exact ⟨_, rfl, hB57, by omega, by omega⟩
      refine vc_less [some (aR 32), none, none, some (aI x1), some (aI 0), some (aI x3), some (aI x3), some (aI x5), some (aI 1), some (aI 0), some (aI 0)] (lessL_keep (lessL_drop (lessL_drop (lessL_keep (lessL_keep (lessL_keep (lessL_keep (lessL_keep (lessL_keep (lessL_keep (lessL_keep (lessL_nil)))))))))))) ?_
      exact lp71 _ M 0 0 hB0 (by omega) (by omega) (by omega) (by omega) (Nat.lt_succ_self _)
  · refine vc_iconst dX1_takes_16 rfl ?_
    refine vc_goto dX1_takes_17 ?_
    refine vc_istore dX1_takes_21 (by decide) rfl (show _ = [some (aR 32), some (aI t), some (aI s), some (aI x1), some (aI 1), none, none, none, none, none, none] from rfl) ?_
    refine vc_iload_n dX1_takes_23 rfl ?_
    refine vc_bipush dX1_takes_24 rfl ?_
    refine vc_irem dX1_takes_26 (by omega) ?_
    refine vc_nameI (fun x65 ex65 => ?_)
    refine vc_istore dX1_takes_27 (by decide) rfl (show _ = [some (aR 32), some (aI t), some (aI s), some (aI x1), some (aI 1), some (aI x65), none, none, none, none, none] from rfl) ?_
    refine vc_iload dX1_takes_29 rfl ?_
    refine vc_if_eq dX1_takes_31 (fun h66 => by exfalso; omega) (fun h66 => ?_)
    refine vc_iconst dX1_takes_34 rfl ?_
    refine vc_goto dX1_takes_35 ?_
    refine vc_istore dX1_takes_40 (by decide) rfl (show _ = [some (aR 32), some (aI t), some (aI s), some (aI x1), some (aI 1), some (aI x65), some (aI 1), none, none, none, none] from rfl) ?_
    refine vc_aload_n dX1_takes_42 rfl ?_
    refine vc_getI dX1_takes_43 flX1_23 (s_32 hB0.1.1) rfl ?_
    refine vc_iload_n dX1_takes_46 rfl ?_
    refine vc_cSI dX1_takes_47 (sfX1_sideOf (M := M) hB0.1  (mI M 32 3) x1 ) rfl okX1_sideOf stX1_sideOf lkX1_67 rfl (Nat.le_of_ble_eq_true rfl) ⟨rfl, rfl⟩ (Nat.le_of_ble_eq_true rfl) (Nat.le_of_ble_eq_true rfl) (Nat.le_of_ble_eq_true rfl) ?_
    rintro x67 _ rfl
    refine vc_istore dX1_takes_50 (by decide) rfl (show _ = [some (aR 32), some (aI t), some (aI s), some (aI x1), some (aI 1), some (aI x65), some (aI 1), some (aI x67), none, none, none] from rfl) ?_
    refine vc_iload_n dX1_takes_52 rfl ?_
    refine vc_iconst dX1_takes_53 rfl ?_
    refine vc_iand dX1_takes_54 ?_
    refine vc_if_ne dX1_takes_55 (fun h68 => ?_) (fun h68 => ?_)
    · refine vc_iconst dX1_takes_62 rfl ?_
      refine vc_istore dX1_takes_63 (by decide) rfl (show _ = [some (aR 32), some (aI t), some (aI s), some (aI x1), some (aI 1), some (aI x65), some (aI 1), some (aI x67), some (aI 0), none, none] from rfl) ?_
      refine vc_iconst dX1_takes_65 rfl ?_
      refine vc_istore dX1_takes_66 (by decide) rfl (show _ = [some (aR 32), some (aI t), some (aI s), some (aI x1), some (aI 1), some (aI x65), some (aI 1), some (aI x67), some (aI 0), some (aI 0), none] from rfl) ?_
      refine vc_iconst dX1_takes_68 rfl ?_
      refine vc_istore dX1_takes_69 (by decide) rfl (show _ = [some (aR 32), some (aI t), some (aI s), some (aI x1), some (aI 1), some (aI x65), some (aI 1), some (aI x67), some (aI 0), some (aI 0), some (aI 0)] from rfl) ?_
      have lp71 : ∀ (n71 : Nat) (Mq71 : Mem) (v9 : Int) (v10 : Int), (BF fS M Mq71) → (0 ≤ v9) → (v9 ≤ v10) → (0 ≤ v10) → (v10 ≤ 41) → (41 - v10).toNat < n71 → VC l mdX1_takes 71 [some (aR 32), none, none, some (aI x1), some (aI 1), some (aI x65), some (aI 1), some (aI x67), some (aI 0), some (aI v9), some (aI v10)] [] Mq71 0 0 (fun q N => ∃ r : Int, q = some (aI r) ∧ BF fS M N ∧ 0 ≤ r ∧ r ≤ 1) := by
        intro n71
        induction n71 with
        | zero => intro Mq71 v9 v10 hQ71 g71_9a g71_9b g71_10a g71_10b hm71; exact absurd hm71 (Nat.not_lt_zero _)
        | succ n71 ih71 =>
          intro Mq71 v9 v10 hQ71 g71_9a g71_9b g71_10a g71_10b hm71
          refine vc_iload dX1_takes_71 rfl ?_
          refine vc_bipush dX1_takes_73 rfl ?_
          refine vc_icmp_gt dX1_takes_75 (fun h69 => ?_) (fun h69 => ?_)
          · refine vc_iload_n dX1_takes_150 rfl ?_
            refine vc_iconst dX1_takes_151 rfl ?_
            refine vc_icmp_eq dX1_takes_152 (fun h70 => ?_) (fun h70 => ?_)
            · refine vc_aload_n dX1_takes_175 rfl ?_
              refine vc_iload dX1_takes_176 rfl ?_
              refine vc_putI dX1_takes_178 (plX1_23 _ rfl) (s_32 hQ71.1.1) rfl ?_
              have hB71 : BF fS M (sI Mq71 32 3 x67) := BF.w32_3 hQ71 rfl
              refine vc_iconst dX1_takes_181 rfl ?_
              refine vc_zret dX1_takes_182 rfl (by first | decide | omega) (Nat.le_of_ble_eq_true rfl) (Nat.le_of_ble_eq_true rfl) ?_
              exact ⟨_, rfl, hB71, by omega, by omega⟩
            · refine vc_aload_n dX1_takes_155 rfl ?_
              refine vc_getR dX1_takes_156 flX1_9 (s_32 hQ71.1.1) rfl (r_32_0 hQ71.1.1) ?_
              refine vc_aload_n dX1_takes_159 rfl ?_
              refine vc_getI dX1_takes_160 flX1_19 (s_32 hQ71.1.1) rfl ?_
              refine vc_iload dX1_takes_163 rfl ?_
              refine vc_iload dX1_takes_165 rfl ?_
              refine vc_cVI dX1_takes_167 (sfX6_counts (M := Mq71) hQ71.1  (mI Mq71 32 2) x67 0 ) rfl okX6_counts viX6_counts lkX1_74 (s_1 hQ71.1.1) cl_6 rfl (Nat.le_of_ble_eq_true rfl) ⟨rfl, rfl⟩ (Nat.le_of_ble_eq_true rfl) (Nat.le_of_ble_eq_true rfl) (Nat.le_of_ble_eq_true rfl) ?_
              rintro x72 _ ⟨rfl, h73, h74⟩
              refine vc_if_ne dX1_takes_170 (fun h75 => ?_) (fun h75 => ?_)
              · refine vc_aload_n dX1_takes_175 rfl ?_
                refine vc_iload dX1_takes_176 rfl ?_
                refine vc_putI dX1_takes_178 (plX1_23 _ rfl) (s_32 hQ71.1.1) rfl ?_
                have hB76 : BF fS M (sI Mq71 32 3 x67) := BF.w32_3 hQ71 rfl
                refine vc_iconst dX1_takes_181 rfl ?_
                refine vc_zret dX1_takes_182 rfl (by first | decide | omega) (Nat.le_of_ble_eq_true rfl) (Nat.le_of_ble_eq_true rfl) ?_
                exact ⟨_, rfl, hB76, by omega, by omega⟩
              · refine vc_iconst dX1_takes_173 rfl ?_
                refine vc_zret dX1_takes_174 rfl (by first | decide | omega) (Nat.le_of_ble_eq_true rfl) (Nat.le_of_ble_eq_true rfl) ?_
                exact ⟨_, rfl, hQ71, by omega, by omega⟩
          · refine vc_iload dX1_takes_78 rfl ?_
            refine vc_iload dX1_takes_80 rfl ?_
            refine vc_icmp_ge dX1_takes_82 (fun h77 => ?_) (fun h77 => ?_)
            · refine vc_iload_n dX1_takes_150 rfl ?_
              refine vc_iconst dX1_takes_151 rfl ?_
              refine vc_icmp_eq dX1_takes_152 (fun h78 => ?_) (fun h78 => ?_)
              · refine vc_aload_n dX1_takes_175 rfl ?_
                refine vc_iload dX1_takes_176 rfl ?_
                refine vc_putI dX1_takes_178 (plX1_23 _ rfl) (s_32 hQ71.1.1) rfl ?_
                have hB79 : BF fS M (sI Mq71 32 3 x67) := BF.w32_3 hQ71 rfl
                refine vc_iconst dX1_takes_181 rfl ?_
                refine vc_zret dX1_takes_182 rfl (by first | decide | omega) (Nat.le_of_ble_eq_true rfl) (Nat.le_of_ble_eq_true rfl) ?_
                exact ⟨_, rfl, hB79, by omega, by omega⟩
              · refine vc_aload_n dX1_takes_155 rfl ?_
                refine vc_getR dX1_takes_156 flX1_9 (s_32 hQ71.1.1) rfl (r_32_0 hQ71.1.1) ?_
                refine vc_aload_n dX1_takes_159 rfl ?_
                refine vc_getI dX1_takes_160 flX1_19 (s_32 hQ71.1.1) rfl ?_
                refine vc_iload dX1_takes_163 rfl ?_
                refine vc_iload dX1_takes_165 rfl ?_
                refine vc_cVI dX1_takes_167 (sfX6_counts (M := Mq71) hQ71.1  (mI Mq71 32 2) x67 0 ) rfl okX6_counts viX6_counts lkX1_74 (s_1 hQ71.1.1) cl_6 rfl (Nat.le_of_ble_eq_true rfl) ⟨rfl, rfl⟩ (Nat.le_of_ble_eq_true rfl) (Nat.le_of_ble_eq_true rfl) (Nat.le_of_ble_eq_true rfl) ?_
                rintro x80 _ ⟨rfl, h81, h82⟩
                refine vc_if_ne dX1_takes_170 (fun h83 => ?_) (fun h83 => ?_)
                · refine vc_aload_n dX1_takes_175 rfl ?_
                  refine vc_iload dX1_takes_176 rfl ?_
                  refine vc_putI dX1_takes_178 (plX1_23 _ rfl) (s_32 hQ71.1.1) rfl ?_
                  have hB84 : BF fS M (sI Mq71 32 3 x67) := BF.w32_3 hQ71 rfl
                  refine vc_iconst dX1_takes_181 rfl ?_
                  refine vc_zret dX1_takes_182 rfl (by first | decide | omega) (Nat.le_of_ble_eq_true rfl) (Nat.le_of_ble_eq_true rfl) ?_
                  exact ⟨_, rfl, hB84, by omega, by omega⟩
                · refine vc_iconst dX1_takes_173 rfl ?_
                  refine vc_zret dX1_takes_174 rfl (by first | decide | omega) (Nat.le_of_ble_eq_true rfl) (Nat.le_of_ble_eq_true rfl) ?_
                  exact ⟨_, rfl, hQ71, by omega, by omega⟩
            · refine vc_aload_n dX1_takes_85 rfl ?_
              refine vc_cVI dX1_takes_86 (sfX1_goesOn (M := Mq71) hQ71.1   ) rfl okX1_goesOn viX1_goesOn lkX1_60 (s_32 hQ71.1.1) cl_1 rfl (Nat.le_of_ble_eq_true rfl) ⟨rfl, rfl⟩ (Nat.le_of_ble_eq_true rfl) (Nat.le_of_ble_eq_true rfl) (Nat.le_of_ble_eq_true rfl) ?_
              rintro x85 M86 ⟨hB87, h88, h89⟩
              have hB90 : BF fS M M86 := BF.go hQ71 hB87
              refine vc_if_ne dX1_takes_89 (fun h91 => ?_) (fun h91 => ?_)
              · refine vc_iload dX1_takes_94 rfl ?_
                refine vc_if_eq dX1_takes_96 (fun h92 => by exfalso; omega) (fun h92 => ?_)
                refine vc_aload_n dX1_takes_99 rfl ?_
                refine vc_getR dX1_takes_100 flX1_9 (s_32 hB90.1.1) rfl (r_32_0 hB90.1.1) ?_
                refine vc_aload_n dX1_takes_103 rfl ?_
                refine vc_getI dX1_takes_104 flX1_19 (s_32 hB90.1.1) rfl ?_
                refine vc_cVI dX1_takes_107 (sfX6_sightOf (M := M86) hB90.1  (mI M86 32 2) ) rfl okX6_sightOf viX6_sightOf lkX1_70 (s_1 hB90.1.1) cl_6 rfl (Nat.le_of_ble_eq_true rfl) ⟨rfl, rfl⟩ (Nat.le_of_ble_eq_true rfl) (Nat.le_of_ble_eq_true rfl) (Nat.le_of_ble_eq_true rfl) ?_
                rintro x93 _ rfl
                refine vc_iload dX1_takes_110 rfl ?_
                refine vc_icmp_ne dX1_takes_112 (fun h94 => ?_) (fun h94 => ?_)
                · refine vc_iincE dX1_takes_144 rfl (by omega) (by omega) (by decide) rfl (show _ = [some (aR 32), none, none, some (aI x1), some (aI 1), some (aI x65), some (aI 1), some (aI x67), some (aI 0), some (aI v9), some (aI (v10 + 1))] from rfl) ?_
                  refine vc_goto dX1_takes_147 ?_
                  exact ih71 M86 v9 (v10 + 1) hB90 (by omega) (by omega) (by omega) (by omega) (by omega)
                · refine vc_goto dX1_takes_115 ?_
                  refine vc_iincE dX1_takes_141 rfl (by omega) (by omega) (by decide) rfl (show _ = [some (aR 32), none, none, some (aI x1), some (aI 1), some (aI x65), some (aI 1), some (aI x67), some (aI 0), some (aI (v9 + 1)), some (aI v10)] from rfl) ?_
                  refine vc_iincE dX1_takes_144 rfl (by omega) (by omega) (by decide) rfl (show _ = [some (aR 32), none, none, some (aI x1), some (aI 1), some (aI x65), some (aI 1), some (aI x67), some (aI 0), some (aI (v9 + 1)), some (aI (v10 + 1))] from rfl) ?_
                  refine vc_goto dX1_takes_147 ?_
                  exact ih71 M86 (v9 + 1) (v10 + 1) hB90 (by omega) (by omega) (by omega) (by omega) (by omega)
              · refine vc_iconst dX1_takes_92 rfl ?_
                refine vc_zret dX1_takes_93 rfl (by first | decide | omega) (Nat.le_of_ble_eq_true rfl) (Nat.le_of_ble_eq_true rfl) ?_
                exact ⟨_, rfl, hB90, by omega, by omega⟩
      refine vc_less [some (aR 32), none, none, some (aI x1), some (aI 1), some (aI x65), some (aI 1), some (aI x67), some (aI 0), some (aI 0), some (aI 0)] (lessL_keep (lessL_drop (lessL_drop (lessL_keep (lessL_keep (lessL_keep (lessL_keep (lessL_keep (lessL_keep (lessL_keep (lessL_keep (lessL_nil)))))))))))) ?_
      exact lp71 _ M 0 0 hB0 (by omega) (by omega) (by omega) (by omega) (Nat.lt_succ_self _)
    · refine vc_iconst dX1_takes_58 rfl ?_
      refine vc_goto dX1_takes_59 ?_
      refine vc_istore dX1_takes_63 (by decide) rfl (show _ = [some (aR 32), some (aI t), some (aI s), some (aI x1), some (aI 1), some (aI x65), some (aI 1), some (aI x67), some (aI 1), none, none] from rfl) ?_
      refine vc_iconst dX1_takes_65 rfl ?_
      refine vc_istore dX1_takes_66 (by decide) rfl (show _ = [some (aR 32), some (aI t), some (aI s), some (aI x1), some (aI 1), some (aI x65), some (aI 1), some (aI x67), some (aI 1), some (aI 0), none] from rfl) ?_
      refine vc_iconst dX1_takes_68 rfl ?_
      refine vc_istore dX1_takes_69 (by decide) rfl (show _ = [some (aR 32), some (aI t), some (aI s), some (aI x1), some (aI 1), some (aI x65), some (aI 1), some (aI x67), some (aI 1), some (aI 0), some (aI 0)] from rfl) ?_
      have lp71 : ∀ (n71 : Nat) (Mq71 : Mem) (v9 : Int) (v10 : Int), (BF fS M Mq71) → (0 ≤ v9) → (v9 ≤ v10) → (0 ≤ v10) → (v10 ≤ 41) → (41 - v10).toNat < n71 → VC l mdX1_takes 71 [some (aR 32), none, none, some (aI x1), some (aI 1), some (aI x65), some (aI 1), some (aI x67), some (aI 1), some (aI v9), some (aI v10)] [] Mq71 0 0 (fun q N => ∃ r : Int, q = some (aI r) ∧ BF fS M N ∧ 0 ≤ r ∧ r ≤ 1) := by
        intro n71
        induction n71 with
        | zero => intro Mq71 v9 v10 hQ71 g71_9a g71_9b g71_10a g71_10b hm71; exact absurd hm71 (Nat.not_lt_zero _)
        | succ n71 ih71 =>
          intro Mq71 v9 v10 hQ71 g71_9a g71_9b g71_10a g71_10b hm71
          refine vc_iload dX1_takes_71 rfl ?_
          refine vc_bipush dX1_takes_73 rfl ?_
          refine vc_icmp_gt dX1_takes_75 (fun h95 => ?_) (fun h95 => ?_)
          · refine vc_iload_n dX1_takes_150 rfl ?_
            refine vc_iconst dX1_takes_151 rfl ?_
            refine vc_icmp_eq dX1_takes_152 (fun h96 => ?_) (fun h96 => ?_)
            · refine vc_aload_n dX1_takes_175 rfl ?_
              refine vc_iload dX1_takes_176 rfl ?_
              refine vc_putI dX1_takes_178 (plX1_23 _ rfl) (s_32 hQ71.1.1) rfl ?_
              have hB97 : BF fS M (sI Mq71 32 3 x67) := BF.w32_3 hQ71 rfl
              refine vc_iconst dX1_takes_181 rfl ?_
              refine vc_zret dX1_takes_182 rfl (by first | decide | omega) (Nat.le_of_ble_eq_true rfl) (Nat.le_of_ble_eq_true rfl) ?_
              exact ⟨_, rfl, hB97, by omega, by omega⟩
            · refine vc_aload_n dX1_takes_155 rfl ?_
              refine vc_getR dX1_takes_156 flX1_9 (s_32 hQ71.1.1) rfl (r_32_0 hQ71.1.1) ?_
              refine vc_aload_n dX1_takes_159 rfl ?_
              refine vc_getI dX1_takes_160 flX1_19 (s_32 hQ71.1.1) rfl ?_
              refine vc_iload dX1_takes_163 rfl ?_
              refine vc_iload dX1_takes_165 rfl ?_
              refine vc_cVI dX1_takes_167 (sfX6_counts (M := Mq71) hQ71.1  (mI Mq71 32 2) x67 1 ) rfl okX6_counts viX6_counts lkX1_74 (s_1 hQ71.1.1) cl_6 rfl (Nat.le_of_ble_eq_true rfl) ⟨rfl, rfl⟩ (Nat.le_of_ble_eq_true rfl) (Nat.le_of_ble_eq_true rfl) (Nat.le_of_ble_eq_true rfl) ?_
              rintro x98 _ ⟨rfl, h99, h100⟩
              refine vc_if_ne dX1_takes_170 (fun h101 => ?_) (fun h101 => ?_)
              · refine vc_aload_n dX1_takes_175 rfl ?_
                refine vc_iload dX1_takes_176 rfl ?_
                refine vc_putI dX1_takes_178 (plX1_23 _ rfl) (s_32 hQ71.1.1) rfl ?_
                have hB102 : BF fS M (sI Mq71 32 3 x67) := BF.w32_3 hQ71 rfl
                refine vc_iconst dX1_takes_181 rfl ?_
                refine vc_zret dX1_takes_182 rfl (by first | decide | omega) (Nat.le_of_ble_eq_true rfl) (Nat.le_of_ble_eq_true rfl) ?_
                exact ⟨_, rfl, hB102, by omega, by omega⟩
              · refine vc_iconst dX1_takes_173 rfl ?_
                refine vc_zret dX1_takes_174 rfl (by first | decide | omega) (Nat.le_of_ble_eq_true rfl) (Nat.le_of_ble_eq_true rfl) ?_
                exact ⟨_, rfl, hQ71, by omega, by omega⟩
          · refine vc_iload dX1_takes_78 rfl ?_
            refine vc_iload dX1_takes_80 rfl ?_
            refine vc_icmp_ge dX1_takes_82 (fun h103 => ?_) (fun h103 => ?_)
            · refine vc_iload_n dX1_takes_150 rfl ?_
              refine vc_iconst dX1_takes_151 rfl ?_
              refine vc_icmp_eq dX1_takes_152 (fun h104 => ?_) (fun h104 => ?_)
              · refine vc_aload_n dX1_takes_175 rfl ?_
                refine vc_iload dX1_takes_176 rfl ?_
                refine vc_putI dX1_takes_178 (plX1_23 _ rfl) (s_32 hQ71.1.1) rfl ?_
                have hB105 : BF fS M (sI Mq71 32 3 x67) := BF.w32_3 hQ71 rfl
                refine vc_iconst dX1_takes_181 rfl ?_
                refine vc_zret dX1_takes_182 rfl (by first | decide | omega) (Nat.le_of_ble_eq_true rfl) (Nat.le_of_ble_eq_true rfl) ?_
                exact ⟨_, rfl, hB105, by omega, by omega⟩
              · refine vc_aload_n dX1_takes_155 rfl ?_
                refine vc_getR dX1_takes_156 flX1_9 (s_32 hQ71.1.1) rfl (r_32_0 hQ71.1.1) ?_
                refine vc_aload_n dX1_takes_159 rfl ?_
                refine vc_getI dX1_takes_160 flX1_19 (s_32 hQ71.1.1) rfl ?_
                refine vc_iload dX1_takes_163 rfl ?_
                refine vc_iload dX1_takes_165 rfl ?_
                refine vc_cVI dX1_takes_167 (sfX6_counts (M := Mq71) hQ71.1  (mI Mq71 32 2) x67 1 ) rfl okX6_counts viX6_counts lkX1_74 (s_1 hQ71.1.1) cl_6 rfl (Nat.le_of_ble_eq_true rfl) ⟨rfl, rfl⟩ (Nat.le_of_ble_eq_true rfl) (Nat.le_of_ble_eq_true rfl) (Nat.le_of_ble_eq_true rfl) ?_
                rintro x106 _ ⟨rfl, h107, h108⟩
                refine vc_if_ne dX1_takes_170 (fun h109 => ?_) (fun h109 => ?_)
                · refine vc_aload_n dX1_takes_175 rfl ?_
                  refine vc_iload dX1_takes_176 rfl ?_
                  refine vc_putI dX1_takes_178 (plX1_23 _ rfl) (s_32 hQ71.1.1) rfl ?_
                  have hB110 : BF fS M (sI Mq71 32 3 x67) := BF.w32_3 hQ71 rfl
                  refine vc_iconst dX1_takes_181 rfl ?_
                  refine vc_zret dX1_takes_182 rfl (by first | decide | omega) (Nat.le_of_ble_eq_true rfl) (Nat.le_of_ble_eq_true rfl) ?_
                  exact ⟨_, rfl, hB110, by omega, by omega⟩
                · refine vc_iconst dX1_takes_173 rfl ?_
                  refine vc_zret dX1_takes_174 rfl (by first | decide | omega) (Nat.le_of_ble_eq_true rfl) (Nat.le_of_ble_eq_true rfl) ?_
                  exact ⟨_, rfl, hQ71, by omega, by omega⟩
            · refine vc_aload_n dX1_takes_85 rfl ?_
              refine vc_cVI dX1_takes_86 (sfX1_goesOn (M := Mq71) hQ71.1   ) rfl okX1_goesOn viX1_goesOn lkX1_60 (s_32 hQ71.1.1) cl_1 rfl (Nat.le_of_ble_eq_true rfl) ⟨rfl, rfl⟩ (Nat.le_of_ble_eq_true rfl) (Nat.le_of_ble_eq_true rfl) (Nat.le_of_ble_eq_true rfl) ?_
              rintro x111 M112 ⟨hB113, h114, h115⟩
              have hB116 : BF fS M M112 := BF.go hQ71 hB113
              refine vc_if_ne dX1_takes_89 (fun h117 => ?_) (fun h117 => ?_)
              · refine vc_iload dX1_takes_94 rfl ?_
                refine vc_if_eq dX1_takes_96 (fun h118 => by exfalso; omega) (fun h118 => ?_)
                refine vc_aload_n dX1_takes_99 rfl ?_
                refine vc_getR dX1_takes_100 flX1_9 (s_32 hB116.1.1) rfl (r_32_0 hB116.1.1) ?_
                refine vc_aload_n dX1_takes_103 rfl ?_
                refine vc_getI dX1_takes_104 flX1_19 (s_32 hB116.1.1) rfl ?_
                refine vc_cVI dX1_takes_107 (sfX6_sightOf (M := M112) hB116.1  (mI M112 32 2) ) rfl okX6_sightOf viX6_sightOf lkX1_70 (s_1 hB116.1.1) cl_6 rfl (Nat.le_of_ble_eq_true rfl) ⟨rfl, rfl⟩ (Nat.le_of_ble_eq_true rfl) (Nat.le_of_ble_eq_true rfl) (Nat.le_of_ble_eq_true rfl) ?_
                rintro x119 _ rfl
                refine vc_iload dX1_takes_110 rfl ?_
                refine vc_icmp_ne dX1_takes_112 (fun h120 => ?_) (fun h120 => ?_)
                · refine vc_iincE dX1_takes_144 rfl (by omega) (by omega) (by decide) rfl (show _ = [some (aR 32), none, none, some (aI x1), some (aI 1), some (aI x65), some (aI 1), some (aI x67), some (aI 1), some (aI v9), some (aI (v10 + 1))] from rfl) ?_
                  refine vc_goto dX1_takes_147 ?_
                  exact ih71 M112 v9 (v10 + 1) hB116 (by omega) (by omega) (by omega) (by omega) (by omega)
                · refine vc_goto dX1_takes_115 ?_
                  refine vc_iincE dX1_takes_141 rfl (by omega) (by omega) (by decide) rfl (show _ = [some (aR 32), none, none, some (aI x1), some (aI 1), some (aI x65), some (aI 1), some (aI x67), some (aI 1), some (aI (v9 + 1)), some (aI v10)] from rfl) ?_
                  refine vc_iincE dX1_takes_144 rfl (by omega) (by omega) (by decide) rfl (show _ = [some (aR 32), none, none, some (aI x1), some (aI 1), some (aI x65), some (aI 1), some (aI x67), some (aI 1), some (aI (v9 + 1)), some (aI (v10 + 1))] from rfl) ?_
                  refine vc_goto dX1_takes_147 ?_
                  exact ih71 M112 (v9 + 1) (v10 + 1) hB116 (by omega) (by omega) (by omega) (by omega) (by omega)
              · refine vc_iconst dX1_takes_92 rfl ?_
                refine vc_zret dX1_takes_93 rfl (by first | decide | omega) (Nat.le_of_ble_eq_true rfl) (Nat.le_of_ble_eq_true rfl) ?_
                exact ⟨_, rfl, hB116, by omega, by omega⟩
      refine vc_less [some (aR 32), none, none, some (aI x1), some (aI 1), some (aI x65), some (aI 1), some (aI x67), some (aI 1), some (aI 0), some (aI 0)] (lessL_keep (lessL_drop (lessL_drop (lessL_keep (lessL_keep (lessL_keep (lessL_keep (lessL_keep (lessL_keep (lessL_keep (lessL_keep (lessL_nil)))))))))))) ?_
      exact lp71 _ M 0 0 hB0 (by omega) (by omega) (by omega) (by omega) (Nat.lt_succ_self _)

set_option maxRecDepth 4000 in
theorem sfX1_goesAll {l : Launch} {M : Mem} (hB : Box M)  (t : Int) (s : Int) (b : Int)  : Call l mdX1_goesAll [aR 32, aI t, aI s, aI b] M (fun q N => ∃ r : Int, q = some (aI r) ∧ BF fS M N ∧ 0 ≤ r ∧ r ≤ 1) := by
  have hB0 : BF fS M M := BF.start hB
  refine Call.of [some (aR 32), some (aI t), some (aI s), some (aI b), none, none, none, none] rfl (Nat.le_of_ble_eq_true rfl) rfl ?_
  refine vc_ok (fun hoM hoS hoL => ?_)
  have hr1 : -2147483648 ≤ t ∧ t < 2147483648 := hoL 1 _ rfl
  have hr2 : -2147483648 ≤ s ∧ s < 2147483648 := hoL 2 _ rfl
  have hr3 : -2147483648 ≤ b ∧ b < 2147483648 := hoL 3 _ rfl
  refine vc_aload_n dX1_goesAll_0 rfl ?_
  refine vc_getR dX1_goesAll_1 flX1_9 (s_32 hB0.1.1) rfl (r_32_0 hB0.1.1) ?_
  refine vc_iload_n dX1_goesAll_4 rfl ?_
  refine vc_iconst dX1_goesAll_5 rfl ?_
  refine vc_cVI dX1_goesAll_6 (sfX6_tellingCell (M := M) hB0.1  t 2 ) rfl okX6_tellingCell viX6_tellingCell lkX1_29 (s_1 hB0.1.1) cl_6 rfl (Nat.le_of_ble_eq_true rfl) ⟨rfl, rfl⟩ (Nat.le_of_ble_eq_true rfl) (Nat.le_of_ble_eq_true rfl) (Nat.le_of_ble_eq_true rfl) ?_
  rintro x1 _ rfl
  refine vc_istore dX1_goesAll_9 (by decide) rfl (show _ = [some (aR 32), some (aI t), some (aI s), some (aI b), some (aI x1), none, none, none] from rfl) ?_
  refine vc_iconst dX1_goesAll_11 rfl ?_
  refine vc_istore dX1_goesAll_12 (by decide) rfl (show _ = [some (aR 32), some (aI t), some (aI s), some (aI b), some (aI x1), some (aI 3), none, none] from rfl) ?_
  refine vc_iconst dX1_goesAll_14 rfl ?_
  refine vc_istore dX1_goesAll_15 (by decide) rfl (show _ = [some (aR 32), some (aI t), some (aI s), some (aI b), some (aI x1), some (aI 3), some (aI 0), none] from rfl) ?_
  refine vc_ok (fun hoM17 hoS17 hoL17 => ?_)
  have k2 : -2147483648 ≤ x1 ∧ x1 < 2147483648 := hoL17 4 _ rfl
  have lp17 : ∀ (n17 : Nat) (Mq17 : Mem) (v5 : Int) (v6 : Int), (BF fS M Mq17) → (0 ≤ v6) → (x1 - v6).toNat < n17 → VC l mdX1_goesAll 17 [some (aR 32), some (aI t), some (aI s), some (aI b), some (aI x1), some (aI v5), some (aI v6), none] [] Mq17 0 0 (fun q N => ∃ r : Int, q = some (aI r) ∧ BF fS M N ∧ 0 ≤ r ∧ r ≤ 1) := by
    intro n17
    induction n17 with
    | zero => intro Mq17 v5 v6 hQ17 g17_6a hm17; exact absurd hm17 (Nat.not_lt_zero _)
    | succ n17 ih17 =>
      intro Mq17 v5 v6 hQ17 g17_6a hm17
      refine vc_iload dX1_goesAll_17 rfl ?_
      refine vc_iload dX1_goesAll_19 rfl ?_
      refine vc_icmp_ge dX1_goesAll_21 (fun h3 => ?_) (fun h3 => ?_)
      · refine vc_iload dX1_goesAll_71 rfl ?_
        refine vc_iconst dX1_goesAll_73 rfl ?_
        refine vc_icmp_eq dX1_goesAll_74 (fun h4 => ?_) (fun h4 => ?_)
        · refine vc_iconst dX1_goesAll_84 rfl ?_
          refine vc_goto dX1_goesAll_85 ?_
          refine vc_zret dX1_goesAll_89 rfl (by first | decide | omega) (Nat.le_of_ble_eq_true rfl) (Nat.le_of_ble_eq_true rfl) ?_
          exact ⟨_, rfl, hQ17, by omega, by omega⟩
        · refine vc_aload_n dX1_goesAll_77 rfl ?_
          refine vc_cVI dX1_goesAll_78 (sfX1_goesOn (M := Mq17) hQ17.1   ) rfl okX1_goesOn viX1_goesOn lkX1_60 (s_32 hQ17.1.1) cl_1 rfl (Nat.le_of_ble_eq_true rfl) ⟨rfl, rfl⟩ (Nat.le_of_ble_eq_true rfl) (Nat.le_of_ble_eq_true rfl) (Nat.le_of_ble_eq_true rfl) ?_
          rintro x5 M6 ⟨hB7, h8, h9⟩
          have hB10 : BF fS M M6 := BF.go hQ17 hB7
          refine vc_if_eq dX1_goesAll_81 (fun h11 => ?_) (fun h11 => ?_)
          · refine vc_iconst dX1_goesAll_88 rfl ?_
            refine vc_zret dX1_goesAll_89 rfl (by first | decide | omega) (Nat.le_of_ble_eq_true rfl) (Nat.le_of_ble_eq_true rfl) ?_
            exact ⟨_, rfl, hB10, by omega, by omega⟩
          · refine vc_iconst dX1_goesAll_84 rfl ?_
            refine vc_goto dX1_goesAll_85 ?_
            refine vc_zret dX1_goesAll_89 rfl (by first | decide | omega) (Nat.le_of_ble_eq_true rfl) (Nat.le_of_ble_eq_true rfl) ?_
            exact ⟨_, rfl, hB10, by omega, by omega⟩
      · refine vc_iload dX1_goesAll_24 rfl ?_
        refine vc_iload_n dX1_goesAll_26 rfl ?_
        refine vc_icmp_eq dX1_goesAll_27 (fun h12 => ?_) (fun h12 => ?_)
        · refine vc_iincE dX1_goesAll_65 rfl (by omega) (by omega) (by decide) rfl (show _ = [some (aR 32), some (aI t), some (aI s), some (aI b), some (aI x1), some (aI v5), some (aI (v6 + 1)), none] from rfl) ?_
          refine vc_goto dX1_goesAll_68 ?_
          exact ih17 Mq17 v5 (v6 + 1) hQ17 (by omega) (by omega)
        · refine vc_aload_n dX1_goesAll_30 rfl ?_
          refine vc_getR dX1_goesAll_31 flX1_9 (s_32 hQ17.1.1) rfl (r_32_0 hQ17.1.1) ?_
          refine vc_iload_n dX1_goesAll_34 rfl ?_
          refine vc_iload dX1_goesAll_35 rfl ?_
          refine vc_cVI dX1_goesAll_37 (sfX6_turnOf (M := Mq17) hQ17.1  t v6 ) rfl okX6_turnOf viX6_turnOf lkX1_50 (s_1 hQ17.1.1) cl_6 rfl (Nat.le_of_ble_eq_true rfl) ⟨rfl, rfl⟩ (Nat.le_of_ble_eq_true rfl) (Nat.le_of_ble_eq_true rfl) (Nat.le_of_ble_eq_true rfl) ?_
          rintro x13 _ rfl
          refine vc_iload_n dX1_goesAll_40 rfl ?_
          refine vc_cSI dX1_goesAll_41 (sfX1_meant (M := Mq17) hQ17.1  x13 s ) rfl okX1_meant stX1_meant lkX1_53 rfl (Nat.le_of_ble_eq_true rfl) ⟨rfl, rfl⟩ (Nat.le_of_ble_eq_true rfl) (Nat.le_of_ble_eq_true rfl) (Nat.le_of_ble_eq_true rfl) ?_
          rintro x14 _ rfl
          refine vc_istore dX1_goesAll_44 (by decide) rfl (show _ = [some (aR 32), some (aI t), some (aI s), some (aI b), some (aI x1), some (aI v5), some (aI v6), some (aI x14)] from rfl) ?_
          refine vc_aload_n dX1_goesAll_46 rfl ?_
          refine vc_iload dX1_goesAll_47 rfl ?_
          refine vc_iload_n dX1_goesAll_49 rfl ?_
          refine vc_cVI dX1_goesAll_50 (sfX1_takes (M := Mq17) hQ17.1  x14 s ) rfl okX1_takes viX1_takes lkX1_56 (s_32 hQ17.1.1) cl_1 rfl (Nat.le_of_ble_eq_true rfl) ⟨rfl, rfl⟩ (Nat.le_of_ble_eq_true rfl) (Nat.le_of_ble_eq_true rfl) (Nat.le_of_ble_eq_true rfl) ?_
          rintro x15 M16 ⟨hB17, h18, h19⟩
          have hB20 : BF fS M M16 := BF.go hQ17 hB17
          refine vc_if_ne dX1_goesAll_53 (fun h21 => ?_) (fun h21 => ?_)
          · refine vc_iload dX1_goesAll_58 rfl ?_
            refine vc_bipush dX1_goesAll_60 rfl ?_
            refine vc_idiv dX1_goesAll_62 (by omega) ?_
            refine vc_nameI (fun x22 ex22 => ?_)
            refine vc_istore dX1_goesAll_63 (by decide) rfl (show _ = [some (aR 32), some (aI t), some (aI s), some (aI b), some (aI x1), some (aI x22), some (aI v6), some (aI x14)] from rfl) ?_
            refine vc_iincE dX1_goesAll_65 rfl (by omega) (by omega) (by decide) rfl (show _ = [some (aR 32), some (aI t), some (aI s), some (aI b), some (aI x1), some (aI x22), some (aI (v6 + 1)), some (aI x14)] from rfl) ?_
            refine vc_goto dX1_goesAll_68 ?_
            refine vc_less [some (aR 32), some (aI t), some (aI s), some (aI b), some (aI x1), some (aI x22), some (aI (v6 + 1)), none] (lessL_keep (lessL_keep (lessL_keep (lessL_keep (lessL_keep (lessL_keep (lessL_keep (lessL_drop (lessL_nil))))))))) ?_
            exact ih17 M16 x22 (v6 + 1) hB20 (by omega) (by omega)
          · refine vc_iconst dX1_goesAll_56 rfl ?_
            refine vc_zret dX1_goesAll_57 rfl (by first | decide | omega) (Nat.le_of_ble_eq_true rfl) (Nat.le_of_ble_eq_true rfl) ?_
            exact ⟨_, rfl, hB20, by omega, by omega⟩
  exact lp17 _ M 3 0 hB0 (by omega) (Nat.lt_succ_self _)

set_option maxRecDepth 4000 in
theorem sfX1_goesFirst {l : Launch} {M : Mem} (hB : Box M)  (t : Int) (s : Int) (n : Int)  : Call l mdX1_goesFirst [aR 32, aI t, aI s, aI n] M (fun q N => ∃ r : Int, q = some (aI r) ∧ BF fS M N ∧ 0 ≤ r ∧ r ≤ 1) := by
  have hB0 : BF fS M M := BF.start hB
  refine Call.of [some (aR 32), some (aI t), some (aI s), some (aI n), none] rfl (Nat.le_of_ble_eq_true rfl) rfl ?_
  refine vc_ok (fun hoM hoS hoL => ?_)
  have hr1 : -2147483648 ≤ t ∧ t < 2147483648 := hoL 1 _ rfl
  have hr2 : -2147483648 ≤ s ∧ s < 2147483648 := hoL 2 _ rfl
  have hr3 : -2147483648 ≤ n ∧ n < 2147483648 := hoL 3 _ rfl
  refine vc_iconst dX1_goesFirst_0 rfl ?_
  refine vc_istore dX1_goesFirst_1 (by decide) rfl (show _ = [some (aR 32), some (aI t), some (aI s), some (aI n), some (aI 0)] from rfl) ?_
  have lp3 : ∀ (n3 : Nat) (Mq3 : Mem) (v4 : Int), (BF fS M Mq3) → (0 ≤ v4) → (n - v4).toNat < n3 → VC l mdX1_goesFirst 3 [some (aR 32), some (aI t), some (aI s), some (aI n), some (aI v4)] [] Mq3 0 0 (fun q N => ∃ r : Int, q = some (aI r) ∧ BF fS M N ∧ 0 ≤ r ∧ r ≤ 1) := by
    intro n3
    induction n3 with
    | zero => intro Mq3 v4 hQ3 g3_4a hm3; exact absurd hm3 (Nat.not_lt_zero _)
    | succ n3 ih3 =>
      intro Mq3 v4 hQ3 g3_4a hm3
      refine vc_iload dX1_goesFirst_3 rfl ?_
      refine vc_iload_n dX1_goesFirst_5 rfl ?_
      refine vc_icmp_ge dX1_goesFirst_6 (fun h1 => ?_) (fun h1 => ?_)
      · refine vc_iconst dX1_goesFirst_39 rfl ?_
        refine vc_zret dX1_goesFirst_40 rfl (by first | decide | omega) (Nat.le_of_ble_eq_true rfl) (Nat.le_of_ble_eq_true rfl) ?_
        exact ⟨_, rfl, hQ3, by omega, by omega⟩
      · refine vc_aload_n dX1_goesFirst_9 rfl ?_
        refine vc_aload_n dX1_goesFirst_10 rfl ?_
        refine vc_getR dX1_goesFirst_11 flX1_9 (s_32 hQ3.1.1) rfl (r_32_0 hQ3.1.1) ?_
        refine vc_iload_n dX1_goesFirst_14 rfl ?_
        refine vc_iload dX1_goesFirst_15 rfl ?_
        refine vc_cVI dX1_goesFirst_17 (sfX6_turnOf (M := Mq3) hQ3.1  t v4 ) rfl okX6_turnOf viX6_turnOf lkX1_50 (s_1 hQ3.1.1) cl_6 rfl (Nat.le_of_ble_eq_true rfl) ⟨rfl, rfl⟩ (Nat.le_of_ble_eq_true rfl) (Nat.le_of_ble_eq_true rfl) (Nat.le_of_ble_eq_true rfl) ?_
        rintro x2 _ rfl
        refine vc_iload_n dX1_goesFirst_20 rfl ?_
        refine vc_cSI dX1_goesFirst_21 (sfX1_meant (M := Mq3) hQ3.1  x2 s ) rfl okX1_meant stX1_meant lkX1_53 rfl (Nat.le_of_ble_eq_true rfl) ⟨rfl, rfl⟩ (Nat.le_of_ble_eq_true rfl) (Nat.le_of_ble_eq_true rfl) (Nat.le_of_ble_eq_true rfl) ?_
        rintro x3 _ rfl
        refine vc_iload_n dX1_goesFirst_24 rfl ?_
        refine vc_cVI dX1_goesFirst_25 (sfX1_takes (M := Mq3) hQ3.1  x3 s ) rfl okX1_takes viX1_takes lkX1_56 (s_32 hQ3.1.1) cl_1 rfl (Nat.le_of_ble_eq_true rfl) ⟨rfl, rfl⟩ (Nat.le_of_ble_eq_true rfl) (Nat.le_of_ble_eq_true rfl) (Nat.le_of_ble_eq_true rfl) ?_
        rintro x4 M5 ⟨hB6, h7, h8⟩
        have hB9 : BF fS M M5 := BF.go hQ3 hB6
        refine vc_if_ne dX1_goesFirst_28 (fun h10 => ?_) (fun h10 => ?_)
        · refine vc_iincE dX1_goesFirst_33 rfl (by omega) (by omega) (by decide) rfl (show _ = [some (aR 32), some (aI t), some (aI s), some (aI n), some (aI (v4 + 1))] from rfl) ?_
          refine vc_goto dX1_goesFirst_36 ?_
          exact ih3 M5 (v4 + 1) hB9 (by omega) (by omega)
        · refine vc_iconst dX1_goesFirst_31 rfl ?_
          refine vc_zret dX1_goesFirst_32 rfl (by first | decide | omega) (Nat.le_of_ble_eq_true rfl) (Nat.le_of_ble_eq_true rfl) ?_
          exact ⟨_, rfl, hB9, by omega, by omega⟩
  exact lp3 _ M 0 hB0 (by omega) (Nat.lt_succ_self _)

set_option maxRecDepth 4000 in
theorem sfX1_comesTo {l : Launch} {M : Mem} (hB : Box M)  (t : Int) (s : Int) (b : Int)  : Call l mdX1_comesTo [aR 32, aI t, aI s, aI b] M (fun q N => ∃ r : Int, q = some (aI r) ∧ BF fS M N) := by
  have hB0 : BF fS M M := BF.start hB
  refine Call.of [some (aR 32), some (aI t), some (aI s), some (aI b)] rfl (Nat.le_of_ble_eq_true rfl) rfl ?_
  refine vc_ok (fun hoM hoS hoL => ?_)
  have hr1 : -2147483648 ≤ t ∧ t < 2147483648 := hoL 1 _ rfl
  have hr2 : -2147483648 ≤ s ∧ s < 2147483648 := hoL 2 _ rfl
  have hr3 : -2147483648 ≤ b ∧ b < 2147483648 := hoL 3 _ rfl
  refine vc_aload_n dX1_comesTo_0 rfl ?_
  refine vc_iload_n dX1_comesTo_1 rfl ?_
  refine vc_cVU dX1_comesTo_2 (sfX1_setOutAsTold (M := M) hB0.1  t ) rfl okX1_setOutAsTold viX1_setOutAsTold lkX1_42 (s_32 hB0.1.1) cl_1 rfl (Nat.le_of_ble_eq_true rfl) ⟨rfl, rfl⟩ (Nat.le_of_ble_eq_true rfl) (Nat.le_of_ble_eq_true rfl) (Nat.le_of_ble_eq_true rfl) ?_
  rintro M1 hB2
  have hB3 : BF fS M M1 := BF.go hB0 hB2
  refine vc_aload_n dX1_comesTo_5 rfl ?_
  refine vc_iload_n dX1_comesTo_6 rfl ?_
  refine vc_iload_n dX1_comesTo_7 rfl ?_
  refine vc_iload_n dX1_comesTo_8 rfl ?_
  refine vc_cVI dX1_comesTo_9 (sfX1_goesAll (M := M1) hB3.1  t s b ) rfl okX1_goesAll viX1_goesAll lkX1_46 (s_32 hB3.1.1) cl_1 rfl (Nat.le_of_ble_eq_true rfl) ⟨rfl, rfl⟩ (Nat.le_of_ble_eq_true rfl) (Nat.le_of_ble_eq_true rfl) (Nat.le_of_ble_eq_true rfl) ?_
  rintro x4 M5 ⟨hB6, h7, h8⟩
  have hB9 : BF fS M M5 := BF.go hB3 hB6
  refine vc_if_eq dX1_comesTo_12 (fun h10 => ?_) (fun h10 => ?_)
  · refine vc_iconst dX1_comesTo_22 rfl ?_
    refine vc_iret dX1_comesTo_23 rfl (Nat.le_of_ble_eq_true rfl) (Nat.le_of_ble_eq_true rfl) ?_
    exact ⟨_, rfl, hB9⟩
  · refine vc_aload_n dX1_comesTo_15 rfl ?_
    refine vc_getI dX1_comesTo_16 flX1_19 (s_32 hB9.1.1) rfl ?_
    refine vc_goto dX1_comesTo_19 ?_
    refine vc_iret dX1_comesTo_23 rfl (Nat.le_of_ble_eq_true rfl) (Nat.le_of_ble_eq_true rfl) ?_
    exact ⟨_, rfl, hB9⟩

