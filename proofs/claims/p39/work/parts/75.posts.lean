/-! CONTRACTS of Finder, Posts (written by wip/p35/c75.py) -/
set_option maxRecDepth 4000 in
theorem sfX0_turnOfKind {l : Launch} {M : Mem} (hB : Box M)  (k : Int)  : Call l mdX0_turnOfKind [aI k] M (fun q N => ∃ r : Int, q = some (aI r) ∧ M = N) := by
  have hB0 : BF fQ M M := BF.start hB
  refine Call.of [some (aI k), none] rfl (Nat.le_of_ble_eq_true rfl) rfl ?_
  refine vc_ok (fun hoM hoS hoL => ?_)
  have hr0 : -2147483648 ≤ k ∧ k < 2147483648 := hoL 0 _ rfl
  refine vc_iload_n dX0_turnOfKind_0 rfl ?_
  refine vc_bipush dX0_turnOfKind_1 rfl ?_
  refine vc_irem dX0_turnOfKind_3 (by omega) ?_
  refine vc_iconst dX0_turnOfKind_4 rfl ?_
  refine vc_iadd dX0_turnOfKind_5 ?_
  refine vc_nameI (fun x1 ex1 => ?_)
  refine vc_istore_n dX0_turnOfKind_6 (by decide) rfl (show _ = [some (aI k), some (aI x1)] from rfl) ?_
  refine vc_bipush dX0_turnOfKind_7 rfl ?_
  refine vc_iload_n dX0_turnOfKind_9 rfl ?_
  refine vc_bipush dX0_turnOfKind_10 rfl ?_
  refine vc_idiv dX0_turnOfKind_12 (by omega) ?_
  refine vc_iconst dX0_turnOfKind_13 rfl ?_
  refine vc_iadd dX0_turnOfKind_14 ?_
  refine vc_imul dX0_turnOfKind_15 ?_
  refine vc_iload_n dX0_turnOfKind_16 rfl ?_
  refine vc_iconst dX0_turnOfKind_17 rfl ?_
  refine vc_icmp_gt dX0_turnOfKind_18 (fun h2 => ?_) (fun h2 => ?_)
  · refine vc_bipush dX0_turnOfKind_25 rfl ?_
    refine vc_iload_n dX0_turnOfKind_27 rfl ?_
    refine vc_iadd dX0_turnOfKind_28 ?_
    refine vc_iconst dX0_turnOfKind_29 rfl ?_
    refine vc_isub dX0_turnOfKind_30 ?_
    refine vc_iadd dX0_turnOfKind_31 ?_
    refine vc_iret dX0_turnOfKind_32 rfl (Nat.le_of_ble_eq_true rfl) (Nat.le_of_ble_eq_true rfl) ?_
    exact ⟨_, rfl, rfl⟩
  · refine vc_iload_n dX0_turnOfKind_21 rfl ?_
    refine vc_goto dX0_turnOfKind_22 ?_
    refine vc_iadd dX0_turnOfKind_31 ?_
    refine vc_iret dX0_turnOfKind_32 rfl (Nat.le_of_ble_eq_true rfl) (Nat.le_of_ble_eq_true rfl) ?_
    exact ⟨_, rfl, rfl⟩

set_option maxRecDepth 4000 in
theorem sfX0_kindOfTurn {l : Launch} {M : Mem} (hB : Box M)  (t : Int)  : Call l mdX0_kindOfTurn [aI t] M (fun q N => ∃ r : Int, q = some (aI r) ∧ M = N) := by
  have hB0 : BF fQ M M := BF.start hB
  refine Call.of [some (aI t), none] rfl (Nat.le_of_ble_eq_true rfl) rfl ?_
  refine vc_ok (fun hoM hoS hoL => ?_)
  have hr0 : -2147483648 ≤ t ∧ t < 2147483648 := hoL 0 _ rfl
  refine vc_iload_n dX0_kindOfTurn_0 rfl ?_
  refine vc_bipush dX0_kindOfTurn_1 rfl ?_
  refine vc_irem dX0_kindOfTurn_3 (by omega) ?_
  refine vc_iload_n dX0_kindOfTurn_4 rfl ?_
  refine vc_bipush dX0_kindOfTurn_5 rfl ?_
  refine vc_idiv dX0_kindOfTurn_7 (by omega) ?_
  refine vc_bipush dX0_kindOfTurn_8 rfl ?_
  refine vc_irem dX0_kindOfTurn_10 (by omega) ?_
  refine vc_if_ne dX0_kindOfTurn_11 (fun h1 => ?_) (fun h1 => ?_)
  · refine vc_iconst dX0_kindOfTurn_18 rfl ?_
    refine vc_iadd dX0_kindOfTurn_19 ?_
    refine vc_nameI (fun x2 ex2 => ?_)
    refine vc_istore_n dX0_kindOfTurn_20 (by decide) rfl (show _ = [some (aI t), some (aI x2)] from rfl) ?_
    refine vc_bipush dX0_kindOfTurn_21 rfl ?_
    refine vc_iload_n dX0_kindOfTurn_23 rfl ?_
    refine vc_bipush dX0_kindOfTurn_24 rfl ?_
    refine vc_idiv dX0_kindOfTurn_26 (by omega) ?_
    refine vc_iconst dX0_kindOfTurn_27 rfl ?_
    refine vc_isub dX0_kindOfTurn_28 ?_
    refine vc_imul dX0_kindOfTurn_29 ?_
    refine vc_iload_n dX0_kindOfTurn_30 rfl ?_
    refine vc_iadd dX0_kindOfTurn_31 ?_
    refine vc_iconst dX0_kindOfTurn_32 rfl ?_
    refine vc_isub dX0_kindOfTurn_33 ?_
    refine vc_iret dX0_kindOfTurn_34 rfl (Nat.le_of_ble_eq_true rfl) (Nat.le_of_ble_eq_true rfl) ?_
    exact ⟨_, rfl, rfl⟩
  · refine vc_iconst dX0_kindOfTurn_14 rfl ?_
    refine vc_goto dX0_kindOfTurn_15 ?_
    refine vc_iadd dX0_kindOfTurn_19 ?_
    refine vc_nameI (fun x3 ex3 => ?_)
    refine vc_istore_n dX0_kindOfTurn_20 (by decide) rfl (show _ = [some (aI t), some (aI x3)] from rfl) ?_
    refine vc_bipush dX0_kindOfTurn_21 rfl ?_
    refine vc_iload_n dX0_kindOfTurn_23 rfl ?_
    refine vc_bipush dX0_kindOfTurn_24 rfl ?_
    refine vc_idiv dX0_kindOfTurn_26 (by omega) ?_
    refine vc_iconst dX0_kindOfTurn_27 rfl ?_
    refine vc_isub dX0_kindOfTurn_28 ?_
    refine vc_imul dX0_kindOfTurn_29 ?_
    refine vc_iload_n dX0_kindOfTurn_30 rfl ?_
    refine vc_iadd dX0_kindOfTurn_31 ?_
    refine vc_iconst dX0_kindOfTurn_32 rfl ?_
    refine vc_isub dX0_kindOfTurn_33 ?_
    refine vc_iret dX0_kindOfTurn_34 rfl (Nat.le_of_ble_eq_true rfl) (Nat.le_of_ble_eq_true rfl) ?_
    exact ⟨_, rfl, rfl⟩

set_option maxRecDepth 4000 in
theorem sfX0_after {l : Launch} {M : Mem} (hB : Box M)  (s : Int) (t : Int) (w : Int)  : Call l mdX0_after [aR 46, aI s, aI t, aI w] M (fun q N => ∃ r : Int, q = some (aI r) ∧ BF fQ M N) := by
  have hB0 : BF fQ M M := BF.start hB
  refine Call.of [some (aR 46), some (aI s), some (aI t), some (aI w), none, none, none] rfl (Nat.le_of_ble_eq_true rfl) rfl ?_
  refine vc_ok (fun hoM hoS hoL => ?_)
  have hr1 : -2147483648 ≤ s ∧ s < 2147483648 := hoL 1 _ rfl
  have hr2 : -2147483648 ≤ t ∧ t < 2147483648 := hoL 2 _ rfl
  have hr3 : -2147483648 ≤ w ∧ w < 2147483648 := hoL 3 _ rfl
  refine vc_iload_n dX0_after_0 rfl ?_
  refine vc_bipush dX0_after_1 rfl ?_
  refine vc_iandM dX0_after_3 64 6 rfl (by decide) rfl ?_
  refine vc_nameI (fun x1 ex1 => ?_)
  refine vc_istore dX0_after_4 (by decide) rfl (show _ = [some (aR 46), some (aI s), some (aI t), some (aI w), some (aI x1), none, none] from rfl) ?_
  refine vc_iload_n dX0_after_6 rfl ?_
  refine vc_iconst dX0_after_7 rfl ?_
  refine vc_iand dX0_after_8 ?_
  refine vc_nameI (fun x2 ex2 => ?_)
  refine vc_istore dX0_after_9 (by decide) rfl (show _ = [some (aR 46), some (aI s), some (aI t), some (aI w), some (aI x1), some (aI x2), none] from rfl) ?_
  refine vc_bipush dX0_after_11 rfl ?_
  refine vc_iload dX0_after_13 rfl ?_
  refine vc_imul dX0_after_15 ?_
  refine vc_iload dX0_after_16 rfl ?_
  refine vc_iadd dX0_after_18 ?_
  refine vc_bipush dX0_after_19 rfl ?_
  refine vc_imul dX0_after_21 ?_
  refine vc_iload_n dX0_after_22 rfl ?_
  refine vc_cSI dX0_after_23 (sfX0_kindOfTurn (M := M) hB0.1  t ) rfl okX0_kindOfTurn stX0_kindOfTurn lkX0_61 rfl (Nat.le_of_ble_eq_true rfl) ⟨rfl, rfl⟩ (Nat.le_of_ble_eq_true rfl) (Nat.le_of_ble_eq_true rfl) (Nat.le_of_ble_eq_true rfl) ?_
  rintro x3 _ rfl
  refine vc_iadd dX0_after_26 ?_
  refine vc_nameI (fun x4 ex4 => ?_)
  refine vc_istore dX0_after_27 (by decide) rfl (show _ = [some (aR 46), some (aI s), some (aI t), some (aI w), some (aI x1), some (aI x2), some (aI x4)] from rfl) ?_
  refine vc_iload dX0_after_29 rfl ?_
  refine vc_if_lt dX0_after_31 (fun h5 => ?_) (fun h5 => ?_)
  · refine vc_iconst dX0_after_44 rfl ?_
    refine vc_iret dX0_after_45 rfl (Nat.le_of_ble_eq_true rfl) (Nat.le_of_ble_eq_true rfl) ?_
    exact ⟨_, rfl, hB0⟩
  · refine vc_iload dX0_after_34 rfl ?_
    refine vc_aload_n dX0_after_36 rfl ?_
    refine vc_getR dX0_after_37 flX0_19 (s_46 hB0.1.1) rfl (r_46_2 hB0.1.1) ?_
    refine vc_alen dX0_after_40 (s_47 hB0.1.1) rfl ?_
    refine vc_topI 3456 rfl ?_
    refine vc_icmp_lt dX0_after_41 (fun h6 => ?_) (fun h6 => ?_)
    · refine vc_aload_n dX0_after_46 rfl ?_
      refine vc_getR dX0_after_47 flX0_19 (s_46 hB0.1.1) rfl (r_46_2 hB0.1.1) ?_
      refine vc_iload dX0_after_50 rfl ?_
      refine vc_iaload dX0_after_52 (s_47 hB0.1.1) (by omega) (by omega) ?_
      refine vc_bipush dX0_after_53 rfl ?_
      refine vc_icmp_ne dX0_after_55 (fun h7 => ?_) (fun h7 => ?_)
      · refine vc_aload_n dX0_after_125 rfl ?_
        refine vc_getR dX0_after_126 flX0_19 (s_46 hB0.1.1) rfl (r_46_2 hB0.1.1) ?_
        refine vc_iload dX0_after_129 rfl ?_
        refine vc_iaload dX0_after_131 (s_47 hB0.1.1) (by omega) (by omega) ?_
        refine vc_iconst dX0_after_132 rfl ?_
        refine vc_icmp_eq dX0_after_133 (fun h8 => ?_) (fun h8 => ?_)
        · refine vc_iconst dX0_after_156 rfl ?_
          refine vc_iret dX0_after_157 rfl (Nat.le_of_ble_eq_true rfl) (Nat.le_of_ble_eq_true rfl) ?_
          exact ⟨_, rfl, hB0⟩
        · refine vc_iload_n dX0_after_136 rfl ?_
          refine vc_bipush dX0_after_137 rfl ?_
          refine vc_ishrC dX0_after_139 64 6 rfl (by decide) rfl ?_
          refine vc_aload_n dX0_after_140 rfl ?_
          refine vc_getR dX0_after_141 flX0_19 (s_46 hB0.1.1) rfl (r_46_2 hB0.1.1) ?_
          refine vc_iload dX0_after_144 rfl ?_
          refine vc_iaload dX0_after_146 (s_47 hB0.1.1) (by omega) (by omega) ?_
          refine vc_bipush dX0_after_147 rfl ?_
          refine vc_ishrC dX0_after_149 64 6 rfl (by decide) rfl ?_
          refine vc_iadd dX0_after_150 ?_
          refine vc_bipush dX0_after_151 rfl ?_
          refine vc_icmp_le dX0_after_153 (fun h9 => ?_) (fun h9 => ?_)
          · refine vc_iload_n dX0_after_158 rfl ?_
            refine vc_iload dX0_after_159 rfl ?_
            refine vc_isub dX0_after_161 ?_
            refine vc_aload_n dX0_after_162 rfl ?_
            refine vc_getR dX0_after_163 flX0_19 (s_46 hB0.1.1) rfl (r_46_2 hB0.1.1) ?_
            refine vc_iload dX0_after_166 rfl ?_
            refine vc_iaload dX0_after_168 (s_47 hB0.1.1) (by omega) (by omega) ?_
            refine vc_iadd dX0_after_169 ?_
            refine vc_iret dX0_after_170 rfl (Nat.le_of_ble_eq_true rfl) (Nat.le_of_ble_eq_true rfl) ?_
            exact ⟨_, rfl, hB0⟩
          · refine vc_iconst dX0_after_156 rfl ?_
            refine vc_iret dX0_after_157 rfl (Nat.le_of_ble_eq_true rfl) (Nat.le_of_ble_eq_true rfl) ?_
            exact ⟨_, rfl, hB0⟩
      · refine vc_aload_n dX0_after_58 rfl ?_
        refine vc_getR dX0_after_59 flX0_15 (s_46 hB0.1.1) rfl (r_46_1 hB0.1.1) ?_
        refine vc_iload dX0_after_62 rfl ?_
        refine vc_iconst dX0_after_64 rfl ?_
        refine vc_ishrC dX0_after_65 4 2 rfl (by decide) rfl ?_
        refine vc_iload dX0_after_66 rfl ?_
        refine vc_iconst dX0_after_68 rfl ?_
        refine vc_iandM dX0_after_69 4 2 rfl (by decide) rfl ?_
        refine vc_cVU dX0_after_70 (sfX1_setOut (M := M) hB0.1  (x1 / 4) (x1 % 4) ) rfl okX1_setOut viX1_setOut lkX0_64 (s_32 hB0.1.1) cl_1 rfl (Nat.le_of_ble_eq_true rfl) ⟨rfl, rfl⟩ (Nat.le_of_ble_eq_true rfl) (Nat.le_of_ble_eq_true rfl) (Nat.le_of_ble_eq_true rfl) ?_
        rintro M10 hB11
        have hB12 : BF fQ M M10 := BF.go hB0 hB11.sq
        refine vc_aload_n dX0_after_73 rfl ?_
        refine vc_getR dX0_after_74 flX0_19 (s_46 hB12.1.1) rfl (r_46_2 hB12.1.1) ?_
        refine vc_iload dX0_after_77 rfl ?_
        refine vc_aload_n dX0_after_79 rfl ?_
        refine vc_getR dX0_after_80 flX0_15 (s_46 hB12.1.1) rfl (r_46_1 hB12.1.1) ?_
        refine vc_iload_n dX0_after_83 rfl ?_
        refine vc_iload dX0_after_84 rfl ?_
        refine vc_cVI dX0_after_86 (sfX1_takes (M := M10) hB12.1  t x2 ) rfl okX1_takes viX1_takes lkX0_68 (s_32 hB12.1.1) cl_1 rfl (Nat.le_of_ble_eq_true rfl) ⟨rfl, rfl⟩ (Nat.le_of_ble_eq_true rfl) (Nat.le_of_ble_eq_true rfl) (Nat.le_of_ble_eq_true rfl) ?_
        rintro x13 M14 ⟨hB15, h16, h17⟩
        have hB18 : BF fQ M M14 := BF.go hB12 hB15.sq
        refine vc_if_eq dX0_after_89 (fun h19 => ?_) (fun h19 => ?_)
        · refine vc_iconst dX0_after_123 rfl ?_
          refine vc_iastore dX0_after_124 (s_47 hB18.1.1) (by omega) (by omega) ?_
          have hB20 : BF fQ M (sI M14 47 x4.toNat (-1)) := BF.w47 hB18 (fun _ => rfl) _
          refine vc_aload_n dX0_after_125 rfl ?_
          refine vc_getR dX0_after_126 flX0_19 (s_46 hB20.1.1) rfl (r_46_2 hB20.1.1) ?_
          refine vc_iload dX0_after_129 rfl ?_
          refine vc_iaload dX0_after_131 (s_47 hB20.1.1) (by omega) (by omega) ?_
          refine vc_topI ((-1)) mI_same ?_
          refine vc_iconst dX0_after_132 rfl ?_
          refine vc_icmp_eq dX0_after_133 (fun h21 => ?_) (fun h21 => by exfalso; omega)
          refine vc_iconst dX0_after_156 rfl ?_
          refine vc_iret dX0_after_157 rfl (Nat.le_of_ble_eq_true rfl) (Nat.le_of_ble_eq_true rfl) ?_
          exact ⟨_, rfl, hB20⟩
        · refine vc_bipush dX0_after_92 rfl ?_
          refine vc_aload_n dX0_after_94 rfl ?_
          refine vc_getR dX0_after_95 flX0_15 (s_46 hB18.1.1) rfl (r_46_1 hB18.1.1) ?_
          refine vc_getI dX0_after_98 flX0_72 (s_32 hB18.1.1) rfl ?_
          have k22 : 0 ≤ mI M14 32 4 ∧ mI M14 32 4 ≤ 40 := b32_4 (M := M14) hB18.1
          refine vc_imulE dX0_after_101 (by omega) (by omega) ?_
          refine vc_iconst dX0_after_102 rfl ?_
          refine vc_aload_n dX0_after_103 rfl ?_
          refine vc_getR dX0_after_104 flX0_15 (s_46 hB18.1.1) rfl (r_46_1 hB18.1.1) ?_
          refine vc_getI dX0_after_107 flX0_76 (s_32 hB18.1.1) rfl ?_
          refine vc_imul dX0_after_110 ?_
          refine vc_iadd dX0_after_111 ?_
          refine vc_aload_n dX0_after_112 rfl ?_
          refine vc_getR dX0_after_113 flX0_15 (s_46 hB18.1.1) rfl (r_46_1 hB18.1.1) ?_
          refine vc_getI dX0_after_116 flX0_79 (s_32 hB18.1.1) rfl ?_
          refine vc_iadd dX0_after_119 ?_
          refine vc_goto dX0_after_120 ?_
          refine vc_iastore dX0_after_124 (s_47 hB18.1.1) (by omega) (by omega) ?_
          have hB23 : BF fQ M (sI M14 47 x4.toNat (wI ((wI ((64 * (mI M14 32 4)) + (wI (4 * (mI M14 32 2))))) + (mI M14 32 3)))) := BF.w47 hB18 (fun _ => rfl) _
          refine vc_aload_n dX0_after_125 rfl ?_
          refine vc_getR dX0_after_126 flX0_19 (s_46 hB23.1.1) rfl (r_46_2 hB23.1.1) ?_
          refine vc_iload dX0_after_129 rfl ?_
          refine vc_iaload dX0_after_131 (s_47 hB23.1.1) (by omega) (by omega) ?_
          refine vc_topI (wI ((wI ((64 * (mI M14 32 4)) + (wI (4 * (mI M14 32 2))))) + (mI M14 32 3))) mI_same ?_
          refine vc_iconst dX0_after_132 rfl ?_
          refine vc_icmp_eq dX0_after_133 (fun h24 => ?_) (fun h24 => ?_)
          · refine vc_iconst dX0_after_156 rfl ?_
            refine vc_iret dX0_after_157 rfl (Nat.le_of_ble_eq_true rfl) (Nat.le_of_ble_eq_true rfl) ?_
            exact ⟨_, rfl, hB23⟩
          · refine vc_iload_n dX0_after_136 rfl ?_
            refine vc_bipush dX0_after_137 rfl ?_
            refine vc_ishrC dX0_after_139 64 6 rfl (by decide) rfl ?_
            refine vc_aload_n dX0_after_140 rfl ?_
            refine vc_getR dX0_after_141 flX0_19 (s_46 hB23.1.1) rfl (r_46_2 hB23.1.1) ?_
            refine vc_iload dX0_after_144 rfl ?_
            refine vc_iaload dX0_after_146 (s_47 hB23.1.1) (by omega) (by omega) ?_
            refine vc_topI (wI ((wI ((64 * (mI M14 32 4)) + (wI (4 * (mI M14 32 2))))) + (mI M14 32 3))) mI_same ?_
            refine vc_bipush dX0_after_147 rfl ?_
            refine vc_ishrC dX0_after_149 64 6 rfl (by decide) rfl ?_
            refine vc_iadd dX0_after_150 ?_
            refine vc_bipush dX0_after_151 rfl ?_
            refine vc_icmp_le dX0_after_153 (fun h25 => ?_) (fun h25 => ?_)
            · refine vc_iload_n dX0_after_158 rfl ?_
              refine vc_iload dX0_after_159 rfl ?_
              refine vc_isub dX0_after_161 ?_
              refine vc_aload_n dX0_after_162 rfl ?_
              refine vc_getR dX0_after_163 flX0_19 (s_46 hB23.1.1) rfl (r_46_2 hB23.1.1) ?_
              refine vc_iload dX0_after_166 rfl ?_
              refine vc_iaload dX0_after_168 (s_47 hB23.1.1) (by omega) (by omega) ?_
              refine vc_topI (wI ((wI ((64 * (mI M14 32 4)) + (wI (4 * (mI M14 32 2))))) + (mI M14 32 3))) mI_same ?_
              refine vc_iadd dX0_after_169 ?_
              refine vc_iret dX0_after_170 rfl (Nat.le_of_ble_eq_true rfl) (Nat.le_of_ble_eq_true rfl) ?_
              exact ⟨_, rfl, hB23⟩
            · refine vc_iconst dX0_after_156 rfl ?_
              refine vc_iret dX0_after_157 rfl (Nat.le_of_ble_eq_true rfl) (Nat.le_of_ble_eq_true rfl) ?_
              exact ⟨_, rfl, hB23⟩
    · refine vc_iconst dX0_after_44 rfl ?_
      refine vc_iret dX0_after_45 rfl (Nat.le_of_ble_eq_true rfl) (Nat.le_of_ble_eq_true rfl) ?_
      exact ⟨_, rfl, hB0⟩

set_option maxRecDepth 4000 in
theorem sfX0_endsAtGoal {l : Launch} {M : Mem} (hB : Box M)  (s : Int) (o : Int)  : Call l mdX0_endsAtGoal [aR 46, aI s, aI o] M (fun q N => ∃ r : Int, q = some (aI r) ∧ M = N ∧ 0 ≤ r ∧ r ≤ 1) := by
  have hB0 : BF fQ M M := BF.start hB
  refine Call.of [some (aR 46), some (aI s), some (aI o), none] rfl (Nat.le_of_ble_eq_true rfl) rfl ?_
  refine vc_ok (fun hoM hoS hoL => ?_)
  have hr1 : -2147483648 ≤ s ∧ s < 2147483648 := hoL 1 _ rfl
  have hr2 : -2147483648 ≤ o ∧ o < 2147483648 := hoL 2 _ rfl
  refine vc_iload_n dX0_endsAtGoal_0 rfl ?_
  refine vc_iconst dX0_endsAtGoal_1 rfl ?_
  refine vc_ishrC dX0_endsAtGoal_2 4 2 rfl (by decide) rfl ?_
  refine vc_bipush dX0_endsAtGoal_3 rfl ?_
  refine vc_iandM dX0_endsAtGoal_5 16 4 rfl (by decide) rfl ?_
  refine vc_nameI (fun x1 ex1 => ?_)
  refine vc_istore_n dX0_endsAtGoal_6 (by decide) rfl (show _ = [some (aR 46), some (aI s), some (aI o), some (aI x1)] from rfl) ?_
  refine vc_iload_n dX0_endsAtGoal_7 rfl ?_
  refine vc_if_ne dX0_endsAtGoal_8 (fun h2 => ?_) (fun h2 => ?_)
  · refine vc_iload_n dX0_endsAtGoal_28 rfl ?_
    refine vc_bipush dX0_endsAtGoal_29 rfl ?_
    refine vc_ishrC dX0_endsAtGoal_31 64 6 rfl (by decide) rfl ?_
    refine vc_bipush dX0_endsAtGoal_32 rfl ?_
    refine vc_icmp_ge dX0_endsAtGoal_34 (fun h3 => ?_) (fun h3 => ?_)
    · refine vc_iconst dX0_endsAtGoal_62 rfl ?_
      refine vc_zret dX0_endsAtGoal_63 rfl (by first | decide | omega) (Nat.le_of_ble_eq_true rfl) (Nat.le_of_ble_eq_true rfl) ?_
      exact ⟨_, rfl, rfl, by omega, by omega⟩
    · refine vc_aload_n dX0_endsAtGoal_37 rfl ?_
      refine vc_getR dX0_endsAtGoal_38 flX0_9 (s_46 hB0.1.1) rfl (r_46_0 hB0.1.1) ?_
      refine vc_iload_n dX0_endsAtGoal_41 rfl ?_
      refine vc_iload_n dX0_endsAtGoal_42 rfl ?_
      refine vc_iconst dX0_endsAtGoal_43 rfl ?_
      refine vc_iandM dX0_endsAtGoal_44 4 2 rfl (by decide) rfl ?_
      refine vc_cVI dX0_endsAtGoal_45 (sfX6_ahead (M := M) hB0.1  x1 (s % 4) ) rfl okX6_ahead viX6_ahead lkX0_87 (s_1 hB0.1.1) cl_6 rfl (Nat.le_of_ble_eq_true rfl) ⟨rfl, rfl⟩ (Nat.le_of_ble_eq_true rfl) (Nat.le_of_ble_eq_true rfl) (Nat.le_of_ble_eq_true rfl) ?_
      rintro x4 _ ⟨rfl, h5, h6, h7, h8⟩
      refine vc_aload_n dX0_endsAtGoal_48 rfl ?_
      refine vc_getR dX0_endsAtGoal_49 flX0_9 (s_46 hB0.1.1) rfl (r_46_0 hB0.1.1) ?_
      refine vc_getI dX0_endsAtGoal_52 flX0_82 (s_1 hB0.1.1) rfl ?_
      have k9 : (-1) ≤ mI M 1 7 ∧ mI M 1 7 ≤ 15 := b1_7 (M := M) hB0.1
      refine vc_icmp_ne dX0_endsAtGoal_55 (fun h10 => ?_) (fun h10 => ?_)
      · refine vc_iconst dX0_endsAtGoal_62 rfl ?_
        refine vc_zret dX0_endsAtGoal_63 rfl (by first | decide | omega) (Nat.le_of_ble_eq_true rfl) (Nat.le_of_ble_eq_true rfl) ?_
        exact ⟨_, rfl, rfl, by omega, by omega⟩
      · refine vc_iconst dX0_endsAtGoal_58 rfl ?_
        refine vc_goto dX0_endsAtGoal_59 ?_
        refine vc_zret dX0_endsAtGoal_63 rfl (by first | decide | omega) (Nat.le_of_ble_eq_true rfl) (Nat.le_of_ble_eq_true rfl) ?_
        exact ⟨_, rfl, rfl, by omega, by omega⟩
  · refine vc_iload_n dX0_endsAtGoal_11 rfl ?_
    refine vc_aload_n dX0_endsAtGoal_12 rfl ?_
    refine vc_getR dX0_endsAtGoal_13 flX0_9 (s_46 hB0.1.1) rfl (r_46_0 hB0.1.1) ?_
    refine vc_getI dX0_endsAtGoal_16 flX0_82 (s_1 hB0.1.1) rfl ?_
    have k11 : (-1) ≤ mI M 1 7 ∧ mI M 1 7 ≤ 15 := b1_7 (M := M) hB0.1
    refine vc_icmp_ne dX0_endsAtGoal_19 (fun h12 => ?_) (fun h12 => ?_)
    · refine vc_iconst dX0_endsAtGoal_26 rfl ?_
      refine vc_zret dX0_endsAtGoal_27 rfl (by first | decide | omega) (Nat.le_of_ble_eq_true rfl) (Nat.le_of_ble_eq_true rfl) ?_
      exact ⟨_, rfl, rfl, by omega, by omega⟩
    · refine vc_iconst dX0_endsAtGoal_22 rfl ?_
      refine vc_goto dX0_endsAtGoal_23 ?_
      refine vc_zret dX0_endsAtGoal_27 rfl (by first | decide | omega) (Nat.le_of_ble_eq_true rfl) (Nat.le_of_ble_eq_true rfl) ?_
      exact ⟨_, rfl, rfl, by omega, by omega⟩

set_option maxRecDepth 4000 in
theorem sfX0_allGo {l : Launch} {M : Mem} (hB : Box M)  (v : Int) (t : Int) (s : Int) (la : Int) (p0 : 0 ≤ v) (p1 : v ≤ 2) : Call l mdX0_allGo [aR 46, aI v, aI t, aI s, aI la] M (fun q N => ∃ r : Int, q = some (aI r) ∧ BF fQ M N ∧ 0 ≤ r ∧ r ≤ 1) := by
  have hB0 : BF fQ M M := BF.start hB
  refine Call.of [some (aR 46), some (aI v), some (aI t), some (aI s), some (aI la), none, none] rfl (Nat.le_of_ble_eq_true rfl) rfl ?_
  refine vc_ok (fun hoM hoS hoL => ?_)
  have hr2 : -2147483648 ≤ t ∧ t < 2147483648 := hoL 2 _ rfl
  have hr3 : -2147483648 ≤ s ∧ s < 2147483648 := hoL 3 _ rfl
  have hr4 : -2147483648 ≤ la ∧ la < 2147483648 := hoL 4 _ rfl
  refine vc_iconst dX0_allGo_0 rfl ?_
  refine vc_istore dX0_allGo_1 (by decide) rfl (show _ = [some (aR 46), some (aI v), some (aI t), some (aI s), some (aI la), some (aI 0), none] from rfl) ?_
  have lp3 : ∀ (n3 : Nat) (Mq3 : Mem) (v5 : Int), (BF fQ M Mq3) → (0 ≤ v5) → (v5 ≤ 8) → (8 - v5).toNat < n3 → VC l mdX0_allGo 3 [some (aR 46), some (aI v), some (aI t), some (aI s), some (aI la), some (aI v5), none] [] Mq3 0 0 (fun q N => ∃ r : Int, q = some (aI r) ∧ BF fQ M N ∧ 0 ≤ r ∧ r ≤ 1) := by
    intro n3
    induction n3 with
    | zero => intro Mq3 v5 hQ3 g3_5a g3_5b hm3; exact absurd hm3 (Nat.not_lt_zero _)
    | succ n3 ih3 =>
      intro Mq3 v5 hQ3 g3_5a g3_5b hm3
      refine vc_iload dX0_allGo_3 rfl ?_
      refine vc_bipush dX0_allGo_5 rfl ?_
      refine vc_icmp_ge dX0_allGo_7 (fun h1 => ?_) (fun h1 => ?_)
      · refine vc_iconst dX0_allGo_103 rfl ?_
        refine vc_zret dX0_allGo_104 rfl (by first | decide | omega) (Nat.le_of_ble_eq_true rfl) (Nat.le_of_ble_eq_true rfl) ?_
        exact ⟨_, rfl, hQ3, by omega, by omega⟩
      · refine vc_iload dX0_allGo_10 rfl ?_
        refine vc_iload_n dX0_allGo_12 rfl ?_
        refine vc_iconst dX0_allGo_13 rfl ?_
        refine vc_ixor dX0_allGo_14 ?_
        refine vc_iand dX0_allGo_15 ?_
        refine vc_if_ne dX0_allGo_16 (fun h2 => ?_) (fun h2 => ?_)
        · refine vc_iincE dX0_allGo_97 rfl (by omega) (by omega) (by decide) rfl (show _ = [some (aR 46), some (aI v), some (aI t), some (aI s), some (aI la), some (aI (v5 + 1)), none] from rfl) ?_
          refine vc_goto dX0_allGo_100 ?_
          exact ih3 Mq3 (v5 + 1) hQ3 (by omega) (by omega) (by omega)
        · refine vc_aload_n dX0_allGo_19 rfl ?_
          refine vc_aload_n dX0_allGo_20 rfl ?_
          refine vc_getR dX0_allGo_21 flX0_23 (s_46 hQ3.1.1) rfl (r_46_3 hQ3.1.1) ?_
          refine vc_bipush dX0_allGo_24 rfl ?_
          refine vc_iload_n dX0_allGo_26 rfl ?_
          refine vc_imulE dX0_allGo_27 (by omega) (by omega) ?_
          refine vc_iload dX0_allGo_28 rfl ?_
          refine vc_iaddE dX0_allGo_30 (by omega) (by omega) ?_
          refine vc_iaload dX0_allGo_31 (s_48 hQ3.1.1) (by omega) (by omega) ?_
          refine vc_iload_n dX0_allGo_32 rfl ?_
          refine vc_iload dX0_allGo_33 rfl ?_
          refine vc_cSI dX0_allGo_35 (sfX1_meant (M := Mq3) hQ3.1  t v5 ) rfl okX1_meant stX1_meant lkX0_47 rfl (Nat.le_of_ble_eq_true rfl) ⟨rfl, rfl⟩ (Nat.le_of_ble_eq_true rfl) (Nat.le_of_ble_eq_true rfl) (Nat.le_of_ble_eq_true rfl) ?_
          rintro x3 _ rfl
          refine vc_iload dX0_allGo_38 rfl ?_
          refine vc_cVI dX0_allGo_40 (sfX0_after (M := Mq3) hQ3.1  (mI Mq3 48 (((8 * v) + v5).toNat)) x3 v5 ) rfl okX0_after viX0_after lkX0_53 (s_46 hQ3.1.1) cl_0 rfl (Nat.le_of_ble_eq_true rfl) ⟨rfl, rfl⟩ (Nat.le_of_ble_eq_true rfl) (Nat.le_of_ble_eq_true rfl) (Nat.le_of_ble_eq_true rfl) ?_
          rintro x4 M5 hB6
          have hB7 : BF fQ M M5 := BF.go hQ3 hB6
          refine vc_istore dX0_allGo_43 (by decide) rfl (show _ = [some (aR 46), some (aI v), some (aI t), some (aI s), some (aI la), some (aI v5), some (aI x4)] from rfl) ?_
          refine vc_iload dX0_allGo_45 rfl ?_
          refine vc_iconst dX0_allGo_47 rfl ?_
          refine vc_icmp_eq dX0_allGo_48 (fun h8 => ?_) (fun h8 => ?_)
          · refine vc_iconst dX0_allGo_78 rfl ?_
            refine vc_zret dX0_allGo_79 rfl (by first | decide | omega) (Nat.le_of_ble_eq_true rfl) (Nat.le_of_ble_eq_true rfl) ?_
            exact ⟨_, rfl, hB7, by omega, by omega⟩
          · refine vc_iload dX0_allGo_51 rfl ?_
            refine vc_if_eq dX0_allGo_53 (fun h9 => ?_) (fun h9 => ?_)
            · refine vc_aload_n dX0_allGo_80 rfl ?_
              refine vc_getR dX0_allGo_81 flX0_23 (s_46 hB7.1.1) rfl (r_46_3 hB7.1.1) ?_
              refine vc_bipush dX0_allGo_84 rfl ?_
              refine vc_iload_n dX0_allGo_86 rfl ?_
              refine vc_imulE dX0_allGo_87 (by omega) (by omega) ?_
              refine vc_bipush dX0_allGo_88 rfl ?_
              refine vc_iaddE dX0_allGo_90 (by omega) (by omega) ?_
              refine vc_iload dX0_allGo_91 rfl ?_
              refine vc_iaddE dX0_allGo_93 (by omega) (by omega) ?_
              refine vc_iload dX0_allGo_94 rfl ?_
              refine vc_iastore dX0_allGo_96 (s_48 hB7.1.1) (by omega) (by omega) ?_
              have hB10 : BF fQ M (sI M5 48 ((((8 * v) + 8) + v5).toNat) x4) := BF.w48 hB7 (fun _ => rfl) _
              refine vc_iincE dX0_allGo_97 rfl (by omega) (by omega) (by decide) rfl (show _ = [some (aR 46), some (aI v), some (aI t), some (aI s), some (aI la), some (aI (v5 + 1)), some (aI x4)] from rfl) ?_
              refine vc_goto dX0_allGo_100 ?_
              refine vc_less [some (aR 46), some (aI v), some (aI t), some (aI s), some (aI la), some (aI (v5 + 1)), none] (lessL_keep (lessL_keep (lessL_keep (lessL_keep (lessL_keep (lessL_keep (lessL_drop (lessL_nil)))))))) ?_
              exact ih3 (sI M5 48 ((((8 * v) + 8) + v5).toNat) x4) (v5 + 1) hB10 (by omega) (by omega) (by omega)
            · refine vc_aload_n dX0_allGo_56 rfl ?_
              refine vc_iload dX0_allGo_57 rfl ?_
              refine vc_iload_n dX0_allGo_59 rfl ?_
              refine vc_bipush dX0_allGo_60 rfl ?_
              refine vc_idiv dX0_allGo_62 (by omega) ?_
              refine vc_iconst dX0_allGo_63 rfl ?_
              refine vc_icmp_eq dX0_allGo_64 (fun h11 => ?_) (fun h11 => ?_)
              · refine vc_iconst dX0_allGo_71 rfl ?_
                refine vc_cVI dX0_allGo_72 (sfX0_endsAtGoal (M := M5) hB7.1  x4 0 ) rfl okX0_endsAtGoal viX0_endsAtGoal lkX0_57 (s_46 hB7.1.1) cl_0 rfl (Nat.le_of_ble_eq_true rfl) ⟨rfl, rfl⟩ (Nat.le_of_ble_eq_true rfl) (Nat.le_of_ble_eq_true rfl) (Nat.le_of_ble_eq_true rfl) ?_
                rintro x12 _ ⟨rfl, h13, h14⟩
                refine vc_if_ne dX0_allGo_75 (fun h15 => ?_) (fun h15 => ?_)
                · refine vc_aload_n dX0_allGo_80 rfl ?_
                  refine vc_getR dX0_allGo_81 flX0_23 (s_46 hB7.1.1) rfl (r_46_3 hB7.1.1) ?_
                  refine vc_bipush dX0_allGo_84 rfl ?_
                  refine vc_iload_n dX0_allGo_86 rfl ?_
                  refine vc_imulE dX0_allGo_87 (by omega) (by omega) ?_
                  refine vc_bipush dX0_allGo_88 rfl ?_
                  refine vc_iaddE dX0_allGo_90 (by omega) (by omega) ?_
                  refine vc_iload dX0_allGo_91 rfl ?_
                  refine vc_iaddE dX0_allGo_93 (by omega) (by omega) ?_
                  refine vc_iload dX0_allGo_94 rfl ?_
                  refine vc_iastore dX0_allGo_96 (s_48 hB7.1.1) (by omega) (by omega) ?_
                  have hB16 : BF fQ M (sI M5 48 ((((8 * v) + 8) + v5).toNat) x4) := BF.w48 hB7 (fun _ => rfl) _
                  refine vc_iincE dX0_allGo_97 rfl (by omega) (by omega) (by decide) rfl (show _ = [some (aR 46), some (aI v), some (aI t), some (aI s), some (aI la), some (aI (v5 + 1)), some (aI x4)] from rfl) ?_
                  refine vc_goto dX0_allGo_100 ?_
                  refine vc_less [some (aR 46), some (aI v), some (aI t), some (aI s), some (aI la), some (aI (v5 + 1)), none] (lessL_keep (lessL_keep (lessL_keep (lessL_keep (lessL_keep (lessL_keep (lessL_drop (lessL_nil)))))))) ?_
                  exact ih3 (sI M5 48 ((((8 * v) + 8) + v5).toNat) x4) (v5 + 1) hB16 (by omega) (by omega) (by omega)
                · refine vc_iconst dX0_allGo_78 rfl ?_
                  refine vc_zret dX0_allGo_79 rfl (by first | decide | omega) (Nat.le_of_ble_eq_true rfl) (Nat.le_of_ble_eq_true rfl) ?_
                  exact ⟨_, rfl, hB7, by omega, by omega⟩
              · refine vc_iconst dX0_allGo_67 rfl ?_
                refine vc_goto dX0_allGo_68 ?_
                refine vc_cVI dX0_allGo_72 (sfX0_endsAtGoal (M := M5) hB7.1  x4 1 ) rfl okX0_endsAtGoal viX0_endsAtGoal lkX0_57 (s_46 hB7.1.1) cl_0 rfl (Nat.le_of_ble_eq_true rfl) ⟨rfl, rfl⟩ (Nat.le_of_ble_eq_true rfl) (Nat.le_of_ble_eq_true rfl) (Nat.le_of_ble_eq_true rfl) ?_
                rintro x17 _ ⟨rfl, h18, h19⟩
                refine vc_if_ne dX0_allGo_75 (fun h20 => ?_) (fun h20 => ?_)
                · refine vc_aload_n dX0_allGo_80 rfl ?_
                  refine vc_getR dX0_allGo_81 flX0_23 (s_46 hB7.1.1) rfl (r_46_3 hB7.1.1) ?_
                  refine vc_bipush dX0_allGo_84 rfl ?_
                  refine vc_iload_n dX0_allGo_86 rfl ?_
                  refine vc_imulE dX0_allGo_87 (by omega) (by omega) ?_
                  refine vc_bipush dX0_allGo_88 rfl ?_
                  refine vc_iaddE dX0_allGo_90 (by omega) (by omega) ?_
                  refine vc_iload dX0_allGo_91 rfl ?_
                  refine vc_iaddE dX0_allGo_93 (by omega) (by omega) ?_
                  refine vc_iload dX0_allGo_94 rfl ?_
                  refine vc_iastore dX0_allGo_96 (s_48 hB7.1.1) (by omega) (by omega) ?_
                  have hB21 : BF fQ M (sI M5 48 ((((8 * v) + 8) + v5).toNat) x4) := BF.w48 hB7 (fun _ => rfl) _
                  refine vc_iincE dX0_allGo_97 rfl (by omega) (by omega) (by decide) rfl (show _ = [some (aR 46), some (aI v), some (aI t), some (aI s), some (aI la), some (aI (v5 + 1)), some (aI x4)] from rfl) ?_
                  refine vc_goto dX0_allGo_100 ?_
                  refine vc_less [some (aR 46), some (aI v), some (aI t), some (aI s), some (aI la), some (aI (v5 + 1)), none] (lessL_keep (lessL_keep (lessL_keep (lessL_keep (lessL_keep (lessL_keep (lessL_drop (lessL_nil)))))))) ?_
                  exact ih3 (sI M5 48 ((((8 * v) + 8) + v5).toNat) x4) (v5 + 1) hB21 (by omega) (by omega) (by omega)
                · refine vc_iconst dX0_allGo_78 rfl ?_
                  refine vc_zret dX0_allGo_79 rfl (by first | decide | omega) (Nat.le_of_ble_eq_true rfl) (Nat.le_of_ble_eq_true rfl) ?_
                  exact ⟨_, rfl, hB7, by omega, by omega⟩
  exact lp3 _ M 0 hB0 (by omega) (by omega) (Nat.lt_succ_self _)

set_option maxRecDepth 4000 in
theorem sfX0_tries {l : Launch} : ∀ (nf : Nat) {M : Mem} (hB : Box M)  (v : Int) (n : Int) (s : Int) (p0 : 0 ≤ v) (p1 : v ≤ 3) (hnf : (3 - v).toNat < nf), Call l (mdX0_tries (16 + nf)) [aR 46, aI v, aI n, aI s] M (fun q N => ∃ r : Int, q = some (aI r) ∧ BF fQ M N ∧ 0 ≤ r ∧ r ≤ 1) := by
  intro nf
  induction nf with
  | zero => intro M hB v n s p0 p1 hnf; exact absurd hnf (Nat.not_lt_zero _)
  | succ nf ih =>
    intro M hB v n s p0 p1 hnf
    have hB0 : BF fQ M M := BF.start hB
    refine Call.of [some (aR 46), some (aI v), some (aI n), some (aI s), none, none, none] rfl (Nat.le_of_ble_eq_true rfl) rfl ?_
    refine vc_ok (fun hoM hoS hoL => ?_)
    have hr2 : -2147483648 ≤ n ∧ n < 2147483648 := hoL 2 _ rfl
    have hr3 : -2147483648 ≤ s ∧ s < 2147483648 := hoL 3 _ rfl
    refine vc_iload_n dX0_tries_0 rfl ?_
    refine vc_iconst dX0_tries_1 rfl ?_
    refine vc_iaddE dX0_tries_2 (by omega) (by omega) ?_
    refine vc_iload_n dX0_tries_3 rfl ?_
    refine vc_icmp_lt dX0_tries_4 (fun h1 => ?_) (fun h1 => ?_)
    · refine vc_iconst dX0_tries_11 rfl ?_
      refine vc_istore dX0_tries_12 (Nat.le_of_ble_eq_true rfl) rfl (show _ = [some (aR 46), some (aI v), some (aI n), some (aI s), some (aI 0), none, none] from rfl) ?_
      refine vc_iconst dX0_tries_14 rfl ?_
      refine vc_istore dX0_tries_15 (Nat.le_of_ble_eq_true rfl) rfl (show _ = [some (aR 46), some (aI v), some (aI n), some (aI s), some (aI 0), some (aI 0), none] from rfl) ?_
      have lp17 : ∀ (n17 : Nat) (Mq17 : Mem) (v5 : Int), (BF fQ M Mq17) → (0 ≤ v5) → (v5 ≤ 27) → (27 - v5).toNat < n17 → VC l (mdX0_tries (16 + (nf + 1))) 17 [some (aR 46), some (aI v), some (aI n), some (aI s), some (aI 0), some (aI v5), none] [] Mq17 0 0 (fun q N => ∃ r : Int, q = some (aI r) ∧ BF fQ M N ∧ 0 ≤ r ∧ r ≤ 1) := by
        intro n17
        induction n17 with
        | zero => intro Mq17 v5 hQ17 g17_5a g17_5b hm17; exact absurd hm17 (Nat.not_lt_zero _)
        | succ n17 ih17 =>
          intro Mq17 v5 hQ17 g17_5a g17_5b hm17
          refine vc_iload dX0_tries_17 rfl ?_
          refine vc_bipush dX0_tries_19 rfl ?_
          refine vc_icmp_ge dX0_tries_21 (fun h2 => ?_) (fun h2 => ?_)
          · refine vc_iconst dX0_tries_82 rfl ?_
            refine vc_zret dX0_tries_83 rfl (by first | decide | omega) (Nat.le_of_ble_eq_true rfl) (Nat.le_of_ble_eq_true rfl) ?_
            exact ⟨_, rfl, hQ17, by omega, by omega⟩
          · refine vc_iload_n dX0_tries_24 rfl ?_
            refine vc_iconst dX0_tries_25 rfl ?_
            refine vc_icmp_ge dX0_tries_26 (fun h3 => ?_) (fun h3 => ?_)
            · refine vc_iconst dX0_tries_82 rfl ?_
              refine vc_zret dX0_tries_83 rfl (by first | decide | omega) (Nat.le_of_ble_eq_true rfl) (Nat.le_of_ble_eq_true rfl) ?_
              exact ⟨_, rfl, hQ17, by omega, by omega⟩
            · refine vc_iload dX0_tries_29 rfl ?_
              refine vc_cSI dX0_tries_31 (sfX0_turnOfKind (M := Mq17) hQ17.1  v5 ) rfl okX0_turnOfKind stX0_turnOfKind lkX0_39 rfl (by show 0 < 16 + (nf + 1); omega) ⟨rfl, rfl⟩ (Nat.le_of_ble_eq_true rfl) (Nat.le_of_ble_eq_true rfl) (Nat.le_of_ble_eq_true rfl) ?_
              rintro x4 _ rfl
              refine vc_istore dX0_tries_34 (Nat.le_of_ble_eq_true rfl) rfl (show _ = [some (aR 46), some (aI v), some (aI n), some (aI s), some (aI 0), some (aI v5), some (aI x4)] from rfl) ?_
              refine vc_aload_n dX0_tries_36 rfl ?_
              refine vc_getR dX0_tries_37 flX0_26 (s_46 hQ17.1.1) rfl (r_46_4 hQ17.1.1) ?_
              refine vc_iload_n dX0_tries_40 rfl ?_
              refine vc_iload dX0_tries_41 rfl ?_
              refine vc_iastore dX0_tries_43 (s_49 hQ17.1.1) (by omega) (by omega) ?_
              have hB5 : BF fQ M (sI Mq17 49 v.toNat x4) := BF.w49 hQ17 (fun _ => rfl) _
              refine vc_aload_n dX0_tries_44 rfl ?_
              refine vc_iload_n dX0_tries_45 rfl ?_
              refine vc_iload dX0_tries_46 rfl ?_
              refine vc_iload_n dX0_tries_48 rfl ?_
              refine vc_iload dX0_tries_49 rfl ?_
              refine vc_cVI dX0_tries_51 (sfX0_allGo (M := (sI Mq17 49 v.toNat x4)) hB5.1  v x4 s 0 (by omega) (by omega)) rfl okX0_allGo viX0_allGo lkX0_43 (s_46 hB5.1.1) cl_0 rfl (by show 4 < 16 + (nf + 1); omega) ⟨rfl, rfl⟩ (Nat.le_of_ble_eq_true rfl) (Nat.le_of_ble_eq_true rfl) (Nat.le_of_ble_eq_true rfl) ?_
              rintro x6 M7 ⟨hB8, h9, h10⟩
              have hB11 : BF fQ M M7 := BF.go hB5 hB8
              refine vc_if_eq dX0_tries_54 (fun h12 => ?_) (fun h12 => ?_)
              · refine vc_iincE dX0_tries_76 rfl (by omega) (by omega) (Nat.le_of_ble_eq_true rfl) rfl (show _ = [some (aR 46), some (aI v), some (aI n), some (aI s), some (aI 0), some (aI (v5 + 1)), some (aI x4)] from rfl) ?_
                refine vc_goto dX0_tries_79 ?_
                refine vc_less [some (aR 46), some (aI v), some (aI n), some (aI s), some (aI 0), some (aI (v5 + 1)), none] (lessL_keep (lessL_keep (lessL_keep (lessL_keep (lessL_keep (lessL_keep (lessL_drop (lessL_nil)))))))) ?_
                exact ih17 M7 (v5 + 1) hB11 (by omega) (by omega) (by omega)
              · refine vc_iload dX0_tries_57 rfl ?_
                refine vc_if_ne dX0_tries_59 (fun h13 => by exfalso; omega) (fun h13 => ?_)
                refine vc_aload_n dX0_tries_62 rfl ?_
                refine vc_iload_n dX0_tries_63 rfl ?_
                refine vc_iconst dX0_tries_64 rfl ?_
                refine vc_iaddE dX0_tries_65 (by omega) (by omega) ?_
                refine vc_iload_n dX0_tries_66 rfl ?_
                refine vc_iload_n dX0_tries_67 rfl ?_
                refine vc_cVI dX0_tries_68 (ih (M := M7) hB11.1  (v + 1) n s (by omega) (by omega) (by omega)) rfl (okX0_tries (16 + nf)) (viX0_tries (16 + nf)) (lkX0_35 (16 + nf)) (s_46 hB11.1.1) cl_0 rfl (by show (16 + nf) < 16 + (nf + 1); omega) ⟨rfl, rfl⟩ (Nat.le_of_ble_eq_true rfl) (Nat.le_of_ble_eq_true rfl) (Nat.le_of_ble_eq_true rfl) ?_
                rintro x14 M15 ⟨hB16, h17, h18⟩
                have hB19 : BF fQ M M15 := BF.go hB11 hB16
                refine vc_if_eq dX0_tries_71 (fun h20 => ?_) (fun h20 => ?_)
                · refine vc_iincE dX0_tries_76 rfl (by omega) (by omega) (Nat.le_of_ble_eq_true rfl) rfl (show _ = [some (aR 46), some (aI v), some (aI n), some (aI s), some (aI 0), some (aI (v5 + 1)), some (aI x4)] from rfl) ?_
                  refine vc_goto dX0_tries_79 ?_
                  refine vc_less [some (aR 46), some (aI v), some (aI n), some (aI s), some (aI 0), some (aI (v5 + 1)), none] (lessL_keep (lessL_keep (lessL_keep (lessL_keep (lessL_keep (lessL_keep (lessL_drop (lessL_nil)))))))) ?_
                  exact ih17 M15 (v5 + 1) hB19 (by omega) (by omega) (by omega)
                · refine vc_iconst dX0_tries_74 rfl ?_
                  refine vc_zret dX0_tries_75 rfl (by first | decide | omega) (Nat.le_of_ble_eq_true rfl) (Nat.le_of_ble_eq_true rfl) ?_
                  exact ⟨_, rfl, hB19, by omega, by omega⟩
      exact lp17 _ M 0 hB0 (by omega) (by omega) (Nat.lt_succ_self _)
    · refine vc_iconst dX0_tries_7 rfl ?_
      refine vc_goto dX0_tries_8 ?_
      refine vc_istore dX0_tries_12 (Nat.le_of_ble_eq_true rfl) rfl (show _ = [some (aR 46), some (aI v), some (aI n), some (aI s), some (aI 1), none, none] from rfl) ?_
      refine vc_iconst dX0_tries_14 rfl ?_
      refine vc_istore dX0_tries_15 (Nat.le_of_ble_eq_true rfl) rfl (show _ = [some (aR 46), some (aI v), some (aI n), some (aI s), some (aI 1), some (aI 0), none] from rfl) ?_
      have lp17 : ∀ (n17 : Nat) (Mq17 : Mem) (v5 : Int), (BF fQ M Mq17) → (0 ≤ v5) → (v5 ≤ 27) → (27 - v5).toNat < n17 → VC l (mdX0_tries (16 + (nf + 1))) 17 [some (aR 46), some (aI v), some (aI n), some (aI s), some (aI 1), some (aI v5), none] [] Mq17 0 0 (fun q N => ∃ r : Int, q = some (aI r) ∧ BF fQ M N ∧ 0 ≤ r ∧ r ≤ 1) := by
        intro n17
        induction n17 with
        | zero => intro Mq17 v5 hQ17 g17_5a g17_5b hm17; exact absurd hm17 (Nat.not_lt_zero _)
        | succ n17 ih17 =>
          intro Mq17 v5 hQ17 g17_5a g17_5b hm17
          refine vc_iload dX0_tries_17 rfl ?_
          refine vc_bipush dX0_tries_19 rfl ?_
          refine vc_icmp_ge dX0_tries_21 (fun h21 => ?_) (fun h21 => ?_)
          · refine vc_iconst dX0_tries_82 rfl ?_
            refine vc_zret dX0_tries_83 rfl (by first | decide | omega) (Nat.le_of_ble_eq_true rfl) (Nat.le_of_ble_eq_true rfl) ?_
            exact ⟨_, rfl, hQ17, by omega, by omega⟩
          · refine vc_iload_n dX0_tries_24 rfl ?_
            refine vc_iconst dX0_tries_25 rfl ?_
            refine vc_icmp_ge dX0_tries_26 (fun h22 => ?_) (fun h22 => ?_)
            · refine vc_iconst dX0_tries_82 rfl ?_
              refine vc_zret dX0_tries_83 rfl (by first | decide | omega) (Nat.le_of_ble_eq_true rfl) (Nat.le_of_ble_eq_true rfl) ?_
              exact ⟨_, rfl, hQ17, by omega, by omega⟩
            · refine vc_iload dX0_tries_29 rfl ?_
              refine vc_cSI dX0_tries_31 (sfX0_turnOfKind (M := Mq17) hQ17.1  v5 ) rfl okX0_turnOfKind stX0_turnOfKind lkX0_39 rfl (by show 0 < 16 + (nf + 1); omega) ⟨rfl, rfl⟩ (Nat.le_of_ble_eq_true rfl) (Nat.le_of_ble_eq_true rfl) (Nat.le_of_ble_eq_true rfl) ?_
              rintro x23 _ rfl
              refine vc_istore dX0_tries_34 (Nat.le_of_ble_eq_true rfl) rfl (show _ = [some (aR 46), some (aI v), some (aI n), some (aI s), some (aI 1), some (aI v5), some (aI x23)] from rfl) ?_
              refine vc_aload_n dX0_tries_36 rfl ?_
              refine vc_getR dX0_tries_37 flX0_26 (s_46 hQ17.1.1) rfl (r_46_4 hQ17.1.1) ?_
              refine vc_iload_n dX0_tries_40 rfl ?_
              refine vc_iload dX0_tries_41 rfl ?_
              refine vc_iastore dX0_tries_43 (s_49 hQ17.1.1) (by omega) (by omega) ?_
              have hB24 : BF fQ M (sI Mq17 49 v.toNat x23) := BF.w49 hQ17 (fun _ => rfl) _
              refine vc_aload_n dX0_tries_44 rfl ?_
              refine vc_iload_n dX0_tries_45 rfl ?_
              refine vc_iload dX0_tries_46 rfl ?_
              refine vc_iload_n dX0_tries_48 rfl ?_
              refine vc_iload dX0_tries_49 rfl ?_
              refine vc_cVI dX0_tries_51 (sfX0_allGo (M := (sI Mq17 49 v.toNat x23)) hB24.1  v x23 s 1 (by omega) (by omega)) rfl okX0_allGo viX0_allGo lkX0_43 (s_46 hB24.1.1) cl_0 rfl (by show 4 < 16 + (nf + 1); omega) ⟨rfl, rfl⟩ (Nat.le_of_ble_eq_true rfl) (Nat.le_of_ble_eq_true rfl) (Nat.le_of_ble_eq_true rfl) ?_
              rintro x25 M26 ⟨hB27, h28, h29⟩
              have hB30 : BF fQ M M26 := BF.go hB24 hB27
              refine vc_if_eq dX0_tries_54 (fun h31 => ?_) (fun h31 => ?_)
              · refine vc_iincE dX0_tries_76 rfl (by omega) (by omega) (Nat.le_of_ble_eq_true rfl) rfl (show _ = [some (aR 46), some (aI v), some (aI n), some (aI s), some (aI 1), some (aI (v5 + 1)), some (aI x23)] from rfl) ?_
                refine vc_goto dX0_tries_79 ?_
                refine vc_less [some (aR 46), some (aI v), some (aI n), some (aI s), some (aI 1), some (aI (v5 + 1)), none] (lessL_keep (lessL_keep (lessL_keep (lessL_keep (lessL_keep (lessL_keep (lessL_drop (lessL_nil)))))))) ?_
                exact ih17 M26 (v5 + 1) hB30 (by omega) (by omega) (by omega)
              · refine vc_iload dX0_tries_57 rfl ?_
                refine vc_if_ne dX0_tries_59 (fun h32 => ?_) (fun h32 => by exfalso; omega)
                refine vc_iconst dX0_tries_74 rfl ?_
                refine vc_zret dX0_tries_75 rfl (by first | decide | omega) (Nat.le_of_ble_eq_true rfl) (Nat.le_of_ble_eq_true rfl) ?_
                exact ⟨_, rfl, hB30, by omega, by omega⟩
      exact lp17 _ M 0 hB0 (by omega) (by omega) (Nat.lt_succ_self _)

set_option maxRecDepth 4000 in
theorem sfX0_find {l : Launch} {M : Mem} (hB : Box M)  (c : Int) (f : Int) (s : Int) (p0 : 0 ≤ c) (p1 : c ≤ 15) (p2 : 0 ≤ f) (p3 : f ≤ 3) : Call l mdX0_find [aR 46, aI c, aI f, aI s] M (fun q N => ∃ r : Int, q = some (aI r) ∧ BF fQ M N) := by
  have hB0 : BF fQ M M := BF.start hB
  refine Call.of [some (aR 46), some (aI c), some (aI f), some (aI s), none] rfl (Nat.le_of_ble_eq_true rfl) rfl ?_
  refine vc_ok (fun hoM hoS hoL => ?_)
  have hr3 : -2147483648 ≤ s ∧ s < 2147483648 := hoL 3 _ rfl
  refine vc_aload_n dX0_find_0 rfl ?_
  refine vc_getR dX0_find_1 flX0_19 (s_46 hB0.1.1) rfl (r_46_2 hB0.1.1) ?_
  refine vc_bipush dX0_find_4 rfl ?_
  refine vc_cSU dX0_find_6 (sfJ7_fill_53178_47 (M := M) hB0.1  (-2) ) rfl okJ7_fill_53178 stJ7_fill_53178 lkX0_29 rfl (Nat.le_of_ble_eq_true rfl) ⟨rfl, rfl⟩ (Nat.le_of_ble_eq_true rfl) (Nat.le_of_ble_eq_true rfl) (Nat.le_of_ble_eq_true rfl) ?_
  rintro M1 ⟨hB2, kp3, kp4⟩
  have hB5 : BF fQ M M1 := BF.go hB0 hB2
  refine vc_iconst dX0_find_9 rfl ?_
  refine vc_istore dX0_find_10 (by decide) rfl (show _ = [some (aR 46), some (aI c), some (aI f), some (aI s), some (aI 0)] from rfl) ?_
  have lp12 : ∀ (n12 : Nat) (Mq12 : Mem) (v4 : Int), (BF fQ M Mq12) → (0 ≤ v4) → (v4 ≤ 8) → (8 - v4).toNat < n12 → VC l mdX0_find 12 [some (aR 46), some (aI c), some (aI f), some (aI s), some (aI v4)] [] Mq12 0 0 (fun q N => ∃ r : Int, q = some (aI r) ∧ BF fQ M N) := by
    intro n12
    induction n12 with
    | zero => intro Mq12 v4 hQ12 g12_4a g12_4b hm12; exact absurd hm12 (Nat.not_lt_zero _)
    | succ n12 ih12 =>
      intro Mq12 v4 hQ12 g12_4a g12_4b hm12
      refine vc_iload dX0_find_12 rfl ?_
      refine vc_bipush dX0_find_14 rfl ?_
      refine vc_icmp_ge dX0_find_16 (fun h6 => ?_) (fun h6 => ?_)
      · refine vc_iconst dX0_find_37 rfl ?_
        refine vc_istore dX0_find_38 (by decide) rfl (show _ = [some (aR 46), some (aI c), some (aI f), some (aI s), some (aI 1)] from rfl) ?_
        have lp40 : ∀ (n40 : Nat) (Mq40 : Mem) (v4i : Int), (BF fQ M Mq40) → (1 ≤ v4i) → (v4i ≤ 4) → (4 - v4i).toNat < n40 → VC l mdX0_find 40 [some (aR 46), none, none, some (aI s), some (aI v4i)] [] Mq40 0 0 (fun q N => ∃ r : Int, q = some (aI r) ∧ BF fQ M N) := by
          intro n40
          induction n40 with
          | zero => intro Mq40 v4i hQ40 g40_4a g40_4b hm40; exact absurd hm40 (Nat.not_lt_zero _)
          | succ n40 ih40 =>
            intro Mq40 v4i hQ40 g40_4a g40_4b hm40
            refine vc_iload dX0_find_40 rfl ?_
            refine vc_iconst dX0_find_42 rfl ?_
            refine vc_icmp_gt dX0_find_43 (fun h7 => ?_) (fun h7 => ?_)
            · refine vc_iconst dX0_find_66 rfl ?_
              refine vc_iret dX0_find_67 rfl (Nat.le_of_ble_eq_true rfl) (Nat.le_of_ble_eq_true rfl) ?_
              exact ⟨_, rfl, hQ40⟩
            · refine vc_aload_n dX0_find_46 rfl ?_
              refine vc_iconst dX0_find_47 rfl ?_
              refine vc_iload dX0_find_48 rfl ?_
              refine vc_iload_n dX0_find_50 rfl ?_
              refine vc_cVI dX0_find_51 (sfX0_tries 4 (M := Mq40) hQ40.1  0 v4i s (by omega) (by omega) (by omega)) rfl (okX0_tries (16 + 4)) (viX0_tries (16 + 4)) (lkX0_35 (16 + 4)) (s_46 hQ40.1.1) cl_0 rfl (Nat.le_of_ble_eq_true rfl) ⟨rfl, rfl⟩ (Nat.le_of_ble_eq_true rfl) (Nat.le_of_ble_eq_true rfl) (Nat.le_of_ble_eq_true rfl) ?_
              rintro x8 M9 ⟨hB10, h11, h12⟩
              have hB13 : BF fQ M M9 := BF.go hQ40 hB10
              refine vc_if_eq dX0_find_54 (fun h14 => ?_) (fun h14 => ?_)
              · refine vc_iincE dX0_find_60 rfl (by omega) (by omega) (by decide) rfl (show _ = [some (aR 46), none, none, some (aI s), some (aI (v4i + 1))] from rfl) ?_
                refine vc_goto dX0_find_63 ?_
                exact ih40 M9 (v4i + 1) hB13 (by omega) (by omega) (by omega)
              · refine vc_iload dX0_find_57 rfl ?_
                refine vc_iret dX0_find_59 rfl (Nat.le_of_ble_eq_true rfl) (Nat.le_of_ble_eq_true rfl) ?_
                exact ⟨_, rfl, hB13⟩
        refine vc_less [some (aR 46), none, none, some (aI s), some (aI 1)] (lessL_keep (lessL_drop (lessL_drop (lessL_keep (lessL_keep (lessL_nil)))))) ?_
        exact lp40 _ Mq12 1 hQ12 (by omega) (by omega) (Nat.lt_succ_self _)
      · refine vc_aload_n dX0_find_19 rfl ?_
        refine vc_getR dX0_find_20 flX0_23 (s_46 hQ12.1.1) rfl (r_46_3 hQ12.1.1) ?_
        refine vc_iload dX0_find_23 rfl ?_
        refine vc_iconst dX0_find_25 rfl ?_
        refine vc_iload_n dX0_find_26 rfl ?_
        refine vc_imulE dX0_find_27 (by omega) (by omega) ?_
        refine vc_iload_n dX0_find_28 rfl ?_
        refine vc_iaddE dX0_find_29 (by omega) (by omega) ?_
        refine vc_iastore dX0_find_30 (s_48 hQ12.1.1) (by omega) (by omega) ?_
        have hB15 : BF fQ M (sI Mq12 48 v4.toNat ((4 * c) + f)) := BF.w48 hQ12 (fun _ => rfl) _
        refine vc_iincE dX0_find_31 rfl (by omega) (by omega) (by decide) rfl (show _ = [some (aR 46), some (aI c), some (aI f), some (aI s), some (aI (v4 + 1))] from rfl) ?_
        refine vc_goto dX0_find_34 ?_
        exact ih12 (sI Mq12 48 v4.toNat ((4 * c) + f)) (v4 + 1) hB15 (by omega) (by omega) (by omega)
  exact lp12 _ M1 0 hB5 (by omega) (by omega) (Nat.lt_succ_self _)

