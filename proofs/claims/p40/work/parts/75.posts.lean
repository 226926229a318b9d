/-! CONTRACTS of Finder, Posts (written by wip/p35/c75.py) -/
set_option maxRecDepth 4000 in
theorem sfX0_turnOfKind {l : Launch} {M : Mem} (hB : Box M)  (k : Int)  : Call l mdX0_turnOfKind [aI k] M (fun q N => ∃ r : Int, q = some (aI r) ∧ M = N) := by
  have hB0 : BF fQ M M := BF.start hB
  refine Call.of [some (aI k), none] rfl (Nat.le_of_ble_eq_true rfl) rfl ?_
  refine vc_ok (fun hoM hoS hoL => ?_)
  have hr0 : -2147483648 ≤ k ∧ k < 2147483648 := hoL 0 _ rfl
  refine vc_iload_n dX0_turnOfKind_0 rfl ?_
  refine vc_bipush dX0_turnOfKind_1 rfl ?_
  refine vc_irem dX0_turnOfKind_3 (by omega) ?_
  refine vc_iconst dX0_turnOfKind_4 rfl ?_
  refine vc_iadd dX0_turnOfKind_5 ?_
  refine vc_nameI (fun x1 ex1 => ?_)
  refine vc_istore_n dX0_turnOfKind_6 (by decide) rfl (show _ = [some (aI k), some (aI x1)] from rfl) ?_
  refine vc_bipush dX0_turnOfKind_7 rfl ?_
  refine vc_iload_n dX0_turnOfKind_9 rfl ?_
  refine vc_bipush dX0_turnOfKind_10 rfl ?_
  refine vc_idiv dX0_turnOfKind_12 (by omega) ?_
  refine vc_iconst dX0_turnOfKind_13 rfl ?_
  refine vc_iadd dX0_turnOfKind_14 ?_
  refine vc_imul dX0_turnOfKind_15 ?_
  refine vc_iload_n dX0_turnOfKind_16 rfl ?_
  refine vc_iconst dX0_turnOfKind_17 rfl ?_
  refine vc_icmp_gt dX0_turnOfKind_18 (fun h2 => ?_) (fun h2 => ?_)
  · refine vc_bipush dX0_turnOfKind_25 rfl ?_
    refine vc_iload_n dX0_turnOfKind_27 rfl ?_
    refine vc_iadd dX0_turnOfKind_28 ?_
    refine vc_iconst dX0_turnOfKind_29 rfl ?_
    refine vc_isub dX0_turnOfKind_30 ?_
    refine vc_iadd dX0_turnOfKind_31 ?_
    refine vc_iret dX0_turnOfKind_32 rfl (Nat.le_of_ble_eq_true rfl) (Nat.le_of_ble_eq_true rfl) ?_
    exact ⟨_, rfl, rfl⟩
  · refine vc_iload_n dX0_turnOfKind_21 rfl ?_
    refine vc_goto dX0_turnOfKind_22 ?_
    refine vc_iadd dX0_turnOfKind_31 ?_
    refine vc_iret dX0_turnOfKind_32 rfl (Nat.le_of_ble_eq_true rfl) (Nat.le_of_ble_eq_true rfl) ?_
    exact ⟨_, rfl, rfl⟩

set_option maxRecDepth 4000 in
theorem sfX0_kindOfTurn {l : Launch} {M : Mem} (hB : Box M)  (t : Int)  : Call l mdX0_kindOfTurn [aI t] M (fun q N => ∃ r : Int, q = some (aI r) ∧ M = N) := by
  have hB0 : BF fQ M M := BF.start hB
  refine Call.of [some (aI t), none] rfl (Nat.le_of_ble_eq_true rfl) rfl ?_
  refine vc_ok (fun hoM hoS hoL => ?_)
  have hr0 : -2147483648 ≤ t ∧ t < 2147483648 := hoL 0 _ rfl
  refine vc_iload_n dX0_kindOfTurn_0 rfl ?_
  refine vc_bipush dX0_kindOfTurn_1 rfl ?_
  refine vc_irem dX0_kindOfTurn_3 (by omega) ?_
  refine vc_iload_n dX0_kindOfTurn_4 rfl ?_
  refine vc_bipush dX0_kindOfTurn_5 rfl ?_
  refine vc_idiv dX0_kindOfTurn_7 (by omega) ?_
  refine vc_bipush dX0_kindOfTurn_8 rfl ?_
  refine vc_irem dX0_kindOfTurn_10 (by omega) ?_
  refine vc_if_ne dX0_kindOfTurn_11 (fun h1 => ?_) (fun h1 => ?_)
  · refine vc_iconst dX0_kindOfTurn_18 rfl ?_
    refine vc_iadd dX0_kindOfTurn_19 ?_
    refine vc_nameI (fun x2 ex2 => ?_)
    refine vc_istore_n dX0_kindOfTurn_20 (by decide) rfl (show _ = [some (aI t), some (aI x2)] from rfl) ?_
    refine vc_bipush dX0_kindOfTurn_21 rfl ?_
    refine vc_iload_n dX0_kindOfTurn_23 rfl ?_
    refine vc_bipush dX0_kindOfTurn_24 rfl ?_
    refine vc_idiv dX0_kindOfTurn_26 (by omega) ?_
    refine vc_iconst dX0_kindOfTurn_27 rfl ?_
    refine vc_isub dX0_kindOfTurn_28 ?_
    refine vc_imul dX0_kindOfTurn_29 ?_
    refine vc_iload_n dX0_kindOfTurn_30 rfl ?_
    refine vc_iadd dX0_kindOfTurn_31 ?_
    refine vc_iconst dX0_kindOfTurn_32 rfl ?_
    refine vc_isub dX0_kindOfTurn_33 ?_
    refine vc_iret dX0_kindOfTurn_34 rfl (Nat.le_of_ble_eq_true rfl) (Nat.le_of_ble_eq_true rfl) ?_
    exact ⟨_, rfl, rfl⟩
  · refine vc_iconst dX0_kindOfTurn_14 rfl ?_
    refine vc_goto dX0_kindOfTurn_15 ?_
    refine vc_iadd dX0_kindOfTurn_19 ?_
    refine vc_nameI (fun x3 ex3 => ?_)
    refine vc_istore_n dX0_kindOfTurn_20 (by decide) rfl (show _ = [some (aI t), some (aI x3)] from rfl) ?_
    refine vc_bipush dX0_kindOfTurn_21 rfl ?_
    refine vc_iload_n dX0_kindOfTurn_23 rfl ?_
    refine vc_bipush dX0_kindOfTurn_24 rfl ?_
    refine vc_idiv dX0_kindOfTurn_26 (by omega) ?_
    refine vc_iconst dX0_kindOfTurn_27 rfl ?_
    refine vc_isub dX0_kindOfTurn_28 ?_
    refine vc_imul dX0_kindOfTurn_29 ?_
    refine vc_iload_n dX0_kindOfTurn_30 rfl ?_
    refine vc_iadd dX0_kindOfTurn_31 ?_
    refine vc_iconst dX0_kindOfTurn_32 rfl ?_
    refine vc_isub dX0_kindOfTurn_33 ?_
    refine vc_iret dX0_kindOfTurn_34 rfl (Nat.le_of_ble_eq_true rfl) (Nat.le_of_ble_eq_true rfl) ?_
    exact ⟨_, rfl, rfl⟩

set_option maxRecDepth 4000 in
theorem sfX0_after {l : Launch} {M : Mem} (hB : Box M)  (s : Int) (t : Int) (w : Int)  : Call l mdX0_after [aR 46, aI s, aI t, aI w] M (fun q N => ∃ r : Int, q = some (aI r) ∧ BF fQ M N) := by
  have hB0 : BF fQ M M := BF.start hB
  refine Call.of [some (aR 46), some (aI s), some (aI t), some (aI w), none, none, none] rfl (Nat.le_of_ble_eq_true rfl) rfl ?_
  refine vc_ok (fun hoM hoS hoL => ?_)
  have hr1 : -2147483648 ≤ s ∧ s < 2147483648 := hoL 1 _ rfl
  have hr2 : -2147483648 ≤ t ∧ t < 2147483648 := hoL 2 _ rfl
  have hr3 : -2147483648 ≤ w ∧ w < 2147483648 := hoL 3 _ rfl
  refine vc_iload_n dX0_after_0 rfl ?_
  refine vc_bipush dX0_after_1 rfl ?_
  refine vc_iandM dX0_after_3 64 6 rfl (by decide) rfl ?_
  refine vc_nameI (fun x1 ex1 => ?_)
  refine vc_istore dX0_after_4 (by decide) rfl (show _ = [some (aR 46), some (aI s), some (aI t), some (aI w), some (aI x1), none, none] from rfl) ?_
  refine vc_iload_n dX0_after_6 rfl ?_
  refine vc_iconst dX0_after_7 rfl ?_
  refine vc_iand dX0_after_8 ?_
  refine vc_nameI (fun x2 ex2 => ?_)
  refine vc_istore dX0_after_9 (by decide) rfl (show _ = [some (aR 46), some (aI s), some (aI t), some (aI w), some (aI x1), some (aI x2), none] from rfl) ?_
  refine vc_bipush dX0_after_11 rfl ?_
  refine vc_iload dX0_after_13 rfl ?_
  refine vc_imul dX0_after_15 ?_
  refine vc_iload dX0_after_16 rfl ?_
  refine vc_iadd dX0_after_18 ?_
  refine vc_bipush dX0_after_19 rfl ?_
  refine vc_imul dX0_after_21 ?_
  refine vc_iload_n dX0_after_22 rfl ?_
  refine vc_cSI dX0_after_23 (sfX0_kindOfTurn (M := M) hB0.1  t ) rfl okX0_kindOfTurn stX0_kindOfTurn lkX0_61 rfl (Nat.le_of_ble_eq_true rfl) ⟨rfl, rfl⟩ (Nat.le_of_ble_eq_true rfl) (Nat.le_of_ble_eq_true rfl) (Nat.le_of_ble_eq_true rfl) ?_
  rintro x3 _ rfl
  refine vc_iadd dX0_after_26 ?_
  refine vc_nameI (fun x4 ex4 => ?_)
  refine vc_istore dX0_after_27 (by decide) rfl (show _ = [some (aR 46), some (aI s), some (aI t), some (aI w), some (aI x1), some (aI x2), some (aI x4)] from rfl) ?_
  refine vc_iload dX0_after_29 rfl ?_
  refine vc_if_lt dX0_after_31 (fun h5 => ?_) (fun h5 => ?_)
  · refine vc_iconst dX0_after_44 rfl ?_
    refine vc_iret dX0_after_45 rfl (Nat.le_of_ble_eq_true rfl) (Nat.le_of_ble_eq_true rfl) ?_
    exact ⟨_, rfl, hB0⟩
  · refine vc_iload dX0_after_34 rfl ?_
    refine vc_aload_n dX0_after_36 rfl ?_
    refine vc_getR dX0_after_37 flX0_19 (s_46 hB0.1.1) rfl (r_46_2 hB0.1.1) ?_
    refine vc_alen dX0_after_40 (s_47 hB0.1.1) rfl ?_
    refine vc_topI 3456 rfl ?_
    refine vc_icmp_lt dX0_after_41 (fun h6 => ?_) (fun h6 => ?_)
    · refine vc_aload_n dX0_after_46 rfl ?_
      refine vc_getR dX0_after_47 flX0_19 (s_46 hB0.1.1) rfl (r_46_2 hB0.1.1) ?_
      refine vc_iload dX0_after_50 rfl ?_
      refine vc_iaload dX0_after_52 (s_47 hB0.1.1) (by omega) (by omega) ?_
      refine vc_bipush dX0_after_53 rfl ?_
      refine vc_icmp_ne dX0_after_55 (fun h7 => ?_) (fun h7 => ?_)
      · refine vc_aload_n dX0_after_125 rfl ?_
        refine vc_getR dX0_after_126 flX0_19 (s_46 hB0.1.1) rfl (r_46_2 hB0.1.1) ?_
        refine vc_iload dX0_after_129 rfl ?_
        refine vc_iaload dX0_after_131 (s_47 hB0.1.1) (by omega) (by omega) ?_
        refine vc_iconst dX0_after_132 rfl ?_
        refine vc_icmp_eq dX0_after_133 (fun h8 => ?_) (fun h8 => ?_)
        · refine vc_iconst dX0_after_156 rfl ?_
          refine vc_iret dX0_after_157 rfl (Nat.le_of_ble_eq_true rfl) (Nat.le_of_ble_eq_true rfl) ?_
          exact ⟨_, rfl, hB0⟩
        · refine vc_iload_n dX0_after_136 rfl ?_
          refine vc_bipush dX0_after_137 rfl ?_
          refine vc_ishrC dX0_after_139 64 6 rfl (by decide) rfl ?_
          refine vc_aload_n dX0_after_140 rfl ?_
          refine vc_getR dX0_after_141 flX0_19 (s_46 hB0.1.1) rfl (r_46_2 hB0.1.1) ?_
          refine vc_iload dX0_after_144 rfl ?_
          refine vc_iaload dX0_after_146 (s_47 hB0.1.1) (by omega) (by omega) ?_
          refine vc_bipush dX0_after_147 rfl ?_
          refine vc_ishrC dX0_after_149 64 6 rfl (by decide) rfl ?_
          refine vc_iadd dX0_after_150 ?_
          refine vc_bipush dX0_after_151 rfl ?_
          refine vc_icmp_le dX0_after_153 (fun h9 => ?_) (fun h9 => ?_)
          · refine vc_iload_n dX0_after_158 rfl ?_
            refine vc_iload dX0_after_159 rfl ?_
            refine vc_isub dX0_after_161 ?_
            refine vc_aload_n dX0_after_162 rfl ?_
            refine vc_getR dX0_after_163 flX0_19 (s_46 hB0.1.1) rfl (r_46_2 hB0.1.1) ?_
            refine vc_iload dX0_after_166 rfl ?_
            refine vc_iaload dX0_after_168 (s_47 hB0.1.1) (by omega) (by omega) ?_
            refine vc_iadd dX0_after_169 ?_
            refine vc_iret dX0_after_170 rfl (Nat.le_of_ble_eq_true rfl) (Nat.le_of_ble_eq_true rfl) ?_
            exact ⟨_, rfl, hB0⟩
          · refine vc_iconst dX0_after_156 rfl ?_
            refine vc_iret dX0_after_157 rfl (Nat.le_of_ble_eq_true rfl) (Nat.le_of_ble_eq_true rfl) ?_
            exact ⟨_, rfl, hB0⟩
      · refine vc_aload_n dX0_after_58 rfl ?_
        refine vc_getR dX0_after_59 flX0_15 (s_46 hB0.1.1) rfl (r_46_1 hB0.1.1) ?_
        refine vc_iload dX0_after_62 rfl ?_
        refine vc_iconst dX0_after_64 rfl ?_
        refine vc_ishrC dX0_after_65 4 2 rfl (by decide) rfl ?_
        refine vc_iload dX0_after_66 rfl ?_
        refine vc_iconst dX0_after_68 rfl ?_
        refine vc_iandM dX0_after_69 4 2 rfl (by decide) rfl ?_
        refine vc_cVU dX0_after_70 (sfX1_setOut (M := M) hB0.1  (x1 / 4) (x1 % 4) ) rfl okX1_setOut viX1_setOut lkX0_64 (s_32 hB0.1.1) cl_1 rfl (Nat.le_of_ble_eq_true rfl) ⟨rfl, rfl⟩ (Nat.le_of_ble_eq_true rfl) (Nat.le_of_ble_eq_true rfl) (Nat.le_of_ble_eq_true rfl) ?_
        rintro M10 hB11
        have hB12 : BF fQ M M10 := BF.go hB0 hB11.sq
        refine vc_aload_n dX0_after_73 rfl ?_
        refine vc_getR dX0_after_74 flX0_19 (s_46 hB12.1.1) rfl (r_46_2 hB12.1.1) ?_
        refine vc_iload dX0_after_77 rfl ?_
        refine vc_aload_n dX0_after_79 rfl ?_
        refine vc_getR dX0_after_80 flX0_15 (s_46 hB12.1.1) rfl (r_46_1 hB12.1.1) ?_
        refine vc_iload_n dX0_after_83 rfl ?_
        refine vc_iload dX0_after_84 rfl ?_
        refine vc_cVI dX0_after_86 (sfX1_takes (M := M10) hB12.1  t x2 ) rfl okX1_takes viX1_takes lkX0_68 (s_32 hB12.1.1) cl_1 rfl (Nat.le_of_ble_eq_true rfl) ⟨rfl, rfl⟩ (Nat.le_of_ble_eq_true rfl) (Nat.le_of_ble_eq_true rfl) (Nat.le_of_ble_eq_true rfl) ?_
        rintro x13 M14 ⟨hB15, h16, h17⟩
        have hB18 : BF fQ M M14 := BF.go hB12 hB15.sq
        refine vc_if_eq dX0_after_89 (fun h19 => ?_) (fun h19 => ?_)
        · refine vc_iconst dX0_after_123 rfl ?_
          refine vc_iastore dX0_after_124 (s_47 hB18.1.1) (by omega) (by omega) ?_
          have hB20 : BF fQ M (sI M14 47 x4.toNat (-1)) := BF.w47 hB18 (fun _ => rfl) _
          refine vc_aload_n dX0_after_125 rfl ?_
          refine vc_getR dX0_after_126 flX0_19 (s_46 hB20.1.1) rfl (r_46_2 hB20.1.1) ?_
          refine vc_iload dX0_after_129 rfl ?_
          refine vc_iaload dX0_after_131 (s_47 hB20.1.1) (by omega) (by omega) ?_
          refine vc_topI ((-1)) mI_same ?_
          refine vc_iconst dX0_after_132 rfl ?_
          refine vc_icmp_eq dX0_after_133 (fun h21 => ?_) (fun h21 => by exfalso; omega)
          refine vc_iconst dX0_after_156 rfl ?_
          refine vc_iret dX0_after_157 rfl (Nat.le_of_ble_eq_true rfl) (Nat.le_of_ble_eq_true rfl) ?_
          exact ⟨_, rfl, hB20⟩
        · refine vc_bipush dX0_after_92 rfl ?_
          refine vc_aload_n dX0_after_94 rfl ?_
          refine vc_getR dX0_after_95 flX0_15 (s_46 hB18.1.1) rfl (r_46_1 hB18.1.1) ?_
          refine vc_getI dX0_after_98 flX0_72 (s_32 hB18.1.1) rfl ?_
          have k22 : 0 ≤ mI M14 32 4 ∧ mI M14 32 4 ≤ 40 := b32_4 (M := M14) hB18.1
          refine vc_imulE dX0_after_101 (by omega) (by omega) ?_
          refine vc_iconst dX0_after_102 rfl ?_
          refine vc_aload_n dX0_after_103 rfl ?_
          refine vc_getR dX0_after_104 flX0_15 (s_46 hB18.1.1) rfl (r_46_1 hB18.1.1) ?_
          refine vc_getI dX0_after_107 flX0_76 (s_32 hB18.1.1) rfl ?_
          refine vc_imul dX0_after_110 ?_
          refine vc_iadd dX0_after_111 ?_
          refine vc_aload_n dX0_after_112 rfl ?_
          refine vc_getR dX0_after_113 flX0_15 (s_46 hB18.1.1) rfl (r_46_1 hB18.1.1) ?_
          refine vc_getI dX0_after_116 flX0_79 (s_32 hB18.1.1) rfl ?_
          refine vc_iadd dX0_after_119 ?_
          refine vc_goto dX0_after_120 ?_
          refine vc_iastore dX0_after_124 (s_47 hB18.1.1) (by omega) (by omega) ?_
          have hB23 : BF fQ M (sI M14 47 x4.toNat (wI ((wI ((64 * (mI M14 32 4)) + (wI (4 * (mI M14 32 2))))) + (mI M14 32 3)))) := BF.w47 hB18 (fun _ => rfl) _
          refine vc_aload_n dX0_after_125 rfl ?_
          refine vc_getR dX0_after_126 flX0_19 (s_46 hB23.1.1) rfl (r_46_2 hB23.1.1) ?_
          refine vc_iload dX0_after_129 rfl ?_
          refine vc_iaload dX0_after_131 (s_47 hB23.1.1) (by omega) (by omega) ?_
          refine vc_topI (wI ((wI ((64 * (mI M14 32 4)) + (wI (4 * (mI M14 32 2))))) + (mI M14 32 3))) mI_same ?_
          refine vc_iconst dX0_after_132 rfl ?_
          refine vc_icmp_eq dX0_after_133 (fun h24 => ?_) (fun h24 => ?_)
          · refine vc_iconst dX0_after_156 rfl ?_
            refine vc_iret dX0_after_157 rfl (Nat.le_of_ble_eq_true rfl) (Nat.le_of_ble_eq_true rfl) ?_
            exact ⟨_, rfl, hB23⟩
          · refine vc_iload_n dX0_after_136 rfl ?_
            refine vc_bipush dX0_after_137 rfl ?_
            refine vc_ishrC dX0_after_139 64 6 rfl (by decide) rfl ?_
            refine vc_aload_n dX0_after_140 rfl ?_
            refine vc_getR dX0_after_141 flX0_19 (s_46 hB23.1.1) rfl (r_46_2 hB23.1.1) ?_
            refine vc_iload dX0_after_144 rfl ?_
            refine vc_iaload dX0_after_146 (s_47 hB23.1.1) (by omega) (by omega) ?_
            refine vc_topI (wI ((wI ((64 * (mI M14 32 4)) + (wI (4 * (mI M14 32 2))))) + (mI M14 32 3))) mI_same ?_
            refine vc_bipush dX0_after_147 rfl ?_
            refine vc_ishrC dX0_after_149 64 6 rfl (by decide) rfl ?_
            refine vc_iadd dX0_after_150 ?_
            refine vc_bipush dX0_after_151 rfl ?_
            refine vc_icmp_le dX0_after_153 (fun h25 => ?_) (fun h25 => ?_)
            · refine vc_iload_n dX0_after_158 rfl ?_
              refine vc_iload dX0_after_159 rfl ?_
              refine vc_isub dX0_after_161 ?_
              refine vc_aload_n dX0_after_162 rfl ?_
              refine vc_getR dX0_after_163 flX0_19 (s_46 hB23.1.1) rfl (r_46_2 hB23.1.1) ?_
              refine vc_iload dX0_after_166 rfl ?_
              refine vc_iaload dX0_after_168 (s_47 hB23.1.1) (by omega) (by omega) ?_
              refine vc_topI (wI ((wI ((64 * (mI M14 32 4)) + (wI (4 * (mI M14 32 2))))) + (mI M14 32 3))) mI_same ?_
              refine vc_iadd dX0_after_169 ?_
              refine vc_iret dX0_after_170 rfl (Nat.le_of_ble_eq_true rfl) (Nat.le_of_ble_eq_true rfl) ?_
              exact ⟨_, rfl, hB23⟩
            · refine vc_iconst dX0_after_156 rfl ?_
              refine vc_iret dX0_after_157 rfl (Nat.le_of_ble_eq_true rfl) (Nat.le_of_ble_eq_true rfl) ?_
              exact ⟨_, rfl, hB23⟩
    · refine vc_iconst dX0_after_44 rfl ?_
      refine vc_iret dX0_after_45 rfl (Nat.le_of_ble_eq_true rfl) (Nat.le_of_ble_eq_true rfl) ?_
      exact ⟨_, rfl, hB0⟩

set_option maxRecDepth 4000 in
theorem sfX0_endsAtGoal {l : Launch} {M : Mem} (hB : Box M)  (s : Int) (o : Int)  : Call l mdX0_endsAtGoal [aR 46, aI s, aI o] M (fun q N => ∃ r : Int, q = some (aI r) ∧ M = N ∧ 0 ≤ r ∧ r ≤ 1) := by
  have hB0 : BF fQ M M := BF.start hB
  refine Call.of [some (aR 46), some (aI s), some (aI o), none] rfl (Nat.le_of_ble_eq_true rfl) rfl ?_
  refine vc_ok (fun hoM hoS hoL => ?_)
  have hr1 : -2147483648 ≤ s ∧ s < 2147483648 := hoL 1 _ rfl
  have hr2 : -2147483648 ≤ o ∧ o < 2147483648 := hoL 2 _ rfl
  refine vc_iload_n dX0_endsAtGoal_0 rfl ?_
  refine vc_iconst dX0_endsAtGoal_1 rfl ?_
  refine vc_ishrC dX0_endsAtGoal_2 4 2 rfl (by decide) rfl ?_
  refine vc_bipush dX0_endsAtGoal_3 rfl ?_
  refine vc_iandM dX0_endsAtGoal_5 16 4 rfl (by decide) rfl ?_
  refine vc_nameI (fun x1 ex1 => ?_)
  refine vc_istore_n dX0_endsAtGoal_6 (by decide) rfl (show _ = [some (aR 46), some (aI s), some (aI o), some (aI x1)] from rfl) ?_
  refine vc_iload_n dX0_endsAtGoal_7 rfl ?_
  refine vc_if_ne dX0_endsAtGoal_8 (fun h2 => ?_) (fun h2 => ?_)
  · refine vc_iload_n dX0_endsAtGoal_28 rfl ?_
    refine vc_bipush dX0_endsAtGoal_29 rfl ?_
    refine vc_ishrC dX0_endsAtGoal_31 64 6 rfl (by decide) rfl ?_
    refine vc_bipush dX0_endsAtGoal_32 rfl ?_
    refine vc_icmp_ge dX0_endsAtGoal_34 (fun h3 => ?_) (fun h3 => ?_)
    · refine vc_iconst dX0_endsAtGoal_62 rfl ?_
      refine vc_zret dX0_endsAtGoal_63 rfl (by first | decide | omega) (Nat.le_of_ble_eq_true rfl) (Nat.le_of_ble_eq_true rfl) ?_
      exact ⟨_, rfl, rfl, by omega, by omega⟩
    · refine vc_aload_n dX0_endsAtGoal_37 rfl ?_
      refine vc_getR dX0_endsAtGoal_38 flX0_9 (s_46 hB0.1.1) rfl (r_46_0 hB0.1.1) ?_
      refine vc_iload_n dX0_endsAtGoal_41 rfl ?_
      refine vc_iload_n dX0_endsAtGoal_42 rfl ?_
      refine vc_iconst dX0_endsAtGoal_43 rfl ?_
      refine vc_iandM dX0_endsAtGoal_44 4 2 rfl (by decide) rfl ?_
      refine vc_cVI dX0_endsAtGoal_45 (sfX6_ahead (M := M) hB0.1  x1 (s % 4) ) rfl okX6_ahead viX6_ahead lkX0_87 (s_1 hB0.1.1) cl_6 rfl (Nat.le_of_ble_eq_true rfl) ⟨rfl, rfl⟩ (Nat.le_of_ble_eq_true rfl) (Nat.le_of_ble_eq_true rfl) (Nat.le_of_ble_eq_true rfl) ?_
      rintro x4 _ ⟨rfl, h5, h6, h7, h8⟩
      refine vc_aload_n dX0_endsAtGoal_48 rfl ?_
      refine vc_getR dX0_endsAtGoal_49 flX0_9 (s_46 hB0.1.1) rfl (r_46_0 hB0.1.1) ?_
      refine vc_getI dX0_endsAtGoal_52 flX0_82 (s_1 hB0.1.1) rfl ?_
      have k9 : (-1) ≤ mI M 1 7 ∧ mI M 1 7 ≤ 15 := b1_7 (M := M) hB0.1
      refine vc_icmp_ne dX0_endsAtGoal_55 (fun h10 => ?_) (fun h10 => ?_)
      · refine vc_iconst dX0_endsAtGoal_62 rfl ?_
        refine vc_zret dX0_endsAtGoal_63 rfl (by first | decide | omega) (Nat.le_of_ble_eq_true rfl) (Nat.le_of_ble_eq_true rfl) ?_
        exact ⟨_, rfl, rfl, by omega, by omega⟩
      · refine vc_iconst dX0_endsAtGoal_58 rfl ?_
        refine vc_goto dX0_endsAtGoal_59 ?_
        refine vc_zret dX0_endsAtGoal_63 rfl (by first | decide | omega) (Nat.le_of_ble_eq_true rfl) (Nat.le_of_ble_eq_true rfl) ?_
        exact ⟨_, rfl, rfl, by omega, by omega⟩
  · refine vc_iload_n dX0_endsAtGoal_11 rfl ?_
    refine vc_aload_n dX0_endsAtGoal_12 rfl ?_
    refine vc_getR dX0_endsAtGoal_13 flX0_9 (s_46 hB0.1.1) rfl (r_46_0 hB0.1.1) ?_
    refine vc_getI dX0_endsAtGoal_16 flX0_82 (s_1 hB0.1.1) rfl ?_
    have k11 : (-1) ≤ mI M 1 7 ∧ mI M 1 7 ≤ 15 := b1_7 (M := M) hB0.1
    refine vc_icmp_ne dX0_endsAtGoal_19 (fun h12 => ?_) (fun h12 => ?_)
    · refine vc_iconst dX0_endsAtGoal_26 rfl ?_
      refine vc_zret dX0_endsAtGoal_27 rfl (by first | decide | omega) (Nat.le_of_ble_eq_true rfl) (Nat.le_of_ble_eq_true rfl) ?_
      exact ⟨_, rfl, rfl, by omega, by omega⟩
    · refine vc_iconst dX0_endsAtGoal_22 rfl ?_
      refine vc_goto dX0_endsAtGoal_23 ?_
      refine vc_zret dX0_endsAtGoal_27 rfl (by first | decide | omega) (Nat.le_of_ble_eq_true rfl) (Nat.le_of_ble_eq_true rfl) ?_
      exact ⟨_, rfl, rfl, by omega, by omega⟩

set_option maxRecDepth 4000 in
theorem sfX0_allGo {l : Launch} {M : Mem} (hB : Box M)  (v : Int) (t : Int) (s : Int) (la : Int) (p0 : 0 ≤ v) (p1 : v ≤ 2) : Call l mdX0_allGo [aR 46, aI v, aI t, aI s, aI la] M (fun q N => ∃ r : Int, q = some (aI r) ∧ BF fQ M N ∧ 0 ≤ r ∧ r ≤ 1) := by
  have hB0 : BF fQ M M := BF.start hB
  refine Call.of [some (aR 46), some (aI v), some (aI t), some (aI s), some (aI la), none, none] rfl (Nat.le_of_ble_eq_true rfl) rfl ?_
  refine vc_ok (fun hoM hoS hoL => ?_)
  have hr2 : -2147483648 ≤ t ∧ t < 2147483648 := hoL 2 _ rfl
  have hr3 : -2147483648 ≤ s ∧ s < 2147483648 := hoL 3 _ rfl
  have hr4 : -2147483648 ≤ la ∧ la < 2147483648 := hoL 4 _ rfl
  refine vc_iconst dX0_allGo_0 rfl ?_
  refine vc_istore dX0_allGo_1 (by decide) rfl (show _ = [some (aR 46), some (aI v), some (aI t), some (aI s), some (aI la), some (aI 0), none] from rfl) ?_
  have lp3 : ∀ (n3 : Nat) (Mq3 : Mem) (v5 : Int), (BF fQ M Mq3) → (0 ≤ v5) → (v5 ≤ 8) → (8 - v5).toNat < n3 → VC l mdX0_allGo 3 [some (aR 46), some (aI v), some (aI t), some (aI s), some (aI la), some (aI v5), none] [] Mq3 0 0 (fun q N => ∃ r : Int, q = some (aI r) ∧ BF fQ M N ∧ 0 ≤ r ∧ r ≤ 1) := by
    intro n3
    induction n3 with
    | zero => intro Mq3 v5 hQ3 g3_5a g3_5b hm3; exact absurd hm3 (Nat.not_lt_zero _)
    | succ n3 ih3 =>
      intro Mq3 v5 hQ3 g3_5a g3_5b hm3
      refine vc_iload dX0_allGo_3 rfl ?_
      refine vc_bipush dX0_allGo_5 rfl ?_
      refine vc_icmp_ge dX0_allGo_7 (fun h1 => ?_) (fun h1 => ?_)
      · refine vc_iconst dX0_allGo_103 rfl ?_
        refine vc_zret dX0_allGo_104 rfl (by first | decide | omega) (Nat.le_of_ble_eq_true rfl) (Nat.le_of_ble_eq_true rfl) ?_
        exact ⟨_, rfl, hQ3, by omega, by omega⟩
      · refine vc_iload dX0_allGo_10 rfl ?_
        refine vc_iload_n dX0_allGo_12 rfl ?_
        refine vc_iconst dX0_allGo_13 rfl ?_
        refine vc_ixor dX0_allGo_14 ?_
        refine vc_iand dX0_allGo_15 ?_
        refine vc_if_ne dX0_allGo_16 (fun h2 => ?_) (fun h2 => ?_)
        · refine vc_iincE dX0_allGo_97 rfl (by omega) (by omega) (by decide) rfl (show _ = [some (aR 46), some (aI v), some (aI t), some (aI s), some (aI la), some (aI (v5 + 1)), none] from rfl) ?_
          refine vc_goto dX0_allGo_100 ?_
          exact ih3 Mq3 (v5 + 1) hQ3 (by omega) (by omega) (by omega)
        · refine vc_aload_n dX0_allGo_19 rfl ?_
          refine vc_aload_n dX0_allGo_20 rfl ?_
          refine vc_getR dX0_allGo_21 flX0_23 (s_46 hQ3.1.1) rfl (r_46_3 hQ3.1.1) ?_
          refine vc_bipush dX0_allGo_24 rfl ?_
          refine vc_iload_n dX0_allGo_26 rfl ?_
          refine vc_imulE dX0_allGo_27 (by omega) (by omega) ?_
          refine vc_iload dX0_allGo_28 rfl ?_
          refine vc_iaddE dX0_allGo_30 (by omega) (by omega) ?_
          refine vc_iaload dX0_allGo_31 (s_48 hQ3.1.1) (by omega) (by omega) ?_
          refine vc_iload_n dX0_allGo_32 rfl ?_
          refine vc_iload dX0_allGo_33 rfl ?_
          refine vc_cSI dX0_allGo_35 (sfX1_meant (M := Mq3) hQ3.1  t v5 ) rfl okX1_meant stX1_meant lkX0_47 rfl (Nat.le_of_ble_eq_true rfl) ⟨rfl, rfl⟩ (Nat.le_of_ble_eq_true rfl) (Nat.le_of_ble_eq_true rfl) (Nat.le_of_ble_eq_true rfl) ?_
          rintro x3 _ rfl
          refine vc_iload dX0_allGo_38 rfl ?_
          refine vc_cVI dX0_allGo_40 (sfX0_after (M := Mq3) hQ3.1  (mI Mq3 48 (((8 * v) + v5).toNat)) x3 v5 ) rfl okX0_after viX0_after lkX0_53 (s_46 hQ3.1.1) cl_0 rfl (Nat.le_of_ble_eq_true rfl) ⟨rfl, rfl⟩ (Nat.le_of_ble_eq_true rfl) (Nat.le_of_ble_eq_true rfl) (Nat.le_of_ble_eq_true rfl) ?_
          rintro x4 M5 hB6
          have hB7 : BF fQ M M5 := BF.go hQ3 hB6
          refine vc_istore dX0_allGo_43 (by decide) rfl (show _ = [some (aR 46), some (aI v), some (aI t), some (aI s), some (aI la), some (aI v5), some (aI x4)] from rfl) ?_
          refine vc_iload dX0_allGo_45 rfl ?_
          refine vc_iconst dX0_allGo_47 rfl ?_
          refine vc_icmp_eq dX0_allGo_48 (fun h8 => ?_) (fun h8 => ?_)
          · refine vc_iconst dX0_allGo_78 rfl ?_
            refine vc_zret dX0_allGo_79 rfl (by first | decide | omega) (Nat.le_of_ble_eq_true rfl) (Nat.le_of_ble_eq_true rfl) ?_
            exact ⟨_, rfl, hB7, by omega, by omega⟩
          · refine vc_iload dX0_allGo_51 rfl ?_
            refine vc_if_eq dX0_allGo_53 (fun h9 => ?_) (fun h9 => ?_)
            · refine vc_aload_n dX0_allGo_80 rfl ?_
              refine vc_getR dX0_allGo_81 flX0_23 (s_46 hB7.1.1) rfl (r_46_3 hB7.1.1) ?_
              refine vc_bipush dX0_allGo_84 rfl ?_
              refine vc_iload_n dX0_allGo_86 rfl ?_
              refine vc_imulE dX0_allGo_87 (by omega) (by omega) ?_
              refine vc_bipush dX0_allGo_88 rfl ?_
              refine vc_iaddE dX0_allGo_90 (by omega) (by omega) ?_
              refine vc_iload dX0_allGo_91 rfl ?_
              refine vc_iaddE dX0_allGo_93 (by omega) (by omega) ?_
              refine vc_iload dX0_allGo_94 rfl ?_
              refine vc_iastore dX0_allGo_96 (s_48 hB7.1.1) (by omega) (by omega) ?_
              have hB10 : BF fQ M (sI M5 48 ((((8 * v) + 8) + v5).toNat) x4) := BF.w48 hB7 (fun _ => rfl) _
              refine vc_iincE dX0_allGo_97 rfl (by omega) (by omega) (by decide) rfl (show _ = [some (aR 46), some (aI v), some (aI t), some (aI s), some (aI la), some (aI (v5 + 1)), some (aI x4)] from rfl) ?_
              refine vc_goto dX0_allGo_100 ?_
              refine vc_less [some (aR 46), some (aI v), some (aI t), some (aI s), some (aI la), some (aI (v5 + 1)), none] (lessL_keep (lessL_keep (lessL_keep (lessL_keep (lessL_keep (lessL_keep (lessL_drop (lessL_nil)))))))) ?_
              exact ih3 (sI M5 48 ((((8 * v) + 8) + v5).toNat) x4) (v5 + 1) hB10 (by omega) (by omega) (by omega)
            · refine vc_aload_n dX0_allGo_56 rfl ?_
              refine vc_iload dX0_allGo_57 rfl ?_
              refine vc_iload_n dX0_allGo_59 rfl ?_
              refine vc_bipush dX0_allGo_60 rfl ?_
              refine vc_idiv dX0_allGo_62 (by omega) ?_
              refine vc_iconst dX0_allGo_63 rfl ?_
              refine vc_icmp_eq dX0_allGo_64 (fun h11 => ?_) (fun h11 => ?_)
              · refine vc_iconst dX0_allGo_71 rfl ?_
                refine vc_cVI dX0_allGo_72 (sfX0_endsAtGoal (M := M5) hB7.1  x4 0 ) rfl okX0_endsAtGoal viX0_endsAtGoal lkX0_57 (s_46 hB7.1.1) cl_0 rfl (Nat.le_of_ble_eq_true rfl) ⟨rfl, rfl⟩ (Nat.le_of_ble_eq_true rfl) (Nat.le_of_ble_eq_true rfl) (Nat.le_of_ble_eq_true rfl) ?_
                rintro x12 _ ⟨rfl, h13, h14⟩
                refine vc_if_ne dX0_allGo_75 (fun h15 => ?_) (fun h15 => ?_)
                · refine vc_aload_n dX0_allGo_80 rfl ?_
                  refine vc_getR dX0_allGo_81 flX0_23 (s_46 hB7.1.1) rfl (r_46_3 hB7.1.1) ?_
                  refine vc_bipush dX0_allGo_84 rfl ?_
                  refine vc_iload_n dX0_allGo_86 rfl ?_
                  refine vc_imulE dX0_allGo_87 (by omega) (by omega) ?_
                  refine vc_bipush dX0_allGo_88 rfl ?_
                  refine vc_iaddE dX0_allGo_90 (by omega) (by omega) ?_
                  refine vc_iload dX0_allGo_91 rfl ?_
                  refine vc_iaddE dX0_allGo_93 (by omega) (by omega) ?_
                  refine vc_iload dX0_allGo_94 rfl ?_
                  refine vc_iastore dX0_allGo_96 (s_48 hB7.1.1) (by omega) (by omega) ?_
                  have hB16 : BF fQ M (sI M5 48 ((((8 * v) + 8) + v5).toNat) x4) := BF.w48 hB7 (fun _ => rfl) _
                  refine vc_iincE dX0_allGo_97 rfl (by omega) (by omega) (by decide) rfl (show _ = [some (aR 46), some (aI v), some (aI t), some (aI s), some (aI la), some (aI (v5 + 1)), some (aI x4)] from rfl) ?_
                  refine vc_goto dX0_allGo_100 ?_
                  refine vc_less [some (aR 46), some (aI v), some (aI t), some (aI s), some (aI la), some (aI (v5 + 1)), none] (lessL_keep (lessL_keep (lessL_keep (lessL_keep (lessL_keep (lessL_keep (lessL_drop (lessL_nil)))))))) ?_
                  exact ih3 (sI M5 48 ((((8 * v) + 8) + v5).toNat) x4) (v5 + 1) hB16 (by omega) (by omega) (by omega)
                · refine vc_iconst dX0_allGo_78 rfl ?_
                  refine vc_zret dX0_allGo_79 rfl (by first | decide | omega) (Nat.le_of_ble_eq_true rfl) (Nat.le_of_ble_eq_true rfl) ?_
                  exact ⟨_, rfl, hB7, by omega, by omega⟩
              · refine vc_iconst dX0_allGo_67 rfl ?_
                refine vc_goto dX0_allGo_68 ?_
                refine vc_cVI dX0_allGo_72 (sfX0_endsAtGoal (M := M5) hB7.1  x4 1 ) rfl okX0_endsAtGoal viX0_endsAtGoal lkX0_57 (s_46 hB7.1.1) cl_0 rfl (Nat.le_of_ble_eq_true rfl) ⟨rfl, rfl⟩ (Nat.le_of_ble_eq_true rfl) (Nat.le_of_ble_eq_true rfl) (Nat.le_of_ble_eq_true rfl) ?_
                rintro x17 _ ⟨rfl, h18, h19⟩
                refine vc_if_ne dX0_allGo_75 (fun h20 => ?_) (fun h20 => ?_)
                · refine vc_aload_n dX0_allGo_80 rfl ?_
                  refine vc_getR dX0_allGo_81 flX0_23 (s_46 hB7.1.1) rfl (r_46_3 hB7.1.1) ?_
                  refine vc_bipush dX0_allGo_84 rfl ?_
                  refine vc_iload_n dX0_allGo_86 rfl ?_
                  refine vc_imulE dX0_allGo_87 (by omega) (by omega) ?_
                  refine vc_bipush dX0_allGo_88 rfl ?_
                  refine vc_iaddE dX0_allGo_90 (by omega) (by omega) ?_
                  refine vc_iload dX0_allGo_91 rfl ?_
                  refine vc_iaddE dX0_allGo_93 (by omega) (by omega) ?_
                  refine vc_iload dX0_allGo_94 rfl ?_
                  refine vc_iastore dX0_allGo_96 (s_48 hB7.1.1) (by omega) (by omega) ?_
                  have hB21 : BF fQ M (sI M5 48 ((((8 * v) + 8) + v5).toNat) x4) := BF.w48 hB7 (fun _ => rfl) _
                  refine vc_iincE dX0_allGo_97 rfl (by omega) (by omega) (by decide) rfl (show _ = [some (aR 46), some (aI v), some (aI t), some (aI s), some (aI la), some (aI (v5 + 1)), some (aI x4)] from rfl) ?_
                  refine vc_goto dX0_allGo_100 ?_
                  refine vc_less [some (aR 46), some (aI v), some (aI t), some (aI s), some (aI la), some (aI (v5 + 1)), none] (lessL_keep (lessL_keep (lessL_keep (lessL_keep (lessL_keep (lessL_keep (lessL_drop (lessL_nil)))))))) ?_
                  exact ih3 (sI M5 48 ((((8 * v) + 8) + v5).toNat) x4) (v5 + 1) hB21 (by omega) (by omega) (by omega)
                · refine vc_iconst dX0_allGo_78 rfl ?_
                  refine vc_zret dX0_allGo_79 rfl (by first | decide | omega) (Nat.le_of_ble_eq_true rfl) (Nat.le_of_ble_eq_true rfl) ?_
                  exact ⟨_, rfl, hB7, by omega, by omega⟩
  exact lp3 _ M 0 hB0 (by omega) (by omega) (Nat.lt_succ_self _)

set_option maxRecDepth 4000 in
theorem sfX0_tries {l : Launch} : ∀ (nf : Nat) {M : Mem} (hB : Box M)  (v : Int) (n : Int) (s : Int) (p0 : 0 ≤ v) (p1 : v ≤ 3) (hnf : (3 - v).toNat < nf), Call l (mdX0_tries (16 + nf)) [aR 46, aI v, aI n, aI s] M (fun q N => ∃ r : Int, q = some (aI r) ∧ BF fQ M N ∧ 0 ≤ r ∧ r ≤ 1) := by
  intro nf
  induction nf with
  | zero => intro M hB v n s p0 p1 hnf; exact absurd hnf (Nat.not_lt_zero _)
  | succ nf ih =>
    intro M hB v n s p0 p1 hnf
    have hB0 : BF fQ M M := BF.start hB
    refine Call.of [some (aR 46), some (aI v), some (aI n), some (aI s), none, none, none] rfl (Nat.le_of_ble_eq_true rfl) rfl ?_
    refine vc_ok (fun hoM hoS hoL => ?_)
    have hr2 : -2147483648 ≤ n ∧ n < 2147483648 := hoL 2 _ rfl
    have hr3 : -2147483648 ≤ s ∧ s < 2147483648 := hoL 3 _ rfl
    refine vc_iload_n dX0_tries_0 rfl ?_
    refine vc_iconst dX0_tries_1 rfl ?_
    refine vc_iaddE dX0_tries_2 (by omega) (by omega) ?_
    refine vc_iload_n dX0_tries_3 rfl ?_
    refine vc_icmp_lt dX0_tries_4 (fun h1 => ?_) (fun h1 => ?_)
    · refine vc_iconst dX0_tries_11 rfl ?_
      refine vc_istore dX0_tries_12 (Nat.le_of_ble_eq_true rfl) rfl (show _ = [some (aR 46), some (aI v), some (aI n), some (aI s), some (aI 0), none, none] from rfl) ?_
      refine vc_iconst dX0_tries_14 rfl ?_
      refine vc_istore dX0_tries_15 (Nat.le_of_ble_eq_true rfl) rfl (show _ = [some (aR 46), some (aI v), some (aI n), some (aI s), some (aI 0), some (aI 0), none] from rfl) ?_
      have lp17 : ∀ (n17 : Nat) (Mq17 : Mem) (v5 : Int), (BF fQ M Mq17) → (0 ≤ v5) → (v5 ≤ 27) → (27 - v5).toNat < n17 → VC l (mdX0_tries (16 + (nf + 1))) 17 [some (aR 46), some (aI v), some (aI n), some (aI s), some (aI 0), some (aI v5), none] [] Mq17 0 0 (fun q N => ∃ r : Int, q = some (aI r) ∧ BF fQ M N ∧ 0 ≤ r ∧ r ≤ 1) := by
        intro n17
        induction n17 with
        | zero => intro Mq17 v5 hQ17 g17_5a g17_5b hm17; exact absurd hm17 (Nat.not_lt_zero _)
        | succ n17 ih17 =>
          intro Mq17 v5 hQ17 g17_5a g17_5b hm17
          refine vc_iload dX0_tries_17 rfl ?_
          refine vc_bipush dX0_tries_19 rfl ?_
          refine vc_icmp_ge dX0_tries_21 (fun h2 => ?_) (fun h2 => ?_)
          · refine vc_iconst dX0_tries_82 rfl ?_
            refine vc_zret dX0_tries_83 rfl (by first | decide | omega) (Nat.le_of_ble_eq_true rfl) (Nat.le_of_ble_eq_true rfl) ?_
            exact ⟨_, rfl, hQ17, by omega, by omega⟩
          · refine vc_iload_n dX0_tries_24 rfl ?_
            refine vc_iconst dX0_tries_25 rfl ?_
            refine vc_icmp_ge dX0_tries_26 (fun h3 => ?_) (fun h3 => ?_)
            · refine vc_iconst dX0_tries_82 rfl ?_
              refine vc_zret dX0_tries_83 rfl (by first | decide | omega) (Nat.le_of_ble_eq_true rfl) (Nat.le_of_ble_eq_true rfl) ?_
              exact ⟨_, rfl, hQ17, by omega, by omega⟩
            · refine vc_iload dX0_tries_29 rfl ?_
              refine vc_cSI dX0_tries_31 (sfX0_turnOfKind (M := Mq17) hQ17.1  v5 ) rfl okX0_turnOfKind stX0_turnOfKind lkX0_39 rfl (by show 0 < 16 + (nf + 1); omega) ⟨rfl, rfl⟩ (Nat.le_of_ble_eq_true rfl) (Nat.le_of_ble_eq_true rfl) (Nat.le_of_ble_eq_true rfl) ?_
              rintro x4 _ rfl
              refine vc_istore dX0_tries_34 (Nat.le_of_ble_eq_true rfl) rfl (show _ = [some (aR 46), some (aI v), some (aI n), some (aI s), some (aI 0), some (aI v5), some (aI x4)] from rfl) ?_
              refine vc_aload_n dX0_tries_36 rfl ?_
              refine vc_getR dX0_tries_37 flX0_26 (s_46 hQ17.1.1) rfl (r_46_4 hQ17.1.1) ?_
              refine vc_iload_n dX0_tries_40 rfl ?_
              refine vc_iload dX0_tries_41 rfl ?_
              refine vc_iastore dX0_tries_43 (s_49 hQ17.1.1) (by omega) (by omega) ?_
              have hB5 : BF fQ M (sI Mq17 49 v.toNat x4) := BF.w49 hQ17 (fun _ => rfl) _
              refine vc_aload_n dX0_tries_44 rfl ?_
              refine vc_iload_n dX0_tries_45 rfl ?_
              refine vc_iload dX0_tries_46 rfl ?_
              refine vc_iload_n dX0_tries_48 rfl ?_
              refine vc_iload dX0_tries_49 rfl ?_
              refine vc_cVI dX0_tries_51 (sfX0_allGo (M := (sI Mq17 49 v.toNat x4)) hB5.1  v x4 s 0 (by omega) (by omega)) rfl okX0_allGo viX0_allGo lkX0_43 (s_46 hB5.1.1) cl_0 rfl (by show 4 < 16 + (nf + 1); omega) ⟨rfl, rfl⟩ (Nat.le_of_ble_eq_true rfl) (Nat.le_of_ble_eq_true rfl) (Nat.le_of_ble_eq_true rfl) ?_
              rintro x6 M7 ⟨hB8, h9, h10⟩
              have hB11 : BF fQ M M7 := BF.go hB5 hB8
              refine vc_if_eq dX0_tries_54 (fun h12 => ?_) (fun h12 => ?_)
              · refine vc_iincE dX0_tries_76 rfl (by omega) (by omega) (Nat.le_of_ble_eq_true rfl) rfl (show _ = [some (aR 46), some (aI v), some (aI n), some (aI s), some (aI 0), some (aI (v5 + 1)), some (aI x4)] from rfl) ?_
                refine vc_goto dX0_tries_79 ?_
                refine vc_less [some (aR 46), some (aI v), some (aI n), some (aI s), some (aI 0), some (aI (v5 + 1)), none] (lessL_keep (lessL_keep (lessL_keep (lessL_keep (lessL_keep (lessL_keep (lessL_drop (lessL_nil)))))))) ?_
                exact ih17 M7 (v5 + 1) hB11 (by omega) (by omega) (by omega)
              · refine vc_iload dX0_tries_57 rfl ?_
                refine vc_if_ne dX0_tries_59 (fun h13 => by exfalso; omega) (fun h13 => ?_)
                refine vc_aload_n dX0_tries_62 rfl ?_
                refine vc_iload_n dX0_tries_63 rfl ?_
                refine vc_iconst dX0_tries_64 rfl ?_
                refine vc_iaddE dX0_tries_65 (by omega) (by omega) ?_
                refine vc_iload_n dX0_tries_66 rfl ?_
                refine vc_iload_n dX0_tries_67 rfl ?_
                refine vc_cVI dX0_tries_68 (ih (M := M7) hB11.1  (v + 1) n s (by omega) (by omega) (by omega)) rfl (okX0_tries (16 + nf)) (viX0_tries (16 + nf)) (lkX0_35 (16 + nf)) (s_46 hB11.1.1) cl_0 rfl (by show (16 + nf) < 16 + (nf + 1); omega) ⟨rfl, rfl⟩ (Nat.le_of_ble_eq_true rfl) (Nat.le_of_ble_eq_true rfl) (Nat.le_of_ble_eq_true rfl) ?_
                rintro x14 M15 ⟨hB16, h17, h18⟩
                have hB19 : BF fQ M M15 := BF.go hB11 hB16
                refine vc_if_eq dX0_tries_71 (fun h20 => ?_) (fun h20 => ?_)
                · refine vc_iincE dX0_tries_76 rfl (by omega) (by omega) (Nat.le_of_ble_eq_true rfl) rfl (show _ = [some (aR 46), some (aI v), some (aI n), some (aI s), some (aI 0), some (aI (v5 + 1)), some (aI x4)] from rfl) ?_
                  refine vc_goto dX0_tries_79 ?_
                  refine vc_less [some (aR 46), some (aI v), some (aI n), some (aI s), some (aI 0), some (aI (v5 + 1)), none] (lessL_keep (lessL_keep (lessL_keep (lessL_keep (lessL_keep (lessL_keep (lessL_drop (lessL_nil)))))))) ?_
                  exact ih17 M15 (v5 + 1) hB19 (by omega) (by omega) (by omega)
                · refine vc_iconst dX0_tries_74 rfl ?_
                  refine vc_zret dX0_tries_75 rfl (by first | decide | omega) (Nat.le_of_ble_eq_true rfl) (Nat.le_of_ble_eq_true rfl) ?_
                  exact ⟨_, rfl, hB19, by omega, by omega⟩
      exact lp17 _ M 0 hB0 (by omega) (by omega) (Nat.lt_succ_self _)
    · refine vc_iconst dX0_tries_7 rfl ?_
      refine vc_goto dX0_tries_8 ?_
      refine vc_istore dX0_tries_12 (Nat.le_of_ble_eq_true rfl) rfl (show _ = [some (aR 46), some (aI v), some (aI n), some (aI s), some (aI 1), none, none] from rfl) ?_
      refine vc_iconst dX0_tries_14 rfl ?_
      refine vc_istore dX0_tries_15 (Nat.le_of_ble_eq_true rfl) rfl (show _ = [some (aR 46), some (aI v), some (aI n), some (aI s), some (aI 1), some (aI 0), none] from rfl) ?_
      have lp17 : ∀ (n17 : Nat) (Mq17 : Mem) (v5 : Int), (BF fQ M Mq17) → (0 ≤ v5) → (v5 ≤ 27) → (27 - v5).toNat < n17 → VC l (mdX0_tries (16 + (nf + 1))) 17 [some (aR 46), some (aI v), some (aI n), some (aI s), some (aI 1), some (aI v5), none] [] Mq17 0 0 (fun q N => ∃ r : Int, q = some (aI r) ∧ BF fQ M N ∧ 0 ≤ r ∧ r ≤ 1) := by
        intro n17
        induction n17 with
        | zero => intro Mq17 v5 hQ17 g17_5a g17_5b hm17; exact absurd hm17 (Nat.not_lt_zero _)
        | succ n17 ih17 =>
          intro Mq17 v5 hQ17 g17_5a g17_5b hm17
          refine vc_iload dX0_tries_17 rfl ?_
          refine vc_bipush dX0_tries_19 rfl ?_
          refine vc_icmp_ge dX0_tries_21 (fun h21 => ?_) (fun h21 => ?_)
          · refine vc_iconst dX0_tries_82 rfl ?_
            refine vc_zret dX0_tries_83 rfl (by first | decide | omega) (Nat.le_of_ble_eq_true rfl) (Nat.le_of_ble_eq_true rfl) ?_
            exact ⟨_, rfl, hQ17, by omega, by omega⟩
          · refine vc_iload_n dX0_tries_24 rfl ?_
            refine vc_iconst dX0_tries_25 rfl ?_
            refine vc_icmp_ge dX0_tries_26 (fun h22 => ?_) (fun h22 => ?_)
            · refine vc_iconst dX0_tries_82 rfl ?_
              refine vc_zret dX0_tries_83 rfl (by first | decide | omega) (Nat.le_of_ble_eq_true rfl) (Nat.le_of_ble_eq_true rfl) ?_
              exact ⟨_, rfl, hQ17, by omega, by omega⟩
            · refine vc_iload dX0_tries_29 rfl ?_
              refine vc_cSI dX0_tries_31 (sfX0_turnOfKind (M := Mq17) hQ17.1  v5 ) rfl okX0_turnOfKind stX0_turnOfKind lkX0_39 rfl (by show 0 < 16 + (nf + 1); omega) ⟨rfl, rfl⟩ (Nat.le_of_ble_eq_true rfl) (Nat.le_of_ble_eq_true rfl) (Nat.le_of_ble_eq_true rfl) ?_
              rintro x23 _ rfl
              refine vc_istore dX0_tries_34 (Nat.le_of_ble_eq_true rfl) rfl (show _ = [some (aR 46), some (aI v), some (aI n), some (aI s), some (aI 1), some (aI v5), some (aI x23)] from rfl) ?_
              refine vc_aload_n dX0_tries_36 rfl ?_
              refine vc_getR dX0_tries_37 flX0_26 (s_46 hQ17.1.1) rfl (r_46_4 hQ17.1.1) ?_
              refine vc_iload_n dX0_tries_40 rfl ?_
              refine vc_iload dX0_tries_41 rfl ?_
              refine vc_iastore dX0_tries_43 (s_49 hQ17.1.1) (by omega) (by omega) ?_
              have hB24 : BF fQ M (sI Mq17 49 v.toNat x23) := BF.w49 hQ17 (fun _ => rfl) _
              refine vc_aload_n dX0_tries_44 rfl ?_
              refine vc_iload_n dX0_tries_45 rfl ?_
              refine vc_iload dX0_tries_46 rfl ?_
              refine vc_iload_n dX0_tries_48 rfl ?_
              refine vc_iload dX0_tries_49 rfl ?_
              refine vc_cVI dX0_tries_51 (sfX0_allGo (M := (sI Mq17 49 v.toNat x23)) hB24.1  v x23 s 1 (by omega) (by omega)) rfl okX0_allGo viX0_allGo lkX0_43 (s_46 hB24.1.1) cl_0 rfl (by show 4 < 16 + (nf + 1); omega) ⟨rfl, rfl⟩ (Nat.le_of_ble_eq_true rfl) (Nat.le_of_ble_eq_true rfl) (Nat.le_of_ble_eq_true rfl) ?_
              rintro x25 M26 ⟨hB27, h28, h29⟩
              have hB30 : BF fQ M M26 := BF.go hB24 hB27
              refine vc_if_eq dX0_tries_54 (fun h31 => ?_) (fun h31 => ?_)
              · refine vc_iincE dX0_tries_76 rfl (by omega) (by omega) (Nat.le_of_ble_eq_true rfl) rfl (show _ = [some (aR 46), some (aI v), some (aI n), some (aI s), some (aI 1), some (aI (v5 + 1)), some (aI x23)] from rfl) ?_
                refine vc_goto dX0_tries_79 ?_
                refine vc_less [some (aR 46), some (aI v), some (aI n), some (aI s), some (aI 1), some (aI (v5 + 1)), none] (lessL_keep (lessL_keep (lessL_keep (lessL_keep (lessL_keep (lessL_keep (lessL_drop (lessL_nil)))))))) ?_
                exact ih17 M26 (v5 + 1) hB30 (by omega) (by omega) (by omega)
              · refine vc_iload dX0_tries_57 rfl ?_
                refine vc_if_ne dX0_tries_59 (fun h32 => ?_) (fun h32 => by exfalso; omega)
                refine vc_iconst dX0_tries_74 rfl ?_
                refine vc_zret dX0_tries_75 rfl (by first | decide | omega) (Nat.le_of_ble_eq_true rfl) (Nat.le_of_ble_eq_true rfl) ?_
                exact ⟨_, rfl, hB30, by omega, by omega⟩
      exact lp17 _ M 0 hB0 (by omega) (by omega) (Nat.lt_succ_self _)

set_option maxRecDepth 4000 in
theorem sfX0_find {l : Launch} {M : Mem} (hB : Box M)  (c : Int) (f : Int) (s : Int) (p0 : 0 ≤ c) (p1 : c ≤ 15) (p2 : 0 ≤ f) (p3 : f ≤ 3) : Call l mdX0_find [aR 46, aI c, aI f, aI s] M (fun q N => ∃ r : Int, q = some (aI r) ∧ BF fQ M N) := by
  have hB0 : BF fQ M M := BF.start hB
  refine Call.of [some (aR 46), some (aI c), some (aI f), some (aI s), none] rfl (Nat.le_of_ble_eq_true rfl) rfl ?_
  refine vc_ok (fun hoM hoS hoL => ?_)
  have hr3 : -2147483648 ≤ s ∧ s < 2147483648 := hoL 3 _ rfl
  refine vc_aload_n dX0_find_0 rfl ?_
  refine vc_getR dX0_find_1 flX0_19 (s_46 hB0.1.1) rfl (r_46_2 hB0.1.1) ?_
  refine vc_bipush dX0_find_4 rfl ?_
  refine vc_cSU dX0_find_6 (sfJ7_fill_53178_47 (M := M) hB0.1  (-2) ) rfl okJ7_fill_53178 stJ7_fill_53178 lkX0_29 rfl (Nat.le_of_ble_eq_true rfl) ⟨rfl, rfl⟩ (Nat.le_of_ble_eq_true rfl) (Nat.le_of_ble_eq_true rfl) (Nat.le_of_ble_eq_true rfl) ?_
  rintro M1 ⟨hB2, kp3, kp4⟩
  have hB5 : BF fQ M M1 := BF.go hB0 hB2
  refine vc_iconst dX0_find_9 rfl ?_
  refine vc_istore dX0_find_10 (by decide) rfl (show _ = [some (aR 46), some (aI c), some (aI f), some (aI s), some (aI 0)] from rfl) ?_
  have lp12 : ∀ (n12 : Nat) (Mq12 : Mem) (v4 : Int), (BF fQ M Mq12) → (0 ≤ v4) → (v4 ≤ 8) → (8 - v4).toNat < n12 → VC l mdX0_find 12 [some (aR 46), some (aI c), some (aI f), some (aI s), some (aI v4)] [] Mq12 0 0 (fun q N => ∃ r : Int, q = some (aI r) ∧ BF fQ M N) := by
    intro n12
    induction n12 with
    | zero => intro Mq12 v4 hQ12 g12_4a g12_4b hm12; exact absurd hm12 (Nat.not_lt_zero _)
    | succ n12 ih12 =>
      intro Mq12 v4 hQ12 g12_4a g12_4b hm12
      refine vc_iload dX0_find_12 rfl ?_
      refine vc_bipush dX0_find_14 rfl ?_
      refine vc_icmp_ge dX0_find_16 (fun h6 => ?_) (fun h6 => ?_)
      · refine vc_iconst dX0_find_37 rfl ?_
        refine vc_istore dX0_find_38 (by decide) rfl (show _ = [some (aR 46), some (aI c), some (aI f), some (aI s), some (aI 1)] from rfl) ?_
        have lp40 : ∀ (n40 : Nat) (Mq40 : Mem) (v4i : Int), (BF fQ M Mq40) → (1 ≤ v4i) → (v4i ≤ 4) → (4 - v4i).toNat < n40 → VC l mdX0_find 40 [some (aR 46), none, none, some (aI s), some (aI v4i)] [] Mq40 0 0 (fun q N => ∃ r : Int, q = some (aI r) ∧ BF fQ M N) := by
          intro n40
          induction n40 with
          | zero => intro Mq40 v4i hQ40 g40_4a g40_4b hm40; exact absurd hm40 (Nat.not_lt_zero _)
          | succ n40 ih40 =>
            intro Mq40 v4i hQ40 g40_4a g40_4b hm40
            refine vc_iload dX0_find_40 rfl ?_
            refine vc_iconst dX0_find_42 rfl ?_
            refine vc_icmp_gt dX0_find_43 (fun h7 => ?_) (fun h7 => ?_)
            · refine vc_iconst dX0_find_66 rfl ?_
              refine vc_iret dX0_find_67 rfl (Nat.le_of_ble_eq_true rfl) (Nat.le_of_ble_eq_true rfl) ?_
              exact ⟨_, rfl, hQ40⟩
            · refine vc_aload_n dX0_find_46 rfl ?_
              refine vc_iconst dX0_find_47 rfl ?_
              refine vc_iload dX0_find_48 rfl ?_
              refine vc_iload_n dX0_find_50 rfl ?_
              refine vc_cVI dX0_find_51 (sfX0_tries 4 (M := Mq40) hQ40.1  0 v4i s (by omega) (by omega) (by omega)) rfl (okX0_tries (16 + 4)) (viX0_tries (16 + 4)) (lkX0_35 (16 + 4)) (s_46 hQ40.1.1) cl_0 rfl (Nat.le_of_ble_eq_true rfl) ⟨rfl, rfl⟩ (Nat.le_of_ble_eq_true rfl) (Nat.le_of_ble_eq_true rfl) (Nat.le_of_ble_eq_true rfl) ?_
              rintro x8 M9 ⟨hB10, h11, h12⟩
              have hB13 : BF fQ M M9 := BF.go hQ40 hB10
              refine vc_if_eq dX0_find_54 (fun h14 => ?_) (fun h14 => ?_)
              · refine vc_iincE dX0_find_60 rfl (by omega) (by omega) (by decide) rfl (show _ = [some (aR 46), none, none, some (aI s), some (aI (v4i + 1))] from rfl) ?_
                refine vc_goto dX0_find_63 ?_
                exact ih40 M9 (v4i + 1) hB13 (by omega) (by omega) (by omega)
              · refine vc_iload dX0_find_57 rfl ?_
                refine vc_iret dX0_find_59 rfl (Nat.le_of_ble_eq_true rfl) (Nat.le_of_ble_eq_true rfl) ?_
                exact ⟨_, rfl, hB13⟩
        refine vc_less [some (aR 46), none, none, some (aI s), some (aI 1)] (lessL_keep (lessL_drop (lessL_drop (lessL_keep (lessL_keep (lessL_nil)))))) ?_
        exact lp40 _ Mq12 1 hQ12 (by omega) (by omega) (Nat.lt_succ_self _)
      · refine vc_aload_n dX0_find_19 rfl ?_
        refine vc_getR dX0_find_20 flX0_23 (s_46 hQ12.1.1) rfl (r_46_3 hQ12.1.1) ?_
        refine vc_iload dX0_find_23 rfl ?_
        refine vc_iconst dX0_find_25 rfl ?_
        refine vc_iload_n dX0_find_26 rfl ?_
        refine vc_imulE dX0_find_27 (by omega) (by omega) ?_
        refine vc_iload_n dX0_find_28 rfl ?_
        refine vc_iaddE dX0_find_29 (by omega) (by omega) ?_
        refine vc_iastore dX0_find_30 (s_48 hQ12.1.1) (by omega) (by omega) ?_
        have hB15 : BF fQ M (sI Mq12 48 v4.toNat ((4 * c) + f)) := BF.w48 hQ12 (fun _ => rfl) _
        refine vc_iincE dX0_find_31 rfl (by omega) (by omega) (by decide) rfl (show _ = [some (aR 46), some (aI c), some (aI f), some (aI s), some (aI (v4 + 1))] from rfl) ?_
        refine vc_goto dX0_find_34 ?_
        exact ih12 (sI Mq12 48 v4.toNat ((4 * c) + f)) (v4 + 1) hB15 (by omega) (by omega) (by omega)
  exact lp12 _ M1 0 hB5 (by omega) (by omega) (Nat.lt_succ_self _)

set_option maxRecDepth 4000 in
theorem sfX3_towards {l : Launch} {M : Mem} (hB : Box M)  (c : Int) (r : Int) (p0 : 0 ≤ c) (p1 : c ≤ 15) : Call l mdX3_towards [aR 50, aI c, aI r] M (fun q N => ∃ r : Int, q = some (aI r) ∧ M = N ∧ (-1) ≤ r ∧ r ≤ 3 ∧ (r = -1 ∨ ¬ c < mI M 1 6 ∨ 0 ≤ mI M 3 (4 * c + r % 4).toNat)) := by
  have hB0 : BF fQ M M := BF.start hB
  refine Call.of [some (aR 50), some (aI c), some (aI r), none, none] rfl (Nat.le_of_ble_eq_true rfl) rfl ?_
  refine vc_ok (fun hoM hoS hoL => ?_)
  have hr2 : -2147483648 ≤ r ∧ r < 2147483648 := hoL 2 _ rfl
  refine vc_iconst dX3_towards_0 rfl ?_
  refine vc_istore_n dX3_towards_1 (by decide) rfl (show _ = [some (aR 50), some (aI c), some (aI r), some (aI 0), none] from rfl) ?_
  have lp2 : ∀ (n2 : Nat) (v3 : Int), (0 ≤ v3) → (v3 ≤ 4) → (4 - v3).toNat < n2 → VC l mdX3_towards 2 [some (aR 50), some (aI c), some (aI r), some (aI v3), none] [] M 0 0 (fun q N => ∃ r : Int, q = some (aI r) ∧ M = N ∧ (-1) ≤ r ∧ r ≤ 3 ∧ (r = -1 ∨ ¬ c < mI M 1 6 ∨ 0 ≤ mI M 3 (4 * c + r % 4).toNat)) := by
    intro n2
    induction n2 with
    | zero => intro v3 g2_3a g2_3b hm2; exact absurd hm2 (Nat.not_lt_zero _)
    | succ n2 ih2 =>
      intro v3 g2_3a g2_3b hm2
      refine vc_iload_n dX3_towards_2 rfl ?_
      refine vc_iconst dX3_towards_3 rfl ?_
      refine vc_icmp_ge dX3_towards_4 (fun h1 => ?_) (fun h1 => ?_)
      · refine vc_iconst dX3_towards_43 rfl ?_
        refine vc_iret dX3_towards_44 rfl (Nat.le_of_ble_eq_true rfl) (Nat.le_of_ble_eq_true rfl) ?_
        exact ⟨_, rfl, rfl, by omega, by omega, by omega⟩
      · refine vc_aload_n dX3_towards_7 rfl ?_
        refine vc_getR dX3_towards_8 flX3_9 (s_50 hB0.1.1) rfl (r_50_0 hB0.1.1) ?_
        refine vc_iload_n dX3_towards_11 rfl ?_
        refine vc_iload_n dX3_towards_12 rfl ?_
        refine vc_cVI dX3_towards_13 (sfX6_ahead (M := M) hB0.1  c v3 ) rfl okX6_ahead viX6_ahead lkX3_78 (s_1 hB0.1.1) cl_6 rfl (Nat.le_of_ble_eq_true rfl) ⟨rfl, rfl⟩ (Nat.le_of_ble_eq_true rfl) (Nat.le_of_ble_eq_true rfl) (Nat.le_of_ble_eq_true rfl) ?_
        rintro x2 _ ⟨rfl, h3, h4, h5, h6⟩
        refine vc_istore dX3_towards_16 (by decide) rfl (show _ = [some (aR 50), some (aI c), some (aI r), some (aI v3), some (aI x2)] from rfl) ?_
        refine vc_iload dX3_towards_18 rfl ?_
        refine vc_iconst dX3_towards_20 rfl ?_
        refine vc_icmp_eq dX3_towards_21 (fun h7 => ?_) (fun h7 => ?_)
        · refine vc_iincE dX3_towards_37 rfl (by omega) (by omega) (by decide) rfl (show _ = [some (aR 50), some (aI c), some (aI r), some (aI (v3 + 1)), some (aI x2)] from rfl) ?_
          refine vc_goto dX3_towards_40 ?_
          refine vc_less [some (aR 50), some (aI c), some (aI r), some (aI (v3 + 1)), none] (lessL_keep (lessL_keep (lessL_keep (lessL_keep (lessL_drop (lessL_nil)))))) ?_
          exact ih2 (v3 + 1) (by omega) (by omega) (by omega)
        · refine vc_aload_n dX3_towards_24 rfl ?_
          refine vc_getR dX3_towards_25 flX3_15 (s_50 hB0.1.1) rfl (r_50_1 hB0.1.1) ?_
          refine vc_iload dX3_towards_28 rfl ?_
          refine vc_iaload dX3_towards_30 (s_51 hB0.1.1) (by omega) (by omega) ?_
          refine vc_iload_n dX3_towards_31 rfl ?_
          refine vc_icmp_ne dX3_towards_32 (fun h8 => ?_) (fun h8 => ?_)
          · refine vc_iincE dX3_towards_37 rfl (by omega) (by omega) (by decide) rfl (show _ = [some (aR 50), some (aI c), some (aI r), some (aI (v3 + 1)), some (aI x2)] from rfl) ?_
            refine vc_goto dX3_towards_40 ?_
            refine vc_less [some (aR 50), some (aI c), some (aI r), some (aI (v3 + 1)), none] (lessL_keep (lessL_keep (lessL_keep (lessL_keep (lessL_drop (lessL_nil)))))) ?_
            exact ih2 (v3 + 1) (by omega) (by omega) (by omega)
          · refine vc_iload_n dX3_towards_35 rfl ?_
            refine vc_iret dX3_towards_36 rfl (Nat.le_of_ble_eq_true rfl) (Nat.le_of_ble_eq_true rfl) ?_
            exact ⟨_, rfl, rfl, by omega, by omega, by omega⟩
  exact lp2 _ 0 (by omega) (by omega) (Nat.lt_succ_self _)

set_option maxRecDepth 4000 in
theorem sfX3_countStreets {l : Launch} {M : Mem} (hB : Box M)   (p0 : 0 ≤ mI M 1 7) : Call l mdX3_countStreets [aR 50] M (fun q N => q = none ∧ BF fQ M N ∧ mI N 1 = mI M 1 ∧ mI N 3 = mI M 3) := by
  have hB0 : BF fQ M M := BF.start hB
  refine Call.of [some (aR 50), none, none, none] rfl (Nat.le_of_ble_eq_true rfl) rfl ?_
  refine vc_aload_n dX3_countStreets_0 rfl ?_
  refine vc_getR dX3_countStreets_1 flX3_15 (s_50 hB0.1.1) rfl (r_50_1 hB0.1.1) ?_
  refine vc_iconst dX3_countStreets_4 rfl ?_
  refine vc_cSU dX3_countStreets_5 (sfJ7_fill_53178_51 (M := M) hB0.1  (-1) ) rfl okJ7_fill_53178 stJ7_fill_53178 lkX3_69 rfl (Nat.le_of_ble_eq_true rfl) ⟨rfl, rfl⟩ (Nat.le_of_ble_eq_true rfl) (Nat.le_of_ble_eq_true rfl) (Nat.le_of_ble_eq_true rfl) ?_
  rintro M1 ⟨hB2, kp3, kp4⟩
  have hB5 : BF fQ M M1 := BF.go hB0 hB2
  have kp6 : mI M1 1 = mI M 1 := kp_go rfl kp3
  have kp7 : mI M1 3 = mI M 3 := kp_go rfl kp4
  refine vc_aload_n dX3_countStreets_8 rfl ?_
  refine vc_getR dX3_countStreets_9 flX3_15 (s_50 hB5.1.1) rfl (r_50_1 hB5.1.1) ?_
  refine vc_aload_n dX3_countStreets_12 rfl ?_
  refine vc_getR dX3_countStreets_13 flX3_9 (s_50 hB5.1.1) rfl (r_50_0 hB5.1.1) ?_
  refine vc_getI dX3_countStreets_16 flX3_25 (s_1 hB5.1.1) rfl ?_
  have k8 : (-1) ≤ mI M1 1 7 ∧ mI M1 1 7 ≤ 15 := b1_7 (M := M1) hB5.1
  have k9 : mI M1 1 7 = mI M 1 7 := congrFun kp6 7
  refine vc_iconst dX3_countStreets_19 rfl ?_
  refine vc_iastore dX3_countStreets_20 (s_51 hB5.1.1) (by omega) (by omega) ?_
  have kp10 : mI (sI M1 51 ((mI M1 1 7).toNat) 0) 1 = mI M 1 := (kp_sI kp6 rfl)
  have kp11 : mI (sI M1 51 ((mI M1 1 7).toNat) 0) 3 = mI M 3 := (kp_sI kp7 rfl)
  have hB12 : BF fQ M (sI M1 51 ((mI M1 1 7).toNat) 0) := BF.w51 hB5 (fun _ => rfl) _
  refine vc_aload_n dX3_countStreets_21 rfl ?_
  refine vc_iconst dX3_countStreets_22 rfl ?_
  refine vc_aload_n dX3_countStreets_23 rfl ?_
  refine vc_getR dX3_countStreets_24 flX3_9 (s_50 hB12.1.1) rfl (r_50_0 hB12.1.1) ?_
  refine vc_getI dX3_countStreets_27 flX3_25 (s_1 hB12.1.1) rfl ?_
  refine vc_topI (mI M1 1 7) rfl ?_
  have k13 : (-1) ≤ mI M1 1 7 ∧ mI M1 1 7 ≤ 15 := b1_7 (M := (sI M1 51 ((mI M1 1 7).toNat) 0)) hB12.1
  refine vc_ishl dX3_countStreets_30 ?_
  refine vc_putI dX3_countStreets_31 (plX3_41 _ rfl) (s_50 hB12.1.1) rfl ?_
  have kp15 : mI (sI (sI M1 51 ((mI M1 1 7).toNat) 0) 50 4 (shlI 1 (mI M1 1 7))) 1 = mI M 1 := (kp_sI kp10 rfl)
  have kp16 : mI (sI (sI M1 51 ((mI M1 1 7).toNat) 0) 50 4 (shlI 1 (mI M1 1 7))) 3 = mI M 3 := (kp_sI kp11 rfl)
  have hB17 : BF fQ M (sI (sI M1 51 ((mI M1 1 7).toNat) 0) 50 4 (shlI 1 (mI M1 1 7))) := BF.w50_4 hB12 rfl
  refine vc_iconst dX3_countStreets_34 rfl ?_
  refine vc_istore_n dX3_countStreets_35 (by decide) rfl (show _ = [some (aR 50), some (aI 1), none, none] from rfl) ?_
  have lp36 : ∀ (n36 : Nat) (Mq36 : Mem) (v1 : Int), (BF fQ M Mq36) → (mI Mq36 1 = mI M 1) → (mI Mq36 3 = mI M 3) → (1 ≤ v1) → (v1 ≤ 16) → (16 - v1).toNat < n36 → VC l mdX3_countStreets 36 [some (aR 50), some (aI v1), none, none] [] Mq36 0 0 (fun q N => q = none ∧ BF fQ M N ∧ mI N 1 = mI M 1 ∧ mI N 3 = mI M 3) := by
    intro n36
    induction n36 with
    | zero => intro Mq36 v1 hQ36 kp36_1 kp36_3 g36_1a g36_1b hm36; exact absurd hm36 (Nat.not_lt_zero _)
    | succ n36 ih36 =>
      intro Mq36 v1 hQ36 kp36_1 kp36_3 g36_1a g36_1b hm36
      refine vc_iload_n dX3_countStreets_36 rfl ?_
      refine vc_bipush dX3_countStreets_37 rfl ?_
      refine vc_icmp_ge dX3_countStreets_39 (fun h18 => ?_) (fun h18 => ?_)
      · refine vc_vret dX3_countStreets_133 rfl (Nat.le_of_ble_eq_true rfl) (Nat.le_of_ble_eq_true rfl) ?_
        exact ⟨rfl, hQ36, kp36_1, kp36_3⟩
      · refine vc_iconst dX3_countStreets_42 rfl ?_
        refine vc_istore_n dX3_countStreets_43 (by decide) rfl (show _ = [some (aR 50), some (aI v1), some (aI 0), none] from rfl) ?_
        have lp44 : ∀ (n44 : Nat) (Mq44 : Mem) (v2 : Int), (BF fQ M Mq44) → (mI Mq44 1 = mI M 1) → (mI Mq44 3 = mI M 3) → (0 ≤ v2) → (v2 ≤ 16) → (16 - v2).toNat < n44 → VC l mdX3_countStreets 44 [some (aR 50), some (aI v1), some (aI v2), none] [] Mq44 0 0 (fun q N => q = none ∧ BF fQ M N ∧ mI N 1 = mI M 1 ∧ mI N 3 = mI M 3) := by
          intro n44
          induction n44 with
          | zero => intro Mq44 v2 hQ44 kp44_1 kp44_3 g44_2a g44_2b hm44; exact absurd hm44 (Nat.not_lt_zero _)
          | succ n44 ih44 =>
            intro Mq44 v2 hQ44 kp44_1 kp44_3 g44_2a g44_2b hm44
            refine vc_iload_n dX3_countStreets_44 rfl ?_
            refine vc_aload_n dX3_countStreets_45 rfl ?_
            refine vc_getR dX3_countStreets_46 flX3_9 (s_50 hQ44.1.1) rfl (r_50_0 hQ44.1.1) ?_
            refine vc_getI dX3_countStreets_49 flX3_60 (s_1 hQ44.1.1) rfl ?_
            have k19 : 0 ≤ mI Mq44 1 6 ∧ mI Mq44 1 6 ≤ 16 := b1_6 (M := Mq44) hQ44.1
            have k20 : mI Mq44 1 6 = mI M 1 6 := congrFun kp44_1 6
            refine vc_icmp_ge dX3_countStreets_52 (fun h21 => ?_) (fun h21 => ?_)
            · refine vc_iincE dX3_countStreets_127 rfl (by omega) (by omega) (by decide) rfl (show _ = [some (aR 50), some (aI (v1 + 1)), some (aI v2), none] from rfl) ?_
              refine vc_goto dX3_countStreets_130 ?_
              refine vc_less [some (aR 50), some (aI (v1 + 1)), none, none] (lessL_keep (lessL_keep (lessL_drop (lessL_keep (lessL_nil))))) ?_
              exact ih36 Mq44 (v1 + 1) hQ44 kp44_1 kp44_3 (by omega) (by omega) (by omega)
            · refine vc_aload_n dX3_countStreets_55 rfl ?_
              refine vc_getR dX3_countStreets_56 flX3_15 (s_50 hQ44.1.1) rfl (r_50_1 hQ44.1.1) ?_
              refine vc_iload_n dX3_countStreets_59 rfl ?_
              refine vc_iaload dX3_countStreets_60 (s_51 hQ44.1.1) (by omega) (by omega) ?_
              refine vc_iconst dX3_countStreets_61 rfl ?_
              refine vc_icmp_ne dX3_countStreets_62 (fun h22 => ?_) (fun h22 => ?_)
              · refine vc_iconst dX3_countStreets_76 rfl ?_
                refine vc_istore_n dX3_countStreets_77 (by decide) rfl (show _ = [some (aR 50), some (aI v1), some (aI v2), some (aI (-1))] from rfl) ?_
                refine vc_iload_n dX3_countStreets_78 rfl ?_
                refine vc_iconst dX3_countStreets_79 rfl ?_
                refine vc_icmp_eq dX3_countStreets_80 (fun h23 => ?_) (fun h23 => by exfalso; omega)
                refine vc_iincE dX3_countStreets_121 rfl (by omega) (by omega) (by decide) rfl (show _ = [some (aR 50), some (aI v1), some (aI (v2 + 1)), some (aI (-1))] from rfl) ?_
                refine vc_goto dX3_countStreets_124 ?_
                refine vc_less [some (aR 50), some (aI v1), some (aI (v2 + 1)), none] (lessL_keep (lessL_keep (lessL_keep (lessL_drop (lessL_nil))))) ?_
                exact ih44 Mq44 (v2 + 1) hQ44 kp44_1 kp44_3 (by omega) (by omega) (by omega)
              · refine vc_aload_n dX3_countStreets_65 rfl ?_
                refine vc_iload_n dX3_countStreets_66 rfl ?_
                refine vc_iload_n dX3_countStreets_67 rfl ?_
                refine vc_iconst dX3_countStreets_68 rfl ?_
                refine vc_isubE dX3_countStreets_69 (by omega) (by omega) ?_
                refine vc_cVI dX3_countStreets_70 (sfX3_towards (M := Mq44) hQ44.1  v2 (v1 - 1) (by omega) (by omega)) rfl okX3_towards viX3_towards lkX3_75 (s_50 hQ44.1.1) cl_3 rfl (Nat.le_of_ble_eq_true rfl) ⟨rfl, rfl⟩ (Nat.le_of_ble_eq_true rfl) (Nat.le_of_ble_eq_true rfl) (Nat.le_of_ble_eq_true rfl) ?_
                rintro x24 _ ⟨rfl, h25, h26, h27⟩
                refine vc_goto dX3_countStreets_73 ?_
                refine vc_istore_n dX3_countStreets_77 (by decide) rfl (show _ = [some (aR 50), some (aI v1), some (aI v2), some (aI x24)] from rfl) ?_
                refine vc_iload_n dX3_countStreets_78 rfl ?_
                refine vc_iconst dX3_countStreets_79 rfl ?_
                refine vc_icmp_eq dX3_countStreets_80 (fun h28 => ?_) (fun h28 => ?_)
                · refine vc_iincE dX3_countStreets_121 rfl (by omega) (by omega) (by decide) rfl (show _ = [some (aR 50), some (aI v1), some (aI (v2 + 1)), some (aI x24)] from rfl) ?_
                  refine vc_goto dX3_countStreets_124 ?_
                  refine vc_less [some (aR 50), some (aI v1), some (aI (v2 + 1)), none] (lessL_keep (lessL_keep (lessL_keep (lessL_drop (lessL_nil))))) ?_
                  exact ih44 Mq44 (v2 + 1) hQ44 kp44_1 kp44_3 (by omega) (by omega) (by omega)
                · refine vc_aload_n dX3_countStreets_83 rfl ?_
                  refine vc_getR dX3_countStreets_84 flX3_15 (s_50 hQ44.1.1) rfl (r_50_1 hQ44.1.1) ?_
                  refine vc_iload_n dX3_countStreets_87 rfl ?_
                  refine vc_iload_n dX3_countStreets_88 rfl ?_
                  refine vc_iastore dX3_countStreets_89 (s_51 hQ44.1.1) (by omega) (by omega) ?_
                  have kp29 : mI (sI Mq44 51 v2.toNat v1) 1 = mI M 1 := (kp_sI kp44_1 rfl)
                  have kp30 : mI (sI Mq44 51 v2.toNat v1) 3 = mI M 3 := (kp_sI kp44_3 rfl)
                  have hB31 : BF fQ M (sI Mq44 51 v2.toNat v1) := BF.w51 hQ44 (fun _ => rfl) _
                  refine vc_aload_n dX3_countStreets_90 rfl ?_
                  refine vc_getR dX3_countStreets_91 flX3_19 (s_50 hB31.1.1) rfl (r_50_2 hB31.1.1) ?_
                  refine vc_iload_n dX3_countStreets_94 rfl ?_
                  refine vc_iconst dX3_countStreets_95 rfl ?_
                  refine vc_aload_n dX3_countStreets_96 rfl ?_
                  refine vc_getR dX3_countStreets_97 flX3_9 (s_50 hB31.1.1) rfl (r_50_0 hB31.1.1) ?_
                  refine vc_iload_n dX3_countStreets_100 rfl ?_
                  refine vc_iload_n dX3_countStreets_101 rfl ?_
                  refine vc_cVI dX3_countStreets_102 (sfX6_ahead (M := (sI Mq44 51 v2.toNat v1)) hB31.1  v2 x24 ) rfl okX6_ahead viX6_ahead lkX3_78 (s_1 hB31.1.1) cl_6 rfl (Nat.le_of_ble_eq_true rfl) ⟨rfl, rfl⟩ (Nat.le_of_ble_eq_true rfl) (Nat.le_of_ble_eq_true rfl) (Nat.le_of_ble_eq_true rfl) ?_
                  rintro x32 _ ⟨rfl, h33, h34, h35, h36⟩
                  have hz8 := congrFun kp30 (4 * v2 + x24 % 4).toNat
                  have hz7 := congrFun kp29 6
                  have hz6 := congrFun kp44_3 (4 * v2 + x24 % 4).toNat
                  have hz5 := congrFun kp44_1 6
                  have hz4 : 0 ≤ x32 := by omega
                  refine vc_imulE dX3_countStreets_105 (by omega) (by omega) ?_
                  refine vc_iload_n dX3_countStreets_106 rfl ?_
                  refine vc_iaddE dX3_countStreets_107 (by omega) (by omega) ?_
                  refine vc_iastore dX3_countStreets_108 (s_52 hB31.1.1) (by omega) (by omega) ?_
                  have kp37 : mI (sI (sI Mq44 51 v2.toNat v1) 52 v2.toNat ((4 * x32) + x24)) 1 = mI M 1 := (kp_sI kp29 rfl)
                  have kp38 : mI (sI (sI Mq44 51 v2.toNat v1) 52 v2.toNat ((4 * x32) + x24)) 3 = mI M 3 := (kp_sI kp30 rfl)
                  have hB39 : BF fQ M (sI (sI Mq44 51 v2.toNat v1) 52 v2.toNat ((4 * x32) + x24)) := BF.w52 hB31 (fun _ => rfl) _ (by omega) (by omega)
                  refine vc_aload_n dX3_countStreets_109 rfl ?_
                  refine vc_dup dX3_countStreets_110 rfl ?_
                  refine vc_getI dX3_countStreets_111 flX3_41 (s_50 hB39.1.1) rfl ?_
                  refine vc_topI (mI Mq44 50 4) rfl ?_
                  refine vc_iconst dX3_countStreets_114 rfl ?_
                  refine vc_iload_n dX3_countStreets_115 rfl ?_
                  refine vc_ishl dX3_countStreets_116 ?_
                  refine vc_ior dX3_countStreets_117 ?_
                  refine vc_putI dX3_countStreets_118 (plX3_41 _ rfl) (s_50 hB39.1.1) rfl ?_
                  have kp40 : mI (sI (sI (sI Mq44 51 v2.toNat v1) 52 v2.toNat ((4 * x32) + x24)) 50 4 (orI (mI Mq44 50 4) (shlI 1 v2))) 1 = mI M 1 := (kp_sI kp37 rfl)
                  have kp41 : mI (sI (sI (sI Mq44 51 v2.toNat v1) 52 v2.toNat ((4 * x32) + x24)) 50 4 (orI (mI Mq44 50 4) (shlI 1 v2))) 3 = mI M 3 := (kp_sI kp38 rfl)
                  have hB42 : BF fQ M (sI (sI (sI Mq44 51 v2.toNat v1) 52 v2.toNat ((4 * x32) + x24)) 50 4 (orI (mI Mq44 50 4) (shlI 1 v2))) := BF.w50_4 hB39 rfl
                  refine vc_iincE dX3_countStreets_121 rfl (by omega) (by omega) (by decide) rfl (show _ = [some (aR 50), some (aI v1), some (aI (v2 + 1)), some (aI x24)] from rfl) ?_
                  refine vc_goto dX3_countStreets_124 ?_
                  refine vc_less [some (aR 50), some (aI v1), some (aI (v2 + 1)), none] (lessL_keep (lessL_keep (lessL_keep (lessL_drop (lessL_nil))))) ?_
                  exact ih44 (sI (sI (sI Mq44 51 v2.toNat v1) 52 v2.toNat ((4 * x32) + x24)) 50 4 (orI (mI Mq44 50 4) (shlI 1 v2))) (v2 + 1) hB42 kp40 kp41 (by omega) (by omega) (by omega)
        exact lp44 _ Mq36 0 hQ36 kp36_1 kp36_3 (by omega) (by omega) (Nat.lt_succ_self _)
  exact lp36 _ (sI (sI M1 51 ((mI M1 1 7).toNat) 0) 50 4 (shlI 1 (mI M1 1 7))) 1 hB17 kp15 kp16 (by omega) (by omega) (Nat.lt_succ_self _)

set_option maxRecDepth 4000 in
theorem sfX3_setOnward {l : Launch} {M : Mem} (hB : Box M)    : Call l mdX3_setOnward [aR 50] M (fun q N => q = none ∧ BF fQ M N) := by
  have hB0 : BF fQ M M := BF.start hB
  refine Call.of [some (aR 50), none, none, none, none] rfl (Nat.le_of_ble_eq_true rfl) rfl ?_
  refine vc_iconst dX3_setOnward_0 rfl ?_
  refine vc_istore_n dX3_setOnward_1 (by decide) rfl (show _ = [some (aR 50), some (aI 0), none, none, none] from rfl) ?_
  have lp2 : ∀ (n2 : Nat) (Mq2 : Mem) (v1 : Int), (BF fQ M Mq2) → (0 ≤ v1) → (v1 ≤ 64) → (64 - v1).toNat < n2 → VC l mdX3_setOnward 2 [some (aR 50), some (aI v1), none, none, none] [] Mq2 0 0 (fun q N => q = none ∧ BF fQ M N) := by
    intro n2
    induction n2 with
    | zero => intro Mq2 v1 hQ2 g2_1a g2_1b hm2; exact absurd hm2 (Nat.not_lt_zero _)
    | succ n2 ih2 =>
      intro Mq2 v1 hQ2 g2_1a g2_1b hm2
      refine vc_iload_n dX3_setOnward_2 rfl ?_
      refine vc_iconst dX3_setOnward_3 rfl ?_
      refine vc_aload_n dX3_setOnward_4 rfl ?_
      refine vc_getR dX3_setOnward_5 flX3_9 (s_50 hQ2.1.1) rfl (r_50_0 hQ2.1.1) ?_
      refine vc_getI dX3_setOnward_8 flX3_60 (s_1 hQ2.1.1) rfl ?_
      have k1 : 0 ≤ mI Mq2 1 6 ∧ mI Mq2 1 6 ≤ 16 := b1_6 (M := Mq2) hQ2.1
      refine vc_imulE dX3_setOnward_11 (by omega) (by omega) ?_
      refine vc_icmp_ge dX3_setOnward_12 (fun h2 => ?_) (fun h2 => ?_)
      · refine vc_vret dX3_setOnward_123 rfl (Nat.le_of_ble_eq_true rfl) (Nat.le_of_ble_eq_true rfl) ?_
        exact ⟨rfl, hQ2⟩
      · refine vc_iload_n dX3_setOnward_15 rfl ?_
        refine vc_iconst dX3_setOnward_16 rfl ?_
        refine vc_ishrC dX3_setOnward_17 4 2 rfl (by decide) rfl ?_
        refine vc_nameI (fun x3 ex3 => ?_)
        refine vc_istore_n dX3_setOnward_18 (by decide) rfl (show _ = [some (aR 50), some (aI v1), some (aI x3), none, none] from rfl) ?_
        refine vc_iload_n dX3_setOnward_19 rfl ?_
        refine vc_iconst dX3_setOnward_20 rfl ?_
        refine vc_iandM dX3_setOnward_21 4 2 rfl (by decide) rfl ?_
        refine vc_nameI (fun x4 ex4 => ?_)
        refine vc_istore_n dX3_setOnward_22 (by decide) rfl (show _ = [some (aR 50), some (aI v1), some (aI x3), some (aI x4), none] from rfl) ?_
        refine vc_aload_n dX3_setOnward_23 rfl ?_
        refine vc_getR dX3_setOnward_24 flX3_9 (s_50 hQ2.1.1) rfl (r_50_0 hQ2.1.1) ?_
        refine vc_iload_n dX3_setOnward_27 rfl ?_
        refine vc_iload_n dX3_setOnward_28 rfl ?_
        refine vc_cVI dX3_setOnward_29 (sfX6_ahead (M := Mq2) hQ2.1  x3 x4 ) rfl okX6_ahead viX6_ahead lkX3_78 (s_1 hQ2.1.1) cl_6 rfl (Nat.le_of_ble_eq_true rfl) ⟨rfl, rfl⟩ (Nat.le_of_ble_eq_true rfl) (Nat.le_of_ble_eq_true rfl) (Nat.le_of_ble_eq_true rfl) ?_
        rintro x5 _ ⟨rfl, h6, h7, h8, h9⟩
        refine vc_iconst dX3_setOnward_32 rfl ?_
        refine vc_icmp_ne dX3_setOnward_33 (fun h10 => ?_) (fun h10 => ?_)
        · refine vc_aload_n dX3_setOnward_44 rfl ?_
          refine vc_getR dX3_setOnward_45 flX3_9 (s_50 hQ2.1.1) rfl (r_50_0 hQ2.1.1) ?_
          refine vc_iload_n dX3_setOnward_48 rfl ?_
          refine vc_iload_n dX3_setOnward_49 rfl ?_
          refine vc_cVI dX3_setOnward_50 (sfX6_ahead (M := Mq2) hQ2.1  x3 x4 ) rfl okX6_ahead viX6_ahead lkX3_78 (s_1 hQ2.1.1) cl_6 rfl (Nat.le_of_ble_eq_true rfl) ⟨rfl, rfl⟩ (Nat.le_of_ble_eq_true rfl) (Nat.le_of_ble_eq_true rfl) (Nat.le_of_ble_eq_true rfl) ?_
          rintro x11 _ ⟨rfl, h12, h13, h14, h15⟩
          refine vc_iconst dX3_setOnward_53 rfl ?_
          refine vc_icmp_ne dX3_setOnward_54 (fun h16 => ?_) (fun h16 => ?_)
          · refine vc_aload_n dX3_setOnward_65 rfl ?_
            refine vc_getR dX3_setOnward_66 flX3_9 (s_50 hQ2.1.1) rfl (r_50_0 hQ2.1.1) ?_
            refine vc_iload_n dX3_setOnward_69 rfl ?_
            refine vc_iload_n dX3_setOnward_70 rfl ?_
            refine vc_cVI dX3_setOnward_71 (sfX6_ahead (M := Mq2) hQ2.1  x3 x4 ) rfl okX6_ahead viX6_ahead lkX3_78 (s_1 hQ2.1.1) cl_6 rfl (Nat.le_of_ble_eq_true rfl) ⟨rfl, rfl⟩ (Nat.le_of_ble_eq_true rfl) (Nat.le_of_ble_eq_true rfl) (Nat.le_of_ble_eq_true rfl) ?_
            rintro x17 _ ⟨rfl, h18, h19, h20, h21⟩
            refine vc_iconst dX3_setOnward_74 rfl ?_
            refine vc_icmp_ne dX3_setOnward_75 (fun h22 => ?_) (fun h22 => ?_)
            · refine vc_aload_n dX3_setOnward_84 rfl ?_
              refine vc_getR dX3_setOnward_85 flX3_9 (s_50 hQ2.1.1) rfl (r_50_0 hQ2.1.1) ?_
              refine vc_iload_n dX3_setOnward_88 rfl ?_
              refine vc_iload_n dX3_setOnward_89 rfl ?_
              refine vc_cVI dX3_setOnward_90 (sfX6_ahead (M := Mq2) hQ2.1  x3 x4 ) rfl okX6_ahead viX6_ahead lkX3_78 (s_1 hQ2.1.1) cl_6 rfl (Nat.le_of_ble_eq_true rfl) ⟨rfl, rfl⟩ (Nat.le_of_ble_eq_true rfl) (Nat.le_of_ble_eq_true rfl) (Nat.le_of_ble_eq_true rfl) ?_
              rintro x23 _ ⟨rfl, h24, h25, h26, h27⟩
              refine vc_istore dX3_setOnward_93 (by decide) rfl (show _ = [some (aR 50), some (aI v1), some (aI x3), some (aI x4), some (aI x23)] from rfl) ?_
              refine vc_aload_n dX3_setOnward_95 rfl ?_
              refine vc_getR dX3_setOnward_96 flX3_22 (s_50 hQ2.1.1) rfl (r_50_3 hQ2.1.1) ?_
              refine vc_iload_n dX3_setOnward_99 rfl ?_
              refine vc_iload dX3_setOnward_100 rfl ?_
              refine vc_iconst dX3_setOnward_102 rfl ?_
              refine vc_icmp_ne dX3_setOnward_103 (fun h28 => ?_) (fun h28 => ?_)
              · refine vc_iconst dX3_setOnward_110 rfl ?_
                refine vc_iload dX3_setOnward_111 rfl ?_
                refine vc_imulE dX3_setOnward_113 (by omega) (by omega) ?_
                refine vc_iload_n dX3_setOnward_114 rfl ?_
                refine vc_iaddE dX3_setOnward_115 (by omega) (by omega) ?_
                refine vc_iastore dX3_setOnward_116 (s_53 hQ2.1.1) (by omega) (by omega) ?_
                have hB29 : BF fQ M (sI Mq2 53 v1.toNat ((4 * x23) + x4)) := BF.w53 hQ2 (fun _ => rfl) _ (by omega) (by omega)
                refine vc_iincE dX3_setOnward_117 rfl (by omega) (by omega) (by decide) rfl (show _ = [some (aR 50), some (aI (v1 + 1)), some (aI x3), some (aI x4), some (aI x23)] from rfl) ?_
                refine vc_goto dX3_setOnward_120 ?_
                refine vc_less [some (aR 50), some (aI (v1 + 1)), none, none, none] (lessL_keep (lessL_keep (lessL_drop (lessL_drop (lessL_drop (lessL_nil)))))) ?_
                exact ih2 (sI Mq2 53 v1.toNat ((4 * x23) + x4)) (v1 + 1) hB29 (by omega) (by omega) (by omega)
              · refine vc_iload_n dX3_setOnward_106 rfl ?_
                refine vc_goto dX3_setOnward_107 ?_
                refine vc_iastore dX3_setOnward_116 (s_53 hQ2.1.1) (by omega) (by omega) ?_
                have hB30 : BF fQ M (sI Mq2 53 v1.toNat v1) := BF.w53 hQ2 (fun _ => rfl) _ (by omega) (by omega)
                refine vc_iincE dX3_setOnward_117 rfl (by omega) (by omega) (by decide) rfl (show _ = [some (aR 50), some (aI (v1 + 1)), some (aI x3), some (aI x4), some (aI x23)] from rfl) ?_
                refine vc_goto dX3_setOnward_120 ?_
                refine vc_less [some (aR 50), some (aI (v1 + 1)), none, none, none] (lessL_keep (lessL_keep (lessL_drop (lessL_drop (lessL_drop (lessL_nil)))))) ?_
                exact ih2 (sI Mq2 53 v1.toNat v1) (v1 + 1) hB30 (by omega) (by omega) (by omega)
            · refine vc_iload_n dX3_setOnward_78 rfl ?_
              refine vc_iconst dX3_setOnward_79 rfl ?_
              refine vc_iadd dX3_setOnward_80 ?_
              refine vc_iconst dX3_setOnward_81 rfl ?_
              refine vc_iandW dX3_setOnward_82 4 2 rfl (by decide) rfl ?_
              refine vc_nameI (fun x31 ex31 => ?_)
              refine vc_istore_n dX3_setOnward_83 (by decide) rfl (show _ = [some (aR 50), some (aI v1), some (aI x3), some (aI x31), none] from rfl) ?_
              refine vc_aload_n dX3_setOnward_84 rfl ?_
              refine vc_getR dX3_setOnward_85 flX3_9 (s_50 hQ2.1.1) rfl (r_50_0 hQ2.1.1) ?_
              refine vc_iload_n dX3_setOnward_88 rfl ?_
              refine vc_iload_n dX3_setOnward_89 rfl ?_
              refine vc_cVI dX3_setOnward_90 (sfX6_ahead (M := Mq2) hQ2.1  x3 x31 ) rfl okX6_ahead viX6_ahead lkX3_78 (s_1 hQ2.1.1) cl_6 rfl (Nat.le_of_ble_eq_true rfl) ⟨rfl, rfl⟩ (Nat.le_of_ble_eq_true rfl) (Nat.le_of_ble_eq_true rfl) (Nat.le_of_ble_eq_true rfl) ?_
              rintro x32 _ ⟨rfl, h33, h34, h35, h36⟩
              refine vc_istore dX3_setOnward_93 (by decide) rfl (show _ = [some (aR 50), some (aI v1), some (aI x3), some (aI x31), some (aI x32)] from rfl) ?_
              refine vc_aload_n dX3_setOnward_95 rfl ?_
              refine vc_getR dX3_setOnward_96 flX3_22 (s_50 hQ2.1.1) rfl (r_50_3 hQ2.1.1) ?_
              refine vc_iload_n dX3_setOnward_99 rfl ?_
              refine vc_iload dX3_setOnward_100 rfl ?_
              refine vc_iconst dX3_setOnward_102 rfl ?_
              refine vc_icmp_ne dX3_setOnward_103 (fun h37 => ?_) (fun h37 => ?_)
              · refine vc_iconst dX3_setOnward_110 rfl ?_
                refine vc_iload dX3_setOnward_111 rfl ?_
                refine vc_imulE dX3_setOnward_113 (by omega) (by omega) ?_
                refine vc_iload_n dX3_setOnward_114 rfl ?_
                refine vc_iaddE dX3_setOnward_115 (by omega) (by omega) ?_
                refine vc_iastore dX3_setOnward_116 (s_53 hQ2.1.1) (by omega) (by omega) ?_
                have hB38 : BF fQ M (sI Mq2 53 v1.toNat ((4 * x32) + x31)) := BF.w53 hQ2 (fun _ => rfl) _ (by omega) (by omega)
                refine vc_iincE dX3_setOnward_117 rfl (by omega) (by omega) (by decide) rfl (show _ = [some (aR 50), some (aI (v1 + 1)), some (aI x3), some (aI x31), some (aI x32)] from rfl) ?_
                refine vc_goto dX3_setOnward_120 ?_
                refine vc_less [some (aR 50), some (aI (v1 + 1)), none, none, none] (lessL_keep (lessL_keep (lessL_drop (lessL_drop (lessL_drop (lessL_nil)))))) ?_
                exact ih2 (sI Mq2 53 v1.toNat ((4 * x32) + x31)) (v1 + 1) hB38 (by omega) (by omega) (by omega)
              · refine vc_iload_n dX3_setOnward_106 rfl ?_
                refine vc_goto dX3_setOnward_107 ?_
                refine vc_iastore dX3_setOnward_116 (s_53 hQ2.1.1) (by omega) (by omega) ?_
                have hB39 : BF fQ M (sI Mq2 53 v1.toNat v1) := BF.w53 hQ2 (fun _ => rfl) _ (by omega) (by omega)
                refine vc_iincE dX3_setOnward_117 rfl (by omega) (by omega) (by decide) rfl (show _ = [some (aR 50), some (aI (v1 + 1)), some (aI x3), some (aI x31), some (aI x32)] from rfl) ?_
                refine vc_goto dX3_setOnward_120 ?_
                refine vc_less [some (aR 50), some (aI (v1 + 1)), none, none, none] (lessL_keep (lessL_keep (lessL_drop (lessL_drop (lessL_drop (lessL_nil)))))) ?_
                exact ih2 (sI Mq2 53 v1.toNat v1) (v1 + 1) hB39 (by omega) (by omega) (by omega)
          · refine vc_iload_n dX3_setOnward_57 rfl ?_
            refine vc_iconst dX3_setOnward_58 rfl ?_
            refine vc_iandM dX3_setOnward_59 4 2 rfl (by decide) rfl ?_
            refine vc_iconst dX3_setOnward_60 rfl ?_
            refine vc_cSI dX3_setOnward_61 (sfX1_sideOf_d (M := Mq2) hQ2.1  (v1 % 4) 1 (by omega) (by omega)) rfl okX1_sideOf stX1_sideOf lkX3_81 rfl (Nat.le_of_ble_eq_true rfl) ⟨rfl, rfl⟩ (Nat.le_of_ble_eq_true rfl) (Nat.le_of_ble_eq_true rfl) (Nat.le_of_ble_eq_true rfl) ?_
            rintro x40 _ ⟨rfl, h41, h42⟩
            refine vc_istore_n dX3_setOnward_64 (by decide) rfl (show _ = [some (aR 50), some (aI v1), some (aI x3), some (aI x40), none] from rfl) ?_
            refine vc_aload_n dX3_setOnward_65 rfl ?_
            refine vc_getR dX3_setOnward_66 flX3_9 (s_50 hQ2.1.1) rfl (r_50_0 hQ2.1.1) ?_
            refine vc_iload_n dX3_setOnward_69 rfl ?_
            refine vc_iload_n dX3_setOnward_70 rfl ?_
            refine vc_cVI dX3_setOnward_71 (sfX6_ahead (M := Mq2) hQ2.1  x3 x40 ) rfl okX6_ahead viX6_ahead lkX3_78 (s_1 hQ2.1.1) cl_6 rfl (Nat.le_of_ble_eq_true rfl) ⟨rfl, rfl⟩ (Nat.le_of_ble_eq_true rfl) (Nat.le_of_ble_eq_true rfl) (Nat.le_of_ble_eq_true rfl) ?_
            rintro x43 _ ⟨rfl, h44, h45, h46, h47⟩
            refine vc_iconst dX3_setOnward_74 rfl ?_
            refine vc_icmp_ne dX3_setOnward_75 (fun h48 => ?_) (fun h48 => ?_)
            · refine vc_aload_n dX3_setOnward_84 rfl ?_
              refine vc_getR dX3_setOnward_85 flX3_9 (s_50 hQ2.1.1) rfl (r_50_0 hQ2.1.1) ?_
              refine vc_iload_n dX3_setOnward_88 rfl ?_
              refine vc_iload_n dX3_setOnward_89 rfl ?_
              refine vc_cVI dX3_setOnward_90 (sfX6_ahead (M := Mq2) hQ2.1  x3 x40 ) rfl okX6_ahead viX6_ahead lkX3_78 (s_1 hQ2.1.1) cl_6 rfl (Nat.le_of_ble_eq_true rfl) ⟨rfl, rfl⟩ (Nat.le_of_ble_eq_true rfl) (Nat.le_of_ble_eq_true rfl) (Nat.le_of_ble_eq_true rfl) ?_
              rintro x49 _ ⟨rfl, h50, h51, h52, h53⟩
              refine vc_istore dX3_setOnward_93 (by decide) rfl (show _ = [some (aR 50), some (aI v1), some (aI x3), some (aI x40), some (aI x49)] from rfl) ?_
              refine vc_aload_n dX3_setOnward_95 rfl ?_
              refine vc_getR dX3_setOnward_96 flX3_22 (s_50 hQ2.1.1) rfl (r_50_3 hQ2.1.1) ?_
              refine vc_iload_n dX3_setOnward_99 rfl ?_
              refine vc_iload dX3_setOnward_100 rfl ?_
              refine vc_iconst dX3_setOnward_102 rfl ?_
              refine vc_icmp_ne dX3_setOnward_103 (fun h54 => ?_) (fun h54 => ?_)
              · refine vc_iconst dX3_setOnward_110 rfl ?_
                refine vc_iload dX3_setOnward_111 rfl ?_
                refine vc_imulE dX3_setOnward_113 (by omega) (by omega) ?_
                refine vc_iload_n dX3_setOnward_114 rfl ?_
                refine vc_iaddE dX3_setOnward_115 (by omega) (by omega) ?_
                refine vc_iastore dX3_setOnward_116 (s_53 hQ2.1.1) (by omega) (by omega) ?_
                have hB55 : BF fQ M (sI Mq2 53 v1.toNat ((4 * x49) + x40)) := BF.w53 hQ2 (fun _ => rfl) _ (by omega) (by omega)
                refine vc_iincE dX3_setOnward_117 rfl (by omega) (by omega) (by decide) rfl (show _ = [some (aR 50), some (aI (v1 + 1)), some (aI x3), some (aI x40), some (aI x49)] from rfl) ?_
                refine vc_goto dX3_setOnward_120 ?_
                refine vc_less [some (aR 50), some (aI (v1 + 1)), none, none, none] (lessL_keep (lessL_keep (lessL_drop (lessL_drop (lessL_drop (lessL_nil)))))) ?_
                exact ih2 (sI Mq2 53 v1.toNat ((4 * x49) + x40)) (v1 + 1) hB55 (by omega) (by omega) (by omega)
              · refine vc_iload_n dX3_setOnward_106 rfl ?_
                refine vc_goto dX3_setOnward_107 ?_
                refine vc_iastore dX3_setOnward_116 (s_53 hQ2.1.1) (by omega) (by omega) ?_
                have hB56 : BF fQ M (sI Mq2 53 v1.toNat v1) := BF.w53 hQ2 (fun _ => rfl) _ (by omega) (by omega)
                refine vc_iincE dX3_setOnward_117 rfl (by omega) (by omega) (by decide) rfl (show _ = [some (aR 50), some (aI (v1 + 1)), some (aI x3), some (aI x40), some (aI x49)] from rfl) ?_
                refine vc_goto dX3_setOnward_120 ?_
                refine vc_less [some (aR 50), some (aI (v1 + 1)), none, none, none] (lessL_keep (lessL_keep (lessL_drop (lessL_drop (lessL_drop (lessL_nil)))))) ?_
                exact ih2 (sI Mq2 53 v1.toNat v1) (v1 + 1) hB56 (by omega) (by omega) (by omega)
            · refine vc_iload_n dX3_setOnward_78 rfl ?_
              refine vc_iconst dX3_setOnward_79 rfl ?_
              refine vc_iadd dX3_setOnward_80 ?_
              refine vc_iconst dX3_setOnward_81 rfl ?_
              refine vc_iandW dX3_setOnward_82 4 2 rfl (by decide) rfl ?_
              refine vc_nameI (fun x57 ex57 => ?_)
              refine vc_istore_n dX3_setOnward_83 (by decide) rfl (show _ = [some (aR 50), some (aI v1), some (aI x3), some (aI x57), none] from rfl) ?_
              refine vc_aload_n dX3_setOnward_84 rfl ?_
              refine vc_getR dX3_setOnward_85 flX3_9 (s_50 hQ2.1.1) rfl (r_50_0 hQ2.1.1) ?_
              refine vc_iload_n dX3_setOnward_88 rfl ?_
              refine vc_iload_n dX3_setOnward_89 rfl ?_
              refine vc_cVI dX3_setOnward_90 (sfX6_ahead (M := Mq2) hQ2.1  x3 x57 ) rfl okX6_ahead viX6_ahead lkX3_78 (s_1 hQ2.1.1) cl_6 rfl (Nat.le_of_ble_eq_true rfl) ⟨rfl, rfl⟩ (Nat.le_of_ble_eq_true rfl) (Nat.le_of_ble_eq_true rfl) (Nat.le_of_ble_eq_true rfl) ?_
              rintro x58 _ ⟨rfl, h59, h60, h61, h62⟩
              refine vc_istore dX3_setOnward_93 (by decide) rfl (show _ = [some (aR 50), some (aI v1), some (aI x3), some (aI x57), some (aI x58)] from rfl) ?_
              refine vc_aload_n dX3_setOnward_95 rfl ?_
              refine vc_getR dX3_setOnward_96 flX3_22 (s_50 hQ2.1.1) rfl (r_50_3 hQ2.1.1) ?_
              refine vc_iload_n dX3_setOnward_99 rfl ?_
              refine vc_iload dX3_setOnward_100 rfl ?_
              refine vc_iconst dX3_setOnward_102 rfl ?_
              refine vc_icmp_ne dX3_setOnward_103 (fun h63 => ?_) (fun h63 => ?_)
              · refine vc_iconst dX3_setOnward_110 rfl ?_
                refine vc_iload dX3_setOnward_111 rfl ?_
                refine vc_imulE dX3_setOnward_113 (by omega) (by omega) ?_
                refine vc_iload_n dX3_setOnward_114 rfl ?_
                refine vc_iaddE dX3_setOnward_115 (by omega) (by omega) ?_
                refine vc_iastore dX3_setOnward_116 (s_53 hQ2.1.1) (by omega) (by omega) ?_
                have hB64 : BF fQ M (sI Mq2 53 v1.toNat ((4 * x58) + x57)) := BF.w53 hQ2 (fun _ => rfl) _ (by omega) (by omega)
                refine vc_iincE dX3_setOnward_117 rfl (by omega) (by omega) (by decide) rfl (show _ = [some (aR 50), some (aI (v1 + 1)), some (aI x3), some (aI x57), some (aI x58)] from rfl) ?_
                refine vc_goto dX3_setOnward_120 ?_
                refine vc_less [some (aR 50), some (aI (v1 + 1)), none, none, none] (lessL_keep (lessL_keep (lessL_drop (lessL_drop (lessL_drop (lessL_nil)))))) ?_
                exact ih2 (sI Mq2 53 v1.toNat ((4 * x58) + x57)) (v1 + 1) hB64 (by omega) (by omega) (by omega)
              · refine vc_iload_n dX3_setOnward_106 rfl ?_
                refine vc_goto dX3_setOnward_107 ?_
                refine vc_iastore dX3_setOnward_116 (s_53 hQ2.1.1) (by omega) (by omega) ?_
                have hB65 : BF fQ M (sI Mq2 53 v1.toNat v1) := BF.w53 hQ2 (fun _ => rfl) _ (by omega) (by omega)
                refine vc_iincE dX3_setOnward_117 rfl (by omega) (by omega) (by decide) rfl (show _ = [some (aR 50), some (aI (v1 + 1)), some (aI x3), some (aI x57), some (aI x58)] from rfl) ?_
                refine vc_goto dX3_setOnward_120 ?_
                refine vc_less [some (aR 50), some (aI (v1 + 1)), none, none, none] (lessL_keep (lessL_keep (lessL_drop (lessL_drop (lessL_drop (lessL_nil)))))) ?_
                exact ih2 (sI Mq2 53 v1.toNat v1) (v1 + 1) hB65 (by omega) (by omega) (by omega)
        · refine vc_iload_n dX3_setOnward_36 rfl ?_
          refine vc_iconst dX3_setOnward_37 rfl ?_
          refine vc_iandM dX3_setOnward_38 4 2 rfl (by decide) rfl ?_
          refine vc_iconst dX3_setOnward_39 rfl ?_
          refine vc_cSI dX3_setOnward_40 (sfX1_sideOf_d (M := Mq2) hQ2.1  (v1 % 4) 2 (by omega) (by omega)) rfl okX1_sideOf stX1_sideOf lkX3_81 rfl (Nat.le_of_ble_eq_true rfl) ⟨rfl, rfl⟩ (Nat.le_of_ble_eq_true rfl) (Nat.le_of_ble_eq_true rfl) (Nat.le_of_ble_eq_true rfl) ?_
          rintro x66 _ ⟨rfl, h67, h68⟩
          refine vc_istore_n dX3_setOnward_43 (by decide) rfl (show _ = [some (aR 50), some (aI v1), some (aI x3), some (aI x66), none] from rfl) ?_
          refine vc_aload_n dX3_setOnward_44 rfl ?_
          refine vc_getR dX3_setOnward_45 flX3_9 (s_50 hQ2.1.1) rfl (r_50_0 hQ2.1.1) ?_
          refine vc_iload_n dX3_setOnward_48 rfl ?_
          refine vc_iload_n dX3_setOnward_49 rfl ?_
          refine vc_cVI dX3_setOnward_50 (sfX6_ahead (M := Mq2) hQ2.1  x3 x66 ) rfl okX6_ahead viX6_ahead lkX3_78 (s_1 hQ2.1.1) cl_6 rfl (Nat.le_of_ble_eq_true rfl) ⟨rfl, rfl⟩ (Nat.le_of_ble_eq_true rfl) (Nat.le_of_ble_eq_true rfl) (Nat.le_of_ble_eq_true rfl) ?_
          rintro x69 _ ⟨rfl, h70, h71, h72, h73⟩
          refine vc_iconst dX3_setOnward_53 rfl ?_
          refine vc_icmp_ne dX3_setOnward_54 (fun h74 => ?_) (fun h74 => ?_)
          · refine vc_aload_n dX3_setOnward_65 rfl ?_
            refine vc_getR dX3_setOnward_66 flX3_9 (s_50 hQ2.1.1) rfl (r_50_0 hQ2.1.1) ?_
            refine vc_iload_n dX3_setOnward_69 rfl ?_
            refine vc_iload_n dX3_setOnward_70 rfl ?_
            refine vc_cVI dX3_setOnward_71 (sfX6_ahead (M := Mq2) hQ2.1  x3 x66 ) rfl okX6_ahead viX6_ahead lkX3_78 (s_1 hQ2.1.1) cl_6 rfl (Nat.le_of_ble_eq_true rfl) ⟨rfl, rfl⟩ (Nat.le_of_ble_eq_true rfl) (Nat.le_of_ble_eq_true rfl) (Nat.le_of_ble_eq_true rfl) ?_
            rintro x75 _ ⟨rfl, h76, h77, h78, h79⟩
            refine vc_iconst dX3_setOnward_74 rfl ?_
            refine vc_icmp_ne dX3_setOnward_75 (fun h80 => ?_) (fun h80 => ?_)
            · refine vc_aload_n dX3_setOnward_84 rfl ?_
              refine vc_getR dX3_setOnward_85 flX3_9 (s_50 hQ2.1.1) rfl (r_50_0 hQ2.1.1) ?_
              refine vc_iload_n dX3_setOnward_88 rfl ?_
              refine vc_iload_n dX3_setOnward_89 rfl ?_
              refine vc_cVI dX3_setOnward_90 (sfX6_ahead (M := Mq2) hQ2.1  x3 x66 ) rfl okX6_ahead viX6_ahead lkX3_78 (s_1 hQ2.1.1) cl_6 rfl (Nat.le_of_ble_eq_true rfl) ⟨rfl, rfl⟩ (Nat.le_of_ble_eq_true rfl) (Nat.le_of_ble_eq_true rfl) (Nat.le_of_ble_eq_true rfl) ?_
              rintro x81 _ ⟨rfl, h82, h83, h84, h85⟩
              refine vc_istore dX3_setOnward_93 (by decide) rfl (show _ = [some (aR 50), some (aI v1), some (aI x3), some (aI x66), some (aI x81)] from rfl) ?_
              refine vc_aload_n dX3_setOnward_95 rfl ?_
              refine vc_getR dX3_setOnward_96 flX3_22 (s_50 hQ2.1.1) rfl (r_50_3 hQ2.1.1) ?_
              refine vc_iload_n dX3_setOnward_99 rfl ?_
              refine vc_iload dX3_setOnward_100 rfl ?_
              refine vc_iconst dX3_setOnward_102 rfl ?_
              refine vc_icmp_ne dX3_setOnward_103 (fun h86 => ?_) (fun h86 => ?_)
              · refine vc_iconst dX3_setOnward_110 rfl ?_
                refine vc_iload dX3_setOnward_111 rfl ?_
                refine vc_imulE dX3_setOnward_113 (by omega) (by omega) ?_
                refine vc_iload_n dX3_setOnward_114 rfl ?_
                refine vc_iaddE dX3_setOnward_115 (by omega) (by omega) ?_
                refine vc_iastore dX3_setOnward_116 (s_53 hQ2.1.1) (by omega) (by omega) ?_
                have hB87 : BF fQ M (sI Mq2 53 v1.toNat ((4 * x81) + x66)) := BF.w53 hQ2 (fun _ => rfl) _ (by omega) (by omega)
                refine vc_iincE dX3_setOnward_117 rfl (by omega) (by omega) (by decide) rfl (show _ = [some (aR 50), some (aI (v1 + 1)), some (aI x3), some (aI x66), some (aI x81)] from rfl) ?_
                refine vc_goto dX3_setOnward_120 ?_
                refine vc_less [some (aR 50), some (aI (v1 + 1)), none, none, none] (lessL_keep (lessL_keep (lessL_drop (lessL_drop (lessL_drop (lessL_nil)))))) ?_
                exact ih2 (sI Mq2 53 v1.toNat ((4 * x81) + x66)) (v1 + 1) hB87 (by omega) (by omega) (by omega)
              · refine vc_iload_n dX3_setOnward_106 rfl ?_
                refine vc_goto dX3_setOnward_107 ?_
                refine vc_iastore dX3_setOnward_116 (s_53 hQ2.1.1) (by omega) (by omega) ?_
                have hB88 : BF fQ M (sI Mq2 53 v1.toNat v1) := BF.w53 hQ2 (fun _ => rfl) _ (by omega) (by omega)
                refine vc_iincE dX3_setOnward_117 rfl (by omega) (by omega) (by decide) rfl (show _ = [some (aR 50), some (aI (v1 + 1)), some (aI x3), some (aI x66), some (aI x81)] from rfl) ?_
                refine vc_goto dX3_setOnward_120 ?_
                refine vc_less [some (aR 50), some (aI (v1 + 1)), none, none, none] (lessL_keep (lessL_keep (lessL_drop (lessL_drop (lessL_drop (lessL_nil)))))) ?_
                exact ih2 (sI Mq2 53 v1.toNat v1) (v1 + 1) hB88 (by omega) (by omega) (by omega)
            · refine vc_iload_n dX3_setOnward_78 rfl ?_
              refine vc_iconst dX3_setOnward_79 rfl ?_
              refine vc_iadd dX3_setOnward_80 ?_
              refine vc_iconst dX3_setOnward_81 rfl ?_
              refine vc_iandW dX3_setOnward_82 4 2 rfl (by decide) rfl ?_
              refine vc_nameI (fun x89 ex89 => ?_)
              refine vc_istore_n dX3_setOnward_83 (by decide) rfl (show _ = [some (aR 50), some (aI v1), some (aI x3), some (aI x89), none] from rfl) ?_
              refine vc_aload_n dX3_setOnward_84 rfl ?_
              refine vc_getR dX3_setOnward_85 flX3_9 (s_50 hQ2.1.1) rfl (r_50_0 hQ2.1.1) ?_
              refine vc_iload_n dX3_setOnward_88 rfl ?_
              refine vc_iload_n dX3_setOnward_89 rfl ?_
              refine vc_cVI dX3_setOnward_90 (sfX6_ahead (M := Mq2) hQ2.1  x3 x89 ) rfl okX6_ahead viX6_ahead lkX3_78 (s_1 hQ2.1.1) cl_6 rfl (Nat.le_of_ble_eq_true rfl) ⟨rfl, rfl⟩ (Nat.le_of_ble_eq_true rfl) (Nat.le_of_ble_eq_true rfl) (Nat.le_of_ble_eq_true rfl) ?_
              rintro x90 _ ⟨rfl, h91, h92, h93, h94⟩
              refine vc_istore dX3_setOnward_93 (by decide) rfl (show _ = [some (aR 50), some (aI v1), some (aI x3), some (aI x89), some (aI x90)] from rfl) ?_
              refine vc_aload_n dX3_setOnward_95 rfl ?_
              refine vc_getR dX3_setOnward_96 flX3_22 (s_50 hQ2.1.1) rfl (r_50_3 hQ2.1.1) ?_
              refine vc_iload_n dX3_setOnward_99 rfl ?_
              refine vc_iload dX3_setOnward_100 rfl ?_
              refine vc_iconst dX3_setOnward_102 rfl ?_
              refine vc_icmp_ne dX3_setOnward_103 (fun h95 => ?_) (fun h95 => ?_)
              · refine vc_iconst dX3_setOnward_110 rfl ?_
                refine vc_iload dX3_setOnward_111 rfl ?_
                refine vc_imulE dX3_setOnward_113 (by omega) (by omega) ?_
                refine vc_iload_n dX3_setOnward_114 rfl ?_
                refine vc_iaddE dX3_setOnward_115 (by omega) (by omega) ?_
                refine vc_iastore dX3_setOnward_116 (s_53 hQ2.1.1) (by omega) (by omega) ?_
                have hB96 : BF fQ M (sI Mq2 53 v1.toNat ((4 * x90) + x89)) := BF.w53 hQ2 (fun _ => rfl) _ (by omega) (by omega)
                refine vc_iincE dX3_setOnward_117 rfl (by omega) (by omega) (by decide) rfl (show _ = [some (aR 50), some (aI (v1 + 1)), some (aI x3), some (aI x89), some (aI x90)] from rfl) ?_
                refine vc_goto dX3_setOnward_120 ?_
                refine vc_less [some (aR 50), some (aI (v1 + 1)), none, none, none] (lessL_keep (lessL_keep (lessL_drop (lessL_drop (lessL_drop (lessL_nil)))))) ?_
                exact ih2 (sI Mq2 53 v1.toNat ((4 * x90) + x89)) (v1 + 1) hB96 (by omega) (by omega) (by omega)
              · refine vc_iload_n dX3_setOnward_106 rfl ?_
                refine vc_goto dX3_setOnward_107 ?_
                refine vc_iastore dX3_setOnward_116 (s_53 hQ2.1.1) (by omega) (by omega) ?_
                have hB97 : BF fQ M (sI Mq2 53 v1.toNat v1) := BF.w53 hQ2 (fun _ => rfl) _ (by omega) (by omega)
                refine vc_iincE dX3_setOnward_117 rfl (by omega) (by omega) (by decide) rfl (show _ = [some (aR 50), some (aI (v1 + 1)), some (aI x3), some (aI x89), some (aI x90)] from rfl) ?_
                refine vc_goto dX3_setOnward_120 ?_
                refine vc_less [some (aR 50), some (aI (v1 + 1)), none, none, none] (lessL_keep (lessL_keep (lessL_drop (lessL_drop (lessL_drop (lessL_nil)))))) ?_
                exact ih2 (sI Mq2 53 v1.toNat v1) (v1 + 1) hB97 (by omega) (by omega) (by omega)
          · refine vc_iload_n dX3_setOnward_57 rfl ?_
            refine vc_iconst dX3_setOnward_58 rfl ?_
            refine vc_iandM dX3_setOnward_59 4 2 rfl (by decide) rfl ?_
            refine vc_iconst dX3_setOnward_60 rfl ?_
            refine vc_cSI dX3_setOnward_61 (sfX1_sideOf_d (M := Mq2) hQ2.1  (v1 % 4) 1 (by omega) (by omega)) rfl okX1_sideOf stX1_sideOf lkX3_81 rfl (Nat.le_of_ble_eq_true rfl) ⟨rfl, rfl⟩ (Nat.le_of_ble_eq_true rfl) (Nat.le_of_ble_eq_true rfl) (Nat.le_of_ble_eq_true rfl) ?_
            rintro x98 _ ⟨rfl, h99, h100⟩
            refine vc_istore_n dX3_setOnward_64 (by decide) rfl (show _ = [some (aR 50), some (aI v1), some (aI x3), some (aI x98), none] from rfl) ?_
            refine vc_aload_n dX3_setOnward_65 rfl ?_
            refine vc_getR dX3_setOnward_66 flX3_9 (s_50 hQ2.1.1) rfl (r_50_0 hQ2.1.1) ?_
            refine vc_iload_n dX3_setOnward_69 rfl ?_
            refine vc_iload_n dX3_setOnward_70 rfl ?_
            refine vc_cVI dX3_setOnward_71 (sfX6_ahead (M := Mq2) hQ2.1  x3 x98 ) rfl okX6_ahead viX6_ahead lkX3_78 (s_1 hQ2.1.1) cl_6 rfl (Nat.le_of_ble_eq_true rfl) ⟨rfl, rfl⟩ (Nat.le_of_ble_eq_true rfl) (Nat.le_of_ble_eq_true rfl) (Nat.le_of_ble_eq_true rfl) ?_
            rintro x101 _ ⟨rfl, h102, h103, h104, h105⟩
            refine vc_iconst dX3_setOnward_74 rfl ?_
            refine vc_icmp_ne dX3_setOnward_75 (fun h106 => ?_) (fun h106 => ?_)
            · refine vc_aload_n dX3_setOnward_84 rfl ?_
              refine vc_getR dX3_setOnward_85 flX3_9 (s_50 hQ2.1.1) rfl (r_50_0 hQ2.1.1) ?_
              refine vc_iload_n dX3_setOnward_88 rfl ?_
              refine vc_iload_n dX3_setOnward_89 rfl ?_
              refine vc_cVI dX3_setOnward_90 (sfX6_ahead (M := Mq2) hQ2.1  x3 x98 ) rfl okX6_ahead viX6_ahead lkX3_78 (s_1 hQ2.1.1) cl_6 rfl (Nat.le_of_ble_eq_true rfl) ⟨rfl, rfl⟩ (Nat.le_of_ble_eq_true rfl) (Nat.le_of_ble_eq_true rfl) (Nat.le_of_ble_eq_true rfl) ?_
              rintro x107 _ ⟨rfl, h108, h109, h110, h111⟩
              refine vc_istore dX3_setOnward_93 (by decide) rfl (show _ = [some (aR 50), some (aI v1), some (aI x3), some (aI x98), some (aI x107)] from rfl) ?_
              refine vc_aload_n dX3_setOnward_95 rfl ?_
              refine vc_getR dX3_setOnward_96 flX3_22 (s_50 hQ2.1.1) rfl (r_50_3 hQ2.1.1) ?_
              refine vc_iload_n dX3_setOnward_99 rfl ?_
              refine vc_iload dX3_setOnward_100 rfl ?_
              refine vc_iconst dX3_setOnward_102 rfl ?_
              refine vc_icmp_ne dX3_setOnward_103 (fun h112 => ?_) (fun h112 => ?_)
              · refine vc_iconst dX3_setOnward_110 rfl ?_
                refine vc_iload dX3_setOnward_111 rfl ?_
                refine vc_imulE dX3_setOnward_113 (by omega) (by omega) ?_
                refine vc_iload_n dX3_setOnward_114 rfl ?_
                refine vc_iaddE dX3_setOnward_115 (by omega) (by omega) ?_
                refine vc_iastore dX3_setOnward_116 (s_53 hQ2.1.1) (by omega) (by omega) ?_
                have hB113 : BF fQ M (sI Mq2 53 v1.toNat ((4 * x107) + x98)) := BF.w53 hQ2 (fun _ => rfl) _ (by omega) (by omega)
                refine vc_iincE dX3_setOnward_117 rfl (by omega) (by omega) (by decide) rfl (show _ = [some (aR 50), some (aI (v1 + 1)), some (aI x3), some (aI x98), some (aI x107)] from rfl) ?_
                refine vc_goto dX3_setOnward_120 ?_
                refine vc_less [some (aR 50), some (aI (v1 + 1)), none, none, none] (lessL_keep (lessL_keep (lessL_drop (lessL_drop (lessL_drop (lessL_nil)))))) ?_
                exact ih2 (sI Mq2 53 v1.toNat ((4 * x107) + x98)) (v1 + 1) hB113 (by omega) (by omega) (by omega)
              · refine vc_iload_n dX3_setOnward_106 rfl ?_
                refine vc_goto dX3_setOnward_107 ?_
                refine vc_iastore dX3_setOnward_116 (s_53 hQ2.1.1) (by omega) (by omega) ?_
                have hB114 : BF fQ M (sI Mq2 53 v1.toNat v1) := BF.w53 hQ2 (fun _ => rfl) _ (by omega) (by omega)
                refine vc_iincE dX3_setOnward_117 rfl (by omega) (by omega) (by decide) rfl (show _ = [some (aR 50), some (aI (v1 + 1)), some (aI x3), some (aI x98), some (aI x107)] from rfl) ?_
                refine vc_goto dX3_setOnward_120 ?_
                refine vc_less [some (aR 50), some (aI (v1 + 1)), none, none, none] (lessL_keep (lessL_keep (lessL_drop (lessL_drop (lessL_drop (lessL_nil)))))) ?_
                exact ih2 (sI Mq2 53 v1.toNat v1) (v1 + 1) hB114 (by omega) (by omega) (by omega)
            · refine vc_iload_n dX3_setOnward_78 rfl ?_
              refine vc_iconst dX3_setOnward_79 rfl ?_
              refine vc_iadd dX3_setOnward_80 ?_
              refine vc_iconst dX3_setOnward_81 rfl ?_
              refine vc_iandW dX3_setOnward_82 4 2 rfl (by decide) rfl ?_
              refine vc_nameI (fun x115 ex115 => ?_)
              refine vc_istore_n dX3_setOnward_83 (by decide) rfl (show _ = [some (aR 50), some (aI v1), some (aI x3), some (aI x115), none] from rfl) ?_
              refine vc_aload_n dX3_setOnward_84 rfl ?_
              refine vc_getR dX3_setOnward_85 flX3_9 (s_50 hQ2.1.1) rfl (r_50_0 hQ2.1.1) ?_
              refine vc_iload_n dX3_setOnward_88 rfl ?_
              refine vc_iload_n dX3_setOnward_89 rfl ?_
              refine vc_cVI dX3_setOnward_90 (sfX6_ahead (M := Mq2) hQ2.1  x3 x115 ) rfl okX6_ahead viX6_ahead lkX3_78 (s_1 hQ2.1.1) cl_6 rfl (Nat.le_of_ble_eq_true rfl) ⟨rfl, rfl⟩ (Nat.le_of_ble_eq_true rfl) (Nat.le_of_ble_eq_true rfl) (Nat.le_of_ble_eq_true rfl) ?_
              rintro x116 _ ⟨rfl, h117, h118, h119, h120⟩
              refine vc_istore dX3_setOnward_93 (by decide) rfl (show _ = [some (aR 50), some (aI v1), some (aI x3), some (aI x115), some (aI x116)] from rfl) ?_
              refine vc_aload_n dX3_setOnward_95 rfl ?_
              refine vc_getR dX3_setOnward_96 flX3_22 (s_50 hQ2.1.1) rfl (r_50_3 hQ2.1.1) ?_
              refine vc_iload_n dX3_setOnward_99 rfl ?_
              refine vc_iload dX3_setOnward_100 rfl ?_
              refine vc_iconst dX3_setOnward_102 rfl ?_
              refine vc_icmp_ne dX3_setOnward_103 (fun h121 => ?_) (fun h121 => ?_)
              · refine vc_iconst dX3_setOnward_110 rfl ?_
                refine vc_iload dX3_setOnward_111 rfl ?_
                refine vc_imulE dX3_setOnward_113 (by omega) (by omega) ?_
                refine vc_iload_n dX3_setOnward_114 rfl ?_
                refine vc_iaddE dX3_setOnward_115 (by omega) (by omega) ?_
                refine vc_iastore dX3_setOnward_116 (s_53 hQ2.1.1) (by omega) (by omega) ?_
                have hB122 : BF fQ M (sI Mq2 53 v1.toNat ((4 * x116) + x115)) := BF.w53 hQ2 (fun _ => rfl) _ (by omega) (by omega)
                refine vc_iincE dX3_setOnward_117 rfl (by omega) (by omega) (by decide) rfl (show _ = [some (aR 50), some (aI (v1 + 1)), some (aI x3), some (aI x115), some (aI x116)] from rfl) ?_
                refine vc_goto dX3_setOnward_120 ?_
                refine vc_less [some (aR 50), some (aI (v1 + 1)), none, none, none] (lessL_keep (lessL_keep (lessL_drop (lessL_drop (lessL_drop (lessL_nil)))))) ?_
                exact ih2 (sI Mq2 53 v1.toNat ((4 * x116) + x115)) (v1 + 1) hB122 (by omega) (by omega) (by omega)
              · refine vc_iload_n dX3_setOnward_106 rfl ?_
                refine vc_goto dX3_setOnward_107 ?_
                refine vc_iastore dX3_setOnward_116 (s_53 hQ2.1.1) (by omega) (by omega) ?_
                have hB123 : BF fQ M (sI Mq2 53 v1.toNat v1) := BF.w53 hQ2 (fun _ => rfl) _ (by omega) (by omega)
                refine vc_iincE dX3_setOnward_117 rfl (by omega) (by omega) (by decide) rfl (show _ = [some (aR 50), some (aI (v1 + 1)), some (aI x3), some (aI x115), some (aI x116)] from rfl) ?_
                refine vc_goto dX3_setOnward_120 ?_
                refine vc_less [some (aR 50), some (aI (v1 + 1)), none, none, none] (lessL_keep (lessL_keep (lessL_drop (lessL_drop (lessL_drop (lessL_nil)))))) ?_
                exact ih2 (sI Mq2 53 v1.toNat v1) (v1 + 1) hB123 (by omega) (by omega) (by omega)
  exact lp2 _ M 0 hB0 (by omega) (by omega) (Nat.lt_succ_self _)

set_option maxRecDepth 4000 in
theorem sfX3_comes {l : Launch} {M : Mem} (hB : Box M)  (f : Int) (s : Int) (p0 : 0 ≤ f) (p1 : f ≤ 63) : Call l mdX3_comes [aR 50, aI f, aI s] M (fun q N => ∃ r : Int, q = some (aI r) ∧ BF fQ M N ∧ 0 ≤ r ∧ r ≤ 1) := by
  have hB0 : BF fQ M M := BF.start hB
  refine Call.of [some (aR 50), some (aI f), some (aI s), none, none, none, none, none] rfl (Nat.le_of_ble_eq_true rfl) rfl ?_
  refine vc_ok (fun hoM hoS hoL => ?_)
  have hr2 : -2147483648 ≤ s ∧ s < 2147483648 := hoL 2 _ rfl
  refine vc_lconst dX3_comes_0 ?_
  refine vc_topL 0 rfl ?_
  refine vc_lstore_n dX3_comes_1 (by decide) rfl rfl (show _ = [some (aR 50), some (aI f), some (aI s), some (aL 0), none, none, none, none] from rfl) ?_
  refine vc_iload_n dX3_comes_2 rfl ?_
  refine vc_istore dX3_comes_3 (by decide) rfl (show _ = [some (aR 50), some (aI f), some (aI s), some (aL 0), none, some (aI f), none, none] from rfl) ?_
  refine vc_iconst dX3_comes_5 rfl ?_
  refine vc_istore dX3_comes_6 (by decide) rfl (show _ = [some (aR 50), some (aI f), some (aI s), some (aL 0), none, some (aI f), some (aI 0), none] from rfl) ?_
  have lp8 : ∀ (n8 : Nat) (v3 : Int) (v5 : Int) (v6 : Int), (0 ≤ v5) → (v5 ≤ 63) → (0 ≤ v6) → (v6 ≤ 65) → (65 - v6).toNat < n8 → VC l mdX3_comes 8 [some (aR 50), none, some (aI s), some (aL v3), none, some (aI v5), some (aI v6), none] [] M 0 0 (fun q N => ∃ r : Int, q = some (aI r) ∧ BF fQ M N ∧ 0 ≤ r ∧ r ≤ 1) := by
    intro n8
    induction n8 with
    | zero => intro v3 v5 v6 g8_5a g8_5b g8_6a g8_6b hm8; exact absurd hm8 (Nat.not_lt_zero _)
    | succ n8 ih8 =>
      intro v3 v5 v6 g8_5a g8_5b g8_6a g8_6b hm8
      refine vc_iload dX3_comes_8 rfl ?_
      refine vc_bipush dX3_comes_10 rfl ?_
      refine vc_icmp_gt dX3_comes_12 (fun h1 => ?_) (fun h1 => ?_)
      · refine vc_iconst dX3_comes_113 rfl ?_
        refine vc_zret dX3_comes_114 rfl (by first | decide | omega) (Nat.le_of_ble_eq_true rfl) (Nat.le_of_ble_eq_true rfl) ?_
        exact ⟨_, rfl, hB0, by omega, by omega⟩
      · refine vc_iload dX3_comes_15 rfl ?_
        refine vc_iconst dX3_comes_17 rfl ?_
        refine vc_ishrC dX3_comes_18 4 2 rfl (by decide) rfl ?_
        refine vc_nameI (fun x2 ex2 => ?_)
        refine vc_istore dX3_comes_19 (by decide) rfl (show _ = [some (aR 50), none, some (aI s), some (aL v3), none, some (aI v5), some (aI v6), some (aI x2)] from rfl) ?_
        refine vc_iload dX3_comes_21 rfl ?_
        refine vc_aload_n dX3_comes_23 rfl ?_
        refine vc_getR dX3_comes_24 flX3_9 (s_50 hB0.1.1) rfl (r_50_0 hB0.1.1) ?_
        refine vc_getI dX3_comes_27 flX3_25 (s_1 hB0.1.1) rfl ?_
        have k3 : (-1) ≤ mI M 1 7 ∧ mI M 1 7 ≤ 15 := b1_7 (M := M) hB0.1
        refine vc_icmp_eq dX3_comes_30 (fun h4 => ?_) (fun h4 => ?_)
        · refine vc_aload_n dX3_comes_47 rfl ?_
          refine vc_dup dX3_comes_48 rfl ?_
          refine vc_getJ dX3_comes_49 flX3_86 (s_50 hB0.1.1) rfl ?_
          refine vc_lload_n dX3_comes_52 rfl ?_
          refine vc_lor dX3_comes_53 ?_
          refine vc_putJ dX3_comes_54 (plX3_86 _ rfl) (s_50 hB0.1.1) rfl ?_
          have hB5 : BF fQ M (sJ M 50 5 (orL (mJ M 50 5) v3)) := BF.J hB0 _ _ _ rfl
          refine vc_iconst dX3_comes_57 rfl ?_
          refine vc_zret dX3_comes_58 rfl (by first | decide | omega) (Nat.le_of_ble_eq_true rfl) (Nat.le_of_ble_eq_true rfl) ?_
          exact ⟨_, rfl, hB5, by omega, by omega⟩
        · refine vc_aload_n dX3_comes_33 rfl ?_
          refine vc_getJ dX3_comes_34 flX3_86 (s_50 hB0.1.1) rfl ?_
          refine vc_iload dX3_comes_37 rfl ?_
          refine vc_lshr dX3_comes_39 ?_
          refine vc_lconst dX3_comes_40 ?_
          refine vc_topL 1 rfl ?_
          refine vc_land dX3_comes_41 ?_
          refine vc_lconst dX3_comes_42 ?_
          refine vc_topL 0 rfl ?_
          refine vc_lif_eq dX3_comes_43 dX3_comes_44 (fun h6 => ?_) (fun h6 => ?_)
          · refine vc_lload_n dX3_comes_59 rfl ?_
            refine vc_iload dX3_comes_60 rfl ?_
            refine vc_lshr dX3_comes_62 ?_
            refine vc_lconst dX3_comes_63 ?_
            refine vc_topL 1 rfl ?_
            refine vc_land dX3_comes_64 ?_
            refine vc_lconst dX3_comes_65 ?_
            refine vc_topL 0 rfl ?_
            refine vc_lif_eq dX3_comes_66 dX3_comes_67 (fun h7 => ?_) (fun h7 => ?_)
            · refine vc_lload_n dX3_comes_72 rfl ?_
              refine vc_lconst dX3_comes_73 ?_
              refine vc_topL 1 rfl ?_
              refine vc_iload dX3_comes_74 rfl ?_
              refine vc_lshl dX3_comes_76 ?_
              refine vc_lor dX3_comes_77 ?_
              refine vc_nameL (fun x8 ex8 => ?_)
              refine vc_lstore_n dX3_comes_78 (by decide) rfl rfl (show _ = [some (aR 50), none, some (aI s), some (aL x8), none, some (aI v5), some (aI v6), some (aI x2)] from rfl) ?_
              refine vc_iload_n dX3_comes_79 rfl ?_
              refine vc_iload dX3_comes_80 rfl ?_
              refine vc_ishr dX3_comes_82 ?_
              refine vc_iconst dX3_comes_83 rfl ?_
              refine vc_iandM dX3_comes_84 2 1 rfl (by decide) rfl ?_
              refine vc_if_eq dX3_comes_85 (fun h9 => ?_) (fun h9 => ?_)
              · refine vc_aload_n dX3_comes_98 rfl ?_
                refine vc_getR dX3_comes_99 flX3_22 (s_50 hB0.1.1) rfl (r_50_3 hB0.1.1) ?_
                refine vc_iload dX3_comes_102 rfl ?_
                refine vc_iaload dX3_comes_104 (s_53 hB0.1.1) (by omega) (by omega) ?_
                have k10 : 0 ≤ mI M 53 v5.toNat ∧ mI M 53 v5.toNat ≤ 63 := bA53 (M := M) hB0.1 _
                refine vc_nameI (fun x11 ex11 => ?_)
                refine vc_istore dX3_comes_105 (by decide) rfl (show _ = [some (aR 50), none, some (aI s), some (aL x8), none, some (aI x11), some (aI v6), some (aI x2)] from rfl) ?_
                refine vc_iincE dX3_comes_107 rfl (by omega) (by omega) (by decide) rfl (show _ = [some (aR 50), none, some (aI s), some (aL x8), none, some (aI x11), some (aI (v6 + 1)), some (aI x2)] from rfl) ?_
                refine vc_goto dX3_comes_110 ?_
                refine vc_less [some (aR 50), none, some (aI s), some (aL x8), none, some (aI x11), some (aI (v6 + 1)), none] (lessL_keep (lessL_keep (lessL_keep (lessL_keep (lessL_keep (lessL_keep (lessL_keep (lessL_drop (lessL_nil))))))))) ?_
                exact ih8 x8 x11 (v6 + 1) (by omega) (by omega) (by omega) (by omega) (by omega)
              · refine vc_aload_n dX3_comes_88 rfl ?_
                refine vc_getR dX3_comes_89 flX3_19 (s_50 hB0.1.1) rfl (r_50_2 hB0.1.1) ?_
                refine vc_iload dX3_comes_92 rfl ?_
                refine vc_iaload dX3_comes_94 (s_52 hB0.1.1) (by omega) (by omega) ?_
                have k12 : 0 ≤ mI M 52 x2.toNat ∧ mI M 52 x2.toNat ≤ 63 := bA52 (M := M) hB0.1 _
                refine vc_goto dX3_comes_95 ?_
                refine vc_nameI (fun x13 ex13 => ?_)
                refine vc_istore dX3_comes_105 (by decide) rfl (show _ = [some (aR 50), none, some (aI s), some (aL x8), none, some (aI x13), some (aI v6), some (aI x2)] from rfl) ?_
                refine vc_iincE dX3_comes_107 rfl (by omega) (by omega) (by decide) rfl (show _ = [some (aR 50), none, some (aI s), some (aL x8), none, some (aI x13), some (aI (v6 + 1)), some (aI x2)] from rfl) ?_
                refine vc_goto dX3_comes_110 ?_
                refine vc_less [some (aR 50), none, some (aI s), some (aL x8), none, some (aI x13), some (aI (v6 + 1)), none] (lessL_keep (lessL_keep (lessL_keep (lessL_keep (lessL_keep (lessL_keep (lessL_keep (lessL_drop (lessL_nil))))))))) ?_
                exact ih8 x8 x13 (v6 + 1) (by omega) (by omega) (by omega) (by omega) (by omega)
            · refine vc_iconst dX3_comes_70 rfl ?_
              refine vc_zret dX3_comes_71 rfl (by first | decide | omega) (Nat.le_of_ble_eq_true rfl) (Nat.le_of_ble_eq_true rfl) ?_
              exact ⟨_, rfl, hB0, by omega, by omega⟩
          · refine vc_aload_n dX3_comes_47 rfl ?_
            refine vc_dup dX3_comes_48 rfl ?_
            refine vc_getJ dX3_comes_49 flX3_86 (s_50 hB0.1.1) rfl ?_
            refine vc_lload_n dX3_comes_52 rfl ?_
            refine vc_lor dX3_comes_53 ?_
            refine vc_putJ dX3_comes_54 (plX3_86 _ rfl) (s_50 hB0.1.1) rfl ?_
            have hB14 : BF fQ M (sJ M 50 5 (orL (mJ M 50 5) v3)) := BF.J hB0 _ _ _ rfl
            refine vc_iconst dX3_comes_57 rfl ?_
            refine vc_zret dX3_comes_58 rfl (by first | decide | omega) (Nat.le_of_ble_eq_true rfl) (Nat.le_of_ble_eq_true rfl) ?_
            exact ⟨_, rfl, hB14, by omega, by omega⟩
  refine vc_less [some (aR 50), none, some (aI s), some (aL 0), none, some (aI f), some (aI 0), none] (lessL_keep (lessL_drop (lessL_keep (lessL_keep (lessL_keep (lessL_keep (lessL_keep (lessL_keep (lessL_nil))))))))) ?_
  exact lp8 _ 0 f 0 (by omega) (by omega) (by omega) (by omega) (Nat.lt_succ_self _)

set_option maxRecDepth 4000 in
theorem sfX3_allCome {l : Launch} {M : Mem} (hB : Box M)  (s : Int)  : Call l mdX3_allCome [aR 50, aI s] M (fun q N => ∃ r : Int, q = some (aI r) ∧ BF fQ M N ∧ 0 ≤ r ∧ r ≤ 1) := by
  have hB0 : BF fQ M M := BF.start hB
  refine Call.of [some (aR 50), some (aI s), none] rfl (Nat.le_of_ble_eq_true rfl) rfl ?_
  refine vc_ok (fun hoM hoS hoL => ?_)
  have hr1 : -2147483648 ≤ s ∧ s < 2147483648 := hoL 1 _ rfl
  refine vc_aload_n dX3_allCome_0 rfl ?_
  refine vc_lconst dX3_allCome_1 ?_
  refine vc_topL 0 rfl ?_
  refine vc_putJ dX3_allCome_2 (plX3_86 _ rfl) (s_50 hB0.1.1) rfl ?_
  have hB1 : BF fQ M (sJ M 50 5 0) := BF.J hB0 _ _ _ rfl
  refine vc_iconst dX3_allCome_5 rfl ?_
  refine vc_istore_n dX3_allCome_6 (by decide) rfl (show _ = [some (aR 50), some (aI s), some (aI 0)] from rfl) ?_
  have lp7 : ∀ (n7 : Nat) (Mq7 : Mem) (v2 : Int), (BF fQ M Mq7) → (0 ≤ v2) → (v2 ≤ 64) → (64 - v2).toNat < n7 → VC l mdX3_allCome 7 [some (aR 50), some (aI s), some (aI v2)] [] Mq7 0 0 (fun q N => ∃ r : Int, q = some (aI r) ∧ BF fQ M N ∧ 0 ≤ r ∧ r ≤ 1) := by
    intro n7
    induction n7 with
    | zero => intro Mq7 v2 hQ7 g7_2a g7_2b hm7; exact absurd hm7 (Nat.not_lt_zero _)
    | succ n7 ih7 =>
      intro Mq7 v2 hQ7 g7_2a g7_2b hm7
      refine vc_iload_n dX3_allCome_7 rfl ?_
      refine vc_iconst dX3_allCome_8 rfl ?_
      refine vc_aload_n dX3_allCome_9 rfl ?_
      refine vc_getR dX3_allCome_10 flX3_9 (s_50 hQ7.1.1) rfl (r_50_0 hQ7.1.1) ?_
      refine vc_getI dX3_allCome_13 flX3_60 (s_1 hQ7.1.1) rfl ?_
      have k2 : 0 ≤ mI Mq7 1 6 ∧ mI Mq7 1 6 ≤ 16 := b1_6 (M := Mq7) hQ7.1
      refine vc_imulE dX3_allCome_16 (by omega) (by omega) ?_
      refine vc_icmp_ge dX3_allCome_17 (fun h3 => ?_) (fun h3 => ?_)
      · refine vc_iconst dX3_allCome_50 rfl ?_
        refine vc_zret dX3_allCome_51 rfl (by first | decide | omega) (Nat.le_of_ble_eq_true rfl) (Nat.le_of_ble_eq_true rfl) ?_
        exact ⟨_, rfl, hQ7, by omega, by omega⟩
      · refine vc_aload_n dX3_allCome_20 rfl ?_
        refine vc_getI dX3_allCome_21 flX3_41 (s_50 hQ7.1.1) rfl ?_
        refine vc_iload_n dX3_allCome_24 rfl ?_
        refine vc_iconst dX3_allCome_25 rfl ?_
        refine vc_ishrC dX3_allCome_26 4 2 rfl (by decide) rfl ?_
        refine vc_ishr dX3_allCome_27 ?_
        refine vc_iconst dX3_allCome_28 rfl ?_
        refine vc_iandM dX3_allCome_29 2 1 rfl (by decide) rfl ?_
        refine vc_if_eq dX3_allCome_30 (fun h4 => ?_) (fun h4 => ?_)
        · refine vc_iincE dX3_allCome_44 rfl (by omega) (by omega) (by decide) rfl (show _ = [some (aR 50), some (aI s), some (aI (v2 + 1))] from rfl) ?_
          refine vc_goto dX3_allCome_47 ?_
          exact ih7 Mq7 (v2 + 1) hQ7 (by omega) (by omega) (by omega)
        · refine vc_aload_n dX3_allCome_33 rfl ?_
          refine vc_iload_n dX3_allCome_34 rfl ?_
          refine vc_iload_n dX3_allCome_35 rfl ?_
          refine vc_cVI dX3_allCome_36 (sfX3_comes (M := Mq7) hQ7.1  v2 s (by omega) (by omega)) rfl okX3_comes viX3_comes lkX3_90 (s_50 hQ7.1.1) cl_3 rfl (Nat.le_of_ble_eq_true rfl) ⟨rfl, rfl⟩ (Nat.le_of_ble_eq_true rfl) (Nat.le_of_ble_eq_true rfl) (Nat.le_of_ble_eq_true rfl) ?_
          rintro x5 M6 ⟨hB7, h8, h9⟩
          have hB10 : BF fQ M M6 := BF.go hQ7 hB7
          refine vc_if_ne dX3_allCome_39 (fun h11 => ?_) (fun h11 => ?_)
          · refine vc_iincE dX3_allCome_44 rfl (by omega) (by omega) (by decide) rfl (show _ = [some (aR 50), some (aI s), some (aI (v2 + 1))] from rfl) ?_
            refine vc_goto dX3_allCome_47 ?_
            exact ih7 M6 (v2 + 1) hB10 (by omega) (by omega) (by omega)
          · refine vc_iconst dX3_allCome_42 rfl ?_
            refine vc_zret dX3_allCome_43 rfl (by first | decide | omega) (Nat.le_of_ble_eq_true rfl) (Nat.le_of_ble_eq_true rfl) ?_
            exact ⟨_, rfl, hB10, by omega, by omega⟩
  exact lp7 _ (sJ M 50 5 0) 0 hB1 (by omega) (by omega) (Nat.lt_succ_self _)

set_option maxRecDepth 4000 in
theorem sfX3_nextOfSize {l : Launch} {M : Mem} (hB : Box M)  (s : Int)  : Call l mdX3_nextOfSize [aI s] M (fun q N => ∃ r : Int, q = some (aI r) ∧ M = N) := by
  have hB0 : BF fQ M M := BF.start hB
  refine Call.of [some (aI s), none, none, none] rfl (Nat.le_of_ble_eq_true rfl) rfl ?_
  refine vc_ok (fun hoM hoS hoL => ?_)
  have hr0 : -2147483648 ≤ s ∧ s < 2147483648 := hoL 0 _ rfl
  refine vc_iload_n dX3_nextOfSize_0 rfl ?_
  refine vc_iload_n dX3_nextOfSize_1 rfl ?_
  refine vc_ineg dX3_nextOfSize_2 ?_
  refine vc_iand dX3_nextOfSize_3 ?_
  refine vc_nameI (fun x1 ex1 => ?_)
  refine vc_istore_n dX3_nextOfSize_4 (by decide) rfl (show _ = [some (aI s), some (aI x1), none, none] from rfl) ?_
  refine vc_iload_n dX3_nextOfSize_5 rfl ?_
  refine vc_iload_n dX3_nextOfSize_6 rfl ?_
  refine vc_iadd dX3_nextOfSize_7 ?_
  refine vc_nameI (fun x2 ex2 => ?_)
  refine vc_istore_n dX3_nextOfSize_8 (by decide) rfl (show _ = [some (aI s), some (aI x1), some (aI x2), none] from rfl) ?_
  refine vc_iload_n dX3_nextOfSize_9 rfl ?_
  refine vc_iload_n dX3_nextOfSize_10 rfl ?_
  refine vc_iconst dX3_nextOfSize_11 rfl ?_
  refine vc_ixor dX3_nextOfSize_12 ?_
  refine vc_iand dX3_nextOfSize_13 ?_
  refine vc_cSI dX3_nextOfSize_14 (sfJ6_bitCount_0f7a4 (M := M) hB0.1  (andI s (xorI x2 (-1))) ) rfl okJ6_bitCount_0f7a4 stJ6_bitCount_0f7a4 lkX3_44 rfl (Nat.le_of_ble_eq_true rfl) ⟨rfl, rfl⟩ (Nat.le_of_ble_eq_true rfl) (Nat.le_of_ble_eq_true rfl) (Nat.le_of_ble_eq_true rfl) ?_
  rintro x3 _ rfl
  refine vc_iconst dX3_nextOfSize_17 rfl ?_
  refine vc_isub dX3_nextOfSize_18 ?_
  refine vc_nameI (fun x4 ex4 => ?_)
  refine vc_istore_n dX3_nextOfSize_19 (by decide) rfl (show _ = [some (aI s), some (aI x1), some (aI x2), some (aI x4)] from rfl) ?_
  refine vc_iload_n dX3_nextOfSize_20 rfl ?_
  refine vc_iconst dX3_nextOfSize_21 rfl ?_
  refine vc_iload_n dX3_nextOfSize_22 rfl ?_
  refine vc_ishl dX3_nextOfSize_23 ?_
  refine vc_iconst dX3_nextOfSize_24 rfl ?_
  refine vc_isub dX3_nextOfSize_25 ?_
  refine vc_ior dX3_nextOfSize_26 ?_
  refine vc_iret dX3_nextOfSize_27 rfl (Nat.le_of_ble_eq_true rfl) (Nat.le_of_ble_eq_true rfl) ?_
  exact ⟨_, rfl, rfl⟩

set_option maxRecDepth 4000 in
theorem sfX3_firstThatServes {l : Launch} {M : Mem} (hB : Box M)  (s : Int)  : Call l mdX3_firstThatServes [aR 50, aI s] M (fun q N => ∃ r : Int, q = some (aI r) ∧ BF fQ M N) := by
  have hB0 : BF fQ M M := BF.start hB
  refine Call.of [some (aR 50), some (aI s), none, none, none] rfl (Nat.le_of_ble_eq_true rfl) rfl ?_
  refine vc_ok (fun hoM hoS hoL => ?_)
  have hr1 : -2147483648 ≤ s ∧ s < 2147483648 := hoL 1 _ rfl
  refine vc_aload_n dX3_firstThatServes_0 rfl ?_
  refine vc_getI dX3_firstThatServes_1 flX3_41 (s_50 hB0.1.1) rfl ?_
  refine vc_iconst dX3_firstThatServes_4 rfl ?_
  refine vc_aload_n dX3_firstThatServes_5 rfl ?_
  refine vc_getR dX3_firstThatServes_6 flX3_9 (s_50 hB0.1.1) rfl (r_50_0 hB0.1.1) ?_
  refine vc_getI dX3_firstThatServes_9 flX3_25 (s_1 hB0.1.1) rfl ?_
  have k1 : (-1) ≤ mI M 1 7 ∧ mI M 1 7 ≤ 15 := b1_7 (M := M) hB0.1
  refine vc_ishl dX3_firstThatServes_12 ?_
  refine vc_iconst dX3_firstThatServes_13 rfl ?_
  refine vc_ixor dX3_firstThatServes_14 ?_
  refine vc_iand dX3_firstThatServes_15 ?_
  refine vc_nameI (fun x2 ex2 => ?_)
  refine vc_istore_n dX3_firstThatServes_16 (by decide) rfl (show _ = [some (aR 50), some (aI s), some (aI x2), none, none] from rfl) ?_
  refine vc_iconst dX3_firstThatServes_17 rfl ?_
  refine vc_iload_n dX3_firstThatServes_18 rfl ?_
  refine vc_ishl dX3_firstThatServes_19 ?_
  refine vc_iconst dX3_firstThatServes_20 rfl ?_
  refine vc_isub dX3_firstThatServes_21 ?_
  refine vc_nameI (fun x3 ex3 => ?_)
  refine vc_istore_n dX3_firstThatServes_22 (by decide) rfl (show _ = [some (aR 50), some (aI s), some (aI x2), some (aI x3), none] from rfl) ?_
  refine vc_iconst dX3_firstThatServes_23 rfl ?_
  refine vc_istore dX3_firstThatServes_24 (by decide) rfl (show _ = [some (aR 50), some (aI s), some (aI x2), some (aI x3), some (aI 0)] from rfl) ?_
  have lp26 : ∀ (n26 : Nat) (Mq26 : Mem) (v3 : Int) (v4 : Int), (BF fQ M Mq26) → (0 ≤ v4) → (v4 ≤ 65536) → (65536 - v4).toNat < n26 → VC l mdX3_firstThatServes 26 [some (aR 50), none, some (aI x2), some (aI v3), some (aI v4)] [] Mq26 0 0 (fun q N => ∃ r : Int, q = some (aI r) ∧ BF fQ M N) := by
    intro n26
    induction n26 with
    | zero => intro Mq26 v3 v4 hQ26 g26_4a g26_4b hm26; exact absurd hm26 (Nat.not_lt_zero _)
    | succ n26 ih26 =>
      intro Mq26 v3 v4 hQ26 g26_4a g26_4b hm26
      refine vc_iload dX3_firstThatServes_26 rfl ?_
      refine vc_ldc dX3_firstThatServes_28 rfl kcX3_59 ?_
      refine vc_icmp_ge dX3_firstThatServes_30 (fun h4 => ?_) (fun h4 => ?_)
      · refine vc_iconst dX3_firstThatServes_81 rfl ?_
        refine vc_iret dX3_firstThatServes_82 rfl (Nat.le_of_ble_eq_true rfl) (Nat.le_of_ble_eq_true rfl) ?_
        exact ⟨_, rfl, hQ26⟩
      · refine vc_iload_n dX3_firstThatServes_33 rfl ?_
        refine vc_iconst dX3_firstThatServes_34 rfl ?_
        refine vc_aload_n dX3_firstThatServes_35 rfl ?_
        refine vc_getR dX3_firstThatServes_36 flX3_9 (s_50 hQ26.1.1) rfl (r_50_0 hQ26.1.1) ?_
        refine vc_getI dX3_firstThatServes_39 flX3_60 (s_1 hQ26.1.1) rfl ?_
        have k5 : 0 ≤ mI Mq26 1 6 ∧ mI Mq26 1 6 ≤ 16 := b1_6 (M := Mq26) hQ26.1
        refine vc_ishl dX3_firstThatServes_42 ?_
        refine vc_icmp_ge dX3_firstThatServes_43 (fun h6 => ?_) (fun h6 => ?_)
        · refine vc_iconst dX3_firstThatServes_81 rfl ?_
          refine vc_iret dX3_firstThatServes_82 rfl (Nat.le_of_ble_eq_true rfl) (Nat.le_of_ble_eq_true rfl) ?_
          exact ⟨_, rfl, hQ26⟩
        · refine vc_iload_n dX3_firstThatServes_46 rfl ?_
          refine vc_iload_n dX3_firstThatServes_47 rfl ?_
          refine vc_iconst dX3_firstThatServes_48 rfl ?_
          refine vc_ixor dX3_firstThatServes_49 ?_
          refine vc_iand dX3_firstThatServes_50 ?_
          refine vc_if_ne dX3_firstThatServes_51 (fun h7 => ?_) (fun h7 => ?_)
          · refine vc_iload_n dX3_firstThatServes_64 rfl ?_
            refine vc_if_ne dX3_firstThatServes_65 (fun h8 => ?_) (fun h8 => ?_)
            · refine vc_iload_n dX3_firstThatServes_70 rfl ?_
              refine vc_cSI dX3_firstThatServes_71 (sfX3_nextOfSize (M := Mq26) hQ26.1  v3 ) rfl okX3_nextOfSize stX3_nextOfSize lkX3_66 rfl (Nat.le_of_ble_eq_true rfl) ⟨rfl, rfl⟩ (Nat.le_of_ble_eq_true rfl) (Nat.le_of_ble_eq_true rfl) (Nat.le_of_ble_eq_true rfl) ?_
              rintro x9 _ rfl
              refine vc_istore_n dX3_firstThatServes_74 (by decide) rfl (show _ = [some (aR 50), none, some (aI x2), some (aI x9), some (aI v4)] from rfl) ?_
              refine vc_iincE dX3_firstThatServes_75 rfl (by omega) (by omega) (by decide) rfl (show _ = [some (aR 50), none, some (aI x2), some (aI x9), some (aI (v4 + 1))] from rfl) ?_
              refine vc_goto dX3_firstThatServes_78 ?_
              exact ih26 Mq26 x9 (v4 + 1) hQ26 (by omega) (by omega) (by omega)
            · refine vc_iconst dX3_firstThatServes_68 rfl ?_
              refine vc_iret dX3_firstThatServes_69 rfl (Nat.le_of_ble_eq_true rfl) (Nat.le_of_ble_eq_true rfl) ?_
              exact ⟨_, rfl, hQ26⟩
          · refine vc_aload_n dX3_firstThatServes_54 rfl ?_
            refine vc_iload_n dX3_firstThatServes_55 rfl ?_
            refine vc_cVI dX3_firstThatServes_56 (sfX3_allCome (M := Mq26) hQ26.1  v3 ) rfl okX3_allCome viX3_allCome lkX3_63 (s_50 hQ26.1.1) cl_3 rfl (Nat.le_of_ble_eq_true rfl) ⟨rfl, rfl⟩ (Nat.le_of_ble_eq_true rfl) (Nat.le_of_ble_eq_true rfl) (Nat.le_of_ble_eq_true rfl) ?_
            rintro x10 M11 ⟨hB12, h13, h14⟩
            have hB15 : BF fQ M M11 := BF.go hQ26 hB12
            refine vc_if_eq dX3_firstThatServes_59 (fun h16 => ?_) (fun h16 => ?_)
            · refine vc_iload_n dX3_firstThatServes_64 rfl ?_
              refine vc_if_ne dX3_firstThatServes_65 (fun h17 => ?_) (fun h17 => ?_)
              · refine vc_iload_n dX3_firstThatServes_70 rfl ?_
                refine vc_cSI dX3_firstThatServes_71 (sfX3_nextOfSize (M := M11) hB15.1  v3 ) rfl okX3_nextOfSize stX3_nextOfSize lkX3_66 rfl (Nat.le_of_ble_eq_true rfl) ⟨rfl, rfl⟩ (Nat.le_of_ble_eq_true rfl) (Nat.le_of_ble_eq_true rfl) (Nat.le_of_ble_eq_true rfl) ?_
                rintro x18 _ rfl
                refine vc_istore_n dX3_firstThatServes_74 (by decide) rfl (show _ = [some (aR 50), none, some (aI x2), some (aI x18), some (aI v4)] from rfl) ?_
                refine vc_iincE dX3_firstThatServes_75 rfl (by omega) (by omega) (by decide) rfl (show _ = [some (aR 50), none, some (aI x2), some (aI x18), some (aI (v4 + 1))] from rfl) ?_
                refine vc_goto dX3_firstThatServes_78 ?_
                exact ih26 M11 x18 (v4 + 1) hB15 (by omega) (by omega) (by omega)
              · refine vc_iconst dX3_firstThatServes_68 rfl ?_
                refine vc_iret dX3_firstThatServes_69 rfl (Nat.le_of_ble_eq_true rfl) (Nat.le_of_ble_eq_true rfl) ?_
                exact ⟨_, rfl, hB15⟩
            · refine vc_iload_n dX3_firstThatServes_62 rfl ?_
              refine vc_iret dX3_firstThatServes_63 rfl (Nat.le_of_ble_eq_true rfl) (Nat.le_of_ble_eq_true rfl) ?_
              exact ⟨_, rfl, hB15⟩
  refine vc_less [some (aR 50), none, some (aI x2), some (aI x3), some (aI 0)] (lessL_keep (lessL_drop (lessL_keep (lessL_keep (lessL_keep (lessL_nil)))))) ?_
  exact lp26 _ M x3 0 hB0 (by omega) (by omega) (Nat.lt_succ_self _)

set_option maxRecDepth 4000 in
theorem sfX3_fewest {l : Launch} {M : Mem} (hB : Box M)    : Call l mdX3_fewest [aR 50] M (fun q N => ∃ r : Int, q = some (aI r) ∧ BF fQ M N) := by
  have hB0 : BF fQ M M := BF.start hB
  refine Call.of [some (aR 50), none, none, none] rfl (Nat.le_of_ble_eq_true rfl) rfl ?_
  refine vc_aload_n dX3_fewest_0 rfl ?_
  refine vc_getR dX3_fewest_1 flX3_9 (s_50 hB0.1.1) rfl (r_50_0 hB0.1.1) ?_
  refine vc_aload_n dX3_fewest_4 rfl ?_
  refine vc_getR dX3_fewest_5 flX3_9 (s_50 hB0.1.1) rfl (r_50_0 hB0.1.1) ?_
  refine vc_getI dX3_fewest_8 flX3_25 (s_1 hB0.1.1) rfl ?_
  have k1 : (-1) ≤ mI M 1 7 ∧ mI M 1 7 ≤ 15 := b1_7 (M := M) hB0.1
  refine vc_cVI dX3_fewest_11 (sfX6_hasCorner (M := M) hB0.1  (mI M 1 7) ) rfl okX6_hasCorner viX6_hasCorner lkX3_31 (s_1 hB0.1.1) cl_6 rfl (Nat.le_of_ble_eq_true rfl) ⟨rfl, rfl⟩ (Nat.le_of_ble_eq_true rfl) (Nat.le_of_ble_eq_true rfl) (Nat.le_of_ble_eq_true rfl) ?_
  rintro x3 _ ⟨rfl, h4, h5, h6⟩
  refine vc_if_ne dX3_fewest_14 (fun h7 => ?_) (fun h7 => ?_)
  · refine vc_aload_n dX3_fewest_19 rfl ?_
    refine vc_cVU dX3_fewest_20 (sfX3_countStreets (M := M) hB0.1   (by omega)) rfl okX3_countStreets viX3_countStreets lkX3_35 (s_50 hB0.1.1) cl_3 rfl (Nat.le_of_ble_eq_true rfl) ⟨rfl, rfl⟩ (Nat.le_of_ble_eq_true rfl) (Nat.le_of_ble_eq_true rfl) (Nat.le_of_ble_eq_true rfl) ?_
    rintro M8 ⟨hB9, kp10, kp11⟩
    have hB12 : BF fQ M M8 := BF.go hB0 hB9
    have kp13 : mI M8 1 = mI M 1 := kp_go rfl kp10
    refine vc_aload_n dX3_fewest_23 rfl ?_
    refine vc_cVU dX3_fewest_24 (sfX3_setOnward (M := M8) hB12.1   ) rfl okX3_setOnward viX3_setOnward lkX3_38 (s_50 hB12.1.1) cl_3 rfl (Nat.le_of_ble_eq_true rfl) ⟨rfl, rfl⟩ (Nat.le_of_ble_eq_true rfl) (Nat.le_of_ble_eq_true rfl) (Nat.le_of_ble_eq_true rfl) ?_
    rintro M14 hB15
    have hB16 : BF fQ M M14 := BF.go hB12 hB15
    refine vc_iconst dX3_fewest_27 rfl ?_
    refine vc_aload_n dX3_fewest_28 rfl ?_
    refine vc_getI dX3_fewest_29 flX3_41 (s_50 hB16.1.1) rfl ?_
    refine vc_cSI dX3_fewest_32 (sfJ6_bitCount_0f7a4 (M := M14) hB16.1  (mI M14 50 4) ) rfl okJ6_bitCount_0f7a4 stJ6_bitCount_0f7a4 lkX3_44 rfl (Nat.le_of_ble_eq_true rfl) ⟨rfl, rfl⟩ (Nat.le_of_ble_eq_true rfl) (Nat.le_of_ble_eq_true rfl) (Nat.le_of_ble_eq_true rfl) ?_
    rintro x17 _ rfl
    refine vc_iconst dX3_fewest_35 rfl ?_
    refine vc_isub dX3_fewest_36 ?_
    refine vc_mminI dX3_fewest_37 lkX3_50 (Nat.le_of_ble_eq_true rfl) (Nat.le_of_ble_eq_true rfl) (Nat.le_of_ble_eq_true rfl) ?_
    have k18 := minZ_bd 4 (wI (x17 - 1))
    refine vc_nameI (fun x19 ex19 => ?_)
    refine vc_istore_n dX3_fewest_40 (by decide) rfl (show _ = [some (aR 50), some (aI x19), none, none] from rfl) ?_
    refine vc_iconst dX3_fewest_41 rfl ?_
    refine vc_istore_n dX3_fewest_42 (by decide) rfl (show _ = [some (aR 50), some (aI x19), some (aI 0), none] from rfl) ?_
    refine vc_ok (fun hoM43 hoS43 hoL43 => ?_)
    have k20 : -2147483648 ≤ x19 ∧ x19 < 2147483648 := hoL43 1 _ rfl
    have lp43 : ∀ (n43 : Nat) (Mq43 : Mem) (v2 : Int), (BF fQ M Mq43) → (0 ≤ v2) → (v2 ≤ 5) → (5 - v2).toNat < n43 → VC l mdX3_fewest 43 [some (aR 50), some (aI x19), some (aI v2), none] [] Mq43 0 0 (fun q N => ∃ r : Int, q = some (aI r) ∧ BF fQ M N) := by
      intro n43
      induction n43 with
      | zero => intro Mq43 v2 hQ43 g43_2a g43_2b hm43; exact absurd hm43 (Nat.not_lt_zero _)
      | succ n43 ih43 =>
        intro Mq43 v2 hQ43 g43_2a g43_2b hm43
        refine vc_iload_n dX3_fewest_43 rfl ?_
        refine vc_iload_n dX3_fewest_44 rfl ?_
        refine vc_icmp_gt dX3_fewest_45 (fun h21 => ?_) (fun h21 => ?_)
        · refine vc_iconst dX3_fewest_67 rfl ?_
          refine vc_iret dX3_fewest_68 rfl (Nat.le_of_ble_eq_true rfl) (Nat.le_of_ble_eq_true rfl) ?_
          exact ⟨_, rfl, hQ43⟩
        · refine vc_aload_n dX3_fewest_48 rfl ?_
          refine vc_iload_n dX3_fewest_49 rfl ?_
          refine vc_cVI dX3_fewest_50 (sfX3_firstThatServes (M := Mq43) hQ43.1  v2 ) rfl okX3_firstThatServes viX3_firstThatServes lkX3_56 (s_50 hQ43.1.1) cl_3 rfl (Nat.le_of_ble_eq_true rfl) ⟨rfl, rfl⟩ (Nat.le_of_ble_eq_true rfl) (Nat.le_of_ble_eq_true rfl) (Nat.le_of_ble_eq_true rfl) ?_
          rintro x22 M23 hB24
          have hB25 : BF fQ M M23 := BF.go hQ43 hB24
          refine vc_istore_n dX3_fewest_53 (by decide) rfl (show _ = [some (aR 50), some (aI x19), some (aI v2), some (aI x22)] from rfl) ?_
          refine vc_iload_n dX3_fewest_54 rfl ?_
          refine vc_iconst dX3_fewest_55 rfl ?_
          refine vc_icmp_eq dX3_fewest_56 (fun h26 => ?_) (fun h26 => ?_)
          · refine vc_iincE dX3_fewest_61 rfl (by omega) (by omega) (by decide) rfl (show _ = [some (aR 50), some (aI x19), some (aI (v2 + 1)), some (aI x22)] from rfl) ?_
            refine vc_goto dX3_fewest_64 ?_
            refine vc_less [some (aR 50), some (aI x19), some (aI (v2 + 1)), none] (lessL_keep (lessL_keep (lessL_keep (lessL_drop (lessL_nil))))) ?_
            exact ih43 M23 (v2 + 1) hB25 (by omega) (by omega) (by omega)
          · refine vc_iload_n dX3_fewest_59 rfl ?_
            refine vc_iret dX3_fewest_60 rfl (Nat.le_of_ble_eq_true rfl) (Nat.le_of_ble_eq_true rfl) ?_
            exact ⟨_, rfl, hB25⟩
    exact lp43 _ M14 0 hB16 (by omega) (by omega) (Nat.lt_succ_self _)
  · refine vc_iconst dX3_fewest_17 rfl ?_
    refine vc_iret dX3_fewest_18 rfl (Nat.le_of_ble_eq_true rfl) (Nat.le_of_ble_eq_true rfl) ?_
    exact ⟨_, rfl, hB0⟩
