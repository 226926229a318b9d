/-! CONTRACTS of Ways, Visits (written by wip/p35/c74.py) -/
set_option maxRecDepth 4000 in
theorem sfJ6_bitCount_0f7a4 {l : Launch} {M : Mem} (hB : Box M)  (i : Int)  : Call l mdJ6_bitCount_0f7a4 [aI i] M (fun q N => ∃ r : Int, q = some (aI r) ∧ M = N) := by
  have hB0 : BF fQ M M := BF.start hB
  refine Call.of [some (aI i)] (by decide +kernel) (Nat.le_of_ble_eq_true rfl) rfl ?_
  refine vc_ok (fun hoM hoS hoL => ?_)
  have hr0 : -2147483648 ≤ i ∧ i < 2147483648 := hoL 0 _ rfl
  refine vc_iload_n dJ6_bitCount_0f7a4_0 rfl ?_
  refine vc_iload_n dJ6_bitCount_0f7a4_1 rfl ?_
  refine vc_iconst dJ6_bitCount_0f7a4_2 rfl ?_
  refine vc_iushr dJ6_bitCount_0f7a4_3 ?_
  refine vc_ldcw dJ6_bitCount_0f7a4_4 rfl kcJ6_265 ?_
  refine vc_iand dJ6_bitCount_0f7a4_7 ?_
  refine vc_isub dJ6_bitCount_0f7a4_8 ?_
  refine vc_nameI (fun x1 ex1 => ?_)
  refine vc_istore_n dJ6_bitCount_0f7a4_9 (by decide) rfl (show _ = [some (aI x1)] from rfl) ?_
  refine vc_iload_n dJ6_bitCount_0f7a4_10 rfl ?_
  refine vc_ldcw dJ6_bitCount_0f7a4_11 rfl kcJ6_266 ?_
  refine vc_iand dJ6_bitCount_0f7a4_14 ?_
  refine vc_iload_n dJ6_bitCount_0f7a4_15 rfl ?_
  refine vc_iconst dJ6_bitCount_0f7a4_16 rfl ?_
  refine vc_iushr dJ6_bitCount_0f7a4_17 ?_
  refine vc_ldcw dJ6_bitCount_0f7a4_18 rfl kcJ6_266 ?_
  refine vc_iand dJ6_bitCount_0f7a4_21 ?_
  refine vc_iadd dJ6_bitCount_0f7a4_22 ?_
  refine vc_nameI (fun x2 ex2 => ?_)
  refine vc_istore_n dJ6_bitCount_0f7a4_23 (by decide) rfl (show _ = [some (aI x2)] from rfl) ?_
  refine vc_iload_n dJ6_bitCount_0f7a4_24 rfl ?_
  refine vc_iload_n dJ6_bitCount_0f7a4_25 rfl ?_
  refine vc_iconst dJ6_bitCount_0f7a4_26 rfl ?_
  refine vc_iushr dJ6_bitCount_0f7a4_27 ?_
  refine vc_iadd dJ6_bitCount_0f7a4_28 ?_
  refine vc_ldcw dJ6_bitCount_0f7a4_29 rfl kcJ6_267 ?_
  refine vc_iand dJ6_bitCount_0f7a4_32 ?_
  refine vc_nameI (fun x3 ex3 => ?_)
  refine vc_istore_n dJ6_bitCount_0f7a4_33 (by decide) rfl (show _ = [some (aI x3)] from rfl) ?_
  refine vc_iload_n dJ6_bitCount_0f7a4_34 rfl ?_
  refine vc_iload_n dJ6_bitCount_0f7a4_35 rfl ?_
  refine vc_bipush dJ6_bitCount_0f7a4_36 rfl ?_
  refine vc_iushr dJ6_bitCount_0f7a4_38 ?_
  refine vc_iadd dJ6_bitCount_0f7a4_39 ?_
  refine vc_nameI (fun x4 ex4 => ?_)
  refine vc_istore_n dJ6_bitCount_0f7a4_40 (by decide) rfl (show _ = [some (aI x4)] from rfl) ?_
  refine vc_iload_n dJ6_bitCount_0f7a4_41 rfl ?_
  refine vc_iload_n dJ6_bitCount_0f7a4_42 rfl ?_
  refine vc_bipush dJ6_bitCount_0f7a4_43 rfl ?_
  refine vc_iushr dJ6_bitCount_0f7a4_45 ?_
  refine vc_iadd dJ6_bitCount_0f7a4_46 ?_
  refine vc_nameI (fun x5 ex5 => ?_)
  refine vc_istore_n dJ6_bitCount_0f7a4_47 (by decide) rfl (show _ = [some (aI x5)] from rfl) ?_
  refine vc_iload_n dJ6_bitCount_0f7a4_48 rfl ?_
  refine vc_bipush dJ6_bitCount_0f7a4_49 rfl ?_
  refine vc_iandM dJ6_bitCount_0f7a4_51 64 6 rfl (by decide) rfl ?_
  refine vc_iret dJ6_bitCount_0f7a4_52 rfl (Nat.le_of_ble_eq_true rfl) (Nat.le_of_ble_eq_true rfl) ?_
  exact ⟨_, rfl, rfl⟩

set_option maxRecDepth 4000 in
theorem sfJ7_fill_d0a16_39 {l : Launch} {M : Mem} (hB : Box M)  (v : Int)  : Call l mdJ7_fill_d0a16 [aR 39, aL v] M (fun q N => q = none ∧ BF fQ M N) := by
  have hB0 : BF fQ M M := BF.start hB
  refine Call.of [some (aR 39), some (aL v), none, none, none] (by decide +kernel) (Nat.le_of_ble_eq_true rfl) rfl ?_
  refine vc_iconst dJ7_fill_d0a16_0 rfl ?_
  refine vc_istore_n dJ7_fill_d0a16_1 (by decide) rfl (show _ = [some (aR 39), some (aL v), none, some (aI 0), none] from rfl) ?_
  refine vc_aload_n dJ7_fill_d0a16_2 rfl ?_
  refine vc_alen dJ7_fill_d0a16_3 (s_39 hB0.1.1) rfl ?_
  refine vc_topI 16 rfl ?_
  refine vc_istore dJ7_fill_d0a16_4 (by decide) rfl (show _ = [some (aR 39), some (aL v), none, some (aI 0), some (aI 16)] from rfl) ?_
  have lp6 : ∀ (n6 : Nat) (Mq6 : Mem) (v3 : Int), (BF fQ M Mq6) → (0 ≤ v3) → (v3 ≤ 16) → (16 - v3).toNat < n6 → VC l mdJ7_fill_d0a16 6 [some (aR 39), some (aL v), none, some (aI v3), some (aI 16)] [] Mq6 0 0 (fun q N => q = none ∧ BF fQ M N) := by
    intro n6
    induction n6 with
    | zero => intro Mq6 v3 hQ6 g6_3a g6_3b hm6; exact absurd hm6 (Nat.not_lt_zero _)
    | succ n6 ih6 =>
      intro Mq6 v3 hQ6 g6_3a g6_3b hm6
      refine vc_iload_n dJ7_fill_d0a16_6 rfl ?_
      refine vc_iload dJ7_fill_d0a16_7 rfl ?_
      refine vc_icmp_ge dJ7_fill_d0a16_9 (fun h1 => ?_) (fun h1 => ?_)
      · refine vc_vret dJ7_fill_d0a16_22 rfl (Nat.le_of_ble_eq_true rfl) (Nat.le_of_ble_eq_true rfl) ?_
        exact ⟨rfl, hQ6⟩
      · refine vc_aload_n dJ7_fill_d0a16_12 rfl ?_
        refine vc_iload_n dJ7_fill_d0a16_13 rfl ?_
        refine vc_lload_n dJ7_fill_d0a16_14 rfl ?_
        refine vc_lastore dJ7_fill_d0a16_15 (s_39 hQ6.1.1) (by omega) (by omega) ?_
        have hB2 : BF fQ M (sJ Mq6 39 v3.toNat v) := BF.J hQ6 _ _ _ rfl
        refine vc_iincE dJ7_fill_d0a16_16 rfl (by omega) (by omega) (by decide) rfl (show _ = [some (aR 39), some (aL v), none, some (aI (v3 + 1)), some (aI 16)] from rfl) ?_
        refine vc_goto dJ7_fill_d0a16_19 ?_
        exact ih6 (sJ Mq6 39 v3.toNat v) (v3 + 1) hB2 (by omega) (by omega) (by omega)
  exact lp6 _ M 0 hB0 (by omega) (by omega) (Nat.lt_succ_self _)

set_option maxRecDepth 4000 in
theorem sfJ7_fill_53178_47 {l : Launch} {M : Mem} (hB : Box M)  (v : Int)  : Call l mdJ7_fill_53178 [aR 47, aI v] M (fun q N => q = none ∧ BF fQ M N ∧ mI N 1 = mI M 1 ∧ mI N 3 = mI M 3) := by
  have hB0 : BF fQ M M := BF.start hB
  refine Call.of [some (aR 47), some (aI v), none, none] (by decide +kernel) (Nat.le_of_ble_eq_true rfl) rfl ?_
  refine vc_ok (fun hoM hoS hoL => ?_)
  have hr1 : -2147483648 ≤ v ∧ v < 2147483648 := hoL 1 _ rfl
  refine vc_iconst dJ7_fill_53178_0 rfl ?_
  refine vc_istore_n dJ7_fill_53178_1 (by decide) rfl (show _ = [some (aR 47), some (aI v), some (aI 0), none] from rfl) ?_
  refine vc_aload_n dJ7_fill_53178_2 rfl ?_
  refine vc_alen dJ7_fill_53178_3 (s_47 hB0.1.1) rfl ?_
  refine vc_topI 3456 rfl ?_
  refine vc_istore_n dJ7_fill_53178_4 (by decide) rfl (show _ = [some (aR 47), some (aI v), some (aI 0), some (aI 3456)] from rfl) ?_
  have lp5 : ∀ (n5 : Nat) (Mq5 : Mem) (v2 : Int), (BF fQ M Mq5) → (mI Mq5 1 = mI M 1) → (mI Mq5 3 = mI M 3) → (0 ≤ v2) → (v2 ≤ 3456) → (3456 - v2).toNat < n5 → VC l mdJ7_fill_53178 5 [some (aR 47), some (aI v), some (aI v2), some (aI 3456)] [] Mq5 0 0 (fun q N => q = none ∧ BF fQ M N ∧ mI N 1 = mI M 1 ∧ mI N 3 = mI M 3) := by
    intro n5
    induction n5 with
    | zero => intro Mq5 v2 hQ5 kp5_1 kp5_3 g5_2a g5_2b hm5; exact absurd hm5 (Nat.not_lt_zero _)
    | succ n5 ih5 =>
      intro Mq5 v2 hQ5 kp5_1 kp5_3 g5_2a g5_2b hm5
      refine vc_iload_n dJ7_fill_53178_5 rfl ?_
      refine vc_iload_n dJ7_fill_53178_6 rfl ?_
      refine vc_icmp_ge dJ7_fill_53178_7 (fun h1 => ?_) (fun h1 => ?_)
      · refine vc_vret dJ7_fill_53178_20 rfl (Nat.le_of_ble_eq_true rfl) (Nat.le_of_ble_eq_true rfl) ?_
        exact ⟨rfl, hQ5, kp5_1, kp5_3⟩
      · refine vc_aload_n dJ7_fill_53178_10 rfl ?_
        refine vc_iload_n dJ7_fill_53178_11 rfl ?_
        refine vc_iload_n dJ7_fill_53178_12 rfl ?_
        refine vc_iastore dJ7_fill_53178_13 (s_47 hQ5.1.1) (by omega) (by omega) ?_
        have kp2 : mI (sI Mq5 47 v2.toNat v) 1 = mI M 1 := (kp_sI kp5_1 rfl)
        have kp3 : mI (sI Mq5 47 v2.toNat v) 3 = mI M 3 := (kp_sI kp5_3 rfl)
        have hB4 : BF fQ M (sI Mq5 47 v2.toNat v) := BF.w47 hQ5 (fun _ => rfl) _
        refine vc_iincE dJ7_fill_53178_14 rfl (by omega) (by omega) (by decide) rfl (show _ = [some (aR 47), some (aI v), some (aI (v2 + 1)), some (aI 3456)] from rfl) ?_
        refine vc_goto dJ7_fill_53178_17 ?_
        exact ih5 (sI Mq5 47 v2.toNat v) (v2 + 1) hB4 kp2 kp3 (by omega) (by omega) (by omega)
  exact lp5 _ M 0 hB0 rfl rfl (by omega) (by omega) (Nat.lt_succ_self _)

set_option maxRecDepth 4000 in
theorem sfX6_isSet {l : Launch} {M : Mem} (hB : Box M)  (s : Int) (m : Int)  : Call l mdX6_isSet [aR 1, aI s, aI m] M (fun q N => ∃ r : Int, q = some (aI r) ∧ M = N ∧ 0 ≤ r ∧ r ≤ 1) := by
  have hB0 : BF fQ M M := BF.start hB
  refine Call.of [some (aR 1), some (aI s), some (aI m)] rfl (Nat.le_of_ble_eq_true rfl) rfl ?_
  refine vc_ok (fun hoM hoS hoL => ?_)
  have hr1 : -2147483648 ≤ s ∧ s < 2147483648 := hoL 1 _ rfl
  have hr2 : -2147483648 ≤ m ∧ m < 2147483648 := hoL 2 _ rfl
  refine vc_iload_n dX6_isSet_0 rfl ?_
  refine vc_if_le dX6_isSet_1 (fun h1 => ?_) (fun h1 => ?_)
  · refine vc_iconst dX6_isSet_26 rfl ?_
    refine vc_zret dX6_isSet_27 rfl (by first | decide | omega) (Nat.le_of_ble_eq_true rfl) (Nat.le_of_ble_eq_true rfl) ?_
    exact ⟨_, rfl, rfl, by omega, by omega⟩
  · refine vc_iload_n dX6_isSet_4 rfl ?_
    refine vc_iconst dX6_isSet_5 rfl ?_
    refine vc_aload_n dX6_isSet_6 rfl ?_
    refine vc_getI dX6_isSet_7 flX6_58 (s_1 hB0.1.1) rfl ?_
    have k2 : 0 ≤ mI M 1 9 ∧ mI M 1 9 ≤ 8 := b1_9 (M := M) hB0.1
    refine vc_ishl dX6_isSet_10 ?_
    refine vc_icmp_ge dX6_isSet_11 (fun h3 => ?_) (fun h3 => ?_)
    · refine vc_iconst dX6_isSet_26 rfl ?_
      refine vc_zret dX6_isSet_27 rfl (by first | decide | omega) (Nat.le_of_ble_eq_true rfl) (Nat.le_of_ble_eq_true rfl) ?_
      exact ⟨_, rfl, rfl, by omega, by omega⟩
    · refine vc_iload_n dX6_isSet_14 rfl ?_
      refine vc_cSI dX6_isSet_15 (sfJ6_bitCount_0f7a4 (M := M) hB0.1  s ) rfl okJ6_bitCount_0f7a4 stJ6_bitCount_0f7a4 lkX6_64 rfl (Nat.le_of_ble_eq_true rfl) ⟨rfl, rfl⟩ (Nat.le_of_ble_eq_true rfl) (Nat.le_of_ble_eq_true rfl) (Nat.le_of_ble_eq_true rfl) ?_
      rintro x4 _ rfl
      refine vc_iload_n dX6_isSet_18 rfl ?_
      refine vc_icmp_gt dX6_isSet_19 (fun h5 => ?_) (fun h5 => ?_)
      · refine vc_iconst dX6_isSet_26 rfl ?_
        refine vc_zret dX6_isSet_27 rfl (by first | decide | omega) (Nat.le_of_ble_eq_true rfl) (Nat.le_of_ble_eq_true rfl) ?_
        exact ⟨_, rfl, rfl, by omega, by omega⟩
      · refine vc_iconst dX6_isSet_22 rfl ?_
        refine vc_goto dX6_isSet_23 ?_
        refine vc_zret dX6_isSet_27 rfl (by first | decide | omega) (Nat.le_of_ble_eq_true rfl) (Nat.le_of_ble_eq_true rfl) ?_
        exact ⟨_, rfl, rfl, by omega, by omega⟩

set_option maxRecDepth 4000 in
theorem sfX10_setWeights {l : Launch} {M : Mem} (hB : Box M)  (t : Int)  : Call l mdX10_setWeights [aR 35, aI t] M (fun q N => q = none ∧ BF fW M N) := by
  have hB0 : BF fW M M := BF.start hB
  refine Call.of [some (aR 35), some (aI t), none, none, none, none] rfl (Nat.le_of_ble_eq_true rfl) rfl ?_
  refine vc_ok (fun hoM hoS hoL => ?_)
  have hr1 : -2147483648 ≤ t ∧ t < 2147483648 := hoL 1 _ rfl
  refine vc_aload_n dX10_setWeights_0 rfl ?_
  refine vc_getR dX10_setWeights_1 flX10_15 (s_35 hB0.1.1) rfl (r_35_1 hB0.1.1) ?_
  refine vc_iload_n dX10_setWeights_4 rfl ?_
  refine vc_iconst dX10_setWeights_5 rfl ?_
  refine vc_cVI dX10_setWeights_6 (sfX2_slip (M := M) hB0.1  t 0 (by omega) (by omega)) rfl okX2_slip viX2_slip lkX10_37 (s_29 hB0.1.1) cl_2 rfl (Nat.le_of_ble_eq_true rfl) ⟨rfl, rfl⟩ (Nat.le_of_ble_eq_true rfl) (Nat.le_of_ble_eq_true rfl) (Nat.le_of_ble_eq_true rfl) ?_
  rintro x1 M2 hB3
  have hB4 : BF fW M M2 := BF.go hB0 hB3.sw
  refine vc_istore_n dX10_setWeights_9 (by decide) rfl (show _ = [some (aR 35), some (aI t), some (aI x1), none, none, none] from rfl) ?_
  refine vc_aload_n dX10_setWeights_10 rfl ?_
  refine vc_getR dX10_setWeights_11 flX10_15 (s_35 hB4.1.1) rfl (r_35_1 hB4.1.1) ?_
  refine vc_iload_n dX10_setWeights_14 rfl ?_
  refine vc_iconst dX10_setWeights_15 rfl ?_
  refine vc_cVI dX10_setWeights_16 (sfX2_slip (M := M2) hB4.1  t 1 (by omega) (by omega)) rfl okX2_slip viX2_slip lkX10_37 (s_29 hB4.1.1) cl_2 rfl (Nat.le_of_ble_eq_true rfl) ⟨rfl, rfl⟩ (Nat.le_of_ble_eq_true rfl) (Nat.le_of_ble_eq_true rfl) (Nat.le_of_ble_eq_true rfl) ?_
  rintro x5 M6 hB7
  have hB8 : BF fW M M6 := BF.go hB4 hB7.sw
  refine vc_istore_n dX10_setWeights_19 (by decide) rfl (show _ = [some (aR 35), some (aI t), some (aI x1), some (aI x5), none, none] from rfl) ?_
  refine vc_aload_n dX10_setWeights_20 rfl ?_
  refine vc_getR dX10_setWeights_21 flX10_15 (s_35 hB8.1.1) rfl (r_35_1 hB8.1.1) ?_
  refine vc_iload_n dX10_setWeights_24 rfl ?_
  refine vc_iconst dX10_setWeights_25 rfl ?_
  refine vc_cVI dX10_setWeights_26 (sfX2_slip (M := M6) hB8.1  t 2 (by omega) (by omega)) rfl okX2_slip viX2_slip lkX10_37 (s_29 hB8.1.1) cl_2 rfl (Nat.le_of_ble_eq_true rfl) ⟨rfl, rfl⟩ (Nat.le_of_ble_eq_true rfl) (Nat.le_of_ble_eq_true rfl) (Nat.le_of_ble_eq_true rfl) ?_
  rintro x9 M10 hB11
  have hB12 : BF fW M M10 := BF.go hB8 hB11.sw
  refine vc_istore dX10_setWeights_29 (by decide) rfl (show _ = [some (aR 35), some (aI t), some (aI x1), some (aI x5), some (aI x9), none] from rfl) ?_
  refine vc_iconst dX10_setWeights_31 rfl ?_
  refine vc_istore dX10_setWeights_32 (by decide) rfl (show _ = [some (aR 35), some (aI t), some (aI x1), some (aI x5), some (aI x9), some (aI 0)] from rfl) ?_
  have lp34 : ∀ (n34 : Nat) (Mq34 : Mem) (v5 : Int), (BF fW M Mq34) → (0 ≤ v5) → (v5 ≤ 8) → (8 - v5).toNat < n34 → VC l mdX10_setWeights 34 [some (aR 35), none, some (aI x1), some (aI x5), some (aI x9), some (aI v5)] [] Mq34 0 0 (fun q N => q = none ∧ BF fW M N) := by
    intro n34
    induction n34 with
    | zero => intro Mq34 v5 hQ34 g34_5a g34_5b hm34; exact absurd hm34 (Nat.not_lt_zero _)
    | succ n34 ih34 =>
      intro Mq34 v5 hQ34 g34_5a g34_5b hm34
      refine vc_iload dX10_setWeights_34 rfl ?_
      refine vc_bipush dX10_setWeights_36 rfl ?_
      refine vc_icmp_ge dX10_setWeights_38 (fun h13 => ?_) (fun h13 => ?_)
      · refine vc_vret dX10_setWeights_103 rfl (Nat.le_of_ble_eq_true rfl) (Nat.le_of_ble_eq_true rfl) ?_
        exact ⟨rfl, hQ34⟩
      · refine vc_aload_n dX10_setWeights_41 rfl ?_
        refine vc_getR dX10_setWeights_42 flX10_23 (s_35 hQ34.1.1) rfl (r_35_3 hQ34.1.1) ?_
        refine vc_iload dX10_setWeights_45 rfl ?_
        refine vc_iload dX10_setWeights_47 rfl ?_
        refine vc_iconst dX10_setWeights_49 rfl ?_
        refine vc_iandM dX10_setWeights_50 2 1 rfl (by decide) rfl ?_
        refine vc_if_ne dX10_setWeights_51 (fun h14 => ?_) (fun h14 => ?_)
        · refine vc_iload_n dX10_setWeights_61 rfl ?_
          refine vc_iload dX10_setWeights_62 rfl ?_
          refine vc_iconst dX10_setWeights_64 rfl ?_
          refine vc_iand dX10_setWeights_65 ?_
          refine vc_if_ne dX10_setWeights_66 (fun h15 => ?_) (fun h15 => ?_)
          · refine vc_iload_n dX10_setWeights_76 rfl ?_
            refine vc_imul dX10_setWeights_77 ?_
            refine vc_iload dX10_setWeights_78 rfl ?_
            refine vc_iconst dX10_setWeights_80 rfl ?_
            refine vc_iand dX10_setWeights_81 ?_
            refine vc_if_ne dX10_setWeights_82 (fun h16 => ?_) (fun h16 => ?_)
            · refine vc_iload dX10_setWeights_93 rfl ?_
              refine vc_imul dX10_setWeights_95 ?_
              refine vc_iastore dX10_setWeights_96 (s_36 hQ34.1.1) (by omega) (by omega) ?_
              have hB17 : BF fW M (sI Mq34 36 v5.toNat (wI ((wI (x1 * x5)) * x9))) := BF.w36 hQ34 (fun _ => rfl) _
              refine vc_iincE dX10_setWeights_97 rfl (by omega) (by omega) (by decide) rfl (show _ = [some (aR 35), none, some (aI x1), some (aI x5), some (aI x9), some (aI (v5 + 1))] from rfl) ?_
              refine vc_goto dX10_setWeights_100 ?_
              exact ih34 (sI Mq34 36 v5.toNat (wI ((wI (x1 * x5)) * x9))) (v5 + 1) hB17 (by omega) (by omega) (by omega)
            · refine vc_bipush dX10_setWeights_85 rfl ?_
              refine vc_iload dX10_setWeights_87 rfl ?_
              refine vc_isub dX10_setWeights_89 ?_
              refine vc_goto dX10_setWeights_90 ?_
              refine vc_imul dX10_setWeights_95 ?_
              refine vc_iastore dX10_setWeights_96 (s_36 hQ34.1.1) (by omega) (by omega) ?_
              have hB18 : BF fW M (sI Mq34 36 v5.toNat (wI ((wI (x1 * x5)) * (wI (10 - x9))))) := BF.w36 hQ34 (fun _ => rfl) _
              refine vc_iincE dX10_setWeights_97 rfl (by omega) (by omega) (by decide) rfl (show _ = [some (aR 35), none, some (aI x1), some (aI x5), some (aI x9), some (aI (v5 + 1))] from rfl) ?_
              refine vc_goto dX10_setWeights_100 ?_
              exact ih34 (sI Mq34 36 v5.toNat (wI ((wI (x1 * x5)) * (wI (10 - x9))))) (v5 + 1) hB18 (by omega) (by omega) (by omega)
          · refine vc_bipush dX10_setWeights_69 rfl ?_
            refine vc_iload_n dX10_setWeights_71 rfl ?_
            refine vc_isub dX10_setWeights_72 ?_
            refine vc_goto dX10_setWeights_73 ?_
            refine vc_imul dX10_setWeights_77 ?_
            refine vc_iload dX10_setWeights_78 rfl ?_
            refine vc_iconst dX10_setWeights_80 rfl ?_
            refine vc_iand dX10_setWeights_81 ?_
            refine vc_if_ne dX10_setWeights_82 (fun h19 => ?_) (fun h19 => ?_)
            · refine vc_iload dX10_setWeights_93 rfl ?_
              refine vc_imul dX10_setWeights_95 ?_
              refine vc_iastore dX10_setWeights_96 (s_36 hQ34.1.1) (by omega) (by omega) ?_
              have hB20 : BF fW M (sI Mq34 36 v5.toNat (wI ((wI (x1 * (wI (10 - x5)))) * x9))) := BF.w36 hQ34 (fun _ => rfl) _
              refine vc_iincE dX10_setWeights_97 rfl (by omega) (by omega) (by decide) rfl (show _ = [some (aR 35), none, some (aI x1), some (aI x5), some (aI x9), some (aI (v5 + 1))] from rfl) ?_
              refine vc_goto dX10_setWeights_100 ?_
              exact ih34 (sI Mq34 36 v5.toNat (wI ((wI (x1 * (wI (10 - x5)))) * x9))) (v5 + 1) hB20 (by omega) (by omega) (by omega)
            · refine vc_bipush dX10_setWeights_85 rfl ?_
              refine vc_iload dX10_setWeights_87 rfl ?_
              refine vc_isub dX10_setWeights_89 ?_
              refine vc_goto dX10_setWeights_90 ?_
              refine vc_imul dX10_setWeights_95 ?_
              refine vc_iastore dX10_setWeights_96 (s_36 hQ34.1.1) (by omega) (by omega) ?_
              have hB21 : BF fW M (sI Mq34 36 v5.toNat (wI ((wI (x1 * (wI (10 - x5)))) * (wI (10 - x9))))) := BF.w36 hQ34 (fun _ => rfl) _
              refine vc_iincE dX10_setWeights_97 rfl (by omega) (by omega) (by decide) rfl (show _ = [some (aR 35), none, some (aI x1), some (aI x5), some (aI x9), some (aI (v5 + 1))] from rfl) ?_
              refine vc_goto dX10_setWeights_100 ?_
              exact ih34 (sI Mq34 36 v5.toNat (wI ((wI (x1 * (wI (10 - x5)))) * (wI (10 - x9))))) (v5 + 1) hB21 (by omega) (by omega) (by omega)
        · refine vc_bipush dX10_setWeights_54 rfl ?_
          refine vc_iload_n dX10_setWeights_56 rfl ?_
          refine vc_isub dX10_setWeights_57 ?_
          refine vc_goto dX10_setWeights_58 ?_
          refine vc_iload dX10_setWeights_62 rfl ?_
          refine vc_iconst dX10_setWeights_64 rfl ?_
          refine vc_iand dX10_setWeights_65 ?_
          refine vc_if_ne dX10_setWeights_66 (fun h22 => ?_) (fun h22 => ?_)
          · refine vc_iload_n dX10_setWeights_76 rfl ?_
            refine vc_imul dX10_setWeights_77 ?_
            refine vc_iload dX10_setWeights_78 rfl ?_
            refine vc_iconst dX10_setWeights_80 rfl ?_
            refine vc_iand dX10_setWeights_81 ?_
            refine vc_if_ne dX10_setWeights_82 (fun h23 => ?_) (fun h23 => ?_)
            · refine vc_iload dX10_setWeights_93 rfl ?_
              refine vc_imul dX10_setWeights_95 ?_
              refine vc_iastore dX10_setWeights_96 (s_36 hQ34.1.1) (by omega) (by omega) ?_
              have hB24 : BF fW M (sI Mq34 36 v5.toNat (wI ((wI ((wI (10 - x1)) * x5)) * x9))) := BF.w36 hQ34 (fun _ => rfl) _
              refine vc_iincE dX10_setWeights_97 rfl (by omega) (by omega) (by decide) rfl (show _ = [some (aR 35), none, some (aI x1), some (aI x5), some (aI x9), some (aI (v5 + 1))] from rfl) ?_
              refine vc_goto dX10_setWeights_100 ?_
              exact ih34 (sI Mq34 36 v5.toNat (wI ((wI ((wI (10 - x1)) * x5)) * x9))) (v5 + 1) hB24 (by omega) (by omega) (by omega)
            · refine vc_bipush dX10_setWeights_85 rfl ?_
              refine vc_iload dX10_setWeights_87 rfl ?_
              refine vc_isub dX10_setWeights_89 ?_
              refine vc_goto dX10_setWeights_90 ?_
              refine vc_imul dX10_setWeights_95 ?_
              refine vc_iastore dX10_setWeights_96 (s_36 hQ34.1.1) (by omega) (by omega) ?_
              have hB25 : BF fW M (sI Mq34 36 v5.toNat (wI ((wI ((wI (10 - x1)) * x5)) * (wI (10 - x9))))) := BF.w36 hQ34 (fun _ => rfl) _
              refine vc_iincE dX10_setWeights_97 rfl (by omega) (by omega) (by decide) rfl (show _ = [some (aR 35), none, some (aI x1), some (aI x5), some (aI x9), some (aI (v5 + 1))] from rfl) ?_
              refine vc_goto dX10_setWeights_100 ?_
              exact ih34 (sI Mq34 36 v5.toNat (wI ((wI ((wI (10 - x1)) * x5)) * (wI (10 - x9))))) (v5 + 1) hB25 (by omega) (by omega) (by omega)
          · refine vc_bipush dX10_setWeights_69 rfl ?_
            refine vc_iload_n dX10_setWeights_71 rfl ?_
            refine vc_isub dX10_setWeights_72 ?_
            refine vc_goto dX10_setWeights_73 ?_
            refine vc_imul dX10_setWeights_77 ?_
            refine vc_iload dX10_setWeights_78 rfl ?_
            refine vc_iconst dX10_setWeights_80 rfl ?_
            refine vc_iand dX10_setWeights_81 ?_
            refine vc_if_ne dX10_setWeights_82 (fun h26 => ?_) (fun h26 => ?_)
            · refine vc_iload dX10_setWeights_93 rfl ?_
              refine vc_imul dX10_setWeights_95 ?_
              refine vc_iastore dX10_setWeights_96 (s_36 hQ34.1.1) (by omega) (by omega) ?_
              have hB27 : BF fW M (sI Mq34 36 v5.toNat (wI ((wI ((wI (10 - x1)) * (wI (10 - x5)))) * x9))) := BF.w36 hQ34 (fun _ => rfl) _
              refine vc_iincE dX10_setWeights_97 rfl (by omega) (by omega) (by decide) rfl (show _ = [some (aR 35), none, some (aI x1), some (aI x5), some (aI x9), some (aI (v5 + 1))] from rfl) ?_
              refine vc_goto dX10_setWeights_100 ?_
              exact ih34 (sI Mq34 36 v5.toNat (wI ((wI ((wI (10 - x1)) * (wI (10 - x5)))) * x9))) (v5 + 1) hB27 (by omega) (by omega) (by omega)
            · refine vc_bipush dX10_setWeights_85 rfl ?_
              refine vc_iload dX10_setWeights_87 rfl ?_
              refine vc_isub dX10_setWeights_89 ?_
              refine vc_goto dX10_setWeights_90 ?_
              refine vc_imul dX10_setWeights_95 ?_
              refine vc_iastore dX10_setWeights_96 (s_36 hQ34.1.1) (by omega) (by omega) ?_
              have hB28 : BF fW M (sI Mq34 36 v5.toNat (wI ((wI ((wI (10 - x1)) * (wI (10 - x5)))) * (wI (10 - x9))))) := BF.w36 hQ34 (fun _ => rfl) _
              refine vc_iincE dX10_setWeights_97 rfl (by omega) (by omega) (by decide) rfl (show _ = [some (aR 35), none, some (aI x1), some (aI x5), some (aI x9), some (aI (v5 + 1))] from rfl) ?_
              refine vc_goto dX10_setWeights_100 ?_
              exact ih34 (sI Mq34 36 v5.toNat (wI ((wI ((wI (10 - x1)) * (wI (10 - x5)))) * (wI (10 - x9))))) (v5 + 1) hB28 (by omega) (by omega) (by omega)
  refine vc_less [some (aR 35), none, some (aI x1), some (aI x5), some (aI x9), some (aI 0)] (lessL_keep (lessL_drop (lessL_keep (lessL_keep (lessL_keep (lessL_keep (lessL_nil))))))) ?_
  exact lp34 _ M10 0 hB12 (by omega) (by omega) (Nat.lt_succ_self _)

set_option maxRecDepth 4000 in
theorem sfX10_weigh {l : Launch} {M : Mem} (hB : Box M)  (t : Int)  : Call l mdX10_weigh [aR 35, aI t] M (fun q N => q = none ∧ BF fW M N) := by
  have hB0 : BF fW M M := BF.start hB
  refine Call.of [some (aR 35), some (aI t), none] rfl (Nat.le_of_ble_eq_true rfl) rfl ?_
  refine vc_ok (fun hoM hoS hoL => ?_)
  have hr1 : -2147483648 ≤ t ∧ t < 2147483648 := hoL 1 _ rfl
  refine vc_aload_n dX10_weigh_0 rfl ?_
  refine vc_iload_n dX10_weigh_1 rfl ?_
  refine vc_cVU dX10_weigh_2 (sfX10_setWeights (M := M) hB0.1  t ) rfl okX10_setWeights viX10_setWeights lkX10_43 (s_35 hB0.1.1) cl_10 rfl (Nat.le_of_ble_eq_true rfl) ⟨rfl, rfl⟩ (Nat.le_of_ble_eq_true rfl) (Nat.le_of_ble_eq_true rfl) (Nat.le_of_ble_eq_true rfl) ?_
  rintro M1 hB2
  have hB3 : BF fW M M1 := BF.go hB0 hB2
  refine vc_iconst dX10_weigh_5 rfl ?_
  refine vc_istore_n dX10_weigh_6 (by decide) rfl (show _ = [some (aR 35), some (aI t), some (aI 0)] from rfl) ?_
  have lp7 : ∀ (n7 : Nat) (Mq7 : Mem) (v2 : Int), (BF fW M Mq7) → (0 ≤ v2) → (v2 ≤ 8) → (8 - v2).toNat < n7 → VC l mdX10_weigh 7 [some (aR 35), some (aI t), some (aI v2)] [] Mq7 0 0 (fun q N => q = none ∧ BF fW M N) := by
    intro n7
    induction n7 with
    | zero => intro Mq7 v2 hQ7 g7_2a g7_2b hm7; exact absurd hm7 (Nat.not_lt_zero _)
    | succ n7 ih7 =>
      intro Mq7 v2 hQ7 g7_2a g7_2b hm7
      refine vc_iload_n dX10_weigh_7 rfl ?_
      refine vc_bipush dX10_weigh_8 rfl ?_
      refine vc_icmp_ge dX10_weigh_10 (fun h4 => ?_) (fun h4 => ?_)
      · refine vc_vret dX10_weigh_66 rfl (Nat.le_of_ble_eq_true rfl) (Nat.le_of_ble_eq_true rfl) ?_
        exact ⟨rfl, hQ7⟩
      · refine vc_aload_n dX10_weigh_13 rfl ?_
        refine vc_getR dX10_weigh_14 flX10_19 (s_35 hQ7.1.1) rfl (r_35_2 hQ7.1.1) ?_
        refine vc_iload_n dX10_weigh_17 rfl ?_
        refine vc_cVU dX10_weigh_18 (sfX1_setOutAsTold (M := Mq7) hQ7.1  t ) rfl okX1_setOutAsTold viX1_setOutAsTold lkX10_47 (s_32 hQ7.1.1) cl_1 rfl (Nat.le_of_ble_eq_true rfl) ⟨rfl, rfl⟩ (Nat.le_of_ble_eq_true rfl) (Nat.le_of_ble_eq_true rfl) (Nat.le_of_ble_eq_true rfl) ?_
        rintro M5 hB6
        have hB7 : BF fW M M5 := BF.go hQ7 hB6.sw
        refine vc_aload_n dX10_weigh_21 rfl ?_
        refine vc_getR dX10_weigh_22 flX10_27 (s_35 hB7.1.1) rfl (r_35_4 hB7.1.1) ?_
        refine vc_iload_n dX10_weigh_25 rfl ?_
        refine vc_aload_n dX10_weigh_26 rfl ?_
        refine vc_getR dX10_weigh_27 flX10_23 (s_35 hB7.1.1) rfl (r_35_3 hB7.1.1) ?_
        refine vc_iload_n dX10_weigh_30 rfl ?_
        refine vc_iaload dX10_weigh_31 (s_36 hB7.1.1) (by omega) (by omega) ?_
        refine vc_if_eq dX10_weigh_32 (fun h8 => ?_) (fun h8 => ?_)
        · refine vc_iconst dX10_weigh_58 rfl ?_
          refine vc_iastore dX10_weigh_59 (s_37 hB7.1.1) (by omega) (by omega) ?_
          have hB9 : BF fW M (sI M5 37 v2.toNat (-1)) := BF.w37 hB7 (fun _ => rfl) _
          refine vc_iincE dX10_weigh_60 rfl (by omega) (by omega) (by decide) rfl (show _ = [some (aR 35), some (aI t), some (aI (v2 + 1))] from rfl) ?_
          refine vc_goto dX10_weigh_63 ?_
          exact ih7 (sI M5 37 v2.toNat (-1)) (v2 + 1) hB9 (by omega) (by omega) (by omega)
        · refine vc_aload_n dX10_weigh_35 rfl ?_
          refine vc_getR dX10_weigh_36 flX10_19 (s_35 hB7.1.1) rfl (r_35_2 hB7.1.1) ?_
          refine vc_iload_n dX10_weigh_39 rfl ?_
          refine vc_iload_n dX10_weigh_40 rfl ?_
          refine vc_iconst dX10_weigh_41 rfl ?_
          refine vc_cVI dX10_weigh_42 (sfX1_goesAll (M := M5) hB7.1  t v2 (-1) ) rfl okX1_goesAll viX1_goesAll lkX10_52 (s_32 hB7.1.1) cl_1 rfl (Nat.le_of_ble_eq_true rfl) ⟨rfl, rfl⟩ (Nat.le_of_ble_eq_true rfl) (Nat.le_of_ble_eq_true rfl) (Nat.le_of_ble_eq_true rfl) ?_
          rintro x10 M11 ⟨hB12, h13, h14⟩
          have hB15 : BF fW M M11 := BF.go hB7 hB12.sw
          refine vc_if_eq dX10_weigh_45 (fun h16 => ?_) (fun h16 => ?_)
          · refine vc_iconst dX10_weigh_58 rfl ?_
            refine vc_iastore dX10_weigh_59 (s_37 hB15.1.1) (by omega) (by omega) ?_
            have hB17 : BF fW M (sI M11 37 v2.toNat (-1)) := BF.w37 hB15 (fun _ => rfl) _
            refine vc_iincE dX10_weigh_60 rfl (by omega) (by omega) (by decide) rfl (show _ = [some (aR 35), some (aI t), some (aI (v2 + 1))] from rfl) ?_
            refine vc_goto dX10_weigh_63 ?_
            exact ih7 (sI M11 37 v2.toNat (-1)) (v2 + 1) hB17 (by omega) (by omega) (by omega)
          · refine vc_aload_n dX10_weigh_48 rfl ?_
            refine vc_getR dX10_weigh_49 flX10_19 (s_35 hB15.1.1) rfl (r_35_2 hB15.1.1) ?_
            refine vc_getI dX10_weigh_52 flX10_56 (s_32 hB15.1.1) rfl ?_
            refine vc_goto dX10_weigh_55 ?_
            refine vc_iastore dX10_weigh_59 (s_37 hB15.1.1) (by omega) (by omega) ?_
            have hB18 : BF fW M (sI M11 37 v2.toNat (mI M11 32 2)) := BF.w37 hB15 (fun _ => rfl) _
            refine vc_iincE dX10_weigh_60 rfl (by omega) (by omega) (by decide) rfl (show _ = [some (aR 35), some (aI t), some (aI (v2 + 1))] from rfl) ?_
            refine vc_goto dX10_weigh_63 ?_
            exact ih7 (sI M11 37 v2.toNat (mI M11 32 2)) (v2 + 1) hB18 (by omega) (by omega) (by omega)
  exact lp7 _ M1 0 hB3 (by omega) (by omega) (Nat.lt_succ_self _)

set_option maxRecDepth 4000 in
theorem sfX10_weightTo {l : Launch} {M : Mem} (hB : Box M)  (c : Int) (s : Int)  : Call l mdX10_weightTo [aR 35, aI c, aI s] M (fun q N => ∃ r : Int, q = some (aI r) ∧ M = N) := by
  have hB0 : BF fQ M M := BF.start hB
  refine Call.of [some (aR 35), some (aI c), some (aI s), none, none] rfl (Nat.le_of_ble_eq_true rfl) rfl ?_
  refine vc_ok (fun hoM hoS hoL => ?_)
  have hr1 : -2147483648 ≤ c ∧ c < 2147483648 := hoL 1 _ rfl
  have hr2 : -2147483648 ≤ s ∧ s < 2147483648 := hoL 2 _ rfl
  refine vc_iconst dX10_weightTo_0 rfl ?_
  refine vc_istore_n dX10_weightTo_1 (by decide) rfl (show _ = [some (aR 35), some (aI c), some (aI s), some (aI 0), none] from rfl) ?_
  refine vc_iconst dX10_weightTo_2 rfl ?_
  refine vc_istore dX10_weightTo_3 (by decide) rfl (show _ = [some (aR 35), some (aI c), some (aI s), some (aI 0), some (aI 0)] from rfl) ?_
  have lp5 : ∀ (n5 : Nat) (v3 : Int) (v4 : Int), (0 ≤ v4) → (v4 ≤ 8) → (8 - v4).toNat < n5 → VC l mdX10_weightTo 5 [some (aR 35), some (aI c), some (aI s), some (aI v3), some (aI v4)] [] M 0 0 (fun q N => ∃ r : Int, q = some (aI r) ∧ M = N) := by
    intro n5
    induction n5 with
    | zero => intro v3 v4 g5_4a g5_4b hm5; exact absurd hm5 (Nat.not_lt_zero _)
    | succ n5 ih5 =>
      intro v3 v4 g5_4a g5_4b hm5
      refine vc_iload dX10_weightTo_5 rfl ?_
      refine vc_bipush dX10_weightTo_7 rfl ?_
      refine vc_icmp_ge dX10_weightTo_9 (fun h1 => ?_) (fun h1 => ?_)
      · refine vc_iload_n dX10_weightTo_63 rfl ?_
        refine vc_iret dX10_weightTo_64 rfl (Nat.le_of_ble_eq_true rfl) (Nat.le_of_ble_eq_true rfl) ?_
        exact ⟨_, rfl, rfl⟩
      · refine vc_aload_n dX10_weightTo_12 rfl ?_
        refine vc_getR dX10_weightTo_13 flX10_27 (s_35 hB0.1.1) rfl (r_35_4 hB0.1.1) ?_
        refine vc_iload dX10_weightTo_16 rfl ?_
        refine vc_iaload dX10_weightTo_18 (s_37 hB0.1.1) (by omega) (by omega) ?_
        refine vc_iconst dX10_weightTo_19 rfl ?_
        refine vc_icmp_eq dX10_weightTo_20 (fun h2 => ?_) (fun h2 => ?_)
        · refine vc_iincE dX10_weightTo_57 rfl (by omega) (by omega) (by decide) rfl (show _ = [some (aR 35), some (aI c), some (aI s), some (aI v3), some (aI (v4 + 1))] from rfl) ?_
          refine vc_goto dX10_weightTo_60 ?_
          exact ih5 v3 (v4 + 1) (by omega) (by omega) (by omega)
        · refine vc_iload_n dX10_weightTo_23 rfl ?_
          refine vc_iconst dX10_weightTo_24 rfl ?_
          refine vc_icmp_eq dX10_weightTo_25 (fun h3 => ?_) (fun h3 => ?_)
          · refine vc_iload dX10_weightTo_39 rfl ?_
            refine vc_iload_n dX10_weightTo_41 rfl ?_
            refine vc_iand dX10_weightTo_42 ?_
            refine vc_iload_n dX10_weightTo_43 rfl ?_
            refine vc_icmp_ne dX10_weightTo_44 (fun h4 => ?_) (fun h4 => ?_)
            · refine vc_iincE dX10_weightTo_57 rfl (by omega) (by omega) (by decide) rfl (show _ = [some (aR 35), some (aI c), some (aI s), some (aI v3), some (aI (v4 + 1))] from rfl) ?_
              refine vc_goto dX10_weightTo_60 ?_
              exact ih5 v3 (v4 + 1) (by omega) (by omega) (by omega)
            · refine vc_iload_n dX10_weightTo_47 rfl ?_
              refine vc_aload_n dX10_weightTo_48 rfl ?_
              refine vc_getR dX10_weightTo_49 flX10_23 (s_35 hB0.1.1) rfl (r_35_3 hB0.1.1) ?_
              refine vc_iload dX10_weightTo_52 rfl ?_
              refine vc_iaload dX10_weightTo_54 (s_36 hB0.1.1) (by omega) (by omega) ?_
              refine vc_iadd dX10_weightTo_55 ?_
              refine vc_nameI (fun x5 ex5 => ?_)
              refine vc_istore_n dX10_weightTo_56 (by decide) rfl (show _ = [some (aR 35), some (aI c), some (aI s), some (aI x5), some (aI v4)] from rfl) ?_
              refine vc_iincE dX10_weightTo_57 rfl (by omega) (by omega) (by decide) rfl (show _ = [some (aR 35), some (aI c), some (aI s), some (aI x5), some (aI (v4 + 1))] from rfl) ?_
              refine vc_goto dX10_weightTo_60 ?_
              exact ih5 x5 (v4 + 1) (by omega) (by omega) (by omega)
          · refine vc_aload_n dX10_weightTo_28 rfl ?_
            refine vc_getR dX10_weightTo_29 flX10_27 (s_35 hB0.1.1) rfl (r_35_4 hB0.1.1) ?_
            refine vc_iload dX10_weightTo_32 rfl ?_
            refine vc_iaload dX10_weightTo_34 (s_37 hB0.1.1) (by omega) (by omega) ?_
            refine vc_iload_n dX10_weightTo_35 rfl ?_
            refine vc_icmp_ne dX10_weightTo_36 (fun h6 => ?_) (fun h6 => ?_)
            · refine vc_iincE dX10_weightTo_57 rfl (by omega) (by omega) (by decide) rfl (show _ = [some (aR 35), some (aI c), some (aI s), some (aI v3), some (aI (v4 + 1))] from rfl) ?_
              refine vc_goto dX10_weightTo_60 ?_
              exact ih5 v3 (v4 + 1) (by omega) (by omega) (by omega)
            · refine vc_iload dX10_weightTo_39 rfl ?_
              refine vc_iload_n dX10_weightTo_41 rfl ?_
              refine vc_iand dX10_weightTo_42 ?_
              refine vc_iload_n dX10_weightTo_43 rfl ?_
              refine vc_icmp_ne dX10_weightTo_44 (fun h7 => ?_) (fun h7 => ?_)
              · refine vc_iincE dX10_weightTo_57 rfl (by omega) (by omega) (by decide) rfl (show _ = [some (aR 35), some (aI c), some (aI s), some (aI v3), some (aI (v4 + 1))] from rfl) ?_
                refine vc_goto dX10_weightTo_60 ?_
                exact ih5 v3 (v4 + 1) (by omega) (by omega) (by omega)
              · refine vc_iload_n dX10_weightTo_47 rfl ?_
                refine vc_aload_n dX10_weightTo_48 rfl ?_
                refine vc_getR dX10_weightTo_49 flX10_23 (s_35 hB0.1.1) rfl (r_35_3 hB0.1.1) ?_
                refine vc_iload dX10_weightTo_52 rfl ?_
                refine vc_iaload dX10_weightTo_54 (s_36 hB0.1.1) (by omega) (by omega) ?_
                refine vc_iadd dX10_weightTo_55 ?_
                refine vc_nameI (fun x8 ex8 => ?_)
                refine vc_istore_n dX10_weightTo_56 (by decide) rfl (show _ = [some (aR 35), some (aI c), some (aI s), some (aI x8), some (aI v4)] from rfl) ?_
                refine vc_iincE dX10_weightTo_57 rfl (by omega) (by omega) (by decide) rfl (show _ = [some (aR 35), some (aI c), some (aI s), some (aI x8), some (aI (v4 + 1))] from rfl) ?_
                refine vc_goto dX10_weightTo_60 ?_
                exact ih5 x8 (v4 + 1) (by omega) (by omega) (by omega)
  exact lp5 _ 0 0 (by omega) (by omega) (Nat.lt_succ_self _)

set_option maxRecDepth 4000 in
theorem sfX10_multiply {l : Launch} {M : Mem} (hB : Box M)  (s : Int)  : Call l mdX10_multiply [aR 35, aI s] M (fun q N => q = none ∧ BF fQ M N) := by
  have hB0 : BF fQ M M := BF.start hB
  refine Call.of [some (aR 35), some (aI s), none, none] rfl (Nat.le_of_ble_eq_true rfl) rfl ?_
  refine vc_ok (fun hoM hoS hoL => ?_)
  have hr1 : -2147483648 ≤ s ∧ s < 2147483648 := hoL 1 _ rfl
  refine vc_aload_n dX10_multiply_0 rfl ?_
  refine vc_getR dX10_multiply_1 flX10_33 (s_35 hB0.1.1) rfl (r_35_6 hB0.1.1) ?_
  refine vc_lconst dX10_multiply_4 ?_
  refine vc_topL 0 rfl ?_
  refine vc_cSU dX10_multiply_5 (sfJ7_fill_d0a16_39 (M := M) hB0.1  0 ) rfl okJ7_fill_d0a16 stJ7_fill_d0a16 lkX10_60 rfl (Nat.le_of_ble_eq_true rfl) ⟨rfl, rfl⟩ (Nat.le_of_ble_eq_true rfl) (Nat.le_of_ble_eq_true rfl) (Nat.le_of_ble_eq_true rfl) ?_
  rintro M1 hB2
  have hB3 : BF fQ M M1 := BF.go hB0 hB2
  refine vc_iconst dX10_multiply_8 rfl ?_
  refine vc_istore_n dX10_multiply_9 (by decide) rfl (show _ = [some (aR 35), some (aI s), some (aI 0), none] from rfl) ?_
  have lp10 : ∀ (n10 : Nat) (Mq10 : Mem) (v2 : Int), (BF fQ M Mq10) → (0 ≤ v2) → (v2 ≤ 16) → (16 - v2).toNat < n10 → VC l mdX10_multiply 10 [some (aR 35), some (aI s), some (aI v2), none] [] Mq10 0 0 (fun q N => q = none ∧ BF fQ M N) := by
    intro n10
    induction n10 with
    | zero => intro Mq10 v2 hQ10 g10_2a g10_2b hm10; exact absurd hm10 (Nat.not_lt_zero _)
    | succ n10 ih10 =>
      intro Mq10 v2 hQ10 g10_2a g10_2b hm10
      refine vc_iload_n dX10_multiply_10 rfl ?_
      refine vc_aload_n dX10_multiply_11 rfl ?_
      refine vc_getR dX10_multiply_12 flX10_9 (s_35 hQ10.1.1) rfl (r_35_0 hQ10.1.1) ?_
      refine vc_getI dX10_multiply_15 flX10_66 (s_1 hQ10.1.1) rfl ?_
      have k4 : 0 ≤ mI Mq10 1 6 ∧ mI Mq10 1 6 ≤ 16 := b1_6 (M := Mq10) hQ10.1
      refine vc_icmp_ge dX10_multiply_18 (fun h5 => ?_) (fun h5 => ?_)
      · refine vc_iconst dX10_multiply_34 rfl ?_
        refine vc_istore_n dX10_multiply_35 (by decide) rfl (show _ = [some (aR 35), some (aI s), some (aI 0), none] from rfl) ?_
        have lp36 : ∀ (n36 : Nat) (Mq36 : Mem) (v2i : Int), (BF fQ M Mq36) → (0 ≤ v2i) → (v2i ≤ 8) → (8 - v2i).toNat < n36 → VC l mdX10_multiply 36 [some (aR 35), some (aI s), some (aI v2i), none] [] Mq36 0 0 (fun q N => q = none ∧ BF fQ M N) := by
          intro n36
          induction n36 with
          | zero => intro Mq36 v2i hQ36 g36_2a g36_2b hm36; exact absurd hm36 (Nat.not_lt_zero _)
          | succ n36 ih36 =>
            intro Mq36 v2i hQ36 g36_2a g36_2b hm36
            refine vc_iload_n dX10_multiply_36 rfl ?_
            refine vc_aload_n dX10_multiply_37 rfl ?_
            refine vc_getR dX10_multiply_38 flX10_9 (s_35 hQ36.1.1) rfl (r_35_0 hQ36.1.1) ?_
            refine vc_getI dX10_multiply_41 flX10_70 (s_1 hQ36.1.1) rfl ?_
            have k6 : 0 ≤ mI Mq36 1 9 ∧ mI Mq36 1 9 ≤ 8 := b1_9 (M := Mq36) hQ36.1
            refine vc_icmp_ge dX10_multiply_44 (fun h7 => ?_) (fun h7 => ?_)
            · refine vc_aload_n dX10_multiply_101 rfl ?_
              refine vc_lconst dX10_multiply_102 ?_
              refine vc_topL 0 rfl ?_
              refine vc_putJ dX10_multiply_103 (plX10_79 _ rfl) (s_35 hQ36.1.1) rfl ?_
              have hB8 : BF fQ M (sJ Mq36 35 7 0) := BF.J hQ36 _ _ _ rfl
              refine vc_iconst dX10_multiply_106 rfl ?_
              refine vc_istore_n dX10_multiply_107 (by decide) rfl (show _ = [some (aR 35), some (aI s), some (aI 0), none] from rfl) ?_
              have lp108 : ∀ (n108 : Nat) (Mq108 : Mem) (v2ii : Int), (BF fQ M Mq108) → (0 ≤ v2ii) → (v2ii ≤ 16) → (16 - v2ii).toNat < n108 → VC l mdX10_multiply 108 [some (aR 35), none, some (aI v2ii), none] [] Mq108 0 0 (fun q N => q = none ∧ BF fQ M N) := by
                intro n108
                induction n108 with
                | zero => intro Mq108 v2ii hQ108 g108_2a g108_2b hm108; exact absurd hm108 (Nat.not_lt_zero _)
                | succ n108 ih108 =>
                  intro Mq108 v2ii hQ108 g108_2a g108_2b hm108
                  refine vc_iload_n dX10_multiply_108 rfl ?_
                  refine vc_aload_n dX10_multiply_109 rfl ?_
                  refine vc_getR dX10_multiply_110 flX10_9 (s_35 hQ108.1.1) rfl (r_35_0 hQ108.1.1) ?_
                  refine vc_getI dX10_multiply_113 flX10_66 (s_1 hQ108.1.1) rfl ?_
                  have k9 : 0 ≤ mI Mq108 1 6 ∧ mI Mq108 1 6 ≤ 16 := b1_6 (M := Mq108) hQ108.1
                  refine vc_icmp_ge dX10_multiply_116 (fun h10 => ?_) (fun h10 => ?_)
                  · refine vc_vret dX10_multiply_140 rfl (Nat.le_of_ble_eq_true rfl) (Nat.le_of_ble_eq_true rfl) ?_
                    exact ⟨rfl, hQ108⟩
                  · refine vc_aload_n dX10_multiply_119 rfl ?_
                    refine vc_dup dX10_multiply_120 rfl ?_
                    refine vc_getJ dX10_multiply_121 flX10_79 (s_35 hQ108.1.1) rfl ?_
                    refine vc_aload_n dX10_multiply_124 rfl ?_
                    refine vc_getR dX10_multiply_125 flX10_33 (s_35 hQ108.1.1) rfl (r_35_6 hQ108.1.1) ?_
                    refine vc_iload_n dX10_multiply_128 rfl ?_
                    refine vc_laload dX10_multiply_129 (s_39 hQ108.1.1) (by omega) (by omega) ?_
                    refine vc_ladd dX10_multiply_130 ?_
                    refine vc_putJ dX10_multiply_131 (plX10_79 _ rfl) (s_35 hQ108.1.1) rfl ?_
                    have hB11 : BF fQ M (sJ Mq108 35 7 (wL ((mJ Mq108 35 7) + (mJ Mq108 39 v2ii.toNat)))) := BF.J hQ108 _ _ _ rfl
                    refine vc_iincE dX10_multiply_134 rfl (by omega) (by omega) (by decide) rfl (show _ = [some (aR 35), none, some (aI (v2ii + 1)), none] from rfl) ?_
                    refine vc_goto dX10_multiply_137 ?_
                    exact ih108 (sJ Mq108 35 7 (wL ((mJ Mq108 35 7) + (mJ Mq108 39 v2ii.toNat)))) (v2ii + 1) hB11 (by omega) (by omega) (by omega)
              refine vc_less [some (aR 35), none, some (aI 0), none] (lessL_keep (lessL_drop (lessL_keep (lessL_keep (lessL_nil))))) ?_
              exact lp108 _ (sJ Mq36 35 7 0) 0 hB8 (by omega) (by omega) (Nat.lt_succ_self _)
            · refine vc_iload_n dX10_multiply_47 rfl ?_
              refine vc_iload_n dX10_multiply_48 rfl ?_
              refine vc_ishr dX10_multiply_49 ?_
              refine vc_iconst dX10_multiply_50 rfl ?_
              refine vc_iandM dX10_multiply_51 2 1 rfl (by decide) rfl ?_
              refine vc_if_eq dX10_multiply_52 (fun h12 => ?_) (fun h12 => ?_)
              · refine vc_iincE dX10_multiply_95 rfl (by omega) (by omega) (by decide) rfl (show _ = [some (aR 35), some (aI s), some (aI (v2i + 1)), none] from rfl) ?_
                refine vc_goto dX10_multiply_98 ?_
                exact ih36 Mq36 (v2i + 1) hQ36 (by omega) (by omega) (by omega)
              · refine vc_aload_n dX10_multiply_55 rfl ?_
                refine vc_iload_n dX10_multiply_56 rfl ?_
                refine vc_cVU dX10_multiply_57 (sfX10_weigh (M := Mq36) hQ36.1  v2i ) rfl okX10_weigh viX10_weigh lkX10_73 (s_35 hQ36.1.1) cl_10 rfl (Nat.le_of_ble_eq_true rfl) ⟨rfl, rfl⟩ (Nat.le_of_ble_eq_true rfl) (Nat.le_of_ble_eq_true rfl) (Nat.le_of_ble_eq_true rfl) ?_
                rintro M13 hB14
                have hB15 : BF fQ M M13 := BF.go hQ36 hB14.wq
                refine vc_iconst dX10_multiply_60 rfl ?_
                refine vc_istore_n dX10_multiply_61 (by decide) rfl (show _ = [some (aR 35), some (aI s), some (aI v2i), some (aI 0)] from rfl) ?_
                have lp62 : ∀ (n62 : Nat) (Mq62 : Mem) (v3 : Int), (BF fQ M Mq62) → (0 ≤ v3) → (v3 ≤ 16) → (16 - v3).toNat < n62 → VC l mdX10_multiply 62 [some (aR 35), some (aI s), some (aI v2i), some (aI v3)] [] Mq62 0 0 (fun q N => q = none ∧ BF fQ M N) := by
                  intro n62
                  induction n62 with
                  | zero => intro Mq62 v3 hQ62 g62_3a g62_3b hm62; exact absurd hm62 (Nat.not_lt_zero _)
                  | succ n62 ih62 =>
                    intro Mq62 v3 hQ62 g62_3a g62_3b hm62
                    refine vc_iload_n dX10_multiply_62 rfl ?_
                    refine vc_aload_n dX10_multiply_63 rfl ?_
                    refine vc_getR dX10_multiply_64 flX10_9 (s_35 hQ62.1.1) rfl (r_35_0 hQ62.1.1) ?_
                    refine vc_getI dX10_multiply_67 flX10_66 (s_1 hQ62.1.1) rfl ?_
                    have k16 : 0 ≤ mI Mq62 1 6 ∧ mI Mq62 1 6 ≤ 16 := b1_6 (M := Mq62) hQ62.1
                    refine vc_icmp_ge dX10_multiply_70 (fun h17 => ?_) (fun h17 => ?_)
                    · refine vc_iincE dX10_multiply_95 rfl (by omega) (by omega) (by decide) rfl (show _ = [some (aR 35), some (aI s), some (aI (v2i + 1)), some (aI v3)] from rfl) ?_
                      refine vc_goto dX10_multiply_98 ?_
                      refine vc_less [some (aR 35), some (aI s), some (aI (v2i + 1)), none] (lessL_keep (lessL_keep (lessL_keep (lessL_drop (lessL_nil))))) ?_
                      exact ih36 Mq62 (v2i + 1) hQ62 (by omega) (by omega) (by omega)
                    · refine vc_aload_n dX10_multiply_73 rfl ?_
                      refine vc_getR dX10_multiply_74 flX10_33 (s_35 hQ62.1.1) rfl (r_35_6 hQ62.1.1) ?_
                      refine vc_iload_n dX10_multiply_77 rfl ?_
                      refine vc_dup2 dX10_multiply_78 rfl rfl ?_
                      refine vc_laload dX10_multiply_79 (s_39 hQ62.1.1) (by omega) (by omega) ?_
                      refine vc_aload_n dX10_multiply_80 rfl ?_
                      refine vc_iload_n dX10_multiply_81 rfl ?_
                      refine vc_iconst dX10_multiply_82 rfl ?_
                      refine vc_cVI dX10_multiply_83 (sfX10_weightTo (M := Mq62) hQ62.1  v3 0 ) rfl okX10_weightTo viX10_weightTo lkX10_76 (s_35 hQ62.1.1) cl_10 rfl (Nat.le_of_ble_eq_true rfl) ⟨rfl, rfl⟩ (Nat.le_of_ble_eq_true rfl) (Nat.le_of_ble_eq_true rfl) (Nat.le_of_ble_eq_true rfl) ?_
                      rintro x18 _ rfl
                      refine vc_i2l dX10_multiply_86 ?_
                      refine vc_lmul dX10_multiply_87 ?_
                      refine vc_lastore dX10_multiply_88 (s_39 hQ62.1.1) (by omega) (by omega) ?_
                      have hB19 : BF fQ M (sJ Mq62 39 v3.toNat (wL ((mJ Mq62 39 v3.toNat) * x18))) := BF.J hQ62 _ _ _ rfl
                      refine vc_iincE dX10_multiply_89 rfl (by omega) (by omega) (by decide) rfl (show _ = [some (aR 35), some (aI s), some (aI v2i), some (aI (v3 + 1))] from rfl) ?_
                      refine vc_goto dX10_multiply_92 ?_
                      exact ih62 (sJ Mq62 39 v3.toNat (wL ((mJ Mq62 39 v3.toNat) * x18))) (v3 + 1) hB19 (by omega) (by omega) (by omega)
                exact lp62 _ M13 0 hB15 (by omega) (by omega) (Nat.lt_succ_self _)
        exact lp36 _ Mq10 0 hQ10 (by omega) (by omega) (Nat.lt_succ_self _)
      · refine vc_aload_n dX10_multiply_21 rfl ?_
        refine vc_getR dX10_multiply_22 flX10_33 (s_35 hQ10.1.1) rfl (r_35_6 hQ10.1.1) ?_
        refine vc_iload_n dX10_multiply_25 rfl ?_
        refine vc_lconst dX10_multiply_26 ?_
        refine vc_topL 1 rfl ?_
        refine vc_lastore dX10_multiply_27 (s_39 hQ10.1.1) (by omega) (by omega) ?_
        have hB20 : BF fQ M (sJ Mq10 39 v2.toNat 1) := BF.J hQ10 _ _ _ rfl
        refine vc_iincE dX10_multiply_28 rfl (by omega) (by omega) (by decide) rfl (show _ = [some (aR 35), some (aI s), some (aI (v2 + 1)), none] from rfl) ?_
        refine vc_goto dX10_multiply_31 ?_
        exact ih10 (sJ Mq10 39 v2.toNat 1) (v2 + 1) hB20 (by omega) (by omega) (by omega)
  exact lp10 _ M1 0 hB3 (by omega) (by omega) (Nat.lt_succ_self _)

set_option maxRecDepth 4000 in
theorem sfX10_listCorners {l : Launch} {M : Mem} (hB : Box M)    : Call l mdX10_listCorners [aR 35] M (fun q N => q = none ∧ BF fQ M N) := by
  have hB0 : BF fQ M M := BF.start hB
  refine Call.of [some (aR 35), none, none] rfl (Nat.le_of_ble_eq_true rfl) rfl ?_
  refine vc_iconst dX10_listCorners_0 rfl ?_
  refine vc_istore_n dX10_listCorners_1 (by decide) rfl (show _ = [some (aR 35), some (aI 0), none] from rfl) ?_
  have lp2 : ∀ (n2 : Nat) (Mq2 : Mem) (v1 : Int), (BF fQ M Mq2) → (0 ≤ v1) → (v1 ≤ 8) → (8 - v1).toNat < n2 → VC l mdX10_listCorners 2 [some (aR 35), some (aI v1), none] [] Mq2 0 0 (fun q N => q = none ∧ BF fQ M N) := by
    intro n2
    induction n2 with
    | zero => intro Mq2 v1 hQ2 g2_1a g2_1b hm2; exact absurd hm2 (Nat.not_lt_zero _)
    | succ n2 ih2 =>
      intro Mq2 v1 hQ2 g2_1a g2_1b hm2
      refine vc_iload_n dX10_listCorners_2 rfl ?_
      refine vc_aload_n dX10_listCorners_3 rfl ?_
      refine vc_getR dX10_listCorners_4 flX10_9 (s_35 hQ2.1.1) rfl (r_35_0 hQ2.1.1) ?_
      refine vc_getI dX10_listCorners_7 flX10_70 (s_1 hQ2.1.1) rfl ?_
      have k1 : 0 ≤ mI Mq2 1 9 ∧ mI Mq2 1 9 ≤ 8 := b1_9 (M := Mq2) hQ2.1
      refine vc_icmp_ge dX10_listCorners_10 (fun h2 => ?_) (fun h2 => ?_)
      · refine vc_vret dX10_listCorners_72 rfl (Nat.le_of_ble_eq_true rfl) (Nat.le_of_ble_eq_true rfl) ?_
        exact ⟨rfl, hQ2⟩
      · refine vc_aload_n dX10_listCorners_13 rfl ?_
        refine vc_iload_n dX10_listCorners_14 rfl ?_
        refine vc_cVU dX10_listCorners_15 (sfX10_weigh (M := Mq2) hQ2.1  v1 ) rfl okX10_weigh viX10_weigh lkX10_73 (s_35 hQ2.1.1) cl_10 rfl (Nat.le_of_ble_eq_true rfl) ⟨rfl, rfl⟩ (Nat.le_of_ble_eq_true rfl) (Nat.le_of_ble_eq_true rfl) (Nat.le_of_ble_eq_true rfl) ?_
        rintro M3 hB4
        have hB5 : BF fQ M M3 := BF.go hQ2 hB4.wq
        refine vc_aload_n dX10_listCorners_18 rfl ?_
        refine vc_getR dX10_listCorners_19 flX10_30 (s_35 hB5.1.1) rfl (r_35_5 hB5.1.1) ?_
        refine vc_iload_n dX10_listCorners_22 rfl ?_
        refine vc_iconst dX10_listCorners_23 rfl ?_
        refine vc_iastore dX10_listCorners_24 (s_38 hB5.1.1) (by omega) (by omega) ?_
        have hB6 : BF fQ M (sI M3 38 v1.toNat 0) := BF.w38 hB5 (fun _ => rfl) _
        refine vc_iconst dX10_listCorners_25 rfl ?_
        refine vc_istore_n dX10_listCorners_26 (by decide) rfl (show _ = [some (aR 35), some (aI v1), some (aI 0)] from rfl) ?_
        have lp27 : ∀ (n27 : Nat) (Mq27 : Mem) (v2 : Int), (BF fQ M Mq27) → (0 ≤ v2) → (v2 ≤ 8) → (8 - v2).toNat < n27 → VC l mdX10_listCorners 27 [some (aR 35), some (aI v1), some (aI v2)] [] Mq27 0 0 (fun q N => q = none ∧ BF fQ M N) := by
          intro n27
          induction n27 with
          | zero => intro Mq27 v2 hQ27 g27_2a g27_2b hm27; exact absurd hm27 (Nat.not_lt_zero _)
          | succ n27 ih27 =>
            intro Mq27 v2 hQ27 g27_2a g27_2b hm27
            refine vc_iload_n dX10_listCorners_27 rfl ?_
            refine vc_bipush dX10_listCorners_28 rfl ?_
            refine vc_icmp_ge dX10_listCorners_30 (fun h7 => ?_) (fun h7 => ?_)
            · refine vc_iincE dX10_listCorners_66 rfl (by omega) (by omega) (by decide) rfl (show _ = [some (aR 35), some (aI (v1 + 1)), some (aI v2)] from rfl) ?_
              refine vc_goto dX10_listCorners_69 ?_
              refine vc_less [some (aR 35), some (aI (v1 + 1)), none] (lessL_keep (lessL_keep (lessL_drop (lessL_nil)))) ?_
              exact ih2 Mq27 (v1 + 1) hQ27 (by omega) (by omega) (by omega)
            · refine vc_aload_n dX10_listCorners_33 rfl ?_
              refine vc_getR dX10_listCorners_34 flX10_27 (s_35 hQ27.1.1) rfl (r_35_4 hQ27.1.1) ?_
              refine vc_iload_n dX10_listCorners_37 rfl ?_
              refine vc_iaload dX10_listCorners_38 (s_37 hQ27.1.1) (by omega) (by omega) ?_
              refine vc_iconst dX10_listCorners_39 rfl ?_
              refine vc_icmp_eq dX10_listCorners_40 (fun h8 => ?_) (fun h8 => ?_)
              · refine vc_iincE dX10_listCorners_60 rfl (by omega) (by omega) (by decide) rfl (show _ = [some (aR 35), some (aI v1), some (aI (v2 + 1))] from rfl) ?_
                refine vc_goto dX10_listCorners_63 ?_
                exact ih27 Mq27 (v2 + 1) hQ27 (by omega) (by omega) (by omega)
              · refine vc_aload_n dX10_listCorners_43 rfl ?_
                refine vc_getR dX10_listCorners_44 flX10_30 (s_35 hQ27.1.1) rfl (r_35_5 hQ27.1.1) ?_
                refine vc_iload_n dX10_listCorners_47 rfl ?_
                refine vc_dup2 dX10_listCorners_48 rfl rfl ?_
                refine vc_iaload dX10_listCorners_49 (s_38 hQ27.1.1) (by omega) (by omega) ?_
                refine vc_iconst dX10_listCorners_50 rfl ?_
                refine vc_aload_n dX10_listCorners_51 rfl ?_
                refine vc_getR dX10_listCorners_52 flX10_27 (s_35 hQ27.1.1) rfl (r_35_4 hQ27.1.1) ?_
                refine vc_iload_n dX10_listCorners_55 rfl ?_
                refine vc_iaload dX10_listCorners_56 (s_37 hQ27.1.1) (by omega) (by omega) ?_
                refine vc_ishl dX10_listCorners_57 ?_
                refine vc_ior dX10_listCorners_58 ?_
                refine vc_iastore dX10_listCorners_59 (s_38 hQ27.1.1) (by omega) (by omega) ?_
                have hB9 : BF fQ M (sI Mq27 38 v1.toNat (orI (mI Mq27 38 v1.toNat) (shlI 1 (mI Mq27 37 v2.toNat)))) := BF.w38 hQ27 (fun _ => rfl) _
                refine vc_iincE dX10_listCorners_60 rfl (by omega) (by omega) (by decide) rfl (show _ = [some (aR 35), some (aI v1), some (aI (v2 + 1))] from rfl) ?_
                refine vc_goto dX10_listCorners_63 ?_
                exact ih27 (sI Mq27 38 v1.toNat (orI (mI Mq27 38 v1.toNat) (shlI 1 (mI Mq27 37 v2.toNat)))) (v2 + 1) hB9 (by omega) (by omega) (by omega)
        exact lp27 _ (sI M3 38 v1.toNat 0) 0 hB6 (by omega) (by omega) (Nat.lt_succ_self _)
  exact lp2 _ M 0 hB0 (by omega) (by omega) (Nat.lt_succ_self _)

set_option maxRecDepth 4000 in
theorem sfX10_thatReach {l : Launch} {M : Mem} (hB : Box M)  (c : Int)  : Call l mdX10_thatReach [aR 35, aI c] M (fun q N => ∃ r : Int, q = some (aI r) ∧ M = N) := by
  have hB0 : BF fQ M M := BF.start hB
  refine Call.of [some (aR 35), some (aI c), none, none] rfl (Nat.le_of_ble_eq_true rfl) rfl ?_
  refine vc_ok (fun hoM hoS hoL => ?_)
  have hr1 : -2147483648 ≤ c ∧ c < 2147483648 := hoL 1 _ rfl
  refine vc_iconst dX10_thatReach_0 rfl ?_
  refine vc_istore_n dX10_thatReach_1 (by decide) rfl (show _ = [some (aR 35), some (aI c), some (aI 0), none] from rfl) ?_
  refine vc_iconst dX10_thatReach_2 rfl ?_
  refine vc_istore_n dX10_thatReach_3 (by decide) rfl (show _ = [some (aR 35), some (aI c), some (aI 0), some (aI 0)] from rfl) ?_
  have lp4 : ∀ (n4 : Nat) (v2 : Int) (v3 : Int), (0 ≤ v3) → (v3 ≤ 8) → (8 - v3).toNat < n4 → VC l mdX10_thatReach 4 [some (aR 35), some (aI c), some (aI v2), some (aI v3)] [] M 0 0 (fun q N => ∃ r : Int, q = some (aI r) ∧ M = N) := by
    intro n4
    induction n4 with
    | zero => intro v2 v3 g4_3a g4_3b hm4; exact absurd hm4 (Nat.not_lt_zero _)
    | succ n4 ih4 =>
      intro v2 v3 g4_3a g4_3b hm4
      refine vc_iload_n dX10_thatReach_4 rfl ?_
      refine vc_aload_n dX10_thatReach_5 rfl ?_
      refine vc_getR dX10_thatReach_6 flX10_9 (s_35 hB0.1.1) rfl (r_35_0 hB0.1.1) ?_
      refine vc_getI dX10_thatReach_9 flX10_70 (s_1 hB0.1.1) rfl ?_
      have k1 : 0 ≤ mI M 1 9 ∧ mI M 1 9 ≤ 8 := b1_9 (M := M) hB0.1
      refine vc_icmp_ge dX10_thatReach_12 (fun h2 => ?_) (fun h2 => ?_)
      · refine vc_iload_n dX10_thatReach_36 rfl ?_
        refine vc_iret dX10_thatReach_37 rfl (Nat.le_of_ble_eq_true rfl) (Nat.le_of_ble_eq_true rfl) ?_
        exact ⟨_, rfl, rfl⟩
      · refine vc_iload_n dX10_thatReach_15 rfl ?_
        refine vc_aload_n dX10_thatReach_16 rfl ?_
        refine vc_getR dX10_thatReach_17 flX10_30 (s_35 hB0.1.1) rfl (r_35_5 hB0.1.1) ?_
        refine vc_iload_n dX10_thatReach_20 rfl ?_
        refine vc_iaload dX10_thatReach_21 (s_38 hB0.1.1) (by omega) (by omega) ?_
        refine vc_iload_n dX10_thatReach_22 rfl ?_
        refine vc_ishr dX10_thatReach_23 ?_
        refine vc_iconst dX10_thatReach_24 rfl ?_
        refine vc_iandM dX10_thatReach_25 2 1 rfl (by decide) rfl ?_
        refine vc_iload_n dX10_thatReach_26 rfl ?_
        refine vc_ishl dX10_thatReach_27 ?_
        refine vc_ior dX10_thatReach_28 ?_
        refine vc_nameI (fun x3 ex3 => ?_)
        refine vc_istore_n dX10_thatReach_29 (by decide) rfl (show _ = [some (aR 35), some (aI c), some (aI x3), some (aI v3)] from rfl) ?_
        refine vc_iincE dX10_thatReach_30 rfl (by omega) (by omega) (by decide) rfl (show _ = [some (aR 35), some (aI c), some (aI x3), some (aI (v3 + 1))] from rfl) ?_
        refine vc_goto dX10_thatReach_33 ?_
        exact ih4 x3 (v3 + 1) (by omega) (by omega) (by omega)
  exact lp4 _ 0 0 (by omega) (by omega) (Nat.lt_succ_self _)

set_option maxRecDepth 4000 in
theorem sfX10_safeWeight {l : Launch} {M : Mem} (hB : Box M)  (t : Int) (k : Int)  : Call l mdX10_safeWeight [aR 35, aI t, aI k] M (fun q N => ∃ r : Int, q = some (aI r) ∧ BF fQ M N) := by
  have hB0 : BF fQ M M := BF.start hB
  refine Call.of [some (aR 35), some (aI t), some (aI k), none, none, none, none] rfl (Nat.le_of_ble_eq_true rfl) rfl ?_
  refine vc_ok (fun hoM hoS hoL => ?_)
  have hr1 : -2147483648 ≤ t ∧ t < 2147483648 := hoL 1 _ rfl
  have hr2 : -2147483648 ≤ k ∧ k < 2147483648 := hoL 2 _ rfl
  refine vc_aload_n dX10_safeWeight_0 rfl ?_
  refine vc_getR dX10_safeWeight_1 flX10_19 (s_35 hB0.1.1) rfl (r_35_2 hB0.1.1) ?_
  refine vc_iload_n dX10_safeWeight_4 rfl ?_
  refine vc_cVU dX10_safeWeight_5 (sfX1_setOutAsTold (M := M) hB0.1  t ) rfl okX1_setOutAsTold viX1_setOutAsTold lkX10_47 (s_32 hB0.1.1) cl_1 rfl (Nat.le_of_ble_eq_true rfl) ⟨rfl, rfl⟩ (Nat.le_of_ble_eq_true rfl) (Nat.le_of_ble_eq_true rfl) (Nat.le_of_ble_eq_true rfl) ?_
  rintro M1 hB2
  have hB3 : BF fQ M M1 := BF.go hB0 hB2.sq
  refine vc_aload_n dX10_safeWeight_8 rfl ?_
  refine vc_getR dX10_safeWeight_9 flX10_19 (s_35 hB3.1.1) rfl (r_35_2 hB3.1.1) ?_
  refine vc_iload_n dX10_safeWeight_12 rfl ?_
  refine vc_iconst dX10_safeWeight_13 rfl ?_
  refine vc_iload_n dX10_safeWeight_14 rfl ?_
  refine vc_cVI dX10_safeWeight_15 (sfX1_goesFirst (M := M1) hB3.1  t 0 k ) rfl okX1_goesFirst viX1_goesFirst lkX10_83 (s_32 hB3.1.1) cl_1 rfl (Nat.le_of_ble_eq_true rfl) ⟨rfl, rfl⟩ (Nat.le_of_ble_eq_true rfl) (Nat.le_of_ble_eq_true rfl) (Nat.le_of_ble_eq_true rfl) ?_
  rintro x4 M5 ⟨hB6, h7, h8⟩
  have hB9 : BF fQ M M5 := BF.go hB3 hB6.sq
  refine vc_if_ne dX10_safeWeight_18 (fun h10 => ?_) (fun h10 => ?_)
  · refine vc_aload_n dX10_safeWeight_23 rfl ?_
    refine vc_getR dX10_safeWeight_24 flX10_19 (s_35 hB9.1.1) rfl (r_35_2 hB9.1.1) ?_
    refine vc_getI dX10_safeWeight_27 flX10_56 (s_32 hB9.1.1) rfl ?_
    refine vc_nameI (fun x11 ex11 => ?_)
    refine vc_istore_n dX10_safeWeight_30 (by decide) rfl (show _ = [some (aR 35), some (aI t), some (aI k), some (aI x11), none, none, none] from rfl) ?_
    refine vc_aload_n dX10_safeWeight_31 rfl ?_
    refine vc_getR dX10_safeWeight_32 flX10_19 (s_35 hB9.1.1) rfl (r_35_2 hB9.1.1) ?_
    refine vc_getI dX10_safeWeight_35 flX10_86 (s_32 hB9.1.1) rfl ?_
    refine vc_nameI (fun x12 ex12 => ?_)
    refine vc_istore dX10_safeWeight_38 (by decide) rfl (show _ = [some (aR 35), some (aI t), some (aI k), some (aI x11), some (aI x12), none, none] from rfl) ?_
    refine vc_aload_n dX10_safeWeight_40 rfl ?_
    refine vc_iload_n dX10_safeWeight_41 rfl ?_
    refine vc_cVU dX10_safeWeight_42 (sfX10_setWeights (M := M5) hB9.1  t ) rfl okX10_setWeights viX10_setWeights lkX10_43 (s_35 hB9.1.1) cl_10 rfl (Nat.le_of_ble_eq_true rfl) ⟨rfl, rfl⟩ (Nat.le_of_ble_eq_true rfl) (Nat.le_of_ble_eq_true rfl) (Nat.le_of_ble_eq_true rfl) ?_
    rintro M13 hB14
    have hB15 : BF fQ M M13 := BF.go hB9 hB14.wq
    refine vc_iconst dX10_safeWeight_45 rfl ?_
    refine vc_istore dX10_safeWeight_46 (by decide) rfl (show _ = [some (aR 35), some (aI t), some (aI k), some (aI x11), some (aI x12), some (aI 0), none] from rfl) ?_
    refine vc_iconst dX10_safeWeight_48 rfl ?_
    refine vc_istore dX10_safeWeight_49 (by decide) rfl (show _ = [some (aR 35), some (aI t), some (aI k), some (aI x11), some (aI x12), some (aI 0), some (aI 0)] from rfl) ?_
    have lp51 : ∀ (n51 : Nat) (Mq51 : Mem) (v5 : Int) (v6 : Int), (BF fQ M Mq51) → (0 ≤ v6) → (v6 ≤ 8) → (8 - v6).toNat < n51 → VC l mdX10_safeWeight 51 [some (aR 35), some (aI t), some (aI k), some (aI x11), some (aI x12), some (aI v5), some (aI v6)] [] Mq51 0 0 (fun q N => ∃ r : Int, q = some (aI r) ∧ BF fQ M N) := by
      intro n51
      induction n51 with
      | zero => intro Mq51 v5 v6 hQ51 g51_6a g51_6b hm51; exact absurd hm51 (Nat.not_lt_zero _)
      | succ n51 ih51 =>
        intro Mq51 v5 v6 hQ51 g51_6a g51_6b hm51
        refine vc_iload dX10_safeWeight_51 rfl ?_
        refine vc_bipush dX10_safeWeight_53 rfl ?_
        refine vc_icmp_ge dX10_safeWeight_55 (fun h16 => ?_) (fun h16 => ?_)
        · refine vc_iload dX10_safeWeight_131 rfl ?_
          refine vc_iret dX10_safeWeight_133 rfl (Nat.le_of_ble_eq_true rfl) (Nat.le_of_ble_eq_true rfl) ?_
          exact ⟨_, rfl, hQ51⟩
        · refine vc_aload_n dX10_safeWeight_58 rfl ?_
          refine vc_getR dX10_safeWeight_59 flX10_23 (s_35 hQ51.1.1) rfl (r_35_3 hQ51.1.1) ?_
          refine vc_iload dX10_safeWeight_62 rfl ?_
          refine vc_iaload dX10_safeWeight_64 (s_36 hQ51.1.1) (by omega) (by omega) ?_
          refine vc_if_eq dX10_safeWeight_65 (fun h17 => ?_) (fun h17 => ?_)
          · refine vc_iincE dX10_safeWeight_125 rfl (by omega) (by omega) (by decide) rfl (show _ = [some (aR 35), some (aI t), some (aI k), some (aI x11), some (aI x12), some (aI v5), some (aI (v6 + 1))] from rfl) ?_
            refine vc_goto dX10_safeWeight_128 ?_
            exact ih51 Mq51 v5 (v6 + 1) hQ51 (by omega) (by omega) (by omega)
          · refine vc_aload_n dX10_safeWeight_68 rfl ?_
            refine vc_getR dX10_safeWeight_69 flX10_19 (s_35 hQ51.1.1) rfl (r_35_2 hQ51.1.1) ?_
            refine vc_iload_n dX10_safeWeight_72 rfl ?_
            refine vc_cVU dX10_safeWeight_73 (sfX1_setOutAsTold (M := Mq51) hQ51.1  t ) rfl okX1_setOutAsTold viX1_setOutAsTold lkX10_47 (s_32 hQ51.1.1) cl_1 rfl (Nat.le_of_ble_eq_true rfl) ⟨rfl, rfl⟩ (Nat.le_of_ble_eq_true rfl) (Nat.le_of_ble_eq_true rfl) (Nat.le_of_ble_eq_true rfl) ?_
            rintro M18 hB19
            have hB20 : BF fQ M M18 := BF.go hQ51 hB19.sq
            refine vc_aload_n dX10_safeWeight_76 rfl ?_
            refine vc_getR dX10_safeWeight_77 flX10_19 (s_35 hB20.1.1) rfl (r_35_2 hB20.1.1) ?_
            refine vc_iload_n dX10_safeWeight_80 rfl ?_
            refine vc_iload dX10_safeWeight_81 rfl ?_
            refine vc_iload_n dX10_safeWeight_83 rfl ?_
            refine vc_cVI dX10_safeWeight_84 (sfX1_goesFirst (M := M18) hB20.1  t v6 k ) rfl okX1_goesFirst viX1_goesFirst lkX10_83 (s_32 hB20.1.1) cl_1 rfl (Nat.le_of_ble_eq_true rfl) ⟨rfl, rfl⟩ (Nat.le_of_ble_eq_true rfl) (Nat.le_of_ble_eq_true rfl) (Nat.le_of_ble_eq_true rfl) ?_
            rintro x21 M22 ⟨hB23, h24, h25⟩
            have hB26 : BF fQ M M22 := BF.go hB20 hB23.sq
            refine vc_if_eq dX10_safeWeight_87 (fun h27 => ?_) (fun h27 => ?_)
            · refine vc_iincE dX10_safeWeight_125 rfl (by omega) (by omega) (by decide) rfl (show _ = [some (aR 35), some (aI t), some (aI k), some (aI x11), some (aI x12), some (aI v5), some (aI (v6 + 1))] from rfl) ?_
              refine vc_goto dX10_safeWeight_128 ?_
              exact ih51 M22 v5 (v6 + 1) hB26 (by omega) (by omega) (by omega)
            · refine vc_aload_n dX10_safeWeight_90 rfl ?_
              refine vc_getR dX10_safeWeight_91 flX10_19 (s_35 hB26.1.1) rfl (r_35_2 hB26.1.1) ?_
              refine vc_getI dX10_safeWeight_94 flX10_56 (s_32 hB26.1.1) rfl ?_
              refine vc_iload_n dX10_safeWeight_97 rfl ?_
              refine vc_icmp_ne dX10_safeWeight_98 (fun h28 => ?_) (fun h28 => ?_)
              · refine vc_iincE dX10_safeWeight_125 rfl (by omega) (by omega) (by decide) rfl (show _ = [some (aR 35), some (aI t), some (aI k), some (aI x11), some (aI x12), some (aI v5), some (aI (v6 + 1))] from rfl) ?_
                refine vc_goto dX10_safeWeight_128 ?_
                exact ih51 M22 v5 (v6 + 1) hB26 (by omega) (by omega) (by omega)
              · refine vc_aload_n dX10_safeWeight_101 rfl ?_
                refine vc_getR dX10_safeWeight_102 flX10_19 (s_35 hB26.1.1) rfl (r_35_2 hB26.1.1) ?_
                refine vc_getI dX10_safeWeight_105 flX10_86 (s_32 hB26.1.1) rfl ?_
                refine vc_iload dX10_safeWeight_108 rfl ?_
                refine vc_icmp_ne dX10_safeWeight_110 (fun h29 => ?_) (fun h29 => ?_)
                · refine vc_iincE dX10_safeWeight_125 rfl (by omega) (by omega) (by decide) rfl (show _ = [some (aR 35), some (aI t), some (aI k), some (aI x11), some (aI x12), some (aI v5), some (aI (v6 + 1))] from rfl) ?_
                  refine vc_goto dX10_safeWeight_128 ?_
                  exact ih51 M22 v5 (v6 + 1) hB26 (by omega) (by omega) (by omega)
                · refine vc_iload dX10_safeWeight_113 rfl ?_
                  refine vc_aload_n dX10_safeWeight_115 rfl ?_
                  refine vc_getR dX10_safeWeight_116 flX10_23 (s_35 hB26.1.1) rfl (r_35_3 hB26.1.1) ?_
                  refine vc_iload dX10_safeWeight_119 rfl ?_
                  refine vc_iaload dX10_safeWeight_121 (s_36 hB26.1.1) (by omega) (by omega) ?_
                  refine vc_iadd dX10_safeWeight_122 ?_
                  refine vc_nameI (fun x30 ex30 => ?_)
                  refine vc_istore dX10_safeWeight_123 (by decide) rfl (show _ = [some (aR 35), some (aI t), some (aI k), some (aI x11), some (aI x12), some (aI x30), some (aI v6)] from rfl) ?_
                  refine vc_iincE dX10_safeWeight_125 rfl (by omega) (by omega) (by decide) rfl (show _ = [some (aR 35), some (aI t), some (aI k), some (aI x11), some (aI x12), some (aI x30), some (aI (v6 + 1))] from rfl) ?_
                  refine vc_goto dX10_safeWeight_128 ?_
                  exact ih51 M22 x30 (v6 + 1) hB26 (by omega) (by omega) (by omega)
    exact lp51 _ M13 0 0 hB15 (by omega) (by omega) (Nat.lt_succ_self _)
  · refine vc_iconst dX10_safeWeight_21 rfl ?_
    refine vc_iret dX10_safeWeight_22 rfl (Nat.le_of_ble_eq_true rfl) (Nat.le_of_ble_eq_true rfl) ?_
    exact ⟨_, rfl, hB9⟩

set_option maxRecDepth 4000 in
theorem sfX7_setPaces {l : Launch} {M : Mem} (hB : Box M)    : Call l mdX7_setPaces [aR 40] M (fun q N => q = none ∧ BF fVs M N) := by
  have hB0 : BF fVs M M := BF.start hB
  refine Call.of [some (aR 40), none] rfl (Nat.le_of_ble_eq_true rfl) rfl ?_
  refine vc_iconst dX7_setPaces_0 rfl ?_
  refine vc_istore_n dX7_setPaces_1 (by decide) rfl (show _ = [some (aR 40), some (aI 0)] from rfl) ?_
  have lp2 : ∀ (n2 : Nat) (Mq2 : Mem) (v1 : Int), (BF fVs M Mq2) → (0 ≤ v1) → (v1 ≤ 64) → (64 - v1).toNat < n2 → VC l mdX7_setPaces 2 [some (aR 40), some (aI v1)] [] Mq2 0 0 (fun q N => q = none ∧ BF fVs M N) := by
    intro n2
    induction n2 with
    | zero => intro Mq2 v1 hQ2 g2_1a g2_1b hm2; exact absurd hm2 (Nat.not_lt_zero _)
    | succ n2 ih2 =>
      intro Mq2 v1 hQ2 g2_1a g2_1b hm2
      refine vc_iload_n dX7_setPaces_2 rfl ?_
      refine vc_iconst dX7_setPaces_3 rfl ?_
      refine vc_aload_n dX7_setPaces_4 rfl ?_
      refine vc_getR dX7_setPaces_5 flX7_9 (s_40 hQ2.1.1) rfl (r_40_0 hQ2.1.1) ?_
      refine vc_getI dX7_setPaces_8 flX7_43 (s_1 hQ2.1.1) rfl ?_
      have k1 : 0 ≤ mI Mq2 1 6 ∧ mI Mq2 1 6 ≤ 16 := b1_6 (M := Mq2) hQ2.1
      refine vc_imulE dX7_setPaces_11 (by omega) (by omega) ?_
      refine vc_icmp_ge dX7_setPaces_12 (fun h2 => ?_) (fun h2 => ?_)
      · refine vc_vret dX7_setPaces_61 rfl (Nat.le_of_ble_eq_true rfl) (Nat.le_of_ble_eq_true rfl) ?_
        exact ⟨rfl, hQ2⟩
      · refine vc_aload_n dX7_setPaces_15 rfl ?_
        refine vc_getR dX7_setPaces_16 flX7_27 (s_40 hQ2.1.1) rfl (r_40_4 hQ2.1.1) ?_
        refine vc_iload_n dX7_setPaces_19 rfl ?_
        refine vc_aload_n dX7_setPaces_20 rfl ?_
        refine vc_getR dX7_setPaces_21 flX7_9 (s_40 hQ2.1.1) rfl (r_40_0 hQ2.1.1) ?_
        refine vc_iload_n dX7_setPaces_24 rfl ?_
        refine vc_iconst dX7_setPaces_25 rfl ?_
        refine vc_ishrC dX7_setPaces_26 4 2 rfl (by decide) rfl ?_
        refine vc_iload_n dX7_setPaces_27 rfl ?_
        refine vc_iconst dX7_setPaces_28 rfl ?_
        refine vc_iandM dX7_setPaces_29 4 2 rfl (by decide) rfl ?_
        refine vc_cVI dX7_setPaces_30 (sfX6_ahead (M := Mq2) hQ2.1  (v1 / 4) (v1 % 4) ) rfl okX6_ahead viX6_ahead lkX7_49 (s_1 hQ2.1.1) cl_6 rfl (Nat.le_of_ble_eq_true rfl) ⟨rfl, rfl⟩ (Nat.le_of_ble_eq_true rfl) (Nat.le_of_ble_eq_true rfl) (Nat.le_of_ble_eq_true rfl) ?_
        rintro x3 _ ⟨rfl, h4, h5, h6, h7⟩
        refine vc_iconst dX7_setPaces_33 rfl ?_
        refine vc_icmp_ne dX7_setPaces_34 (fun h8 => ?_) (fun h8 => ?_)
        · refine vc_aload_n dX7_setPaces_41 rfl ?_
          refine vc_getR dX7_setPaces_42 flX7_19 (s_40 hQ2.1.1) rfl (r_40_2 hQ2.1.1) ?_
          refine vc_iload_n dX7_setPaces_45 rfl ?_
          refine vc_iconst dX7_setPaces_46 rfl ?_
          refine vc_ishrC dX7_setPaces_47 4 2 rfl (by decide) rfl ?_
          refine vc_iload_n dX7_setPaces_48 rfl ?_
          refine vc_iconst dX7_setPaces_49 rfl ?_
          refine vc_iandM dX7_setPaces_50 4 2 rfl (by decide) rfl ?_
          refine vc_cVI dX7_setPaces_51 (sfX2_pace (M := Mq2) hQ2.1  (v1 / 4) (v1 % 4) ) rfl okX2_pace viX2_pace lkX7_53 (s_29 hQ2.1.1) cl_2 rfl (Nat.le_of_ble_eq_true rfl) ⟨rfl, rfl⟩ (Nat.le_of_ble_eq_true rfl) (Nat.le_of_ble_eq_true rfl) (Nat.le_of_ble_eq_true rfl) ?_
          rintro x9 M10 hB11
          have hB12 : BF fVs M M10 := BF.go hQ2 hB11.sv
          refine vc_iastore dX7_setPaces_54 (s_41 hB12.1.1) (by omega) (by omega) ?_
          have hB13 : BF fVs M (sI M10 41 v1.toNat x9) := BF.w41 hB12 (fun _ => rfl) _
          refine vc_iincE dX7_setPaces_55 rfl (by omega) (by omega) (by decide) rfl (show _ = [some (aR 40), some (aI (v1 + 1))] from rfl) ?_
          refine vc_goto dX7_setPaces_58 ?_
          exact ih2 (sI M10 41 v1.toNat x9) (v1 + 1) hB13 (by omega) (by omega) (by omega)
        · refine vc_iconst dX7_setPaces_37 rfl ?_
          refine vc_goto dX7_setPaces_38 ?_
          refine vc_iastore dX7_setPaces_54 (s_41 hQ2.1.1) (by omega) (by omega) ?_
          have hB14 : BF fVs M (sI Mq2 41 v1.toNat 0) := BF.w41 hQ2 (fun _ => rfl) _
          refine vc_iincE dX7_setPaces_55 rfl (by omega) (by omega) (by decide) rfl (show _ = [some (aR 40), some (aI (v1 + 1))] from rfl) ?_
          refine vc_goto dX7_setPaces_58 ?_
          exact ih2 (sI Mq2 41 v1.toNat 0) (v1 + 1) hB14 (by omega) (by omega) (by omega)
  exact lp2 _ M 0 hB0 (by omega) (by omega) (Nat.lt_succ_self _)

set_option maxRecDepth 4000 in
theorem sfX7_secondsTo {l : Launch} {M : Mem} (hB : Box M)  (f : Int) (t : Int)  : Call l mdX7_secondsTo [aR 40, aI f, aI t] M (fun q N => ∃ r : Int, q = some (aI r) ∧ M = N) := by
  have hB0 : BF fQ M M := BF.start hB
  refine Call.of [some (aR 40), some (aI f), some (aI t)] rfl (Nat.le_of_ble_eq_true rfl) rfl ?_
  refine vc_ok (fun hoM hoS hoL => ?_)
  have hr1 : -2147483648 ≤ f ∧ f < 2147483648 := hoL 1 _ rfl
  have hr2 : -2147483648 ≤ t ∧ t < 2147483648 := hoL 2 _ rfl
  refine vc_aload_n dX7_secondsTo_0 rfl ?_
  refine vc_getR dX7_secondsTo_1 flX7_9 (s_40 hB0.1.1) rfl (r_40_0 hB0.1.1) ?_
  refine vc_iload_n dX7_secondsTo_4 rfl ?_
  refine vc_cVI dX7_secondsTo_5 (sfX6_hasCorner (M := M) hB0.1  f ) rfl okX6_hasCorner viX6_hasCorner lkX7_58 (s_1 hB0.1.1) cl_6 rfl (Nat.le_of_ble_eq_true rfl) ⟨rfl, rfl⟩ (Nat.le_of_ble_eq_true rfl) (Nat.le_of_ble_eq_true rfl) (Nat.le_of_ble_eq_true rfl) ?_
  rintro x1 _ ⟨rfl, h2, h3, h4⟩
  refine vc_if_eq dX7_secondsTo_8 (fun h5 => ?_) (fun h5 => ?_)
  · refine vc_iconst dX7_secondsTo_36 rfl ?_
    refine vc_iret dX7_secondsTo_37 rfl (Nat.le_of_ble_eq_true rfl) (Nat.le_of_ble_eq_true rfl) ?_
    exact ⟨_, rfl, rfl⟩
  · refine vc_aload_n dX7_secondsTo_11 rfl ?_
    refine vc_getR dX7_secondsTo_12 flX7_9 (s_40 hB0.1.1) rfl (r_40_0 hB0.1.1) ?_
    refine vc_iload_n dX7_secondsTo_15 rfl ?_
    refine vc_cVI dX7_secondsTo_16 (sfX6_hasCorner (M := M) hB0.1  t ) rfl okX6_hasCorner viX6_hasCorner lkX7_58 (s_1 hB0.1.1) cl_6 rfl (Nat.le_of_ble_eq_true rfl) ⟨rfl, rfl⟩ (Nat.le_of_ble_eq_true rfl) (Nat.le_of_ble_eq_true rfl) (Nat.le_of_ble_eq_true rfl) ?_
    rintro x6 _ ⟨rfl, h7, h8, h9⟩
    refine vc_if_eq dX7_secondsTo_19 (fun h10 => ?_) (fun h10 => ?_)
    · refine vc_iconst dX7_secondsTo_36 rfl ?_
      refine vc_iret dX7_secondsTo_37 rfl (Nat.le_of_ble_eq_true rfl) (Nat.le_of_ble_eq_true rfl) ?_
      exact ⟨_, rfl, rfl⟩
    · refine vc_aload_n dX7_secondsTo_22 rfl ?_
      refine vc_getR dX7_secondsTo_23 flX7_31 (s_40 hB0.1.1) rfl (r_40_5 hB0.1.1) ?_
      refine vc_bipush dX7_secondsTo_26 rfl ?_
      refine vc_iload_n dX7_secondsTo_28 rfl ?_
      refine vc_imulE dX7_secondsTo_29 (by omega) (by omega) ?_
      refine vc_iload_n dX7_secondsTo_30 rfl ?_
      refine vc_iaddE dX7_secondsTo_31 (by omega) (by omega) ?_
      refine vc_iaload dX7_secondsTo_32 (s_42 hB0.1.1) (by omega) (by omega) ?_
      refine vc_goto dX7_secondsTo_33 ?_
      refine vc_iret dX7_secondsTo_37 rfl (Nat.le_of_ble_eq_true rfl) (Nat.le_of_ble_eq_true rfl) ?_
      exact ⟨_, rfl, rfl⟩

set_option maxRecDepth 4000 in
theorem sfX7_nearest {l : Launch} {M : Mem} (hB : Box M)  (f : Int) (d : Int)  : Call l mdX7_nearest [aR 40, aI f, aI d] M (fun q N => ∃ r : Int, q = some (aI r) ∧ M = N ∧ (-1) ≤ r ∧ r ≤ 15) := by
  have hB0 : BF fQ M M := BF.start hB
  refine Call.of [some (aR 40), some (aI f), some (aI d), none, none, none] rfl (Nat.le_of_ble_eq_true rfl) rfl ?_
  refine vc_ok (fun hoM hoS hoL => ?_)
  have hr1 : -2147483648 ≤ f ∧ f < 2147483648 := hoL 1 _ rfl
  have hr2 : -2147483648 ≤ d ∧ d < 2147483648 := hoL 2 _ rfl
  refine vc_iconst dX7_nearest_0 rfl ?_
  refine vc_istore_n dX7_nearest_1 (by decide) rfl (show _ = [some (aR 40), some (aI f), some (aI d), some (aI (-1)), none, none] from rfl) ?_
  refine vc_iconst dX7_nearest_2 rfl ?_
  refine vc_istore dX7_nearest_3 (by decide) rfl (show _ = [some (aR 40), some (aI f), some (aI d), some (aI (-1)), some (aI 0), none] from rfl) ?_
  have lp5 : ∀ (n5 : Nat) (v3 : Int) (v4 : Int), ((-1) ≤ v3) → (v3 ≤ 15) → (0 ≤ v4) → (v4 ≤ 16) → (16 - v4).toNat < n5 → VC l mdX7_nearest 5 [some (aR 40), some (aI f), some (aI d), some (aI v3), some (aI v4), none] [] M 0 0 (fun q N => ∃ r : Int, q = some (aI r) ∧ M = N ∧ (-1) ≤ r ∧ r ≤ 15) := by
    intro n5
    induction n5 with
    | zero => intro v3 v4 g5_3a g5_3b g5_4a g5_4b hm5; exact absurd hm5 (Nat.not_lt_zero _)
    | succ n5 ih5 =>
      intro v3 v4 g5_3a g5_3b g5_4a g5_4b hm5
      refine vc_iload dX7_nearest_5 rfl ?_
      refine vc_aload_n dX7_nearest_7 rfl ?_
      refine vc_getR dX7_nearest_8 flX7_9 (s_40 hB0.1.1) rfl (r_40_0 hB0.1.1) ?_
      refine vc_getI dX7_nearest_11 flX7_43 (s_1 hB0.1.1) rfl ?_
      have k1 : 0 ≤ mI M 1 6 ∧ mI M 1 6 ≤ 16 := b1_6 (M := M) hB0.1
      refine vc_icmp_ge dX7_nearest_14 (fun h2 => ?_) (fun h2 => ?_)
      · refine vc_iload_n dX7_nearest_66 rfl ?_
        refine vc_iret dX7_nearest_67 rfl (Nat.le_of_ble_eq_true rfl) (Nat.le_of_ble_eq_true rfl) ?_
        exact ⟨_, rfl, rfl, by omega, by omega⟩
      · refine vc_aload_n dX7_nearest_17 rfl ?_
        refine vc_iload_n dX7_nearest_18 rfl ?_
        refine vc_iload dX7_nearest_19 rfl ?_
        refine vc_cVI dX7_nearest_21 (sfX7_secondsTo (M := M) hB0.1  f v4 ) rfl okX7_secondsTo viX7_secondsTo lkX7_69 (s_40 hB0.1.1) cl_7 rfl (Nat.le_of_ble_eq_true rfl) ⟨rfl, rfl⟩ (Nat.le_of_ble_eq_true rfl) (Nat.le_of_ble_eq_true rfl) (Nat.le_of_ble_eq_true rfl) ?_
        rintro x3 _ rfl
        refine vc_istore dX7_nearest_24 (by decide) rfl (show _ = [some (aR 40), some (aI f), some (aI d), some (aI v3), some (aI v4), some (aI x3)] from rfl) ?_
        refine vc_iload_n dX7_nearest_26 rfl ?_
        refine vc_iload dX7_nearest_27 rfl ?_
        refine vc_ishr dX7_nearest_29 ?_
        refine vc_iconst dX7_nearest_30 rfl ?_
        refine vc_iandM dX7_nearest_31 2 1 rfl (by decide) rfl ?_
        refine vc_if_ne dX7_nearest_32 (fun h4 => ?_) (fun h4 => ?_)
        · refine vc_iincE dX7_nearest_60 rfl (by omega) (by omega) (by decide) rfl (show _ = [some (aR 40), some (aI f), some (aI d), some (aI v3), some (aI (v4 + 1)), some (aI x3)] from rfl) ?_
          refine vc_goto dX7_nearest_63 ?_
          refine vc_less [some (aR 40), some (aI f), some (aI d), some (aI v3), some (aI (v4 + 1)), none] (lessL_keep (lessL_keep (lessL_keep (lessL_keep (lessL_keep (lessL_drop (lessL_nil))))))) ?_
          exact ih5 v3 (v4 + 1) (by omega) (by omega) (by omega) (by omega) (by omega)
        · refine vc_iload dX7_nearest_35 rfl ?_
          refine vc_iconst dX7_nearest_37 rfl ?_
          refine vc_icmp_eq dX7_nearest_38 (fun h5 => ?_) (fun h5 => ?_)
          · refine vc_iincE dX7_nearest_60 rfl (by omega) (by omega) (by decide) rfl (show _ = [some (aR 40), some (aI f), some (aI d), some (aI v3), some (aI (v4 + 1)), some (aI x3)] from rfl) ?_
            refine vc_goto dX7_nearest_63 ?_
            refine vc_less [some (aR 40), some (aI f), some (aI d), some (aI v3), some (aI (v4 + 1)), none] (lessL_keep (lessL_keep (lessL_keep (lessL_keep (lessL_keep (lessL_drop (lessL_nil))))))) ?_
            exact ih5 v3 (v4 + 1) (by omega) (by omega) (by omega) (by omega) (by omega)
          · refine vc_iload_n dX7_nearest_41 rfl ?_
            refine vc_iconst dX7_nearest_42 rfl ?_
            refine vc_icmp_eq dX7_nearest_43 (fun h6 => ?_) (fun h6 => ?_)
            · refine vc_iload dX7_nearest_57 rfl ?_
              refine vc_istore_n dX7_nearest_59 (by decide) rfl (show _ = [some (aR 40), some (aI f), some (aI d), some (aI v4), some (aI v4), some (aI x3)] from rfl) ?_
              refine vc_iincE dX7_nearest_60 rfl (by omega) (by omega) (by decide) rfl (show _ = [some (aR 40), some (aI f), some (aI d), some (aI v4), some (aI (v4 + 1)), some (aI x3)] from rfl) ?_
              refine vc_goto dX7_nearest_63 ?_
              refine vc_less [some (aR 40), some (aI f), some (aI d), some (aI v4), some (aI (v4 + 1)), none] (lessL_keep (lessL_keep (lessL_keep (lessL_keep (lessL_keep (lessL_drop (lessL_nil))))))) ?_
              exact ih5 v4 (v4 + 1) (by omega) (by omega) (by omega) (by omega) (by omega)
            · refine vc_iload dX7_nearest_46 rfl ?_
              refine vc_aload_n dX7_nearest_48 rfl ?_
              refine vc_iload_n dX7_nearest_49 rfl ?_
              refine vc_iload_n dX7_nearest_50 rfl ?_
              refine vc_cVI dX7_nearest_51 (sfX7_secondsTo (M := M) hB0.1  f v3 ) rfl okX7_secondsTo viX7_secondsTo lkX7_69 (s_40 hB0.1.1) cl_7 rfl (Nat.le_of_ble_eq_true rfl) ⟨rfl, rfl⟩ (Nat.le_of_ble_eq_true rfl) (Nat.le_of_ble_eq_true rfl) (Nat.le_of_ble_eq_true rfl) ?_
              rintro x7 _ rfl
              refine vc_icmp_ge dX7_nearest_54 (fun h8 => ?_) (fun h8 => ?_)
              · refine vc_iincE dX7_nearest_60 rfl (by omega) (by omega) (by decide) rfl (show _ = [some (aR 40), some (aI f), some (aI d), some (aI v3), some (aI (v4 + 1)), some (aI x3)] from rfl) ?_
                refine vc_goto dX7_nearest_63 ?_
                refine vc_less [some (aR 40), some (aI f), some (aI d), some (aI v3), some (aI (v4 + 1)), none] (lessL_keep (lessL_keep (lessL_keep (lessL_keep (lessL_keep (lessL_drop (lessL_nil))))))) ?_
                exact ih5 v3 (v4 + 1) (by omega) (by omega) (by omega) (by omega) (by omega)
              · refine vc_iload dX7_nearest_57 rfl ?_
                refine vc_istore_n dX7_nearest_59 (by decide) rfl (show _ = [some (aR 40), some (aI f), some (aI d), some (aI v4), some (aI v4), some (aI x3)] from rfl) ?_
                refine vc_iincE dX7_nearest_60 rfl (by omega) (by omega) (by decide) rfl (show _ = [some (aR 40), some (aI f), some (aI d), some (aI v4), some (aI (v4 + 1)), some (aI x3)] from rfl) ?_
                refine vc_goto dX7_nearest_63 ?_
                refine vc_less [some (aR 40), some (aI f), some (aI d), some (aI v4), some (aI (v4 + 1)), none] (lessL_keep (lessL_keep (lessL_keep (lessL_keep (lessL_keep (lessL_drop (lessL_nil))))))) ?_
                exact ih5 v4 (v4 + 1) (by omega) (by omega) (by omega) (by omega) (by omega)
  exact lp5 _ (-1) 0 (by omega) (by omega) (by omega) (by omega) (Nat.lt_succ_self _)

set_option maxRecDepth 4000 in
theorem sfX7_lookAround {l : Launch} {M : Mem} (hB : Box M)  (f : Int) (c : Int) (p0 : 0 ≤ f) (p1 : f ≤ 15) (p2 : 0 ≤ c) (p3 : c ≤ 15) : Call l mdX7_lookAround [aR 40, aI f, aI c] M (fun q N => q = none ∧ BF fVs M N) := by
  have hB0 : BF fVs M M := BF.start hB
  refine Call.of [some (aR 40), some (aI f), some (aI c), none, none, none, none] rfl (Nat.le_of_ble_eq_true rfl) rfl ?_
  refine vc_iconst dX7_lookAround_0 rfl ?_
  refine vc_istore_n dX7_lookAround_1 (by decide) rfl (show _ = [some (aR 40), some (aI f), some (aI c), some (aI 0), none, none, none] from rfl) ?_
  have lp2 : ∀ (n2 : Nat) (Mq2 : Mem) (v3 : Int), (BF fVs M Mq2) → (0 ≤ v3) → (v3 ≤ 4) → (4 - v3).toNat < n2 → VC l mdX7_lookAround 2 [some (aR 40), some (aI f), some (aI c), some (aI v3), none, none, none] [] Mq2 0 0 (fun q N => q = none ∧ BF fVs M N) := by
    intro n2
    induction n2 with
    | zero => intro Mq2 v3 hQ2 g2_3a g2_3b hm2; exact absurd hm2 (Nat.not_lt_zero _)
    | succ n2 ih2 =>
      intro Mq2 v3 hQ2 g2_3a g2_3b hm2
      refine vc_iload_n dX7_lookAround_2 rfl ?_
      refine vc_iconst dX7_lookAround_3 rfl ?_
      refine vc_icmp_ge dX7_lookAround_4 (fun h1 => ?_) (fun h1 => ?_)
      · refine vc_vret dX7_lookAround_85 rfl (Nat.le_of_ble_eq_true rfl) (Nat.le_of_ble_eq_true rfl) ?_
        exact ⟨rfl, hQ2⟩
      · refine vc_aload_n dX7_lookAround_7 rfl ?_
        refine vc_getR dX7_lookAround_8 flX7_9 (s_40 hQ2.1.1) rfl (r_40_0 hQ2.1.1) ?_
        refine vc_iload_n dX7_lookAround_11 rfl ?_
        refine vc_iload_n dX7_lookAround_12 rfl ?_
        refine vc_cVI dX7_lookAround_13 (sfX6_ahead (M := Mq2) hQ2.1  c v3 ) rfl okX6_ahead viX6_ahead lkX7_49 (s_1 hQ2.1.1) cl_6 rfl (Nat.le_of_ble_eq_true rfl) ⟨rfl, rfl⟩ (Nat.le_of_ble_eq_true rfl) (Nat.le_of_ble_eq_true rfl) (Nat.le_of_ble_eq_true rfl) ?_
        rintro x2 _ ⟨rfl, h3, h4, h5, h6⟩
        refine vc_istore dX7_lookAround_16 (by decide) rfl (show _ = [some (aR 40), some (aI f), some (aI c), some (aI v3), some (aI x2), none, none] from rfl) ?_
        refine vc_iload dX7_lookAround_18 rfl ?_
        refine vc_iconst dX7_lookAround_20 rfl ?_
        refine vc_icmp_eq dX7_lookAround_21 (fun h7 => ?_) (fun h7 => ?_)
        · refine vc_iincE dX7_lookAround_79 rfl (by omega) (by omega) (by decide) rfl (show _ = [some (aR 40), some (aI f), some (aI c), some (aI (v3 + 1)), some (aI x2), none, none] from rfl) ?_
          refine vc_goto dX7_lookAround_82 ?_
          refine vc_less [some (aR 40), some (aI f), some (aI c), some (aI (v3 + 1)), none, none, none] (lessL_keep (lessL_keep (lessL_keep (lessL_keep (lessL_drop (lessL_keep (lessL_keep (lessL_nil)))))))) ?_
          exact ih2 Mq2 (v3 + 1) hQ2 (by omega) (by omega) (by omega)
        · refine vc_aload_n dX7_lookAround_24 rfl ?_
          refine vc_iload_n dX7_lookAround_25 rfl ?_
          refine vc_iload_n dX7_lookAround_26 rfl ?_
          refine vc_cVI dX7_lookAround_27 (sfX7_secondsTo (M := Mq2) hQ2.1  f c ) rfl okX7_secondsTo viX7_secondsTo lkX7_69 (s_40 hQ2.1.1) cl_7 rfl (Nat.le_of_ble_eq_true rfl) ⟨rfl, rfl⟩ (Nat.le_of_ble_eq_true rfl) (Nat.le_of_ble_eq_true rfl) (Nat.le_of_ble_eq_true rfl) ?_
          rintro x8 _ rfl
          refine vc_aload_n dX7_lookAround_30 rfl ?_
          refine vc_getR dX7_lookAround_31 flX7_27 (s_40 hQ2.1.1) rfl (r_40_4 hQ2.1.1) ?_
          refine vc_iconst dX7_lookAround_34 rfl ?_
          refine vc_iload_n dX7_lookAround_35 rfl ?_
          refine vc_imulE dX7_lookAround_36 (by omega) (by omega) ?_
          refine vc_iload_n dX7_lookAround_37 rfl ?_
          refine vc_iaddE dX7_lookAround_38 (by omega) (by omega) ?_
          refine vc_iaload dX7_lookAround_39 (s_41 hQ2.1.1) (by omega) (by omega) ?_
          refine vc_iadd dX7_lookAround_40 ?_
          refine vc_nameI (fun x9 ex9 => ?_)
          refine vc_istore dX7_lookAround_41 (by decide) rfl (show _ = [some (aR 40), some (aI f), some (aI c), some (aI v3), some (aI x2), some (aI x9), none] from rfl) ?_
          refine vc_aload_n dX7_lookAround_43 rfl ?_
          refine vc_iload_n dX7_lookAround_44 rfl ?_
          refine vc_iload dX7_lookAround_45 rfl ?_
          refine vc_cVI dX7_lookAround_47 (sfX7_secondsTo (M := Mq2) hQ2.1  f x2 ) rfl okX7_secondsTo viX7_secondsTo lkX7_69 (s_40 hQ2.1.1) cl_7 rfl (Nat.le_of_ble_eq_true rfl) ⟨rfl, rfl⟩ (Nat.le_of_ble_eq_true rfl) (Nat.le_of_ble_eq_true rfl) (Nat.le_of_ble_eq_true rfl) ?_
          rintro x10 _ rfl
          refine vc_istore dX7_lookAround_50 (by decide) rfl (show _ = [some (aR 40), some (aI f), some (aI c), some (aI v3), some (aI x2), some (aI x9), some (aI x10)] from rfl) ?_
          refine vc_iload dX7_lookAround_52 rfl ?_
          refine vc_iconst dX7_lookAround_54 rfl ?_
          refine vc_icmp_eq dX7_lookAround_55 (fun h11 => ?_) (fun h11 => ?_)
          · refine vc_aload_n dX7_lookAround_65 rfl ?_
            refine vc_getR dX7_lookAround_66 flX7_31 (s_40 hQ2.1.1) rfl (r_40_5 hQ2.1.1) ?_
            refine vc_bipush dX7_lookAround_69 rfl ?_
            refine vc_iload_n dX7_lookAround_71 rfl ?_
            refine vc_imulE dX7_lookAround_72 (by omega) (by omega) ?_
            refine vc_iload dX7_lookAround_73 rfl ?_
            refine vc_iaddE dX7_lookAround_75 (by omega) (by omega) ?_
            refine vc_iload dX7_lookAround_76 rfl ?_
            refine vc_iastore dX7_lookAround_78 (s_42 hQ2.1.1) (by omega) (by omega) ?_
            have hB12 : BF fVs M (sI Mq2 42 (((16 * f) + x2).toNat) x9) := BF.w42 hQ2 (fun _ => rfl) _
            refine vc_iincE dX7_lookAround_79 rfl (by omega) (by omega) (by decide) rfl (show _ = [some (aR 40), some (aI f), some (aI c), some (aI (v3 + 1)), some (aI x2), some (aI x9), some (aI x10)] from rfl) ?_
            refine vc_goto dX7_lookAround_82 ?_
            refine vc_less [some (aR 40), some (aI f), some (aI c), some (aI (v3 + 1)), none, none, none] (lessL_keep (lessL_keep (lessL_keep (lessL_keep (lessL_drop (lessL_drop (lessL_drop (lessL_nil)))))))) ?_
            exact ih2 (sI Mq2 42 (((16 * f) + x2).toNat) x9) (v3 + 1) hB12 (by omega) (by omega) (by omega)
          · refine vc_iload dX7_lookAround_58 rfl ?_
            refine vc_iload dX7_lookAround_60 rfl ?_
            refine vc_icmp_ge dX7_lookAround_62 (fun h13 => ?_) (fun h13 => ?_)
            · refine vc_iincE dX7_lookAround_79 rfl (by omega) (by omega) (by decide) rfl (show _ = [some (aR 40), some (aI f), some (aI c), some (aI (v3 + 1)), some (aI x2), some (aI x9), some (aI x10)] from rfl) ?_
              refine vc_goto dX7_lookAround_82 ?_
              refine vc_less [some (aR 40), some (aI f), some (aI c), some (aI (v3 + 1)), none, none, none] (lessL_keep (lessL_keep (lessL_keep (lessL_keep (lessL_drop (lessL_drop (lessL_drop (lessL_nil)))))))) ?_
              exact ih2 Mq2 (v3 + 1) hQ2 (by omega) (by omega) (by omega)
            · refine vc_aload_n dX7_lookAround_65 rfl ?_
              refine vc_getR dX7_lookAround_66 flX7_31 (s_40 hQ2.1.1) rfl (r_40_5 hQ2.1.1) ?_
              refine vc_bipush dX7_lookAround_69 rfl ?_
              refine vc_iload_n dX7_lookAround_71 rfl ?_
              refine vc_imulE dX7_lookAround_72 (by omega) (by omega) ?_
              refine vc_iload dX7_lookAround_73 rfl ?_
              refine vc_iaddE dX7_lookAround_75 (by omega) (by omega) ?_
              refine vc_iload dX7_lookAround_76 rfl ?_
              refine vc_iastore dX7_lookAround_78 (s_42 hQ2.1.1) (by omega) (by omega) ?_
              have hB14 : BF fVs M (sI Mq2 42 (((16 * f) + x2).toNat) x9) := BF.w42 hQ2 (fun _ => rfl) _
              refine vc_iincE dX7_lookAround_79 rfl (by omega) (by omega) (by decide) rfl (show _ = [some (aR 40), some (aI f), some (aI c), some (aI (v3 + 1)), some (aI x2), some (aI x9), some (aI x10)] from rfl) ?_
              refine vc_goto dX7_lookAround_82 ?_
              refine vc_less [some (aR 40), some (aI f), some (aI c), some (aI (v3 + 1)), none, none, none] (lessL_keep (lessL_keep (lessL_keep (lessL_keep (lessL_drop (lessL_drop (lessL_drop (lessL_nil)))))))) ?_
              exact ih2 (sI Mq2 42 (((16 * f) + x2).toNat) x9) (v3 + 1) hB14 (by omega) (by omega) (by omega)
  exact lp2 _ M 0 hB0 (by omega) (by omega) (Nat.lt_succ_self _)

set_option maxRecDepth 4000 in
theorem sfX7_measure {l : Launch} {M : Mem} (hB : Box M)  (f : Int)  : Call l mdX7_measure [aR 40, aI f] M (fun q N => q = none ∧ BF fVs M N) := by
  have hB0 : BF fVs M M := BF.start hB
  refine Call.of [some (aR 40), some (aI f), none, none, none] rfl (Nat.le_of_ble_eq_true rfl) rfl ?_
  refine vc_ok (fun hoM hoS hoL => ?_)
  have hr1 : -2147483648 ≤ f ∧ f < 2147483648 := hoL 1 _ rfl
  refine vc_aload_n dX7_measure_0 rfl ?_
  refine vc_getR dX7_measure_1 flX7_9 (s_40 hB0.1.1) rfl (r_40_0 hB0.1.1) ?_
  refine vc_iload_n dX7_measure_4 rfl ?_
  refine vc_cVI dX7_measure_5 (sfX6_hasCorner (M := M) hB0.1  f ) rfl okX6_hasCorner viX6_hasCorner lkX7_58 (s_1 hB0.1.1) cl_6 rfl (Nat.le_of_ble_eq_true rfl) ⟨rfl, rfl⟩ (Nat.le_of_ble_eq_true rfl) (Nat.le_of_ble_eq_true rfl) (Nat.le_of_ble_eq_true rfl) ?_
  rintro x1 _ ⟨rfl, h2, h3, h4⟩
  refine vc_if_ne dX7_measure_8 (fun h5 => ?_) (fun h5 => ?_)
  · refine vc_iconst dX7_measure_12 rfl ?_
    refine vc_istore_n dX7_measure_13 (by decide) rfl (show _ = [some (aR 40), some (aI f), some (aI 0), none, none] from rfl) ?_
    have lp14 : ∀ (n14 : Nat) (Mq14 : Mem) (v2 : Int), (BF fVs M Mq14) → (0 ≤ v2) → (v2 ≤ 16) → (16 - v2).toNat < n14 → VC l mdX7_measure 14 [some (aR 40), some (aI f), some (aI v2), none, none] [] Mq14 0 0 (fun q N => q = none ∧ BF fVs M N) := by
      intro n14
      induction n14 with
      | zero => intro Mq14 v2 hQ14 g14_2a g14_2b hm14; exact absurd hm14 (Nat.not_lt_zero _)
      | succ n14 ih14 =>
        intro Mq14 v2 hQ14 g14_2a g14_2b hm14
        refine vc_iload_n dX7_measure_14 rfl ?_
        refine vc_aload_n dX7_measure_15 rfl ?_
        refine vc_getR dX7_measure_16 flX7_9 (s_40 hQ14.1.1) rfl (r_40_0 hQ14.1.1) ?_
        refine vc_getI dX7_measure_19 flX7_43 (s_1 hQ14.1.1) rfl ?_
        have k6 : 0 ≤ mI Mq14 1 6 ∧ mI Mq14 1 6 ≤ 16 := b1_6 (M := Mq14) hQ14.1
        refine vc_icmp_ge dX7_measure_22 (fun h7 => ?_) (fun h7 => ?_)
        · refine vc_iconst dX7_measure_52 rfl ?_
          refine vc_istore_n dX7_measure_53 (by decide) rfl (show _ = [some (aR 40), some (aI f), some (aI 0), none, none] from rfl) ?_
          refine vc_iconst dX7_measure_54 rfl ?_
          refine vc_istore_n dX7_measure_55 (by decide) rfl (show _ = [some (aR 40), some (aI f), some (aI 0), some (aI 0), none] from rfl) ?_
          have lp56 : ∀ (n56 : Nat) (Mq56 : Mem) (v2i : Int) (v3 : Int), (BF fVs M Mq56) → (0 ≤ v3) → (v3 ≤ 16) → (16 - v3).toNat < n56 → VC l mdX7_measure 56 [some (aR 40), some (aI f), some (aI v2i), some (aI v3), none] [] Mq56 0 0 (fun q N => q = none ∧ BF fVs M N) := by
            intro n56
            induction n56 with
            | zero => intro Mq56 v2i v3 hQ56 g56_3a g56_3b hm56; exact absurd hm56 (Nat.not_lt_zero _)
            | succ n56 ih56 =>
              intro Mq56 v2i v3 hQ56 g56_3a g56_3b hm56
              refine vc_iload_n dX7_measure_56 rfl ?_
              refine vc_aload_n dX7_measure_57 rfl ?_
              refine vc_getR dX7_measure_58 flX7_9 (s_40 hQ56.1.1) rfl (r_40_0 hQ56.1.1) ?_
              refine vc_getI dX7_measure_61 flX7_43 (s_1 hQ56.1.1) rfl ?_
              have k8 : 0 ≤ mI Mq56 1 6 ∧ mI Mq56 1 6 ≤ 16 := b1_6 (M := Mq56) hQ56.1
              refine vc_icmp_ge dX7_measure_64 (fun h9 => ?_) (fun h9 => ?_)
              · refine vc_vret dX7_measure_102 rfl (Nat.le_of_ble_eq_true rfl) (Nat.le_of_ble_eq_true rfl) ?_
                exact ⟨rfl, hQ56⟩
              · refine vc_aload_n dX7_measure_67 rfl ?_
                refine vc_iload_n dX7_measure_68 rfl ?_
                refine vc_iload_n dX7_measure_69 rfl ?_
                refine vc_cVI dX7_measure_70 (sfX7_nearest (M := Mq56) hQ56.1  f v2i ) rfl okX7_nearest viX7_nearest lkX7_62 (s_40 hQ56.1.1) cl_7 rfl (Nat.le_of_ble_eq_true rfl) ⟨rfl, rfl⟩ (Nat.le_of_ble_eq_true rfl) (Nat.le_of_ble_eq_true rfl) (Nat.le_of_ble_eq_true rfl) ?_
                rintro x10 _ ⟨rfl, h11, h12⟩
                refine vc_istore dX7_measure_73 (by decide) rfl (show _ = [some (aR 40), some (aI f), some (aI v2i), some (aI v3), some (aI x10)] from rfl) ?_
                refine vc_iload dX7_measure_75 rfl ?_
                refine vc_iconst dX7_measure_77 rfl ?_
                refine vc_icmp_ne dX7_measure_78 (fun h13 => ?_) (fun h13 => ?_)
                · refine vc_iload_n dX7_measure_82 rfl ?_
                  refine vc_iconst dX7_measure_83 rfl ?_
                  refine vc_iload dX7_measure_84 rfl ?_
                  refine vc_ishl dX7_measure_86 ?_
                  refine vc_ior dX7_measure_87 ?_
                  refine vc_nameI (fun x14 ex14 => ?_)
                  refine vc_istore_n dX7_measure_88 (by decide) rfl (show _ = [some (aR 40), some (aI f), some (aI x14), some (aI v3), some (aI x10)] from rfl) ?_
                  refine vc_aload_n dX7_measure_89 rfl ?_
                  refine vc_iload_n dX7_measure_90 rfl ?_
                  refine vc_iload dX7_measure_91 rfl ?_
                  refine vc_cVU dX7_measure_93 (sfX7_lookAround (M := Mq56) hQ56.1  f x10 (by omega) (by omega) (by omega) (by omega)) rfl okX7_lookAround viX7_lookAround lkX7_65 (s_40 hQ56.1.1) cl_7 rfl (Nat.le_of_ble_eq_true rfl) ⟨rfl, rfl⟩ (Nat.le_of_ble_eq_true rfl) (Nat.le_of_ble_eq_true rfl) (Nat.le_of_ble_eq_true rfl) ?_
                  rintro M15 hB16
                  have hB17 : BF fVs M M15 := BF.go hQ56 hB16
                  refine vc_iincE dX7_measure_96 rfl (by omega) (by omega) (by decide) rfl (show _ = [some (aR 40), some (aI f), some (aI x14), some (aI (v3 + 1)), some (aI x10)] from rfl) ?_
                  refine vc_goto dX7_measure_99 ?_
                  refine vc_less [some (aR 40), some (aI f), some (aI x14), some (aI (v3 + 1)), none] (lessL_keep (lessL_keep (lessL_keep (lessL_keep (lessL_drop (lessL_nil)))))) ?_
                  exact ih56 M15 x14 (v3 + 1) hB17 (by omega) (by omega) (by omega)
                · refine vc_vret dX7_measure_81 rfl (Nat.le_of_ble_eq_true rfl) (Nat.le_of_ble_eq_true rfl) ?_
                  exact ⟨rfl, hQ56⟩
          exact lp56 _ Mq14 0 0 hQ14 (by omega) (by omega) (Nat.lt_succ_self _)
        · refine vc_aload_n dX7_measure_25 rfl ?_
          refine vc_getR dX7_measure_26 flX7_31 (s_40 hQ14.1.1) rfl (r_40_5 hQ14.1.1) ?_
          refine vc_bipush dX7_measure_29 rfl ?_
          refine vc_iload_n dX7_measure_31 rfl ?_
          refine vc_imulE dX7_measure_32 (by omega) (by omega) ?_
          refine vc_iload_n dX7_measure_33 rfl ?_
          refine vc_iaddE dX7_measure_34 (by omega) (by omega) ?_
          refine vc_iload_n dX7_measure_35 rfl ?_
          refine vc_iload_n dX7_measure_36 rfl ?_
          refine vc_icmp_ne dX7_measure_37 (fun h18 => ?_) (fun h18 => ?_)
          · refine vc_iconst dX7_measure_44 rfl ?_
            refine vc_iastore dX7_measure_45 (s_42 hQ14.1.1) (by omega) (by omega) ?_
            have hB19 : BF fVs M (sI Mq14 42 (((16 * f) + v2).toNat) (-1)) := BF.w42 hQ14 (fun _ => rfl) _
            refine vc_iincE dX7_measure_46 rfl (by omega) (by omega) (by decide) rfl (show _ = [some (aR 40), some (aI f), some (aI (v2 + 1)), none, none] from rfl) ?_
            refine vc_goto dX7_measure_49 ?_
            exact ih14 (sI Mq14 42 (((16 * f) + v2).toNat) (-1)) (v2 + 1) hB19 (by omega) (by omega) (by omega)
          · refine vc_iconst dX7_measure_40 rfl ?_
            refine vc_goto dX7_measure_41 ?_
            refine vc_iastore dX7_measure_45 (s_42 hQ14.1.1) (by omega) (by omega) ?_
            have hB20 : BF fVs M (sI Mq14 42 (((16 * f) + v2).toNat) 0) := BF.w42 hQ14 (fun _ => rfl) _
            refine vc_iincE dX7_measure_46 rfl (by omega) (by omega) (by decide) rfl (show _ = [some (aR 40), some (aI f), some (aI (v2 + 1)), none, none] from rfl) ?_
            refine vc_goto dX7_measure_49 ?_
            exact ih14 (sI Mq14 42 (((16 * f) + v2).toNat) 0) (v2 + 1) hB20 (by omega) (by omega) (by omega)
    exact lp14 _ M 0 hB0 (by omega) (by omega) (Nat.lt_succ_self _)
  · refine vc_vret dX7_measure_11 rfl (Nat.le_of_ble_eq_true rfl) (Nat.le_of_ble_eq_true rfl) ?_
    exact ⟨rfl, hB0⟩

set_option maxRecDepth 4000 in
theorem sfX7_listPlaces {l : Launch} {M : Mem} (hB : Box M)    : Call l mdX7_listPlaces [aR 40] M (fun q N => ∃ r : Int, q = some (aI r) ∧ BF fQ M N ∧ 0 ≤ r ∧ r ≤ 1) := by
  have hB0 : BF fQ M M := BF.start hB
  refine Call.of [some (aR 40), none] rfl (Nat.le_of_ble_eq_true rfl) rfl ?_
  refine vc_aload_n dX7_listPlaces_0 rfl ?_
  refine vc_iconst dX7_listPlaces_1 rfl ?_
  refine vc_putI dX7_listPlaces_2 (plX7_93 _ rfl) (s_40 hB0.1.1) rfl ?_
  have hB1 : BF fQ M (sI M 40 9 0) := BF.w40_9 hB0 rfl (by omega) (by omega)
  refine vc_iconst dX7_listPlaces_5 rfl ?_
  refine vc_istore_n dX7_listPlaces_6 (by decide) rfl (show _ = [some (aR 40), some (aI 0)] from rfl) ?_
  have lp7 : ∀ (n7 : Nat) (Mq7 : Mem) (v1 : Int), (BF fQ M Mq7) → (0 ≤ v1) → (v1 ≤ 16) → (16 - v1).toNat < n7 → VC l mdX7_listPlaces 7 [some (aR 40), some (aI v1)] [] Mq7 0 0 (fun q N => ∃ r : Int, q = some (aI r) ∧ BF fQ M N ∧ 0 ≤ r ∧ r ≤ 1) := by
    intro n7
    induction n7 with
    | zero => intro Mq7 v1 hQ7 g7_1a g7_1b hm7; exact absurd hm7 (Nat.not_lt_zero _)
    | succ n7 ih7 =>
      intro Mq7 v1 hQ7 g7_1a g7_1b hm7
      refine vc_iload_n dX7_listPlaces_7 rfl ?_
      refine vc_aload_n dX7_listPlaces_8 rfl ?_
      refine vc_getR dX7_listPlaces_9 flX7_9 (s_40 hQ7.1.1) rfl (r_40_0 hQ7.1.1) ?_
      refine vc_getI dX7_listPlaces_12 flX7_43 (s_1 hQ7.1.1) rfl ?_
      have k2 : 0 ≤ mI Mq7 1 6 ∧ mI Mq7 1 6 ≤ 16 := b1_6 (M := Mq7) hQ7.1
      refine vc_icmp_ge dX7_listPlaces_15 (fun h3 => ?_) (fun h3 => ?_)
      · refine vc_aload_n dX7_listPlaces_68 rfl ?_
        refine vc_getI dX7_listPlaces_69 flX7_93 (s_40 hQ7.1.1) rfl ?_
        have k4 : 0 ≤ mI Mq7 40 9 ∧ mI Mq7 40 9 ≤ 5 := b40_9 (M := Mq7) hQ7.1
        refine vc_if_le dX7_listPlaces_72 (fun h5 => ?_) (fun h5 => ?_)
        · refine vc_iconst dX7_listPlaces_79 rfl ?_
          refine vc_zret dX7_listPlaces_80 rfl (by first | decide | omega) (Nat.le_of_ble_eq_true rfl) (Nat.le_of_ble_eq_true rfl) ?_
          exact ⟨_, rfl, hQ7, by omega, by omega⟩
        · refine vc_iconst dX7_listPlaces_75 rfl ?_
          refine vc_goto dX7_listPlaces_76 ?_
          refine vc_zret dX7_listPlaces_80 rfl (by first | decide | omega) (Nat.le_of_ble_eq_true rfl) (Nat.le_of_ble_eq_true rfl) ?_
          exact ⟨_, rfl, hQ7, by omega, by omega⟩
      · refine vc_aload_n dX7_listPlaces_18 rfl ?_
        refine vc_getR dX7_listPlaces_19 flX7_23 (s_40 hQ7.1.1) rfl (r_40_3 hQ7.1.1) ?_
        refine vc_getR dX7_listPlaces_22 flX7_106 (s_35 hQ7.1.1) rfl (r_35_6 hQ7.1.1) ?_
        refine vc_iload_n dX7_listPlaces_25 rfl ?_
        refine vc_laload dX7_listPlaces_26 (s_39 hQ7.1.1) (by omega) (by omega) ?_
        refine vc_lconst dX7_listPlaces_27 ?_
        refine vc_topL 0 rfl ?_
        refine vc_lif_le dX7_listPlaces_28 dX7_listPlaces_29 (fun h6 => ?_) (fun h6 => ?_)
        · refine vc_iincE dX7_listPlaces_62 rfl (by omega) (by omega) (by decide) rfl (show _ = [some (aR 40), some (aI (v1 + 1))] from rfl) ?_
          refine vc_goto dX7_listPlaces_65 ?_
          exact ih7 Mq7 (v1 + 1) hQ7 (by omega) (by omega) (by omega)
        · refine vc_aload_n dX7_listPlaces_32 rfl ?_
          refine vc_getI dX7_listPlaces_33 flX7_93 (s_40 hQ7.1.1) rfl ?_
          have k7 : 0 ≤ mI Mq7 40 9 ∧ mI Mq7 40 9 ≤ 5 := b40_9 (M := Mq7) hQ7.1
          refine vc_iconst dX7_listPlaces_36 rfl ?_
          refine vc_icmp_lt dX7_listPlaces_37 (fun h8 => ?_) (fun h8 => ?_)
          · refine vc_aload_n dX7_listPlaces_42 rfl ?_
            refine vc_getR dX7_listPlaces_43 flX7_34 (s_40 hQ7.1.1) rfl (r_40_6 hQ7.1.1) ?_
            refine vc_aload_n dX7_listPlaces_46 rfl ?_
            refine vc_getI dX7_listPlaces_47 flX7_93 (s_40 hQ7.1.1) rfl ?_
            refine vc_iload_n dX7_listPlaces_50 rfl ?_
            refine vc_iastore dX7_listPlaces_51 (s_43 hQ7.1.1) (by omega) (by omega) ?_
            have hB9 : BF fQ M (sI Mq7 43 ((mI Mq7 40 9).toNat) v1) := BF.w43 hQ7 (fun _ => rfl) _ (by omega) (by omega)
            refine vc_aload_n dX7_listPlaces_52 rfl ?_
            refine vc_dup dX7_listPlaces_53 rfl ?_
            refine vc_getI dX7_listPlaces_54 flX7_93 (s_40 hB9.1.1) rfl ?_
            refine vc_topI (mI Mq7 40 9) rfl ?_
            have k10 : 0 ≤ mI Mq7 40 9 ∧ mI Mq7 40 9 ≤ 5 := b40_9 (M := (sI Mq7 43 ((mI Mq7 40 9).toNat) v1)) hB9.1
            refine vc_iconst dX7_listPlaces_57 rfl ?_
            refine vc_iaddE dX7_listPlaces_58 (by omega) (by omega) ?_
            refine vc_putI dX7_listPlaces_59 (plX7_93 _ rfl) (s_40 hB9.1.1) rfl ?_
            have hB11 : BF fQ M (sI (sI Mq7 43 ((mI Mq7 40 9).toNat) v1) 40 9 ((mI Mq7 40 9) + 1)) := BF.w40_9 hB9 rfl (by omega) (by omega)
            refine vc_iincE dX7_listPlaces_62 rfl (by omega) (by omega) (by decide) rfl (show _ = [some (aR 40), some (aI (v1 + 1))] from rfl) ?_
            refine vc_goto dX7_listPlaces_65 ?_
            exact ih7 (sI (sI Mq7 43 ((mI Mq7 40 9).toNat) v1) 40 9 ((mI Mq7 40 9) + 1)) (v1 + 1) hB11 (by omega) (by omega) (by omega)
          · refine vc_iconst dX7_listPlaces_40 rfl ?_
            refine vc_zret dX7_listPlaces_41 rfl (by first | decide | omega) (Nat.le_of_ble_eq_true rfl) (Nat.le_of_ble_eq_true rfl) ?_
            exact ⟨_, rfl, hQ7, by omega, by omega⟩
  exact lp7 _ (sI M 40 9 0) 0 hB1 (by omega) (by omega) (Nat.lt_succ_self _)

set_option maxRecDepth 4000 in
theorem sfX7_sumFrom {l : Launch} {M : Mem} (hB : Box M)  (c : Int)  : Call l mdX7_sumFrom [aR 40, aI c] M (fun q N => ∃ r : Int, q = some (aL r) ∧ BF fQ M N) := by
  have hB0 : BF fQ M M := BF.start hB
  refine Call.of [some (aR 40), some (aI c), none, none, none] rfl (Nat.le_of_ble_eq_true rfl) rfl ?_
  refine vc_ok (fun hoM hoS hoL => ?_)
  have hr1 : -2147483648 ≤ c ∧ c < 2147483648 := hoL 1 _ rfl
  refine vc_aload_n dX7_sumFrom_0 rfl ?_
  refine vc_iload_n dX7_sumFrom_1 rfl ?_
  refine vc_cVU dX7_sumFrom_2 (sfX7_measure (M := M) hB0.1  c ) rfl okX7_measure viX7_measure lkX7_90 (s_40 hB0.1.1) cl_7 rfl (Nat.le_of_ble_eq_true rfl) ⟨rfl, rfl⟩ (Nat.le_of_ble_eq_true rfl) (Nat.le_of_ble_eq_true rfl) (Nat.le_of_ble_eq_true rfl) ?_
  rintro M1 hB2
  have hB3 : BF fQ M M1 := BF.go hB0 hB2.vq
  refine vc_lconst dX7_sumFrom_5 ?_
  refine vc_topL 0 rfl ?_
  refine vc_lstore_n dX7_sumFrom_6 (by decide) rfl rfl (show _ = [some (aR 40), some (aI c), some (aL 0), none, none] from rfl) ?_
  refine vc_iconst dX7_sumFrom_7 rfl ?_
  refine vc_istore dX7_sumFrom_8 (by decide) rfl (show _ = [some (aR 40), some (aI c), some (aL 0), none, some (aI 0)] from rfl) ?_
  have lp10 : ∀ (n10 : Nat) (v2 : Int) (v4 : Int), (0 ≤ v4) → (v4 ≤ 5) → (5 - v4).toNat < n10 → VC l mdX7_sumFrom 10 [some (aR 40), some (aI c), some (aL v2), none, some (aI v4)] [] M1 0 0 (fun q N => ∃ r : Int, q = some (aL r) ∧ BF fQ M N) := by
    intro n10
    induction n10 with
    | zero => intro v2 v4 g10_4a g10_4b hm10; exact absurd hm10 (Nat.not_lt_zero _)
    | succ n10 ih10 =>
      intro v2 v4 g10_4a g10_4b hm10
      refine vc_iload dX7_sumFrom_10 rfl ?_
      refine vc_aload_n dX7_sumFrom_12 rfl ?_
      refine vc_getI dX7_sumFrom_13 flX7_93 (s_40 hB3.1.1) rfl ?_
      have k4 : 0 ≤ mI M1 40 9 ∧ mI M1 40 9 ≤ 5 := b40_9 (M := M1) hB3.1
      refine vc_icmp_ge dX7_sumFrom_16 (fun h5 => ?_) (fun h5 => ?_)
      · refine vc_lload_n dX7_sumFrom_57 rfl ?_
        refine vc_lret dX7_sumFrom_58 rfl (Nat.le_of_ble_eq_true rfl) (Nat.le_of_ble_eq_true rfl) ?_
        exact ⟨_, rfl, hB3⟩
      · refine vc_lload_n dX7_sumFrom_19 rfl ?_
        refine vc_aload_n dX7_sumFrom_20 rfl ?_
        refine vc_getR dX7_sumFrom_21 flX7_23 (s_40 hB3.1.1) rfl (r_40_3 hB3.1.1) ?_
        refine vc_getR dX7_sumFrom_24 flX7_106 (s_35 hB3.1.1) rfl (r_35_6 hB3.1.1) ?_
        refine vc_aload_n dX7_sumFrom_27 rfl ?_
        refine vc_getR dX7_sumFrom_28 flX7_34 (s_40 hB3.1.1) rfl (r_40_6 hB3.1.1) ?_
        refine vc_iload dX7_sumFrom_31 rfl ?_
        refine vc_iaload dX7_sumFrom_33 (s_43 hB3.1.1) (by omega) (by omega) ?_
        have k6 : 0 ≤ mI M1 43 v4.toNat ∧ mI M1 43 v4.toNat ≤ 15 := bA43 (M := M1) hB3.1 _
        refine vc_laload dX7_sumFrom_34 (s_39 hB3.1.1) (by omega) (by omega) ?_
        refine vc_aload_n dX7_sumFrom_35 rfl ?_
        refine vc_iload_n dX7_sumFrom_36 rfl ?_
        refine vc_aload_n dX7_sumFrom_37 rfl ?_
        refine vc_getR dX7_sumFrom_38 flX7_34 (s_40 hB3.1.1) rfl (r_40_6 hB3.1.1) ?_
        refine vc_iload dX7_sumFrom_41 rfl ?_
        refine vc_iaload dX7_sumFrom_43 (s_43 hB3.1.1) (by omega) (by omega) ?_
        refine vc_cVI dX7_sumFrom_44 (sfX7_secondsTo (M := M1) hB3.1  c (mI M1 43 v4.toNat) ) rfl okX7_secondsTo viX7_secondsTo lkX7_69 (s_40 hB3.1.1) cl_7 rfl (Nat.le_of_ble_eq_true rfl) ⟨rfl, rfl⟩ (Nat.le_of_ble_eq_true rfl) (Nat.le_of_ble_eq_true rfl) (Nat.le_of_ble_eq_true rfl) ?_
        rintro x7 _ rfl
        refine vc_i2l dX7_sumFrom_47 ?_
        refine vc_lmul dX7_sumFrom_48 ?_
        refine vc_ladd dX7_sumFrom_49 ?_
        refine vc_nameL (fun x8 ex8 => ?_)
        refine vc_lstore_n dX7_sumFrom_50 (by decide) rfl rfl (show _ = [some (aR 40), some (aI c), some (aL x8), none, some (aI v4)] from rfl) ?_
        refine vc_iincE dX7_sumFrom_51 rfl (by omega) (by omega) (by decide) rfl (show _ = [some (aR 40), some (aI c), some (aL x8), none, some (aI (v4 + 1))] from rfl) ?_
        refine vc_goto dX7_sumFrom_54 ?_
        exact ih10 x8 (v4 + 1) (by omega) (by omega) (by omega)
  exact lp10 _ 0 0 (by omega) (by omega) (Nat.lt_succ_self _)

set_option maxRecDepth 4000 in
theorem sfX7_soonestTeller {l : Launch} {M : Mem} (hB : Box M)    : Call l mdX7_soonestTeller [aR 40] M (fun q N => ∃ r : Int, q = some (aI r) ∧ BF fQ M N) := by
  have hB0 : BF fQ M M := BF.start hB
  refine Call.of [some (aR 40), none, none, none, none, none, none, none] rfl (Nat.le_of_ble_eq_true rfl) rfl ?_
  refine vc_iconst dX7_soonestTeller_0 rfl ?_
  refine vc_istore_n dX7_soonestTeller_1 (by decide) rfl (show _ = [some (aR 40), some (aI (-1)), none, none, none, none, none, none] from rfl) ?_
  refine vc_aload_n dX7_soonestTeller_2 rfl ?_
  refine vc_getJ dX7_soonestTeller_3 flX7_98 (s_40 hB0.1.1) rfl ?_
  refine vc_nameL (fun x1 ex1 => ?_)
  refine vc_lstore_n dX7_soonestTeller_6 (by decide) rfl rfl (show _ = [some (aR 40), some (aI (-1)), some (aL x1), none, none, none, none, none] from rfl) ?_
  refine vc_iconst dX7_soonestTeller_7 rfl ?_
  refine vc_istore dX7_soonestTeller_8 (by decide) rfl (show _ = [some (aR 40), some (aI (-1)), some (aL x1), none, some (aI 0), none, none, none] from rfl) ?_
  have lp10 : ∀ (n10 : Nat) (Mq10 : Mem) (v1 : Int) (v2 : Int) (v4 : Int), (BF fQ M Mq10) → (0 ≤ v4) → (v4 ≤ 6) → (6 - v4).toNat < n10 → VC l mdX7_soonestTeller 10 [some (aR 40), some (aI v1), some (aL v2), none, some (aI v4), none, none, none] [] Mq10 0 0 (fun q N => ∃ r : Int, q = some (aI r) ∧ BF fQ M N) := by
    intro n10
    induction n10 with
    | zero => intro Mq10 v1 v2 v4 hQ10 g10_4a g10_4b hm10; exact absurd hm10 (Nat.not_lt_zero _)
    | succ n10 ih10 =>
      intro Mq10 v1 v2 v4 hQ10 g10_4a g10_4b hm10
      refine vc_iload dX7_soonestTeller_10 rfl ?_
      refine vc_aload_n dX7_soonestTeller_12 rfl ?_
      refine vc_getR dX7_soonestTeller_13 flX7_9 (s_40 hQ10.1.1) rfl (r_40_0 hQ10.1.1) ?_
      refine vc_getI dX7_soonestTeller_16 flX7_116 (s_1 hQ10.1.1) rfl ?_
      have k2 : 0 ≤ mI Mq10 1 8 ∧ mI Mq10 1 8 ≤ 6 := b1_8 (M := Mq10) hQ10.1
      refine vc_icmp_ge dX7_soonestTeller_19 (fun h3 => ?_) (fun h3 => ?_)
      · refine vc_iload_n dX7_soonestTeller_110 rfl ?_
        refine vc_iret dX7_soonestTeller_111 rfl (Nat.le_of_ble_eq_true rfl) (Nat.le_of_ble_eq_true rfl) ?_
        exact ⟨_, rfl, hQ10⟩
      · refine vc_aload_n dX7_soonestTeller_22 rfl ?_
        refine vc_aload_n dX7_soonestTeller_23 rfl ?_
        refine vc_getR dX7_soonestTeller_24 flX7_15 (s_40 hQ10.1.1) rfl (r_40_1 hQ10.1.1) ?_
        refine vc_getR dX7_soonestTeller_27 flX7_72 (s_15 hQ10.1.1) rfl (r_15_0 hQ10.1.1) ?_
        refine vc_iconst dX7_soonestTeller_30 rfl ?_
        refine vc_iaload dX7_soonestTeller_31 (s_16 hQ10.1.1) (by omega) (by omega) ?_
        refine vc_topI (mI Mq10 16 0) rfl ?_
        refine vc_aload_n dX7_soonestTeller_32 rfl ?_
        refine vc_getR dX7_soonestTeller_33 flX7_9 (s_40 hQ10.1.1) rfl (r_40_0 hQ10.1.1) ?_
        refine vc_iload dX7_soonestTeller_36 rfl ?_
        refine vc_iconst dX7_soonestTeller_38 rfl ?_
        refine vc_cVI dX7_soonestTeller_39 (sfX6_tellerCell (M := Mq10) hQ10.1  v4 0 ) rfl okX6_tellerCell viX6_tellerCell lkX7_119 (s_1 hQ10.1.1) cl_6 rfl (Nat.le_of_ble_eq_true rfl) ⟨rfl, rfl⟩ (Nat.le_of_ble_eq_true rfl) (Nat.le_of_ble_eq_true rfl) (Nat.le_of_ble_eq_true rfl) ?_
        rintro x4 _ rfl
        refine vc_cVI dX7_soonestTeller_42 (sfX7_secondsTo (M := Mq10) hQ10.1  (mI Mq10 16 0) x4 ) rfl okX7_secondsTo viX7_secondsTo lkX7_69 (s_40 hQ10.1.1) cl_7 rfl (Nat.le_of_ble_eq_true rfl) ⟨rfl, rfl⟩ (Nat.le_of_ble_eq_true rfl) (Nat.le_of_ble_eq_true rfl) (Nat.le_of_ble_eq_true rfl) ?_
        rintro x5 _ rfl
        refine vc_istore dX7_soonestTeller_45 (by decide) rfl (show _ = [some (aR 40), some (aI v1), some (aL v2), none, some (aI v4), some (aI x5), none, none] from rfl) ?_
        refine vc_iload dX7_soonestTeller_47 rfl ?_
        refine vc_iconst dX7_soonestTeller_49 rfl ?_
        refine vc_icmp_eq dX7_soonestTeller_50 (fun h6 => ?_) (fun h6 => ?_)
        · refine vc_iincE dX7_soonestTeller_104 rfl (by omega) (by omega) (by decide) rfl (show _ = [some (aR 40), some (aI v1), some (aL v2), none, some (aI (v4 + 1)), some (aI x5), none, none] from rfl) ?_
          refine vc_goto dX7_soonestTeller_107 ?_
          refine vc_less [some (aR 40), some (aI v1), some (aL v2), none, some (aI (v4 + 1)), none, none, none] (lessL_keep (lessL_keep (lessL_keep (lessL_keep (lessL_keep (lessL_drop (lessL_keep (lessL_keep (lessL_nil))))))))) ?_
          exact ih10 Mq10 v1 v2 (v4 + 1) hQ10 (by omega) (by omega) (by omega)
        · refine vc_iload dX7_soonestTeller_53 rfl ?_
          refine vc_aload_n dX7_soonestTeller_55 rfl ?_
          refine vc_getR dX7_soonestTeller_56 flX7_19 (s_40 hQ10.1.1) rfl (r_40_2 hQ10.1.1) ?_
          refine vc_iload dX7_soonestTeller_59 rfl ?_
          refine vc_cVI dX7_soonestTeller_61 (sfX2_asking (M := Mq10) hQ10.1  v4 ) rfl okX2_asking viX2_asking lkX7_122 (s_29 hQ10.1.1) cl_2 rfl (Nat.le_of_ble_eq_true rfl) ⟨rfl, rfl⟩ (Nat.le_of_ble_eq_true rfl) (Nat.le_of_ble_eq_true rfl) (Nat.le_of_ble_eq_true rfl) ?_
          rintro x7 M8 hB9
          have hB10 : BF fQ M M8 := BF.go hQ10 hB9.sq
          refine vc_iadd dX7_soonestTeller_64 ?_
          refine vc_i2l dX7_soonestTeller_65 ?_
          refine vc_aload_n dX7_soonestTeller_66 rfl ?_
          refine vc_getR dX7_soonestTeller_67 flX7_23 (s_40 hB10.1.1) rfl (r_40_3 hB10.1.1) ?_
          refine vc_getJ dX7_soonestTeller_70 flX7_126 (s_35 hB10.1.1) rfl ?_
          refine vc_lmul dX7_soonestTeller_73 ?_
          refine vc_aload_n dX7_soonestTeller_74 rfl ?_
          refine vc_aload_n dX7_soonestTeller_75 rfl ?_
          refine vc_getR dX7_soonestTeller_76 flX7_9 (s_40 hB10.1.1) rfl (r_40_0 hB10.1.1) ?_
          refine vc_iload dX7_soonestTeller_79 rfl ?_
          refine vc_iconst dX7_soonestTeller_81 rfl ?_
          refine vc_cVI dX7_soonestTeller_82 (sfX6_tellerCell (M := M8) hB10.1  v4 0 ) rfl okX6_tellerCell viX6_tellerCell lkX7_119 (s_1 hB10.1.1) cl_6 rfl (Nat.le_of_ble_eq_true rfl) ⟨rfl, rfl⟩ (Nat.le_of_ble_eq_true rfl) (Nat.le_of_ble_eq_true rfl) (Nat.le_of_ble_eq_true rfl) ?_
          rintro x11 _ rfl
          refine vc_cVL dX7_soonestTeller_85 (sfX7_sumFrom (M := M8) hB10.1  x11 ) rfl okX7_sumFrom viX7_sumFrom lkX7_129 (s_40 hB10.1.1) cl_7 rfl (Nat.le_of_ble_eq_true rfl) ⟨rfl, rfl⟩ (Nat.le_of_ble_eq_true rfl) (Nat.le_of_ble_eq_true rfl) (Nat.le_of_ble_eq_true rfl) ?_
          rintro x12 M13 hB14
          have hB15 : BF fQ M M13 := BF.go hB10 hB14
          refine vc_ladd dX7_soonestTeller_88 ?_
          refine vc_nameL (fun x16 ex16 => ?_)
          refine vc_lstore dX7_soonestTeller_89 (by decide) rfl rfl (show _ = [some (aR 40), some (aI v1), some (aL v2), none, some (aI v4), some (aI x5), some (aL x16), none] from rfl) ?_
          refine vc_lload dX7_soonestTeller_91 rfl ?_
          refine vc_lload_n dX7_soonestTeller_93 rfl ?_
          refine vc_lif_ge dX7_soonestTeller_94 dX7_soonestTeller_95 (fun h17 => ?_) (fun h17 => ?_)
          · refine vc_iincE dX7_soonestTeller_104 rfl (by omega) (by omega) (by decide) rfl (show _ = [some (aR 40), some (aI v1), some (aL v2), none, some (aI (v4 + 1)), some (aI x5), some (aL x16), none] from rfl) ?_
            refine vc_goto dX7_soonestTeller_107 ?_
            refine vc_less [some (aR 40), some (aI v1), some (aL v2), none, some (aI (v4 + 1)), none, none, none] (lessL_keep (lessL_keep (lessL_keep (lessL_keep (lessL_keep (lessL_drop (lessL_drop (lessL_keep (lessL_nil))))))))) ?_
            exact ih10 M13 v1 v2 (v4 + 1) hB15 (by omega) (by omega) (by omega)
          · refine vc_lload dX7_soonestTeller_98 rfl ?_
            refine vc_lstore_n dX7_soonestTeller_100 (by decide) rfl rfl (show _ = [some (aR 40), some (aI v1), some (aL x16), none, some (aI v4), some (aI x5), some (aL x16), none] from rfl) ?_
            refine vc_iload dX7_soonestTeller_101 rfl ?_
            refine vc_istore_n dX7_soonestTeller_103 (by decide) rfl (show _ = [some (aR 40), some (aI v4), some (aL x16), none, some (aI v4), some (aI x5), some (aL x16), none] from rfl) ?_
            refine vc_iincE dX7_soonestTeller_104 rfl (by omega) (by omega) (by decide) rfl (show _ = [some (aR 40), some (aI v4), some (aL x16), none, some (aI (v4 + 1)), some (aI x5), some (aL x16), none] from rfl) ?_
            refine vc_goto dX7_soonestTeller_107 ?_
            refine vc_less [some (aR 40), some (aI v4), some (aL x16), none, some (aI (v4 + 1)), none, none, none] (lessL_keep (lessL_keep (lessL_keep (lessL_keep (lessL_keep (lessL_drop (lessL_drop (lessL_keep (lessL_nil))))))))) ?_
            exact ih10 M13 v4 x16 (v4 + 1) hB15 (by omega) (by omega) (by omega)
  exact lp10 _ M (-1) x1 0 hB0 (by omega) (by omega) (Nat.lt_succ_self _)

set_option maxRecDepth 4000 in
theorem sfX7_tryOrders {l : Launch} : ∀ (nf : Nat) {M : Mem} (hB : Box M)  (d : Int) (u : Int) (a : Int) (s : Int) (t : Int) (p0 : 0 ≤ d) (p1 : d ≤ 5) (hnf : (5 - d).toNat < nf), Call l (mdX7_tryOrders (14 + nf)) [aR 40, aI d, aI u, aI a, aL s, aL t] M (fun q N => q = none ∧ BF fQ M N) := by
  intro nf
  induction nf with
  | zero => intro M hB d u a s t p0 p1 hnf; exact absurd hnf (Nat.not_lt_zero _)
  | succ nf ih =>
    intro M hB d u a s t p0 p1 hnf
    have hB0 : BF fQ M M := BF.start hB
    refine Call.of [some (aR 40), some (aI d), some (aI u), some (aI a), some (aL s), none, some (aL t), none, none, none, none, none] rfl (Nat.le_of_ble_eq_true rfl) rfl ?_
    refine vc_ok (fun hoM hoS hoL => ?_)
    have hr2 : -2147483648 ≤ u ∧ u < 2147483648 := hoL 2 _ rfl
    have hr3 : -2147483648 ≤ a ∧ a < 2147483648 := hoL 3 _ rfl
    refine vc_iload_n dX7_tryOrders_0 rfl ?_
    refine vc_aload_n dX7_tryOrders_1 rfl ?_
    refine vc_getI dX7_tryOrders_2 flX7_93 (s_40 hB0.1.1) rfl ?_
    have k1 : 0 ≤ mI M 40 9 ∧ mI M 40 9 ≤ 5 := b40_9 (M := M) hB0.1
    refine vc_icmp_lt dX7_tryOrders_5 (fun h2 => ?_) (fun h2 => ?_)
    · refine vc_iconst dX7_tryOrders_32 rfl ?_
      refine vc_istore dX7_tryOrders_33 (Nat.le_of_ble_eq_true rfl) rfl (show _ = [some (aR 40), some (aI d), some (aI u), some (aI a), some (aL s), none, some (aL t), none, some (aI 0), none, none, none] from rfl) ?_
      have lp35 : ∀ (n35 : Nat) (Mq35 : Mem) (v8 : Int), (BF fQ M Mq35) → (0 ≤ v8) → (v8 ≤ 5) → (5 - v8).toNat < n35 → VC l (mdX7_tryOrders (14 + (nf + 1))) 35 [some (aR 40), some (aI d), some (aI u), some (aI a), some (aL s), none, some (aL t), none, some (aI v8), none, none, none] [] Mq35 0 0 (fun q N => q = none ∧ BF fQ M N) := by
        intro n35
        induction n35 with
        | zero => intro Mq35 v8 hQ35 g35_8a g35_8b hm35; exact absurd hm35 (Nat.not_lt_zero _)
        | succ n35 ih35 =>
          intro Mq35 v8 hQ35 g35_8a g35_8b hm35
          refine vc_iload dX7_tryOrders_35 rfl ?_
          refine vc_aload_n dX7_tryOrders_37 rfl ?_
          refine vc_getI dX7_tryOrders_38 flX7_93 (s_40 hQ35.1.1) rfl ?_
          have k3 : 0 ≤ mI Mq35 40 9 ∧ mI Mq35 40 9 ≤ 5 := b40_9 (M := Mq35) hQ35.1
          refine vc_icmp_ge dX7_tryOrders_41 (fun h4 => ?_) (fun h4 => ?_)
          · refine vc_vret dX7_tryOrders_173 rfl (Nat.le_of_ble_eq_true rfl) (Nat.le_of_ble_eq_true rfl) ?_
            exact ⟨rfl, hQ35⟩
          · refine vc_iload_n dX7_tryOrders_44 rfl ?_
            refine vc_iconst dX7_tryOrders_45 rfl ?_
            refine vc_icmp_ge dX7_tryOrders_46 (fun h5 => by exfalso; omega) (fun h5 => ?_)
            refine vc_aload_n dX7_tryOrders_49 rfl ?_
            refine vc_iload_n dX7_tryOrders_50 rfl ?_
            refine vc_aload_n dX7_tryOrders_51 rfl ?_
            refine vc_getR dX7_tryOrders_52 flX7_34 (s_40 hQ35.1.1) rfl (r_40_6 hQ35.1.1) ?_
            refine vc_iload dX7_tryOrders_55 rfl ?_
            refine vc_iaload dX7_tryOrders_57 (s_43 hQ35.1.1) (by omega) (by omega) ?_
            have k6 : 0 ≤ mI Mq35 43 v8.toNat ∧ mI Mq35 43 v8.toNat ≤ 15 := bA43 (M := Mq35) hQ35.1 _
            refine vc_cVI dX7_tryOrders_58 (sfX7_secondsTo (M := Mq35) hQ35.1  a (mI Mq35 43 v8.toNat) ) rfl okX7_secondsTo viX7_secondsTo lkX7_69 (s_40 hQ35.1.1) cl_7 rfl (by show 1 < 14 + (nf + 1); omega) ⟨rfl, rfl⟩ (Nat.le_of_ble_eq_true rfl) (Nat.le_of_ble_eq_true rfl) (Nat.le_of_ble_eq_true rfl) ?_
            rintro x7 _ rfl
            refine vc_istore dX7_tryOrders_61 (Nat.le_of_ble_eq_true rfl) rfl (show _ = [some (aR 40), some (aI d), some (aI u), some (aI a), some (aL s), none, some (aL t), none, some (aI v8), some (aI x7), none, none] from rfl) ?_
            refine vc_iload_n dX7_tryOrders_63 rfl ?_
            refine vc_iload dX7_tryOrders_64 rfl ?_
            refine vc_ishr dX7_tryOrders_66 ?_
            refine vc_iconst dX7_tryOrders_67 rfl ?_
            refine vc_iandM dX7_tryOrders_68 2 1 rfl (Nat.le_of_ble_eq_true rfl) rfl ?_
            refine vc_if_ne dX7_tryOrders_69 (fun h8 => ?_) (fun h8 => ?_)
            · refine vc_iincE dX7_tryOrders_167 rfl (by omega) (by omega) (Nat.le_of_ble_eq_true rfl) rfl (show _ = [some (aR 40), some (aI d), some (aI u), some (aI a), some (aL s), none, some (aL t), none, some (aI (v8 + 1)), some (aI x7), none, none] from rfl) ?_
              refine vc_goto dX7_tryOrders_170 ?_
              refine vc_less [some (aR 40), some (aI d), some (aI u), some (aI a), some (aL s), none, some (aL t), none, some (aI (v8 + 1)), none, none, none] (lessL_keep (lessL_keep (lessL_keep (lessL_keep (lessL_keep (lessL_keep (lessL_keep (lessL_keep (lessL_keep (lessL_drop (lessL_keep (lessL_keep (lessL_nil))))))))))))) ?_
              exact ih35 Mq35 (v8 + 1) hQ35 (by omega) (by omega) (by omega)
            · refine vc_iload dX7_tryOrders_72 rfl ?_
              refine vc_iconst dX7_tryOrders_74 rfl ?_
              refine vc_icmp_eq dX7_tryOrders_75 (fun h9 => ?_) (fun h9 => ?_)
              · refine vc_iincE dX7_tryOrders_167 rfl (by omega) (by omega) (Nat.le_of_ble_eq_true rfl) rfl (show _ = [some (aR 40), some (aI d), some (aI u), some (aI a), some (aL s), none, some (aL t), none, some (aI (v8 + 1)), some (aI x7), none, none] from rfl) ?_
                refine vc_goto dX7_tryOrders_170 ?_
                refine vc_less [some (aR 40), some (aI d), some (aI u), some (aI a), some (aL s), none, some (aL t), none, some (aI (v8 + 1)), none, none, none] (lessL_keep (lessL_keep (lessL_keep (lessL_keep (lessL_keep (lessL_keep (lessL_keep (lessL_keep (lessL_keep (lessL_drop (lessL_keep (lessL_keep (lessL_nil))))))))))))) ?_
                exact ih35 Mq35 (v8 + 1) hQ35 (by omega) (by omega) (by omega)
              · refine vc_lload dX7_tryOrders_78 rfl ?_
                refine vc_aload_n dX7_tryOrders_80 rfl ?_
                refine vc_getR dX7_tryOrders_81 flX7_23 (s_40 hQ35.1.1) rfl (r_40_3 hQ35.1.1) ?_
                refine vc_getR dX7_tryOrders_84 flX7_106 (s_35 hQ35.1.1) rfl (r_35_6 hQ35.1.1) ?_
                refine vc_aload_n dX7_tryOrders_87 rfl ?_
                refine vc_getR dX7_tryOrders_88 flX7_34 (s_40 hQ35.1.1) rfl (r_40_6 hQ35.1.1) ?_
                refine vc_iload dX7_tryOrders_91 rfl ?_
                refine vc_iaload dX7_tryOrders_93 (s_43 hQ35.1.1) (by omega) (by omega) ?_
                refine vc_laload dX7_tryOrders_94 (s_39 hQ35.1.1) (by omega) (by omega) ?_
                refine vc_lload dX7_tryOrders_95 rfl ?_
                refine vc_iload dX7_tryOrders_97 rfl ?_
                refine vc_i2l dX7_tryOrders_99 ?_
                refine vc_ladd dX7_tryOrders_100 ?_
                refine vc_lmul dX7_tryOrders_101 ?_
                refine vc_ladd dX7_tryOrders_102 ?_
                refine vc_nameL (fun x10 ex10 => ?_)
                refine vc_lstore dX7_tryOrders_103 (Nat.le_of_ble_eq_true rfl) rfl rfl (show _ = [some (aR 40), some (aI d), some (aI u), some (aI a), some (aL s), none, some (aL t), none, some (aI v8), some (aI x7), some (aL x10), none] from rfl) ?_
                refine vc_aload_n dX7_tryOrders_105 rfl ?_
                refine vc_getJ dX7_tryOrders_106 flX7_98 (s_40 hQ35.1.1) rfl ?_
                refine vc_ldc2 dX7_tryOrders_109 rfl klX7_96 ?_
                refine vc_lif_eq dX7_tryOrders_112 dX7_tryOrders_113 (fun h11 => ?_) (fun h11 => ?_)
                · refine vc_aload_n dX7_tryOrders_126 rfl ?_
                  refine vc_getR dX7_tryOrders_127 flX7_37 (s_40 hQ35.1.1) rfl (r_40_7 hQ35.1.1) ?_
                  refine vc_iload_n dX7_tryOrders_130 rfl ?_
                  refine vc_aload_n dX7_tryOrders_131 rfl ?_
                  refine vc_getR dX7_tryOrders_132 flX7_34 (s_40 hQ35.1.1) rfl (r_40_6 hQ35.1.1) ?_
                  refine vc_iload dX7_tryOrders_135 rfl ?_
                  refine vc_iaload dX7_tryOrders_137 (s_43 hQ35.1.1) (by omega) (by omega) ?_
                  refine vc_iastore dX7_tryOrders_138 (s_44 hQ35.1.1) (by omega) (by omega) ?_
                  have hB12 : BF fQ M (sI Mq35 44 d.toNat (mI Mq35 43 v8.toNat)) := BF.w44 hQ35 (fun _ => rfl) _
                  refine vc_aload_n dX7_tryOrders_139 rfl ?_
                  refine vc_iload_n dX7_tryOrders_140 rfl ?_
                  refine vc_iconst dX7_tryOrders_141 rfl ?_
                  refine vc_iaddE dX7_tryOrders_142 (by omega) (by omega) ?_
                  refine vc_iload_n dX7_tryOrders_143 rfl ?_
                  refine vc_iconst dX7_tryOrders_144 rfl ?_
                  refine vc_iload dX7_tryOrders_145 rfl ?_
                  refine vc_ishl dX7_tryOrders_147 ?_
                  refine vc_ior dX7_tryOrders_148 ?_
                  refine vc_aload_n dX7_tryOrders_149 rfl ?_
                  refine vc_getR dX7_tryOrders_150 flX7_34 (s_40 hB12.1.1) rfl (r_40_6 hB12.1.1) ?_
                  refine vc_iload dX7_tryOrders_153 rfl ?_
                  refine vc_iaload dX7_tryOrders_155 (s_43 hB12.1.1) (by omega) (by omega) ?_
                  refine vc_topI (mI Mq35 43 v8.toNat) rfl ?_
                  have k13 : 0 ≤ mI Mq35 43 v8.toNat ∧ mI Mq35 43 v8.toNat ≤ 15 := bA43 (M := (sI Mq35 44 d.toNat (mI Mq35 43 v8.toNat))) hB12.1 _
                  refine vc_lload dX7_tryOrders_156 rfl ?_
                  refine vc_iload dX7_tryOrders_158 rfl ?_
                  refine vc_i2l dX7_tryOrders_160 ?_
                  refine vc_ladd dX7_tryOrders_161 ?_
                  refine vc_lload dX7_tryOrders_162 rfl ?_
                  refine vc_cVU dX7_tryOrders_164 (ih (M := (sI Mq35 44 d.toNat (mI Mq35 43 v8.toNat))) hB12.1  (d + 1) (orI u (shlI 1 v8)) (mI Mq35 43 v8.toNat) (wL (s + x7)) x10 (by omega) (by omega) (by omega)) rfl (okX7_tryOrders (14 + nf)) (viX7_tryOrders (14 + nf)) (lkX7_102 (14 + nf)) (s_40 hB12.1.1) cl_7 rfl (by show (14 + nf) < 14 + (nf + 1); omega) ⟨rfl, rfl⟩ (Nat.le_of_ble_eq_true rfl) (Nat.le_of_ble_eq_true rfl) (Nat.le_of_ble_eq_true rfl) ?_
                  rintro M14 hB15
                  have hB16 : BF fQ M M14 := BF.go hB12 hB15
                  refine vc_iincE dX7_tryOrders_167 rfl (by omega) (by omega) (Nat.le_of_ble_eq_true rfl) rfl (show _ = [some (aR 40), some (aI d), some (aI u), some (aI a), some (aL s), none, some (aL t), none, some (aI (v8 + 1)), some (aI x7), some (aL x10), none] from rfl) ?_
                  refine vc_goto dX7_tryOrders_170 ?_
                  refine vc_less [some (aR 40), some (aI d), some (aI u), some (aI a), some (aL s), none, some (aL t), none, some (aI (v8 + 1)), none, none, none] (lessL_keep (lessL_keep (lessL_keep (lessL_keep (lessL_keep (lessL_keep (lessL_keep (lessL_keep (lessL_keep (lessL_drop (lessL_drop (lessL_keep (lessL_nil))))))))))))) ?_
                  exact ih35 M14 (v8 + 1) hB16 (by omega) (by omega) (by omega)
                · refine vc_lload dX7_tryOrders_116 rfl ?_
                  refine vc_aload_n dX7_tryOrders_118 rfl ?_
                  refine vc_getJ dX7_tryOrders_119 flX7_98 (s_40 hQ35.1.1) rfl ?_
                  refine vc_lif_ge dX7_tryOrders_122 dX7_tryOrders_123 (fun h17 => ?_) (fun h17 => ?_)
                  · refine vc_iincE dX7_tryOrders_167 rfl (by omega) (by omega) (Nat.le_of_ble_eq_true rfl) rfl (show _ = [some (aR 40), some (aI d), some (aI u), some (aI a), some (aL s), none, some (aL t), none, some (aI (v8 + 1)), some (aI x7), some (aL x10), none] from rfl) ?_
                    refine vc_goto dX7_tryOrders_170 ?_
                    refine vc_less [some (aR 40), some (aI d), some (aI u), some (aI a), some (aL s), none, some (aL t), none, some (aI (v8 + 1)), none, none, none] (lessL_keep (lessL_keep (lessL_keep (lessL_keep (lessL_keep (lessL_keep (lessL_keep (lessL_keep (lessL_keep (lessL_drop (lessL_drop (lessL_keep (lessL_nil))))))))))))) ?_
                    exact ih35 Mq35 (v8 + 1) hQ35 (by omega) (by omega) (by omega)
                  · refine vc_aload_n dX7_tryOrders_126 rfl ?_
                    refine vc_getR dX7_tryOrders_127 flX7_37 (s_40 hQ35.1.1) rfl (r_40_7 hQ35.1.1) ?_
                    refine vc_iload_n dX7_tryOrders_130 rfl ?_
                    refine vc_aload_n dX7_tryOrders_131 rfl ?_
                    refine vc_getR dX7_tryOrders_132 flX7_34 (s_40 hQ35.1.1) rfl (r_40_6 hQ35.1.1) ?_
                    refine vc_iload dX7_tryOrders_135 rfl ?_
                    refine vc_iaload dX7_tryOrders_137 (s_43 hQ35.1.1) (by omega) (by omega) ?_
                    refine vc_iastore dX7_tryOrders_138 (s_44 hQ35.1.1) (by omega) (by omega) ?_
                    have hB18 : BF fQ M (sI Mq35 44 d.toNat (mI Mq35 43 v8.toNat)) := BF.w44 hQ35 (fun _ => rfl) _
                    refine vc_aload_n dX7_tryOrders_139 rfl ?_
                    refine vc_iload_n dX7_tryOrders_140 rfl ?_
                    refine vc_iconst dX7_tryOrders_141 rfl ?_
                    refine vc_iaddE dX7_tryOrders_142 (by omega) (by omega) ?_
                    refine vc_iload_n dX7_tryOrders_143 rfl ?_
                    refine vc_iconst dX7_tryOrders_144 rfl ?_
                    refine vc_iload dX7_tryOrders_145 rfl ?_
                    refine vc_ishl dX7_tryOrders_147 ?_
                    refine vc_ior dX7_tryOrders_148 ?_
                    refine vc_aload_n dX7_tryOrders_149 rfl ?_
                    refine vc_getR dX7_tryOrders_150 flX7_34 (s_40 hB18.1.1) rfl (r_40_6 hB18.1.1) ?_
                    refine vc_iload dX7_tryOrders_153 rfl ?_
                    refine vc_iaload dX7_tryOrders_155 (s_43 hB18.1.1) (by omega) (by omega) ?_
                    refine vc_topI (mI Mq35 43 v8.toNat) rfl ?_
                    have k19 : 0 ≤ mI Mq35 43 v8.toNat ∧ mI Mq35 43 v8.toNat ≤ 15 := bA43 (M := (sI Mq35 44 d.toNat (mI Mq35 43 v8.toNat))) hB18.1 _
                    refine vc_lload dX7_tryOrders_156 rfl ?_
                    refine vc_iload dX7_tryOrders_158 rfl ?_
                    refine vc_i2l dX7_tryOrders_160 ?_
                    refine vc_ladd dX7_tryOrders_161 ?_
                    refine vc_lload dX7_tryOrders_162 rfl ?_
                    refine vc_cVU dX7_tryOrders_164 (ih (M := (sI Mq35 44 d.toNat (mI Mq35 43 v8.toNat))) hB18.1  (d + 1) (orI u (shlI 1 v8)) (mI Mq35 43 v8.toNat) (wL (s + x7)) x10 (by omega) (by omega) (by omega)) rfl (okX7_tryOrders (14 + nf)) (viX7_tryOrders (14 + nf)) (lkX7_102 (14 + nf)) (s_40 hB18.1.1) cl_7 rfl (by show (14 + nf) < 14 + (nf + 1); omega) ⟨rfl, rfl⟩ (Nat.le_of_ble_eq_true rfl) (Nat.le_of_ble_eq_true rfl) (Nat.le_of_ble_eq_true rfl) ?_
                    rintro M20 hB21
                    have hB22 : BF fQ M M20 := BF.go hB18 hB21
                    refine vc_iincE dX7_tryOrders_167 rfl (by omega) (by omega) (Nat.le_of_ble_eq_true rfl) rfl (show _ = [some (aR 40), some (aI d), some (aI u), some (aI a), some (aL s), none, some (aL t), none, some (aI (v8 + 1)), some (aI x7), some (aL x10), none] from rfl) ?_
                    refine vc_goto dX7_tryOrders_170 ?_
                    refine vc_less [some (aR 40), some (aI d), some (aI u), some (aI a), some (aL s), none, some (aL t), none, some (aI (v8 + 1)), none, none, none] (lessL_keep (lessL_keep (lessL_keep (lessL_keep (lessL_keep (lessL_keep (lessL_keep (lessL_keep (lessL_keep (lessL_drop (lessL_drop (lessL_keep (lessL_nil))))))))))))) ?_
                    exact ih35 M20 (v8 + 1) hB22 (by omega) (by omega) (by omega)
      exact lp35 _ M 0 hB0 (by omega) (by omega) (Nat.lt_succ_self _)
    · refine vc_aload_n dX7_tryOrders_8 rfl ?_
      refine vc_lload dX7_tryOrders_9 rfl ?_
      refine vc_putJ dX7_tryOrders_11 (plX7_98 _ rfl) (s_40 hB0.1.1) rfl ?_
      have hB23 : BF fQ M (sJ M 40 10 t) := BF.J hB0 _ _ _ rfl
      refine vc_aload_n dX7_tryOrders_14 rfl ?_
      refine vc_getR dX7_tryOrders_15 flX7_37 (s_40 hB23.1.1) rfl (r_40_7 hB23.1.1) ?_
      refine vc_iconst dX7_tryOrders_18 rfl ?_
      refine vc_aload_n dX7_tryOrders_19 rfl ?_
      refine vc_getR dX7_tryOrders_20 flX7_40 (s_40 hB23.1.1) rfl (r_40_8 hB23.1.1) ?_
      refine vc_iconst dX7_tryOrders_23 rfl ?_
      refine vc_aload_n dX7_tryOrders_24 rfl ?_
      refine vc_getI dX7_tryOrders_25 flX7_93 (s_40 hB23.1.1) rfl ?_
      refine vc_topI (mI M 40 9) rfl ?_
      have k24 : 0 ≤ mI M 40 9 ∧ mI M 40 9 ≤ 5 := b40_9 (M := (sJ M 40 10 t)) hB23.1
      refine vc_acopy dX7_tryOrders_28 acX7_110 (s_44 hB23.1.1) (s_45 hB23.1.1) (by omega) (by omega) (by omega) (by omega) (by omega) (Nat.le_of_ble_eq_true rfl) ?_
      refine vc_mem (cpI (sJ M 40 10 t) 45 44 0 0 (mI M 40 9).toNat) rfl ?_
      have hB25 : BF fQ M (cpI (sJ M 40 10 t) 45 44 0 0 (mI M 40 9).toNat) := BF.C45 hB23 (fun _ => rfl) _ _ _ _
      refine vc_vret dX7_tryOrders_31 rfl (Nat.le_of_ble_eq_true rfl) (Nat.le_of_ble_eq_true rfl) ?_
      exact ⟨rfl, hB25⟩

set_option maxRecDepth 4000 in
theorem sfX7_plan {l : Launch} {M : Mem} (hB : Box M)  (t : Int)  : Call l mdX7_plan [aR 40, aI t] M (fun q N => ∃ r : Int, q = some (aI r) ∧ BF fQ M N ∧ 0 ≤ r ∧ r ≤ 1) := by
  have hB0 : BF fQ M M := BF.start hB
  refine Call.of [some (aR 40), some (aI t), none, none] rfl (Nat.le_of_ble_eq_true rfl) rfl ?_
  refine vc_ok (fun hoM hoS hoL => ?_)
  have hr1 : -2147483648 ≤ t ∧ t < 2147483648 := hoL 1 _ rfl
  refine vc_aload_n dX7_plan_0 rfl ?_
  refine vc_getR dX7_plan_1 flX7_15 (s_40 hB0.1.1) rfl (r_40_1 hB0.1.1) ?_
  refine vc_getR dX7_plan_4 flX7_72 (s_15 hB0.1.1) rfl (r_15_0 hB0.1.1) ?_
  refine vc_iconst dX7_plan_7 rfl ?_
  refine vc_iaload dX7_plan_8 (s_16 hB0.1.1) (by omega) (by omega) ?_
  refine vc_topI (mI M 16 0) rfl ?_
  refine vc_nameI (fun x1 ex1 => ?_)
  refine vc_istore_n dX7_plan_9 (by decide) rfl (show _ = [some (aR 40), some (aI t), some (aI x1), none] from rfl) ?_
  refine vc_iload_n dX7_plan_10 rfl ?_
  refine vc_iconst dX7_plan_11 rfl ?_
  refine vc_icmp_ne dX7_plan_12 (fun h2 => ?_) (fun h2 => ?_)
  · refine vc_aload_n dX7_plan_17 rfl ?_
    refine vc_getR dX7_plan_18 flX7_23 (s_40 hB0.1.1) rfl (r_40_3 hB0.1.1) ?_
    refine vc_iload_n dX7_plan_21 rfl ?_
    refine vc_cVU dX7_plan_22 (sfX10_multiply (M := M) hB0.1  t ) rfl okX10_multiply viX10_multiply lkX7_77 (s_35 hB0.1.1) cl_10 rfl (Nat.le_of_ble_eq_true rfl) ⟨rfl, rfl⟩ (Nat.le_of_ble_eq_true rfl) (Nat.le_of_ble_eq_true rfl) (Nat.le_of_ble_eq_true rfl) ?_
    rintro M3 hB4
    have hB5 : BF fQ M M3 := BF.go hB0 hB4
    refine vc_aload_n dX7_plan_25 rfl ?_
    refine vc_cVI dX7_plan_26 (sfX7_listPlaces (M := M3) hB5.1   ) rfl okX7_listPlaces viX7_listPlaces lkX7_83 (s_40 hB5.1.1) cl_7 rfl (Nat.le_of_ble_eq_true rfl) ⟨rfl, rfl⟩ (Nat.le_of_ble_eq_true rfl) (Nat.le_of_ble_eq_true rfl) (Nat.le_of_ble_eq_true rfl) ?_
    rintro x6 M7 ⟨hB8, h9, h10⟩
    have hB11 : BF fQ M M7 := BF.go hB5 hB8
    refine vc_if_ne dX7_plan_29 (fun h12 => ?_) (fun h12 => ?_)
    · refine vc_aload_n dX7_plan_34 rfl ?_
      refine vc_cVU dX7_plan_35 (sfX7_setPaces (M := M7) hB11.1   ) rfl okX7_setPaces viX7_setPaces lkX7_87 (s_40 hB11.1.1) cl_7 rfl (Nat.le_of_ble_eq_true rfl) ⟨rfl, rfl⟩ (Nat.le_of_ble_eq_true rfl) (Nat.le_of_ble_eq_true rfl) (Nat.le_of_ble_eq_true rfl) ?_
      rintro M13 hB14
      have hB15 : BF fQ M M13 := BF.go hB11 hB14.vq
      refine vc_aload_n dX7_plan_38 rfl ?_
      refine vc_iload_n dX7_plan_39 rfl ?_
      refine vc_cVU dX7_plan_40 (sfX7_measure (M := M13) hB15.1  x1 ) rfl okX7_measure viX7_measure lkX7_90 (s_40 hB15.1.1) cl_7 rfl (Nat.le_of_ble_eq_true rfl) ⟨rfl, rfl⟩ (Nat.le_of_ble_eq_true rfl) (Nat.le_of_ble_eq_true rfl) (Nat.le_of_ble_eq_true rfl) ?_
      rintro M16 hB17
      have hB18 : BF fQ M M16 := BF.go hB15 hB17.vq
      refine vc_iconst dX7_plan_43 rfl ?_
      refine vc_istore_n dX7_plan_44 (by decide) rfl (show _ = [some (aR 40), some (aI t), some (aI x1), some (aI 0)] from rfl) ?_
      have lp45 : ∀ (n45 : Nat) (Mq45 : Mem) (v3 : Int), (BF fQ M Mq45) → (0 ≤ v3) → (v3 ≤ 5) → (5 - v3).toNat < n45 → VC l mdX7_plan 45 [some (aR 40), none, some (aI x1), some (aI v3)] [] Mq45 0 0 (fun q N => ∃ r : Int, q = some (aI r) ∧ BF fQ M N ∧ 0 ≤ r ∧ r ≤ 1) := by
        intro n45
        induction n45 with
        | zero => intro Mq45 v3 hQ45 g45_3a g45_3b hm45; exact absurd hm45 (Nat.not_lt_zero _)
        | succ n45 ih45 =>
          intro Mq45 v3 hQ45 g45_3a g45_3b hm45
          refine vc_iload_n dX7_plan_45 rfl ?_
          refine vc_aload_n dX7_plan_46 rfl ?_
          refine vc_getI dX7_plan_47 flX7_93 (s_40 hQ45.1.1) rfl ?_
          have k19 : 0 ≤ mI Mq45 40 9 ∧ mI Mq45 40 9 ≤ 5 := b40_9 (M := Mq45) hQ45.1
          refine vc_icmp_ge dX7_plan_50 (fun h20 => ?_) (fun h20 => ?_)
          · refine vc_aload_n dX7_plan_86 rfl ?_
            refine vc_ldc2 dX7_plan_87 rfl klX7_96 ?_
            refine vc_putJ dX7_plan_90 (plX7_98 _ rfl) (s_40 hQ45.1.1) rfl ?_
            have hB21 : BF fQ M (sJ Mq45 40 10 (-1)) := BF.J hQ45 _ _ _ rfl
            refine vc_aload_n dX7_plan_93 rfl ?_
            refine vc_iconst dX7_plan_94 rfl ?_
            refine vc_iconst dX7_plan_95 rfl ?_
            refine vc_iload_n dX7_plan_96 rfl ?_
            refine vc_lconst dX7_plan_97 ?_
            refine vc_topL 0 rfl ?_
            refine vc_lconst dX7_plan_98 ?_
            refine vc_topL 0 rfl ?_
            refine vc_cVU dX7_plan_99 (sfX7_tryOrders 6 (M := (sJ Mq45 40 10 (-1))) hB21.1  0 0 x1 0 0 (by omega) (by omega) (by omega)) rfl (okX7_tryOrders (14 + 6)) (viX7_tryOrders (14 + 6)) (lkX7_102 (14 + 6)) (s_40 hB21.1.1) cl_7 rfl (Nat.le_of_ble_eq_true rfl) ⟨rfl, rfl⟩ (Nat.le_of_ble_eq_true rfl) (Nat.le_of_ble_eq_true rfl) (Nat.le_of_ble_eq_true rfl) ?_
            rintro M22 hB23
            have hB24 : BF fQ M M22 := BF.go hB21 hB23
            refine vc_aload_n dX7_plan_102 rfl ?_
            refine vc_getJ dX7_plan_103 flX7_98 (s_40 hB24.1.1) rfl ?_
            refine vc_ldc2 dX7_plan_106 rfl klX7_96 ?_
            refine vc_lif_eq dX7_plan_109 dX7_plan_110 (fun h25 => ?_) (fun h25 => ?_)
            · refine vc_iconst dX7_plan_117 rfl ?_
              refine vc_zret dX7_plan_118 rfl (by first | decide | omega) (Nat.le_of_ble_eq_true rfl) (Nat.le_of_ble_eq_true rfl) ?_
              exact ⟨_, rfl, hB24, by omega, by omega⟩
            · refine vc_iconst dX7_plan_113 rfl ?_
              refine vc_goto dX7_plan_114 ?_
              refine vc_zret dX7_plan_118 rfl (by first | decide | omega) (Nat.le_of_ble_eq_true rfl) (Nat.le_of_ble_eq_true rfl) ?_
              exact ⟨_, rfl, hB24, by omega, by omega⟩
          · refine vc_aload_n dX7_plan_53 rfl ?_
            refine vc_iload_n dX7_plan_54 rfl ?_
            refine vc_aload_n dX7_plan_55 rfl ?_
            refine vc_getR dX7_plan_56 flX7_34 (s_40 hQ45.1.1) rfl (r_40_6 hQ45.1.1) ?_
            refine vc_iload_n dX7_plan_59 rfl ?_
            refine vc_iaload dX7_plan_60 (s_43 hQ45.1.1) (by omega) (by omega) ?_
            have k26 : 0 ≤ mI Mq45 43 v3.toNat ∧ mI Mq45 43 v3.toNat ≤ 15 := bA43 (M := Mq45) hQ45.1 _
            refine vc_cVI dX7_plan_61 (sfX7_secondsTo (M := Mq45) hQ45.1  x1 (mI Mq45 43 v3.toNat) ) rfl okX7_secondsTo viX7_secondsTo lkX7_69 (s_40 hQ45.1.1) cl_7 rfl (Nat.le_of_ble_eq_true rfl) ⟨rfl, rfl⟩ (Nat.le_of_ble_eq_true rfl) (Nat.le_of_ble_eq_true rfl) (Nat.le_of_ble_eq_true rfl) ?_
            rintro x27 _ rfl
            refine vc_iconst dX7_plan_64 rfl ?_
            refine vc_icmp_ne dX7_plan_65 (fun h28 => ?_) (fun h28 => ?_)
            · refine vc_aload_n dX7_plan_70 rfl ?_
              refine vc_aload_n dX7_plan_71 rfl ?_
              refine vc_getR dX7_plan_72 flX7_34 (s_40 hQ45.1.1) rfl (r_40_6 hQ45.1.1) ?_
              refine vc_iload_n dX7_plan_75 rfl ?_
              refine vc_iaload dX7_plan_76 (s_43 hQ45.1.1) (by omega) (by omega) ?_
              refine vc_cVU dX7_plan_77 (sfX7_measure (M := Mq45) hQ45.1  (mI Mq45 43 v3.toNat) ) rfl okX7_measure viX7_measure lkX7_90 (s_40 hQ45.1.1) cl_7 rfl (Nat.le_of_ble_eq_true rfl) ⟨rfl, rfl⟩ (Nat.le_of_ble_eq_true rfl) (Nat.le_of_ble_eq_true rfl) (Nat.le_of_ble_eq_true rfl) ?_
              rintro M29 hB30
              have hB31 : BF fQ M M29 := BF.go hQ45 hB30.vq
              refine vc_iincE dX7_plan_80 rfl (by omega) (by omega) (by decide) rfl (show _ = [some (aR 40), none, some (aI x1), some (aI (v3 + 1))] from rfl) ?_
              refine vc_goto dX7_plan_83 ?_
              exact ih45 M29 (v3 + 1) hB31 (by omega) (by omega) (by omega)
            · refine vc_iconst dX7_plan_68 rfl ?_
              refine vc_zret dX7_plan_69 rfl (by first | decide | omega) (Nat.le_of_ble_eq_true rfl) (Nat.le_of_ble_eq_true rfl) ?_
              exact ⟨_, rfl, hQ45, by omega, by omega⟩
      refine vc_less [some (aR 40), none, some (aI x1), some (aI 0)] (lessL_keep (lessL_drop (lessL_keep (lessL_keep (lessL_nil))))) ?_
      exact lp45 _ M16 0 hB18 (by omega) (by omega) (Nat.lt_succ_self _)
    · refine vc_iconst dX7_plan_32 rfl ?_
      refine vc_zret dX7_plan_33 rfl (by first | decide | omega) (Nat.le_of_ble_eq_true rfl) (Nat.le_of_ble_eq_true rfl) ?_
      exact ⟨_, rfl, hB11, by omega, by omega⟩
  · refine vc_iconst dX7_plan_15 rfl ?_
    refine vc_zret dX7_plan_16 rfl (by first | decide | omega) (Nat.le_of_ble_eq_true rfl) (Nat.le_of_ble_eq_true rfl) ?_
    exact ⟨_, rfl, hB0, by omega, by omega⟩

