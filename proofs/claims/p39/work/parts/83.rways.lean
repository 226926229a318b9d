/-! CONTRACTS of the reference: plays, days, ways (written by wip/p35/c83.py) -/
set_option maxRecDepth 4000 in
theorem sfX12_findWeights {l : Launch} {M : Mem} (hB : Box M)  (t : Int) (p0 : 0 ≤ t) (p1 : t ≤ 7) : Call l mdX12_findWeights [aR 54, aI t] M (fun q N => q = none ∧ BF fW M N ∧ mI N 55 = mI M 55) := by
  have hB0 : BF fW M M := BF.start hB
  refine Call.of [some (aR 54), some (aI t), none, none, none] rfl (Nat.le_of_ble_eq_true rfl) rfl ?_
  refine vc_iconst dX12_findWeights_0 rfl ?_
  refine vc_istore_n dX12_findWeights_1 (by decide) rfl (show _ = [some (aR 54), some (aI t), some (aI 0), none, none] from rfl) ?_
  have lp2 : ∀ (n2 : Nat) (Mq2 : Mem) (v2 : Int), (BF fW M Mq2) → (mI Mq2 55 = mI M 55) → (0 ≤ v2) → (v2 ≤ 8) → (8 - v2).toNat < n2 → VC l mdX12_findWeights 2 [some (aR 54), some (aI t), some (aI v2), none, none] [] Mq2 0 0 (fun q N => q = none ∧ BF fW M N ∧ mI N 55 = mI M 55) := by
    intro n2
    induction n2 with
    | zero => intro Mq2 v2 hQ2 kp2_55 g2_2a g2_2b hm2; exact absurd hm2 (Nat.not_lt_zero _)
    | succ n2 ih2 =>
      intro Mq2 v2 hQ2 kp2_55 g2_2a g2_2b hm2
      refine vc_iload_n dX12_findWeights_2 rfl ?_
      refine vc_bipush dX12_findWeights_3 rfl ?_
      refine vc_icmp_ge dX12_findWeights_5 (fun h1 => ?_) (fun h1 => ?_)
      · refine vc_iconst dX12_findWeights_21 rfl ?_
        refine vc_istore_n dX12_findWeights_22 (by decide) rfl (show _ = [some (aR 54), some (aI t), some (aI 0), none, none] from rfl) ?_
        have lp23 : ∀ (n23 : Nat) (Mq23 : Mem) (v2i : Int), (BF fW M Mq23) → (mI Mq23 55 = mI M 55) → (0 ≤ v2i) → (v2i ≤ 3) → (3 - v2i).toNat < n23 → VC l mdX12_findWeights 23 [some (aR 54), some (aI t), some (aI v2i), none, none] [] Mq23 0 0 (fun q N => q = none ∧ BF fW M N ∧ mI N 55 = mI M 55) := by
          intro n23
          induction n23 with
          | zero => intro Mq23 v2i hQ23 kp23_55 g23_2a g23_2b hm23; exact absurd hm23 (Nat.not_lt_zero _)
          | succ n23 ih23 =>
            intro Mq23 v2i hQ23 kp23_55 g23_2a g23_2b hm23
            refine vc_iload_n dX12_findWeights_23 rfl ?_
            refine vc_iconst dX12_findWeights_24 rfl ?_
            refine vc_icmp_ge dX12_findWeights_25 (fun h2 => ?_) (fun h2 => ?_)
            · refine vc_vret dX12_findWeights_84 rfl (Nat.le_of_ble_eq_true rfl) (Nat.le_of_ble_eq_true rfl) ?_
              exact ⟨rfl, hQ23, kp23_55⟩
            · refine vc_aload_n dX12_findWeights_28 rfl ?_
              refine vc_iload_n dX12_findWeights_29 rfl ?_
              refine vc_iload_n dX12_findWeights_30 rfl ?_
              refine vc_cVI dX12_findWeights_31 (sfX12_slipOf (M := Mq23) hQ23.1  t v2i (by omega) (by omega) (by omega) (by omega)) rfl okX12_slipOf viX12_slipOf lkX12_446 (s_54 hQ23.1.1) cl_12 rfl (Nat.le_of_ble_eq_true rfl) ⟨rfl, rfl⟩ (Nat.le_of_ble_eq_true rfl) (Nat.le_of_ble_eq_true rfl) (Nat.le_of_ble_eq_true rfl) ?_
              rintro x3 M4 ⟨hB5, kp6, kp7, kp8, kp9, kp10, kp11⟩
              have hB12 : BF fW M M4 := BF.go hQ23 hB5.sw
              have kp13 : mI M4 55 = mI M 55 := kp_go kp23_55 kp7
              refine vc_istore_n dX12_findWeights_34 (by decide) rfl (show _ = [some (aR 54), some (aI t), some (aI v2i), some (aI x3), none] from rfl) ?_
              refine vc_iconst dX12_findWeights_35 rfl ?_
              refine vc_istore dX12_findWeights_36 (by decide) rfl (show _ = [some (aR 54), some (aI t), some (aI v2i), some (aI x3), some (aI 0)] from rfl) ?_
              have lp38 : ∀ (n38 : Nat) (Mq38 : Mem) (v4 : Int), (BF fW M Mq38) → (mI Mq38 55 = mI M 55) → (0 ≤ v4) → (v4 ≤ 8) → (8 - v4).toNat < n38 → VC l mdX12_findWeights 38 [some (aR 54), some (aI t), some (aI v2i), some (aI x3), some (aI v4)] [] Mq38 0 0 (fun q N => q = none ∧ BF fW M N ∧ mI N 55 = mI M 55) := by
                intro n38
                induction n38 with
                | zero => intro Mq38 v4 hQ38 kp38_55 g38_4a g38_4b hm38; exact absurd hm38 (Nat.not_lt_zero _)
                | succ n38 ih38 =>
                  intro Mq38 v4 hQ38 kp38_55 g38_4a g38_4b hm38
                  refine vc_iload dX12_findWeights_38 rfl ?_
                  refine vc_bipush dX12_findWeights_40 rfl ?_
                  refine vc_icmp_ge dX12_findWeights_42 (fun h14 => ?_) (fun h14 => ?_)
                  · refine vc_iincE dX12_findWeights_78 rfl (by omega) (by omega) (by decide) rfl (show _ = [some (aR 54), some (aI t), some (aI (v2i + 1)), some (aI x3), some (aI v4)] from rfl) ?_
                    refine vc_goto dX12_findWeights_81 ?_
                    refine vc_less [some (aR 54), some (aI t), some (aI (v2i + 1)), none, none] (lessL_keep (lessL_keep (lessL_keep (lessL_drop (lessL_drop (lessL_nil)))))) ?_
                    exact ih23 Mq38 (v2i + 1) hQ38 kp38_55 (by omega) (by omega) (by omega)
                  · refine vc_aload_n dX12_findWeights_45 rfl ?_
                    refine vc_getR dX12_findWeights_46 flX12_48 (s_54 hQ38.1.1) rfl (r_54_34 hQ38.1.1) ?_
                    refine vc_iload dX12_findWeights_49 rfl ?_
                    refine vc_dup2 dX12_findWeights_51 rfl rfl ?_
                    refine vc_iaload dX12_findWeights_52 (s_65 hQ38.1.1) (by omega) (by omega) ?_
                    refine vc_iload dX12_findWeights_53 rfl ?_
                    refine vc_iload_n dX12_findWeights_55 rfl ?_
                    refine vc_cSI dX12_findWeights_56 (sfX12_has (M := Mq38) hQ38.1  v4 v2i ) rfl okX12_has stX12_has lkX12_268 rfl (Nat.le_of_ble_eq_true rfl) ⟨rfl, rfl⟩ (Nat.le_of_ble_eq_true rfl) (Nat.le_of_ble_eq_true rfl) (Nat.le_of_ble_eq_true rfl) ?_
                    rintro x15 _ ⟨rfl, h16, h17⟩
                    refine vc_if_eq dX12_findWeights_59 (fun h18 => ?_) (fun h18 => ?_)
                    · refine vc_bipush dX12_findWeights_66 rfl ?_
                      refine vc_iload_n dX12_findWeights_68 rfl ?_
                      refine vc_isub dX12_findWeights_69 ?_
                      refine vc_imul dX12_findWeights_70 ?_
                      refine vc_iastore dX12_findWeights_71 (s_65 hQ38.1.1) (by omega) (by omega) ?_
                      have kp19 : mI (sI Mq38 65 v4.toNat (wI ((mI Mq38 65 v4.toNat) * (wI (10 - x3))))) 55 = mI M 55 := (kp_sI kp38_55 rfl)
                      have hB20 : BF fW M (sI Mq38 65 v4.toNat (wI ((mI Mq38 65 v4.toNat) * (wI (10 - x3))))) := BF.w65 hQ38 (fun _ => rfl) _
                      refine vc_iincE dX12_findWeights_72 rfl (by omega) (by omega) (by decide) rfl (show _ = [some (aR 54), some (aI t), some (aI v2i), some (aI x3), some (aI (v4 + 1))] from rfl) ?_
                      refine vc_goto dX12_findWeights_75 ?_
                      exact ih38 (sI Mq38 65 v4.toNat (wI ((mI Mq38 65 v4.toNat) * (wI (10 - x3))))) (v4 + 1) hB20 kp19 (by omega) (by omega) (by omega)
                    · refine vc_iload_n dX12_findWeights_62 rfl ?_
                      refine vc_goto dX12_findWeights_63 ?_
                      refine vc_imul dX12_findWeights_70 ?_
                      refine vc_iastore dX12_findWeights_71 (s_65 hQ38.1.1) (by omega) (by omega) ?_
                      have kp21 : mI (sI Mq38 65 v4.toNat (wI ((mI Mq38 65 v4.toNat) * x3))) 55 = mI M 55 := (kp_sI kp38_55 rfl)
                      have hB22 : BF fW M (sI Mq38 65 v4.toNat (wI ((mI Mq38 65 v4.toNat) * x3))) := BF.w65 hQ38 (fun _ => rfl) _
                      refine vc_iincE dX12_findWeights_72 rfl (by omega) (by omega) (by decide) rfl (show _ = [some (aR 54), some (aI t), some (aI v2i), some (aI x3), some (aI (v4 + 1))] from rfl) ?_
                      refine vc_goto dX12_findWeights_75 ?_
                      exact ih38 (sI Mq38 65 v4.toNat (wI ((mI Mq38 65 v4.toNat) * x3))) (v4 + 1) hB22 kp21 (by omega) (by omega) (by omega)
              exact lp38 _ M4 0 hB12 kp13 (by omega) (by omega) (Nat.lt_succ_self _)
        exact lp23 _ Mq2 0 hQ2 kp2_55 (by omega) (by omega) (Nat.lt_succ_self _)
      · refine vc_aload_n dX12_findWeights_8 rfl ?_
        refine vc_getR dX12_findWeights_9 flX12_48 (s_54 hQ2.1.1) rfl (r_54_34 hQ2.1.1) ?_
        refine vc_iload_n dX12_findWeights_12 rfl ?_
        refine vc_iconst dX12_findWeights_13 rfl ?_
        refine vc_iastore dX12_findWeights_14 (s_65 hQ2.1.1) (by omega) (by omega) ?_
        have kp23 : mI (sI Mq2 65 v2.toNat 1) 55 = mI M 55 := (kp_sI kp2_55 rfl)
        have hB24 : BF fW M (sI Mq2 65 v2.toNat 1) := BF.w65 hQ2 (fun _ => rfl) _
        refine vc_iincE dX12_findWeights_15 rfl (by omega) (by omega) (by decide) rfl (show _ = [some (aR 54), some (aI t), some (aI (v2 + 1)), none, none] from rfl) ?_
        refine vc_goto dX12_findWeights_18 ?_
        exact ih2 (sI Mq2 65 v2.toNat 1) (v2 + 1) hB24 kp23 (by omega) (by omega) (by omega)
  exact lp2 _ M 0 hB0 rfl (by omega) (by omega) (Nat.lt_succ_self _)

set_option maxRecDepth 4000 in
theorem sfX12_findWays {l : Launch} {M : Mem} (hB : Box M)  (t : Int) (p0 : 0 ≤ t) (p1 : t ≤ 7) (p2 : t < mI M 55 3) : Call l mdX12_findWays [aR 54, aI t] M (fun q N => q = none ∧ BF fW M N ∧ mI N 55 = mI M 55) := by
  have hB0 : BF fW M M := BF.start hB
  refine Call.of [some (aR 54), some (aI t), none] rfl (Nat.le_of_ble_eq_true rfl) rfl ?_
  refine vc_aload_n dX12_findWays_0 rfl ?_
  refine vc_iload_n dX12_findWays_1 rfl ?_
  refine vc_cVU dX12_findWays_2 (sfX12_findWeights (M := M) hB0.1  t (by omega) (by omega)) rfl okX12_findWeights viX12_findWeights lkX12_452 (s_54 hB0.1.1) cl_12 rfl (Nat.le_of_ble_eq_true rfl) ⟨rfl, rfl⟩ (Nat.le_of_ble_eq_true rfl) (Nat.le_of_ble_eq_true rfl) (Nat.le_of_ble_eq_true rfl) ?_
  rintro M1 ⟨hB2, kp3⟩
  have hB4 : BF fW M M1 := BF.go hB0 hB2
  have kp5 : mI M1 55 = mI M 55 := kp_go rfl kp3
  refine vc_iconst dX12_findWays_5 rfl ?_
  refine vc_istore_n dX12_findWays_6 (by decide) rfl (show _ = [some (aR 54), some (aI t), some (aI 0)] from rfl) ?_
  have lp7 : ∀ (n7 : Nat) (Mq7 : Mem) (v2 : Int), (BF fW M Mq7) → (mI Mq7 55 = mI M 55) → (0 ≤ v2) → (v2 ≤ 8) → (8 - v2).toNat < n7 → VC l mdX12_findWays 7 [some (aR 54), some (aI t), some (aI v2)] [] Mq7 0 0 (fun q N => q = none ∧ BF fW M N ∧ mI N 55 = mI M 55) := by
    intro n7
    induction n7 with
    | zero => intro Mq7 v2 hQ7 kp7_55 g7_2a g7_2b hm7; exact absurd hm7 (Nat.not_lt_zero _)
    | succ n7 ih7 =>
      intro Mq7 v2 hQ7 kp7_55 g7_2a g7_2b hm7
      refine vc_iload_n dX12_findWays_7 rfl ?_
      refine vc_bipush dX12_findWays_8 rfl ?_
      refine vc_icmp_ge dX12_findWays_10 (fun h6 => ?_) (fun h6 => ?_)
      · refine vc_vret dX12_findWays_31 rfl (Nat.le_of_ble_eq_true rfl) (Nat.le_of_ble_eq_true rfl) ?_
        exact ⟨rfl, hQ7, kp7_55⟩
      · refine vc_aload_n dX12_findWays_13 rfl ?_
        refine vc_getR dX12_findWays_14 flX12_45 (s_54 hQ7.1.1) rfl (r_54_33 hQ7.1.1) ?_
        refine vc_iload_n dX12_findWays_17 rfl ?_
        refine vc_aload_n dX12_findWays_18 rfl ?_
        refine vc_iload_n dX12_findWays_19 rfl ?_
        refine vc_iload_n dX12_findWays_20 rfl ?_
        have f3 := congrFun kp7_55 3
        refine vc_cVI dX12_findWays_21 (sfX12_leadsOf (M := Mq7) hQ7.1  t v2 (by omega) (by omega) (by omega)) rfl okX12_leadsOf viX12_leadsOf lkX12_449 (s_54 hQ7.1.1) cl_12 rfl (Nat.le_of_ble_eq_true rfl) ⟨rfl, rfl⟩ (Nat.le_of_ble_eq_true rfl) (Nat.le_of_ble_eq_true rfl) (Nat.le_of_ble_eq_true rfl) ?_
        rintro x7 M8 ⟨hB9, kp10, h11, h12⟩
        have hB13 : BF fW M M8 := BF.go hQ7 hB9.sw
        have kp14 : mI M8 55 = mI M 55 := kp_go kp7_55 kp10
        refine vc_iastore dX12_findWays_24 (s_64 hB13.1.1) (by omega) (by omega) ?_
        have kp15 : mI (sI M8 64 v2.toNat x7) 55 = mI M 55 := (kp_sI kp14 rfl)
        have hB16 : BF fW M (sI M8 64 v2.toNat x7) := BF.w64 hB13 (fun _ => rfl) _
        refine vc_iincE dX12_findWays_25 rfl (by omega) (by omega) (by decide) rfl (show _ = [some (aR 54), some (aI t), some (aI (v2 + 1))] from rfl) ?_
        refine vc_goto dX12_findWays_28 ?_
        exact ih7 (sI M8 64 v2.toNat x7) (v2 + 1) hB16 kp15 (by omega) (by omega) (by omega)
  exact lp7 _ M1 0 hB4 kp5 (by omega) (by omega) (Nat.lt_succ_self _)

set_option maxRecDepth 4000 in
theorem sfX12_weightTo {l : Launch} {M : Mem} (hB : Box M)  (c : Int)  : Call l mdX12_weightTo [aR 54, aI c] M (fun q N => ∃ r : Int, q = some (aI r) ∧ M = N) := by
  have hB0 : BF fQ M M := BF.start hB
  refine Call.of [some (aR 54), some (aI c), none, none] rfl (Nat.le_of_ble_eq_true rfl) rfl ?_
  refine vc_ok (fun hoM hoS hoL => ?_)
  have hr1 : -2147483648 ≤ c ∧ c < 2147483648 := hoL 1 _ rfl
  refine vc_iconst dX12_weightTo_0 rfl ?_
  refine vc_istore_n dX12_weightTo_1 (by decide) rfl (show _ = [some (aR 54), some (aI c), some (aI 0), none] from rfl) ?_
  refine vc_iconst dX12_weightTo_2 rfl ?_
  refine vc_istore_n dX12_weightTo_3 (by decide) rfl (show _ = [some (aR 54), some (aI c), some (aI 0), some (aI 0)] from rfl) ?_
  have lp4 : ∀ (n4 : Nat) (v2 : Int) (v3 : Int), (0 ≤ v3) → (v3 ≤ 8) → (8 - v3).toNat < n4 → VC l mdX12_weightTo 4 [some (aR 54), some (aI c), some (aI v2), some (aI v3)] [] M 0 0 (fun q N => ∃ r : Int, q = some (aI r) ∧ M = N) := by
    intro n4
    induction n4 with
    | zero => intro v2 v3 g4_3a g4_3b hm4; exact absurd hm4 (Nat.not_lt_zero _)
    | succ n4 ih4 =>
      intro v2 v3 g4_3a g4_3b hm4
      refine vc_iload_n dX12_weightTo_4 rfl ?_
      refine vc_bipush dX12_weightTo_5 rfl ?_
      refine vc_icmp_ge dX12_weightTo_7 (fun h1 => ?_) (fun h1 => ?_)
      · refine vc_iload_n dX12_weightTo_54 rfl ?_
        refine vc_iret dX12_weightTo_55 rfl (Nat.le_of_ble_eq_true rfl) (Nat.le_of_ble_eq_true rfl) ?_
        exact ⟨_, rfl, rfl⟩
      · refine vc_iload_n dX12_weightTo_10 rfl ?_
        refine vc_aload_n dX12_weightTo_11 rfl ?_
        refine vc_getR dX12_weightTo_12 flX12_45 (s_54 hB0.1.1) rfl (r_54_33 hB0.1.1) ?_
        refine vc_iload_n dX12_weightTo_15 rfl ?_
        refine vc_iaload dX12_weightTo_16 (s_64 hB0.1.1) (by omega) (by omega) ?_
        refine vc_iconst dX12_weightTo_17 rfl ?_
        refine vc_icmp_eq dX12_weightTo_18 (fun h2 => ?_) (fun h2 => ?_)
        · refine vc_iconst dX12_weightTo_45 rfl ?_
          refine vc_iadd dX12_weightTo_46 ?_
          refine vc_nameI (fun x3 ex3 => ?_)
          refine vc_istore_n dX12_weightTo_47 (by decide) rfl (show _ = [some (aR 54), some (aI c), some (aI x3), some (aI v3)] from rfl) ?_
          refine vc_iincE dX12_weightTo_48 rfl (by omega) (by omega) (by decide) rfl (show _ = [some (aR 54), some (aI c), some (aI x3), some (aI (v3 + 1))] from rfl) ?_
          refine vc_goto dX12_weightTo_51 ?_
          exact ih4 x3 (v3 + 1) (by omega) (by omega) (by omega)
        · refine vc_iload_n dX12_weightTo_21 rfl ?_
          refine vc_iconst dX12_weightTo_22 rfl ?_
          refine vc_icmp_eq dX12_weightTo_23 (fun h4 => ?_) (fun h4 => ?_)
          · refine vc_aload_n dX12_weightTo_36 rfl ?_
            refine vc_getR dX12_weightTo_37 flX12_48 (s_54 hB0.1.1) rfl (r_54_34 hB0.1.1) ?_
            refine vc_iload_n dX12_weightTo_40 rfl ?_
            refine vc_iaload dX12_weightTo_41 (s_65 hB0.1.1) (by omega) (by omega) ?_
            refine vc_goto dX12_weightTo_42 ?_
            refine vc_iadd dX12_weightTo_46 ?_
            refine vc_nameI (fun x5 ex5 => ?_)
            refine vc_istore_n dX12_weightTo_47 (by decide) rfl (show _ = [some (aR 54), some (aI c), some (aI x5), some (aI v3)] from rfl) ?_
            refine vc_iincE dX12_weightTo_48 rfl (by omega) (by omega) (by decide) rfl (show _ = [some (aR 54), some (aI c), some (aI x5), some (aI (v3 + 1))] from rfl) ?_
            refine vc_goto dX12_weightTo_51 ?_
            exact ih4 x5 (v3 + 1) (by omega) (by omega) (by omega)
          · refine vc_aload_n dX12_weightTo_26 rfl ?_
            refine vc_getR dX12_weightTo_27 flX12_45 (s_54 hB0.1.1) rfl (r_54_33 hB0.1.1) ?_
            refine vc_iload_n dX12_weightTo_30 rfl ?_
            refine vc_iaload dX12_weightTo_31 (s_64 hB0.1.1) (by omega) (by omega) ?_
            refine vc_iload_n dX12_weightTo_32 rfl ?_
            refine vc_icmp_ne dX12_weightTo_33 (fun h6 => ?_) (fun h6 => ?_)
            · refine vc_iconst dX12_weightTo_45 rfl ?_
              refine vc_iadd dX12_weightTo_46 ?_
              refine vc_nameI (fun x7 ex7 => ?_)
              refine vc_istore_n dX12_weightTo_47 (by decide) rfl (show _ = [some (aR 54), some (aI c), some (aI x7), some (aI v3)] from rfl) ?_
              refine vc_iincE dX12_weightTo_48 rfl (by omega) (by omega) (by decide) rfl (show _ = [some (aR 54), some (aI c), some (aI x7), some (aI (v3 + 1))] from rfl) ?_
              refine vc_goto dX12_weightTo_51 ?_
              exact ih4 x7 (v3 + 1) (by omega) (by omega) (by omega)
            · refine vc_aload_n dX12_weightTo_36 rfl ?_
              refine vc_getR dX12_weightTo_37 flX12_48 (s_54 hB0.1.1) rfl (r_54_34 hB0.1.1) ?_
              refine vc_iload_n dX12_weightTo_40 rfl ?_
              refine vc_iaload dX12_weightTo_41 (s_65 hB0.1.1) (by omega) (by omega) ?_
              refine vc_goto dX12_weightTo_42 ?_
              refine vc_iadd dX12_weightTo_46 ?_
              refine vc_nameI (fun x8 ex8 => ?_)
              refine vc_istore_n dX12_weightTo_47 (by decide) rfl (show _ = [some (aR 54), some (aI c), some (aI x8), some (aI v3)] from rfl) ?_
              refine vc_iincE dX12_weightTo_48 rfl (by omega) (by omega) (by decide) rfl (show _ = [some (aR 54), some (aI c), some (aI x8), some (aI (v3 + 1))] from rfl) ?_
              refine vc_goto dX12_weightTo_51 ?_
              exact ih4 x8 (v3 + 1) (by omega) (by omega) (by omega)
  exact lp4 _ 0 0 (by omega) (by omega) (Nat.lt_succ_self _)

set_option maxRecDepth 4000 in
theorem sfX12_likely {l : Launch} {M : Mem} (hB : Box M)  (t : Int) (c : Int)  : Call l mdX12_likely [aR 54, aI t, aI c] M (fun q N => ∃ r : Int, q = some (aI r) ∧ BF fQ M N) := by
  have hB0 : BF fQ M M := BF.start hB
  refine Call.of [some (aR 54), some (aI t), some (aI c)] rfl (Nat.le_of_ble_eq_true rfl) rfl ?_
  refine vc_ok (fun hoM hoS hoL => ?_)
  have hr1 : -2147483648 ≤ t ∧ t < 2147483648 := hoL 1 _ rfl
  have hr2 : -2147483648 ≤ c ∧ c < 2147483648 := hoL 2 _ rfl
  refine vc_aload_n dX12_likely_0 rfl ?_
  refine vc_iload_n dX12_likely_1 rfl ?_
  refine vc_cVI dX12_likely_2 (sfX12_isTelling (M := M) hB0.1  t ) rfl okX12_isTelling viX12_isTelling lkX12_400 (s_54 hB0.1.1) cl_12 rfl (Nat.le_of_ble_eq_true rfl) ⟨rfl, rfl⟩ (Nat.le_of_ble_eq_true rfl) (Nat.le_of_ble_eq_true rfl) (Nat.le_of_ble_eq_true rfl) ?_
  rintro x1 _ ⟨rfl, h2, h3, h4⟩
  refine vc_if_eq dX12_likely_5 (fun h5 => ?_) (fun h5 => ?_)
  · refine vc_iconst dX12_likely_21 rfl ?_
    refine vc_iret dX12_likely_22 rfl (Nat.le_of_ble_eq_true rfl) (Nat.le_of_ble_eq_true rfl) ?_
    exact ⟨_, rfl, hB0⟩
  · refine vc_iload_n dX12_likely_8 rfl ?_
    refine vc_iconst dX12_likely_9 rfl ?_
    refine vc_icmp_eq dX12_likely_10 (fun h6 => ?_) (fun h6 => ?_)
    · refine vc_aload_n dX12_likely_23 rfl ?_
      refine vc_iload_n dX12_likely_24 rfl ?_
      refine vc_cVU dX12_likely_25 (sfX12_findWays (M := M) hB0.1  t (by omega) (by omega) (by omega)) rfl okX12_findWays viX12_findWays lkX12_455 (s_54 hB0.1.1) cl_12 rfl (Nat.le_of_ble_eq_true rfl) ⟨rfl, rfl⟩ (Nat.le_of_ble_eq_true rfl) (Nat.le_of_ble_eq_true rfl) (Nat.le_of_ble_eq_true rfl) ?_
      rintro M7 ⟨hB8, kp9⟩
      have hB10 : BF fQ M M7 := BF.go hB0 hB8.wq
      refine vc_aload_n dX12_likely_28 rfl ?_
      refine vc_iload_n dX12_likely_29 rfl ?_
      refine vc_cVI dX12_likely_30 (sfX12_weightTo (M := M7) hB10.1  c ) rfl okX12_weightTo viX12_weightTo lkX12_458 (s_54 hB10.1.1) cl_12 rfl (Nat.le_of_ble_eq_true rfl) ⟨rfl, rfl⟩ (Nat.le_of_ble_eq_true rfl) (Nat.le_of_ble_eq_true rfl) (Nat.le_of_ble_eq_true rfl) ?_
      rintro x11 _ rfl
      refine vc_iret dX12_likely_33 rfl (Nat.le_of_ble_eq_true rfl) (Nat.le_of_ble_eq_true rfl) ?_
      exact ⟨_, rfl, hB10⟩
    · refine vc_aload_n dX12_likely_13 rfl ?_
      refine vc_iload_n dX12_likely_14 rfl ?_
      refine vc_cVI dX12_likely_15 (sfX12_isCorner (M := M) hB0.1  c ) rfl okX12_isCorner viX12_isCorner lkX12_87 (s_54 hB0.1.1) cl_12 rfl (Nat.le_of_ble_eq_true rfl) ⟨rfl, rfl⟩ (Nat.le_of_ble_eq_true rfl) (Nat.le_of_ble_eq_true rfl) (Nat.le_of_ble_eq_true rfl) ?_
      rintro x12 _ ⟨rfl, h13, h14, h15⟩
      refine vc_if_ne dX12_likely_18 (fun h16 => ?_) (fun h16 => ?_)
      · refine vc_aload_n dX12_likely_23 rfl ?_
        refine vc_iload_n dX12_likely_24 rfl ?_
        refine vc_cVU dX12_likely_25 (sfX12_findWays (M := M) hB0.1  t (by omega) (by omega) (by omega)) rfl okX12_findWays viX12_findWays lkX12_455 (s_54 hB0.1.1) cl_12 rfl (Nat.le_of_ble_eq_true rfl) ⟨rfl, rfl⟩ (Nat.le_of_ble_eq_true rfl) (Nat.le_of_ble_eq_true rfl) (Nat.le_of_ble_eq_true rfl) ?_
        rintro M17 ⟨hB18, kp19⟩
        have hB20 : BF fQ M M17 := BF.go hB0 hB18.wq
        refine vc_aload_n dX12_likely_28 rfl ?_
        refine vc_iload_n dX12_likely_29 rfl ?_
        refine vc_cVI dX12_likely_30 (sfX12_weightTo (M := M17) hB20.1  c ) rfl okX12_weightTo viX12_weightTo lkX12_458 (s_54 hB20.1.1) cl_12 rfl (Nat.le_of_ble_eq_true rfl) ⟨rfl, rfl⟩ (Nat.le_of_ble_eq_true rfl) (Nat.le_of_ble_eq_true rfl) (Nat.le_of_ble_eq_true rfl) ?_
        rintro x21 _ rfl
        refine vc_iret dX12_likely_33 rfl (Nat.le_of_ble_eq_true rfl) (Nat.le_of_ble_eq_true rfl) ?_
        exact ⟨_, rfl, hB20⟩
      · refine vc_iconst dX12_likely_21 rfl ?_
        refine vc_iret dX12_likely_22 rfl (Nat.le_of_ble_eq_true rfl) (Nat.le_of_ble_eq_true rfl) ?_
        exact ⟨_, rfl, hB0⟩

theorem rml_lt {p q : Int} (h : ¬ q = 0) : (rmL p q).natAbs < q.natAbs := by
  unfold rmL
  rw [Int.natAbs_tmod]
  exact Nat.mod_lt _ (by omega)
set_option maxRecDepth 4000 in
theorem sfX12_common {l : Launch} {M : Mem} (hB : Box M)  (x : Int) (y : Int)  : Call l mdX12_common [aL x, aL y] M (fun q N => ∃ r : Int, q = some (aL r) ∧ M = N ∧ (y = 0 ∨ r ≠ 0)) := by
  have hB0 : BF fQ M M := BF.start hB
  refine Call.of [some (aL x), none, some (aL y), none, none, none, none, none, none, none] rfl (Nat.le_of_ble_eq_true rfl) rfl ?_
  refine vc_lload_n dX12_common_0 rfl ?_
  refine vc_lstore dX12_common_1 (by decide) rfl rfl (show _ = [some (aL x), none, some (aL y), none, some (aL x), none, none, none, none, none] from rfl) ?_
  refine vc_lload_n dX12_common_3 rfl ?_
  refine vc_lstore dX12_common_4 (by decide) rfl rfl (show _ = [some (aL x), none, some (aL y), none, some (aL x), none, some (aL y), none, none, none] from rfl) ?_
  have lp6 : ∀ (n6 : Nat) (v4 : Int) (v6 : Int), (y = 0 ∨ v4 ≠ 0 ∨ v6 ≠ 0) → ((v6.natAbs : Int)).toNat < n6 → VC l mdX12_common 6 [none, none, none, none, some (aL v4), none, some (aL v6), none, none, none] [] M 0 0 (fun q N => ∃ r : Int, q = some (aL r) ∧ M = N ∧ (y = 0 ∨ r ≠ 0)) := by
    intro n6
    induction n6 with
    | zero => intro v4 v6 g6i0 hm6; exact absurd hm6 (Nat.not_lt_zero _)
    | succ n6 ih6 =>
      intro v4 v6 g6i0 hm6
      refine vc_lload dX12_common_6 rfl ?_
      refine vc_lconst dX12_common_8 ?_
      refine vc_topL 0 rfl ?_
      refine vc_lif_eq dX12_common_9 dX12_common_10 (fun h1 => ?_) (fun h1 => ?_)
      · refine vc_lload dX12_common_31 rfl ?_
        refine vc_lret dX12_common_33 rfl (Nat.le_of_ble_eq_true rfl) (Nat.le_of_ble_eq_true rfl) ?_
        exact ⟨_, rfl, rfl, by omega⟩
      · refine vc_lload dX12_common_13 rfl ?_
        refine vc_lload dX12_common_15 rfl ?_
        refine vc_lrem dX12_common_17 (by omega) ?_
        refine vc_nameL (fun x2 ex2 => ?_)
        refine vc_lstore dX12_common_18 (by decide) rfl rfl (show _ = [none, none, none, none, some (aL v4), none, some (aL v6), none, some (aL x2), none] from rfl) ?_
        refine vc_lload dX12_common_20 rfl ?_
        refine vc_lstore dX12_common_22 (by decide) rfl rfl (show _ = [none, none, none, none, some (aL v6), none, some (aL v6), none, some (aL x2), none] from rfl) ?_
        refine vc_lload dX12_common_24 rfl ?_
        refine vc_lstore dX12_common_26 (by decide) rfl rfl (show _ = [none, none, none, none, some (aL v6), none, some (aL x2), none, some (aL x2), none] from rfl) ?_
        refine vc_goto dX12_common_28 ?_
        refine vc_less [none, none, none, none, some (aL v6), none, some (aL x2), none, none, none] (lessL_keep (lessL_keep (lessL_keep (lessL_keep (lessL_keep (lessL_keep (lessL_keep (lessL_keep (lessL_drop (lessL_keep (lessL_nil))))))))))) ?_
        exact ih6 v6 x2 (by omega) (by (subst_vars; have q9 := rml_lt (p := v4) (q := v6) (by assumption); omega))
  refine vc_less [none, none, none, none, some (aL x), none, some (aL y), none, none, none] (lessL_drop (lessL_keep (lessL_drop (lessL_keep (lessL_keep (lessL_keep (lessL_keep (lessL_keep (lessL_keep (lessL_keep (lessL_nil))))))))))) ?_
  exact lp6 _ x y (by omega) (Nat.lt_succ_self _)

set_option maxRecDepth 4000 in
theorem sfX12_part {l : Launch} {M : Mem} (hB : Box M)  (u : Int) (a : Int) (low : Int)  : Call l mdX12_part [aL u, aL a, aI low] M (fun q N => ∃ r : Int, q = some (aL r) ∧ M = N) := by
  have hB0 : BF fQ M M := BF.start hB
  refine Call.of [some (aL u), none, some (aL a), none, some (aI low)] rfl (Nat.le_of_ble_eq_true rfl) rfl ?_
  refine vc_ok (fun hoM hoS hoL => ?_)
  have hr4 : -2147483648 ≤ low ∧ low < 2147483648 := hoL 4 _ rfl
  refine vc_lload_n dX12_part_0 rfl ?_
  refine vc_lconst dX12_part_1 ?_
  refine vc_topL 0 rfl ?_
  refine vc_lif_ne dX12_part_2 dX12_part_3 (fun h1 => ?_) (fun h1 => ?_)
  · refine vc_iload dX12_part_17 rfl ?_
    refine vc_if_eq dX12_part_19 (fun h2 => ?_) (fun h2 => ?_)
    · refine vc_lload_n dX12_part_26 rfl ?_
      refine vc_lload_n dX12_part_27 rfl ?_
      refine vc_lload_n dX12_part_28 rfl ?_
      refine vc_cSL dX12_part_29 (sfX12_common (M := M) hB0.1  u a ) rfl okX12_common stX12_common lkX12_461 rfl (Nat.le_of_ble_eq_true rfl) ⟨rfl, rfl⟩ (Nat.le_of_ble_eq_true rfl) (Nat.le_of_ble_eq_true rfl) (Nat.le_of_ble_eq_true rfl) ?_
      rintro x3 _ ⟨rfl, h4⟩
      refine vc_ldiv dX12_part_32 (by omega) ?_
      refine vc_lret dX12_part_33 rfl (Nat.le_of_ble_eq_true rfl) (Nat.le_of_ble_eq_true rfl) ?_
      exact ⟨_, rfl, rfl⟩
    · refine vc_lload_n dX12_part_22 rfl ?_
      refine vc_goto dX12_part_23 ?_
      refine vc_lload_n dX12_part_27 rfl ?_
      refine vc_lload_n dX12_part_28 rfl ?_
      refine vc_cSL dX12_part_29 (sfX12_common (M := M) hB0.1  u a ) rfl okX12_common stX12_common lkX12_461 rfl (Nat.le_of_ble_eq_true rfl) ⟨rfl, rfl⟩ (Nat.le_of_ble_eq_true rfl) (Nat.le_of_ble_eq_true rfl) (Nat.le_of_ble_eq_true rfl) ?_
      rintro x5 _ ⟨rfl, h6⟩
      refine vc_ldiv dX12_part_32 (by omega) ?_
      refine vc_lret dX12_part_33 rfl (Nat.le_of_ble_eq_true rfl) (Nat.le_of_ble_eq_true rfl) ?_
      exact ⟨_, rfl, rfl⟩
  · refine vc_iload dX12_part_6 rfl ?_
    refine vc_if_eq dX12_part_8 (fun h7 => ?_) (fun h7 => ?_)
    · refine vc_lconst dX12_part_15 ?_
      refine vc_topL 0 rfl ?_
      refine vc_lret dX12_part_16 rfl (Nat.le_of_ble_eq_true rfl) (Nat.le_of_ble_eq_true rfl) ?_
      exact ⟨_, rfl, rfl⟩
    · refine vc_lconst dX12_part_11 ?_
      refine vc_topL 1 rfl ?_
      refine vc_goto dX12_part_12 ?_
      refine vc_lret dX12_part_16 rfl (Nat.le_of_ble_eq_true rfl) (Nat.le_of_ble_eq_true rfl) ?_
      exact ⟨_, rfl, rfl⟩

set_option maxRecDepth 4000 in
theorem sfX12_findProducts {l : Launch} {M : Mem} (hB : Box M)  (s : Int)  : Call l mdX12_findProducts [aR 54, aI s] M (fun q N => ∃ r : Int, q = some (aI r) ∧ BF fQ M N ∧ mI N 55 = mI M 55 ∧ 0 ≤ r ∧ r ≤ 1) := by
  have hB0 : BF fQ M M := BF.start hB
  refine Call.of [some (aR 54), some (aI s), none, none] rfl (Nat.le_of_ble_eq_true rfl) rfl ?_
  refine vc_ok (fun hoM hoS hoL => ?_)
  have hr1 : -2147483648 ≤ s ∧ s < 2147483648 := hoL 1 _ rfl
  refine vc_iload_n dX12_findProducts_0 rfl ?_
  refine vc_iconst dX12_findProducts_1 rfl ?_
  refine vc_iconst dX12_findProducts_2 rfl ?_
  refine vc_aload_n dX12_findProducts_3 rfl ?_
  refine vc_getR dX12_findProducts_4 flX12_7 (s_54 hB0.1.1) rfl (r_54_0 hB0.1.1) ?_
  refine vc_iconst dX12_findProducts_7 rfl ?_
  refine vc_iaload dX12_findProducts_8 (s_55 hB0.1.1) (by omega) (by omega) ?_
  refine vc_topI (mI M 55 3) rfl ?_
  have k1 : 0 ≤ mI M 55 3 ∧ mI M 55 3 ≤ 8 := b55_3 (M := M) hB0.1
  refine vc_ishl dX12_findProducts_9 ?_
  refine vc_iconst dX12_findProducts_10 rfl ?_
  refine vc_isub dX12_findProducts_11 ?_
  refine vc_cSI dX12_findProducts_12 (sfX12_isIn (M := M) hB0.1  s 1 (wI ((shlI 1 (mI M 55 3)) - 1)) ) rfl okX12_isIn stX12_isIn lkX12_83 rfl (Nat.le_of_ble_eq_true rfl) ⟨rfl, rfl⟩ (Nat.le_of_ble_eq_true rfl) (Nat.le_of_ble_eq_true rfl) (Nat.le_of_ble_eq_true rfl) ?_
  rintro x3 _ ⟨rfl, h4, h5, h6⟩
  refine vc_if_eq dX12_findProducts_15 (fun h7 => ?_) (fun h7 => ?_)
  · refine vc_iconst dX12_findProducts_26 rfl ?_
    refine vc_zret dX12_findProducts_27 rfl (by first | decide | omega) (Nat.le_of_ble_eq_true rfl) (Nat.le_of_ble_eq_true rfl) ?_
    exact ⟨_, rfl, hB0, rfl, by omega, by omega⟩
  · refine vc_iload_n dX12_findProducts_18 rfl ?_
    refine vc_cSI dX12_findProducts_19 (sfX12_bits (M := M) hB0.1  s ) rfl okX12_bits stX12_bits lkX12_465 rfl (Nat.le_of_ble_eq_true rfl) ⟨rfl, rfl⟩ (Nat.le_of_ble_eq_true rfl) (Nat.le_of_ble_eq_true rfl) (Nat.le_of_ble_eq_true rfl) ?_
    rintro x8 _ rfl
    refine vc_iconst dX12_findProducts_22 rfl ?_
    refine vc_icmp_le dX12_findProducts_23 (fun h9 => ?_) (fun h9 => ?_)
    · refine vc_iconst dX12_findProducts_28 rfl ?_
      refine vc_istore_n dX12_findProducts_29 (by decide) rfl (show _ = [some (aR 54), some (aI s), some (aI 0), none] from rfl) ?_
      have lp30 : ∀ (n30 : Nat) (Mq30 : Mem) (v2 : Int), (BF fQ M Mq30) → (mI Mq30 55 = mI M 55) → (0 ≤ v2) → (v2 ≤ 16) → (16 - v2).toNat < n30 → VC l mdX12_findProducts 30 [some (aR 54), some (aI s), some (aI v2), none] [] Mq30 0 0 (fun q N => ∃ r : Int, q = some (aI r) ∧ BF fQ M N ∧ mI N 55 = mI M 55 ∧ 0 ≤ r ∧ r ≤ 1) := by
        intro n30
        induction n30 with
        | zero => intro Mq30 v2 hQ30 kp30_55 g30_2a g30_2b hm30; exact absurd hm30 (Nat.not_lt_zero _)
        | succ n30 ih30 =>
          intro Mq30 v2 hQ30 kp30_55 g30_2a g30_2b hm30
          refine vc_iload_n dX12_findProducts_30 rfl ?_
          refine vc_bipush dX12_findProducts_31 rfl ?_
          refine vc_icmp_ge dX12_findProducts_33 (fun h10 => ?_) (fun h10 => ?_)
          · refine vc_iconst dX12_findProducts_63 rfl ?_
            refine vc_istore_n dX12_findProducts_64 (by decide) rfl (show _ = [some (aR 54), some (aI s), some (aI 0), none] from rfl) ?_
            have lp65 : ∀ (n65 : Nat) (Mq65 : Mem) (v2i : Int), (BF fQ M Mq65) → (mI Mq65 55 = mI M 55) → (0 ≤ v2i) → (v2i ≤ 8) → (8 - v2i).toNat < n65 → VC l mdX12_findProducts 65 [some (aR 54), some (aI s), some (aI v2i), none] [] Mq65 0 0 (fun q N => ∃ r : Int, q = some (aI r) ∧ BF fQ M N ∧ mI N 55 = mI M 55 ∧ 0 ≤ r ∧ r ≤ 1) := by
              intro n65
              induction n65 with
              | zero => intro Mq65 v2i hQ65 kp65_55 g65_2a g65_2b hm65; exact absurd hm65 (Nat.not_lt_zero _)
              | succ n65 ih65 =>
                intro Mq65 v2i hQ65 kp65_55 g65_2a g65_2b hm65
                refine vc_iload_n dX12_findProducts_65 rfl ?_
                refine vc_aload_n dX12_findProducts_66 rfl ?_
                refine vc_getR dX12_findProducts_67 flX12_7 (s_54 hQ65.1.1) rfl (r_54_0 hQ65.1.1) ?_
                refine vc_iconst dX12_findProducts_70 rfl ?_
                refine vc_iaload dX12_findProducts_71 (s_55 hQ65.1.1) (by omega) (by omega) ?_
                refine vc_topI (mI Mq65 55 3) rfl ?_
                have k11 : 0 ≤ mI Mq65 55 3 ∧ mI Mq65 55 3 ≤ 8 := b55_3 (M := Mq65) hQ65.1
                have k12 : mI Mq65 55 3 = mI M 55 3 := congrFun kp65_55 3
                refine vc_icmp_ge dX12_findProducts_72 (fun h13 => ?_) (fun h13 => ?_)
                · refine vc_aload_n dX12_findProducts_130 rfl ?_
                  refine vc_lconst dX12_findProducts_131 ?_
                  refine vc_topL 0 rfl ?_
                  refine vc_putJ dX12_findProducts_132 (plX12_468 _ rfl) (s_54 hQ65.1.1) rfl ?_
                  have kp14 : mI (sJ Mq65 54 36 0) 55 = mI M 55 := (kp_sJ kp65_55)
                  have hB15 : BF fQ M (sJ Mq65 54 36 0) := BF.J hQ65 _ _ _ rfl
                  refine vc_iconst dX12_findProducts_135 rfl ?_
                  refine vc_istore_n dX12_findProducts_136 (by decide) rfl (show _ = [some (aR 54), some (aI s), some (aI 0), none] from rfl) ?_
                  have lp137 : ∀ (n137 : Nat) (Mq137 : Mem) (v2ii : Int), (BF fQ M Mq137) → (mI Mq137 55 = mI M 55) → (0 ≤ v2ii) → (v2ii ≤ 16) → (16 - v2ii).toNat < n137 → VC l mdX12_findProducts 137 [some (aR 54), none, some (aI v2ii), none] [] Mq137 0 0 (fun q N => ∃ r : Int, q = some (aI r) ∧ BF fQ M N ∧ mI N 55 = mI M 55 ∧ 0 ≤ r ∧ r ≤ 1) := by
                    intro n137
                    induction n137 with
                    | zero => intro Mq137 v2ii hQ137 kp137_55 g137_2a g137_2b hm137; exact absurd hm137 (Nat.not_lt_zero _)
                    | succ n137 ih137 =>
                      intro Mq137 v2ii hQ137 kp137_55 g137_2a g137_2b hm137
                      refine vc_iload_n dX12_findProducts_137 rfl ?_
                      refine vc_aload_n dX12_findProducts_138 rfl ?_
                      refine vc_getR dX12_findProducts_139 flX12_7 (s_54 hQ137.1.1) rfl (r_54_0 hQ137.1.1) ?_
                      refine vc_iconst dX12_findProducts_142 rfl ?_
                      refine vc_iaload dX12_findProducts_143 (s_55 hQ137.1.1) (by omega) (by omega) ?_
                      refine vc_topI (mI Mq137 55 0) rfl ?_
                      have k16 : 0 ≤ mI Mq137 55 0 ∧ mI Mq137 55 0 ≤ 16 := b55_0 (M := Mq137) hQ137.1
                      have k17 : mI Mq137 55 0 = mI M 55 0 := congrFun kp137_55 0
                      refine vc_icmp_ge dX12_findProducts_144 (fun h18 => ?_) (fun h18 => ?_)
                      · refine vc_iconst dX12_findProducts_168 rfl ?_
                        refine vc_zret dX12_findProducts_169 rfl (by first | decide | omega) (Nat.le_of_ble_eq_true rfl) (Nat.le_of_ble_eq_true rfl) ?_
                        exact ⟨_, rfl, hQ137, kp137_55, by omega, by omega⟩
                      · refine vc_aload_n dX12_findProducts_147 rfl ?_
                        refine vc_dup dX12_findProducts_148 rfl ?_
                        refine vc_getJ dX12_findProducts_149 flX12_468 (s_54 hQ137.1.1) rfl ?_
                        refine vc_aload_n dX12_findProducts_152 rfl ?_
                        refine vc_getR dX12_findProducts_153 flX12_51 (s_54 hQ137.1.1) rfl (r_54_35 hQ137.1.1) ?_
                        refine vc_iload_n dX12_findProducts_156 rfl ?_
                        refine vc_laload dX12_findProducts_157 (s_66 hQ137.1.1) (by omega) (by omega) ?_
                        refine vc_ladd dX12_findProducts_158 ?_
                        refine vc_putJ dX12_findProducts_159 (plX12_468 _ rfl) (s_54 hQ137.1.1) rfl ?_
                        have kp19 : mI (sJ Mq137 54 36 (wL ((mJ Mq137 54 36) + (mJ Mq137 66 v2ii.toNat)))) 55 = mI M 55 := (kp_sJ kp137_55)
                        have hB20 : BF fQ M (sJ Mq137 54 36 (wL ((mJ Mq137 54 36) + (mJ Mq137 66 v2ii.toNat)))) := BF.J hQ137 _ _ _ rfl
                        refine vc_iincE dX12_findProducts_162 rfl (by omega) (by omega) (by decide) rfl (show _ = [some (aR 54), none, some (aI (v2ii + 1)), none] from rfl) ?_
                        refine vc_goto dX12_findProducts_165 ?_
                        exact ih137 (sJ Mq137 54 36 (wL ((mJ Mq137 54 36) + (mJ Mq137 66 v2ii.toNat)))) (v2ii + 1) hB20 kp19 (by omega) (by omega) (by omega)
                  refine vc_less [some (aR 54), none, some (aI 0), none] (lessL_keep (lessL_drop (lessL_keep (lessL_keep (lessL_nil))))) ?_
                  exact lp137 _ (sJ Mq65 54 36 0) 0 hB15 kp14 (by omega) (by omega) (Nat.lt_succ_self _)
                · refine vc_iload_n dX12_findProducts_75 rfl ?_
                  refine vc_iload_n dX12_findProducts_76 rfl ?_
                  refine vc_cSI dX12_findProducts_77 (sfX12_has (M := Mq65) hQ65.1  s v2i ) rfl okX12_has stX12_has lkX12_268 rfl (Nat.le_of_ble_eq_true rfl) ⟨rfl, rfl⟩ (Nat.le_of_ble_eq_true rfl) (Nat.le_of_ble_eq_true rfl) (Nat.le_of_ble_eq_true rfl) ?_
                  rintro x21 _ ⟨rfl, h22, h23⟩
                  refine vc_if_ne dX12_findProducts_80 (fun h24 => ?_) (fun h24 => ?_)
                  · refine vc_aload_n dX12_findProducts_86 rfl ?_
                    refine vc_iload_n dX12_findProducts_87 rfl ?_
                    refine vc_cVU dX12_findProducts_88 (sfX12_findWays (M := Mq65) hQ65.1  v2i (by omega) (by omega) (by omega)) rfl okX12_findWays viX12_findWays lkX12_455 (s_54 hQ65.1.1) cl_12 rfl (Nat.le_of_ble_eq_true rfl) ⟨rfl, rfl⟩ (Nat.le_of_ble_eq_true rfl) (Nat.le_of_ble_eq_true rfl) (Nat.le_of_ble_eq_true rfl) ?_
                    rintro M25 ⟨hB26, kp27⟩
                    have hB28 : BF fQ M M25 := BF.go hQ65 hB26.wq
                    have kp29 : mI M25 55 = mI M 55 := kp_go kp65_55 kp27
                    refine vc_iconst dX12_findProducts_91 rfl ?_
                    refine vc_istore_n dX12_findProducts_92 (by decide) rfl (show _ = [some (aR 54), some (aI s), some (aI v2i), some (aI 0)] from rfl) ?_
                    have lp93 : ∀ (n93 : Nat) (Mq93 : Mem) (v3 : Int), (BF fQ M Mq93) → (mI Mq93 55 = mI M 55) → (0 ≤ v3) → (v3 ≤ 16) → (16 - v3).toNat < n93 → VC l mdX12_findProducts 93 [some (aR 54), some (aI s), some (aI v2i), some (aI v3)] [] Mq93 0 0 (fun q N => ∃ r : Int, q = some (aI r) ∧ BF fQ M N ∧ mI N 55 = mI M 55 ∧ 0 ≤ r ∧ r ≤ 1) := by
                      intro n93
                      induction n93 with
                      | zero => intro Mq93 v3 hQ93 kp93_55 g93_3a g93_3b hm93; exact absurd hm93 (Nat.not_lt_zero _)
                      | succ n93 ih93 =>
                        intro Mq93 v3 hQ93 kp93_55 g93_3a g93_3b hm93
                        refine vc_iload_n dX12_findProducts_93 rfl ?_
                        refine vc_aload_n dX12_findProducts_94 rfl ?_
                        refine vc_getR dX12_findProducts_95 flX12_7 (s_54 hQ93.1.1) rfl (r_54_0 hQ93.1.1) ?_
                        refine vc_iconst dX12_findProducts_98 rfl ?_
                        refine vc_iaload dX12_findProducts_99 (s_55 hQ93.1.1) (by omega) (by omega) ?_
                        refine vc_topI (mI Mq93 55 0) rfl ?_
                        have k30 : 0 ≤ mI Mq93 55 0 ∧ mI Mq93 55 0 ≤ 16 := b55_0 (M := Mq93) hQ93.1
                        have k31 : mI Mq93 55 0 = mI M 55 0 := congrFun kp93_55 0
                        refine vc_icmp_ge dX12_findProducts_100 (fun h32 => ?_) (fun h32 => ?_)
                        · refine vc_iincE dX12_findProducts_124 rfl (by omega) (by omega) (by decide) rfl (show _ = [some (aR 54), some (aI s), some (aI (v2i + 1)), some (aI v3)] from rfl) ?_
                          refine vc_goto dX12_findProducts_127 ?_
                          refine vc_less [some (aR 54), some (aI s), some (aI (v2i + 1)), none] (lessL_keep (lessL_keep (lessL_keep (lessL_drop (lessL_nil))))) ?_
                          exact ih65 Mq93 (v2i + 1) hQ93 kp93_55 (by omega) (by omega) (by omega)
                        · refine vc_aload_n dX12_findProducts_103 rfl ?_
                          refine vc_getR dX12_findProducts_104 flX12_51 (s_54 hQ93.1.1) rfl (r_54_35 hQ93.1.1) ?_
                          refine vc_iload_n dX12_findProducts_107 rfl ?_
                          refine vc_dup2 dX12_findProducts_108 rfl rfl ?_
                          refine vc_laload dX12_findProducts_109 (s_66 hQ93.1.1) (by omega) (by omega) ?_
                          refine vc_aload_n dX12_findProducts_110 rfl ?_
                          refine vc_iload_n dX12_findProducts_111 rfl ?_
                          refine vc_cVI dX12_findProducts_112 (sfX12_weightTo (M := Mq93) hQ93.1  v3 ) rfl okX12_weightTo viX12_weightTo lkX12_458 (s_54 hQ93.1.1) cl_12 rfl (Nat.le_of_ble_eq_true rfl) ⟨rfl, rfl⟩ (Nat.le_of_ble_eq_true rfl) (Nat.le_of_ble_eq_true rfl) (Nat.le_of_ble_eq_true rfl) ?_
                          rintro x33 _ rfl
                          refine vc_i2l dX12_findProducts_115 ?_
                          refine vc_lmul dX12_findProducts_116 ?_
                          refine vc_lastore dX12_findProducts_117 (s_66 hQ93.1.1) (by omega) (by omega) ?_
                          have kp34 : mI (sJ Mq93 66 v3.toNat (wL ((mJ Mq93 66 v3.toNat) * x33))) 55 = mI M 55 := (kp_sJ kp93_55)
                          have hB35 : BF fQ M (sJ Mq93 66 v3.toNat (wL ((mJ Mq93 66 v3.toNat) * x33))) := BF.J hQ93 _ _ _ rfl
                          refine vc_iincE dX12_findProducts_118 rfl (by omega) (by omega) (by decide) rfl (show _ = [some (aR 54), some (aI s), some (aI v2i), some (aI (v3 + 1))] from rfl) ?_
                          refine vc_goto dX12_findProducts_121 ?_
                          exact ih93 (sJ Mq93 66 v3.toNat (wL ((mJ Mq93 66 v3.toNat) * x33))) (v3 + 1) hB35 kp34 (by omega) (by omega) (by omega)
                    exact lp93 _ M25 0 hB28 kp29 (by omega) (by omega) (Nat.lt_succ_self _)
                  · refine vc_goto dX12_findProducts_83 ?_
                    refine vc_iincE dX12_findProducts_124 rfl (by omega) (by omega) (by decide) rfl (show _ = [some (aR 54), some (aI s), some (aI (v2i + 1)), none] from rfl) ?_
                    refine vc_goto dX12_findProducts_127 ?_
                    exact ih65 Mq65 (v2i + 1) hQ65 kp65_55 (by omega) (by omega) (by omega)
            exact lp65 _ Mq30 0 hQ30 kp30_55 (by omega) (by omega) (Nat.lt_succ_self _)
          · refine vc_aload_n dX12_findProducts_36 rfl ?_
            refine vc_getR dX12_findProducts_37 flX12_51 (s_54 hQ30.1.1) rfl (r_54_35 hQ30.1.1) ?_
            refine vc_iload_n dX12_findProducts_40 rfl ?_
            refine vc_iload_n dX12_findProducts_41 rfl ?_
            refine vc_aload_n dX12_findProducts_42 rfl ?_
            refine vc_getR dX12_findProducts_43 flX12_7 (s_54 hQ30.1.1) rfl (r_54_0 hQ30.1.1) ?_
            refine vc_iconst dX12_findProducts_46 rfl ?_
            refine vc_iaload dX12_findProducts_47 (s_55 hQ30.1.1) (by omega) (by omega) ?_
            refine vc_topI (mI Mq30 55 0) rfl ?_
            have k36 : 0 ≤ mI Mq30 55 0 ∧ mI Mq30 55 0 ≤ 16 := b55_0 (M := Mq30) hQ30.1
            have k37 : mI Mq30 55 0 = mI M 55 0 := congrFun kp30_55 0
            refine vc_icmp_ge dX12_findProducts_48 (fun h38 => ?_) (fun h38 => ?_)
            · refine vc_lconst dX12_findProducts_55 ?_
              refine vc_topL 0 rfl ?_
              refine vc_lastore dX12_findProducts_56 (s_66 hQ30.1.1) (by omega) (by omega) ?_
              have kp39 : mI (sJ Mq30 66 v2.toNat 0) 55 = mI M 55 := (kp_sJ kp30_55)
              have hB40 : BF fQ M (sJ Mq30 66 v2.toNat 0) := BF.J hQ30 _ _ _ rfl
              refine vc_iincE dX12_findProducts_57 rfl (by omega) (by omega) (by decide) rfl (show _ = [some (aR 54), some (aI s), some (aI (v2 + 1)), none] from rfl) ?_
              refine vc_goto dX12_findProducts_60 ?_
              exact ih30 (sJ Mq30 66 v2.toNat 0) (v2 + 1) hB40 kp39 (by omega) (by omega) (by omega)
            · refine vc_lconst dX12_findProducts_51 ?_
              refine vc_topL 1 rfl ?_
              refine vc_goto dX12_findProducts_52 ?_
              refine vc_lastore dX12_findProducts_56 (s_66 hQ30.1.1) (by omega) (by omega) ?_
              have kp41 : mI (sJ Mq30 66 v2.toNat 1) 55 = mI M 55 := (kp_sJ kp30_55)
              have hB42 : BF fQ M (sJ Mq30 66 v2.toNat 1) := BF.J hQ30 _ _ _ rfl
              refine vc_iincE dX12_findProducts_57 rfl (by omega) (by omega) (by decide) rfl (show _ = [some (aR 54), some (aI s), some (aI (v2 + 1)), none] from rfl) ?_
              refine vc_goto dX12_findProducts_60 ?_
              exact ih30 (sJ Mq30 66 v2.toNat 1) (v2 + 1) hB42 kp41 (by omega) (by omega) (by omega)
      exact lp30 _ M 0 hB0 rfl (by omega) (by omega) (Nat.lt_succ_self _)
    · refine vc_iconst dX12_findProducts_26 rfl ?_
      refine vc_zret dX12_findProducts_27 rfl (by first | decide | omega) (Nat.le_of_ble_eq_true rfl) (Nat.le_of_ble_eq_true rfl) ?_
      exact ⟨_, rfl, hB0, rfl, by omega, by omega⟩

set_option maxRecDepth 4000 in
theorem sfX12_byAll {l : Launch} {M : Mem} (hB : Box M)  (t : Int) (c : Int) (low : Int)  : Call l mdX12_byAll [aR 54, aI t, aI c, aI low] M (fun q N => ∃ r : Int, q = some (aL r) ∧ BF fQ M N) := by
  have hB0 : BF fQ M M := BF.start hB
  refine Call.of [some (aR 54), some (aI t), some (aI c), some (aI low)] rfl (Nat.le_of_ble_eq_true rfl) rfl ?_
  refine vc_ok (fun hoM hoS hoL => ?_)
  have hr1 : -2147483648 ≤ t ∧ t < 2147483648 := hoL 1 _ rfl
  have hr2 : -2147483648 ≤ c ∧ c < 2147483648 := hoL 2 _ rfl
  have hr3 : -2147483648 ≤ low ∧ low < 2147483648 := hoL 3 _ rfl
  refine vc_aload_n dX12_byAll_0 rfl ?_
  refine vc_iload_n dX12_byAll_1 rfl ?_
  refine vc_cVI dX12_byAll_2 (sfX12_isCorner (M := M) hB0.1  c ) rfl okX12_isCorner viX12_isCorner lkX12_87 (s_54 hB0.1.1) cl_12 rfl (Nat.le_of_ble_eq_true rfl) ⟨rfl, rfl⟩ (Nat.le_of_ble_eq_true rfl) (Nat.le_of_ble_eq_true rfl) (Nat.le_of_ble_eq_true rfl) ?_
  rintro x1 _ ⟨rfl, h2, h3, h4⟩
  refine vc_if_eq dX12_byAll_5 (fun h5 => ?_) (fun h5 => ?_)
  · refine vc_ldc2 dX12_byAll_16 rfl klX12_474 ?_
    refine vc_lret dX12_byAll_19 rfl (Nat.le_of_ble_eq_true rfl) (Nat.le_of_ble_eq_true rfl) ?_
    exact ⟨_, rfl, hB0⟩
  · refine vc_aload_n dX12_byAll_8 rfl ?_
    refine vc_iload_n dX12_byAll_9 rfl ?_
    refine vc_cVI dX12_byAll_10 (sfX12_findProducts (M := M) hB0.1  t ) rfl okX12_findProducts viX12_findProducts lkX12_471 (s_54 hB0.1.1) cl_12 rfl (Nat.le_of_ble_eq_true rfl) ⟨rfl, rfl⟩ (Nat.le_of_ble_eq_true rfl) (Nat.le_of_ble_eq_true rfl) (Nat.le_of_ble_eq_true rfl) ?_
    rintro x6 M7 ⟨hB8, kp9, h10, h11⟩
    have hB12 : BF fQ M M7 := BF.go hB0 hB8
    refine vc_if_ne dX12_byAll_13 (fun h13 => ?_) (fun h13 => ?_)
    · refine vc_aload_n dX12_byAll_20 rfl ?_
      refine vc_getR dX12_byAll_21 flX12_51 (s_54 hB12.1.1) rfl (r_54_35 hB12.1.1) ?_
      refine vc_iload_n dX12_byAll_24 rfl ?_
      refine vc_laload dX12_byAll_25 (s_66 hB12.1.1) (by omega) (by omega) ?_
      refine vc_aload_n dX12_byAll_26 rfl ?_
      refine vc_getJ dX12_byAll_27 flX12_468 (s_54 hB12.1.1) rfl ?_
      refine vc_iload_n dX12_byAll_30 rfl ?_
      refine vc_cSL dX12_byAll_31 (sfX12_part (M := M7) hB12.1  (mJ M7 66 c.toNat) (mJ M7 54 36) low ) rfl okX12_part stX12_part lkX12_476 rfl (Nat.le_of_ble_eq_true rfl) ⟨rfl, rfl⟩ (Nat.le_of_ble_eq_true rfl) (Nat.le_of_ble_eq_true rfl) (Nat.le_of_ble_eq_true rfl) ?_
      rintro x14 _ rfl
      refine vc_lret dX12_byAll_34 rfl (Nat.le_of_ble_eq_true rfl) (Nat.le_of_ble_eq_true rfl) ?_
      exact ⟨_, rfl, hB12⟩
    · refine vc_ldc2 dX12_byAll_16 rfl klX12_474 ?_
      refine vc_lret dX12_byAll_19 rfl (Nat.le_of_ble_eq_true rfl) (Nat.le_of_ble_eq_true rfl) ?_
      exact ⟨_, rfl, hB12⟩

set_option maxRecDepth 4000 in
theorem sfX12_findLeads {l : Launch} {M : Mem} (hB : Box M)    : Call l mdX12_findLeads [aR 54] M (fun q N => q = none ∧ BF fQ M N ∧ mI N 55 = mI M 55) := by
  have hB0 : BF fQ M M := BF.start hB
  refine Call.of [some (aR 54), none, none] rfl (Nat.le_of_ble_eq_true rfl) rfl ?_
  refine vc_iconst dX12_findLeads_0 rfl ?_
  refine vc_istore_n dX12_findLeads_1 (by decide) rfl (show _ = [some (aR 54), some (aI 0), none] from rfl) ?_
  have lp2 : ∀ (n2 : Nat) (Mq2 : Mem) (v1 : Int), (BF fQ M Mq2) → (mI Mq2 55 = mI M 55) → (0 ≤ v1) → (v1 ≤ 8) → (8 - v1).toNat < n2 → VC l mdX12_findLeads 2 [some (aR 54), some (aI v1), none] [] Mq2 0 0 (fun q N => q = none ∧ BF fQ M N ∧ mI N 55 = mI M 55) := by
    intro n2
    induction n2 with
    | zero => intro Mq2 v1 hQ2 kp2_55 g2_1a g2_1b hm2; exact absurd hm2 (Nat.not_lt_zero _)
    | succ n2 ih2 =>
      intro Mq2 v1 hQ2 kp2_55 g2_1a g2_1b hm2
      refine vc_iload_n dX12_findLeads_2 rfl ?_
      refine vc_aload_n dX12_findLeads_3 rfl ?_
      refine vc_getR dX12_findLeads_4 flX12_7 (s_54 hQ2.1.1) rfl (r_54_0 hQ2.1.1) ?_
      refine vc_iconst dX12_findLeads_7 rfl ?_
      refine vc_iaload dX12_findLeads_8 (s_55 hQ2.1.1) (by omega) (by omega) ?_
      refine vc_topI (mI Mq2 55 3) rfl ?_
      have k1 : 0 ≤ mI Mq2 55 3 ∧ mI Mq2 55 3 ≤ 8 := b55_3 (M := Mq2) hQ2.1
      have k2 : mI Mq2 55 3 = mI M 55 3 := congrFun kp2_55 3
      refine vc_icmp_ge dX12_findLeads_9 (fun h3 => ?_) (fun h3 => ?_)
      · refine vc_vret dX12_findLeads_84 rfl (Nat.le_of_ble_eq_true rfl) (Nat.le_of_ble_eq_true rfl) ?_
        exact ⟨rfl, hQ2, kp2_55⟩
      · refine vc_aload_n dX12_findLeads_12 rfl ?_
        refine vc_iload_n dX12_findLeads_13 rfl ?_
        refine vc_cVU dX12_findLeads_14 (sfX12_findWays (M := Mq2) hQ2.1  v1 (by omega) (by omega) (by omega)) rfl okX12_findWays viX12_findWays lkX12_455 (s_54 hQ2.1.1) cl_12 rfl (Nat.le_of_ble_eq_true rfl) ⟨rfl, rfl⟩ (Nat.le_of_ble_eq_true rfl) (Nat.le_of_ble_eq_true rfl) (Nat.le_of_ble_eq_true rfl) ?_
        rintro M4 ⟨hB5, kp6⟩
        have hB7 : BF fQ M M4 := BF.go hQ2 hB5.wq
        have kp8 : mI M4 55 = mI M 55 := kp_go kp2_55 kp6
        refine vc_aload_n dX12_findLeads_17 rfl ?_
        refine vc_getR dX12_findLeads_18 flX12_54 (s_54 hB7.1.1) rfl (r_54_37 hB7.1.1) ?_
        refine vc_iload_n dX12_findLeads_21 rfl ?_
        refine vc_iconst dX12_findLeads_22 rfl ?_
        refine vc_iastore dX12_findLeads_23 (s_67 hB7.1.1) (by omega) (by omega) ?_
        have kp9 : mI (sI M4 67 v1.toNat 0) 55 = mI M 55 := (kp_sI kp8 rfl)
        have hB10 : BF fQ M (sI M4 67 v1.toNat 0) := BF.w67 hB7 (fun _ => rfl) _
        refine vc_iconst dX12_findLeads_24 rfl ?_
        refine vc_istore_n dX12_findLeads_25 (by decide) rfl (show _ = [some (aR 54), some (aI v1), some (aI 0)] from rfl) ?_
        have lp26 : ∀ (n26 : Nat) (Mq26 : Mem) (v2 : Int), (BF fQ M Mq26) → (mI Mq26 55 = mI M 55) → (0 ≤ v2) → (v2 ≤ 8) → (8 - v2).toNat < n26 → VC l mdX12_findLeads 26 [some (aR 54), some (aI v1), some (aI v2)] [] Mq26 0 0 (fun q N => q = none ∧ BF fQ M N ∧ mI N 55 = mI M 55) := by
          intro n26
          induction n26 with
          | zero => intro Mq26 v2 hQ26 kp26_55 g26_2a g26_2b hm26; exact absurd hm26 (Nat.not_lt_zero _)
          | succ n26 ih26 =>
            intro Mq26 v2 hQ26 kp26_55 g26_2a g26_2b hm26
            refine vc_iload_n dX12_findLeads_26 rfl ?_
            refine vc_bipush dX12_findLeads_27 rfl ?_
            refine vc_icmp_ge dX12_findLeads_29 (fun h11 => ?_) (fun h11 => ?_)
            · refine vc_iincE dX12_findLeads_78 rfl (by omega) (by omega) (by decide) rfl (show _ = [some (aR 54), some (aI (v1 + 1)), some (aI v2)] from rfl) ?_
              refine vc_goto dX12_findLeads_81 ?_
              refine vc_less [some (aR 54), some (aI (v1 + 1)), none] (lessL_keep (lessL_keep (lessL_drop (lessL_nil)))) ?_
              exact ih2 Mq26 (v1 + 1) hQ26 kp26_55 (by omega) (by omega) (by omega)
            · refine vc_aload_n dX12_findLeads_32 rfl ?_
              refine vc_getR dX12_findLeads_33 flX12_54 (s_54 hQ26.1.1) rfl (r_54_37 hQ26.1.1) ?_
              refine vc_iload_n dX12_findLeads_36 rfl ?_
              refine vc_dup2 dX12_findLeads_37 rfl rfl ?_
              refine vc_iaload dX12_findLeads_38 (s_67 hQ26.1.1) (by omega) (by omega) ?_
              refine vc_aload_n dX12_findLeads_39 rfl ?_
              refine vc_getR dX12_findLeads_40 flX12_45 (s_54 hQ26.1.1) rfl (r_54_33 hQ26.1.1) ?_
              refine vc_iload_n dX12_findLeads_43 rfl ?_
              refine vc_iaload dX12_findLeads_44 (s_64 hQ26.1.1) (by omega) (by omega) ?_
              refine vc_iconst dX12_findLeads_45 rfl ?_
              refine vc_icmp_eq dX12_findLeads_46 (fun h12 => ?_) (fun h12 => ?_)
              · refine vc_iconst dX12_findLeads_69 rfl ?_
                refine vc_ior dX12_findLeads_70 ?_
                refine vc_iastore dX12_findLeads_71 (s_67 hQ26.1.1) (by omega) (by omega) ?_
                have kp13 : mI (sI Mq26 67 v1.toNat (orI (mI Mq26 67 v1.toNat) 0)) 55 = mI M 55 := (kp_sI kp26_55 rfl)
                have hB14 : BF fQ M (sI Mq26 67 v1.toNat (orI (mI Mq26 67 v1.toNat) 0)) := BF.w67 hQ26 (fun _ => rfl) _
                refine vc_iincE dX12_findLeads_72 rfl (by omega) (by omega) (by decide) rfl (show _ = [some (aR 54), some (aI v1), some (aI (v2 + 1))] from rfl) ?_
                refine vc_goto dX12_findLeads_75 ?_
                exact ih26 (sI Mq26 67 v1.toNat (orI (mI Mq26 67 v1.toNat) 0)) (v2 + 1) hB14 kp13 (by omega) (by omega) (by omega)
              · refine vc_aload_n dX12_findLeads_49 rfl ?_
                refine vc_getR dX12_findLeads_50 flX12_48 (s_54 hQ26.1.1) rfl (r_54_34 hQ26.1.1) ?_
                refine vc_iload_n dX12_findLeads_53 rfl ?_
                refine vc_iaload dX12_findLeads_54 (s_65 hQ26.1.1) (by omega) (by omega) ?_
                refine vc_if_le dX12_findLeads_55 (fun h15 => ?_) (fun h15 => ?_)
                · refine vc_iconst dX12_findLeads_69 rfl ?_
                  refine vc_ior dX12_findLeads_70 ?_
                  refine vc_iastore dX12_findLeads_71 (s_67 hQ26.1.1) (by omega) (by omega) ?_
                  have kp16 : mI (sI Mq26 67 v1.toNat (orI (mI Mq26 67 v1.toNat) 0)) 55 = mI M 55 := (kp_sI kp26_55 rfl)
                  have hB17 : BF fQ M (sI Mq26 67 v1.toNat (orI (mI Mq26 67 v1.toNat) 0)) := BF.w67 hQ26 (fun _ => rfl) _
                  refine vc_iincE dX12_findLeads_72 rfl (by omega) (by omega) (by decide) rfl (show _ = [some (aR 54), some (aI v1), some (aI (v2 + 1))] from rfl) ?_
                  refine vc_goto dX12_findLeads_75 ?_
                  exact ih26 (sI Mq26 67 v1.toNat (orI (mI Mq26 67 v1.toNat) 0)) (v2 + 1) hB17 kp16 (by omega) (by omega) (by omega)
                · refine vc_iconst dX12_findLeads_58 rfl ?_
                  refine vc_aload_n dX12_findLeads_59 rfl ?_
                  refine vc_getR dX12_findLeads_60 flX12_45 (s_54 hQ26.1.1) rfl (r_54_33 hQ26.1.1) ?_
                  refine vc_iload_n dX12_findLeads_63 rfl ?_
                  refine vc_iaload dX12_findLeads_64 (s_64 hQ26.1.1) (by omega) (by omega) ?_
                  refine vc_ishl dX12_findLeads_65 ?_
                  refine vc_goto dX12_findLeads_66 ?_
                  refine vc_ior dX12_findLeads_70 ?_
                  refine vc_iastore dX12_findLeads_71 (s_67 hQ26.1.1) (by omega) (by omega) ?_
                  have kp18 : mI (sI Mq26 67 v1.toNat (orI (mI Mq26 67 v1.toNat) (shlI 1 (mI Mq26 64 v2.toNat)))) 55 = mI M 55 := (kp_sI kp26_55 rfl)
                  have hB19 : BF fQ M (sI Mq26 67 v1.toNat (orI (mI Mq26 67 v1.toNat) (shlI 1 (mI Mq26 64 v2.toNat)))) := BF.w67 hQ26 (fun _ => rfl) _
                  refine vc_iincE dX12_findLeads_72 rfl (by omega) (by omega) (by decide) rfl (show _ = [some (aR 54), some (aI v1), some (aI (v2 + 1))] from rfl) ?_
                  refine vc_goto dX12_findLeads_75 ?_
                  exact ih26 (sI Mq26 67 v1.toNat (orI (mI Mq26 67 v1.toNat) (shlI 1 (mI Mq26 64 v2.toNat)))) (v2 + 1) hB19 kp18 (by omega) (by omega) (by omega)
        exact lp26 _ (sI M4 67 v1.toNat 0) 0 hB10 kp9 (by omega) (by omega) (Nat.lt_succ_self _)
  exact lp2 _ M 0 hB0 rfl (by omega) (by omega) (Nat.lt_succ_self _)

set_option maxRecDepth 4000 in
theorem sfX12_clash {l : Launch} {M : Mem} (hB : Box M)  (i : Int)  : Call l mdX12_clash [aR 54, aI i] M (fun q N => ∃ r : Int, q = some (aI r) ∧ BF fQ M N) := by
  have hB0 : BF fQ M M := BF.start hB
  refine Call.of [some (aR 54), some (aI i), none, none, none] rfl (Nat.le_of_ble_eq_true rfl) rfl ?_
  refine vc_ok (fun hoM hoS hoL => ?_)
  have hr1 : -2147483648 ≤ i ∧ i < 2147483648 := hoL 1 _ rfl
  refine vc_iload_n dX12_clash_0 rfl ?_
  refine vc_iconst dX12_clash_1 rfl ?_
  refine vc_icmp_ge dX12_clash_2 (fun h1 => ?_) (fun h1 => ?_)
  · refine vc_aload_n dX12_clash_7 rfl ?_
    refine vc_cVU dX12_clash_8 (sfX12_findLeads (M := M) hB0.1   ) rfl okX12_findLeads viX12_findLeads lkX12_480 (s_54 hB0.1.1) cl_12 rfl (Nat.le_of_ble_eq_true rfl) ⟨rfl, rfl⟩ (Nat.le_of_ble_eq_true rfl) (Nat.le_of_ble_eq_true rfl) (Nat.le_of_ble_eq_true rfl) ?_
    rintro M2 ⟨hB3, kp4⟩
    have hB5 : BF fQ M M2 := BF.go hB0 hB3
    refine vc_iconst dX12_clash_11 rfl ?_
    refine vc_istore_n dX12_clash_12 (by decide) rfl (show _ = [some (aR 54), some (aI i), some (aI 0), none, none] from rfl) ?_
    refine vc_iconst dX12_clash_13 rfl ?_
    refine vc_istore_n dX12_clash_14 (by decide) rfl (show _ = [some (aR 54), some (aI i), some (aI 0), some (aI 0), none] from rfl) ?_
    have lp15 : ∀ (n15 : Nat) (v2 : Int) (v3 : Int), (0 ≤ v3) → (v3 ≤ 8) → (8 - v3).toNat < n15 → VC l mdX12_clash 15 [some (aR 54), some (aI i), some (aI v2), some (aI v3), none] [] M2 0 0 (fun q N => ∃ r : Int, q = some (aI r) ∧ BF fQ M N) := by
      intro n15
      induction n15 with
      | zero => intro v2 v3 g15_3a g15_3b hm15; exact absurd hm15 (Nat.not_lt_zero _)
      | succ n15 ih15 =>
        intro v2 v3 g15_3a g15_3b hm15
        refine vc_iload_n dX12_clash_15 rfl ?_
        refine vc_aload_n dX12_clash_16 rfl ?_
        refine vc_getR dX12_clash_17 flX12_7 (s_54 hB5.1.1) rfl (r_54_0 hB5.1.1) ?_
        refine vc_iconst dX12_clash_20 rfl ?_
        refine vc_iaload dX12_clash_21 (s_55 hB5.1.1) (by omega) (by omega) ?_
        refine vc_topI (mI M2 55 3) rfl ?_
        have k6 : 0 ≤ mI M2 55 3 ∧ mI M2 55 3 ≤ 8 := b55_3 (M := M2) hB5.1
        refine vc_icmp_ge dX12_clash_22 (fun h7 => ?_) (fun h7 => ?_)
        · refine vc_iload_n dX12_clash_89 rfl ?_
          refine vc_iconst dX12_clash_90 rfl ?_
          refine vc_icmp_ne dX12_clash_91 (fun h8 => ?_) (fun h8 => ?_)
          · refine vc_iconst dX12_clash_98 rfl ?_
            refine vc_iret dX12_clash_99 rfl (Nat.le_of_ble_eq_true rfl) (Nat.le_of_ble_eq_true rfl) ?_
            exact ⟨_, rfl, hB5⟩
          · refine vc_iload_n dX12_clash_94 rfl ?_
            refine vc_goto dX12_clash_95 ?_
            refine vc_iret dX12_clash_99 rfl (Nat.le_of_ble_eq_true rfl) (Nat.le_of_ble_eq_true rfl) ?_
            exact ⟨_, rfl, hB5⟩
        · refine vc_iload_n dX12_clash_25 rfl ?_
          refine vc_iconst dX12_clash_26 rfl ?_
          refine vc_iaddE dX12_clash_27 (by omega) (by omega) ?_
          refine vc_nameI (fun x9 ex9 => ?_)
          refine vc_istore dX12_clash_28 (by decide) rfl (show _ = [some (aR 54), some (aI i), some (aI v2), some (aI v3), some (aI x9)] from rfl) ?_
          have lp30 : ∀ (n30 : Nat) (v2i : Int) (v4 : Int), (1 ≤ v4) → (v4 ≤ 8) → (8 - v4).toNat < n30 → VC l mdX12_clash 30 [some (aR 54), some (aI i), some (aI v2i), some (aI v3), some (aI v4)] [] M2 0 0 (fun q N => ∃ r : Int, q = some (aI r) ∧ BF fQ M N) := by
            intro n30
            induction n30 with
            | zero => intro v2i v4 g30_4a g30_4b hm30; exact absurd hm30 (Nat.not_lt_zero _)
            | succ n30 ih30 =>
              intro v2i v4 g30_4a g30_4b hm30
              refine vc_iload dX12_clash_30 rfl ?_
              refine vc_aload_n dX12_clash_32 rfl ?_
              refine vc_getR dX12_clash_33 flX12_7 (s_54 hB5.1.1) rfl (r_54_0 hB5.1.1) ?_
              refine vc_iconst dX12_clash_36 rfl ?_
              refine vc_iaload dX12_clash_37 (s_55 hB5.1.1) (by omega) (by omega) ?_
              refine vc_topI (mI M2 55 3) rfl ?_
              refine vc_icmp_ge dX12_clash_38 (fun h10 => ?_) (fun h10 => ?_)
              · refine vc_iincE dX12_clash_83 rfl (by omega) (by omega) (by decide) rfl (show _ = [some (aR 54), some (aI i), some (aI v2i), some (aI (v3 + 1)), some (aI v4)] from rfl) ?_
                refine vc_goto dX12_clash_86 ?_
                refine vc_less [some (aR 54), some (aI i), some (aI v2i), some (aI (v3 + 1)), none] (lessL_keep (lessL_keep (lessL_keep (lessL_keep (lessL_drop (lessL_nil)))))) ?_
                exact ih15 v2i (v3 + 1) (by omega) (by omega) (by omega)
              · refine vc_aload_n dX12_clash_41 rfl ?_
                refine vc_getR dX12_clash_42 flX12_54 (s_54 hB5.1.1) rfl (r_54_37 hB5.1.1) ?_
                refine vc_iload_n dX12_clash_45 rfl ?_
                refine vc_iaload dX12_clash_46 (s_67 hB5.1.1) (by omega) (by omega) ?_
                refine vc_aload_n dX12_clash_47 rfl ?_
                refine vc_getR dX12_clash_48 flX12_54 (s_54 hB5.1.1) rfl (r_54_37 hB5.1.1) ?_
                refine vc_iload dX12_clash_51 rfl ?_
                refine vc_iaload dX12_clash_53 (s_67 hB5.1.1) (by omega) (by omega) ?_
                refine vc_iand dX12_clash_54 ?_
                refine vc_if_eq dX12_clash_55 (fun h11 => ?_) (fun h11 => ?_)
                · refine vc_iload_n dX12_clash_61 rfl ?_
                  refine vc_iload_n dX12_clash_62 rfl ?_
                  refine vc_icmp_ne dX12_clash_63 (fun h12 => ?_) (fun h12 => ?_)
                  · refine vc_iinc dX12_clash_74 rfl (by decide) rfl (show _ = [some (aR 54), some (aI i), some (aI (wI (v2i + 1))), some (aI v3), some (aI v4)] from rfl) ?_
                    refine vc_iincE dX12_clash_77 rfl (by omega) (by omega) (by decide) rfl (show _ = [some (aR 54), some (aI i), some (aI (wI (v2i + 1))), some (aI v3), some (aI (v4 + 1))] from rfl) ?_
                    refine vc_goto dX12_clash_80 ?_
                    exact ih30 (wI (v2i + 1)) (v4 + 1) (by omega) (by omega) (by omega)
                  · refine vc_bipush dX12_clash_66 rfl ?_
                    refine vc_iload_n dX12_clash_68 rfl ?_
                    refine vc_imulE dX12_clash_69 (by omega) (by omega) ?_
                    refine vc_iload dX12_clash_70 rfl ?_
                    refine vc_iaddE dX12_clash_72 (by omega) (by omega) ?_
                    refine vc_iret dX12_clash_73 rfl (Nat.le_of_ble_eq_true rfl) (Nat.le_of_ble_eq_true rfl) ?_
                    exact ⟨_, rfl, hB5⟩
                · refine vc_goto dX12_clash_58 ?_
                  refine vc_iincE dX12_clash_77 rfl (by omega) (by omega) (by decide) rfl (show _ = [some (aR 54), some (aI i), some (aI v2i), some (aI v3), some (aI (v4 + 1))] from rfl) ?_
                  refine vc_goto dX12_clash_80 ?_
                  exact ih30 v2i (v4 + 1) (by omega) (by omega) (by omega)
          exact lp30 _ v2 x9 (by omega) (by omega) (Nat.lt_succ_self _)
    exact lp15 _ 0 0 (by omega) (by omega) (Nat.lt_succ_self _)
  · refine vc_iconst dX12_clash_5 rfl ?_
    refine vc_iret dX12_clash_6 rfl (Nat.le_of_ble_eq_true rfl) (Nat.le_of_ble_eq_true rfl) ?_
    exact ⟨_, rfl, hB0⟩

set_option maxRecDepth 4000 in
theorem sfX12_wrong {l : Launch} {M : Mem} (hB : Box M)  (t : Int) (c : Int)  : Call l mdX12_wrong [aR 54, aI t, aI c] M (fun q N => ∃ r : Int, q = some (aI r) ∧ BF fQ M N) := by
  have hB0 : BF fQ M M := BF.start hB
  refine Call.of [some (aR 54), some (aI t), some (aI c), none, none, none, none, none] rfl (Nat.le_of_ble_eq_true rfl) rfl ?_
  refine vc_ok (fun hoM hoS hoL => ?_)
  have hr1 : -2147483648 ≤ t ∧ t < 2147483648 := hoL 1 _ rfl
  have hr2 : -2147483648 ≤ c ∧ c < 2147483648 := hoL 2 _ rfl
  refine vc_iload_n dX12_wrong_0 rfl ?_
  refine vc_iconst dX12_wrong_1 rfl ?_
  refine vc_iconst dX12_wrong_2 rfl ?_
  refine vc_aload_n dX12_wrong_3 rfl ?_
  refine vc_getR dX12_wrong_4 flX12_7 (s_54 hB0.1.1) rfl (r_54_0 hB0.1.1) ?_
  refine vc_iconst dX12_wrong_7 rfl ?_
  refine vc_iaload dX12_wrong_8 (s_55 hB0.1.1) (by omega) (by omega) ?_
  refine vc_topI (mI M 55 3) rfl ?_
  have k1 : 0 ≤ mI M 55 3 ∧ mI M 55 3 ≤ 8 := b55_3 (M := M) hB0.1
  refine vc_ishl dX12_wrong_9 ?_
  refine vc_iconst dX12_wrong_10 rfl ?_
  refine vc_isub dX12_wrong_11 ?_
  refine vc_cSI dX12_wrong_12 (sfX12_isIn (M := M) hB0.1  t 1 (wI ((shlI 1 (mI M 55 3)) - 1)) ) rfl okX12_isIn stX12_isIn lkX12_83 rfl (Nat.le_of_ble_eq_true rfl) ⟨rfl, rfl⟩ (Nat.le_of_ble_eq_true rfl) (Nat.le_of_ble_eq_true rfl) (Nat.le_of_ble_eq_true rfl) ?_
  rintro x2 _ ⟨rfl, h3, h4, h5⟩
  refine vc_if_ne dX12_wrong_15 (fun h6 => ?_) (fun h6 => ?_)
  · refine vc_aload_n dX12_wrong_20 rfl ?_
    refine vc_cVU dX12_wrong_21 (sfX12_findLeads (M := M) hB0.1   ) rfl okX12_findLeads viX12_findLeads lkX12_480 (s_54 hB0.1.1) cl_12 rfl (Nat.le_of_ble_eq_true rfl) ⟨rfl, rfl⟩ (Nat.le_of_ble_eq_true rfl) (Nat.le_of_ble_eq_true rfl) (Nat.le_of_ble_eq_true rfl) ?_
    rintro M7 ⟨hB8, kp9⟩
    have hB10 : BF fQ M M7 := BF.go hB0 hB8
    refine vc_iconst dX12_wrong_24 rfl ?_
    refine vc_istore_n dX12_wrong_25 (by decide) rfl (show _ = [some (aR 54), some (aI t), some (aI c), some (aI (-1)), none, none, none, none] from rfl) ?_
    refine vc_iconst dX12_wrong_26 rfl ?_
    refine vc_istore dX12_wrong_27 (by decide) rfl (show _ = [some (aR 54), some (aI t), some (aI c), some (aI (-1)), some (aI (-1)), none, none, none] from rfl) ?_
    refine vc_iconst dX12_wrong_29 rfl ?_
    refine vc_istore dX12_wrong_30 (by decide) rfl (show _ = [some (aR 54), some (aI t), some (aI c), some (aI (-1)), some (aI (-1)), some (aI 0), none, none] from rfl) ?_
    have lp32 : ∀ (n32 : Nat) (v3 : Int) (v4 : Int) (v5 : Int), (0 ≤ v5) → (v5 ≤ 16) → (16 - v5).toNat < n32 → VC l mdX12_wrong 32 [some (aR 54), some (aI t), some (aI c), some (aI v3), some (aI v4), some (aI v5), none, none] [] M7 0 0 (fun q N => ∃ r : Int, q = some (aI r) ∧ BF fQ M N) := by
      intro n32
      induction n32 with
      | zero => intro v3 v4 v5 g32_5a g32_5b hm32; exact absurd hm32 (Nat.not_lt_zero _)
      | succ n32 ih32 =>
        intro v3 v4 v5 g32_5a g32_5b hm32
        refine vc_iload dX12_wrong_32 rfl ?_
        refine vc_aload_n dX12_wrong_34 rfl ?_
        refine vc_getR dX12_wrong_35 flX12_7 (s_54 hB10.1.1) rfl (r_54_0 hB10.1.1) ?_
        refine vc_iconst dX12_wrong_38 rfl ?_
        refine vc_iaload dX12_wrong_39 (s_55 hB10.1.1) (by omega) (by omega) ?_
        refine vc_topI (mI M7 55 0) rfl ?_
        have k11 : 0 ≤ mI M7 55 0 ∧ mI M7 55 0 ≤ 16 := b55_0 (M := M7) hB10.1
        refine vc_icmp_ge dX12_wrong_40 (fun h12 => ?_) (fun h12 => ?_)
        · refine vc_iload_n dX12_wrong_153 rfl ?_
          refine vc_if_eq dX12_wrong_154 (fun h13 => ?_) (fun h13 => ?_)
          · refine vc_iload_n dX12_wrong_162 rfl ?_
            refine vc_iret dX12_wrong_163 rfl (Nat.le_of_ble_eq_true rfl) (Nat.le_of_ble_eq_true rfl) ?_
            exact ⟨_, rfl, hB10⟩
          · refine vc_iload dX12_wrong_157 rfl ?_
            refine vc_goto dX12_wrong_159 ?_
            refine vc_iret dX12_wrong_163 rfl (Nat.le_of_ble_eq_true rfl) (Nat.le_of_ble_eq_true rfl) ?_
            exact ⟨_, rfl, hB10⟩
        · refine vc_iconst dX12_wrong_43 rfl ?_
          refine vc_istore dX12_wrong_44 (by decide) rfl (show _ = [some (aR 54), some (aI t), some (aI c), some (aI v3), some (aI v4), some (aI v5), some (aI 0), none] from rfl) ?_
          refine vc_iconst dX12_wrong_46 rfl ?_
          refine vc_istore dX12_wrong_47 (by decide) rfl (show _ = [some (aR 54), some (aI t), some (aI c), some (aI v3), some (aI v4), some (aI v5), some (aI 0), some (aI 0)] from rfl) ?_
          have lp49 : ∀ (n49 : Nat) (v6 : Int) (v7 : Int), (0 ≤ v7) → (v7 ≤ 8) → (8 - v7).toNat < n49 → VC l mdX12_wrong 49 [some (aR 54), some (aI t), some (aI c), some (aI v3), some (aI v4), some (aI v5), some (aI v6), some (aI v7)] [] M7 0 0 (fun q N => ∃ r : Int, q = some (aI r) ∧ BF fQ M N) := by
            intro n49
            induction n49 with
            | zero => intro v6 v7 g49_7a g49_7b hm49; exact absurd hm49 (Nat.not_lt_zero _)
            | succ n49 ih49 =>
              intro v6 v7 g49_7a g49_7b hm49
              refine vc_iload dX12_wrong_49 rfl ?_
              refine vc_aload_n dX12_wrong_51 rfl ?_
              refine vc_getR dX12_wrong_52 flX12_7 (s_54 hB10.1.1) rfl (r_54_0 hB10.1.1) ?_
              refine vc_iconst dX12_wrong_55 rfl ?_
              refine vc_iaload dX12_wrong_56 (s_55 hB10.1.1) (by omega) (by omega) ?_
              refine vc_topI (mI M7 55 3) rfl ?_
              have k14 : 0 ≤ mI M7 55 3 ∧ mI M7 55 3 ≤ 8 := b55_3 (M := M7) hB10.1
              refine vc_icmp_ge dX12_wrong_57 (fun h15 => ?_) (fun h15 => ?_)
              · refine vc_iload_n dX12_wrong_103 rfl ?_
                refine vc_if_lt dX12_wrong_104 (fun h16 => ?_) (fun h16 => ?_)
                · refine vc_iload dX12_wrong_140 rfl ?_
                  refine vc_istore_n dX12_wrong_142 (by decide) rfl (show _ = [some (aR 54), some (aI t), some (aI c), some (aI v6), some (aI v4), some (aI v5), some (aI v6), some (aI v7)] from rfl) ?_
                  refine vc_iload dX12_wrong_143 rfl ?_
                  refine vc_istore dX12_wrong_145 (by decide) rfl (show _ = [some (aR 54), some (aI t), some (aI c), some (aI v6), some (aI v5), some (aI v5), some (aI v6), some (aI v7)] from rfl) ?_
                  refine vc_iincE dX12_wrong_147 rfl (by omega) (by omega) (by decide) rfl (show _ = [some (aR 54), some (aI t), some (aI c), some (aI v6), some (aI v5), some (aI (v5 + 1)), some (aI v6), some (aI v7)] from rfl) ?_
                  refine vc_goto dX12_wrong_150 ?_
                  refine vc_less [some (aR 54), some (aI t), some (aI c), some (aI v6), some (aI v5), some (aI (v5 + 1)), none, none] (lessL_keep (lessL_keep (lessL_keep (lessL_keep (lessL_keep (lessL_keep (lessL_drop (lessL_drop (lessL_nil))))))))) ?_
                  exact ih32 v6 v5 (v5 + 1) (by omega) (by omega) (by omega)
                · refine vc_iload dX12_wrong_107 rfl ?_
                  refine vc_cSI dX12_wrong_109 (sfX12_bits (M := M7) hB10.1  v6 ) rfl okX12_bits stX12_bits lkX12_465 rfl (Nat.le_of_ble_eq_true rfl) ⟨rfl, rfl⟩ (Nat.le_of_ble_eq_true rfl) (Nat.le_of_ble_eq_true rfl) (Nat.le_of_ble_eq_true rfl) ?_
                  rintro x17 _ rfl
                  refine vc_iload_n dX12_wrong_112 rfl ?_
                  refine vc_cSI dX12_wrong_113 (sfX12_bits (M := M7) hB10.1  v3 ) rfl okX12_bits stX12_bits lkX12_465 rfl (Nat.le_of_ble_eq_true rfl) ⟨rfl, rfl⟩ (Nat.le_of_ble_eq_true rfl) (Nat.le_of_ble_eq_true rfl) (Nat.le_of_ble_eq_true rfl) ?_
                  rintro x18 _ rfl
                  refine vc_icmp_gt dX12_wrong_116 (fun h19 => ?_) (fun h19 => ?_)
                  · refine vc_iincE dX12_wrong_147 rfl (by omega) (by omega) (by decide) rfl (show _ = [some (aR 54), some (aI t), some (aI c), some (aI v3), some (aI v4), some (aI (v5 + 1)), some (aI v6), some (aI v7)] from rfl) ?_
                    refine vc_goto dX12_wrong_150 ?_
                    refine vc_less [some (aR 54), some (aI t), some (aI c), some (aI v3), some (aI v4), some (aI (v5 + 1)), none, none] (lessL_keep (lessL_keep (lessL_keep (lessL_keep (lessL_keep (lessL_keep (lessL_drop (lessL_drop (lessL_nil))))))))) ?_
                    exact ih32 v3 v4 (v5 + 1) (by omega) (by omega) (by omega)
                  · refine vc_iload dX12_wrong_119 rfl ?_
                    refine vc_cSI dX12_wrong_121 (sfX12_bits (M := M7) hB10.1  v6 ) rfl okX12_bits stX12_bits lkX12_465 rfl (Nat.le_of_ble_eq_true rfl) ⟨rfl, rfl⟩ (Nat.le_of_ble_eq_true rfl) (Nat.le_of_ble_eq_true rfl) (Nat.le_of_ble_eq_true rfl) ?_
                    rintro x20 _ rfl
                    refine vc_iload_n dX12_wrong_124 rfl ?_
                    refine vc_cSI dX12_wrong_125 (sfX12_bits (M := M7) hB10.1  v3 ) rfl okX12_bits stX12_bits lkX12_465 rfl (Nat.le_of_ble_eq_true rfl) ⟨rfl, rfl⟩ (Nat.le_of_ble_eq_true rfl) (Nat.le_of_ble_eq_true rfl) (Nat.le_of_ble_eq_true rfl) ?_
                    rintro x21 _ rfl
                    refine vc_icmp_ne dX12_wrong_128 (fun h22 => ?_) (fun h22 => ?_)
                    · refine vc_iload dX12_wrong_140 rfl ?_
                      refine vc_istore_n dX12_wrong_142 (by decide) rfl (show _ = [some (aR 54), some (aI t), some (aI c), some (aI v6), some (aI v4), some (aI v5), some (aI v6), some (aI v7)] from rfl) ?_
                      refine vc_iload dX12_wrong_143 rfl ?_
                      refine vc_istore dX12_wrong_145 (by decide) rfl (show _ = [some (aR 54), some (aI t), some (aI c), some (aI v6), some (aI v5), some (aI v5), some (aI v6), some (aI v7)] from rfl) ?_
                      refine vc_iincE dX12_wrong_147 rfl (by omega) (by omega) (by decide) rfl (show _ = [some (aR 54), some (aI t), some (aI c), some (aI v6), some (aI v5), some (aI (v5 + 1)), some (aI v6), some (aI v7)] from rfl) ?_
                      refine vc_goto dX12_wrong_150 ?_
                      refine vc_less [some (aR 54), some (aI t), some (aI c), some (aI v6), some (aI v5), some (aI (v5 + 1)), none, none] (lessL_keep (lessL_keep (lessL_keep (lessL_keep (lessL_keep (lessL_keep (lessL_drop (lessL_drop (lessL_nil))))))))) ?_
                      exact ih32 v6 v5 (v5 + 1) (by omega) (by omega) (by omega)
                    · refine vc_iload dX12_wrong_131 rfl ?_
                      refine vc_iload_n dX12_wrong_133 rfl ?_
                      refine vc_icmp_lt dX12_wrong_134 (fun h23 => ?_) (fun h23 => ?_)
                      · refine vc_iload dX12_wrong_140 rfl ?_
                        refine vc_istore_n dX12_wrong_142 (by decide) rfl (show _ = [some (aR 54), some (aI t), some (aI c), some (aI v6), some (aI v4), some (aI v5), some (aI v6), some (aI v7)] from rfl) ?_
                        refine vc_iload dX12_wrong_143 rfl ?_
                        refine vc_istore dX12_wrong_145 (by decide) rfl (show _ = [some (aR 54), some (aI t), some (aI c), some (aI v6), some (aI v5), some (aI v5), some (aI v6), some (aI v7)] from rfl) ?_
                        refine vc_iincE dX12_wrong_147 rfl (by omega) (by omega) (by decide) rfl (show _ = [some (aR 54), some (aI t), some (aI c), some (aI v6), some (aI v5), some (aI (v5 + 1)), some (aI v6), some (aI v7)] from rfl) ?_
                        refine vc_goto dX12_wrong_150 ?_
                        refine vc_less [some (aR 54), some (aI t), some (aI c), some (aI v6), some (aI v5), some (aI (v5 + 1)), none, none] (lessL_keep (lessL_keep (lessL_keep (lessL_keep (lessL_keep (lessL_keep (lessL_drop (lessL_drop (lessL_nil))))))))) ?_
                        exact ih32 v6 v5 (v5 + 1) (by omega) (by omega) (by omega)
                      · refine vc_goto dX12_wrong_137 ?_
                        refine vc_iincE dX12_wrong_147 rfl (by omega) (by omega) (by decide) rfl (show _ = [some (aR 54), some (aI t), some (aI c), some (aI v3), some (aI v4), some (aI (v5 + 1)), some (aI v6), some (aI v7)] from rfl) ?_
                        refine vc_goto dX12_wrong_150 ?_
                        refine vc_less [some (aR 54), some (aI t), some (aI c), some (aI v3), some (aI v4), some (aI (v5 + 1)), none, none] (lessL_keep (lessL_keep (lessL_keep (lessL_keep (lessL_keep (lessL_keep (lessL_drop (lessL_drop (lessL_nil))))))))) ?_
                        exact ih32 v3 v4 (v5 + 1) (by omega) (by omega) (by omega)
              · refine vc_iload dX12_wrong_60 rfl ?_
                refine vc_iload_n dX12_wrong_62 rfl ?_
                refine vc_iload dX12_wrong_63 rfl ?_
                refine vc_cSI dX12_wrong_65 (sfX12_has (M := M7) hB10.1  t v7 ) rfl okX12_has stX12_has lkX12_268 rfl (Nat.le_of_ble_eq_true rfl) ⟨rfl, rfl⟩ (Nat.le_of_ble_eq_true rfl) (Nat.le_of_ble_eq_true rfl) (Nat.le_of_ble_eq_true rfl) ?_
                rintro x24 _ ⟨rfl, h25, h26⟩
                refine vc_if_eq dX12_wrong_68 (fun h27 => ?_) (fun h27 => ?_)
                · refine vc_iconst dX12_wrong_93 rfl ?_
                  refine vc_ior dX12_wrong_94 ?_
                  refine vc_nameI (fun x28 ex28 => ?_)
                  refine vc_istore dX12_wrong_95 (by decide) rfl (show _ = [some (aR 54), some (aI t), some (aI c), some (aI v3), some (aI v4), some (aI v5), some (aI x28), some (aI v7)] from rfl) ?_
                  refine vc_iincE dX12_wrong_97 rfl (by omega) (by omega) (by decide) rfl (show _ = [some (aR 54), some (aI t), some (aI c), some (aI v3), some (aI v4), some (aI v5), some (aI x28), some (aI (v7 + 1))] from rfl) ?_
                  refine vc_goto dX12_wrong_100 ?_
                  exact ih49 x28 (v7 + 1) (by omega) (by omega) (by omega)
                · refine vc_aload_n dX12_wrong_71 rfl ?_
                  refine vc_getR dX12_wrong_72 flX12_54 (s_54 hB10.1.1) rfl (r_54_37 hB10.1.1) ?_
                  refine vc_iload dX12_wrong_75 rfl ?_
                  refine vc_iaload dX12_wrong_77 (s_67 hB10.1.1) (by omega) (by omega) ?_
                  refine vc_iload dX12_wrong_78 rfl ?_
                  refine vc_cSI dX12_wrong_80 (sfX12_has (M := M7) hB10.1  (mI M7 67 v7.toNat) v5 ) rfl okX12_has stX12_has lkX12_268 rfl (Nat.le_of_ble_eq_true rfl) ⟨rfl, rfl⟩ (Nat.le_of_ble_eq_true rfl) (Nat.le_of_ble_eq_true rfl) (Nat.le_of_ble_eq_true rfl) ?_
                  rintro x29 _ ⟨rfl, h30, h31⟩
                  refine vc_if_ne dX12_wrong_83 (fun h32 => ?_) (fun h32 => ?_)
                  · refine vc_iconst dX12_wrong_93 rfl ?_
                    refine vc_ior dX12_wrong_94 ?_
                    refine vc_nameI (fun x33 ex33 => ?_)
                    refine vc_istore dX12_wrong_95 (by decide) rfl (show _ = [some (aR 54), some (aI t), some (aI c), some (aI v3), some (aI v4), some (aI v5), some (aI x33), some (aI v7)] from rfl) ?_
                    refine vc_iincE dX12_wrong_97 rfl (by omega) (by omega) (by decide) rfl (show _ = [some (aR 54), some (aI t), some (aI c), some (aI v3), some (aI v4), some (aI v5), some (aI x33), some (aI (v7 + 1))] from rfl) ?_
                    refine vc_goto dX12_wrong_100 ?_
                    exact ih49 x33 (v7 + 1) (by omega) (by omega) (by omega)
                  · refine vc_iconst dX12_wrong_86 rfl ?_
                    refine vc_iload dX12_wrong_87 rfl ?_
                    refine vc_ishl dX12_wrong_89 ?_
                    refine vc_goto dX12_wrong_90 ?_
                    refine vc_ior dX12_wrong_94 ?_
                    refine vc_nameI (fun x34 ex34 => ?_)
                    refine vc_istore dX12_wrong_95 (by decide) rfl (show _ = [some (aR 54), some (aI t), some (aI c), some (aI v3), some (aI v4), some (aI v5), some (aI x34), some (aI v7)] from rfl) ?_
                    refine vc_iincE dX12_wrong_97 rfl (by omega) (by omega) (by decide) rfl (show _ = [some (aR 54), some (aI t), some (aI c), some (aI v3), some (aI v4), some (aI v5), some (aI x34), some (aI (v7 + 1))] from rfl) ?_
                    refine vc_goto dX12_wrong_100 ?_
                    exact ih49 x34 (v7 + 1) (by omega) (by omega) (by omega)
          exact lp49 _ 0 0 (by omega) (by omega) (Nat.lt_succ_self _)
    exact lp32 _ (-1) (-1) 0 (by omega) (by omega) (Nat.lt_succ_self _)
  · refine vc_iconst dX12_wrong_18 rfl ?_
    refine vc_iret dX12_wrong_19 rfl (Nat.le_of_ble_eq_true rfl) (Nat.le_of_ble_eq_true rfl) ?_
    exact ⟨_, rfl, hB0⟩

set_option maxRecDepth 4000 in
theorem sfX12_heard {l : Launch} {M : Mem} (hB : Box M)  (c : Int)  : Call l mdX12_heard [aR 54, aI c] M (fun q N => ∃ r : Int, q = some (aI r) ∧ BF fQ M N) := by
  have hB0 : BF fQ M M := BF.start hB
  refine Call.of [some (aR 54), some (aI c), none, none] rfl (Nat.le_of_ble_eq_true rfl) rfl ?_
  refine vc_ok (fun hoM hoS hoL => ?_)
  have hr1 : -2147483648 ≤ c ∧ c < 2147483648 := hoL 1 _ rfl
  refine vc_aload_n dX12_heard_0 rfl ?_
  refine vc_iload_n dX12_heard_1 rfl ?_
  refine vc_cVI dX12_heard_2 (sfX12_isCorner (M := M) hB0.1  c ) rfl okX12_isCorner viX12_isCorner lkX12_87 (s_54 hB0.1.1) cl_12 rfl (Nat.le_of_ble_eq_true rfl) ⟨rfl, rfl⟩ (Nat.le_of_ble_eq_true rfl) (Nat.le_of_ble_eq_true rfl) (Nat.le_of_ble_eq_true rfl) ?_
  rintro x1 _ ⟨rfl, h2, h3, h4⟩
  refine vc_if_ne dX12_heard_5 (fun h5 => ?_) (fun h5 => ?_)
  · refine vc_aload_n dX12_heard_10 rfl ?_
    refine vc_cVU dX12_heard_11 (sfX12_findLeads (M := M) hB0.1   ) rfl okX12_findLeads viX12_findLeads lkX12_480 (s_54 hB0.1.1) cl_12 rfl (Nat.le_of_ble_eq_true rfl) ⟨rfl, rfl⟩ (Nat.le_of_ble_eq_true rfl) (Nat.le_of_ble_eq_true rfl) (Nat.le_of_ble_eq_true rfl) ?_
    rintro M6 ⟨hB7, kp8⟩
    have hB9 : BF fQ M M6 := BF.go hB0 hB7
    refine vc_iconst dX12_heard_14 rfl ?_
    refine vc_istore_n dX12_heard_15 (by decide) rfl (show _ = [some (aR 54), some (aI c), some (aI 0), none] from rfl) ?_
    refine vc_iconst dX12_heard_16 rfl ?_
    refine vc_istore_n dX12_heard_17 (by decide) rfl (show _ = [some (aR 54), some (aI c), some (aI 0), some (aI 0)] from rfl) ?_
    have lp18 : ∀ (n18 : Nat) (v2 : Int) (v3 : Int), (0 ≤ v3) → (v3 ≤ 8) → (8 - v3).toNat < n18 → VC l mdX12_heard 18 [some (aR 54), some (aI c), some (aI v2), some (aI v3)] [] M6 0 0 (fun q N => ∃ r : Int, q = some (aI r) ∧ BF fQ M N) := by
      intro n18
      induction n18 with
      | zero => intro v2 v3 g18_3a g18_3b hm18; exact absurd hm18 (Nat.not_lt_zero _)
      | succ n18 ih18 =>
        intro v2 v3 g18_3a g18_3b hm18
        refine vc_iload_n dX12_heard_18 rfl ?_
        refine vc_aload_n dX12_heard_19 rfl ?_
        refine vc_getR dX12_heard_20 flX12_7 (s_54 hB9.1.1) rfl (r_54_0 hB9.1.1) ?_
        refine vc_iconst dX12_heard_23 rfl ?_
        refine vc_iaload dX12_heard_24 (s_55 hB9.1.1) (by omega) (by omega) ?_
        refine vc_topI (mI M6 55 3) rfl ?_
        have k10 : 0 ≤ mI M6 55 3 ∧ mI M6 55 3 ≤ 8 := b55_3 (M := M6) hB9.1
        refine vc_icmp_ge dX12_heard_25 (fun h11 => ?_) (fun h11 => ?_)
        · refine vc_iload_n dX12_heard_57 rfl ?_
          refine vc_iret dX12_heard_58 rfl (Nat.le_of_ble_eq_true rfl) (Nat.le_of_ble_eq_true rfl) ?_
          exact ⟨_, rfl, hB9⟩
        · refine vc_iload_n dX12_heard_28 rfl ?_
          refine vc_aload_n dX12_heard_29 rfl ?_
          refine vc_getR dX12_heard_30 flX12_54 (s_54 hB9.1.1) rfl (r_54_37 hB9.1.1) ?_
          refine vc_iload_n dX12_heard_33 rfl ?_
          refine vc_iaload dX12_heard_34 (s_67 hB9.1.1) (by omega) (by omega) ?_
          refine vc_iload_n dX12_heard_35 rfl ?_
          refine vc_cSI dX12_heard_36 (sfX12_has (M := M6) hB9.1  (mI M6 67 v3.toNat) c ) rfl okX12_has stX12_has lkX12_268 rfl (Nat.le_of_ble_eq_true rfl) ⟨rfl, rfl⟩ (Nat.le_of_ble_eq_true rfl) (Nat.le_of_ble_eq_true rfl) (Nat.le_of_ble_eq_true rfl) ?_
          rintro x12 _ ⟨rfl, h13, h14⟩
          refine vc_if_eq dX12_heard_39 (fun h15 => ?_) (fun h15 => ?_)
          · refine vc_iconst dX12_heard_48 rfl ?_
            refine vc_ior dX12_heard_49 ?_
            refine vc_nameI (fun x16 ex16 => ?_)
            refine vc_istore_n dX12_heard_50 (by decide) rfl (show _ = [some (aR 54), some (aI c), some (aI x16), some (aI v3)] from rfl) ?_
            refine vc_iincE dX12_heard_51 rfl (by omega) (by omega) (by decide) rfl (show _ = [some (aR 54), some (aI c), some (aI x16), some (aI (v3 + 1))] from rfl) ?_
            refine vc_goto dX12_heard_54 ?_
            exact ih18 x16 (v3 + 1) (by omega) (by omega) (by omega)
          · refine vc_iconst dX12_heard_42 rfl ?_
            refine vc_iload_n dX12_heard_43 rfl ?_
            refine vc_ishl dX12_heard_44 ?_
            refine vc_goto dX12_heard_45 ?_
            refine vc_ior dX12_heard_49 ?_
            refine vc_nameI (fun x17 ex17 => ?_)
            refine vc_istore_n dX12_heard_50 (by decide) rfl (show _ = [some (aR 54), some (aI c), some (aI x17), some (aI v3)] from rfl) ?_
            refine vc_iincE dX12_heard_51 rfl (by omega) (by omega) (by decide) rfl (show _ = [some (aR 54), some (aI c), some (aI x17), some (aI (v3 + 1))] from rfl) ?_
            refine vc_goto dX12_heard_54 ?_
            exact ih18 x17 (v3 + 1) (by omega) (by omega) (by omega)
    exact lp18 _ 0 0 (by omega) (by omega) (Nat.lt_succ_self _)
  · refine vc_iconst dX12_heard_8 rfl ?_
    refine vc_iret dX12_heard_9 rfl (Nat.le_of_ble_eq_true rfl) (Nat.le_of_ble_eq_true rfl) ?_
    exact ⟨_, rfl, hB0⟩

set_option maxRecDepth 4000 in
theorem sfX12_whose {l : Launch} {M : Mem} (hB : Box M)  (t : Int) (c : Int) (s : Int) (low : Int)  : Call l mdX12_whose [aR 54, aI t, aI c, aI s, aI low] M (fun q N => ∃ r : Int, q = some (aI r) ∧ BF fQ M N) := by
  have hB0 : BF fQ M M := BF.start hB
  refine Call.of [some (aR 54), some (aI t), some (aI c), some (aI s), some (aI low), none, none, none] rfl (Nat.le_of_ble_eq_true rfl) rfl ?_
  refine vc_ok (fun hoM hoS hoL => ?_)
  have hr1 : -2147483648 ≤ t ∧ t < 2147483648 := hoL 1 _ rfl
  have hr2 : -2147483648 ≤ c ∧ c < 2147483648 := hoL 2 _ rfl
  have hr3 : -2147483648 ≤ s ∧ s < 2147483648 := hoL 3 _ rfl
  have hr4 : -2147483648 ≤ low ∧ low < 2147483648 := hoL 4 _ rfl
  refine vc_aload_n dX12_whose_0 rfl ?_
  refine vc_iload_n dX12_whose_1 rfl ?_
  refine vc_cVI dX12_whose_2 (sfX12_isTelling (M := M) hB0.1  t ) rfl okX12_isTelling viX12_isTelling lkX12_400 (s_54 hB0.1.1) cl_12 rfl (Nat.le_of_ble_eq_true rfl) ⟨rfl, rfl⟩ (Nat.le_of_ble_eq_true rfl) (Nat.le_of_ble_eq_true rfl) (Nat.le_of_ble_eq_true rfl) ?_
  rintro x1 _ ⟨rfl, h2, h3, h4⟩
  refine vc_if_eq dX12_whose_5 (fun h5 => ?_) (fun h5 => ?_)
  · refine vc_iconst dX12_whose_31 rfl ?_
    refine vc_iret dX12_whose_32 rfl (Nat.le_of_ble_eq_true rfl) (Nat.le_of_ble_eq_true rfl) ?_
    exact ⟨_, rfl, hB0⟩
  · refine vc_aload_n dX12_whose_8 rfl ?_
    refine vc_iload_n dX12_whose_9 rfl ?_
    refine vc_cVI dX12_whose_10 (sfX12_isCorner (M := M) hB0.1  c ) rfl okX12_isCorner viX12_isCorner lkX12_87 (s_54 hB0.1.1) cl_12 rfl (Nat.le_of_ble_eq_true rfl) ⟨rfl, rfl⟩ (Nat.le_of_ble_eq_true rfl) (Nat.le_of_ble_eq_true rfl) (Nat.le_of_ble_eq_true rfl) ?_
    rintro x6 _ ⟨rfl, h7, h8, h9⟩
    refine vc_if_eq dX12_whose_13 (fun h10 => ?_) (fun h10 => ?_)
    · refine vc_iconst dX12_whose_31 rfl ?_
      refine vc_iret dX12_whose_32 rfl (Nat.le_of_ble_eq_true rfl) (Nat.le_of_ble_eq_true rfl) ?_
      exact ⟨_, rfl, hB0⟩
    · refine vc_iload_n dX12_whose_16 rfl ?_
      refine vc_iconst dX12_whose_17 rfl ?_
      refine vc_icmp_eq dX12_whose_18 (fun h11 => ?_) (fun h11 => ?_)
      · refine vc_aload_n dX12_whose_33 rfl ?_
        refine vc_iload_n dX12_whose_34 rfl ?_
        refine vc_cVU dX12_whose_35 (sfX12_findWays (M := M) hB0.1  t (by omega) (by omega) (by omega)) rfl okX12_findWays viX12_findWays lkX12_455 (s_54 hB0.1.1) cl_12 rfl (Nat.le_of_ble_eq_true rfl) ⟨rfl, rfl⟩ (Nat.le_of_ble_eq_true rfl) (Nat.le_of_ble_eq_true rfl) (Nat.le_of_ble_eq_true rfl) ?_
        rintro M12 ⟨hB13, kp14⟩
        have hB15 : BF fQ M M12 := BF.go hB0 hB13.wq
        refine vc_aload_n dX12_whose_38 rfl ?_
        refine vc_iload_n dX12_whose_39 rfl ?_
        refine vc_cVI dX12_whose_40 (sfX12_weightTo (M := M12) hB15.1  c ) rfl okX12_weightTo viX12_weightTo lkX12_458 (s_54 hB15.1.1) cl_12 rfl (Nat.le_of_ble_eq_true rfl) ⟨rfl, rfl⟩ (Nat.le_of_ble_eq_true rfl) (Nat.le_of_ble_eq_true rfl) (Nat.le_of_ble_eq_true rfl) ?_
        rintro x16 _ rfl
        refine vc_istore dX12_whose_43 (by decide) rfl (show _ = [some (aR 54), some (aI t), some (aI c), some (aI s), some (aI low), some (aI x16), none, none] from rfl) ?_
        refine vc_iload dX12_whose_45 rfl ?_
        refine vc_if_ne dX12_whose_47 (fun h17 => ?_) (fun h17 => ?_)
        · refine vc_iconst dX12_whose_52 rfl ?_
          refine vc_istore dX12_whose_53 (by decide) rfl (show _ = [some (aR 54), some (aI t), some (aI c), some (aI s), some (aI low), some (aI x16), some (aI 0), none] from rfl) ?_
          refine vc_iconst dX12_whose_55 rfl ?_
          refine vc_istore dX12_whose_56 (by decide) rfl (show _ = [some (aR 54), some (aI t), some (aI c), some (aI s), some (aI low), some (aI x16), some (aI 0), some (aI 0)] from rfl) ?_
          have lp58 : ∀ (n58 : Nat) (v6 : Int) (v7 : Int), (0 ≤ v7) → (v7 ≤ 8) → (8 - v7).toNat < n58 → VC l mdX12_whose 58 [some (aR 54), none, some (aI c), some (aI s), some (aI low), some (aI x16), some (aI v6), some (aI v7)] [] M12 0 0 (fun q N => ∃ r : Int, q = some (aI r) ∧ BF fQ M N) := by
            intro n58
            induction n58 with
            | zero => intro v6 v7 g58_7a g58_7b hm58; exact absurd hm58 (Nat.not_lt_zero _)
            | succ n58 ih58 =>
              intro v6 v7 g58_7a g58_7b hm58
              refine vc_iload dX12_whose_58 rfl ?_
              refine vc_bipush dX12_whose_60 rfl ?_
              refine vc_icmp_ge dX12_whose_62 (fun h18 => ?_) (fun h18 => ?_)
              · refine vc_iload dX12_whose_105 rfl ?_
                refine vc_i2l dX12_whose_107 ?_
                refine vc_iload dX12_whose_108 rfl ?_
                refine vc_i2l dX12_whose_110 ?_
                refine vc_iload dX12_whose_111 rfl ?_
                refine vc_cSL dX12_whose_113 (sfX12_part (M := M12) hB15.1  v6 x16 low ) rfl okX12_part stX12_part lkX12_476 rfl (Nat.le_of_ble_eq_true rfl) ⟨rfl, rfl⟩ (Nat.le_of_ble_eq_true rfl) (Nat.le_of_ble_eq_true rfl) (Nat.le_of_ble_eq_true rfl) ?_
                rintro x19 _ rfl
                refine vc_l2i dX12_whose_116 ?_
                refine vc_iret dX12_whose_117 rfl (Nat.le_of_ble_eq_true rfl) (Nat.le_of_ble_eq_true rfl) ?_
                exact ⟨_, rfl, hB15⟩
              · refine vc_iload dX12_whose_65 rfl ?_
                refine vc_aload_n dX12_whose_67 rfl ?_
                refine vc_getR dX12_whose_68 flX12_45 (s_54 hB15.1.1) rfl (r_54_33 hB15.1.1) ?_
                refine vc_iload dX12_whose_71 rfl ?_
                refine vc_iaload dX12_whose_73 (s_64 hB15.1.1) (by omega) (by omega) ?_
                refine vc_iload_n dX12_whose_74 rfl ?_
                refine vc_icmp_ne dX12_whose_75 (fun h20 => ?_) (fun h20 => ?_)
                · refine vc_iconst dX12_whose_95 rfl ?_
                  refine vc_iadd dX12_whose_96 ?_
                  refine vc_nameI (fun x21 ex21 => ?_)
                  refine vc_istore dX12_whose_97 (by decide) rfl (show _ = [some (aR 54), none, some (aI c), some (aI s), some (aI low), some (aI x16), some (aI x21), some (aI v7)] from rfl) ?_
                  refine vc_iincE dX12_whose_99 rfl (by omega) (by omega) (by decide) rfl (show _ = [some (aR 54), none, some (aI c), some (aI s), some (aI low), some (aI x16), some (aI x21), some (aI (v7 + 1))] from rfl) ?_
                  refine vc_goto dX12_whose_102 ?_
                  exact ih58 x21 (v7 + 1) (by omega) (by omega) (by omega)
                · refine vc_iload dX12_whose_78 rfl ?_
                  refine vc_iload_n dX12_whose_80 rfl ?_
                  refine vc_iand dX12_whose_81 ?_
                  refine vc_if_eq dX12_whose_82 (fun h22 => ?_) (fun h22 => ?_)
                  · refine vc_iconst dX12_whose_95 rfl ?_
                    refine vc_iadd dX12_whose_96 ?_
                    refine vc_nameI (fun x23 ex23 => ?_)
                    refine vc_istore dX12_whose_97 (by decide) rfl (show _ = [some (aR 54), none, some (aI c), some (aI s), some (aI low), some (aI x16), some (aI x23), some (aI v7)] from rfl) ?_
                    refine vc_iincE dX12_whose_99 rfl (by omega) (by omega) (by decide) rfl (show _ = [some (aR 54), none, some (aI c), some (aI s), some (aI low), some (aI x16), some (aI x23), some (aI (v7 + 1))] from rfl) ?_
                    refine vc_goto dX12_whose_102 ?_
                    exact ih58 x23 (v7 + 1) (by omega) (by omega) (by omega)
                  · refine vc_aload_n dX12_whose_85 rfl ?_
                    refine vc_getR dX12_whose_86 flX12_48 (s_54 hB15.1.1) rfl (r_54_34 hB15.1.1) ?_
                    refine vc_iload dX12_whose_89 rfl ?_
                    refine vc_iaload dX12_whose_91 (s_65 hB15.1.1) (by omega) (by omega) ?_
                    refine vc_goto dX12_whose_92 ?_
                    refine vc_iadd dX12_whose_96 ?_
                    refine vc_nameI (fun x24 ex24 => ?_)
                    refine vc_istore dX12_whose_97 (by decide) rfl (show _ = [some (aR 54), none, some (aI c), some (aI s), some (aI low), some (aI x16), some (aI x24), some (aI v7)] from rfl) ?_
                    refine vc_iincE dX12_whose_99 rfl (by omega) (by omega) (by decide) rfl (show _ = [some (aR 54), none, some (aI c), some (aI s), some (aI low), some (aI x16), some (aI x24), some (aI (v7 + 1))] from rfl) ?_
                    refine vc_goto dX12_whose_102 ?_
                    exact ih58 x24 (v7 + 1) (by omega) (by omega) (by omega)
          refine vc_less [some (aR 54), none, some (aI c), some (aI s), some (aI low), some (aI x16), some (aI 0), some (aI 0)] (lessL_keep (lessL_drop (lessL_keep (lessL_keep (lessL_keep (lessL_keep (lessL_keep (lessL_keep (lessL_nil))))))))) ?_
          exact lp58 _ 0 0 (by omega) (by omega) (Nat.lt_succ_self _)
        · refine vc_iconst dX12_whose_50 rfl ?_
          refine vc_iret dX12_whose_51 rfl (Nat.le_of_ble_eq_true rfl) (Nat.le_of_ble_eq_true rfl) ?_
          exact ⟨_, rfl, hB15⟩
      · refine vc_iload_n dX12_whose_21 rfl ?_
        refine vc_iconst dX12_whose_22 rfl ?_
        refine vc_icmp_eq dX12_whose_23 (fun h25 => ?_) (fun h25 => ?_)
        · refine vc_aload_n dX12_whose_33 rfl ?_
          refine vc_iload_n dX12_whose_34 rfl ?_
          refine vc_cVU dX12_whose_35 (sfX12_findWays (M := M) hB0.1  t (by omega) (by omega) (by omega)) rfl okX12_findWays viX12_findWays lkX12_455 (s_54 hB0.1.1) cl_12 rfl (Nat.le_of_ble_eq_true rfl) ⟨rfl, rfl⟩ (Nat.le_of_ble_eq_true rfl) (Nat.le_of_ble_eq_true rfl) (Nat.le_of_ble_eq_true rfl) ?_
          rintro M26 ⟨hB27, kp28⟩
          have hB29 : BF fQ M M26 := BF.go hB0 hB27.wq
          refine vc_aload_n dX12_whose_38 rfl ?_
          refine vc_iload_n dX12_whose_39 rfl ?_
          refine vc_cVI dX12_whose_40 (sfX12_weightTo (M := M26) hB29.1  c ) rfl okX12_weightTo viX12_weightTo lkX12_458 (s_54 hB29.1.1) cl_12 rfl (Nat.le_of_ble_eq_true rfl) ⟨rfl, rfl⟩ (Nat.le_of_ble_eq_true rfl) (Nat.le_of_ble_eq_true rfl) (Nat.le_of_ble_eq_true rfl) ?_
          rintro x30 _ rfl
          refine vc_istore dX12_whose_43 (by decide) rfl (show _ = [some (aR 54), some (aI t), some (aI c), some (aI s), some (aI low), some (aI x30), none, none] from rfl) ?_
          refine vc_iload dX12_whose_45 rfl ?_
          refine vc_if_ne dX12_whose_47 (fun h31 => ?_) (fun h31 => ?_)
          · refine vc_iconst dX12_whose_52 rfl ?_
            refine vc_istore dX12_whose_53 (by decide) rfl (show _ = [some (aR 54), some (aI t), some (aI c), some (aI s), some (aI low), some (aI x30), some (aI 0), none] from rfl) ?_
            refine vc_iconst dX12_whose_55 rfl ?_
            refine vc_istore dX12_whose_56 (by decide) rfl (show _ = [some (aR 54), some (aI t), some (aI c), some (aI s), some (aI low), some (aI x30), some (aI 0), some (aI 0)] from rfl) ?_
            have lp58 : ∀ (n58 : Nat) (v6 : Int) (v7 : Int), (0 ≤ v7) → (v7 ≤ 8) → (8 - v7).toNat < n58 → VC l mdX12_whose 58 [some (aR 54), none, some (aI c), some (aI s), some (aI low), some (aI x30), some (aI v6), some (aI v7)] [] M26 0 0 (fun q N => ∃ r : Int, q = some (aI r) ∧ BF fQ M N) := by
              intro n58
              induction n58 with
              | zero => intro v6 v7 g58_7a g58_7b hm58; exact absurd hm58 (Nat.not_lt_zero _)
              | succ n58 ih58 =>
                intro v6 v7 g58_7a g58_7b hm58
                refine vc_iload dX12_whose_58 rfl ?_
                refine vc_bipush dX12_whose_60 rfl ?_
                refine vc_icmp_ge dX12_whose_62 (fun h32 => ?_) (fun h32 => ?_)
                · refine vc_iload dX12_whose_105 rfl ?_
                  refine vc_i2l dX12_whose_107 ?_
                  refine vc_iload dX12_whose_108 rfl ?_
                  refine vc_i2l dX12_whose_110 ?_
                  refine vc_iload dX12_whose_111 rfl ?_
                  refine vc_cSL dX12_whose_113 (sfX12_part (M := M26) hB29.1  v6 x30 low ) rfl okX12_part stX12_part lkX12_476 rfl (Nat.le_of_ble_eq_true rfl) ⟨rfl, rfl⟩ (Nat.le_of_ble_eq_true rfl) (Nat.le_of_ble_eq_true rfl) (Nat.le_of_ble_eq_true rfl) ?_
                  rintro x33 _ rfl
                  refine vc_l2i dX12_whose_116 ?_
                  refine vc_iret dX12_whose_117 rfl (Nat.le_of_ble_eq_true rfl) (Nat.le_of_ble_eq_true rfl) ?_
                  exact ⟨_, rfl, hB29⟩
                · refine vc_iload dX12_whose_65 rfl ?_
                  refine vc_aload_n dX12_whose_67 rfl ?_
                  refine vc_getR dX12_whose_68 flX12_45 (s_54 hB29.1.1) rfl (r_54_33 hB29.1.1) ?_
                  refine vc_iload dX12_whose_71 rfl ?_
                  refine vc_iaload dX12_whose_73 (s_64 hB29.1.1) (by omega) (by omega) ?_
                  refine vc_iload_n dX12_whose_74 rfl ?_
                  refine vc_icmp_ne dX12_whose_75 (fun h34 => ?_) (fun h34 => ?_)
                  · refine vc_iconst dX12_whose_95 rfl ?_
                    refine vc_iadd dX12_whose_96 ?_
                    refine vc_nameI (fun x35 ex35 => ?_)
                    refine vc_istore dX12_whose_97 (by decide) rfl (show _ = [some (aR 54), none, some (aI c), some (aI s), some (aI low), some (aI x30), some (aI x35), some (aI v7)] from rfl) ?_
                    refine vc_iincE dX12_whose_99 rfl (by omega) (by omega) (by decide) rfl (show _ = [some (aR 54), none, some (aI c), some (aI s), some (aI low), some (aI x30), some (aI x35), some (aI (v7 + 1))] from rfl) ?_
                    refine vc_goto dX12_whose_102 ?_
                    exact ih58 x35 (v7 + 1) (by omega) (by omega) (by omega)
                  · refine vc_iload dX12_whose_78 rfl ?_
                    refine vc_iload_n dX12_whose_80 rfl ?_
                    refine vc_iand dX12_whose_81 ?_
                    refine vc_if_eq dX12_whose_82 (fun h36 => ?_) (fun h36 => ?_)
                    · refine vc_iconst dX12_whose_95 rfl ?_
                      refine vc_iadd dX12_whose_96 ?_
                      refine vc_nameI (fun x37 ex37 => ?_)
                      refine vc_istore dX12_whose_97 (by decide) rfl (show _ = [some (aR 54), none, some (aI c), some (aI s), some (aI low), some (aI x30), some (aI x37), some (aI v7)] from rfl) ?_
                      refine vc_iincE dX12_whose_99 rfl (by omega) (by omega) (by decide) rfl (show _ = [some (aR 54), none, some (aI c), some (aI s), some (aI low), some (aI x30), some (aI x37), some (aI (v7 + 1))] from rfl) ?_
                      refine vc_goto dX12_whose_102 ?_
                      exact ih58 x37 (v7 + 1) (by omega) (by omega) (by omega)
                    · refine vc_aload_n dX12_whose_85 rfl ?_
                      refine vc_getR dX12_whose_86 flX12_48 (s_54 hB29.1.1) rfl (r_54_34 hB29.1.1) ?_
                      refine vc_iload dX12_whose_89 rfl ?_
                      refine vc_iaload dX12_whose_91 (s_65 hB29.1.1) (by omega) (by omega) ?_
                      refine vc_goto dX12_whose_92 ?_
                      refine vc_iadd dX12_whose_96 ?_
                      refine vc_nameI (fun x38 ex38 => ?_)
                      refine vc_istore dX12_whose_97 (by decide) rfl (show _ = [some (aR 54), none, some (aI c), some (aI s), some (aI low), some (aI x30), some (aI x38), some (aI v7)] from rfl) ?_
                      refine vc_iincE dX12_whose_99 rfl (by omega) (by omega) (by decide) rfl (show _ = [some (aR 54), none, some (aI c), some (aI s), some (aI low), some (aI x30), some (aI x38), some (aI (v7 + 1))] from rfl) ?_
                      refine vc_goto dX12_whose_102 ?_
                      exact ih58 x38 (v7 + 1) (by omega) (by omega) (by omega)
            refine vc_less [some (aR 54), none, some (aI c), some (aI s), some (aI low), some (aI x30), some (aI 0), some (aI 0)] (lessL_keep (lessL_drop (lessL_keep (lessL_keep (lessL_keep (lessL_keep (lessL_keep (lessL_keep (lessL_nil))))))))) ?_
            exact lp58 _ 0 0 (by omega) (by omega) (Nat.lt_succ_self _)
          · refine vc_iconst dX12_whose_50 rfl ?_
            refine vc_iret dX12_whose_51 rfl (Nat.le_of_ble_eq_true rfl) (Nat.le_of_ble_eq_true rfl) ?_
            exact ⟨_, rfl, hB29⟩
        · refine vc_iload_n dX12_whose_26 rfl ?_
          refine vc_iconst dX12_whose_27 rfl ?_
          refine vc_icmp_eq dX12_whose_28 (fun h39 => ?_) (fun h39 => ?_)
          · refine vc_aload_n dX12_whose_33 rfl ?_
            refine vc_iload_n dX12_whose_34 rfl ?_
            refine vc_cVU dX12_whose_35 (sfX12_findWays (M := M) hB0.1  t (by omega) (by omega) (by omega)) rfl okX12_findWays viX12_findWays lkX12_455 (s_54 hB0.1.1) cl_12 rfl (Nat.le_of_ble_eq_true rfl) ⟨rfl, rfl⟩ (Nat.le_of_ble_eq_true rfl) (Nat.le_of_ble_eq_true rfl) (Nat.le_of_ble_eq_true rfl) ?_
            rintro M40 ⟨hB41, kp42⟩
            have hB43 : BF fQ M M40 := BF.go hB0 hB41.wq
            refine vc_aload_n dX12_whose_38 rfl ?_
            refine vc_iload_n dX12_whose_39 rfl ?_
            refine vc_cVI dX12_whose_40 (sfX12_weightTo (M := M40) hB43.1  c ) rfl okX12_weightTo viX12_weightTo lkX12_458 (s_54 hB43.1.1) cl_12 rfl (Nat.le_of_ble_eq_true rfl) ⟨rfl, rfl⟩ (Nat.le_of_ble_eq_true rfl) (Nat.le_of_ble_eq_true rfl) (Nat.le_of_ble_eq_true rfl) ?_
            rintro x44 _ rfl
            refine vc_istore dX12_whose_43 (by decide) rfl (show _ = [some (aR 54), some (aI t), some (aI c), some (aI s), some (aI low), some (aI x44), none, none] from rfl) ?_
            refine vc_iload dX12_whose_45 rfl ?_
            refine vc_if_ne dX12_whose_47 (fun h45 => ?_) (fun h45 => ?_)
            · refine vc_iconst dX12_whose_52 rfl ?_
              refine vc_istore dX12_whose_53 (by decide) rfl (show _ = [some (aR 54), some (aI t), some (aI c), some (aI s), some (aI low), some (aI x44), some (aI 0), none] from rfl) ?_
              refine vc_iconst dX12_whose_55 rfl ?_
              refine vc_istore dX12_whose_56 (by decide) rfl (show _ = [some (aR 54), some (aI t), some (aI c), some (aI s), some (aI low), some (aI x44), some (aI 0), some (aI 0)] from rfl) ?_
              have lp58 : ∀ (n58 : Nat) (v6 : Int) (v7 : Int), (0 ≤ v7) → (v7 ≤ 8) → (8 - v7).toNat < n58 → VC l mdX12_whose 58 [some (aR 54), none, some (aI c), some (aI s), some (aI low), some (aI x44), some (aI v6), some (aI v7)] [] M40 0 0 (fun q N => ∃ r : Int, q = some (aI r) ∧ BF fQ M N) := by
                intro n58
                induction n58 with
                | zero => intro v6 v7 g58_7a g58_7b hm58; exact absurd hm58 (Nat.not_lt_zero _)
                | succ n58 ih58 =>
                  intro v6 v7 g58_7a g58_7b hm58
                  refine vc_iload dX12_whose_58 rfl ?_
                  refine vc_bipush dX12_whose_60 rfl ?_
                  refine vc_icmp_ge dX12_whose_62 (fun h46 => ?_) (fun h46 => ?_)
                  · refine vc_iload dX12_whose_105 rfl ?_
                    refine vc_i2l dX12_whose_107 ?_
                    refine vc_iload dX12_whose_108 rfl ?_
                    refine vc_i2l dX12_whose_110 ?_
                    refine vc_iload dX12_whose_111 rfl ?_
                    refine vc_cSL dX12_whose_113 (sfX12_part (M := M40) hB43.1  v6 x44 low ) rfl okX12_part stX12_part lkX12_476 rfl (Nat.le_of_ble_eq_true rfl) ⟨rfl, rfl⟩ (Nat.le_of_ble_eq_true rfl) (Nat.le_of_ble_eq_true rfl) (Nat.le_of_ble_eq_true rfl) ?_
                    rintro x47 _ rfl
                    refine vc_l2i dX12_whose_116 ?_
                    refine vc_iret dX12_whose_117 rfl (Nat.le_of_ble_eq_true rfl) (Nat.le_of_ble_eq_true rfl) ?_
                    exact ⟨_, rfl, hB43⟩
                  · refine vc_iload dX12_whose_65 rfl ?_
                    refine vc_aload_n dX12_whose_67 rfl ?_
                    refine vc_getR dX12_whose_68 flX12_45 (s_54 hB43.1.1) rfl (r_54_33 hB43.1.1) ?_
                    refine vc_iload dX12_whose_71 rfl ?_
                    refine vc_iaload dX12_whose_73 (s_64 hB43.1.1) (by omega) (by omega) ?_
                    refine vc_iload_n dX12_whose_74 rfl ?_
                    refine vc_icmp_ne dX12_whose_75 (fun h48 => ?_) (fun h48 => ?_)
                    · refine vc_iconst dX12_whose_95 rfl ?_
                      refine vc_iadd dX12_whose_96 ?_
                      refine vc_nameI (fun x49 ex49 => ?_)
                      refine vc_istore dX12_whose_97 (by decide) rfl (show _ = [some (aR 54), none, some (aI c), some (aI s), some (aI low), some (aI x44), some (aI x49), some (aI v7)] from rfl) ?_
                      refine vc_iincE dX12_whose_99 rfl (by omega) (by omega) (by decide) rfl (show _ = [some (aR 54), none, some (aI c), some (aI s), some (aI low), some (aI x44), some (aI x49), some (aI (v7 + 1))] from rfl) ?_
                      refine vc_goto dX12_whose_102 ?_
                      exact ih58 x49 (v7 + 1) (by omega) (by omega) (by omega)
                    · refine vc_iload dX12_whose_78 rfl ?_
                      refine vc_iload_n dX12_whose_80 rfl ?_
                      refine vc_iand dX12_whose_81 ?_
                      refine vc_if_eq dX12_whose_82 (fun h50 => ?_) (fun h50 => ?_)
                      · refine vc_iconst dX12_whose_95 rfl ?_
                        refine vc_iadd dX12_whose_96 ?_
                        refine vc_nameI (fun x51 ex51 => ?_)
                        refine vc_istore dX12_whose_97 (by decide) rfl (show _ = [some (aR 54), none, some (aI c), some (aI s), some (aI low), some (aI x44), some (aI x51), some (aI v7)] from rfl) ?_
                        refine vc_iincE dX12_whose_99 rfl (by omega) (by omega) (by decide) rfl (show _ = [some (aR 54), none, some (aI c), some (aI s), some (aI low), some (aI x44), some (aI x51), some (aI (v7 + 1))] from rfl) ?_
                        refine vc_goto dX12_whose_102 ?_
                        exact ih58 x51 (v7 + 1) (by omega) (by omega) (by omega)
                      · refine vc_aload_n dX12_whose_85 rfl ?_
                        refine vc_getR dX12_whose_86 flX12_48 (s_54 hB43.1.1) rfl (r_54_34 hB43.1.1) ?_
                        refine vc_iload dX12_whose_89 rfl ?_
                        refine vc_iaload dX12_whose_91 (s_65 hB43.1.1) (by omega) (by omega) ?_
                        refine vc_goto dX12_whose_92 ?_
                        refine vc_iadd dX12_whose_96 ?_
                        refine vc_nameI (fun x52 ex52 => ?_)
                        refine vc_istore dX12_whose_97 (by decide) rfl (show _ = [some (aR 54), none, some (aI c), some (aI s), some (aI low), some (aI x44), some (aI x52), some (aI v7)] from rfl) ?_
                        refine vc_iincE dX12_whose_99 rfl (by omega) (by omega) (by decide) rfl (show _ = [some (aR 54), none, some (aI c), some (aI s), some (aI low), some (aI x44), some (aI x52), some (aI (v7 + 1))] from rfl) ?_
                        refine vc_goto dX12_whose_102 ?_
                        exact ih58 x52 (v7 + 1) (by omega) (by omega) (by omega)
              refine vc_less [some (aR 54), none, some (aI c), some (aI s), some (aI low), some (aI x44), some (aI 0), some (aI 0)] (lessL_keep (lessL_drop (lessL_keep (lessL_keep (lessL_keep (lessL_keep (lessL_keep (lessL_keep (lessL_nil))))))))) ?_
              exact lp58 _ 0 0 (by omega) (by omega) (Nat.lt_succ_self _)
            · refine vc_iconst dX12_whose_50 rfl ?_
              refine vc_iret dX12_whose_51 rfl (Nat.le_of_ble_eq_true rfl) (Nat.le_of_ble_eq_true rfl) ?_
              exact ⟨_, rfl, hB43⟩
          · refine vc_iconst dX12_whose_31 rfl ?_
            refine vc_iret dX12_whose_32 rfl (Nat.le_of_ble_eq_true rfl) (Nat.le_of_ble_eq_true rfl) ?_
            exact ⟨_, rfl, hB0⟩

set_option maxRecDepth 4000 in
theorem sfX12_stateOf {l : Launch} {M : Mem} (hB : Box M)  (t : Int) (k : Int) (s : Int) (p0 : 0 ≤ t) (p1 : t ≤ 7) (p2 : 0 ≤ k) (p3 : k ≤ 6) : Call l mdX12_stateOf [aR 54, aI t, aI k, aI s] M (fun q N => ∃ r : Int, q = some (aI r) ∧ BF fS M N ∧ mI N 55 = mI M 55) := by
  have hB0 : BF fS M M := BF.start hB
  refine Call.of [some (aR 54), some (aI t), some (aI k), some (aI s), none] rfl (Nat.le_of_ble_eq_true rfl) rfl ?_
  refine vc_ok (fun hoM hoS hoL => ?_)
  have hr3 : -2147483648 ≤ s ∧ s < 2147483648 := hoL 3 _ rfl
  refine vc_aload_n dX12_stateOf_0 rfl ?_
  refine vc_iload_n dX12_stateOf_1 rfl ?_
  refine vc_iconst dX12_stateOf_2 rfl ?_
  refine vc_cVU dX12_stateOf_3 (sfX12_takeTurns (M := M) hB0.1  t (-1) (by omega) (by omega)) rfl okX12_takeTurns viX12_takeTurns lkX12_364 (s_54 hB0.1.1) cl_12 rfl (Nat.le_of_ble_eq_true rfl) ⟨rfl, rfl⟩ (Nat.le_of_ble_eq_true rfl) (Nat.le_of_ble_eq_true rfl) (Nat.le_of_ble_eq_true rfl) ?_
  rintro M1 ⟨hB2, kp3, kp4, h5, h6⟩
  have hB7 : BF fS M M1 := BF.go hB0 hB2
  have kp8 : mI M1 55 = mI M 55 := kp_go rfl kp3
  refine vc_aload_n dX12_stateOf_6 rfl ?_
  refine vc_aload_n dX12_stateOf_7 rfl ?_
  refine vc_aload_n dX12_stateOf_8 rfl ?_
  refine vc_iload_n dX12_stateOf_9 rfl ?_
  refine vc_cVI dX12_stateOf_10 (sfX12_tellerOf (M := M1) hB7.1  t (by omega) (by omega)) rfl okX12_tellerOf viX12_tellerOf lkX12_299 (s_54 hB7.1.1) cl_12 rfl (Nat.le_of_ble_eq_true rfl) ⟨rfl, rfl⟩ (Nat.le_of_ble_eq_true rfl) (Nat.le_of_ble_eq_true rfl) (Nat.le_of_ble_eq_true rfl) ?_
  rintro x9 _ ⟨rfl, h10, h11⟩
  refine vc_cVI dX12_stateOf_13 (sfX12_cornerOf (M := M1) hB7.1  x9 (by omega) (by omega)) rfl okX12_cornerOf viX12_cornerOf lkX12_296 (s_54 hB7.1.1) cl_12 rfl (Nat.le_of_ble_eq_true rfl) ⟨rfl, rfl⟩ (Nat.le_of_ble_eq_true rfl) (Nat.le_of_ble_eq_true rfl) (Nat.le_of_ble_eq_true rfl) ?_
  rintro x12 _ ⟨rfl, h13, h14⟩
  refine vc_aload_n dX12_stateOf_16 rfl ?_
  refine vc_iload_n dX12_stateOf_17 rfl ?_
  refine vc_cVI dX12_stateOf_18 (sfX12_facingOf (M := M1) hB7.1  t (by omega) (by omega)) rfl okX12_facingOf viX12_facingOf lkX12_308 (s_54 hB7.1.1) cl_12 rfl (Nat.le_of_ble_eq_true rfl) ⟨rfl, rfl⟩ (Nat.le_of_ble_eq_true rfl) (Nat.le_of_ble_eq_true rfl) (Nat.le_of_ble_eq_true rfl) ?_
  rintro x15 _ ⟨rfl, h16, h17⟩
  refine vc_cVU dX12_stateOf_21 (sfX12_begin (M := M1) hB7.1  x12 x15 (by omega) (by omega) (by omega) (by omega)) rfl okX12_begin viX12_begin lkX12_367 (s_54 hB7.1.1) cl_12 rfl (Nat.le_of_ble_eq_true rfl) ⟨rfl, rfl⟩ (Nat.le_of_ble_eq_true rfl) (Nat.le_of_ble_eq_true rfl) (Nat.le_of_ble_eq_true rfl) ?_
  rintro M18 ⟨hB19, kp20, kp21, h22⟩
  have hB23 : BF fS M M18 := BF.go hB7 hB19
  have kp24 : mI M18 55 = mI M 55 := kp_go kp8 kp20
  refine vc_aload_n dX12_stateOf_24 rfl ?_
  refine vc_iconst dX12_stateOf_25 rfl ?_
  refine vc_putI dX12_stateOf_26 (plX12_339 _ rfl) (s_54 hB23.1.1) rfl ?_
  have kp25 : mI (sI M18 54 30 (-1)) 55 = mI M 55 := (kp_sI kp24 rfl)
  have hB26 : BF fS M (sI M18 54 30 (-1)) := BF.w54_30 hB23 rfl
  refine vc_iconst dX12_stateOf_29 rfl ?_
  refine vc_istore dX12_stateOf_30 (by decide) rfl (show _ = [some (aR 54), some (aI t), some (aI k), some (aI s), some (aI 0)] from rfl) ?_
  have lp32 : ∀ (n32 : Nat) (Mq32 : Mem) (v4 : Int), (BF fS M Mq32) → (mI Mq32 55 = mI M 55) → (0 ≤ v4) → (k - v4).toNat < n32 → VC l mdX12_stateOf 32 [some (aR 54), none, some (aI k), some (aI s), some (aI v4)] [] Mq32 0 0 (fun q N => ∃ r : Int, q = some (aI r) ∧ BF fS M N ∧ mI N 55 = mI M 55) := by
    intro n32
    induction n32 with
    | zero => intro Mq32 v4 hQ32 kp32_55 g32_4a hm32; exact absurd hm32 (Nat.not_lt_zero _)
    | succ n32 ih32 =>
      intro Mq32 v4 hQ32 kp32_55 g32_4a hm32
      refine vc_iload dX12_stateOf_32 rfl ?_
      refine vc_iload_n dX12_stateOf_34 rfl ?_
      refine vc_icmp_ge dX12_stateOf_35 (fun h27 => ?_) (fun h27 => ?_)
      · refine vc_iconst dX12_stateOf_61 rfl ?_
        refine vc_aload_n dX12_stateOf_62 rfl ?_
        refine vc_getI dX12_stateOf_63 flX12_321 (s_54 hQ32.1.1) rfl ?_
        have k28 : 0 ≤ mI Mq32 54 24 ∧ mI Mq32 54 24 ≤ 15 := b54_24 (M := Mq32) hQ32.1
        refine vc_imulE dX12_stateOf_66 (by omega) (by omega) ?_
        refine vc_aload_n dX12_stateOf_67 rfl ?_
        refine vc_getI dX12_stateOf_68 flX12_324 (s_54 hQ32.1.1) rfl ?_
        have k29 : 0 ≤ mI Mq32 54 25 ∧ mI Mq32 54 25 ≤ 3 := b54_25 (M := Mq32) hQ32.1
        refine vc_iaddE dX12_stateOf_71 (by omega) (by omega) ?_
        refine vc_iret dX12_stateOf_72 rfl (Nat.le_of_ble_eq_true rfl) (Nat.le_of_ble_eq_true rfl) ?_
        exact ⟨_, rfl, hQ32, kp32_55⟩
      · refine vc_aload_n dX12_stateOf_38 rfl ?_
        refine vc_aload_n dX12_stateOf_39 rfl ?_
        refine vc_getR dX12_stateOf_40 flX12_42 (s_54 hQ32.1.1) rfl (r_54_31 hQ32.1.1) ?_
        refine vc_iload dX12_stateOf_43 rfl ?_
        refine vc_iaload dX12_stateOf_45 (s_63 hQ32.1.1) (by omega) (by omega) ?_
        refine vc_iload_n dX12_stateOf_46 rfl ?_
        refine vc_cVI dX12_stateOf_47 (sfX12_goTurn (M := Mq32) hQ32.1  (mI Mq32 63 v4.toNat) s ) rfl okX12_goTurn viX12_goTurn lkX12_361 (s_54 hQ32.1.1) cl_12 rfl (Nat.le_of_ble_eq_true rfl) ⟨rfl, rfl⟩ (Nat.le_of_ble_eq_true rfl) (Nat.le_of_ble_eq_true rfl) (Nat.le_of_ble_eq_true rfl) ?_
        rintro x30 M31 ⟨hB32, kp33, kp34, h35, h36, h37⟩
        have hB38 : BF fS M M31 := BF.go hQ32 hB32
        have kp39 : mI M31 55 = mI M 55 := kp_go kp32_55 kp33
        refine vc_if_ne dX12_stateOf_50 (fun h40 => ?_) (fun h40 => ?_)
        · refine vc_iincE dX12_stateOf_55 rfl (by omega) (by omega) (by decide) rfl (show _ = [some (aR 54), none, some (aI k), some (aI s), some (aI (v4 + 1))] from rfl) ?_
          refine vc_goto dX12_stateOf_58 ?_
          exact ih32 M31 (v4 + 1) hB38 kp39 (by omega) (by omega)
        · refine vc_iconst dX12_stateOf_53 rfl ?_
          refine vc_iret dX12_stateOf_54 rfl (Nat.le_of_ble_eq_true rfl) (Nat.le_of_ble_eq_true rfl) ?_
          exact ⟨_, rfl, hB38, kp39⟩
  refine vc_less [some (aR 54), none, some (aI k), some (aI s), some (aI 0)] (lessL_keep (lessL_drop (lessL_keep (lessL_keep (lessL_keep (lessL_nil)))))) ?_
  exact lp32 _ (sI M18 54 30 (-1)) 0 hB26 kp25 (by omega) (Nat.lt_succ_self _)

set_option maxRecDepth 4000 in
theorem sfX12_safeOf {l : Launch} {M : Mem} (hB : Box M)  (t : Int) (k : Int) (p0 : 0 ≤ t) (p1 : t ≤ 7) (p2 : 0 ≤ k) (p3 : k ≤ 6) : Call l mdX12_safeOf [aR 54, aI t, aI k] M (fun q N => ∃ r : Int, q = some (aI r) ∧ BF fQ M N ∧ mI N 55 = mI M 55) := by
  have hB0 : BF fQ M M := BF.start hB
  refine Call.of [some (aR 54), some (aI t), some (aI k), none, none, none] rfl (Nat.le_of_ble_eq_true rfl) rfl ?_
  refine vc_aload_n dX12_safeOf_0 rfl ?_
  refine vc_iload_n dX12_safeOf_1 rfl ?_
  refine vc_cVU dX12_safeOf_2 (sfX12_findWeights (M := M) hB0.1  t (by omega) (by omega)) rfl okX12_findWeights viX12_findWeights lkX12_452 (s_54 hB0.1.1) cl_12 rfl (Nat.le_of_ble_eq_true rfl) ⟨rfl, rfl⟩ (Nat.le_of_ble_eq_true rfl) (Nat.le_of_ble_eq_true rfl) (Nat.le_of_ble_eq_true rfl) ?_
  rintro M1 ⟨hB2, kp3⟩
  have hB4 : BF fQ M M1 := BF.go hB0 hB2.wq
  have kp5 : mI M1 55 = mI M 55 := kp_go rfl kp3
  refine vc_aload_n dX12_safeOf_5 rfl ?_
  refine vc_iload_n dX12_safeOf_6 rfl ?_
  refine vc_iload_n dX12_safeOf_7 rfl ?_
  refine vc_iconst dX12_safeOf_8 rfl ?_
  refine vc_cVI dX12_safeOf_9 (sfX12_stateOf (M := M1) hB4.1  t k 0 (by omega) (by omega) (by omega) (by omega)) rfl okX12_stateOf viX12_stateOf lkX12_510 (s_54 hB4.1.1) cl_12 rfl (Nat.le_of_ble_eq_true rfl) ⟨rfl, rfl⟩ (Nat.le_of_ble_eq_true rfl) (Nat.le_of_ble_eq_true rfl) (Nat.le_of_ble_eq_true rfl) ?_
  rintro x6 M7 ⟨hB8, kp9⟩
  have hB10 : BF fQ M M7 := BF.go hB4 hB8.sq
  have kp11 : mI M7 55 = mI M 55 := kp_go kp5 kp9
  refine vc_istore_n dX12_safeOf_12 (by decide) rfl (show _ = [some (aR 54), some (aI t), some (aI k), some (aI x6), none, none] from rfl) ?_
  refine vc_iconst dX12_safeOf_13 rfl ?_
  refine vc_istore dX12_safeOf_14 (by decide) rfl (show _ = [some (aR 54), some (aI t), some (aI k), some (aI x6), some (aI 0), none] from rfl) ?_
  refine vc_iconst dX12_safeOf_16 rfl ?_
  refine vc_istore dX12_safeOf_17 (by decide) rfl (show _ = [some (aR 54), some (aI t), some (aI k), some (aI x6), some (aI 0), some (aI 0)] from rfl) ?_
  have lp19 : ∀ (n19 : Nat) (Mq19 : Mem) (v4 : Int) (v5 : Int), (BF fQ M Mq19) → (mI Mq19 55 = mI M 55) → (0 ≤ v5) → (v5 ≤ 8) → (8 - v5).toNat < n19 → VC l mdX12_safeOf 19 [some (aR 54), some (aI t), some (aI k), some (aI x6), some (aI v4), some (aI v5)] [] Mq19 0 0 (fun q N => ∃ r : Int, q = some (aI r) ∧ BF fQ M N ∧ mI N 55 = mI M 55) := by
    intro n19
    induction n19 with
    | zero => intro Mq19 v4 v5 hQ19 kp19_55 g19_5a g19_5b hm19; exact absurd hm19 (Nat.not_lt_zero _)
    | succ n19 ih19 =>
      intro Mq19 v4 v5 hQ19 kp19_55 g19_5a g19_5b hm19
      refine vc_iload dX12_safeOf_19 rfl ?_
      refine vc_bipush dX12_safeOf_21 rfl ?_
      refine vc_icmp_ge dX12_safeOf_23 (fun h12 => ?_) (fun h12 => ?_)
      · refine vc_iload dX12_safeOf_64 rfl ?_
        refine vc_iret dX12_safeOf_66 rfl (Nat.le_of_ble_eq_true rfl) (Nat.le_of_ble_eq_true rfl) ?_
        exact ⟨_, rfl, hQ19, kp19_55⟩
      · refine vc_iload_n dX12_safeOf_26 rfl ?_
        refine vc_if_lt dX12_safeOf_27 (fun h13 => ?_) (fun h13 => ?_)
        · refine vc_iload dX12_safeOf_64 rfl ?_
          refine vc_iret dX12_safeOf_66 rfl (Nat.le_of_ble_eq_true rfl) (Nat.le_of_ble_eq_true rfl) ?_
          exact ⟨_, rfl, hQ19, kp19_55⟩
        · refine vc_iload dX12_safeOf_30 rfl ?_
          refine vc_aload_n dX12_safeOf_32 rfl ?_
          refine vc_iload_n dX12_safeOf_33 rfl ?_
          refine vc_iload_n dX12_safeOf_34 rfl ?_
          refine vc_iload dX12_safeOf_35 rfl ?_
          refine vc_cVI dX12_safeOf_37 (sfX12_stateOf (M := Mq19) hQ19.1  t k v5 (by omega) (by omega) (by omega) (by omega)) rfl okX12_stateOf viX12_stateOf lkX12_510 (s_54 hQ19.1.1) cl_12 rfl (Nat.le_of_ble_eq_true rfl) ⟨rfl, rfl⟩ (Nat.le_of_ble_eq_true rfl) (Nat.le_of_ble_eq_true rfl) (Nat.le_of_ble_eq_true rfl) ?_
          rintro x14 M15 ⟨hB16, kp17⟩
          have hB18 : BF fQ M M15 := BF.go hQ19 hB16.sq
          have kp19 : mI M15 55 = mI M 55 := kp_go kp19_55 kp17
          refine vc_iload_n dX12_safeOf_40 rfl ?_
          refine vc_icmp_ne dX12_safeOf_41 (fun h20 => ?_) (fun h20 => ?_)
          · refine vc_iconst dX12_safeOf_54 rfl ?_
            refine vc_iadd dX12_safeOf_55 ?_
            refine vc_nameI (fun x21 ex21 => ?_)
            refine vc_istore dX12_safeOf_56 (by decide) rfl (show _ = [some (aR 54), some (aI t), some (aI k), some (aI x6), some (aI x21), some (aI v5)] from rfl) ?_
            refine vc_iincE dX12_safeOf_58 rfl (by omega) (by omega) (by decide) rfl (show _ = [some (aR 54), some (aI t), some (aI k), some (aI x6), some (aI x21), some (aI (v5 + 1))] from rfl) ?_
            refine vc_goto dX12_safeOf_61 ?_
            exact ih19 M15 x21 (v5 + 1) hB18 kp19 (by omega) (by omega) (by omega)
          · refine vc_aload_n dX12_safeOf_44 rfl ?_
            refine vc_getR dX12_safeOf_45 flX12_48 (s_54 hB18.1.1) rfl (r_54_34 hB18.1.1) ?_
            refine vc_iload dX12_safeOf_48 rfl ?_
            refine vc_iaload dX12_safeOf_50 (s_65 hB18.1.1) (by omega) (by omega) ?_
            refine vc_goto dX12_safeOf_51 ?_
            refine vc_iadd dX12_safeOf_55 ?_
            refine vc_nameI (fun x22 ex22 => ?_)
            refine vc_istore dX12_safeOf_56 (by decide) rfl (show _ = [some (aR 54), some (aI t), some (aI k), some (aI x6), some (aI x22), some (aI v5)] from rfl) ?_
            refine vc_iincE dX12_safeOf_58 rfl (by omega) (by omega) (by decide) rfl (show _ = [some (aR 54), some (aI t), some (aI k), some (aI x6), some (aI x22), some (aI (v5 + 1))] from rfl) ?_
            refine vc_goto dX12_safeOf_61 ?_
            exact ih19 M15 x22 (v5 + 1) hB18 kp19 (by omega) (by omega) (by omega)
  exact lp19 _ M7 0 0 hB10 kp11 (by omega) (by omega) (Nat.lt_succ_self _)

set_option maxRecDepth 4000 in
theorem sfX12_safeSoFar {l : Launch} {M : Mem} (hB : Box M)  (t : Int) (k : Int) (low : Int)  : Call l mdX12_safeSoFar [aR 54, aI t, aI k, aI low] M (fun q N => ∃ r : Int, q = some (aI r) ∧ BF fQ M N) := by
  have hB0 : BF fQ M M := BF.start hB
  refine Call.of [some (aR 54), some (aI t), some (aI k), some (aI low)] rfl (Nat.le_of_ble_eq_true rfl) rfl ?_
  refine vc_ok (fun hoM hoS hoL => ?_)
  have hr1 : -2147483648 ≤ t ∧ t < 2147483648 := hoL 1 _ rfl
  have hr2 : -2147483648 ≤ k ∧ k < 2147483648 := hoL 2 _ rfl
  have hr3 : -2147483648 ≤ low ∧ low < 2147483648 := hoL 3 _ rfl
  refine vc_aload_n dX12_safeSoFar_0 rfl ?_
  refine vc_iload_n dX12_safeSoFar_1 rfl ?_
  refine vc_cVI dX12_safeSoFar_2 (sfX12_isTelling (M := M) hB0.1  t ) rfl okX12_isTelling viX12_isTelling lkX12_400 (s_54 hB0.1.1) cl_12 rfl (Nat.le_of_ble_eq_true rfl) ⟨rfl, rfl⟩ (Nat.le_of_ble_eq_true rfl) (Nat.le_of_ble_eq_true rfl) (Nat.le_of_ble_eq_true rfl) ?_
  rintro x1 _ ⟨rfl, h2, h3, h4⟩
  refine vc_if_eq dX12_safeSoFar_5 (fun h5 => ?_) (fun h5 => ?_)
  · refine vc_iconst dX12_safeSoFar_21 rfl ?_
    refine vc_iret dX12_safeSoFar_22 rfl (Nat.le_of_ble_eq_true rfl) (Nat.le_of_ble_eq_true rfl) ?_
    exact ⟨_, rfl, hB0⟩
  · refine vc_iload_n dX12_safeSoFar_8 rfl ?_
    refine vc_iconst dX12_safeSoFar_9 rfl ?_
    refine vc_aload_n dX12_safeSoFar_10 rfl ?_
    refine vc_iload_n dX12_safeSoFar_11 rfl ?_
    refine vc_cVI dX12_safeSoFar_12 (sfX12_turnsOf (M := M) hB0.1  t (by omega) (by omega)) rfl okX12_turnsOf viX12_turnsOf lkX12_305 (s_54 hB0.1.1) cl_12 rfl (Nat.le_of_ble_eq_true rfl) ⟨rfl, rfl⟩ (Nat.le_of_ble_eq_true rfl) (Nat.le_of_ble_eq_true rfl) (Nat.le_of_ble_eq_true rfl) ?_
    rintro x6 _ ⟨rfl, h7, h8, h9⟩
    refine vc_cSI dX12_safeSoFar_15 (sfX12_isIn (M := M) hB0.1  k 0 x6 ) rfl okX12_isIn stX12_isIn lkX12_83 rfl (Nat.le_of_ble_eq_true rfl) ⟨rfl, rfl⟩ (Nat.le_of_ble_eq_true rfl) (Nat.le_of_ble_eq_true rfl) (Nat.le_of_ble_eq_true rfl) ?_
    rintro x10 _ ⟨rfl, h11, h12, h13⟩
    refine vc_if_ne dX12_safeSoFar_18 (fun h14 => ?_) (fun h14 => ?_)
    · refine vc_aload_n dX12_safeSoFar_23 rfl ?_
      refine vc_iload_n dX12_safeSoFar_24 rfl ?_
      refine vc_iload_n dX12_safeSoFar_25 rfl ?_
      refine vc_cVI dX12_safeSoFar_26 (sfX12_safeOf (M := M) hB0.1  t k (by omega) (by omega) (by omega) (by omega)) rfl okX12_safeOf viX12_safeOf lkX12_513 (s_54 hB0.1.1) cl_12 rfl (Nat.le_of_ble_eq_true rfl) ⟨rfl, rfl⟩ (Nat.le_of_ble_eq_true rfl) (Nat.le_of_ble_eq_true rfl) (Nat.le_of_ble_eq_true rfl) ?_
      rintro x15 M16 ⟨hB17, kp18⟩
      have hB19 : BF fQ M M16 := BF.go hB0 hB17
      refine vc_i2l dX12_safeSoFar_29 ?_
      refine vc_ldc2 dX12_safeSoFar_30 rfl klX12_516 ?_
      refine vc_iload_n dX12_safeSoFar_33 rfl ?_
      refine vc_cSL dX12_safeSoFar_34 (sfX12_part (M := M16) hB19.1  x15 1000 low ) rfl okX12_part stX12_part lkX12_476 rfl (Nat.le_of_ble_eq_true rfl) ⟨rfl, rfl⟩ (Nat.le_of_ble_eq_true rfl) (Nat.le_of_ble_eq_true rfl) (Nat.le_of_ble_eq_true rfl) ?_
      rintro x20 _ rfl
      refine vc_l2i dX12_safeSoFar_37 ?_
      refine vc_iret dX12_safeSoFar_38 rfl (Nat.le_of_ble_eq_true rfl) (Nat.le_of_ble_eq_true rfl) ?_
      exact ⟨_, rfl, hB19⟩
    · refine vc_iconst dX12_safeSoFar_21 rfl ?_
      refine vc_iret dX12_safeSoFar_22 rfl (Nat.le_of_ble_eq_true rfl) (Nat.le_of_ble_eq_true rfl) ?_
      exact ⟨_, rfl, hB0⟩

set_option maxRecDepth 4000 in
theorem sfX12_howFar {l : Launch} {M : Mem} (hB : Box M)  (t : Int) (q : Int)  : Call l mdX12_howFar [aR 54, aI t, aI q] M (fun q N => ∃ r : Int, q = some (aI r) ∧ BF fQ M N) := by
  have hB0 : BF fQ M M := BF.start hB
  refine Call.of [some (aR 54), some (aI t), some (aI q), none] rfl (Nat.le_of_ble_eq_true rfl) rfl ?_
  refine vc_ok (fun hoM hoS hoL => ?_)
  have hr1 : -2147483648 ≤ t ∧ t < 2147483648 := hoL 1 _ rfl
  have hr2 : -2147483648 ≤ q ∧ q < 2147483648 := hoL 2 _ rfl
  refine vc_aload_n dX12_howFar_0 rfl ?_
  refine vc_iload_n dX12_howFar_1 rfl ?_
  refine vc_cVI dX12_howFar_2 (sfX12_isTelling (M := M) hB0.1  t ) rfl okX12_isTelling viX12_isTelling lkX12_400 (s_54 hB0.1.1) cl_12 rfl (Nat.le_of_ble_eq_true rfl) ⟨rfl, rfl⟩ (Nat.le_of_ble_eq_true rfl) (Nat.le_of_ble_eq_true rfl) (Nat.le_of_ble_eq_true rfl) ?_
  rintro x1 _ ⟨rfl, h2, h3, h4⟩
  refine vc_if_eq dX12_howFar_5 (fun h5 => ?_) (fun h5 => ?_)
  · refine vc_iconst dX12_howFar_18 rfl ?_
    refine vc_iret dX12_howFar_19 rfl (Nat.le_of_ble_eq_true rfl) (Nat.le_of_ble_eq_true rfl) ?_
    exact ⟨_, rfl, hB0⟩
  · refine vc_iload_n dX12_howFar_8 rfl ?_
    refine vc_iconst dX12_howFar_9 rfl ?_
    refine vc_bipush dX12_howFar_10 rfl ?_
    refine vc_cSI dX12_howFar_12 (sfX12_isIn (M := M) hB0.1  q 1 100 ) rfl okX12_isIn stX12_isIn lkX12_83 rfl (Nat.le_of_ble_eq_true rfl) ⟨rfl, rfl⟩ (Nat.le_of_ble_eq_true rfl) (Nat.le_of_ble_eq_true rfl) (Nat.le_of_ble_eq_true rfl) ?_
    rintro x6 _ ⟨rfl, h7, h8, h9⟩
    refine vc_if_ne dX12_howFar_15 (fun h10 => ?_) (fun h10 => ?_)
    · refine vc_iconst dX12_howFar_20 rfl ?_
      refine vc_istore_n dX12_howFar_21 (by decide) rfl (show _ = [some (aR 54), some (aI t), some (aI q), some (aI 0)] from rfl) ?_
      have lp22 : ∀ (n22 : Nat) (Mq22 : Mem) (v3 : Int), (BF fQ M Mq22) → (0 ≤ v3) → (v3 ≤ 6) → (6 - v3).toNat < n22 → VC l mdX12_howFar 22 [some (aR 54), some (aI t), some (aI q), some (aI v3)] [] Mq22 0 0 (fun q N => ∃ r : Int, q = some (aI r) ∧ BF fQ M N) := by
        intro n22
        induction n22 with
        | zero => intro Mq22 v3 hQ22 g22_3a g22_3b hm22; exact absurd hm22 (Nat.not_lt_zero _)
        | succ n22 ih22 =>
          intro Mq22 v3 hQ22 g22_3a g22_3b hm22
          refine vc_iload_n dX12_howFar_22 rfl ?_
          refine vc_aload_n dX12_howFar_23 rfl ?_
          refine vc_iload_n dX12_howFar_24 rfl ?_
          refine vc_cVI dX12_howFar_25 (sfX12_turnsOf (M := Mq22) hQ22.1  t (by omega) (by omega)) rfl okX12_turnsOf viX12_turnsOf lkX12_305 (s_54 hQ22.1.1) cl_12 rfl (Nat.le_of_ble_eq_true rfl) ⟨rfl, rfl⟩ (Nat.le_of_ble_eq_true rfl) (Nat.le_of_ble_eq_true rfl) (Nat.le_of_ble_eq_true rfl) ?_
          rintro x11 _ ⟨rfl, h12, h13, h14⟩
          refine vc_icmp_ge dX12_howFar_28 (fun h15 => ?_) (fun h15 => ?_)
          · refine vc_iload_n dX12_howFar_52 rfl ?_
            refine vc_iret dX12_howFar_53 rfl (Nat.le_of_ble_eq_true rfl) (Nat.le_of_ble_eq_true rfl) ?_
            exact ⟨_, rfl, hQ22⟩
          · refine vc_aload_n dX12_howFar_31 rfl ?_
            refine vc_iload_n dX12_howFar_32 rfl ?_
            refine vc_iload_n dX12_howFar_33 rfl ?_
            refine vc_iconst dX12_howFar_34 rfl ?_
            refine vc_iaddE dX12_howFar_35 (by omega) (by omega) ?_
            refine vc_cVI dX12_howFar_36 (sfX12_safeOf (M := Mq22) hQ22.1  t (v3 + 1) (by omega) (by omega) (by omega) (by omega)) rfl okX12_safeOf viX12_safeOf lkX12_513 (s_54 hQ22.1.1) cl_12 rfl (Nat.le_of_ble_eq_true rfl) ⟨rfl, rfl⟩ (Nat.le_of_ble_eq_true rfl) (Nat.le_of_ble_eq_true rfl) (Nat.le_of_ble_eq_true rfl) ?_
            rintro x16 M17 ⟨hB18, kp19⟩
            have hB20 : BF fQ M M17 := BF.go hQ22 hB18
            refine vc_bipush dX12_howFar_39 rfl ?_
            refine vc_iload_n dX12_howFar_41 rfl ?_
            refine vc_imulE dX12_howFar_42 (by omega) (by omega) ?_
            refine vc_icmp_lt dX12_howFar_43 (fun h21 => ?_) (fun h21 => ?_)
            · refine vc_iload_n dX12_howFar_52 rfl ?_
              refine vc_iret dX12_howFar_53 rfl (Nat.le_of_ble_eq_true rfl) (Nat.le_of_ble_eq_true rfl) ?_
              exact ⟨_, rfl, hB20⟩
            · refine vc_iincE dX12_howFar_46 rfl (by omega) (by omega) (by decide) rfl (show _ = [some (aR 54), some (aI t), some (aI q), some (aI (v3 + 1))] from rfl) ?_
              refine vc_goto dX12_howFar_49 ?_
              exact ih22 M17 (v3 + 1) hB20 (by omega) (by omega) (by omega)
      exact lp22 _ M 0 hB0 (by omega) (by omega) (Nat.lt_succ_self _)
    · refine vc_iconst dX12_howFar_18 rfl ?_
      refine vc_iret dX12_howFar_19 rfl (Nat.le_of_ble_eq_true rfl) (Nat.le_of_ble_eq_true rfl) ?_
      exact ⟨_, rfl, hB0⟩

set_option maxRecDepth 4000 in
theorem sfX12_lost {l : Launch} {M : Mem} (hB : Box M)  (t : Int) (c : Int)  : Call l mdX12_lost [aR 54, aI t, aI c] M (fun q N => ∃ r : Int, q = some (aI r) ∧ BF fQ M N) := by
  have hB0 : BF fQ M M := BF.start hB
  refine Call.of [some (aR 54), some (aI t), some (aI c), none] rfl (Nat.le_of_ble_eq_true rfl) rfl ?_
  refine vc_ok (fun hoM hoS hoL => ?_)
  have hr1 : -2147483648 ≤ t ∧ t < 2147483648 := hoL 1 _ rfl
  have hr2 : -2147483648 ≤ c ∧ c < 2147483648 := hoL 2 _ rfl
  refine vc_aload_n dX12_lost_0 rfl ?_
  refine vc_iload_n dX12_lost_1 rfl ?_
  refine vc_cVI dX12_lost_2 (sfX12_isTelling (M := M) hB0.1  t ) rfl okX12_isTelling viX12_isTelling lkX12_400 (s_54 hB0.1.1) cl_12 rfl (Nat.le_of_ble_eq_true rfl) ⟨rfl, rfl⟩ (Nat.le_of_ble_eq_true rfl) (Nat.le_of_ble_eq_true rfl) (Nat.le_of_ble_eq_true rfl) ?_
  rintro x1 _ ⟨rfl, h2, h3, h4⟩
  refine vc_if_eq dX12_lost_5 (fun h5 => ?_) (fun h5 => ?_)
  · refine vc_iconst dX12_lost_25 rfl ?_
    refine vc_iret dX12_lost_26 rfl (Nat.le_of_ble_eq_true rfl) (Nat.le_of_ble_eq_true rfl) ?_
    exact ⟨_, rfl, hB0⟩
  · refine vc_aload_n dX12_lost_8 rfl ?_
    refine vc_iload_n dX12_lost_9 rfl ?_
    refine vc_cVI dX12_lost_10 (sfX12_isCorner (M := M) hB0.1  c ) rfl okX12_isCorner viX12_isCorner lkX12_87 (s_54 hB0.1.1) cl_12 rfl (Nat.le_of_ble_eq_true rfl) ⟨rfl, rfl⟩ (Nat.le_of_ble_eq_true rfl) (Nat.le_of_ble_eq_true rfl) (Nat.le_of_ble_eq_true rfl) ?_
    rintro x6 _ ⟨rfl, h7, h8, h9⟩
    refine vc_if_eq dX12_lost_13 (fun h10 => ?_) (fun h10 => ?_)
    · refine vc_iconst dX12_lost_25 rfl ?_
      refine vc_iret dX12_lost_26 rfl (Nat.le_of_ble_eq_true rfl) (Nat.le_of_ble_eq_true rfl) ?_
      exact ⟨_, rfl, hB0⟩
    · refine vc_aload_n dX12_lost_16 rfl ?_
      refine vc_iload_n dX12_lost_17 rfl ?_
      refine vc_cVI dX12_lost_18 (sfX12_turnsOf (M := M) hB0.1  t (by omega) (by omega)) rfl okX12_turnsOf viX12_turnsOf lkX12_305 (s_54 hB0.1.1) cl_12 rfl (Nat.le_of_ble_eq_true rfl) ⟨rfl, rfl⟩ (Nat.le_of_ble_eq_true rfl) (Nat.le_of_ble_eq_true rfl) (Nat.le_of_ble_eq_true rfl) ?_
      rintro x11 _ ⟨rfl, h12, h13, h14⟩
      have f2 := h14
      refine vc_iconst dX12_lost_21 rfl ?_
      refine vc_icmp_ge dX12_lost_22 (fun h15 => ?_) (fun h15 => ?_)
      · refine vc_iconst dX12_lost_27 rfl ?_
        refine vc_istore_n dX12_lost_28 (by decide) rfl (show _ = [some (aR 54), some (aI t), some (aI c), some (aI 0)] from rfl) ?_
        have lp29 : ∀ (n29 : Nat) (Mq29 : Mem) (v3 : Int), (BF fQ M Mq29) → (mI Mq29 55 = mI M 55) → (0 ≤ v3) → (v3 ≤ 6) → (6 - v3).toNat < n29 → VC l mdX12_lost 29 [some (aR 54), some (aI t), some (aI c), some (aI v3)] [] Mq29 0 0 (fun q N => ∃ r : Int, q = some (aI r) ∧ BF fQ M N) := by
          intro n29
          induction n29 with
          | zero => intro Mq29 v3 hQ29 kp29_55 g29_3a g29_3b hm29; exact absurd hm29 (Nat.not_lt_zero _)
          | succ n29 ih29 =>
            intro Mq29 v3 hQ29 kp29_55 g29_3a g29_3b hm29
            refine vc_iload_n dX12_lost_29 rfl ?_
            refine vc_aload_n dX12_lost_30 rfl ?_
            refine vc_iload_n dX12_lost_31 rfl ?_
            refine vc_cVI dX12_lost_32 (sfX12_turnsOf (M := Mq29) hQ29.1  t (by omega) (by omega)) rfl okX12_turnsOf viX12_turnsOf lkX12_305 (s_54 hQ29.1.1) cl_12 rfl (Nat.le_of_ble_eq_true rfl) ⟨rfl, rfl⟩ (Nat.le_of_ble_eq_true rfl) (Nat.le_of_ble_eq_true rfl) (Nat.le_of_ble_eq_true rfl) ?_
            rintro x16 _ ⟨rfl, h17, h18, h19⟩
            have f2 := h19
            have f5 := congrFun kp29_55 (((184 + (9 * t)) + 2)).toNat
            refine vc_icmp_ge dX12_lost_35 (fun h20 => ?_) (fun h20 => ?_)
            · refine vc_iconst dX12_lost_91 rfl ?_
              refine vc_iret dX12_lost_92 rfl (Nat.le_of_ble_eq_true rfl) (Nat.le_of_ble_eq_true rfl) ?_
              exact ⟨_, rfl, hQ29⟩
            · refine vc_aload_n dX12_lost_38 rfl ?_
              refine vc_iload_n dX12_lost_39 rfl ?_
              refine vc_iload_n dX12_lost_40 rfl ?_
              refine vc_cVU dX12_lost_41 (sfX12_takeTurns (M := Mq29) hQ29.1  t v3 (by omega) (by omega)) rfl okX12_takeTurns viX12_takeTurns lkX12_364 (s_54 hQ29.1.1) cl_12 rfl (Nat.le_of_ble_eq_true rfl) ⟨rfl, rfl⟩ (Nat.le_of_ble_eq_true rfl) (Nat.le_of_ble_eq_true rfl) (Nat.le_of_ble_eq_true rfl) ?_
              rintro M21 ⟨hB22, kp23, kp24, h25, h26⟩
              have hB27 : BF fQ M M21 := BF.go hQ29 hB22.sq
              have kp28 : mI M21 55 = mI M 55 := kp_go kp29_55 kp23
              refine vc_aload_n dX12_lost_44 rfl ?_
              refine vc_aload_n dX12_lost_45 rfl ?_
              refine vc_aload_n dX12_lost_46 rfl ?_
              refine vc_iload_n dX12_lost_47 rfl ?_
              refine vc_cVI dX12_lost_48 (sfX12_tellerOf (M := M21) hB27.1  t (by omega) (by omega)) rfl okX12_tellerOf viX12_tellerOf lkX12_299 (s_54 hB27.1.1) cl_12 rfl (Nat.le_of_ble_eq_true rfl) ⟨rfl, rfl⟩ (Nat.le_of_ble_eq_true rfl) (Nat.le_of_ble_eq_true rfl) (Nat.le_of_ble_eq_true rfl) ?_
              rintro x29 _ ⟨rfl, h30, h31⟩
              refine vc_cVI dX12_lost_51 (sfX12_cornerOf (M := M21) hB27.1  x29 (by omega) (by omega)) rfl okX12_cornerOf viX12_cornerOf lkX12_296 (s_54 hB27.1.1) cl_12 rfl (Nat.le_of_ble_eq_true rfl) ⟨rfl, rfl⟩ (Nat.le_of_ble_eq_true rfl) (Nat.le_of_ble_eq_true rfl) (Nat.le_of_ble_eq_true rfl) ?_
              rintro x32 _ ⟨rfl, h33, h34⟩
              refine vc_aload_n dX12_lost_54 rfl ?_
              refine vc_iload_n dX12_lost_55 rfl ?_
              refine vc_cVI dX12_lost_56 (sfX12_facingOf (M := M21) hB27.1  t (by omega) (by omega)) rfl okX12_facingOf viX12_facingOf lkX12_308 (s_54 hB27.1.1) cl_12 rfl (Nat.le_of_ble_eq_true rfl) ⟨rfl, rfl⟩ (Nat.le_of_ble_eq_true rfl) (Nat.le_of_ble_eq_true rfl) (Nat.le_of_ble_eq_true rfl) ?_
              rintro x35 _ ⟨rfl, h36, h37⟩
              refine vc_cVU dX12_lost_59 (sfX12_begin (M := M21) hB27.1  x32 x35 (by omega) (by omega) (by omega) (by omega)) rfl okX12_begin viX12_begin lkX12_367 (s_54 hB27.1.1) cl_12 rfl (Nat.le_of_ble_eq_true rfl) ⟨rfl, rfl⟩ (Nat.le_of_ble_eq_true rfl) (Nat.le_of_ble_eq_true rfl) (Nat.le_of_ble_eq_true rfl) ?_
              rintro M38 ⟨hB39, kp40, kp41, h42⟩
              have hB43 : BF fQ M M38 := BF.go hB27 hB39.sq
              have kp44 : mI M38 55 = mI M 55 := kp_go kp28 kp40
              refine vc_aload_n dX12_lost_62 rfl ?_
              refine vc_iconst dX12_lost_63 rfl ?_
              refine vc_putI dX12_lost_64 (plX12_339 _ rfl) (s_54 hB43.1.1) rfl ?_
              have kp45 : mI (sI M38 54 30 (-1)) 55 = mI M 55 := (kp_sI kp44 rfl)
              have hB46 : BF fQ M (sI M38 54 30 (-1)) := BF.w54_30 hB43 rfl
              refine vc_aload_n dX12_lost_67 rfl ?_
              refine vc_iconst dX12_lost_68 rfl ?_
              have k47 : mI (sI M38 54 30 (-1)) 54 32 = mI M38 54 32 := rfl
              refine vc_cVI dX12_lost_69 (sfX12_goAll (M := (sI M38 54 30 (-1))) hB46.1  0 (by omega)) rfl okX12_goAll viX12_goAll lkX12_370 (s_54 hB46.1.1) cl_12 rfl (Nat.le_of_ble_eq_true rfl) ⟨rfl, rfl⟩ (Nat.le_of_ble_eq_true rfl) (Nat.le_of_ble_eq_true rfl) (Nat.le_of_ble_eq_true rfl) ?_
              rintro x48 M49 ⟨hB50, kp51, kp52, h53, h54, h55⟩
              have hB56 : BF fQ M M49 := BF.go hB46 hB50.sq
              have kp57 : mI M49 55 = mI M 55 := kp_go kp45 kp51
              refine vc_if_eq dX12_lost_72 (fun h58 => ?_) (fun h58 => ?_)
              · refine vc_iincE dX12_lost_85 rfl (by omega) (by omega) (by decide) rfl (show _ = [some (aR 54), some (aI t), some (aI c), some (aI (v3 + 1))] from rfl) ?_
                refine vc_goto dX12_lost_88 ?_
                exact ih29 M49 (v3 + 1) hB56 kp57 (by omega) (by omega) (by omega)
              · refine vc_aload_n dX12_lost_75 rfl ?_
                refine vc_getI dX12_lost_76 flX12_321 (s_54 hB56.1.1) rfl ?_
                have k59 : 0 ≤ mI M49 54 24 ∧ mI M49 54 24 ≤ 15 := b54_24 (M := M49) hB56.1
                refine vc_iload_n dX12_lost_79 rfl ?_
                refine vc_icmp_ne dX12_lost_80 (fun h60 => ?_) (fun h60 => ?_)
                · refine vc_iincE dX12_lost_85 rfl (by omega) (by omega) (by decide) rfl (show _ = [some (aR 54), some (aI t), some (aI c), some (aI (v3 + 1))] from rfl) ?_
                  refine vc_goto dX12_lost_88 ?_
                  exact ih29 M49 (v3 + 1) hB56 kp57 (by omega) (by omega) (by omega)
                · refine vc_iload_n dX12_lost_83 rfl ?_
                  refine vc_iret dX12_lost_84 rfl (Nat.le_of_ble_eq_true rfl) (Nat.le_of_ble_eq_true rfl) ?_
                  exact ⟨_, rfl, hB56⟩
        exact lp29 _ M 0 hB0 rfl (by omega) (by omega) (Nat.lt_succ_self _)
      · refine vc_iconst dX12_lost_25 rfl ?_
        refine vc_iret dX12_lost_26 rfl (Nat.le_of_ble_eq_true rfl) (Nat.le_of_ble_eq_true rfl) ?_
        exact ⟨_, rfl, hB0⟩

set_option maxRecDepth 4000 in
theorem sfX12_turnOf {l : Launch} {M : Mem} (hB : Box M)  (k : Int)  : Call l mdX12_turnOf [aI k] M (fun q N => ∃ r : Int, q = some (aI r) ∧ M = N) := by
  have hB0 : BF fQ M M := BF.start hB
  refine Call.of [some (aI k)] rfl (Nat.le_of_ble_eq_true rfl) rfl ?_
  refine vc_ok (fun hoM hoS hoL => ?_)
  have hr0 : -2147483648 ≤ k ∧ k < 2147483648 := hoL 0 _ rfl
  refine vc_bipush dX12_turnOf_0 rfl ?_
  refine vc_iload_n dX12_turnOf_2 rfl ?_
  refine vc_bipush dX12_turnOf_3 rfl ?_
  refine vc_idiv dX12_turnOf_5 (by omega) ?_
  refine vc_iconst dX12_turnOf_6 rfl ?_
  refine vc_iadd dX12_turnOf_7 ?_
  refine vc_imul dX12_turnOf_8 ?_
  refine vc_iload_n dX12_turnOf_9 rfl ?_
  refine vc_bipush dX12_turnOf_10 rfl ?_
  refine vc_irem dX12_turnOf_12 (by omega) ?_
  refine vc_iconst dX12_turnOf_13 rfl ?_
  refine vc_icmp_ge dX12_turnOf_14 (fun h1 => ?_) (fun h1 => ?_)
  · refine vc_bipush dX12_turnOf_26 rfl ?_
    refine vc_iload_n dX12_turnOf_28 rfl ?_
    refine vc_bipush dX12_turnOf_29 rfl ?_
    refine vc_irem dX12_turnOf_31 (by omega) ?_
    refine vc_iadd dX12_turnOf_32 ?_
    refine vc_iconst dX12_turnOf_33 rfl ?_
    refine vc_isub dX12_turnOf_34 ?_
    refine vc_iadd dX12_turnOf_35 ?_
    refine vc_iret dX12_turnOf_36 rfl (Nat.le_of_ble_eq_true rfl) (Nat.le_of_ble_eq_true rfl) ?_
    exact ⟨_, rfl, rfl⟩
  · refine vc_iload_n dX12_turnOf_17 rfl ?_
    refine vc_bipush dX12_turnOf_18 rfl ?_
    refine vc_irem dX12_turnOf_20 (by omega) ?_
    refine vc_iconst dX12_turnOf_21 rfl ?_
    refine vc_iadd dX12_turnOf_22 ?_
    refine vc_goto dX12_turnOf_23 ?_
    refine vc_iadd dX12_turnOf_35 ?_
    refine vc_iret dX12_turnOf_36 rfl (Nat.le_of_ble_eq_true rfl) (Nat.le_of_ble_eq_true rfl) ?_
    exact ⟨_, rfl, rfl⟩

set_option maxRecDepth 4000 in
theorem sfX12_leadsToGoal {l : Launch} {M : Mem} (hB : Box M)  (c : Int) (f : Int) (s : Int) (p0 : 0 ≤ c) (p1 : c ≤ 15) (p2 : 0 ≤ f) (p3 : f ≤ 3) (p4 : 1 ≤ mI M 54 32) : Call l mdX12_leadsToGoal [aR 54, aI c, aI f, aI s] M (fun q N => ∃ r : Int, q = some (aI r) ∧ BF fQ M N ∧ mI N 55 = mI M 55 ∧ 0 ≤ r ∧ r ≤ 1 ∧ mI N 54 32 = mI M 54 32) := by
  have hB0 : BF fQ M M := BF.start hB
  refine Call.of [some (aR 54), some (aI c), some (aI f), some (aI s), none] rfl (Nat.le_of_ble_eq_true rfl) rfl ?_
  refine vc_ok (fun hoM hoS hoL => ?_)
  have hr3 : -2147483648 ≤ s ∧ s < 2147483648 := hoL 3 _ rfl
  refine vc_iconst dX12_leadsToGoal_0 rfl ?_
  refine vc_istore dX12_leadsToGoal_1 (by decide) rfl (show _ = [some (aR 54), some (aI c), some (aI f), some (aI s), some (aI 0)] from rfl) ?_
  have lp3 : ∀ (n3 : Nat) (Mq3 : Mem) (v4 : Int), (BF fQ M Mq3) → (mI Mq3 55 = mI M 55) → (0 ≤ v4) → (v4 ≤ 8) → (mI Mq3 54 32 = mI M 54 32) → (8 - v4).toNat < n3 → VC l mdX12_leadsToGoal 3 [some (aR 54), some (aI c), some (aI f), some (aI s), some (aI v4)] [] Mq3 0 0 (fun q N => ∃ r : Int, q = some (aI r) ∧ BF fQ M N ∧ mI N 55 = mI M 55 ∧ 0 ≤ r ∧ r ≤ 1 ∧ mI N 54 32 = mI M 54 32) := by
    intro n3
    induction n3 with
    | zero => intro Mq3 v4 hQ3 kp3_55 g3_4a g3_4b g3i0 hm3; exact absurd hm3 (Nat.not_lt_zero _)
    | succ n3 ih3 =>
      intro Mq3 v4 hQ3 kp3_55 g3_4a g3_4b g3i0 hm3
      refine vc_iload dX12_leadsToGoal_3 rfl ?_
      refine vc_bipush dX12_leadsToGoal_5 rfl ?_
      refine vc_icmp_ge dX12_leadsToGoal_7 (fun h1 => ?_) (fun h1 => ?_)
      · refine vc_iconst dX12_leadsToGoal_63 rfl ?_
        refine vc_zret dX12_leadsToGoal_64 rfl (by first | decide | omega) (Nat.le_of_ble_eq_true rfl) (Nat.le_of_ble_eq_true rfl) ?_
        exact ⟨_, rfl, hQ3, kp3_55, by omega, by omega, by omega⟩
      · refine vc_iload dX12_leadsToGoal_10 rfl ?_
        refine vc_iload_n dX12_leadsToGoal_12 rfl ?_
        refine vc_iconst dX12_leadsToGoal_13 rfl ?_
        refine vc_ixor dX12_leadsToGoal_14 ?_
        refine vc_iand dX12_leadsToGoal_15 ?_
        refine vc_if_eq dX12_leadsToGoal_16 (fun h2 => ?_) (fun h2 => ?_)
        · refine vc_aload_n dX12_leadsToGoal_22 rfl ?_
          refine vc_iload_n dX12_leadsToGoal_23 rfl ?_
          refine vc_iload_n dX12_leadsToGoal_24 rfl ?_
          refine vc_cVU dX12_leadsToGoal_25 (sfX12_begin (M := Mq3) hQ3.1  c f (by omega) (by omega) (by omega) (by omega)) rfl okX12_begin viX12_begin lkX12_367 (s_54 hQ3.1.1) cl_12 rfl (Nat.le_of_ble_eq_true rfl) ⟨rfl, rfl⟩ (Nat.le_of_ble_eq_true rfl) (Nat.le_of_ble_eq_true rfl) (Nat.le_of_ble_eq_true rfl) ?_
          rintro M3 ⟨hB4, kp5, kp6, h7⟩
          have hB8 : BF fQ M M3 := BF.go hQ3 hB4.sq
          have kp9 : mI M3 55 = mI M 55 := kp_go kp3_55 kp5
          refine vc_aload_n dX12_leadsToGoal_28 rfl ?_
          refine vc_iconst dX12_leadsToGoal_29 rfl ?_
          refine vc_putI dX12_leadsToGoal_30 (plX12_339 _ rfl) (s_54 hB8.1.1) rfl ?_
          have kp10 : mI (sI M3 54 30 (-1)) 55 = mI M 55 := (kp_sI kp9 rfl)
          have hB11 : BF fQ M (sI M3 54 30 (-1)) := BF.w54_30 hB8 rfl
          refine vc_aload_n dX12_leadsToGoal_33 rfl ?_
          refine vc_iload dX12_leadsToGoal_34 rfl ?_
          have k12 : mI (sI M3 54 30 (-1)) 54 32 = mI M3 54 32 := rfl
          refine vc_cVI dX12_leadsToGoal_36 (sfX12_goAll (M := (sI M3 54 30 (-1))) hB11.1  v4 (by omega)) rfl okX12_goAll viX12_goAll lkX12_370 (s_54 hB11.1.1) cl_12 rfl (Nat.le_of_ble_eq_true rfl) ⟨rfl, rfl⟩ (Nat.le_of_ble_eq_true rfl) (Nat.le_of_ble_eq_true rfl) (Nat.le_of_ble_eq_true rfl) ?_
          rintro x13 M14 ⟨hB15, kp16, kp17, h18, h19, h20⟩
          have hB21 : BF fQ M M14 := BF.go hB11 hB15.sq
          have kp22 : mI M14 55 = mI M 55 := kp_go kp10 kp16
          refine vc_if_eq dX12_leadsToGoal_39 (fun h23 => ?_) (fun h23 => ?_)
          · refine vc_iconst dX12_leadsToGoal_55 rfl ?_
            refine vc_zret dX12_leadsToGoal_56 rfl (by first | decide | omega) (Nat.le_of_ble_eq_true rfl) (Nat.le_of_ble_eq_true rfl) ?_
            exact ⟨_, rfl, hB21, kp22, by omega, by omega, by omega⟩
          · refine vc_aload_n dX12_leadsToGoal_42 rfl ?_
            refine vc_getI dX12_leadsToGoal_43 flX12_321 (s_54 hB21.1.1) rfl ?_
            have k24 : 0 ≤ mI M14 54 24 ∧ mI M14 54 24 ≤ 15 := b54_24 (M := M14) hB21.1
            refine vc_aload_n dX12_leadsToGoal_46 rfl ?_
            refine vc_getR dX12_leadsToGoal_47 flX12_7 (s_54 hB21.1.1) rfl (r_54_0 hB21.1.1) ?_
            refine vc_iconst dX12_leadsToGoal_50 rfl ?_
            refine vc_iaload dX12_leadsToGoal_51 (s_55 hB21.1.1) (by omega) (by omega) ?_
            refine vc_topI (mI M14 55 1) rfl ?_
            have k25 : (-1) ≤ mI M14 55 1 ∧ mI M14 55 1 ≤ 15 := b55_1 (M := M14) hB21.1
            have k26 : mI M14 55 1 = mI M 55 1 := congrFun kp22 1
            refine vc_icmp_eq dX12_leadsToGoal_52 (fun h27 => ?_) (fun h27 => ?_)
            · refine vc_iincE dX12_leadsToGoal_57 rfl (by omega) (by omega) (by decide) rfl (show _ = [some (aR 54), some (aI c), some (aI f), some (aI s), some (aI (v4 + 1))] from rfl) ?_
              refine vc_goto dX12_leadsToGoal_60 ?_
              exact ih3 M14 (v4 + 1) hB21 kp22 (by omega) (by omega) (by omega) (by omega)
            · refine vc_iconst dX12_leadsToGoal_55 rfl ?_
              refine vc_zret dX12_leadsToGoal_56 rfl (by first | decide | omega) (Nat.le_of_ble_eq_true rfl) (Nat.le_of_ble_eq_true rfl) ?_
              exact ⟨_, rfl, hB21, kp22, by omega, by omega, by omega⟩
        · refine vc_goto dX12_leadsToGoal_19 ?_
          refine vc_iincE dX12_leadsToGoal_57 rfl (by omega) (by omega) (by decide) rfl (show _ = [some (aR 54), some (aI c), some (aI f), some (aI s), some (aI (v4 + 1))] from rfl) ?_
          refine vc_goto dX12_leadsToGoal_60 ?_
          exact ih3 Mq3 (v4 + 1) hQ3 kp3_55 (by omega) (by omega) (by omega) (by omega)
  exact lp3 _ M 0 hB0 rfl (by omega) (by omega) (by omega) (Nat.lt_succ_self _)

set_option maxRecDepth 4000 in
theorem sfX12_findTelling {l : Launch} {M : Mem} (hB : Box M)  (c : Int) (f : Int) (s : Int) (p0 : 0 ≤ c) (p1 : c ≤ 15) (p2 : 0 ≤ f) (p3 : f ≤ 3) : Call l mdX12_findTelling [aR 54, aI c, aI f, aI s] M (fun q N => ∃ r : Int, q = some (aI r) ∧ BF fQ M N ∧ mI N 55 = mI M 55 ∧ 0 ≤ r ∧ r ≤ 1) := by
  have hB0 : BF fQ M M := BF.start hB
  refine Call.of [some (aR 54), some (aI c), some (aI f), some (aI s), none, none, none, none, none] rfl (Nat.le_of_ble_eq_true rfl) rfl ?_
  refine vc_ok (fun hoM hoS hoL => ?_)
  have hr3 : -2147483648 ≤ s ∧ s < 2147483648 := hoL 3 _ rfl
  refine vc_iconst dX12_findTelling_0 rfl ?_
  refine vc_istore dX12_findTelling_1 (by decide) rfl (show _ = [some (aR 54), some (aI c), some (aI f), some (aI s), some (aI 1), none, none, none, none] from rfl) ?_
  refine vc_iconst dX12_findTelling_3 rfl ?_
  refine vc_istore dX12_findTelling_4 (by decide) rfl (show _ = [some (aR 54), some (aI c), some (aI f), some (aI s), some (aI 1), some (aI 1), none, none, none] from rfl) ?_
  have lp6 : ∀ (n6 : Nat) (Mq6 : Mem) (v4 : Int) (v5 : Int), (BF fQ M Mq6) → (mI Mq6 55 = mI M 55) → (1 ≤ v4) → (v4 ≤ 19683) → (1 ≤ v5) → (v5 ≤ 4) → ((v5 = 1 ∧ v4 = 1) ∨ (v5 = 2 ∧ v4 = 27) ∨ (v5 = 3 ∧ v4 = 729) ∨ (v5 = 4 ∧ v4 = 19683)) → (4 - v5).toNat < n6 → VC l mdX12_findTelling 6 [some (aR 54), some (aI c), some (aI f), some (aI s), some (aI v4), some (aI v5), none, none, none] [] Mq6 0 0 (fun q N => ∃ r : Int, q = some (aI r) ∧ BF fQ M N ∧ mI N 55 = mI M 55 ∧ 0 ≤ r ∧ r ≤ 1) := by
    intro n6
    induction n6 with
    | zero => intro Mq6 v4 v5 hQ6 kp6_55 g6_4a g6_4b g6_5a g6_5b g6i0 hm6; exact absurd hm6 (Nat.not_lt_zero _)
    | succ n6 ih6 =>
      intro Mq6 v4 v5 hQ6 kp6_55 g6_4a g6_4b g6_5a g6_5b g6i0 hm6
      refine vc_iload dX12_findTelling_6 rfl ?_
      refine vc_iconst dX12_findTelling_8 rfl ?_
      refine vc_icmp_ge dX12_findTelling_9 (fun h1 => ?_) (fun h1 => ?_)
      · refine vc_iconst dX12_findTelling_102 rfl ?_
        refine vc_zret dX12_findTelling_103 rfl (by first | decide | omega) (Nat.le_of_ble_eq_true rfl) (Nat.le_of_ble_eq_true rfl) ?_
        exact ⟨_, rfl, hQ6, kp6_55, by omega, by omega⟩
      · refine vc_iload dX12_findTelling_12 rfl ?_
        refine vc_bipush dX12_findTelling_14 rfl ?_
        refine vc_imulE dX12_findTelling_16 (by omega) (by omega) ?_
        refine vc_nameI (fun x2 ex2 => ?_)
        refine vc_istore dX12_findTelling_17 (by decide) rfl (show _ = [some (aR 54), some (aI c), some (aI f), some (aI s), some (aI x2), some (aI v5), none, none, none] from rfl) ?_
        refine vc_aload_n dX12_findTelling_19 rfl ?_
        refine vc_iload dX12_findTelling_20 rfl ?_
        refine vc_putI dX12_findTelling_22 (plX12_355 _ rfl) (s_54 hQ6.1.1) rfl ?_
        have kp3 : mI (sI Mq6 54 32 v5) 55 = mI M 55 := (kp_sI kp6_55 rfl)
        have hB4 : BF fQ M (sI Mq6 54 32 v5) := BF.w54_32 hQ6 rfl (by omega) (by omega)
        refine vc_iconst dX12_findTelling_25 rfl ?_
        refine vc_istore dX12_findTelling_26 (by decide) rfl (show _ = [some (aR 54), some (aI c), some (aI f), some (aI s), some (aI x2), some (aI v5), some (aI 0), none, none] from rfl) ?_
        have lp28 : ∀ (n28 : Nat) (Mq28 : Mem) (v6 : Int), (BF fQ M Mq28) → (mI Mq28 55 = mI M 55) → (0 ≤ v6) → (1 ≤ mI Mq28 54 32) → (x2 - v6).toNat < n28 → VC l mdX12_findTelling 28 [some (aR 54), some (aI c), some (aI f), some (aI s), some (aI x2), some (aI v5), some (aI v6), none, none] [] Mq28 0 0 (fun q N => ∃ r : Int, q = some (aI r) ∧ BF fQ M N ∧ mI N 55 = mI M 55 ∧ 0 ≤ r ∧ r ≤ 1) := by
          intro n28
          induction n28 with
          | zero => intro Mq28 v6 hQ28 kp28_55 g28_6a g28i0 hm28; exact absurd hm28 (Nat.not_lt_zero _)
          | succ n28 ih28 =>
            intro Mq28 v6 hQ28 kp28_55 g28_6a g28i0 hm28
            refine vc_iload dX12_findTelling_28 rfl ?_
            refine vc_iload dX12_findTelling_30 rfl ?_
            refine vc_icmp_ge dX12_findTelling_32 (fun h5 => ?_) (fun h5 => ?_)
            · refine vc_iincE dX12_findTelling_96 rfl (by omega) (by omega) (by decide) rfl (show _ = [some (aR 54), some (aI c), some (aI f), some (aI s), some (aI x2), some (aI (v5 + 1)), some (aI v6), none, none] from rfl) ?_
              refine vc_goto dX12_findTelling_99 ?_
              refine vc_less [some (aR 54), some (aI c), some (aI f), some (aI s), some (aI x2), some (aI (v5 + 1)), none, none, none] (lessL_keep (lessL_keep (lessL_keep (lessL_keep (lessL_keep (lessL_keep (lessL_drop (lessL_keep (lessL_keep (lessL_nil)))))))))) ?_
              exact ih6 Mq28 x2 (v5 + 1) hQ28 kp28_55 (by omega) (by omega) (by omega) (by omega) (by omega) (by omega)
            · refine vc_iload dX12_findTelling_35 rfl ?_
              refine vc_iconst dX12_findTelling_37 rfl ?_
              refine vc_isubE dX12_findTelling_38 (by omega) (by omega) ?_
              refine vc_nameI (fun x6 ex6 => ?_)
              refine vc_istore dX12_findTelling_39 (by decide) rfl (show _ = [some (aR 54), some (aI c), some (aI f), some (aI s), some (aI x2), some (aI v5), some (aI v6), some (aI x6), none] from rfl) ?_
              refine vc_iload dX12_findTelling_41 rfl ?_
              refine vc_istore dX12_findTelling_43 (by decide) rfl (show _ = [some (aR 54), some (aI c), some (aI f), some (aI s), some (aI x2), some (aI v5), some (aI v6), some (aI x6), some (aI v6)] from rfl) ?_
              have lp45 : ∀ (n45 : Nat) (Mq45 : Mem) (v7 : Int) (v8 : Int), (BF fQ M Mq45) → (mI Mq45 55 = mI M 55) → ((-1) ≤ v7) → (v7 ≤ 2) → (1 ≤ mI Mq45 54 32) → (v7 + 1).toNat < n45 → VC l mdX12_findTelling 45 [some (aR 54), some (aI c), some (aI f), some (aI s), some (aI x2), some (aI v5), some (aI v6), some (aI v7), some (aI v8)] [] Mq45 0 0 (fun q N => ∃ r : Int, q = some (aI r) ∧ BF fQ M N ∧ mI N 55 = mI M 55 ∧ 0 ≤ r ∧ r ≤ 1) := by
                intro n45
                induction n45 with
                | zero => intro Mq45 v7 v8 hQ45 kp45_55 g45_7a g45_7b g45i0 hm45; exact absurd hm45 (Nat.not_lt_zero _)
                | succ n45 ih45 =>
                  intro Mq45 v7 v8 hQ45 kp45_55 g45_7a g45_7b g45i0 hm45
                  refine vc_iload dX12_findTelling_45 rfl ?_
                  refine vc_if_lt dX12_findTelling_47 (fun h7 => ?_) (fun h7 => ?_)
                  · refine vc_aload_n dX12_findTelling_78 rfl ?_
                    refine vc_iload_n dX12_findTelling_79 rfl ?_
                    refine vc_iload_n dX12_findTelling_80 rfl ?_
                    refine vc_iload_n dX12_findTelling_81 rfl ?_
                    refine vc_cVI dX12_findTelling_82 (sfX12_leadsToGoal (M := Mq45) hQ45.1  c f s (by omega) (by omega) (by omega) (by omega) (by omega)) rfl okX12_leadsToGoal viX12_leadsToGoal lkX12_527 (s_54 hQ45.1.1) cl_12 rfl (Nat.le_of_ble_eq_true rfl) ⟨rfl, rfl⟩ (Nat.le_of_ble_eq_true rfl) (Nat.le_of_ble_eq_true rfl) (Nat.le_of_ble_eq_true rfl) ?_
                    rintro x8 M9 ⟨hB10, kp11, h12, h13, h14⟩
                    have hB15 : BF fQ M M9 := BF.go hQ45 hB10
                    have kp16 : mI M9 55 = mI M 55 := kp_go kp45_55 kp11
                    refine vc_if_eq dX12_findTelling_85 (fun h17 => ?_) (fun h17 => ?_)
                    · refine vc_iincE dX12_findTelling_90 rfl (by omega) (by omega) (by decide) rfl (show _ = [some (aR 54), some (aI c), some (aI f), some (aI s), some (aI x2), some (aI v5), some (aI (v6 + 1)), some (aI v7), some (aI v8)] from rfl) ?_
                      refine vc_goto dX12_findTelling_93 ?_
                      refine vc_less [some (aR 54), some (aI c), some (aI f), some (aI s), some (aI x2), some (aI v5), some (aI (v6 + 1)), none, none] (lessL_keep (lessL_keep (lessL_keep (lessL_keep (lessL_keep (lessL_keep (lessL_keep (lessL_drop (lessL_drop (lessL_nil)))))))))) ?_
                      exact ih28 M9 (v6 + 1) hB15 kp16 (by omega) (by omega) (by omega)
                    · refine vc_iconst dX12_findTelling_88 rfl ?_
                      refine vc_zret dX12_findTelling_89 rfl (by first | decide | omega) (Nat.le_of_ble_eq_true rfl) (Nat.le_of_ble_eq_true rfl) ?_
                      exact ⟨_, rfl, hB15, kp16, by omega, by omega⟩
                  · refine vc_aload_n dX12_findTelling_50 rfl ?_
                    refine vc_getR dX12_findTelling_51 flX12_42 (s_54 hQ45.1.1) rfl (r_54_31 hQ45.1.1) ?_
                    refine vc_iload dX12_findTelling_54 rfl ?_
                    refine vc_iload dX12_findTelling_56 rfl ?_
                    refine vc_bipush dX12_findTelling_58 rfl ?_
                    refine vc_irem dX12_findTelling_60 (by omega) ?_
                    refine vc_cSI dX12_findTelling_61 (sfX12_turnOf (M := Mq45) hQ45.1  (rmI v8 27) ) rfl okX12_turnOf stX12_turnOf lkX12_524 rfl (Nat.le_of_ble_eq_true rfl) ⟨rfl, rfl⟩ (Nat.le_of_ble_eq_true rfl) (Nat.le_of_ble_eq_true rfl) (Nat.le_of_ble_eq_true rfl) ?_
                    rintro x18 _ rfl
                    refine vc_iastore dX12_findTelling_64 (s_63 hQ45.1.1) (by omega) (by omega) ?_
                    have kp19 : mI (sI Mq45 63 v7.toNat x18) 55 = mI M 55 := (kp_sI kp45_55 rfl)
                    have hB20 : BF fQ M (sI Mq45 63 v7.toNat x18) := BF.w63 hQ45 (fun _ => rfl) _
                    refine vc_iincE dX12_findTelling_65 rfl (by omega) (by omega) (by decide) rfl (show _ = [some (aR 54), some (aI c), some (aI f), some (aI s), some (aI x2), some (aI v5), some (aI v6), some (aI (v7 + (-1))), some (aI v8)] from rfl) ?_
                    refine vc_iload dX12_findTelling_68 rfl ?_
                    refine vc_bipush dX12_findTelling_70 rfl ?_
                    refine vc_idiv dX12_findTelling_72 (by omega) ?_
                    refine vc_nameI (fun x21 ex21 => ?_)
                    refine vc_istore dX12_findTelling_73 (by decide) rfl (show _ = [some (aR 54), some (aI c), some (aI f), some (aI s), some (aI x2), some (aI v5), some (aI v6), some (aI (v7 + (-1))), some (aI x21)] from rfl) ?_
                    refine vc_goto dX12_findTelling_75 ?_
                    have k22 : mI (sI Mq45 63 v7.toNat x18) 54 32 = mI Mq45 54 32 := rfl
                    exact ih45 (sI Mq45 63 v7.toNat x18) (v7 + (-1)) x21 hB20 kp19 (by omega) (by omega) (by omega) (by omega)
              exact lp45 _ Mq28 x6 v6 hQ28 kp28_55 (by omega) (by omega) (by omega) (Nat.lt_succ_self _)
        have k23 : mI (sI Mq6 54 32 v5) 54 32 = v5 := rfl
        exact lp28 _ (sI Mq6 54 32 v5) 0 hB4 kp3 (by omega) (by omega) (Nat.lt_succ_self _)
  exact lp6 _ M 1 1 hB0 rfl (by omega) (by omega) (by omega) (by omega) (by omega) (Nat.lt_succ_self _)

set_option maxRecDepth 4000 in
theorem sfX12_tell {l : Launch} {M : Mem} (hB : Box M)  (c : Int) (f : Int) (s : Int) (i : Int)  : Call l mdX12_tell [aR 54, aI c, aI f, aI s, aI i] M (fun q N => ∃ r : Int, q = some (aI r) ∧ BF fQ M N) := by
  have hB0 : BF fQ M M := BF.start hB
  refine Call.of [some (aR 54), some (aI c), some (aI f), some (aI s), some (aI i)] rfl (Nat.le_of_ble_eq_true rfl) rfl ?_
  refine vc_ok (fun hoM hoS hoL => ?_)
  have hr1 : -2147483648 ≤ c ∧ c < 2147483648 := hoL 1 _ rfl
  have hr2 : -2147483648 ≤ f ∧ f < 2147483648 := hoL 2 _ rfl
  have hr3 : -2147483648 ≤ s ∧ s < 2147483648 := hoL 3 _ rfl
  have hr4 : -2147483648 ≤ i ∧ i < 2147483648 := hoL 4 _ rfl
  refine vc_aload_n dX12_tell_0 rfl ?_
  refine vc_iload_n dX12_tell_1 rfl ?_
  refine vc_cVI dX12_tell_2 (sfX12_isCorner (M := M) hB0.1  c ) rfl okX12_isCorner viX12_isCorner lkX12_87 (s_54 hB0.1.1) cl_12 rfl (Nat.le_of_ble_eq_true rfl) ⟨rfl, rfl⟩ (Nat.le_of_ble_eq_true rfl) (Nat.le_of_ble_eq_true rfl) (Nat.le_of_ble_eq_true rfl) ?_
  rintro x1 _ ⟨rfl, h2, h3, h4⟩
  refine vc_if_eq dX12_tell_5 (fun h5 => ?_) (fun h5 => ?_)
  · refine vc_iconst dX12_tell_53 rfl ?_
    refine vc_iret dX12_tell_54 rfl (Nat.le_of_ble_eq_true rfl) (Nat.le_of_ble_eq_true rfl) ?_
    exact ⟨_, rfl, hB0⟩
  · refine vc_iload_n dX12_tell_8 rfl ?_
    refine vc_iconst dX12_tell_9 rfl ?_
    refine vc_iconst dX12_tell_10 rfl ?_
    refine vc_cSI dX12_tell_11 (sfX12_isIn (M := M) hB0.1  f 0 3 ) rfl okX12_isIn stX12_isIn lkX12_83 rfl (Nat.le_of_ble_eq_true rfl) ⟨rfl, rfl⟩ (Nat.le_of_ble_eq_true rfl) (Nat.le_of_ble_eq_true rfl) (Nat.le_of_ble_eq_true rfl) ?_
    rintro x6 _ ⟨rfl, h7, h8, h9⟩
    refine vc_if_eq dX12_tell_14 (fun h10 => ?_) (fun h10 => ?_)
    · refine vc_iconst dX12_tell_53 rfl ?_
      refine vc_iret dX12_tell_54 rfl (Nat.le_of_ble_eq_true rfl) (Nat.le_of_ble_eq_true rfl) ?_
      exact ⟨_, rfl, hB0⟩
    · refine vc_iload_n dX12_tell_17 rfl ?_
      refine vc_iconst dX12_tell_18 rfl ?_
      refine vc_bipush dX12_tell_19 rfl ?_
      refine vc_cSI dX12_tell_21 (sfX12_isIn (M := M) hB0.1  s 0 7 ) rfl okX12_isIn stX12_isIn lkX12_83 rfl (Nat.le_of_ble_eq_true rfl) ⟨rfl, rfl⟩ (Nat.le_of_ble_eq_true rfl) (Nat.le_of_ble_eq_true rfl) (Nat.le_of_ble_eq_true rfl) ?_
      rintro x11 _ ⟨rfl, h12, h13, h14⟩
      refine vc_if_eq dX12_tell_24 (fun h15 => ?_) (fun h15 => ?_)
      · refine vc_iconst dX12_tell_53 rfl ?_
        refine vc_iret dX12_tell_54 rfl (Nat.le_of_ble_eq_true rfl) (Nat.le_of_ble_eq_true rfl) ?_
        exact ⟨_, rfl, hB0⟩
      · refine vc_iload dX12_tell_27 rfl ?_
        refine vc_iconst dX12_tell_29 rfl ?_
        refine vc_icmp_lt dX12_tell_30 (fun h16 => ?_) (fun h16 => ?_)
        · refine vc_iconst dX12_tell_53 rfl ?_
          refine vc_iret dX12_tell_54 rfl (Nat.le_of_ble_eq_true rfl) (Nat.le_of_ble_eq_true rfl) ?_
          exact ⟨_, rfl, hB0⟩
        · refine vc_aload_n dX12_tell_33 rfl ?_
          refine vc_getR dX12_tell_34 flX12_7 (s_54 hB0.1.1) rfl (r_54_0 hB0.1.1) ?_
          refine vc_iconst dX12_tell_37 rfl ?_
          refine vc_iaload dX12_tell_38 (s_55 hB0.1.1) (by omega) (by omega) ?_
          refine vc_topI (mI M 55 1) rfl ?_
          have k17 : (-1) ≤ mI M 55 1 ∧ mI M 55 1 ≤ 15 := b55_1 (M := M) hB0.1
          refine vc_iconst dX12_tell_39 rfl ?_
          refine vc_icmp_eq dX12_tell_40 (fun h18 => ?_) (fun h18 => ?_)
          · refine vc_iconst dX12_tell_53 rfl ?_
            refine vc_iret dX12_tell_54 rfl (Nat.le_of_ble_eq_true rfl) (Nat.le_of_ble_eq_true rfl) ?_
            exact ⟨_, rfl, hB0⟩
          · refine vc_aload_n dX12_tell_43 rfl ?_
            refine vc_iload_n dX12_tell_44 rfl ?_
            refine vc_iload_n dX12_tell_45 rfl ?_
            refine vc_iload_n dX12_tell_46 rfl ?_
            refine vc_cVI dX12_tell_47 (sfX12_findTelling (M := M) hB0.1  c f s (by omega) (by omega) (by omega) (by omega)) rfl okX12_findTelling viX12_findTelling lkX12_530 (s_54 hB0.1.1) cl_12 rfl (Nat.le_of_ble_eq_true rfl) ⟨rfl, rfl⟩ (Nat.le_of_ble_eq_true rfl) (Nat.le_of_ble_eq_true rfl) (Nat.le_of_ble_eq_true rfl) ?_
            rintro x19 M20 ⟨hB21, kp22, h23, h24⟩
            have hB25 : BF fQ M M20 := BF.go hB0 hB21
            refine vc_if_ne dX12_tell_50 (fun h26 => ?_) (fun h26 => ?_)
            · refine vc_iload dX12_tell_55 rfl ?_
              refine vc_iconst dX12_tell_57 rfl ?_
              refine vc_icmp_ne dX12_tell_58 (fun h27 => ?_) (fun h27 => ?_)
              · refine vc_iload dX12_tell_68 rfl ?_
                refine vc_aload_n dX12_tell_70 rfl ?_
                refine vc_getI dX12_tell_71 flX12_355 (s_54 hB25.1.1) rfl ?_
                have k28 : 0 ≤ mI M20 54 32 ∧ mI M20 54 32 ≤ 6 := b54_32 (M := M20) hB25.1
                refine vc_icmp_ge dX12_tell_74 (fun h29 => ?_) (fun h29 => ?_)
                · refine vc_iconst dX12_tell_87 rfl ?_
                  refine vc_iret dX12_tell_88 rfl (Nat.le_of_ble_eq_true rfl) (Nat.le_of_ble_eq_true rfl) ?_
                  exact ⟨_, rfl, hB25⟩
                · refine vc_aload_n dX12_tell_77 rfl ?_
                  refine vc_getR dX12_tell_78 flX12_42 (s_54 hB25.1.1) rfl (r_54_31 hB25.1.1) ?_
                  refine vc_iload dX12_tell_81 rfl ?_
                  refine vc_iaload dX12_tell_83 (s_63 hB25.1.1) (by omega) (by omega) ?_
                  refine vc_goto dX12_tell_84 ?_
                  refine vc_iret dX12_tell_88 rfl (Nat.le_of_ble_eq_true rfl) (Nat.le_of_ble_eq_true rfl) ?_
                  exact ⟨_, rfl, hB25⟩
              · refine vc_aload_n dX12_tell_61 rfl ?_
                refine vc_getI dX12_tell_62 flX12_355 (s_54 hB25.1.1) rfl ?_
                have k30 : 0 ≤ mI M20 54 32 ∧ mI M20 54 32 ≤ 6 := b54_32 (M := M20) hB25.1
                refine vc_goto dX12_tell_65 ?_
                refine vc_iret dX12_tell_88 rfl (Nat.le_of_ble_eq_true rfl) (Nat.le_of_ble_eq_true rfl) ?_
                exact ⟨_, rfl, hB25⟩
            · refine vc_iconst dX12_tell_53 rfl ?_
              refine vc_iret dX12_tell_54 rfl (Nat.le_of_ble_eq_true rfl) (Nat.le_of_ble_eq_true rfl) ?_
              exact ⟨_, rfl, hB25⟩

set_option maxRecDepth 4000 in
theorem sfX12_where {l : Launch} {M : Mem} (hB : Box M)  (t : Int) (c : Int)  : Call l mdX12_where [aR 54, aI t, aI c] M (fun q N => ∃ r : Int, q = some (aI r) ∧ BF fQ M N) := by
  have hB0 : BF fQ M M := BF.start hB
  refine Call.of [some (aR 54), some (aI t), some (aI c)] rfl (Nat.le_of_ble_eq_true rfl) rfl ?_
  refine vc_ok (fun hoM hoS hoL => ?_)
  have hr1 : -2147483648 ≤ t ∧ t < 2147483648 := hoL 1 _ rfl
  have hr2 : -2147483648 ≤ c ∧ c < 2147483648 := hoL 2 _ rfl
  refine vc_aload_n dX12_where_0 rfl ?_
  refine vc_iload_n dX12_where_1 rfl ?_
  refine vc_cVI dX12_where_2 (sfX12_isTelling (M := M) hB0.1  t ) rfl okX12_isTelling viX12_isTelling lkX12_400 (s_54 hB0.1.1) cl_12 rfl (Nat.le_of_ble_eq_true rfl) ⟨rfl, rfl⟩ (Nat.le_of_ble_eq_true rfl) (Nat.le_of_ble_eq_true rfl) (Nat.le_of_ble_eq_true rfl) ?_
  rintro x1 _ ⟨rfl, h2, h3, h4⟩
  refine vc_if_eq dX12_where_5 (fun h5 => ?_) (fun h5 => ?_)
  · refine vc_iconst dX12_where_18 rfl ?_
    refine vc_iret dX12_where_19 rfl (Nat.le_of_ble_eq_true rfl) (Nat.le_of_ble_eq_true rfl) ?_
    exact ⟨_, rfl, hB0⟩
  · refine vc_aload_n dX12_where_8 rfl ?_
    refine vc_iload_n dX12_where_9 rfl ?_
    refine vc_iconst dX12_where_10 rfl ?_
    refine vc_cVI dX12_where_11 (sfX12_leadsOf (M := M) hB0.1  t 0 (by omega) (by omega) (by omega)) rfl okX12_leadsOf viX12_leadsOf lkX12_449 (s_54 hB0.1.1) cl_12 rfl (Nat.le_of_ble_eq_true rfl) ⟨rfl, rfl⟩ (Nat.le_of_ble_eq_true rfl) (Nat.le_of_ble_eq_true rfl) (Nat.le_of_ble_eq_true rfl) ?_
    rintro x6 M7 ⟨hB8, kp9, h10, h11⟩
    have hB12 : BF fQ M M7 := BF.go hB0 hB8.sq
    refine vc_iconst dX12_where_14 rfl ?_
    refine vc_icmp_ne dX12_where_15 (fun h13 => ?_) (fun h13 => ?_)
    · refine vc_iload_n dX12_where_20 rfl ?_
      refine vc_if_eq dX12_where_21 (fun h14 => ?_) (fun h14 => ?_)
      · refine vc_aload_n dX12_where_31 rfl ?_
        refine vc_getI dX12_where_32 flX12_333 (s_54 hB12.1.1) rfl ?_
        refine vc_iret dX12_where_35 rfl (Nat.le_of_ble_eq_true rfl) (Nat.le_of_ble_eq_true rfl) ?_
        exact ⟨_, rfl, hB12⟩
      · refine vc_aload_n dX12_where_24 rfl ?_
        refine vc_getI dX12_where_25 flX12_336 (s_54 hB12.1.1) rfl ?_
        refine vc_goto dX12_where_28 ?_
        refine vc_iret dX12_where_35 rfl (Nat.le_of_ble_eq_true rfl) (Nat.le_of_ble_eq_true rfl) ?_
        exact ⟨_, rfl, hB12⟩
    · refine vc_iconst dX12_where_18 rfl ?_
      refine vc_iret dX12_where_19 rfl (Nat.le_of_ble_eq_true rfl) (Nat.le_of_ble_eq_true rfl) ?_
      exact ⟨_, rfl, hB12⟩

set_option maxRecDepth 4000 in
theorem sfX12_map {l : Launch} {M : Mem} (hB : Box M)  (c : Int) (n : Int) (d : Int)  : Call l mdX12_map [aR 54, aI c, aI n, aI d] M (fun q N => ∃ r : Int, q = some (aI r) ∧ BF fQ M N) := by
  have hB0 : BF fQ M M := BF.start hB
  refine Call.of [some (aR 54), some (aI c), some (aI n), some (aI d), none, none, none, none] rfl (Nat.le_of_ble_eq_true rfl) rfl ?_
  refine vc_ok (fun hoM hoS hoL => ?_)
  have hr1 : -2147483648 ≤ c ∧ c < 2147483648 := hoL 1 _ rfl
  have hr2 : -2147483648 ≤ n ∧ n < 2147483648 := hoL 2 _ rfl
  have hr3 : -2147483648 ≤ d ∧ d < 2147483648 := hoL 3 _ rfl
  refine vc_aload_n dX12_map_0 rfl ?_
  refine vc_iload_n dX12_map_1 rfl ?_
  refine vc_cVI dX12_map_2 (sfX12_isCorner (M := M) hB0.1  c ) rfl okX12_isCorner viX12_isCorner lkX12_87 (s_54 hB0.1.1) cl_12 rfl (Nat.le_of_ble_eq_true rfl) ⟨rfl, rfl⟩ (Nat.le_of_ble_eq_true rfl) (Nat.le_of_ble_eq_true rfl) (Nat.le_of_ble_eq_true rfl) ?_
  rintro x1 _ ⟨rfl, h2, h3, h4⟩
  refine vc_if_eq dX12_map_5 (fun h5 => ?_) (fun h5 => ?_)
  · refine vc_iconst dX12_map_33 rfl ?_
    refine vc_iret dX12_map_34 rfl (Nat.le_of_ble_eq_true rfl) (Nat.le_of_ble_eq_true rfl) ?_
    exact ⟨_, rfl, hB0⟩
  · refine vc_iload_n dX12_map_8 rfl ?_
    refine vc_iconst dX12_map_9 rfl ?_
    refine vc_bipush dX12_map_10 rfl ?_
    refine vc_cSI dX12_map_12 (sfX12_isIn (M := M) hB0.1  n 1 8 ) rfl okX12_isIn stX12_isIn lkX12_83 rfl (Nat.le_of_ble_eq_true rfl) ⟨rfl, rfl⟩ (Nat.le_of_ble_eq_true rfl) (Nat.le_of_ble_eq_true rfl) (Nat.le_of_ble_eq_true rfl) ?_
    rintro x6 _ ⟨rfl, h7, h8, h9⟩
    refine vc_if_eq dX12_map_15 (fun h10 => ?_) (fun h10 => ?_)
    · refine vc_iconst dX12_map_33 rfl ?_
      refine vc_iret dX12_map_34 rfl (Nat.le_of_ble_eq_true rfl) (Nat.le_of_ble_eq_true rfl) ?_
      exact ⟨_, rfl, hB0⟩
    · refine vc_iload_n dX12_map_18 rfl ?_
      refine vc_iconst dX12_map_19 rfl ?_
      refine vc_iconst dX12_map_20 rfl ?_
      refine vc_iconst dX12_map_21 rfl ?_
      refine vc_iload_n dX12_map_22 rfl ?_
      refine vc_imulE dX12_map_23 (by omega) (by omega) ?_
      refine vc_ishl dX12_map_24 ?_
      refine vc_iconst dX12_map_25 rfl ?_
      refine vc_isub dX12_map_26 ?_
      refine vc_cSI dX12_map_27 (sfX12_isIn (M := M) hB0.1  d 0 (wI ((shlI 1 (2 * n)) - 1)) ) rfl okX12_isIn stX12_isIn lkX12_83 rfl (Nat.le_of_ble_eq_true rfl) ⟨rfl, rfl⟩ (Nat.le_of_ble_eq_true rfl) (Nat.le_of_ble_eq_true rfl) (Nat.le_of_ble_eq_true rfl) ?_
      rintro x11 _ ⟨rfl, h12, h13, h14⟩
      refine vc_if_ne dX12_map_30 (fun h15 => ?_) (fun h15 => ?_)
      · refine vc_iconst dX12_map_35 rfl ?_
        refine vc_istore dX12_map_36 (by decide) rfl (show _ = [some (aR 54), some (aI c), some (aI n), some (aI d), some (aI 0), none, none, none] from rfl) ?_
        refine vc_iconst dX12_map_38 rfl ?_
        refine vc_istore dX12_map_39 (by decide) rfl (show _ = [some (aR 54), some (aI c), some (aI n), some (aI d), some (aI 0), some (aI 0), none, none] from rfl) ?_
        have lp41 : ∀ (n41 : Nat) (v4 : Int) (v5 : Int), (0 ≤ v5) → (v5 ≤ 4) → (4 - v5).toNat < n41 → VC l mdX12_map 41 [some (aR 54), some (aI c), some (aI n), some (aI d), some (aI v4), some (aI v5), none, none] [] M 0 0 (fun q N => ∃ r : Int, q = some (aI r) ∧ BF fQ M N) := by
          intro n41
          induction n41 with
          | zero => intro v4 v5 g41_5a g41_5b hm41; exact absurd hm41 (Nat.not_lt_zero _)
          | succ n41 ih41 =>
            intro v4 v5 g41_5a g41_5b hm41
            refine vc_iload dX12_map_41 rfl ?_
            refine vc_iconst dX12_map_43 rfl ?_
            refine vc_icmp_ge dX12_map_44 (fun h16 => ?_) (fun h16 => ?_)
            · refine vc_iload dX12_map_115 rfl ?_
              refine vc_iret dX12_map_117 rfl (Nat.le_of_ble_eq_true rfl) (Nat.le_of_ble_eq_true rfl) ?_
              exact ⟨_, rfl, hB0⟩
            · refine vc_iload_n dX12_map_47 rfl ?_
              refine vc_istore dX12_map_48 (by decide) rfl (show _ = [some (aR 54), some (aI c), some (aI n), some (aI d), some (aI v4), some (aI v5), some (aI c), none] from rfl) ?_
              refine vc_iconst dX12_map_50 rfl ?_
              refine vc_istore dX12_map_51 (by decide) rfl (show _ = [some (aR 54), some (aI c), some (aI n), some (aI d), some (aI v4), some (aI v5), some (aI c), some (aI 0)] from rfl) ?_
              have lp53 : ∀ (n53 : Nat) (v6 : Int) (v7 : Int), ((-1) ≤ v6) → (v6 ≤ 15) → (0 ≤ v7) → (v7 ≤ 8) → (8 - v7).toNat < n53 → VC l mdX12_map 53 [some (aR 54), some (aI c), some (aI n), some (aI d), some (aI v4), some (aI v5), some (aI v6), some (aI v7)] [] M 0 0 (fun q N => ∃ r : Int, q = some (aI r) ∧ BF fQ M N) := by
                intro n53
                induction n53 with
                | zero => intro v6 v7 g53_6a g53_6b g53_7a g53_7b hm53; exact absurd hm53 (Nat.not_lt_zero _)
                | succ n53 ih53 =>
                  intro v6 v7 g53_6a g53_6b g53_7a g53_7b hm53
                  refine vc_iload dX12_map_53 rfl ?_
                  refine vc_iload_n dX12_map_55 rfl ?_
                  refine vc_icmp_ge dX12_map_56 (fun h17 => ?_) (fun h17 => ?_)
                  · refine vc_iload dX12_map_91 rfl ?_
                    refine vc_iload dX12_map_93 rfl ?_
                    refine vc_if_lt dX12_map_95 (fun h18 => ?_) (fun h18 => ?_)
                    · refine vc_iconst dX12_map_105 rfl ?_
                      refine vc_ior dX12_map_106 ?_
                      refine vc_nameI (fun x19 ex19 => ?_)
                      refine vc_istore dX12_map_107 (by decide) rfl (show _ = [some (aR 54), some (aI c), some (aI n), some (aI d), some (aI x19), some (aI v5), some (aI v6), some (aI v7)] from rfl) ?_
                      refine vc_iincE dX12_map_109 rfl (by omega) (by omega) (by decide) rfl (show _ = [some (aR 54), some (aI c), some (aI n), some (aI d), some (aI x19), some (aI (v5 + 1)), some (aI v6), some (aI v7)] from rfl) ?_
                      refine vc_goto dX12_map_112 ?_
                      refine vc_less [some (aR 54), some (aI c), some (aI n), some (aI d), some (aI x19), some (aI (v5 + 1)), none, none] (lessL_keep (lessL_keep (lessL_keep (lessL_keep (lessL_keep (lessL_keep (lessL_drop (lessL_drop (lessL_nil))))))))) ?_
                      exact ih41 x19 (v5 + 1) (by omega) (by omega) (by omega)
                    · refine vc_iconst dX12_map_98 rfl ?_
                      refine vc_iload dX12_map_99 rfl ?_
                      refine vc_ishl dX12_map_101 ?_
                      refine vc_goto dX12_map_102 ?_
                      refine vc_ior dX12_map_106 ?_
                      refine vc_nameI (fun x20 ex20 => ?_)
                      refine vc_istore dX12_map_107 (by decide) rfl (show _ = [some (aR 54), some (aI c), some (aI n), some (aI d), some (aI x20), some (aI v5), some (aI v6), some (aI v7)] from rfl) ?_
                      refine vc_iincE dX12_map_109 rfl (by omega) (by omega) (by decide) rfl (show _ = [some (aR 54), some (aI c), some (aI n), some (aI d), some (aI x20), some (aI (v5 + 1)), some (aI v6), some (aI v7)] from rfl) ?_
                      refine vc_goto dX12_map_112 ?_
                      refine vc_less [some (aR 54), some (aI c), some (aI n), some (aI d), some (aI x20), some (aI (v5 + 1)), none, none] (lessL_keep (lessL_keep (lessL_keep (lessL_keep (lessL_keep (lessL_keep (lessL_drop (lessL_drop (lessL_nil))))))))) ?_
                      exact ih41 x20 (v5 + 1) (by omega) (by omega) (by omega)
                  · refine vc_iload dX12_map_59 rfl ?_
                    refine vc_if_lt dX12_map_61 (fun h21 => ?_) (fun h21 => ?_)
                    · refine vc_iload dX12_map_91 rfl ?_
                      refine vc_iload dX12_map_93 rfl ?_
                      refine vc_if_lt dX12_map_95 (fun h22 => ?_) (fun h22 => by exfalso; omega)
                      refine vc_iconst dX12_map_105 rfl ?_
                      refine vc_ior dX12_map_106 ?_
                      refine vc_nameI (fun x23 ex23 => ?_)
                      refine vc_istore dX12_map_107 (by decide) rfl (show _ = [some (aR 54), some (aI c), some (aI n), some (aI d), some (aI x23), some (aI v5), some (aI v6), some (aI v7)] from rfl) ?_
                      refine vc_iincE dX12_map_109 rfl (by omega) (by omega) (by decide) rfl (show _ = [some (aR 54), some (aI c), some (aI n), some (aI d), some (aI x23), some (aI (v5 + 1)), some (aI v6), some (aI v7)] from rfl) ?_
                      refine vc_goto dX12_map_112 ?_
                      refine vc_less [some (aR 54), some (aI c), some (aI n), some (aI d), some (aI x23), some (aI (v5 + 1)), none, none] (lessL_keep (lessL_keep (lessL_keep (lessL_keep (lessL_keep (lessL_keep (lessL_drop (lessL_drop (lessL_nil))))))))) ?_
                      exact ih41 x23 (v5 + 1) (by omega) (by omega) (by omega)
                    · refine vc_aload_n dX12_map_64 rfl ?_
                      refine vc_iload dX12_map_65 rfl ?_
                      refine vc_iload_n dX12_map_67 rfl ?_
                      refine vc_iconst dX12_map_68 rfl ?_
                      refine vc_iload dX12_map_69 rfl ?_
                      refine vc_imulE dX12_map_71 (by omega) (by omega) ?_
                      refine vc_ishr dX12_map_72 ?_
                      refine vc_iconst dX12_map_73 rfl ?_
                      refine vc_iandM dX12_map_74 4 2 rfl (by decide) rfl ?_
                      refine vc_iload dX12_map_75 rfl ?_
                      refine vc_iaddE dX12_map_77 (by omega) (by omega) ?_
                      refine vc_iconst dX12_map_78 rfl ?_
                      refine vc_iremE dX12_map_79 (by omega) (by omega) ?_
                      refine vc_cVI dX12_map_80 (sfX12_streetOf (M := M) hB0.1  v6 ((((shrI d (2 * v7)) % 4) + v5) % 4) (by omega) (by omega) (by omega) (by omega)) rfl okX12_streetOf viX12_streetOf lkX12_91 (s_54 hB0.1.1) cl_12 rfl (Nat.le_of_ble_eq_true rfl) ⟨rfl, rfl⟩ (Nat.le_of_ble_eq_true rfl) (Nat.le_of_ble_eq_true rfl) (Nat.le_of_ble_eq_true rfl) ?_
                      rintro x24 _ ⟨rfl, h25, h26, h27⟩
                      refine vc_istore dX12_map_83 (by decide) rfl (show _ = [some (aR 54), some (aI c), some (aI n), some (aI d), some (aI v4), some (aI v5), some (aI x24), some (aI v7)] from rfl) ?_
                      refine vc_iincE dX12_map_85 rfl (by omega) (by omega) (by decide) rfl (show _ = [some (aR 54), some (aI c), some (aI n), some (aI d), some (aI v4), some (aI v5), some (aI x24), some (aI (v7 + 1))] from rfl) ?_
                      refine vc_goto dX12_map_88 ?_
                      exact ih53 x24 (v7 + 1) (by omega) (by omega) (by omega) (by omega) (by omega)
              exact lp53 _ c 0 (by omega) (by omega) (by omega) (by omega) (Nat.lt_succ_self _)
        exact lp41 _ 0 0 (by omega) (by omega) (Nat.lt_succ_self _)
      · refine vc_iconst dX12_map_33 rfl ?_
        refine vc_iret dX12_map_34 rfl (Nat.le_of_ble_eq_true rfl) (Nat.le_of_ble_eq_true rfl) ?_
        exact ⟨_, rfl, hB0⟩

