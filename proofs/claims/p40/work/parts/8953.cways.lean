/-! THE WAYS of the class (written by wip/laws3/c25.py) -/
set_option maxRecDepth 4000 in
theorem sfX10_setWeightsF {l : Launch} {M : Mem} (hB : Box M)  (t : Int) (p0 : 0 ≤ t) (p1 : t < mI M 1 9) (p2 : 0 ≤ mI M 6 (9 * t).toNat ∧ mI M 6 (9 * t).toNat < mI M 1 8) (p3 : wfL (cS M)) (p4 : slOk (cS M) t) : Call l mdX10_setWeights [aR 35, aI t] M (fun q N => q = none ∧ BF fW M N ∧ (∀ w : Nat, w < 8 → mI N 36 w = wtS (cS M) t w)) := by
  have hB0 : BF fW M M := BF.start hB
  refine Call.of [some (aR 35), some (aI t), none, none, none, none] rfl (Nat.le_of_ble_eq_true rfl) rfl ?_
  refine vc_ok (fun hoM hoS hoL => ?_)
  have hr1 : -2147483648 ≤ t ∧ t < 2147483648 := hoL 1 _ rfl
  refine vc_aload_n dX10_setWeights_0 rfl ?_
  refine vc_getR dX10_setWeights_1 flX10_15 (s_35 hB0.1.1) rfl (r_35_1 hB0.1.1) ?_
  refine vc_iload_n dX10_setWeights_4 rfl ?_
  refine vc_iconst dX10_setWeights_5 rfl ?_
  refine vc_cVI dX10_setWeights_6 (sfX2_slipF (M := M) hB0.1  t 0 (by omega) (by omega) (by omega) (by omega) (by omega) (by exact p3)) rfl okX2_slip viX2_slip lkX10_37 (s_29 hB0.1.1) cl_2 rfl (Nat.le_of_ble_eq_true rfl) ⟨rfl, rfl⟩ (Nat.le_of_ble_eq_true rfl) (Nat.le_of_ble_eq_true rfl) (Nat.le_of_ble_eq_true rfl) ?_
  rintro x1 M2 ⟨hB3, kp4, kp5, h6⟩
  have hB7 : BF fW M M2 := BF.go hB0 hB3.sw
  have hc0 : cS M2 = cS M := cS_bf hB hB7
  have hx0 : x1 = slS (cS M) t 0 := h6
  have hb0 : 0 ≤ x1 ∧ x1 ≤ 10 := by rw [hx0]; exact p4 0 (by decide) (by decide)
  refine vc_istore_n dX10_setWeights_9 (by decide) rfl (show _ = [some (aR 35), some (aI t), some (aI x1), none, none, none] from rfl) ?_
  refine vc_aload_n dX10_setWeights_10 rfl ?_
  refine vc_getR dX10_setWeights_11 flX10_15 (s_35 hB7.1.1) rfl (r_35_1 hB7.1.1) ?_
  refine vc_iload_n dX10_setWeights_14 rfl ?_
  refine vc_iconst dX10_setWeights_15 rfl ?_
  have hw1 : wfL (cS M2) := by rw [hc0]; exact p3
  have hk1 : mI M2 1 9 = mI M 1 9 ∧ mI M2 6 (9 * t).toNat = mI M 6 (9 * t).toNat ∧ mI M2 1 8 = mI M 1 8 := ⟨hB7.2.2 1 9 rfl, hB7.2.2 6 _ rfl, hB7.2.2 1 8 rfl⟩
  refine vc_cVI dX10_setWeights_16 (sfX2_slipF (M := M2) hB7.1  t 1 (by omega) (by omega) (by omega) (by omega) (by omega) (by exact hw1)) rfl okX2_slip viX2_slip lkX10_37 (s_29 hB7.1.1) cl_2 rfl (Nat.le_of_ble_eq_true rfl) ⟨rfl, rfl⟩ (Nat.le_of_ble_eq_true rfl) (Nat.le_of_ble_eq_true rfl) (Nat.le_of_ble_eq_true rfl) ?_
  rintro x8 M9 ⟨hB10, kp11, kp12, h13⟩
  have hB14 : BF fW M M9 := BF.go hB7 hB10.sw
  have hc1 : cS M9 = cS M := cS_bf hB hB14
  have hx1 : x8 = slS (cS M) t 1 := h13.trans (by rw [hc0])
  have hb1 : 0 ≤ x8 ∧ x8 ≤ 10 := by rw [hx1]; exact p4 1 (by decide) (by decide)
  refine vc_istore_n dX10_setWeights_19 (by decide) rfl (show _ = [some (aR 35), some (aI t), some (aI x1), some (aI x8), none, none] from rfl) ?_
  refine vc_aload_n dX10_setWeights_20 rfl ?_
  refine vc_getR dX10_setWeights_21 flX10_15 (s_35 hB14.1.1) rfl (r_35_1 hB14.1.1) ?_
  refine vc_iload_n dX10_setWeights_24 rfl ?_
  refine vc_iconst dX10_setWeights_25 rfl ?_
  have hw2 : wfL (cS M9) := by rw [hc1]; exact p3
  have hk2 : mI M9 1 9 = mI M 1 9 ∧ mI M9 6 (9 * t).toNat = mI M 6 (9 * t).toNat ∧ mI M9 1 8 = mI M 1 8 := ⟨hB14.2.2 1 9 rfl, hB14.2.2 6 _ rfl, hB14.2.2 1 8 rfl⟩
  refine vc_cVI dX10_setWeights_26 (sfX2_slipF (M := M9) hB14.1  t 2 (by omega) (by omega) (by omega) (by omega) (by omega) (by exact hw2)) rfl okX2_slip viX2_slip lkX10_37 (s_29 hB14.1.1) cl_2 rfl (Nat.le_of_ble_eq_true rfl) ⟨rfl, rfl⟩ (Nat.le_of_ble_eq_true rfl) (Nat.le_of_ble_eq_true rfl) (Nat.le_of_ble_eq_true rfl) ?_
  rintro x15 M16 ⟨hB17, kp18, kp19, h20⟩
  have hB21 : BF fW M M16 := BF.go hB14 hB17.sw
  have hc2 : cS M16 = cS M := cS_bf hB hB21
  have hx2 : x15 = slS (cS M) t 2 := h20.trans (by rw [hc1])
  have hb2 : 0 ≤ x15 ∧ x15 ≤ 10 := by rw [hx2]; exact p4 2 (by decide) (by decide)
  refine vc_istore dX10_setWeights_29 (by decide) rfl (show _ = [some (aR 35), some (aI t), some (aI x1), some (aI x8), some (aI x15), none] from rfl) ?_
  refine vc_iconst dX10_setWeights_31 rfl ?_
  refine vc_istore dX10_setWeights_32 (by decide) rfl (show _ = [some (aR 35), some (aI t), some (aI x1), some (aI x8), some (aI x15), some (aI 0)] from rfl) ?_
  have lp34 : ∀ (n34 : Nat) (Mq34 : Mem) (v5 : Int), (BF fW M Mq34) → (0 ≤ v5) → (v5 ≤ 8) → (∀ w : Nat, (w : Int) < v5 → mI Mq34 36 w = wtS (cS M) t w) → (8 - v5).toNat < n34 → VC l mdX10_setWeights 34 [some (aR 35), none, some (aI x1), some (aI x8), some (aI x15), some (aI v5)] [] Mq34 0 0 (fun q N => q = none ∧ BF fW M N ∧ (∀ w : Nat, w < 8 → mI N 36 w = wtS (cS M) t w)) := by
    intro n34
    induction n34 with
    | zero => intro Mq34 v5 hQ34 g34_5a g34_5b g34i0 hm34; exact absurd hm34 (Nat.not_lt_zero _)
    | succ n34 ih34 =>
      intro Mq34 v5 hQ34 g34_5a g34_5b g34i0 hm34
      refine vc_iload dX10_setWeights_34 rfl ?_
      refine vc_bipush dX10_setWeights_36 rfl ?_
      refine vc_icmp_ge dX10_setWeights_38 (fun h22 => ?_) (fun h22 => ?_)
      · refine vc_vret dX10_setWeights_103 rfl (Nat.le_of_ble_eq_true rfl) (Nat.le_of_ble_eq_true rfl) ?_
        exact ⟨rfl, hQ34, fun w hw => g34i0 w (by omega)⟩
      · have n2 := and2 (s := v5) (by omega) (by omega)
        have n4 := and4 (s := v5) (by omega) (by omega)
        refine vc_aload_n dX10_setWeights_41 rfl ?_
        refine vc_getR dX10_setWeights_42 flX10_23 (s_35 hQ34.1.1) rfl (r_35_3 hQ34.1.1) ?_
        refine vc_iload dX10_setWeights_45 rfl ?_
        refine vc_iload dX10_setWeights_47 rfl ?_
        refine vc_iconst dX10_setWeights_49 rfl ?_
        refine vc_iandM dX10_setWeights_50 2 1 rfl (by decide) rfl ?_
        refine vc_if_ne dX10_setWeights_51 (fun h23 => ?_) (fun h23 => ?_)
        · refine vc_iload_n dX10_setWeights_61 rfl ?_
          refine vc_iload dX10_setWeights_62 rfl ?_
          refine vc_iconst dX10_setWeights_64 rfl ?_
          refine vc_iand dX10_setWeights_65 ?_
          refine vc_if_ne dX10_setWeights_66 (fun h24 => ?_) (fun h24 => ?_)
          · refine vc_iload_n dX10_setWeights_76 rfl ?_
            refine vc_imul dX10_setWeights_77 ?_
            refine vc_iload dX10_setWeights_78 rfl ?_
            refine vc_iconst dX10_setWeights_80 rfl ?_
            refine vc_iand dX10_setWeights_81 ?_
            refine vc_if_ne dX10_setWeights_82 (fun h25 => ?_) (fun h25 => ?_)
            · refine vc_iload dX10_setWeights_93 rfl ?_
              refine vc_imul dX10_setWeights_95 ?_
              have hval : wI ((wI (x1 * x8)) * x15) = wtS (cS M) t v5 := by
                refine Eq.trans ?_ (w3 (fac_b (p4 0 (by decide) (by decide)) (v5 % 2)) (fac_b (p4 1 (by decide) (by decide)) (v5 / 2 % 2)) (fac_b (p4 2 (by decide) (by decide)) (v5 / 4 % 2))).1
                unfold fac
                first | rw [if_pos (show v5 % 2 = 0 by omega)] | rw [if_neg (show ¬ v5 % 2 = 0 by omega)]
                first | rw [if_pos (show v5 / 2 % 2 = 0 by omega)] | rw [if_neg (show ¬ v5 / 2 % 2 = 0 by omega)]
                first | rw [if_pos (show v5 / 4 % 2 = 0 by omega)] | rw [if_neg (show ¬ v5 / 4 % 2 = 0 by omega)]
                rw [← hx0, ← hx1, ← hx2]
              refine vc_iastore dX10_setWeights_96 (s_36 hQ34.1.1) (by omega) (by omega) ?_
              have hB26 : BF fW M (sI Mq34 36 v5.toNat (wI ((wI (x1 * x8)) * x15))) := BF.w36 hQ34 (fun _ => rfl) _
              refine vc_iincE dX10_setWeights_97 rfl (by omega) (by omega) (by decide) rfl (show _ = [some (aR 35), none, some (aI x1), some (aI x8), some (aI x15), some (aI (v5 + 1))] from rfl) ?_
              refine vc_goto dX10_setWeights_100 ?_
              exact ih34 (sI Mq34 36 v5.toNat (wI ((wI (x1 * x8)) * x15))) (v5 + 1) hB26 (by omega) (by omega) (by first | (intro w hw; exfalso; omega) | (intro w hw; by_cases q : (w : Int) = v5; (rw [mI_sI, if_pos ⟨rfl, by omega⟩, q]; exact hval); (rw [mI_sI, if_neg (by omega)]; exact g34i0 w (by omega)))) (by omega)
            · refine vc_bipush dX10_setWeights_85 rfl ?_
              refine vc_iload dX10_setWeights_87 rfl ?_
              refine vc_isubE dX10_setWeights_89 (by omega) (by omega) ?_
              refine vc_goto dX10_setWeights_90 ?_
              refine vc_imul dX10_setWeights_95 ?_
              have hval : wI ((wI (x1 * x8)) * (10 - x15)) = wtS (cS M) t v5 := by
                refine Eq.trans ?_ (w3 (fac_b (p4 0 (by decide) (by decide)) (v5 % 2)) (fac_b (p4 1 (by decide) (by decide)) (v5 / 2 % 2)) (fac_b (p4 2 (by decide) (by decide)) (v5 / 4 % 2))).1
                unfold fac
                first | rw [if_pos (show v5 % 2 = 0 by omega)] | rw [if_neg (show ¬ v5 % 2 = 0 by omega)]
                first | rw [if_pos (show v5 / 2 % 2 = 0 by omega)] | rw [if_neg (show ¬ v5 / 2 % 2 = 0 by omega)]
                first | rw [if_pos (show v5 / 4 % 2 = 0 by omega)] | rw [if_neg (show ¬ v5 / 4 % 2 = 0 by omega)]
                rw [← hx0, ← hx1, ← hx2]
              refine vc_iastore dX10_setWeights_96 (s_36 hQ34.1.1) (by omega) (by omega) ?_
              have hB27 : BF fW M (sI Mq34 36 v5.toNat (wI ((wI (x1 * x8)) * (10 - x15)))) := BF.w36 hQ34 (fun _ => rfl) _
              refine vc_iincE dX10_setWeights_97 rfl (by omega) (by omega) (by decide) rfl (show _ = [some (aR 35), none, some (aI x1), some (aI x8), some (aI x15), some (aI (v5 + 1))] from rfl) ?_
              refine vc_goto dX10_setWeights_100 ?_
              exact ih34 (sI Mq34 36 v5.toNat (wI ((wI (x1 * x8)) * (10 - x15)))) (v5 + 1) hB27 (by omega) (by omega) (by first | (intro w hw; exfalso; omega) | (intro w hw; by_cases q : (w : Int) = v5; (rw [mI_sI, if_pos ⟨rfl, by omega⟩, q]; exact hval); (rw [mI_sI, if_neg (by omega)]; exact g34i0 w (by omega)))) (by omega)
          · refine vc_bipush dX10_setWeights_69 rfl ?_
            refine vc_iload_n dX10_setWeights_71 rfl ?_
            refine vc_isubE dX10_setWeights_72 (by omega) (by omega) ?_
            refine vc_goto dX10_setWeights_73 ?_
            refine vc_imul dX10_setWeights_77 ?_
            refine vc_iload dX10_setWeights_78 rfl ?_
            refine vc_iconst dX10_setWeights_80 rfl ?_
            refine vc_iand dX10_setWeights_81 ?_
            refine vc_if_ne dX10_setWeights_82 (fun h28 => ?_) (fun h28 => ?_)
            · refine vc_iload dX10_setWeights_93 rfl ?_
              refine vc_imul dX10_setWeights_95 ?_
              have hval : wI ((wI (x1 * (10 - x8))) * x15) = wtS (cS M) t v5 := by
                refine Eq.trans ?_ (w3 (fac_b (p4 0 (by decide) (by decide)) (v5 % 2)) (fac_b (p4 1 (by decide) (by decide)) (v5 / 2 % 2)) (fac_b (p4 2 (by decide) (by decide)) (v5 / 4 % 2))).1
                unfold fac
                first | rw [if_pos (show v5 % 2 = 0 by omega)] | rw [if_neg (show ¬ v5 % 2 = 0 by omega)]
                first | rw [if_pos (show v5 / 2 % 2 = 0 by omega)] | rw [if_neg (show ¬ v5 / 2 % 2 = 0 by omega)]
                first | rw [if_pos (show v5 / 4 % 2 = 0 by omega)] | rw [if_neg (show ¬ v5 / 4 % 2 = 0 by omega)]
                rw [← hx0, ← hx1, ← hx2]
              refine vc_iastore dX10_setWeights_96 (s_36 hQ34.1.1) (by omega) (by omega) ?_
              have hB29 : BF fW M (sI Mq34 36 v5.toNat (wI ((wI (x1 * (10 - x8))) * x15))) := BF.w36 hQ34 (fun _ => rfl) _
              refine vc_iincE dX10_setWeights_97 rfl (by omega) (by omega) (by decide) rfl (show _ = [some (aR 35), none, some (aI x1), some (aI x8), some (aI x15), some (aI (v5 + 1))] from rfl) ?_
              refine vc_goto dX10_setWeights_100 ?_
              exact ih34 (sI Mq34 36 v5.toNat (wI ((wI (x1 * (10 - x8))) * x15))) (v5 + 1) hB29 (by omega) (by omega) (by first | (intro w hw; exfalso; omega) | (intro w hw; by_cases q : (w : Int) = v5; (rw [mI_sI, if_pos ⟨rfl, by omega⟩, q]; exact hval); (rw [mI_sI, if_neg (by omega)]; exact g34i0 w (by omega)))) (by omega)
            · refine vc_bipush dX10_setWeights_85 rfl ?_
              refine vc_iload dX10_setWeights_87 rfl ?_
              refine vc_isubE dX10_setWeights_89 (by omega) (by omega) ?_
              refine vc_goto dX10_setWeights_90 ?_
              refine vc_imul dX10_setWeights_95 ?_
              have hval : wI ((wI (x1 * (10 - x8))) * (10 - x15)) = wtS (cS M) t v5 := by
                refine Eq.trans ?_ (w3 (fac_b (p4 0 (by decide) (by decide)) (v5 % 2)) (fac_b (p4 1 (by decide) (by decide)) (v5 / 2 % 2)) (fac_b (p4 2 (by decide) (by decide)) (v5 / 4 % 2))).1
                unfold fac
                first | rw [if_pos (show v5 % 2 = 0 by omega)] | rw [if_neg (show ¬ v5 % 2 = 0 by omega)]
                first | rw [if_pos (show v5 / 2 % 2 = 0 by omega)] | rw [if_neg (show ¬ v5 / 2 % 2 = 0 by omega)]
                first | rw [if_pos (show v5 / 4 % 2 = 0 by omega)] | rw [if_neg (show ¬ v5 / 4 % 2 = 0 by omega)]
                rw [← hx0, ← hx1, ← hx2]
              refine vc_iastore dX10_setWeights_96 (s_36 hQ34.1.1) (by omega) (by omega) ?_
              have hB30 : BF fW M (sI Mq34 36 v5.toNat (wI ((wI (x1 * (10 - x8))) * (10 - x15)))) := BF.w36 hQ34 (fun _ => rfl) _
              refine vc_iincE dX10_setWeights_97 rfl (by omega) (by omega) (by decide) rfl (show _ = [some (aR 35), none, some (aI x1), some (aI x8), some (aI x15), some (aI (v5 + 1))] from rfl) ?_
              refine vc_goto dX10_setWeights_100 ?_
              exact ih34 (sI Mq34 36 v5.toNat (wI ((wI (x1 * (10 - x8))) * (10 - x15)))) (v5 + 1) hB30 (by omega) (by omega) (by first | (intro w hw; exfalso; omega) | (intro w hw; by_cases q : (w : Int) = v5; (rw [mI_sI, if_pos ⟨rfl, by omega⟩, q]; exact hval); (rw [mI_sI, if_neg (by omega)]; exact g34i0 w (by omega)))) (by omega)
        · refine vc_bipush dX10_setWeights_54 rfl ?_
          refine vc_iload_n dX10_setWeights_56 rfl ?_
          refine vc_isubE dX10_setWeights_57 (by omega) (by omega) ?_
          refine vc_goto dX10_setWeights_58 ?_
          refine vc_iload dX10_setWeights_62 rfl ?_
          refine vc_iconst dX10_setWeights_64 rfl ?_
          refine vc_iand dX10_setWeights_65 ?_
          refine vc_if_ne dX10_setWeights_66 (fun h31 => ?_) (fun h31 => ?_)
          · refine vc_iload_n dX10_setWeights_76 rfl ?_
            refine vc_imul dX10_setWeights_77 ?_
            refine vc_iload dX10_setWeights_78 rfl ?_
            refine vc_iconst dX10_setWeights_80 rfl ?_
            refine vc_iand dX10_setWeights_81 ?_
            refine vc_if_ne dX10_setWeights_82 (fun h32 => ?_) (fun h32 => ?_)
            · refine vc_iload dX10_setWeights_93 rfl ?_
              refine vc_imul dX10_setWeights_95 ?_
              have hval : wI ((wI ((10 - x1) * x8)) * x15) = wtS (cS M) t v5 := by
                refine Eq.trans ?_ (w3 (fac_b (p4 0 (by decide) (by decide)) (v5 % 2)) (fac_b (p4 1 (by decide) (by decide)) (v5 / 2 % 2)) (fac_b (p4 2 (by decide) (by decide)) (v5 / 4 % 2))).1
                unfold fac
                first | rw [if_pos (show v5 % 2 = 0 by omega)] | rw [if_neg (show ¬ v5 % 2 = 0 by omega)]
                first | rw [if_pos (show v5 / 2 % 2 = 0 by omega)] | rw [if_neg (show ¬ v5 / 2 % 2 = 0 by omega)]
                first | rw [if_pos (show v5 / 4 % 2 = 0 by omega)] | rw [if_neg (show ¬ v5 / 4 % 2 = 0 by omega)]
                rw [← hx0, ← hx1, ← hx2]
              refine vc_iastore dX10_setWeights_96 (s_36 hQ34.1.1) (by omega) (by omega) ?_
              have hB33 : BF fW M (sI Mq34 36 v5.toNat (wI ((wI ((10 - x1) * x8)) * x15))) := BF.w36 hQ34 (fun _ => rfl) _
              refine vc_iincE dX10_setWeights_97 rfl (by omega) (by omega) (by decide) rfl (show _ = [some (aR 35), none, some (aI x1), some (aI x8), some (aI x15), some (aI (v5 + 1))] from rfl) ?_
              refine vc_goto dX10_setWeights_100 ?_
              exact ih34 (sI Mq34 36 v5.toNat (wI ((wI ((10 - x1) * x8)) * x15))) (v5 + 1) hB33 (by omega) (by omega) (by first | (intro w hw; exfalso; omega) | (intro w hw; by_cases q : (w : Int) = v5; (rw [mI_sI, if_pos ⟨rfl, by omega⟩, q]; exact hval); (rw [mI_sI, if_neg (by omega)]; exact g34i0 w (by omega)))) (by omega)
            · refine vc_bipush dX10_setWeights_85 rfl ?_
              refine vc_iload dX10_setWeights_87 rfl ?_
              refine vc_isubE dX10_setWeights_89 (by omega) (by omega) ?_
              refine vc_goto dX10_setWeights_90 ?_
              refine vc_imul dX10_setWeights_95 ?_
              have hval : wI ((wI ((10 - x1) * x8)) * (10 - x15)) = wtS (cS M) t v5 := by
                refine Eq.trans ?_ (w3 (fac_b (p4 0 (by decide) (by decide)) (v5 % 2)) (fac_b (p4 1 (by decide) (by decide)) (v5 / 2 % 2)) (fac_b (p4 2 (by decide) (by decide)) (v5 / 4 % 2))).1
                unfold fac
                first | rw [if_pos (show v5 % 2 = 0 by omega)] | rw [if_neg (show ¬ v5 % 2 = 0 by omega)]
                first | rw [if_pos (show v5 / 2 % 2 = 0 by omega)] | rw [if_neg (show ¬ v5 / 2 % 2 = 0 by omega)]
                first | rw [if_pos (show v5 / 4 % 2 = 0 by omega)] | rw [if_neg (show ¬ v5 / 4 % 2 = 0 by omega)]
                rw [← hx0, ← hx1, ← hx2]
              refine vc_iastore dX10_setWeights_96 (s_36 hQ34.1.1) (by omega) (by omega) ?_
              have hB34 : BF fW M (sI Mq34 36 v5.toNat (wI ((wI ((10 - x1) * x8)) * (10 - x15)))) := BF.w36 hQ34 (fun _ => rfl) _
              refine vc_iincE dX10_setWeights_97 rfl (by omega) (by omega) (by decide) rfl (show _ = [some (aR 35), none, some (aI x1), some (aI x8), some (aI x15), some (aI (v5 + 1))] from rfl) ?_
              refine vc_goto dX10_setWeights_100 ?_
              exact ih34 (sI Mq34 36 v5.toNat (wI ((wI ((10 - x1) * x8)) * (10 - x15)))) (v5 + 1) hB34 (by omega) (by omega) (by first | (intro w hw; exfalso; omega) | (intro w hw; by_cases q : (w : Int) = v5; (rw [mI_sI, if_pos ⟨rfl, by omega⟩, q]; exact hval); (rw [mI_sI, if_neg (by omega)]; exact g34i0 w (by omega)))) (by omega)
          · refine vc_bipush dX10_setWeights_69 rfl ?_
            refine vc_iload_n dX10_setWeights_71 rfl ?_
            refine vc_isubE dX10_setWeights_72 (by omega) (by omega) ?_
            refine vc_goto dX10_setWeights_73 ?_
            refine vc_imul dX10_setWeights_77 ?_
            refine vc_iload dX10_setWeights_78 rfl ?_
            refine vc_iconst dX10_setWeights_80 rfl ?_
            refine vc_iand dX10_setWeights_81 ?_
            refine vc_if_ne dX10_setWeights_82 (fun h35 => ?_) (fun h35 => ?_)
            · refine vc_iload dX10_setWeights_93 rfl ?_
              refine vc_imul dX10_setWeights_95 ?_
              have hval : wI ((wI ((10 - x1) * (10 - x8))) * x15) = wtS (cS M) t v5 := by
                refine Eq.trans ?_ (w3 (fac_b (p4 0 (by decide) (by decide)) (v5 % 2)) (fac_b (p4 1 (by decide) (by decide)) (v5 / 2 % 2)) (fac_b (p4 2 (by decide) (by decide)) (v5 / 4 % 2))).1
                unfold fac
                first | rw [if_pos (show v5 % 2 = 0 by omega)] | rw [if_neg (show ¬ v5 % 2 = 0 by omega)]
                first | rw [if_pos (show v5 / 2 % 2 = 0 by omega)] | rw [if_neg (show ¬ v5 / 2 % 2 = 0 by omega)]
                first | rw [if_pos (show v5 / 4 % 2 = 0 by omega)] | rw [if_neg (show ¬ v5 / 4 % 2 = 0 by omega)]
                rw [← hx0, ← hx1, ← hx2]
              refine vc_iastore dX10_setWeights_96 (s_36 hQ34.1.1) (by omega) (by omega) ?_
              have hB36 : BF fW M (sI Mq34 36 v5.toNat (wI ((wI ((10 - x1) * (10 - x8))) * x15))) := BF.w36 hQ34 (fun _ => rfl) _
              refine vc_iincE dX10_setWeights_97 rfl (by omega) (by omega) (by decide) rfl (show _ = [some (aR 35), none, some (aI x1), some (aI x8), some (aI x15), some (aI (v5 + 1))] from rfl) ?_
              refine vc_goto dX10_setWeights_100 ?_
              exact ih34 (sI Mq34 36 v5.toNat (wI ((wI ((10 - x1) * (10 - x8))) * x15))) (v5 + 1) hB36 (by omega) (by omega) (by first | (intro w hw; exfalso; omega) | (intro w hw; by_cases q : (w : Int) = v5; (rw [mI_sI, if_pos ⟨rfl, by omega⟩, q]; exact hval); (rw [mI_sI, if_neg (by omega)]; exact g34i0 w (by omega)))) (by omega)
            · refine vc_bipush dX10_setWeights_85 rfl ?_
              refine vc_iload dX10_setWeights_87 rfl ?_
              refine vc_isubE dX10_setWeights_89 (by omega) (by omega) ?_
              refine vc_goto dX10_setWeights_90 ?_
              refine vc_imul dX10_setWeights_95 ?_
              have hval : wI ((wI ((10 - x1) * (10 - x8))) * (10 - x15)) = wtS (cS M) t v5 := by
                refine Eq.trans ?_ (w3 (fac_b (p4 0 (by decide) (by decide)) (v5 % 2)) (fac_b (p4 1 (by decide) (by decide)) (v5 / 2 % 2)) (fac_b (p4 2 (by decide) (by decide)) (v5 / 4 % 2))).1
                unfold fac
                first | rw [if_pos (show v5 % 2 = 0 by omega)] | rw [if_neg (show ¬ v5 % 2 = 0 by omega)]
                first | rw [if_pos (show v5 / 2 % 2 = 0 by omega)] | rw [if_neg (show ¬ v5 / 2 % 2 = 0 by omega)]
                first | rw [if_pos (show v5 / 4 % 2 = 0 by omega)] | rw [if_neg (show ¬ v5 / 4 % 2 = 0 by omega)]
                rw [← hx0, ← hx1, ← hx2]
              refine vc_iastore dX10_setWeights_96 (s_36 hQ34.1.1) (by omega) (by omega) ?_
              have hB37 : BF fW M (sI Mq34 36 v5.toNat (wI ((wI ((10 - x1) * (10 - x8))) * (10 - x15)))) := BF.w36 hQ34 (fun _ => rfl) _
              refine vc_iincE dX10_setWeights_97 rfl (by omega) (by omega) (by decide) rfl (show _ = [some (aR 35), none, some (aI x1), some (aI x8), some (aI x15), some (aI (v5 + 1))] from rfl) ?_
              refine vc_goto dX10_setWeights_100 ?_
              exact ih34 (sI Mq34 36 v5.toNat (wI ((wI ((10 - x1) * (10 - x8))) * (10 - x15)))) (v5 + 1) hB37 (by omega) (by omega) (by first | (intro w hw; exfalso; omega) | (intro w hw; by_cases q : (w : Int) = v5; (rw [mI_sI, if_pos ⟨rfl, by omega⟩, q]; exact hval); (rw [mI_sI, if_neg (by omega)]; exact g34i0 w (by omega)))) (by omega)
  refine vc_less [some (aR 35), none, some (aI x1), some (aI x8), some (aI x15), some (aI 0)] (lessL_keep (lessL_drop (lessL_keep (lessL_keep (lessL_keep (lessL_keep (lessL_nil))))))) ?_
  exact lp34 _ M16 0 hB21 (by omega) (by omega) (by first | (intro w hw; exfalso; omega) | (intro w hw; by_cases q : (w : Int) = v5; (rw [mI_sI, if_pos ⟨rfl, by omega⟩, q]; exact hval); (rw [mI_sI, if_neg (by omega)]; exact g34i0 w (by omega)))) (Nat.lt_succ_self _)

set_option maxRecDepth 4000 in
theorem sfX10_weighF {l : Launch} {M : Mem} (hB : Box M)  (t : Int) (p0 : 0 ≤ t) (p1 : t < mI M 1 9) (p2 : 0 ≤ mI M 6 (9 * t).toNat ∧ mI M 6 (9 * t).toNat < mI M 1 8) (p3 : wfG (cS M) t) (p4 : wfL (cS M)) (p5 : slOk (cS M) t) : Call l mdX10_weigh [aR 35, aI t] M (fun q N => q = none ∧ BF fW M N ∧ WyC (cS M) t (mI N 36) (mI N 37)) := by
  have hB0 : BF fW M M := BF.start hB
  refine Call.of [some (aR 35), some (aI t), none] rfl (Nat.le_of_ble_eq_true rfl) rfl ?_
  refine vc_ok (fun hoM hoS hoL => ?_)
  have hr1 : -2147483648 ≤ t ∧ t < 2147483648 := hoL 1 _ rfl
  refine vc_aload_n dX10_weigh_0 rfl ?_
  refine vc_iload_n dX10_weigh_1 rfl ?_
  refine vc_cVU dX10_weigh_2 (sfX10_setWeightsF (M := M) hB0.1  t (by omega) (by omega) (by omega) (by exact p4) (by exact p5)) rfl okX10_setWeights viX10_setWeights lkX10_43 (s_35 hB0.1.1) cl_10 rfl (Nat.le_of_ble_eq_true rfl) ⟨rfl, rfl⟩ (Nat.le_of_ble_eq_true rfl) (Nat.le_of_ble_eq_true rfl) (Nat.le_of_ble_eq_true rfl) ?_
  rintro M1 ⟨hB2, h3⟩
  have hB4 : BF fW M M1 := BF.go hB0 hB2
  have hsw := h3
  refine vc_iconst dX10_weigh_5 rfl ?_
  refine vc_istore_n dX10_weigh_6 (by decide) rfl (show _ = [some (aR 35), some (aI t), some (aI 0)] from rfl) ?_
  have lp7 : ∀ (n7 : Nat) (Mq7 : Mem) (v2 : Int), (BF fW M Mq7) → (0 ≤ v2) → (v2 ≤ 8) → (∀ w : Nat, (w : Int) < v2 → mI Mq7 37 w = enS (cS M) t w) → (∀ w : Nat, w < 8 → mI Mq7 36 w = wtS (cS M) t w) → (8 - v2).toNat < n7 → VC l mdX10_weigh 7 [some (aR 35), some (aI t), some (aI v2)] [] Mq7 0 0 (fun q N => q = none ∧ BF fW M N ∧ WyC (cS M) t (mI N 36) (mI N 37)) := by
    intro n7
    induction n7 with
    | zero => intro Mq7 v2 hQ7 g7_2a g7_2b g7i0 g7i1 hm7; exact absurd hm7 (Nat.not_lt_zero _)
    | succ n7 ih7 =>
      intro Mq7 v2 hQ7 g7_2a g7_2b g7i0 g7i1 hm7
      refine vc_iload_n dX10_weigh_7 rfl ?_
      refine vc_bipush dX10_weigh_8 rfl ?_
      refine vc_icmp_ge dX10_weigh_10 (fun h5 => ?_) (fun h5 => ?_)
      · refine vc_vret dX10_weigh_66 rfl (Nat.le_of_ble_eq_true rfl) (Nat.le_of_ble_eq_true rfl) ?_
        exact ⟨rfl, hQ7, fun w hw => ⟨g7i1 w hw, g7i0 w (by omega)⟩⟩
      · refine vc_aload_n dX10_weigh_13 rfl ?_
        refine vc_getR dX10_weigh_14 flX10_19 (s_35 hQ7.1.1) rfl (r_35_2 hQ7.1.1) ?_
        refine vc_iload_n dX10_weigh_17 rfl ?_
        have hcq : cS Mq7 = cS M := cS_bf hB hQ7
        have hkq : mI Mq7 1 9 = mI M 1 9 ∧ mI Mq7 6 (9 * t).toNat = mI M 6 (9 * t).toNat ∧ mI Mq7 1 8 = mI M 1 8 := ⟨hQ7.2.2 1 9 rfl, hQ7.2.2 6 _ rfl, hQ7.2.2 1 8 rfl⟩
        refine vc_cVU dX10_weigh_18 (sfX1_setOutAsToldF (M := Mq7) hQ7.1  t (by omega) (by omega) (by omega) (by omega)) rfl okX1_setOutAsTold viX1_setOutAsTold lkX10_47 (s_32 hQ7.1.1) cl_1 rfl (Nat.le_of_ble_eq_true rfl) ⟨rfl, rfl⟩ (Nat.le_of_ble_eq_true rfl) (Nat.le_of_ble_eq_true rfl) (Nat.le_of_ble_eq_true rfl) ?_
        rintro M6 ⟨hB7, h8⟩
        have hB9 : BF fW M M6 := BF.go hQ7 hB7.sw
        have hgw : gW M6 = (cS M 5 (4 * cS M 6 (9 * t).toNat).toNat, cS M 6 (9 * t + 1).toNat, 0, 0) := h8.trans (by rw [hcq])
        have hcs : cS M6 = cS M := cS_bf hB hB9
        have hwf : wfG (cS M6) t := by rw [hcs]; exact p3
        have ka36 : mI M6 36 = mI Mq7 36 := funext fun j => hB7.2.2 36 j rfl
        have ka37 : mI M6 37 = mI Mq7 37 := funext fun j => hB7.2.2 37 j rfl
        refine vc_aload_n dX10_weigh_21 rfl ?_
        refine vc_getR dX10_weigh_22 flX10_27 (s_35 hB9.1.1) rfl (r_35_4 hB9.1.1) ?_
        refine vc_iload_n dX10_weigh_25 rfl ?_
        refine vc_aload_n dX10_weigh_26 rfl ?_
        refine vc_getR dX10_weigh_27 flX10_23 (s_35 hB9.1.1) rfl (r_35_3 hB9.1.1) ?_
        refine vc_iload_n dX10_weigh_30 rfl ?_
        refine vc_iaload dX10_weigh_31 (s_36 hB9.1.1) (by omega) (by omega) ?_
        refine vc_if_eq dX10_weigh_32 (fun h10 => ?_) (fun h10 => ?_)
        · refine vc_iconst dX10_weigh_58 rfl ?_
          have hz : mI M6 36 v2.toNat = wtS (cS M) t v2 := by have z := g7i1 v2.toNat (by omega); rw [show ((v2.toNat : Nat) : Int) = v2 by omega] at z; exact (congrFun ka36 _).trans z
          have hval : (-1) = enS (cS M) t v2 := by
            unfold enS
            rw [if_pos (by rw [← hz]; omega)]
          have kc36 := ka36
          have kc37 := ka37
          refine vc_iastore dX10_weigh_59 (s_37 hB9.1.1) (by omega) (by omega) ?_
          have hB11 : BF fW M (sI M6 37 v2.toNat (-1)) := BF.w37 hB9 (fun _ => rfl) _
          refine vc_iincE dX10_weigh_60 rfl (by omega) (by omega) (by decide) rfl (show _ = [some (aR 35), some (aI t), some (aI (v2 + 1))] from rfl) ?_
          refine vc_goto dX10_weigh_63 ?_
          exact ih7 (sI M6 37 v2.toNat (-1)) (v2 + 1) hB11 (by omega) (by omega) (by first | (intro w hw; exfalso; omega) | (intro w hw; by_cases q : (w : Int) = v2; (rw [mI_sI, if_pos ⟨rfl, by omega⟩, q]; exact hval); (rw [mI_sI, if_neg (by omega), kc37]; exact g7i0 w (by omega)))) (by first | exact hsw | (intro w hw; rw [mI_sI, if_neg (by omega), kc36]; exact g7i1 w hw)) (by omega)
        · refine vc_aload_n dX10_weigh_35 rfl ?_
          refine vc_getR dX10_weigh_36 flX10_19 (s_35 hB9.1.1) rfl (r_35_2 hB9.1.1) ?_
          refine vc_iload_n dX10_weigh_39 rfl ?_
          refine vc_iload_n dX10_weigh_40 rfl ?_
          refine vc_iconst dX10_weigh_41 rfl ?_
          refine vc_cVI dX10_weigh_42 (sfX1_goesAllF (M := M6) hB9.1  t v2 (-1) (by omega) (by omega) (by exact hwf)) rfl okX1_goesAll viX1_goesAll lkX10_52 (s_32 hB9.1.1) cl_1 rfl (Nat.le_of_ble_eq_true rfl) ⟨rfl, rfl⟩ (Nat.le_of_ble_eq_true rfl) (Nat.le_of_ble_eq_true rfl) (Nat.le_of_ble_eq_true rfl) ?_
          rintro x12 M13 ⟨hB14, h15, h16, h17⟩
          have hB18 : BF fW M M13 := BF.go hB9 hB14.sw
          have hga := h17
          rw [hcs, hgw] at hga
          have kb36 : mI M13 36 = mI Mq7 36 := (funext fun j => hB14.2.2 36 j rfl : mI M13 36 = mI M6 36).trans ka36
          have kb37 : mI M13 37 = mI Mq7 37 := (funext fun j => hB14.2.2 37 j rfl : mI M13 37 = mI M6 37).trans ka37
          refine vc_if_eq dX10_weigh_45 (fun h19 => ?_) (fun h19 => ?_)
          · refine vc_iconst dX10_weigh_58 rfl ?_
            have hz : mI M6 36 v2.toNat = wtS (cS M) t v2 := by have z := g7i1 v2.toNat (by omega); rw [show ((v2.toNat : Nat) : Int) = v2 by omega] at z; exact (congrFun ka36 _).trans z
            have hval : (-1) = enS (cS M) t v2 := by
              unfold enS
              rw [if_neg (by rw [← hz]; omega)]
              unfold leS
              rcases hga with h | h <;> first | (exfalso; omega) | (rw [h.2]; rfl)
            have kc36 := kb36
            have kc37 := kb37
            refine vc_iastore dX10_weigh_59 (s_37 hB18.1.1) (by omega) (by omega) ?_
            have hB20 : BF fW M (sI M13 37 v2.toNat (-1)) := BF.w37 hB18 (fun _ => rfl) _
            refine vc_iincE dX10_weigh_60 rfl (by omega) (by omega) (by decide) rfl (show _ = [some (aR 35), some (aI t), some (aI (v2 + 1))] from rfl) ?_
            refine vc_goto dX10_weigh_63 ?_
            exact ih7 (sI M13 37 v2.toNat (-1)) (v2 + 1) hB20 (by omega) (by omega) (by first | (intro w hw; exfalso; omega) | (intro w hw; by_cases q : (w : Int) = v2; (rw [mI_sI, if_pos ⟨rfl, by omega⟩, q]; exact hval); (rw [mI_sI, if_neg (by omega), kc37]; exact g7i0 w (by omega)))) (by first | exact hsw | (intro w hw; rw [mI_sI, if_neg (by omega), kc36]; exact g7i1 w hw)) (by omega)
          · refine vc_aload_n dX10_weigh_48 rfl ?_
            refine vc_getR dX10_weigh_49 flX10_19 (s_35 hB18.1.1) rfl (r_35_2 hB18.1.1) ?_
            refine vc_getI dX10_weigh_52 flX10_56 (s_32 hB18.1.1) rfl ?_
            refine vc_goto dX10_weigh_55 ?_
            have hz : mI M6 36 v2.toNat = wtS (cS M) t v2 := by have z := g7i1 v2.toNat (by omega); rw [show ((v2.toNat : Nat) : Int) = v2 by omega] at z; exact (congrFun ka36 _).trans z
            have hval : mI M13 32 2 = enS (cS M) t v2 := by
              unfold enS
              rw [if_neg (by rw [← hz]; omega)]
              unfold leS
              rcases hga with h | h <;> first | (exfalso; omega) | (rw [h.2]; rfl)
            have kc36 := kb36
            have kc37 := kb37
            refine vc_iastore dX10_weigh_59 (s_37 hB18.1.1) (by omega) (by omega) ?_
            have hB21 : BF fW M (sI M13 37 v2.toNat (mI M13 32 2)) := BF.w37 hB18 (fun _ => rfl) _
            refine vc_iincE dX10_weigh_60 rfl (by omega) (by omega) (by decide) rfl (show _ = [some (aR 35), some (aI t), some (aI (v2 + 1))] from rfl) ?_
            refine vc_goto dX10_weigh_63 ?_
            exact ih7 (sI M13 37 v2.toNat (mI M13 32 2)) (v2 + 1) hB21 (by omega) (by omega) (by first | (intro w hw; exfalso; omega) | (intro w hw; by_cases q : (w : Int) = v2; (rw [mI_sI, if_pos ⟨rfl, by omega⟩, q]; exact hval); (rw [mI_sI, if_neg (by omega), kc37]; exact g7i0 w (by omega)))) (by first | exact hsw | (intro w hw; rw [mI_sI, if_neg (by omega), kc36]; exact g7i1 w hw)) (by omega)
  exact lp7 _ M1 0 hB4 (by omega) (by omega) (by first | (intro w hw; exfalso; omega) | (intro w hw; by_cases q : (w : Int) = v2; (rw [mI_sI, if_pos ⟨rfl, by omega⟩, q]; exact hval); (rw [mI_sI, if_neg (by omega), kc37]; exact g7i0 w (by omega)))) (by first | exact hsw | (intro w hw; rw [mI_sI, if_neg (by omega), kc36]; exact g7i1 w hw)) (Nat.lt_succ_self _)

set_option maxRecDepth 4000 in
theorem sfX10_weightToF {l : Launch} {M : Mem} (hB : Box M)  (c : Int) (s : Int) (p0 : ∀ w : Nat, w < 8 → 0 ≤ mI M 36 w ∧ mI M 36 w ≤ 1000) : Call l mdX10_weightTo [aR 35, aI c, aI s] M (fun q N => ∃ r : Int, q = some (aI r) ∧ M = N ∧ r = sm (cwF (mI M 36) (mI M 37) c s) 8) := by
  have hB0 : BF fQ M M := BF.start hB
  refine Call.of [some (aR 35), some (aI c), some (aI s), none, none] rfl (Nat.le_of_ble_eq_true rfl) rfl ?_
  refine vc_ok (fun hoM hoS hoL => ?_)
  have hr1 : -2147483648 ≤ c ∧ c < 2147483648 := hoL 1 _ rfl
  have hr2 : -2147483648 ≤ s ∧ s < 2147483648 := hoL 2 _ rfl
  refine vc_iconst dX10_weightTo_0 rfl ?_
  refine vc_istore_n dX10_weightTo_1 (by decide) rfl (show _ = [some (aR 35), some (aI c), some (aI s), some (aI 0), none] from rfl) ?_
  refine vc_iconst dX10_weightTo_2 rfl ?_
  refine vc_istore dX10_weightTo_3 (by decide) rfl (show _ = [some (aR 35), some (aI c), some (aI s), some (aI 0), some (aI 0)] from rfl) ?_
  have lp5 : ∀ (n5 : Nat) (v3 : Int) (v4 : Int), (0 ≤ v4) → (v4 ≤ 8) → (v3 = sm (cwF (mI M 36) (mI M 37) c s) v4.toNat) → (8 - v4).toNat < n5 → VC l mdX10_weightTo 5 [some (aR 35), some (aI c), some (aI s), some (aI v3), some (aI v4)] [] M 0 0 (fun q N => ∃ r : Int, q = some (aI r) ∧ M = N ∧ r = sm (cwF (mI M 36) (mI M 37) c s) 8) := by
    intro n5
    induction n5 with
    | zero => intro v3 v4 g5_4a g5_4b g5i0 hm5; exact absurd hm5 (Nat.not_lt_zero _)
    | succ n5 ih5 =>
      intro v3 v4 g5_4a g5_4b g5i0 hm5
      refine vc_iload dX10_weightTo_5 rfl ?_
      refine vc_bipush dX10_weightTo_7 rfl ?_
      refine vc_icmp_ge dX10_weightTo_9 (fun h1 => ?_) (fun h1 => ?_)
      · refine vc_iload_n dX10_weightTo_63 rfl ?_
        refine vc_iret dX10_weightTo_64 rfl (Nat.le_of_ble_eq_true rfl) (Nat.le_of_ble_eq_true rfl) ?_
        exact ⟨_, rfl, rfl, by rw [g5i0, show v4.toNat = 8 by omega]⟩
      · have hv4 : ((v4.toNat : Nat) : Int) = v4 := by omega
        have hsb := sm_b (B := 0) (f := cwF (mI M 36) (mI M 37) c s) v4.toNat (fun i hi => by unfold cwF; split; (exact p0 i (by omega)); omega)
        have h36 := p0 v4.toNat (by omega)
        rw [hv4] at hsb
        refine vc_aload_n dX10_weightTo_12 rfl ?_
        refine vc_getR dX10_weightTo_13 flX10_27 (s_35 hB0.1.1) rfl (r_35_4 hB0.1.1) ?_
        refine vc_iload dX10_weightTo_16 rfl ?_
        refine vc_iaload dX10_weightTo_18 (s_37 hB0.1.1) (by omega) (by omega) ?_
        refine vc_iconst dX10_weightTo_19 rfl ?_
        refine vc_icmp_eq dX10_weightTo_20 (fun h2 => ?_) (fun h2 => ?_)
        · refine vc_iincE dX10_weightTo_57 rfl (by omega) (by omega) (by decide) rfl (show _ = [some (aR 35), some (aI c), some (aI s), some (aI v3), some (aI (v4 + 1))] from rfl) ?_
          refine vc_goto dX10_weightTo_60 ?_
          exact ih5 v3 (v4 + 1) (by omega) (by omega) (by first | rfl | (rw [show (v4 + 1).toNat = v4.toNat + 1 by omega, sm_z (by unfold cwF; rw [hv4]; exact if_neg (fun q => by omega)), ← g5i0]; done) | (rw [show (v4 + 1).toNat = v4.toNat + 1 by omega, sm_s (x := mI M 36 v4.toNat) (by unfold cwF; rw [hv4]; exact if_pos ⟨by omega, by omega, by omega⟩), ← g5i0]; have e := wI_id (x := v3 + mI M 36 v4.toNat) (by omega) (by omega); first | omega | (rw [e]))) (by omega)
        · refine vc_iload_n dX10_weightTo_23 rfl ?_
          refine vc_iconst dX10_weightTo_24 rfl ?_
          refine vc_icmp_eq dX10_weightTo_25 (fun h3 => ?_) (fun h3 => ?_)
          · refine vc_iload dX10_weightTo_39 rfl ?_
            refine vc_iload_n dX10_weightTo_41 rfl ?_
            refine vc_iand dX10_weightTo_42 ?_
            refine vc_iload_n dX10_weightTo_43 rfl ?_
            refine vc_icmp_ne dX10_weightTo_44 (fun h4 => ?_) (fun h4 => ?_)
            · refine vc_iincE dX10_weightTo_57 rfl (by omega) (by omega) (by decide) rfl (show _ = [some (aR 35), some (aI c), some (aI s), some (aI v3), some (aI (v4 + 1))] from rfl) ?_
              refine vc_goto dX10_weightTo_60 ?_
              exact ih5 v3 (v4 + 1) (by omega) (by omega) (by first | rfl | (rw [show (v4 + 1).toNat = v4.toNat + 1 by omega, sm_z (by unfold cwF; rw [hv4]; exact if_neg (fun q => by omega)), ← g5i0]; done) | (rw [show (v4 + 1).toNat = v4.toNat + 1 by omega, sm_s (x := mI M 36 v4.toNat) (by unfold cwF; rw [hv4]; exact if_pos ⟨by omega, by omega, by omega⟩), ← g5i0]; have e := wI_id (x := v3 + mI M 36 v4.toNat) (by omega) (by omega); first | omega | (rw [e]))) (by omega)
            · refine vc_iload_n dX10_weightTo_47 rfl ?_
              refine vc_aload_n dX10_weightTo_48 rfl ?_
              refine vc_getR dX10_weightTo_49 flX10_23 (s_35 hB0.1.1) rfl (r_35_3 hB0.1.1) ?_
              refine vc_iload dX10_weightTo_52 rfl ?_
              refine vc_iaload dX10_weightTo_54 (s_36 hB0.1.1) (by omega) (by omega) ?_
              refine vc_iadd dX10_weightTo_55 ?_
              refine vc_nameI (fun x5 ex5 => ?_)
              refine vc_istore_n dX10_weightTo_56 (by decide) rfl (show _ = [some (aR 35), some (aI c), some (aI s), some (aI x5), some (aI v4)] from rfl) ?_
              refine vc_iincE dX10_weightTo_57 rfl (by omega) (by omega) (by decide) rfl (show _ = [some (aR 35), some (aI c), some (aI s), some (aI x5), some (aI (v4 + 1))] from rfl) ?_
              refine vc_goto dX10_weightTo_60 ?_
              exact ih5 x5 (v4 + 1) (by omega) (by omega) (by first | rfl | (rw [show (v4 + 1).toNat = v4.toNat + 1 by omega, sm_z (by unfold cwF; rw [hv4]; exact if_neg (fun q => by omega)), ← g5i0]; done) | (rw [show (v4 + 1).toNat = v4.toNat + 1 by omega, sm_s (x := mI M 36 v4.toNat) (by unfold cwF; rw [hv4]; exact if_pos ⟨by omega, by omega, by omega⟩), ← g5i0]; have e := wI_id (x := v3 + mI M 36 v4.toNat) (by omega) (by omega); first | omega | (rw [e]))) (by omega)
          · refine vc_aload_n dX10_weightTo_28 rfl ?_
            refine vc_getR dX10_weightTo_29 flX10_27 (s_35 hB0.1.1) rfl (r_35_4 hB0.1.1) ?_
            refine vc_iload dX10_weightTo_32 rfl ?_
            refine vc_iaload dX10_weightTo_34 (s_37 hB0.1.1) (by omega) (by omega) ?_
            refine vc_iload_n dX10_weightTo_35 rfl ?_
            refine vc_icmp_ne dX10_weightTo_36 (fun h6 => ?_) (fun h6 => ?_)
            · refine vc_iincE dX10_weightTo_57 rfl (by omega) (by omega) (by decide) rfl (show _ = [some (aR 35), some (aI c), some (aI s), some (aI v3), some (aI (v4 + 1))] from rfl) ?_
              refine vc_goto dX10_weightTo_60 ?_
              exact ih5 v3 (v4 + 1) (by omega) (by omega) (by first | rfl | (rw [show (v4 + 1).toNat = v4.toNat + 1 by omega, sm_z (by unfold cwF; rw [hv4]; exact if_neg (fun q => by omega)), ← g5i0]; done) | (rw [show (v4 + 1).toNat = v4.toNat + 1 by omega, sm_s (x := mI M 36 v4.toNat) (by unfold cwF; rw [hv4]; exact if_pos ⟨by omega, by omega, by omega⟩), ← g5i0]; have e := wI_id (x := v3 + mI M 36 v4.toNat) (by omega) (by omega); first | omega | (rw [e]))) (by omega)
            · refine vc_iload dX10_weightTo_39 rfl ?_
              refine vc_iload_n dX10_weightTo_41 rfl ?_
              refine vc_iand dX10_weightTo_42 ?_
              refine vc_iload_n dX10_weightTo_43 rfl ?_
              refine vc_icmp_ne dX10_weightTo_44 (fun h7 => ?_) (fun h7 => ?_)
              · refine vc_iincE dX10_weightTo_57 rfl (by omega) (by omega) (by decide) rfl (show _ = [some (aR 35), some (aI c), some (aI s), some (aI v3), some (aI (v4 + 1))] from rfl) ?_
                refine vc_goto dX10_weightTo_60 ?_
                exact ih5 v3 (v4 + 1) (by omega) (by omega) (by first | rfl | (rw [show (v4 + 1).toNat = v4.toNat + 1 by omega, sm_z (by unfold cwF; rw [hv4]; exact if_neg (fun q => by omega)), ← g5i0]; done) | (rw [show (v4 + 1).toNat = v4.toNat + 1 by omega, sm_s (x := mI M 36 v4.toNat) (by unfold cwF; rw [hv4]; exact if_pos ⟨by omega, by omega, by omega⟩), ← g5i0]; have e := wI_id (x := v3 + mI M 36 v4.toNat) (by omega) (by omega); first | omega | (rw [e]))) (by omega)
              · refine vc_iload_n dX10_weightTo_47 rfl ?_
                refine vc_aload_n dX10_weightTo_48 rfl ?_
                refine vc_getR dX10_weightTo_49 flX10_23 (s_35 hB0.1.1) rfl (r_35_3 hB0.1.1) ?_
                refine vc_iload dX10_weightTo_52 rfl ?_
                refine vc_iaload dX10_weightTo_54 (s_36 hB0.1.1) (by omega) (by omega) ?_
                refine vc_iadd dX10_weightTo_55 ?_
                refine vc_nameI (fun x8 ex8 => ?_)
                refine vc_istore_n dX10_weightTo_56 (by decide) rfl (show _ = [some (aR 35), some (aI c), some (aI s), some (aI x8), some (aI v4)] from rfl) ?_
                refine vc_iincE dX10_weightTo_57 rfl (by omega) (by omega) (by decide) rfl (show _ = [some (aR 35), some (aI c), some (aI s), some (aI x8), some (aI (v4 + 1))] from rfl) ?_
                refine vc_goto dX10_weightTo_60 ?_
                exact ih5 x8 (v4 + 1) (by omega) (by omega) (by first | rfl | (rw [show (v4 + 1).toNat = v4.toNat + 1 by omega, sm_z (by unfold cwF; rw [hv4]; exact if_neg (fun q => by omega)), ← g5i0]; done) | (rw [show (v4 + 1).toNat = v4.toNat + 1 by omega, sm_s (x := mI M 36 v4.toNat) (by unfold cwF; rw [hv4]; exact if_pos ⟨by omega, by omega, by omega⟩), ← g5i0]; have e := wI_id (x := v3 + mI M 36 v4.toNat) (by omega) (by omega); first | omega | (rw [e]))) (by omega)
  exact lp5 _ 0 0 (by omega) (by omega) (by first | rfl | (rw [show (v4 + 1).toNat = v4.toNat + 1 by omega, sm_z (by unfold cwF; rw [hv4]; exact if_neg (fun q => by omega)), ← g5i0]; done) | (rw [show (v4 + 1).toNat = v4.toNat + 1 by omega, sm_s (x := mI M 36 v4.toNat) (by unfold cwF; rw [hv4]; exact if_pos ⟨by omega, by omega, by omega⟩), ← g5i0]; have e := wI_id (x := v3 + mI M 36 v4.toNat) (by omega) (by omega); first | omega | (rw [e]))) (Nat.lt_succ_self _)

