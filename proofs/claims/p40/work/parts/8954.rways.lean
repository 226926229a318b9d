/-! THE WAYS of the reference (written by wip/laws3/c25b.py) -/
set_option maxRecDepth 4000 in
theorem sfX12_hasW {l : Launch} {M : Mem} (hB : Box M)  (s : Int) (k : Int)  : Call l mdX12_has [aI s, aI k] M (fun q N => ∃ r : Int, q = some (aI r) ∧ M = N ∧ 0 ≤ r ∧ r ≤ 1 ∧ ((r = 1 ∧ shrI s k % 2 ≠ 0) ∨ (r = 0 ∧ shrI s k % 2 = 0))) := by
  have hB0 : BF fQ M M := BF.start hB
  refine Call.of [some (aI s), some (aI k)] rfl (Nat.le_of_ble_eq_true rfl) rfl ?_
  refine vc_ok (fun hoM hoS hoL => ?_)
  have hr0 : -2147483648 ≤ s ∧ s < 2147483648 := hoL 0 _ rfl
  have hr1 : -2147483648 ≤ k ∧ k < 2147483648 := hoL 1 _ rfl
  refine vc_iload_n dX12_has_0 rfl ?_
  refine vc_iload_n dX12_has_1 rfl ?_
  refine vc_ishr dX12_has_2 ?_
  refine vc_iconst dX12_has_3 rfl ?_
  refine vc_iandM dX12_has_4 2 1 rfl (by decide) rfl ?_
  refine vc_iconst dX12_has_5 rfl ?_
  refine vc_icmp_ne dX12_has_6 (fun h1 => ?_) (fun h1 => ?_)
  · refine vc_iconst dX12_has_13 rfl ?_
    refine vc_zret dX12_has_14 rfl (by first | decide | omega) (Nat.le_of_ble_eq_true rfl) (Nat.le_of_ble_eq_true rfl) ?_
    exact ⟨_, rfl, rfl, by omega, by omega, by omega⟩
  · refine vc_iconst dX12_has_9 rfl ?_
    refine vc_goto dX12_has_10 ?_
    refine vc_zret dX12_has_14 rfl (by first | decide | omega) (Nat.le_of_ble_eq_true rfl) (Nat.le_of_ble_eq_true rfl) ?_
    exact ⟨_, rfl, rfl, by omega, by omega, by omega⟩

set_option maxRecDepth 4000 in
theorem sfX12_findWeightsF {l : Launch} {M : Mem} (hB : Box M) (S : Sw) (t : Int) (p0 : 0 ≤ t) (p1 : t ≤ 7) (p2 : TA (mI M 55) S) (p3 : t < S 1 9) (p4 : aAs (mI M 55) S) (p5 : LwS S (mI M 57)) (p6 : asB S 1000000) (p7 : nmT S) (p8 : slOk S t) : Call l mdX12_findWeights [aR 54, aI t] M (fun q N => q = none ∧ BF fW M N ∧ mI N 55 = mI M 55 ∧ (∀ w : Nat, w < 8 → mI N 65 w = wtS S t w)) := by
  have hB0 : BF fW M M := BF.start hB
  refine Call.of [some (aR 54), some (aI t), none, none, none] rfl (Nat.le_of_ble_eq_true rfl) rfl ?_
  refine vc_iconst dX12_findWeights_0 rfl ?_
  refine vc_istore_n dX12_findWeights_1 (by decide) rfl (show _ = [some (aR 54), some (aI t), some (aI 0), none, none] from rfl) ?_
  have lp2 : ∀ (n2 : Nat) (Mq2 : Mem) (v2 : Int), (BF fW M Mq2) → (mI Mq2 55 = mI M 55) → (0 ≤ v2) → (v2 ≤ 8) → (∀ w : Nat, (w : Int) < v2 → mI Mq2 65 w = 1) → (8 - v2).toNat < n2 → VC l mdX12_findWeights 2 [some (aR 54), some (aI t), some (aI v2), none, none] [] Mq2 0 0 (fun q N => q = none ∧ BF fW M N ∧ mI N 55 = mI M 55 ∧ (∀ w : Nat, w < 8 → mI N 65 w = wtS S t w)) := by
    intro n2
    induction n2 with
    | zero => intro Mq2 v2 hQ2 kp2_55 g2_2a g2_2b g2i0 hm2; exact absurd hm2 (Nat.not_lt_zero _)
    | succ n2 ih2 =>
      intro Mq2 v2 hQ2 kp2_55 g2_2a g2_2b g2i0 hm2
      refine vc_iload_n dX12_findWeights_2 rfl ?_
      refine vc_bipush dX12_findWeights_3 rfl ?_
      refine vc_icmp_ge dX12_findWeights_5 (fun h1 => ?_) (fun h1 => ?_)
      · refine vc_iconst dX12_findWeights_21 rfl ?_
        refine vc_istore_n dX12_findWeights_22 (by decide) rfl (show _ = [some (aR 54), some (aI t), some (aI 0), none, none] from rfl) ?_
        have lp23 : ∀ (n23 : Nat) (Mq23 : Mem) (v2i : Int), (BF fW M Mq23) → (mI Mq23 55 = mI M 55) → (0 ≤ v2i) → (v2i ≤ 3) → (∀ w : Nat, w < 8 → mI Mq23 65 w = pf S t w v2i.toNat) → (3 - v2i).toNat < n23 → VC l mdX12_findWeights 23 [some (aR 54), some (aI t), some (aI v2i), none, none] [] Mq23 0 0 (fun q N => q = none ∧ BF fW M N ∧ mI N 55 = mI M 55 ∧ (∀ w : Nat, w < 8 → mI N 65 w = wtS S t w)) := by
          intro n23
          induction n23 with
          | zero => intro Mq23 v2i hQ23 kp23_55 g23_2a g23_2b g23i0 hm23; exact absurd hm23 (Nat.not_lt_zero _)
          | succ n23 ih23 =>
            intro Mq23 v2i hQ23 kp23_55 g23_2a g23_2b g23i0 hm23
            refine vc_iload_n dX12_findWeights_23 rfl ?_
            refine vc_iconst dX12_findWeights_24 rfl ?_
            refine vc_icmp_ge dX12_findWeights_25 (fun h2 => ?_) (fun h2 => ?_)
            · refine vc_vret dX12_findWeights_84 rfl (Nat.le_of_ble_eq_true rfl) (Nat.le_of_ble_eq_true rfl) ?_
              exact ⟨rfl, hQ23, kp23_55, fun w hw => by rw [g23i0 w hw, show v2i.toNat = 3 by omega]; exact pf_3 (by omega) (by omega)⟩
            · refine vc_aload_n dX12_findWeights_28 rfl ?_
              refine vc_iload_n dX12_findWeights_29 rfl ?_
              refine vc_iload_n dX12_findWeights_30 rfl ?_
              have hta : TA (mI Mq23 55) S := by rw [kp23_55]; exact p2
              have has : aAs (mI Mq23 55) S := by rw [kp23_55]; exact p4
              have hlw : LwS S (mI Mq23 57) := by rw [show mI Mq23 57 = mI M 57 from funext fun j => hQ23.2.2 57 j rfl]; exact p5
              refine vc_cVI dX12_findWeights_31 (sfX12_slipOfF (M := Mq23) hQ23.1 S t v2i (by omega) (by omega) (by omega) (by omega) (by exact hta) (by exact p3) (by exact has) (by exact hlw) (by exact p6) (by exact p7)) rfl okX12_slipOf viX12_slipOf lkX12_446 (s_54 hQ23.1.1) cl_12 rfl (Nat.le_of_ble_eq_true rfl) ⟨rfl, rfl⟩ (Nat.le_of_ble_eq_true rfl) (Nat.le_of_ble_eq_true rfl) (Nat.le_of_ble_eq_true rfl) ?_
              rintro x3 M4 ⟨hB5, kp6, kp7, kp8, kp9, kp10, kp11, h12⟩
              have hB13 : BF fW M M4 := BF.go hQ23 hB5.sw
              have kp14 : mI M4 55 = mI M 55 := kp_go kp23_55 kp7
              have hx : x3 = slS S t v2i := h12
              have hxb : 0 ≤ x3 ∧ x3 ≤ 10 := by rw [hx]; exact p8 v2i (by omega) (by omega)
              have hk65 : mI M4 65 = mI Mq23 65 := funext fun j => hB5.2.2 65 j rfl
              have hx2 : x3 = slS S t (v2i.toNat : Nat) := by rw [show ((v2i.toNat : Nat) : Int) = v2i by omega]; exact hx
              refine vc_istore_n dX12_findWeights_34 (by decide) rfl (show _ = [some (aR 54), some (aI t), some (aI v2i), some (aI x3), none] from rfl) ?_
              refine vc_iconst dX12_findWeights_35 rfl ?_
              refine vc_istore dX12_findWeights_36 (by decide) rfl (show _ = [some (aR 54), some (aI t), some (aI v2i), some (aI x3), some (aI 0)] from rfl) ?_
              have lp38 : ∀ (n38 : Nat) (Mq38 : Mem) (v4 : Int), (BF fW M Mq38) → (mI Mq38 55 = mI M 55) → (0 ≤ v4) → (v4 ≤ 8) → (∀ w : Nat, w < 8 → mI Mq38 65 w = if (w : Int) < v4 then pf S t w (v2i.toNat + 1) else pf S t w v2i.toNat) → (8 - v4).toNat < n38 → VC l mdX12_findWeights 38 [some (aR 54), some (aI t), some (aI v2i), some (aI x3), some (aI v4)] [] Mq38 0 0 (fun q N => q = none ∧ BF fW M N ∧ mI N 55 = mI M 55 ∧ (∀ w : Nat, w < 8 → mI N 65 w = wtS S t w)) := by
                intro n38
                induction n38 with
                | zero => intro Mq38 v4 hQ38 kp38_55 g38_4a g38_4b g38i0 hm38; exact absurd hm38 (Nat.not_lt_zero _)
                | succ n38 ih38 =>
                  intro Mq38 v4 hQ38 kp38_55 g38_4a g38_4b g38i0 hm38
                  refine vc_iload dX12_findWeights_38 rfl ?_
                  refine vc_bipush dX12_findWeights_40 rfl ?_
                  refine vc_icmp_ge dX12_findWeights_42 (fun h15 => ?_) (fun h15 => ?_)
                  · refine vc_iincE dX12_findWeights_78 rfl (by omega) (by omega) (by decide) rfl (show _ = [some (aR 54), some (aI t), some (aI (v2i + 1)), some (aI x3), some (aI v4)] from rfl) ?_
                    refine vc_goto dX12_findWeights_81 ?_
                    refine vc_less [some (aR 54), some (aI t), some (aI (v2i + 1)), none, none] (lessL_keep (lessL_keep (lessL_keep (lessL_drop (lessL_drop (lessL_nil)))))) ?_
                    exact ih23 Mq38 (v2i + 1) hQ38 kp38_55 (by omega) (by omega) (by first | (intro w hw; rw [show (v2i + 1).toNat = v2i.toNat + 1 by omega]; have z := g38i0 w hw; rw [if_pos (by omega)] at z; exact z) | (intro w hw; exact g2i0 w (by omega))) (by omega)
                  · refine vc_aload_n dX12_findWeights_45 rfl ?_
                    refine vc_getR dX12_findWeights_46 flX12_48 (s_54 hQ38.1.1) rfl (r_54_34 hQ38.1.1) ?_
                    refine vc_iload dX12_findWeights_49 rfl ?_
                    refine vc_dup2 dX12_findWeights_51 rfl rfl ?_
                    refine vc_iaload dX12_findWeights_52 (s_65 hQ38.1.1) (by omega) (by omega) ?_
                    refine vc_iload dX12_findWeights_53 rfl ?_
                    refine vc_iload_n dX12_findWeights_55 rfl ?_
                    refine vc_cSI dX12_findWeights_56 (sfX12_hasW (M := Mq38) hQ38.1  v4 v2i ) rfl okX12_has stX12_has lkX12_268 rfl (Nat.le_of_ble_eq_true rfl) ⟨rfl, rfl⟩ (Nat.le_of_ble_eq_true rfl) (Nat.le_of_ble_eq_true rfl) (Nat.le_of_ble_eq_true rfl) ?_
                    rintro x16 _ ⟨rfl, h17, h18, h19⟩
                    refine vc_if_eq dX12_findWeights_59 (fun h20 => ?_) (fun h20 => ?_)
                    · refine vc_bipush dX12_findWeights_66 rfl ?_
                      refine vc_iload_n dX12_findWeights_68 rfl ?_
                      refine vc_isub dX12_findWeights_69 ?_
                      refine vc_imul dX12_findWeights_70 ?_
                      have hv4 : ((v4.toNat : Nat) : Int) = v4 := by omega
                      have hol : mI Mq38 65 v4.toNat = pf S t v4 v2i.toNat := by have z := g38i0 v4.toNat (by omega); rw [if_neg (by omega), hv4] at z; exact z
                      have hps := pf_s p8 v4 (k := v2i.toNat) (by omega) hx2
                      have hval : wI ((mI Mq38 65 v4.toNat) * (wI (10 - x3))) = pf S t v4 (v2i.toNat + 1) := by
                        show _ = pf S t v4 v2i.toNat * fac (slS S t (v2i.toNat : Nat)) (shrI v4 (v2i.toNat : Nat) % 2)
                        rw [hol, ← hx2]
                        unfold fac
                        rw [show ((v2i.toNat : Nat) : Int) = v2i by omega]
                        first | (rw [if_pos (by omega)]; exact hps.1) | (rw [if_neg (by omega)]; exact hps.2)
                      refine vc_iastore dX12_findWeights_71 (s_65 hQ38.1.1) (by omega) (by omega) ?_
                      have kp21 : mI (sI Mq38 65 v4.toNat (wI ((mI Mq38 65 v4.toNat) * (wI (10 - x3))))) 55 = mI M 55 := (kp_sI kp38_55 rfl)
                      have hB22 : BF fW M (sI Mq38 65 v4.toNat (wI ((mI Mq38 65 v4.toNat) * (wI (10 - x3))))) := BF.w65 hQ38 (fun _ => rfl) _
                      refine vc_iincE dX12_findWeights_72 rfl (by omega) (by omega) (by decide) rfl (show _ = [some (aR 54), some (aI t), some (aI v2i), some (aI x3), some (aI (v4 + 1))] from rfl) ?_
                      refine vc_goto dX12_findWeights_75 ?_
                      exact ih38 (sI Mq38 65 v4.toNat (wI ((mI Mq38 65 v4.toNat) * (wI (10 - x3))))) (v4 + 1) hB22 kp21 (by omega) (by omega) (by first | (intro w hw; rw [if_neg (by omega), hk65]; exact g23i0 w hw) | (intro w hw; by_cases q : (w : Int) = v4; (rw [mI_sI, if_pos ⟨rfl, by omega⟩, if_pos (by omega), q]; exact hval); (rw [mI_sI, if_neg (by omega), g38i0 w hw]; by_cases q2 : (w : Int) < v4; (rw [if_pos q2, if_pos (by omega)]); (rw [if_neg q2, if_neg (by omega)])))) (by omega)
                    · refine vc_iload_n dX12_findWeights_62 rfl ?_
                      refine vc_goto dX12_findWeights_63 ?_
                      refine vc_imul dX12_findWeights_70 ?_
                      have hv4 : ((v4.toNat : Nat) : Int) = v4 := by omega
                      have hol : mI Mq38 65 v4.toNat = pf S t v4 v2i.toNat := by have z := g38i0 v4.toNat (by omega); rw [if_neg (by omega), hv4] at z; exact z
                      have hps := pf_s p8 v4 (k := v2i.toNat) (by omega) hx2
                      have hval : wI ((mI Mq38 65 v4.toNat) * x3) = pf S t v4 (v2i.toNat + 1) := by
                        show _ = pf S t v4 v2i.toNat * fac (slS S t (v2i.toNat : Nat)) (shrI v4 (v2i.toNat : Nat) % 2)
                        rw [hol, ← hx2]
                        unfold fac
                        rw [show ((v2i.toNat : Nat) : Int) = v2i by omega]
                        first | (rw [if_pos (by omega)]; exact hps.1) | (rw [if_neg (by omega)]; exact hps.2)
                      refine vc_iastore dX12_findWeights_71 (s_65 hQ38.1.1) (by omega) (by omega) ?_
                      have kp23 : mI (sI Mq38 65 v4.toNat (wI ((mI Mq38 65 v4.toNat) * x3))) 55 = mI M 55 := (kp_sI kp38_55 rfl)
                      have hB24 : BF fW M (sI Mq38 65 v4.toNat (wI ((mI Mq38 65 v4.toNat) * x3))) := BF.w65 hQ38 (fun _ => rfl) _
                      refine vc_iincE dX12_findWeights_72 rfl (by omega) (by omega) (by decide) rfl (show _ = [some (aR 54), some (aI t), some (aI v2i), some (aI x3), some (aI (v4 + 1))] from rfl) ?_
                      refine vc_goto dX12_findWeights_75 ?_
                      exact ih38 (sI Mq38 65 v4.toNat (wI ((mI Mq38 65 v4.toNat) * x3))) (v4 + 1) hB24 kp23 (by omega) (by omega) (by first | (intro w hw; rw [if_neg (by omega), hk65]; exact g23i0 w hw) | (intro w hw; by_cases q : (w : Int) = v4; (rw [mI_sI, if_pos ⟨rfl, by omega⟩, if_pos (by omega), q]; exact hval); (rw [mI_sI, if_neg (by omega), g38i0 w hw]; by_cases q2 : (w : Int) < v4; (rw [if_pos q2, if_pos (by omega)]); (rw [if_neg q2, if_neg (by omega)])))) (by omega)
              exact lp38 _ M4 0 hB13 kp14 (by omega) (by omega) (by first | (intro w hw; rw [if_neg (by omega), hk65]; exact g23i0 w hw) | (intro w hw; by_cases q : (w : Int) = v4; (rw [mI_sI, if_pos ⟨rfl, by omega⟩, if_pos (by omega), q]; exact hval); (rw [mI_sI, if_neg (by omega), g38i0 w hw]; by_cases q2 : (w : Int) < v4; (rw [if_pos q2, if_pos (by omega)]); (rw [if_neg q2, if_neg (by omega)])))) (Nat.lt_succ_self _)
        exact lp23 _ Mq2 0 hQ2 kp2_55 (by omega) (by omega) (by first | (intro w hw; rw [show (v2i + 1).toNat = v2i.toNat + 1 by omega]; have z := g38i0 w hw; rw [if_pos (by omega)] at z; exact z) | (intro w hw; exact g2i0 w (by omega))) (Nat.lt_succ_self _)
      · refine vc_aload_n dX12_findWeights_8 rfl ?_
        refine vc_getR dX12_findWeights_9 flX12_48 (s_54 hQ2.1.1) rfl (r_54_34 hQ2.1.1) ?_
        refine vc_iload_n dX12_findWeights_12 rfl ?_
        refine vc_iconst dX12_findWeights_13 rfl ?_
        refine vc_iastore dX12_findWeights_14 (s_65 hQ2.1.1) (by omega) (by omega) ?_
        have kp25 : mI (sI Mq2 65 v2.toNat 1) 55 = mI M 55 := (kp_sI kp2_55 rfl)
        have hB26 : BF fW M (sI Mq2 65 v2.toNat 1) := BF.w65 hQ2 (fun _ => rfl) _
        refine vc_iincE dX12_findWeights_15 rfl (by omega) (by omega) (by decide) rfl (show _ = [some (aR 54), some (aI t), some (aI (v2 + 1)), none, none] from rfl) ?_
        refine vc_goto dX12_findWeights_18 ?_
        exact ih2 (sI Mq2 65 v2.toNat 1) (v2 + 1) hB26 kp25 (by omega) (by omega) (by first | (intro w hw; exfalso; omega) | (intro w hw; by_cases q : (w : Int) = v2; (rw [mI_sI, if_pos ⟨rfl, by omega⟩]); (rw [mI_sI, if_neg (by omega)]; exact g2i0 w (by omega)))) (by omega)
  exact lp2 _ M 0 hB0 rfl (by omega) (by omega) (by first | (intro w hw; exfalso; omega) | (intro w hw; by_cases q : (w : Int) = v2; (rw [mI_sI, if_pos ⟨rfl, by omega⟩]); (rw [mI_sI, if_neg (by omega)]; exact g2i0 w (by omega)))) (Nat.lt_succ_self _)

set_option maxRecDepth 4000 in
theorem sfX12_findWaysF {l : Launch} {M : Mem} (hB : Box M) (S : Sw) (t : Int) (p0 : 0 ≤ t) (p1 : t ≤ 7) (p2 : TA (mI M 55) S) (p3 : t < S 1 9) (p4 : aAs (mI M 55) S) (p5 : LwS S (mI M 57)) (p6 : asB S 1000000) (p7 : nmT S) (p8 : slOk S t) : Call l mdX12_findWays [aR 54, aI t] M (fun q N => q = none ∧ BF fW M N ∧ mI N 55 = mI M 55 ∧ WyR S t (mI N 64) (mI N 65)) := by
  have hB0 : BF fW M M := BF.start hB
  refine Call.of [some (aR 54), some (aI t), none] rfl (Nat.le_of_ble_eq_true rfl) rfl ?_
  refine vc_aload_n dX12_findWays_0 rfl ?_
  refine vc_iload_n dX12_findWays_1 rfl ?_
  refine vc_cVU dX12_findWays_2 (sfX12_findWeightsF (M := M) hB0.1 S t (by omega) (by omega) (by exact p2) (by exact p3) (by exact p4) (by exact p5) (by exact p6) (by exact p7) (by exact p8)) rfl okX12_findWeights viX12_findWeights lkX12_452 (s_54 hB0.1.1) cl_12 rfl (Nat.le_of_ble_eq_true rfl) ⟨rfl, rfl⟩ (Nat.le_of_ble_eq_true rfl) (Nat.le_of_ble_eq_true rfl) (Nat.le_of_ble_eq_true rfl) ?_
  rintro M1 ⟨hB2, kp3, h4⟩
  have hB5 : BF fW M M1 := BF.go hB0 hB2
  have kp6 : mI M1 55 = mI M 55 := kp_go rfl kp3
  have hfw := h4
  refine vc_iconst dX12_findWays_5 rfl ?_
  refine vc_istore_n dX12_findWays_6 (by decide) rfl (show _ = [some (aR 54), some (aI t), some (aI 0)] from rfl) ?_
  have lp7 : ∀ (n7 : Nat) (Mq7 : Mem) (v2 : Int), (BF fW M Mq7) → (mI Mq7 55 = mI M 55) → (0 ≤ v2) → (v2 ≤ 8) → (∀ w : Nat, (w : Int) < v2 → mI Mq7 64 w = leS S t w (-1)) → (∀ w : Nat, w < 8 → mI Mq7 65 w = wtS S t w) → (8 - v2).toNat < n7 → VC l mdX12_findWays 7 [some (aR 54), some (aI t), some (aI v2)] [] Mq7 0 0 (fun q N => q = none ∧ BF fW M N ∧ mI N 55 = mI M 55 ∧ WyR S t (mI N 64) (mI N 65)) := by
    intro n7
    induction n7 with
    | zero => intro Mq7 v2 hQ7 kp7_55 g7_2a g7_2b g7i0 g7i1 hm7; exact absurd hm7 (Nat.not_lt_zero _)
    | succ n7 ih7 =>
      intro Mq7 v2 hQ7 kp7_55 g7_2a g7_2b g7i0 g7i1 hm7
      refine vc_iload_n dX12_findWays_7 rfl ?_
      refine vc_bipush dX12_findWays_8 rfl ?_
      refine vc_icmp_ge dX12_findWays_10 (fun h7 => ?_) (fun h7 => ?_)
      · refine vc_vret dX12_findWays_31 rfl (Nat.le_of_ble_eq_true rfl) (Nat.le_of_ble_eq_true rfl) ?_
        exact ⟨rfl, hQ7, kp7_55, fun w hw => ⟨g7i1 w hw, g7i0 w (by omega)⟩⟩
      · refine vc_aload_n dX12_findWays_13 rfl ?_
        refine vc_getR dX12_findWays_14 flX12_45 (s_54 hQ7.1.1) rfl (r_54_33 hQ7.1.1) ?_
        refine vc_iload_n dX12_findWays_17 rfl ?_
        refine vc_aload_n dX12_findWays_18 rfl ?_
        refine vc_iload_n dX12_findWays_19 rfl ?_
        refine vc_iload_n dX12_findWays_20 rfl ?_
        have hta : TA (mI Mq7 55) S := by rw [kp7_55]; exact p2
        have hlw : LwS S (mI Mq7 57) := by rw [show mI Mq7 57 = mI M 57 from funext fun j => hQ7.2.2 57 j rfl]; exact p5
        refine vc_cVI dX12_findWays_21 (sfX12_leadsOfF (M := Mq7) hQ7.1 S t v2 (by omega) (by omega) (by omega) (by omega) (by exact hta) (by exact p3) (by exact hlw) (by exact p7)) rfl okX12_leadsOf viX12_leadsOf lkX12_449 (s_54 hQ7.1.1) cl_12 rfl (Nat.le_of_ble_eq_true rfl) ⟨rfl, rfl⟩ (Nat.le_of_ble_eq_true rfl) (Nat.le_of_ble_eq_true rfl) (Nat.le_of_ble_eq_true rfl) ?_
        rintro x8 M9 ⟨hB10, kp11, h12, h13, h14⟩
        have hB15 : BF fW M M9 := BF.go hQ7 hB10.sw
        have kp16 : mI M9 55 = mI M 55 := kp_go kp7_55 kp11
        have hval : x8 = leS S t v2 (-1) := h14
        have kc64 : mI M9 64 = mI Mq7 64 := funext fun j => hB10.2.2 64 j rfl
        have kc65 : mI M9 65 = mI Mq7 65 := funext fun j => hB10.2.2 65 j rfl
        refine vc_iastore dX12_findWays_24 (s_64 hB15.1.1) (by omega) (by omega) ?_
        have kp17 : mI (sI M9 64 v2.toNat x8) 55 = mI M 55 := (kp_sI kp16 rfl)
        have hB18 : BF fW M (sI M9 64 v2.toNat x8) := BF.w64 hB15 (fun _ => rfl) _
        refine vc_iincE dX12_findWays_25 rfl (by omega) (by omega) (by decide) rfl (show _ = [some (aR 54), some (aI t), some (aI (v2 + 1))] from rfl) ?_
        refine vc_goto dX12_findWays_28 ?_
        exact ih7 (sI M9 64 v2.toNat x8) (v2 + 1) hB18 kp17 (by omega) (by omega) (by first | (intro w hw; exfalso; omega) | (intro w hw; by_cases q : (w : Int) = v2; (rw [mI_sI, if_pos ⟨rfl, by omega⟩, q]; exact hval); (rw [mI_sI, if_neg (by omega), kc64]; exact g7i0 w (by omega)))) (by first | exact hfw | (intro w hw; rw [mI_sI, if_neg (by omega), kc65]; exact g7i1 w hw)) (by omega)
  exact lp7 _ M1 0 hB5 kp6 (by omega) (by omega) (by first | (intro w hw; exfalso; omega) | (intro w hw; by_cases q : (w : Int) = v2; (rw [mI_sI, if_pos ⟨rfl, by omega⟩, q]; exact hval); (rw [mI_sI, if_neg (by omega), kc64]; exact g7i0 w (by omega)))) (by first | exact hfw | (intro w hw; rw [mI_sI, if_neg (by omega), kc65]; exact g7i1 w hw)) (Nat.lt_succ_self _)

set_option maxRecDepth 4000 in
theorem sfX12_weightToF {l : Launch} {M : Mem} (hB : Box M)  (c : Int) (p0 : ∀ w : Nat, w < 8 → 0 ≤ mI M 65 w ∧ mI M 65 w ≤ 1000) : Call l mdX12_weightTo [aR 54, aI c] M (fun q N => ∃ r : Int, q = some (aI r) ∧ M = N ∧ r = sm (rwF (mI M 64) (mI M 65) c) 8) := by
  have hB0 : BF fQ M M := BF.start hB
  refine Call.of [some (aR 54), some (aI c), none, none] rfl (Nat.le_of_ble_eq_true rfl) rfl ?_
  refine vc_ok (fun hoM hoS hoL => ?_)
  have hr1 : -2147483648 ≤ c ∧ c < 2147483648 := hoL 1 _ rfl
  refine vc_iconst dX12_weightTo_0 rfl ?_
  refine vc_istore_n dX12_weightTo_1 (by decide) rfl (show _ = [some (aR 54), some (aI c), some (aI 0), none] from rfl) ?_
  refine vc_iconst dX12_weightTo_2 rfl ?_
  refine vc_istore_n dX12_weightTo_3 (by decide) rfl (show _ = [some (aR 54), some (aI c), some (aI 0), some (aI 0)] from rfl) ?_
  have lp4 : ∀ (n4 : Nat) (v2 : Int) (v3 : Int), (0 ≤ v3) → (v3 ≤ 8) → (v2 = sm (rwF (mI M 64) (mI M 65) c) v3.toNat) → (8 - v3).toNat < n4 → VC l mdX12_weightTo 4 [some (aR 54), some (aI c), some (aI v2), some (aI v3)] [] M 0 0 (fun q N => ∃ r : Int, q = some (aI r) ∧ M = N ∧ r = sm (rwF (mI M 64) (mI M 65) c) 8) := by
    intro n4
    induction n4 with
    | zero => intro v2 v3 g4_3a g4_3b g4i0 hm4; exact absurd hm4 (Nat.not_lt_zero _)
    | succ n4 ih4 =>
      intro v2 v3 g4_3a g4_3b g4i0 hm4
      refine vc_iload_n dX12_weightTo_4 rfl ?_
      refine vc_bipush dX12_weightTo_5 rfl ?_
      refine vc_icmp_ge dX12_weightTo_7 (fun h1 => ?_) (fun h1 => ?_)
      · refine vc_iload_n dX12_weightTo_54 rfl ?_
        refine vc_iret dX12_weightTo_55 rfl (Nat.le_of_ble_eq_true rfl) (Nat.le_of_ble_eq_true rfl) ?_
        exact ⟨_, rfl, rfl, by rw [g4i0, show v3.toNat = 8 by omega]⟩
      · have hv3 : ((v3.toNat : Nat) : Int) = v3 := by omega
        have hsb := sm_b (B := 0) (f := rwF (mI M 64) (mI M 65) c) v3.toNat (fun i hi => by unfold rwF; split; (exact p0 i (by omega)); omega)
        have h65 := p0 v3.toNat (by omega)
        rw [hv3] at hsb
        refine vc_iload_n dX12_weightTo_10 rfl ?_
        refine vc_aload_n dX12_weightTo_11 rfl ?_
        refine vc_getR dX12_weightTo_12 flX12_45 (s_54 hB0.1.1) rfl (r_54_33 hB0.1.1) ?_
        refine vc_iload_n dX12_weightTo_15 rfl ?_
        refine vc_iaload dX12_weightTo_16 (s_64 hB0.1.1) (by omega) (by omega) ?_
        refine vc_iconst dX12_weightTo_17 rfl ?_
        refine vc_icmp_eq dX12_weightTo_18 (fun h2 => ?_) (fun h2 => ?_)
        · refine vc_iconst dX12_weightTo_45 rfl ?_
          refine vc_iadd dX12_weightTo_46 ?_
          refine vc_nameI (fun x3 ex3 => ?_)
          refine vc_istore_n dX12_weightTo_47 (by decide) rfl (show _ = [some (aR 54), some (aI c), some (aI x3), some (aI v3)] from rfl) ?_
          refine vc_iincE dX12_weightTo_48 rfl (by omega) (by omega) (by decide) rfl (show _ = [some (aR 54), some (aI c), some (aI x3), some (aI (v3 + 1))] from rfl) ?_
          refine vc_goto dX12_weightTo_51 ?_
          exact ih4 x3 (v3 + 1) (by omega) (by omega) (by first | rfl | (rw [show (v3 + 1).toNat = v3.toNat + 1 by omega, sm_z (by unfold rwF; exact if_neg (fun q => by omega)), ← g4i0]; have e := wI_id (x := v2 + 0) (by omega) (by omega); omega) | (rw [show (v3 + 1).toNat = v3.toNat + 1 by omega, sm_s (x := mI M 65 v3.toNat) (by unfold rwF; exact if_pos ⟨by omega, by omega⟩), ← g4i0]; have e := wI_id (x := v2 + mI M 65 v3.toNat) (by omega) (by omega); omega)) (by omega)
        · refine vc_iload_n dX12_weightTo_21 rfl ?_
          refine vc_iconst dX12_weightTo_22 rfl ?_
          refine vc_icmp_eq dX12_weightTo_23 (fun h4 => ?_) (fun h4 => ?_)
          · refine vc_aload_n dX12_weightTo_36 rfl ?_
            refine vc_getR dX12_weightTo_37 flX12_48 (s_54 hB0.1.1) rfl (r_54_34 hB0.1.1) ?_
            refine vc_iload_n dX12_weightTo_40 rfl ?_
            refine vc_iaload dX12_weightTo_41 (s_65 hB0.1.1) (by omega) (by omega) ?_
            refine vc_goto dX12_weightTo_42 ?_
            refine vc_iadd dX12_weightTo_46 ?_
            refine vc_nameI (fun x5 ex5 => ?_)
            refine vc_istore_n dX12_weightTo_47 (by decide) rfl (show _ = [some (aR 54), some (aI c), some (aI x5), some (aI v3)] from rfl) ?_
            refine vc_iincE dX12_weightTo_48 rfl (by omega) (by omega) (by decide) rfl (show _ = [some (aR 54), some (aI c), some (aI x5), some (aI (v3 + 1))] from rfl) ?_
            refine vc_goto dX12_weightTo_51 ?_
            exact ih4 x5 (v3 + 1) (by omega) (by omega) (by first | rfl | (rw [show (v3 + 1).toNat = v3.toNat + 1 by omega, sm_z (by unfold rwF; exact if_neg (fun q => by omega)), ← g4i0]; have e := wI_id (x := v2 + 0) (by omega) (by omega); omega) | (rw [show (v3 + 1).toNat = v3.toNat + 1 by omega, sm_s (x := mI M 65 v3.toNat) (by unfold rwF; exact if_pos ⟨by omega, by omega⟩), ← g4i0]; have e := wI_id (x := v2 + mI M 65 v3.toNat) (by omega) (by omega); omega)) (by omega)
          · refine vc_aload_n dX12_weightTo_26 rfl ?_
            refine vc_getR dX12_weightTo_27 flX12_45 (s_54 hB0.1.1) rfl (r_54_33 hB0.1.1) ?_
            refine vc_iload_n dX12_weightTo_30 rfl ?_
            refine vc_iaload dX12_weightTo_31 (s_64 hB0.1.1) (by omega) (by omega) ?_
            refine vc_iload_n dX12_weightTo_32 rfl ?_
            refine vc_icmp_ne dX12_weightTo_33 (fun h6 => ?_) (fun h6 => ?_)
            · refine vc_iconst dX12_weightTo_45 rfl ?_
              refine vc_iadd dX12_weightTo_46 ?_
              refine vc_nameI (fun x7 ex7 => ?_)
              refine vc_istore_n dX12_weightTo_47 (by decide) rfl (show _ = [some (aR 54), some (aI c), some (aI x7), some (aI v3)] from rfl) ?_
              refine vc_iincE dX12_weightTo_48 rfl (by omega) (by omega) (by decide) rfl (show _ = [some (aR 54), some (aI c), some (aI x7), some (aI (v3 + 1))] from rfl) ?_
              refine vc_goto dX12_weightTo_51 ?_
              exact ih4 x7 (v3 + 1) (by omega) (by omega) (by first | rfl | (rw [show (v3 + 1).toNat = v3.toNat + 1 by omega, sm_z (by unfold rwF; exact if_neg (fun q => by omega)), ← g4i0]; have e := wI_id (x := v2 + 0) (by omega) (by omega); omega) | (rw [show (v3 + 1).toNat = v3.toNat + 1 by omega, sm_s (x := mI M 65 v3.toNat) (by unfold rwF; exact if_pos ⟨by omega, by omega⟩), ← g4i0]; have e := wI_id (x := v2 + mI M 65 v3.toNat) (by omega) (by omega); omega)) (by omega)
            · refine vc_aload_n dX12_weightTo_36 rfl ?_
              refine vc_getR dX12_weightTo_37 flX12_48 (s_54 hB0.1.1) rfl (r_54_34 hB0.1.1) ?_
              refine vc_iload_n dX12_weightTo_40 rfl ?_
              refine vc_iaload dX12_weightTo_41 (s_65 hB0.1.1) (by omega) (by omega) ?_
              refine vc_goto dX12_weightTo_42 ?_
              refine vc_iadd dX12_weightTo_46 ?_
              refine vc_nameI (fun x8 ex8 => ?_)
              refine vc_istore_n dX12_weightTo_47 (by decide) rfl (show _ = [some (aR 54), some (aI c), some (aI x8), some (aI v3)] from rfl) ?_
              refine vc_iincE dX12_weightTo_48 rfl (by omega) (by omega) (by decide) rfl (show _ = [some (aR 54), some (aI c), some (aI x8), some (aI (v3 + 1))] from rfl) ?_
              refine vc_goto dX12_weightTo_51 ?_
              exact ih4 x8 (v3 + 1) (by omega) (by omega) (by first | rfl | (rw [show (v3 + 1).toNat = v3.toNat + 1 by omega, sm_z (by unfold rwF; exact if_neg (fun q => by omega)), ← g4i0]; have e := wI_id (x := v2 + 0) (by omega) (by omega); omega) | (rw [show (v3 + 1).toNat = v3.toNat + 1 by omega, sm_s (x := mI M 65 v3.toNat) (by unfold rwF; exact if_pos ⟨by omega, by omega⟩), ← g4i0]; have e := wI_id (x := v2 + mI M 65 v3.toNat) (by omega) (by omega); omega)) (by omega)
  exact lp4 _ 0 0 (by omega) (by omega) (by first | rfl | (rw [show (v3 + 1).toNat = v3.toNat + 1 by omega, sm_z (by unfold rwF; exact if_neg (fun q => by omega)), ← g4i0]; have e := wI_id (x := v2 + 0) (by omega) (by omega); omega) | (rw [show (v3 + 1).toNat = v3.toNat + 1 by omega, sm_s (x := mI M 65 v3.toNat) (by unfold rwF; exact if_pos ⟨by omega, by omega⟩), ← g4i0]; have e := wI_id (x := v2 + mI M 65 v3.toNat) (by omega) (by omega); omega)) (Nat.lt_succ_self _)

