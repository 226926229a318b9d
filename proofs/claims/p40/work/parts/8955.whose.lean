/-! WHOSE on both sides (written by wip/laws3/c40.py) -/
theorem sfX11_inLowestTermsF {l : Launch} {M : Mem} (_ : Box M) (u : Int) (w : Int) (low : Int) (p0 : 0 ≤ u) (p1 : 0 ≤ w) (p2 : w < 9223372036854775808) : Call l mdX11_inLowestTerms [aL u, aL w, aI low] M (fun q N => ∃ r : Int, q = some (aL r) ∧ M = N ∧ r = lowT u.toNat w.toNat low) := by
  have z := qX11_inLowestTerms (l := l) (M := M) u.toNat w.toNat (by omega) low
  rw [show ((u.toNat : Nat) : Int) = u by omega, show ((w.toNat : Nat) : Int) = w by omega] at z
  exact Call.mono z (fun r M' h => ⟨_, h.1, h.2.symm, rfl⟩)
theorem sfX12_partF {l : Launch} {M : Mem} (_ : Box M) (u : Int) (a : Int) (low : Int) (p0 : 0 ≤ u) (p1 : 0 ≤ a) : Call l mdX12_part [aL u, aL a, aI low] M (fun q N => ∃ r : Int, q = some (aL r) ∧ M = N ∧ r = lowT u.toNat a.toNat low) := by
  have z := qX12_part (l := l) (M := M) u.toNat a.toNat low
  rw [show ((u.toNat : Nat) : Int) = u by omega, show ((a.toNat : Nat) : Int) = a by omega] at z
  exact Call.mono z (fun r M' h => ⟨_, h.1, h.2.symm, rfl⟩)
def whV (S : Sw) (t c s : Int) : Prop := 0 ≤ t ∧ t < S 1 9 ∧ 0 ≤ c ∧ c < S 1 6 ∧ (s = 1 ∨ s = 2 ∨ s = 4)
def WhoS (S : Sw) (t c s low r : Int) : Prop := (whV S t c s ∧ ((wcS S t c 0 = 0 ∧ r = -1) ∨ (wcS S t c 0 ≠ 0 ∧ r = wI (lowT (wcS S t c s).toNat (wcS S t c 0).toNat low)))) ∨ (¬ whV S t c s ∧ r = -1)
theorem whose_one {S : Sw} {t c s low r x : Int} (h : WhoS S t c s low r) (g : WhoS S t c s low x) : r = x := by
  rcases h with ⟨a, ⟨z, h⟩ | ⟨z, h⟩⟩ | ⟨a, h⟩ <;> rcases g with ⟨b, ⟨y, g⟩ | ⟨y, g⟩⟩ | ⟨b, g⟩ <;> first | (rw [h, g]; done) | exact absurd y z | exact absurd z y | exact absurd a b | exact absurd b a
noncomputable def rgF (f64 f65 : Nat → Int) (c s : Int) (w : Nat) : Int := @ite _ (f64 w = c ∧ andI w s ≠ 0) (Classical.propDecidable _) (f65 w) 0
theorem and_124 : ∀ w : Nat, w < 8 → (andI w 1 = 1 ↔ andI w 1 ≠ 0) ∧ (andI w 2 = 2 ↔ andI w 2 ≠ 0) ∧ (andI w 4 = 4 ↔ andI w 4 ≠ 0) := by decide +kernel
theorem WyR.sum2 {S : Sw} {t : Int} {f64 f65 : Nat → Int} (h : WyR S t f64 f65) {c s : Int} (c0 : 0 ≤ c) (hs : s = 1 ∨ s = 2 ∨ s = 4) : sm (rgF f64 f65 c s) 8 = wcS S t c s := sm_co 8 (fun w hw => by
  obtain ⟨h1, h2⟩ := h w hw
  unfold rgF wcF
  rw [h1, h2]
  have z := and_124 w hw
  have y : andI w s = s ↔ andI w s ≠ 0 := by rcases hs with e | e | e; (rw [e]; exact z.1); (rw [e]; exact z.2.1); (rw [e]; exact z.2.2)
  by_cases q : leS S t w (-1) = c ∧ andI w s ≠ 0
  · rw [if_pos q, if_pos ⟨by omega, Or.inr q.1, y.mpr q.2⟩]
  · rw [if_neg q, if_neg (fun e => q ⟨by rcases e.2.1 with z | z; (exfalso; omega); exact z, y.mp e.2.2⟩)])
set_option maxRecDepth 4000 in
theorem sfX11_whoseF {l : Launch} {M : Mem} (hB : Box M)  (t : Int) (c : Int) (s : Int) (low : Int) (p0 : wfL (cS M)) (p1 : wTg (cS M)) (p2 : wfA (cS M)) (p3 : nmT (cS M)) : Call l mdX11_whose [aR 0, aI t, aI c, aI s, aI low] M (fun q N => ∃ r : Int, q = some (aI r) ∧ BF fQ M N ∧ WhoS (cS M) t c s low r) := by
  have hB0 : BF fQ M M := BF.start hB
  refine Call.of [some (aR 0), some (aI t), some (aI c), some (aI s), some (aI low), none] rfl (Nat.le_of_ble_eq_true rfl) rfl ?_
  refine vc_ok (fun hoM hoS hoL => ?_)
  have hr1 : -2147483648 ≤ t ∧ t < 2147483648 := hoL 1 _ rfl
  have hr2 : -2147483648 ≤ c ∧ c < 2147483648 := hoL 2 _ rfl
  have hr3 : -2147483648 ≤ s ∧ s < 2147483648 := hoL 3 _ rfl
  have hr4 : -2147483648 ≤ low ∧ low < 2147483648 := hoL 4 _ rfl
  refine vc_aload_n dX11_whose_0 rfl ?_
  refine vc_getR dX11_whose_1 flX11_10 (s_0 hB0.1.1) rfl (r_0_0 hB0.1.1) ?_
  refine vc_iload_n dX11_whose_4 rfl ?_
  refine vc_cVI dX11_whose_5 (sfX6_hasTellingF (M := M) hB0.1  t ) rfl okX6_hasTelling viX6_hasTelling lkX11_214 (s_1 hB0.1.1) cl_6 rfl (Nat.le_of_ble_eq_true rfl) ⟨rfl, rfl⟩ (Nat.le_of_ble_eq_true rfl) (Nat.le_of_ble_eq_true rfl) (Nat.le_of_ble_eq_true rfl) ?_
  rintro x1 _ ⟨rfl, h2, h3, h4, h5⟩
  refine vc_if_eq dX11_whose_8 (fun h6 => ?_) (fun h6 => ?_)
  · refine vc_iconst dX11_whose_22 rfl ?_
    refine vc_iret dX11_whose_23 rfl (Nat.le_of_ble_eq_true rfl) (Nat.le_of_ble_eq_true rfl) ?_
    exact ⟨_, rfl, hB0, Or.inr ⟨fun q => by have q1 : t < mI M 1 9 := q.2.1; have q2 : c < mI M 1 6 := q.2.2.2.1; have q3 := q.1; have q4 := q.2.2.1; have q5 := q.2.2.2.2; omega, by omega⟩⟩
  · refine vc_aload_n dX11_whose_11 rfl ?_
    refine vc_getR dX11_whose_12 flX11_10 (s_0 hB0.1.1) rfl (r_0_0 hB0.1.1) ?_
    refine vc_iload_n dX11_whose_15 rfl ?_
    refine vc_cVI dX11_whose_16 (sfX6_hasCornerF (M := M) hB0.1  c ) rfl okX6_hasCorner viX6_hasCorner lkX11_196 (s_1 hB0.1.1) cl_6 rfl (Nat.le_of_ble_eq_true rfl) ⟨rfl, rfl⟩ (Nat.le_of_ble_eq_true rfl) (Nat.le_of_ble_eq_true rfl) (Nat.le_of_ble_eq_true rfl) ?_
    rintro x7 _ ⟨rfl, h8, h9, h10, h11⟩
    refine vc_if_ne dX11_whose_19 (fun h12 => ?_) (fun h12 => ?_)
    · refine vc_iload_n dX11_whose_24 rfl ?_
      refine vc_iconst dX11_whose_25 rfl ?_
      refine vc_icmp_eq dX11_whose_26 (fun h13 => ?_) (fun h13 => ?_)
      · refine vc_aload_n dX11_whose_41 rfl ?_
        refine vc_getR dX11_whose_42 flX11_74 (s_0 hB0.1.1) rfl (r_0_9 hB0.1.1) ?_
        refine vc_iload_n dX11_whose_45 rfl ?_
        have hwg := p1 t.toNat (by show _ < mI M 1 9; omega)
        rw [show 9 * t.toNat = (9 * t).toNat by omega] at hwg
        have hw1 : 0 ≤ mI M 6 (9 * t).toNat ∧ mI M 6 (9 * t).toNat < mI M 1 8 := ⟨hwg.1, hwg.2.1⟩
        have hwG : wfG (cS M) t := p2 t (by omega) (by show _ < mI M 1 9; omega)
        have hsl : slOk (cS M) t := slOk.of p3 hw1.1 hw1.2
        refine vc_cVU dX11_whose_46 (sfX10_weighF (M := M) hB0.1  t (by omega) (by omega) (by omega) (by exact hwG) (by exact p0) (by exact hsl)) rfl okX10_weigh viX10_weigh lkX11_230 (s_35 hB0.1.1) cl_10 rfl (Nat.le_of_ble_eq_true rfl) ⟨rfl, rfl⟩ (Nat.le_of_ble_eq_true rfl) (Nat.le_of_ble_eq_true rfl) (Nat.le_of_ble_eq_true rfl) ?_
        rintro M14 ⟨hB15, h16⟩
        have hB17 : BF fQ M M14 := BF.go hB0 hB15.wq
        have hwy := h16
        have h36 : ∀ w : Nat, w < 8 → 0 ≤ mI M14 36 w ∧ mI M14 36 w ≤ 1000 := fun w hw => by rw [(hwy w hw).1]; exact wtS_b hsl w
        refine vc_aload_n dX11_whose_49 rfl ?_
        refine vc_getR dX11_whose_50 flX11_74 (s_0 hB17.1.1) rfl (r_0_9 hB17.1.1) ?_
        refine vc_iload_n dX11_whose_53 rfl ?_
        refine vc_iconst dX11_whose_54 rfl ?_
        refine vc_cVI dX11_whose_55 (sfX10_weightToF (M := M14) hB17.1  c 0 (by exact h36)) rfl okX10_weightTo viX10_weightTo lkX11_233 (s_35 hB17.1.1) cl_10 rfl (Nat.le_of_ble_eq_true rfl) ⟨rfl, rfl⟩ (Nat.le_of_ble_eq_true rfl) (Nat.le_of_ble_eq_true rfl) (Nat.le_of_ble_eq_true rfl) ?_
        rintro x18 _ ⟨rfl, h19⟩
        have hq0 : x18 = wcS (cS M) t c 0 := h19.trans (hwy.sum c 0)
        have hu0 : 0 ≤ x18 ∧ x18 ≤ 8000 := by rw [hq0]; exact wcS_b hsl _ _
        refine vc_istore dX11_whose_58 (by decide) rfl (show _ = [some (aR 0), some (aI t), some (aI c), some (aI s), some (aI low), some (aI x18)] from rfl) ?_
        refine vc_iload dX11_whose_60 rfl ?_
        refine vc_if_ne dX11_whose_62 (fun h20 => ?_) (fun h20 => ?_)
        · refine vc_aload_n dX11_whose_67 rfl ?_
          refine vc_getR dX11_whose_68 flX11_74 (s_0 hB17.1.1) rfl (r_0_9 hB17.1.1) ?_
          refine vc_iload_n dX11_whose_71 rfl ?_
          refine vc_iload_n dX11_whose_72 rfl ?_
          refine vc_cVI dX11_whose_73 (sfX10_weightToF (M := M14) hB17.1  c s (by exact h36)) rfl okX10_weightTo viX10_weightTo lkX11_233 (s_35 hB17.1.1) cl_10 rfl (Nat.le_of_ble_eq_true rfl) ⟨rfl, rfl⟩ (Nat.le_of_ble_eq_true rfl) (Nat.le_of_ble_eq_true rfl) (Nat.le_of_ble_eq_true rfl) ?_
          rintro x21 _ ⟨rfl, h22⟩
          have hq1 : x21 = wcS (cS M) t c s := h22.trans (hwy.sum c s)
          have hu1 : 0 ≤ x21 ∧ x21 ≤ 8000 := by rw [hq1]; exact wcS_b hsl _ _
          refine vc_i2l dX11_whose_76 ?_
          refine vc_iload dX11_whose_77 rfl ?_
          refine vc_i2l dX11_whose_79 ?_
          refine vc_iload dX11_whose_80 rfl ?_
          refine vc_cSL dX11_whose_82 (sfX11_inLowestTermsF (M := M14) hB17.1  x21 x18 low (by omega) (by omega) (by omega)) rfl okX11_inLowestTerms stX11_inLowestTerms lkX11_252 rfl (Nat.le_of_ble_eq_true rfl) ⟨rfl, rfl⟩ (Nat.le_of_ble_eq_true rfl) (Nat.le_of_ble_eq_true rfl) (Nat.le_of_ble_eq_true rfl) ?_
          rintro x23 _ ⟨rfl, h24⟩
          refine vc_l2i dX11_whose_85 ?_
          refine vc_iret dX11_whose_86 rfl (Nat.le_of_ble_eq_true rfl) (Nat.le_of_ble_eq_true rfl) ?_
          exact ⟨_, rfl, hB17, Or.inl ⟨⟨by omega, by show _ < mI M 1 9; omega, by omega, by show _ < mI M 1 6; omega, by omega⟩, Or.inr ⟨by rw [← hq0]; omega, by rw [h24, hq1, hq0]⟩⟩⟩
        · refine vc_iconst dX11_whose_65 rfl ?_
          refine vc_iret dX11_whose_66 rfl (Nat.le_of_ble_eq_true rfl) (Nat.le_of_ble_eq_true rfl) ?_
          exact ⟨_, rfl, hB17, Or.inl ⟨⟨by omega, by show _ < mI M 1 9; omega, by omega, by show _ < mI M 1 6; omega, by omega⟩, Or.inl ⟨by rw [← hq0]; omega, rfl⟩⟩⟩
      · refine vc_iload_n dX11_whose_29 rfl ?_
        refine vc_iconst dX11_whose_30 rfl ?_
        refine vc_icmp_eq dX11_whose_31 (fun h25 => ?_) (fun h25 => ?_)
        · refine vc_aload_n dX11_whose_41 rfl ?_
          refine vc_getR dX11_whose_42 flX11_74 (s_0 hB0.1.1) rfl (r_0_9 hB0.1.1) ?_
          refine vc_iload_n dX11_whose_45 rfl ?_
          have hwg := p1 t.toNat (by show _ < mI M 1 9; omega)
          rw [show 9 * t.toNat = (9 * t).toNat by omega] at hwg
          have hw1 : 0 ≤ mI M 6 (9 * t).toNat ∧ mI M 6 (9 * t).toNat < mI M 1 8 := ⟨hwg.1, hwg.2.1⟩
          have hwG : wfG (cS M) t := p2 t (by omega) (by show _ < mI M 1 9; omega)
          have hsl : slOk (cS M) t := slOk.of p3 hw1.1 hw1.2
          refine vc_cVU dX11_whose_46 (sfX10_weighF (M := M) hB0.1  t (by omega) (by omega) (by omega) (by exact hwG) (by exact p0) (by exact hsl)) rfl okX10_weigh viX10_weigh lkX11_230 (s_35 hB0.1.1) cl_10 rfl (Nat.le_of_ble_eq_true rfl) ⟨rfl, rfl⟩ (Nat.le_of_ble_eq_true rfl) (Nat.le_of_ble_eq_true rfl) (Nat.le_of_ble_eq_true rfl) ?_
          rintro M26 ⟨hB27, h28⟩
          have hB29 : BF fQ M M26 := BF.go hB0 hB27.wq
          have hwy := h28
          have h36 : ∀ w : Nat, w < 8 → 0 ≤ mI M26 36 w ∧ mI M26 36 w ≤ 1000 := fun w hw => by rw [(hwy w hw).1]; exact wtS_b hsl w
          refine vc_aload_n dX11_whose_49 rfl ?_
          refine vc_getR dX11_whose_50 flX11_74 (s_0 hB29.1.1) rfl (r_0_9 hB29.1.1) ?_
          refine vc_iload_n dX11_whose_53 rfl ?_
          refine vc_iconst dX11_whose_54 rfl ?_
          refine vc_cVI dX11_whose_55 (sfX10_weightToF (M := M26) hB29.1  c 0 (by exact h36)) rfl okX10_weightTo viX10_weightTo lkX11_233 (s_35 hB29.1.1) cl_10 rfl (Nat.le_of_ble_eq_true rfl) ⟨rfl, rfl⟩ (Nat.le_of_ble_eq_true rfl) (Nat.le_of_ble_eq_true rfl) (Nat.le_of_ble_eq_true rfl) ?_
          rintro x30 _ ⟨rfl, h31⟩
          have hq0 : x30 = wcS (cS M) t c 0 := h31.trans (hwy.sum c 0)
          have hu0 : 0 ≤ x30 ∧ x30 ≤ 8000 := by rw [hq0]; exact wcS_b hsl _ _
          refine vc_istore dX11_whose_58 (by decide) rfl (show _ = [some (aR 0), some (aI t), some (aI c), some (aI s), some (aI low), some (aI x30)] from rfl) ?_
          refine vc_iload dX11_whose_60 rfl ?_
          refine vc_if_ne dX11_whose_62 (fun h32 => ?_) (fun h32 => ?_)
          · refine vc_aload_n dX11_whose_67 rfl ?_
            refine vc_getR dX11_whose_68 flX11_74 (s_0 hB29.1.1) rfl (r_0_9 hB29.1.1) ?_
            refine vc_iload_n dX11_whose_71 rfl ?_
            refine vc_iload_n dX11_whose_72 rfl ?_
            refine vc_cVI dX11_whose_73 (sfX10_weightToF (M := M26) hB29.1  c s (by exact h36)) rfl okX10_weightTo viX10_weightTo lkX11_233 (s_35 hB29.1.1) cl_10 rfl (Nat.le_of_ble_eq_true rfl) ⟨rfl, rfl⟩ (Nat.le_of_ble_eq_true rfl) (Nat.le_of_ble_eq_true rfl) (Nat.le_of_ble_eq_true rfl) ?_
            rintro x33 _ ⟨rfl, h34⟩
            have hq1 : x33 = wcS (cS M) t c s := h34.trans (hwy.sum c s)
            have hu1 : 0 ≤ x33 ∧ x33 ≤ 8000 := by rw [hq1]; exact wcS_b hsl _ _
            refine vc_i2l dX11_whose_76 ?_
            refine vc_iload dX11_whose_77 rfl ?_
            refine vc_i2l dX11_whose_79 ?_
            refine vc_iload dX11_whose_80 rfl ?_
            refine vc_cSL dX11_whose_82 (sfX11_inLowestTermsF (M := M26) hB29.1  x33 x30 low (by omega) (by omega) (by omega)) rfl okX11_inLowestTerms stX11_inLowestTerms lkX11_252 rfl (Nat.le_of_ble_eq_true rfl) ⟨rfl, rfl⟩ (Nat.le_of_ble_eq_true rfl) (Nat.le_of_ble_eq_true rfl) (Nat.le_of_ble_eq_true rfl) ?_
            rintro x35 _ ⟨rfl, h36⟩
            refine vc_l2i dX11_whose_85 ?_
            refine vc_iret dX11_whose_86 rfl (Nat.le_of_ble_eq_true rfl) (Nat.le_of_ble_eq_true rfl) ?_
            exact ⟨_, rfl, hB29, Or.inl ⟨⟨by omega, by show _ < mI M 1 9; omega, by omega, by show _ < mI M 1 6; omega, by omega⟩, Or.inr ⟨by rw [← hq0]; omega, by rw [h36, hq1, hq0]⟩⟩⟩
          · refine vc_iconst dX11_whose_65 rfl ?_
            refine vc_iret dX11_whose_66 rfl (Nat.le_of_ble_eq_true rfl) (Nat.le_of_ble_eq_true rfl) ?_
            exact ⟨_, rfl, hB29, Or.inl ⟨⟨by omega, by show _ < mI M 1 9; omega, by omega, by show _ < mI M 1 6; omega, by omega⟩, Or.inl ⟨by rw [← hq0]; omega, rfl⟩⟩⟩
        · refine vc_iload_n dX11_whose_34 rfl ?_
          refine vc_iconst dX11_whose_35 rfl ?_
          refine vc_icmp_eq dX11_whose_36 (fun h37 => ?_) (fun h37 => ?_)
          · refine vc_aload_n dX11_whose_41 rfl ?_
            refine vc_getR dX11_whose_42 flX11_74 (s_0 hB0.1.1) rfl (r_0_9 hB0.1.1) ?_
            refine vc_iload_n dX11_whose_45 rfl ?_
            have hwg := p1 t.toNat (by show _ < mI M 1 9; omega)
            rw [show 9 * t.toNat = (9 * t).toNat by omega] at hwg
            have hw1 : 0 ≤ mI M 6 (9 * t).toNat ∧ mI M 6 (9 * t).toNat < mI M 1 8 := ⟨hwg.1, hwg.2.1⟩
            have hwG : wfG (cS M) t := p2 t (by omega) (by show _ < mI M 1 9; omega)
            have hsl : slOk (cS M) t := slOk.of p3 hw1.1 hw1.2
            refine vc_cVU dX11_whose_46 (sfX10_weighF (M := M) hB0.1  t (by omega) (by omega) (by omega) (by exact hwG) (by exact p0) (by exact hsl)) rfl okX10_weigh viX10_weigh lkX11_230 (s_35 hB0.1.1) cl_10 rfl (Nat.le_of_ble_eq_true rfl) ⟨rfl, rfl⟩ (Nat.le_of_ble_eq_true rfl) (Nat.le_of_ble_eq_true rfl) (Nat.le_of_ble_eq_true rfl) ?_
            rintro M38 ⟨hB39, h40⟩
            have hB41 : BF fQ M M38 := BF.go hB0 hB39.wq
            have hwy := h40
            have h36 : ∀ w : Nat, w < 8 → 0 ≤ mI M38 36 w ∧ mI M38 36 w ≤ 1000 := fun w hw => by rw [(hwy w hw).1]; exact wtS_b hsl w
            refine vc_aload_n dX11_whose_49 rfl ?_
            refine vc_getR dX11_whose_50 flX11_74 (s_0 hB41.1.1) rfl (r_0_9 hB41.1.1) ?_
            refine vc_iload_n dX11_whose_53 rfl ?_
            refine vc_iconst dX11_whose_54 rfl ?_
            refine vc_cVI dX11_whose_55 (sfX10_weightToF (M := M38) hB41.1  c 0 (by exact h36)) rfl okX10_weightTo viX10_weightTo lkX11_233 (s_35 hB41.1.1) cl_10 rfl (Nat.le_of_ble_eq_true rfl) ⟨rfl, rfl⟩ (Nat.le_of_ble_eq_true rfl) (Nat.le_of_ble_eq_true rfl) (Nat.le_of_ble_eq_true rfl) ?_
            rintro x42 _ ⟨rfl, h43⟩
            have hq0 : x42 = wcS (cS M) t c 0 := h43.trans (hwy.sum c 0)
            have hu0 : 0 ≤ x42 ∧ x42 ≤ 8000 := by rw [hq0]; exact wcS_b hsl _ _
            refine vc_istore dX11_whose_58 (by decide) rfl (show _ = [some (aR 0), some (aI t), some (aI c), some (aI s), some (aI low), some (aI x42)] from rfl) ?_
            refine vc_iload dX11_whose_60 rfl ?_
            refine vc_if_ne dX11_whose_62 (fun h44 => ?_) (fun h44 => ?_)
            · refine vc_aload_n dX11_whose_67 rfl ?_
              refine vc_getR dX11_whose_68 flX11_74 (s_0 hB41.1.1) rfl (r_0_9 hB41.1.1) ?_
              refine vc_iload_n dX11_whose_71 rfl ?_
              refine vc_iload_n dX11_whose_72 rfl ?_
              refine vc_cVI dX11_whose_73 (sfX10_weightToF (M := M38) hB41.1  c s (by exact h36)) rfl okX10_weightTo viX10_weightTo lkX11_233 (s_35 hB41.1.1) cl_10 rfl (Nat.le_of_ble_eq_true rfl) ⟨rfl, rfl⟩ (Nat.le_of_ble_eq_true rfl) (Nat.le_of_ble_eq_true rfl) (Nat.le_of_ble_eq_true rfl) ?_
              rintro x45 _ ⟨rfl, h46⟩
              have hq1 : x45 = wcS (cS M) t c s := h46.trans (hwy.sum c s)
              have hu1 : 0 ≤ x45 ∧ x45 ≤ 8000 := by rw [hq1]; exact wcS_b hsl _ _
              refine vc_i2l dX11_whose_76 ?_
              refine vc_iload dX11_whose_77 rfl ?_
              refine vc_i2l dX11_whose_79 ?_
              refine vc_iload dX11_whose_80 rfl ?_
              refine vc_cSL dX11_whose_82 (sfX11_inLowestTermsF (M := M38) hB41.1  x45 x42 low (by omega) (by omega) (by omega)) rfl okX11_inLowestTerms stX11_inLowestTerms lkX11_252 rfl (Nat.le_of_ble_eq_true rfl) ⟨rfl, rfl⟩ (Nat.le_of_ble_eq_true rfl) (Nat.le_of_ble_eq_true rfl) (Nat.le_of_ble_eq_true rfl) ?_
              rintro x47 _ ⟨rfl, h48⟩
              refine vc_l2i dX11_whose_85 ?_
              refine vc_iret dX11_whose_86 rfl (Nat.le_of_ble_eq_true rfl) (Nat.le_of_ble_eq_true rfl) ?_
              exact ⟨_, rfl, hB41, Or.inl ⟨⟨by omega, by show _ < mI M 1 9; omega, by omega, by show _ < mI M 1 6; omega, by omega⟩, Or.inr ⟨by rw [← hq0]; omega, by rw [h48, hq1, hq0]⟩⟩⟩
            · refine vc_iconst dX11_whose_65 rfl ?_
              refine vc_iret dX11_whose_66 rfl (Nat.le_of_ble_eq_true rfl) (Nat.le_of_ble_eq_true rfl) ?_
              exact ⟨_, rfl, hB41, Or.inl ⟨⟨by omega, by show _ < mI M 1 9; omega, by omega, by show _ < mI M 1 6; omega, by omega⟩, Or.inl ⟨by rw [← hq0]; omega, rfl⟩⟩⟩
          · refine vc_iconst dX11_whose_39 rfl ?_
            refine vc_iret dX11_whose_40 rfl (Nat.le_of_ble_eq_true rfl) (Nat.le_of_ble_eq_true rfl) ?_
            exact ⟨_, rfl, hB0, Or.inr ⟨fun q => by have q1 : t < mI M 1 9 := q.2.1; have q2 : c < mI M 1 6 := q.2.2.2.1; have q3 := q.1; have q4 := q.2.2.1; have q5 := q.2.2.2.2; omega, by omega⟩⟩
    · refine vc_iconst dX11_whose_22 rfl ?_
      refine vc_iret dX11_whose_23 rfl (Nat.le_of_ble_eq_true rfl) (Nat.le_of_ble_eq_true rfl) ?_
      exact ⟨_, rfl, hB0, Or.inr ⟨fun q => by have q1 : t < mI M 1 9 := q.2.1; have q2 : c < mI M 1 6 := q.2.2.2.1; have q3 := q.1; have q4 := q.2.2.1; have q5 := q.2.2.2.2; omega, by omega⟩⟩

set_option maxRecDepth 4000 in
theorem sfX12_whoseF {l : Launch} {M : Mem} (hB : Box M) (S : Sw) (t : Int) (c : Int) (s : Int) (low : Int) (p0 : TA (mI M 55) S) (p1 : aAs (mI M 55) S) (p2 : LwS S (mI M 57)) (p3 : asB S 1000000) (p4 : nmT S) : Call l mdX12_whose [aR 54, aI t, aI c, aI s, aI low] M (fun q N => ∃ r : Int, q = some (aI r) ∧ BF fQ M N ∧ WhoS S t c s low r) := by
  have hB0 : BF fQ M M := BF.start hB
  refine Call.of [some (aR 54), some (aI t), some (aI c), some (aI s), some (aI low), none, none, none] rfl (Nat.le_of_ble_eq_true rfl) rfl ?_
  refine vc_ok (fun hoM hoS hoL => ?_)
  have hr1 : -2147483648 ≤ t ∧ t < 2147483648 := hoL 1 _ rfl
  have hr2 : -2147483648 ≤ c ∧ c < 2147483648 := hoL 2 _ rfl
  have hr3 : -2147483648 ≤ s ∧ s < 2147483648 := hoL 3 _ rfl
  have hr4 : -2147483648 ≤ low ∧ low < 2147483648 := hoL 4 _ rfl
  have c3 := p0.1.2.2.2.1
  have c0 := p0.1.1
  refine vc_aload_n dX12_whose_0 rfl ?_
  refine vc_iload_n dX12_whose_1 rfl ?_
  refine vc_cVI dX12_whose_2 (sfX12_isTellingF (M := M) hB0.1  t ) rfl okX12_isTelling viX12_isTelling lkX12_400 (s_54 hB0.1.1) cl_12 rfl (Nat.le_of_ble_eq_true rfl) ⟨rfl, rfl⟩ (Nat.le_of_ble_eq_true rfl) (Nat.le_of_ble_eq_true rfl) (Nat.le_of_ble_eq_true rfl) ?_
  rintro x1 _ ⟨rfl, h2, h3, h4, h5⟩
  refine vc_if_eq dX12_whose_5 (fun h6 => ?_) (fun h6 => ?_)
  · refine vc_iconst dX12_whose_31 rfl ?_
    refine vc_iret dX12_whose_32 rfl (Nat.le_of_ble_eq_true rfl) (Nat.le_of_ble_eq_true rfl) ?_
    exact ⟨_, rfl, hB0, Or.inr ⟨fun q => by have q1 := q.2.1; have q2 := q.2.2.2.1; have q3 := q.1; have q4 := q.2.2.1; have q5 := q.2.2.2.2; omega, by omega⟩⟩
  · refine vc_aload_n dX12_whose_8 rfl ?_
    refine vc_iload_n dX12_whose_9 rfl ?_
    refine vc_cVI dX12_whose_10 (sfX12_isCornerF (M := M) hB0.1  c ) rfl okX12_isCorner viX12_isCorner lkX12_87 (s_54 hB0.1.1) cl_12 rfl (Nat.le_of_ble_eq_true rfl) ⟨rfl, rfl⟩ (Nat.le_of_ble_eq_true rfl) (Nat.le_of_ble_eq_true rfl) (Nat.le_of_ble_eq_true rfl) ?_
    rintro x7 _ ⟨rfl, h8, h9, h10, h11⟩
    refine vc_if_eq dX12_whose_13 (fun h12 => ?_) (fun h12 => ?_)
    · refine vc_iconst dX12_whose_31 rfl ?_
      refine vc_iret dX12_whose_32 rfl (Nat.le_of_ble_eq_true rfl) (Nat.le_of_ble_eq_true rfl) ?_
      exact ⟨_, rfl, hB0, Or.inr ⟨fun q => by have q1 := q.2.1; have q2 := q.2.2.2.1; have q3 := q.1; have q4 := q.2.2.1; have q5 := q.2.2.2.2; omega, by omega⟩⟩
    · refine vc_iload_n dX12_whose_16 rfl ?_
      refine vc_iconst dX12_whose_17 rfl ?_
      refine vc_icmp_eq dX12_whose_18 (fun h13 => ?_) (fun h13 => ?_)
      · refine vc_aload_n dX12_whose_33 rfl ?_
        refine vc_iload_n dX12_whose_34 rfl ?_
        have htg := p0.tg (t := t) (by omega) (by omega)
        have hsl : slOk S t := slOk.of p4 htg.2.1.1 htg.2.1.2
        refine vc_cVU dX12_whose_35 (sfX12_findWaysF (M := M) hB0.1 S t (by omega) (by omega) (by exact p0) (by omega) (by exact p1) (by exact p2) (by exact p3) (by exact p4) (by exact hsl)) rfl okX12_findWays viX12_findWays lkX12_455 (s_54 hB0.1.1) cl_12 rfl (Nat.le_of_ble_eq_true rfl) ⟨rfl, rfl⟩ (Nat.le_of_ble_eq_true rfl) (Nat.le_of_ble_eq_true rfl) (Nat.le_of_ble_eq_true rfl) ?_
        rintro M14 ⟨hB15, kp16, h17⟩
        have hB18 : BF fQ M M14 := BF.go hB0 hB15.wq
        have hwy := h17
        have h65 : ∀ w : Nat, w < 8 → 0 ≤ mI M14 65 w ∧ mI M14 65 w ≤ 1000 := fun w hw => by rw [(hwy w hw).1]; exact wtS_b hsl w
        refine vc_aload_n dX12_whose_38 rfl ?_
        refine vc_iload_n dX12_whose_39 rfl ?_
        refine vc_cVI dX12_whose_40 (sfX12_weightToF (M := M14) hB18.1  c (by exact h65)) rfl okX12_weightTo viX12_weightTo lkX12_458 (s_54 hB18.1.1) cl_12 rfl (Nat.le_of_ble_eq_true rfl) ⟨rfl, rfl⟩ (Nat.le_of_ble_eq_true rfl) (Nat.le_of_ble_eq_true rfl) (Nat.le_of_ble_eq_true rfl) ?_
        rintro x19 _ ⟨rfl, h20⟩
        have hq0 : x19 = wcS S t c 0 := h20.trans (hwy.sum c)
        have hu0 : 0 ≤ x19 ∧ x19 ≤ 8000 := by rw [hq0]; exact wcS_b hsl _ _
        refine vc_istore dX12_whose_43 (by decide) rfl (show _ = [some (aR 54), some (aI t), some (aI c), some (aI s), some (aI low), some (aI x19), none, none] from rfl) ?_
        refine vc_iload dX12_whose_45 rfl ?_
        refine vc_if_ne dX12_whose_47 (fun h21 => ?_) (fun h21 => ?_)
        · refine vc_iconst dX12_whose_52 rfl ?_
          refine vc_istore dX12_whose_53 (by decide) rfl (show _ = [some (aR 54), some (aI t), some (aI c), some (aI s), some (aI low), some (aI x19), some (aI 0), none] from rfl) ?_
          refine vc_iconst dX12_whose_55 rfl ?_
          refine vc_istore dX12_whose_56 (by decide) rfl (show _ = [some (aR 54), some (aI t), some (aI c), some (aI s), some (aI low), some (aI x19), some (aI 0), some (aI 0)] from rfl) ?_
          have lp58 : ∀ (n58 : Nat) (v6 : Int) (v7 : Int), (0 ≤ v7) → (v7 ≤ 8) → (v6 = sm (rgF (mI M14 64) (mI M14 65) c s) v7.toNat) → (8 - v7).toNat < n58 → VC l mdX12_whose 58 [some (aR 54), none, some (aI c), some (aI s), some (aI low), some (aI x19), some (aI v6), some (aI v7)] [] M14 0 0 (fun q N => ∃ r : Int, q = some (aI r) ∧ BF fQ M N ∧ WhoS S t c s low r) := by
            intro n58
            induction n58 with
            | zero => intro v6 v7 g58_7a g58_7b g58i0 hm58; exact absurd hm58 (Nat.not_lt_zero _)
            | succ n58 ih58 =>
              intro v6 v7 g58_7a g58_7b g58i0 hm58
              refine vc_iload dX12_whose_58 rfl ?_
              refine vc_bipush dX12_whose_60 rfl ?_
              refine vc_icmp_ge dX12_whose_62 (fun h22 => ?_) (fun h22 => ?_)
              · refine vc_iload dX12_whose_105 rfl ?_
                refine vc_i2l dX12_whose_107 ?_
                refine vc_iload dX12_whose_108 rfl ?_
                refine vc_i2l dX12_whose_110 ?_
                refine vc_iload dX12_whose_111 rfl ?_
                have hq1 : v6 = wcS S t c s := by rw [g58i0, show v7.toNat = 8 by omega]; exact hwy.sum2 (by omega) (by omega)
                have hu1 : 0 ≤ v6 ∧ v6 ≤ 8000 := by rw [hq1]; exact wcS_b hsl _ _
                refine vc_cSL dX12_whose_113 (sfX12_partF (M := M14) hB18.1  v6 x19 low (by omega) (by omega)) rfl okX12_part stX12_part lkX12_476 rfl (Nat.le_of_ble_eq_true rfl) ⟨rfl, rfl⟩ (Nat.le_of_ble_eq_true rfl) (Nat.le_of_ble_eq_true rfl) (Nat.le_of_ble_eq_true rfl) ?_
                rintro x23 _ ⟨rfl, h24⟩
                refine vc_l2i dX12_whose_116 ?_
                refine vc_iret dX12_whose_117 rfl (Nat.le_of_ble_eq_true rfl) (Nat.le_of_ble_eq_true rfl) ?_
                exact ⟨_, rfl, hB18, Or.inl ⟨⟨by omega, by omega, by omega, by omega, by omega⟩, Or.inr ⟨by rw [← hq0]; omega, by rw [h24, hq1, hq0]⟩⟩⟩
              · have hvw : ((v7.toNat : Nat) : Int) = v7 := by omega
                have hsb := sm_b (B := 0) (f := rgF (mI M14 64) (mI M14 65) c s) v7.toNat (fun i hi => by unfold rgF; split; (exact h65 i (by omega)); omega)
                have h5 := h65 v7.toNat (by omega)
                rw [hvw] at hsb
                refine vc_iload dX12_whose_65 rfl ?_
                refine vc_aload_n dX12_whose_67 rfl ?_
                refine vc_getR dX12_whose_68 flX12_45 (s_54 hB18.1.1) rfl (r_54_33 hB18.1.1) ?_
                refine vc_iload dX12_whose_71 rfl ?_
                refine vc_iaload dX12_whose_73 (s_64 hB18.1.1) (by omega) (by omega) ?_
                refine vc_iload_n dX12_whose_74 rfl ?_
                refine vc_icmp_ne dX12_whose_75 (fun h25 => ?_) (fun h25 => ?_)
                · refine vc_iconst dX12_whose_95 rfl ?_
                  refine vc_iadd dX12_whose_96 ?_
                  refine vc_nameI (fun x26 ex26 => ?_)
                  refine vc_istore dX12_whose_97 (by decide) rfl (show _ = [some (aR 54), none, some (aI c), some (aI s), some (aI low), some (aI x19), some (aI x26), some (aI v7)] from rfl) ?_
                  refine vc_iincE dX12_whose_99 rfl (by omega) (by omega) (by decide) rfl (show _ = [some (aR 54), none, some (aI c), some (aI s), some (aI low), some (aI x19), some (aI x26), some (aI (v7 + 1))] from rfl) ?_
                  refine vc_goto dX12_whose_102 ?_
                  exact ih58 x26 (v7 + 1) (by omega) (by omega) (by first | rfl | (rw [show (v7 + 1).toNat = v7.toNat + 1 by omega, sm_z (by unfold rgF; rw [hvw]; exact if_neg (fun q => by omega)), ← g58i0]; have e := wI_id (x := v6 + 0) (by omega) (by omega); omega) | (rw [show (v7 + 1).toNat = v7.toNat + 1 by omega, sm_s (x := mI M14 65 v7.toNat) (by unfold rgF; rw [hvw]; exact if_pos ⟨by omega, by omega⟩), ← g58i0]; have e := wI_id (x := v6 + mI M14 65 v7.toNat) (by omega) (by omega); omega)) (by omega)
                · refine vc_iload dX12_whose_78 rfl ?_
                  refine vc_iload_n dX12_whose_80 rfl ?_
                  refine vc_iand dX12_whose_81 ?_
                  refine vc_if_eq dX12_whose_82 (fun h27 => ?_) (fun h27 => ?_)
                  · refine vc_iconst dX12_whose_95 rfl ?_
                    refine vc_iadd dX12_whose_96 ?_
                    refine vc_nameI (fun x28 ex28 => ?_)
                    refine vc_istore dX12_whose_97 (by decide) rfl (show _ = [some (aR 54), none, some (aI c), some (aI s), some (aI low), some (aI x19), some (aI x28), some (aI v7)] from rfl) ?_
                    refine vc_iincE dX12_whose_99 rfl (by omega) (by omega) (by decide) rfl (show _ = [some (aR 54), none, some (aI c), some (aI s), some (aI low), some (aI x19), some (aI x28), some (aI (v7 + 1))] from rfl) ?_
                    refine vc_goto dX12_whose_102 ?_
                    exact ih58 x28 (v7 + 1) (by omega) (by omega) (by first | rfl | (rw [show (v7 + 1).toNat = v7.toNat + 1 by omega, sm_z (by unfold rgF; rw [hvw]; exact if_neg (fun q => by omega)), ← g58i0]; have e := wI_id (x := v6 + 0) (by omega) (by omega); omega) | (rw [show (v7 + 1).toNat = v7.toNat + 1 by omega, sm_s (x := mI M14 65 v7.toNat) (by unfold rgF; rw [hvw]; exact if_pos ⟨by omega, by omega⟩), ← g58i0]; have e := wI_id (x := v6 + mI M14 65 v7.toNat) (by omega) (by omega); omega)) (by omega)
                  · refine vc_aload_n dX12_whose_85 rfl ?_
                    refine vc_getR dX12_whose_86 flX12_48 (s_54 hB18.1.1) rfl (r_54_34 hB18.1.1) ?_
                    refine vc_iload dX12_whose_89 rfl ?_
                    refine vc_iaload dX12_whose_91 (s_65 hB18.1.1) (by omega) (by omega) ?_
                    refine vc_goto dX12_whose_92 ?_
                    refine vc_iadd dX12_whose_96 ?_
                    refine vc_nameI (fun x29 ex29 => ?_)
                    refine vc_istore dX12_whose_97 (by decide) rfl (show _ = [some (aR 54), none, some (aI c), some (aI s), some (aI low), some (aI x19), some (aI x29), some (aI v7)] from rfl) ?_
                    refine vc_iincE dX12_whose_99 rfl (by omega) (by omega) (by decide) rfl (show _ = [some (aR 54), none, some (aI c), some (aI s), some (aI low), some (aI x19), some (aI x29), some (aI (v7 + 1))] from rfl) ?_
                    refine vc_goto dX12_whose_102 ?_
                    exact ih58 x29 (v7 + 1) (by omega) (by omega) (by first | rfl | (rw [show (v7 + 1).toNat = v7.toNat + 1 by omega, sm_z (by unfold rgF; rw [hvw]; exact if_neg (fun q => by omega)), ← g58i0]; have e := wI_id (x := v6 + 0) (by omega) (by omega); omega) | (rw [show (v7 + 1).toNat = v7.toNat + 1 by omega, sm_s (x := mI M14 65 v7.toNat) (by unfold rgF; rw [hvw]; exact if_pos ⟨by omega, by omega⟩), ← g58i0]; have e := wI_id (x := v6 + mI M14 65 v7.toNat) (by omega) (by omega); omega)) (by omega)
          refine vc_less [some (aR 54), none, some (aI c), some (aI s), some (aI low), some (aI x19), some (aI 0), some (aI 0)] (lessL_keep (lessL_drop (lessL_keep (lessL_keep (lessL_keep (lessL_keep (lessL_keep (lessL_keep (lessL_nil))))))))) ?_
          exact lp58 _ 0 0 (by omega) (by omega) (by first | rfl | (rw [show (v7 + 1).toNat = v7.toNat + 1 by omega, sm_z (by unfold rgF; rw [hvw]; exact if_neg (fun q => by omega)), ← g58i0]; have e := wI_id (x := v6 + 0) (by omega) (by omega); omega) | (rw [show (v7 + 1).toNat = v7.toNat + 1 by omega, sm_s (x := mI M14 65 v7.toNat) (by unfold rgF; rw [hvw]; exact if_pos ⟨by omega, by omega⟩), ← g58i0]; have e := wI_id (x := v6 + mI M14 65 v7.toNat) (by omega) (by omega); omega)) (Nat.lt_succ_self _)
        · refine vc_iconst dX12_whose_50 rfl ?_
          refine vc_iret dX12_whose_51 rfl (Nat.le_of_ble_eq_true rfl) (Nat.le_of_ble_eq_true rfl) ?_
          exact ⟨_, rfl, hB18, Or.inl ⟨⟨by omega, by omega, by omega, by omega, by omega⟩, Or.inl ⟨by rw [← hq0]; omega, rfl⟩⟩⟩
      · refine vc_iload_n dX12_whose_21 rfl ?_
        refine vc_iconst dX12_whose_22 rfl ?_
        refine vc_icmp_eq dX12_whose_23 (fun h30 => ?_) (fun h30 => ?_)
        · refine vc_aload_n dX12_whose_33 rfl ?_
          refine vc_iload_n dX12_whose_34 rfl ?_
          have htg := p0.tg (t := t) (by omega) (by omega)
          have hsl : slOk S t := slOk.of p4 htg.2.1.1 htg.2.1.2
          refine vc_cVU dX12_whose_35 (sfX12_findWaysF (M := M) hB0.1 S t (by omega) (by omega) (by exact p0) (by omega) (by exact p1) (by exact p2) (by exact p3) (by exact p4) (by exact hsl)) rfl okX12_findWays viX12_findWays lkX12_455 (s_54 hB0.1.1) cl_12 rfl (Nat.le_of_ble_eq_true rfl) ⟨rfl, rfl⟩ (Nat.le_of_ble_eq_true rfl) (Nat.le_of_ble_eq_true rfl) (Nat.le_of_ble_eq_true rfl) ?_
          rintro M31 ⟨hB32, kp33, h34⟩
          have hB35 : BF fQ M M31 := BF.go hB0 hB32.wq
          have hwy := h34
          have h65 : ∀ w : Nat, w < 8 → 0 ≤ mI M31 65 w ∧ mI M31 65 w ≤ 1000 := fun w hw => by rw [(hwy w hw).1]; exact wtS_b hsl w
          refine vc_aload_n dX12_whose_38 rfl ?_
          refine vc_iload_n dX12_whose_39 rfl ?_
          refine vc_cVI dX12_whose_40 (sfX12_weightToF (M := M31) hB35.1  c (by exact h65)) rfl okX12_weightTo viX12_weightTo lkX12_458 (s_54 hB35.1.1) cl_12 rfl (Nat.le_of_ble_eq_true rfl) ⟨rfl, rfl⟩ (Nat.le_of_ble_eq_true rfl) (Nat.le_of_ble_eq_true rfl) (Nat.le_of_ble_eq_true rfl) ?_
          rintro x36 _ ⟨rfl, h37⟩
          have hq0 : x36 = wcS S t c 0 := h37.trans (hwy.sum c)
          have hu0 : 0 ≤ x36 ∧ x36 ≤ 8000 := by rw [hq0]; exact wcS_b hsl _ _
          refine vc_istore dX12_whose_43 (by decide) rfl (show _ = [some (aR 54), some (aI t), some (aI c), some (aI s), some (aI low), some (aI x36), none, none] from rfl) ?_
          refine vc_iload dX12_whose_45 rfl ?_
          refine vc_if_ne dX12_whose_47 (fun h38 => ?_) (fun h38 => ?_)
          · refine vc_iconst dX12_whose_52 rfl ?_
            refine vc_istore dX12_whose_53 (by decide) rfl (show _ = [some (aR 54), some (aI t), some (aI c), some (aI s), some (aI low), some (aI x36), some (aI 0), none] from rfl) ?_
            refine vc_iconst dX12_whose_55 rfl ?_
            refine vc_istore dX12_whose_56 (by decide) rfl (show _ = [some (aR 54), some (aI t), some (aI c), some (aI s), some (aI low), some (aI x36), some (aI 0), some (aI 0)] from rfl) ?_
            have lp58 : ∀ (n58 : Nat) (v6 : Int) (v7 : Int), (0 ≤ v7) → (v7 ≤ 8) → (v6 = sm (rgF (mI M31 64) (mI M31 65) c s) v7.toNat) → (8 - v7).toNat < n58 → VC l mdX12_whose 58 [some (aR 54), none, some (aI c), some (aI s), some (aI low), some (aI x36), some (aI v6), some (aI v7)] [] M31 0 0 (fun q N => ∃ r : Int, q = some (aI r) ∧ BF fQ M N ∧ WhoS S t c s low r) := by
              intro n58
              induction n58 with
              | zero => intro v6 v7 g58_7a g58_7b g58i0 hm58; exact absurd hm58 (Nat.not_lt_zero _)
              | succ n58 ih58 =>
                intro v6 v7 g58_7a g58_7b g58i0 hm58
                refine vc_iload dX12_whose_58 rfl ?_
                refine vc_bipush dX12_whose_60 rfl ?_
                refine vc_icmp_ge dX12_whose_62 (fun h39 => ?_) (fun h39 => ?_)
                · refine vc_iload dX12_whose_105 rfl ?_
                  refine vc_i2l dX12_whose_107 ?_
                  refine vc_iload dX12_whose_108 rfl ?_
                  refine vc_i2l dX12_whose_110 ?_
                  refine vc_iload dX12_whose_111 rfl ?_
                  have hq1 : v6 = wcS S t c s := by rw [g58i0, show v7.toNat = 8 by omega]; exact hwy.sum2 (by omega) (by omega)
                  have hu1 : 0 ≤ v6 ∧ v6 ≤ 8000 := by rw [hq1]; exact wcS_b hsl _ _
                  refine vc_cSL dX12_whose_113 (sfX12_partF (M := M31) hB35.1  v6 x36 low (by omega) (by omega)) rfl okX12_part stX12_part lkX12_476 rfl (Nat.le_of_ble_eq_true rfl) ⟨rfl, rfl⟩ (Nat.le_of_ble_eq_true rfl) (Nat.le_of_ble_eq_true rfl) (Nat.le_of_ble_eq_true rfl) ?_
                  rintro x40 _ ⟨rfl, h41⟩
                  refine vc_l2i dX12_whose_116 ?_
                  refine vc_iret dX12_whose_117 rfl (Nat.le_of_ble_eq_true rfl) (Nat.le_of_ble_eq_true rfl) ?_
                  exact ⟨_, rfl, hB35, Or.inl ⟨⟨by omega, by omega, by omega, by omega, by omega⟩, Or.inr ⟨by rw [← hq0]; omega, by rw [h41, hq1, hq0]⟩⟩⟩
                · have hvw : ((v7.toNat : Nat) : Int) = v7 := by omega
                  have hsb := sm_b (B := 0) (f := rgF (mI M31 64) (mI M31 65) c s) v7.toNat (fun i hi => by unfold rgF; split; (exact h65 i (by omega)); omega)
                  have h5 := h65 v7.toNat (by omega)
                  rw [hvw] at hsb
                  refine vc_iload dX12_whose_65 rfl ?_
                  refine vc_aload_n dX12_whose_67 rfl ?_
                  refine vc_getR dX12_whose_68 flX12_45 (s_54 hB35.1.1) rfl (r_54_33 hB35.1.1) ?_
                  refine vc_iload dX12_whose_71 rfl ?_
                  refine vc_iaload dX12_whose_73 (s_64 hB35.1.1) (by omega) (by omega) ?_
                  refine vc_iload_n dX12_whose_74 rfl ?_
                  refine vc_icmp_ne dX12_whose_75 (fun h42 => ?_) (fun h42 => ?_)
                  · refine vc_iconst dX12_whose_95 rfl ?_
                    refine vc_iadd dX12_whose_96 ?_
                    refine vc_nameI (fun x43 ex43 => ?_)
                    refine vc_istore dX12_whose_97 (by decide) rfl (show _ = [some (aR 54), none, some (aI c), some (aI s), some (aI low), some (aI x36), some (aI x43), some (aI v7)] from rfl) ?_
                    refine vc_iincE dX12_whose_99 rfl (by omega) (by omega) (by decide) rfl (show _ = [some (aR 54), none, some (aI c), some (aI s), some (aI low), some (aI x36), some (aI x43), some (aI (v7 + 1))] from rfl) ?_
                    refine vc_goto dX12_whose_102 ?_
                    exact ih58 x43 (v7 + 1) (by omega) (by omega) (by first | rfl | (rw [show (v7 + 1).toNat = v7.toNat + 1 by omega, sm_z (by unfold rgF; rw [hvw]; exact if_neg (fun q => by omega)), ← g58i0]; have e := wI_id (x := v6 + 0) (by omega) (by omega); omega) | (rw [show (v7 + 1).toNat = v7.toNat + 1 by omega, sm_s (x := mI M31 65 v7.toNat) (by unfold rgF; rw [hvw]; exact if_pos ⟨by omega, by omega⟩), ← g58i0]; have e := wI_id (x := v6 + mI M31 65 v7.toNat) (by omega) (by omega); omega)) (by omega)
                  · refine vc_iload dX12_whose_78 rfl ?_
                    refine vc_iload_n dX12_whose_80 rfl ?_
                    refine vc_iand dX12_whose_81 ?_
                    refine vc_if_eq dX12_whose_82 (fun h44 => ?_) (fun h44 => ?_)
                    · refine vc_iconst dX12_whose_95 rfl ?_
                      refine vc_iadd dX12_whose_96 ?_
                      refine vc_nameI (fun x45 ex45 => ?_)
                      refine vc_istore dX12_whose_97 (by decide) rfl (show _ = [some (aR 54), none, some (aI c), some (aI s), some (aI low), some (aI x36), some (aI x45), some (aI v7)] from rfl) ?_
                      refine vc_iincE dX12_whose_99 rfl (by omega) (by omega) (by decide) rfl (show _ = [some (aR 54), none, some (aI c), some (aI s), some (aI low), some (aI x36), some (aI x45), some (aI (v7 + 1))] from rfl) ?_
                      refine vc_goto dX12_whose_102 ?_
                      exact ih58 x45 (v7 + 1) (by omega) (by omega) (by first | rfl | (rw [show (v7 + 1).toNat = v7.toNat + 1 by omega, sm_z (by unfold rgF; rw [hvw]; exact if_neg (fun q => by omega)), ← g58i0]; have e := wI_id (x := v6 + 0) (by omega) (by omega); omega) | (rw [show (v7 + 1).toNat = v7.toNat + 1 by omega, sm_s (x := mI M31 65 v7.toNat) (by unfold rgF; rw [hvw]; exact if_pos ⟨by omega, by omega⟩), ← g58i0]; have e := wI_id (x := v6 + mI M31 65 v7.toNat) (by omega) (by omega); omega)) (by omega)
                    · refine vc_aload_n dX12_whose_85 rfl ?_
                      refine vc_getR dX12_whose_86 flX12_48 (s_54 hB35.1.1) rfl (r_54_34 hB35.1.1) ?_
                      refine vc_iload dX12_whose_89 rfl ?_
                      refine vc_iaload dX12_whose_91 (s_65 hB35.1.1) (by omega) (by omega) ?_
                      refine vc_goto dX12_whose_92 ?_
                      refine vc_iadd dX12_whose_96 ?_
                      refine vc_nameI (fun x46 ex46 => ?_)
                      refine vc_istore dX12_whose_97 (by decide) rfl (show _ = [some (aR 54), none, some (aI c), some (aI s), some (aI low), some (aI x36), some (aI x46), some (aI v7)] from rfl) ?_
                      refine vc_iincE dX12_whose_99 rfl (by omega) (by omega) (by decide) rfl (show _ = [some (aR 54), none, some (aI c), some (aI s), some (aI low), some (aI x36), some (aI x46), some (aI (v7 + 1))] from rfl) ?_
                      refine vc_goto dX12_whose_102 ?_
                      exact ih58 x46 (v7 + 1) (by omega) (by omega) (by first | rfl | (rw [show (v7 + 1).toNat = v7.toNat + 1 by omega, sm_z (by unfold rgF; rw [hvw]; exact if_neg (fun q => by omega)), ← g58i0]; have e := wI_id (x := v6 + 0) (by omega) (by omega); omega) | (rw [show (v7 + 1).toNat = v7.toNat + 1 by omega, sm_s (x := mI M31 65 v7.toNat) (by unfold rgF; rw [hvw]; exact if_pos ⟨by omega, by omega⟩), ← g58i0]; have e := wI_id (x := v6 + mI M31 65 v7.toNat) (by omega) (by omega); omega)) (by omega)
            refine vc_less [some (aR 54), none, some (aI c), some (aI s), some (aI low), some (aI x36), some (aI 0), some (aI 0)] (lessL_keep (lessL_drop (lessL_keep (lessL_keep (lessL_keep (lessL_keep (lessL_keep (lessL_keep (lessL_nil))))))))) ?_
            exact lp58 _ 0 0 (by omega) (by omega) (by first | rfl | (rw [show (v7 + 1).toNat = v7.toNat + 1 by omega, sm_z (by unfold rgF; rw [hvw]; exact if_neg (fun q => by omega)), ← g58i0]; have e := wI_id (x := v6 + 0) (by omega) (by omega); omega) | (rw [show (v7 + 1).toNat = v7.toNat + 1 by omega, sm_s (x := mI M31 65 v7.toNat) (by unfold rgF; rw [hvw]; exact if_pos ⟨by omega, by omega⟩), ← g58i0]; have e := wI_id (x := v6 + mI M31 65 v7.toNat) (by omega) (by omega); omega)) (Nat.lt_succ_self _)
          · refine vc_iconst dX12_whose_50 rfl ?_
            refine vc_iret dX12_whose_51 rfl (Nat.le_of_ble_eq_true rfl) (Nat.le_of_ble_eq_true rfl) ?_
            exact ⟨_, rfl, hB35, Or.inl ⟨⟨by omega, by omega, by omega, by omega, by omega⟩, Or.inl ⟨by rw [← hq0]; omega, rfl⟩⟩⟩
        · refine vc_iload_n dX12_whose_26 rfl ?_
          refine vc_iconst dX12_whose_27 rfl ?_
          refine vc_icmp_eq dX12_whose_28 (fun h47 => ?_) (fun h47 => ?_)
          · refine vc_aload_n dX12_whose_33 rfl ?_
            refine vc_iload_n dX12_whose_34 rfl ?_
            have htg := p0.tg (t := t) (by omega) (by omega)
            have hsl : slOk S t := slOk.of p4 htg.2.1.1 htg.2.1.2
            refine vc_cVU dX12_whose_35 (sfX12_findWaysF (M := M) hB0.1 S t (by omega) (by omega) (by exact p0) (by omega) (by exact p1) (by exact p2) (by exact p3) (by exact p4) (by exact hsl)) rfl okX12_findWays viX12_findWays lkX12_455 (s_54 hB0.1.1) cl_12 rfl (Nat.le_of_ble_eq_true rfl) ⟨rfl, rfl⟩ (Nat.le_of_ble_eq_true rfl) (Nat.le_of_ble_eq_true rfl) (Nat.le_of_ble_eq_true rfl) ?_
            rintro M48 ⟨hB49, kp50, h51⟩
            have hB52 : BF fQ M M48 := BF.go hB0 hB49.wq
            have hwy := h51
            have h65 : ∀ w : Nat, w < 8 → 0 ≤ mI M48 65 w ∧ mI M48 65 w ≤ 1000 := fun w hw => by rw [(hwy w hw).1]; exact wtS_b hsl w
            refine vc_aload_n dX12_whose_38 rfl ?_
            refine vc_iload_n dX12_whose_39 rfl ?_
            refine vc_cVI dX12_whose_40 (sfX12_weightToF (M := M48) hB52.1  c (by exact h65)) rfl okX12_weightTo viX12_weightTo lkX12_458 (s_54 hB52.1.1) cl_12 rfl (Nat.le_of_ble_eq_true rfl) ⟨rfl, rfl⟩ (Nat.le_of_ble_eq_true rfl) (Nat.le_of_ble_eq_true rfl) (Nat.le_of_ble_eq_true rfl) ?_
            rintro x53 _ ⟨rfl, h54⟩
            have hq0 : x53 = wcS S t c 0 := h54.trans (hwy.sum c)
            have hu0 : 0 ≤ x53 ∧ x53 ≤ 8000 := by rw [hq0]; exact wcS_b hsl _ _
            refine vc_istore dX12_whose_43 (by decide) rfl (show _ = [some (aR 54), some (aI t), some (aI c), some (aI s), some (aI low), some (aI x53), none, none] from rfl) ?_
            refine vc_iload dX12_whose_45 rfl ?_
            refine vc_if_ne dX12_whose_47 (fun h55 => ?_) (fun h55 => ?_)
            · refine vc_iconst dX12_whose_52 rfl ?_
              refine vc_istore dX12_whose_53 (by decide) rfl (show _ = [some (aR 54), some (aI t), some (aI c), some (aI s), some (aI low), some (aI x53), some (aI 0), none] from rfl) ?_
              refine vc_iconst dX12_whose_55 rfl ?_
              refine vc_istore dX12_whose_56 (by decide) rfl (show _ = [some (aR 54), some (aI t), some (aI c), some (aI s), some (aI low), some (aI x53), some (aI 0), some (aI 0)] from rfl) ?_
              have lp58 : ∀ (n58 : Nat) (v6 : Int) (v7 : Int), (0 ≤ v7) → (v7 ≤ 8) → (v6 = sm (rgF (mI M48 64) (mI M48 65) c s) v7.toNat) → (8 - v7).toNat < n58 → VC l mdX12_whose 58 [some (aR 54), none, some (aI c), some (aI s), some (aI low), some (aI x53), some (aI v6), some (aI v7)] [] M48 0 0 (fun q N => ∃ r : Int, q = some (aI r) ∧ BF fQ M N ∧ WhoS S t c s low r) := by
                intro n58
                induction n58 with
                | zero => intro v6 v7 g58_7a g58_7b g58i0 hm58; exact absurd hm58 (Nat.not_lt_zero _)
                | succ n58 ih58 =>
                  intro v6 v7 g58_7a g58_7b g58i0 hm58
                  refine vc_iload dX12_whose_58 rfl ?_
                  refine vc_bipush dX12_whose_60 rfl ?_
                  refine vc_icmp_ge dX12_whose_62 (fun h56 => ?_) (fun h56 => ?_)
                  · refine vc_iload dX12_whose_105 rfl ?_
                    refine vc_i2l dX12_whose_107 ?_
                    refine vc_iload dX12_whose_108 rfl ?_
                    refine vc_i2l dX12_whose_110 ?_
                    refine vc_iload dX12_whose_111 rfl ?_
                    have hq1 : v6 = wcS S t c s := by rw [g58i0, show v7.toNat = 8 by omega]; exact hwy.sum2 (by omega) (by omega)
                    have hu1 : 0 ≤ v6 ∧ v6 ≤ 8000 := by rw [hq1]; exact wcS_b hsl _ _
                    refine vc_cSL dX12_whose_113 (sfX12_partF (M := M48) hB52.1  v6 x53 low (by omega) (by omega)) rfl okX12_part stX12_part lkX12_476 rfl (Nat.le_of_ble_eq_true rfl) ⟨rfl, rfl⟩ (Nat.le_of_ble_eq_true rfl) (Nat.le_of_ble_eq_true rfl) (Nat.le_of_ble_eq_true rfl) ?_
                    rintro x57 _ ⟨rfl, h58⟩
                    refine vc_l2i dX12_whose_116 ?_
                    refine vc_iret dX12_whose_117 rfl (Nat.le_of_ble_eq_true rfl) (Nat.le_of_ble_eq_true rfl) ?_
                    exact ⟨_, rfl, hB52, Or.inl ⟨⟨by omega, by omega, by omega, by omega, by omega⟩, Or.inr ⟨by rw [← hq0]; omega, by rw [h58, hq1, hq0]⟩⟩⟩
                  · have hvw : ((v7.toNat : Nat) : Int) = v7 := by omega
                    have hsb := sm_b (B := 0) (f := rgF (mI M48 64) (mI M48 65) c s) v7.toNat (fun i hi => by unfold rgF; split; (exact h65 i (by omega)); omega)
                    have h5 := h65 v7.toNat (by omega)
                    rw [hvw] at hsb
                    refine vc_iload dX12_whose_65 rfl ?_
                    refine vc_aload_n dX12_whose_67 rfl ?_
                    refine vc_getR dX12_whose_68 flX12_45 (s_54 hB52.1.1) rfl (r_54_33 hB52.1.1) ?_
                    refine vc_iload dX12_whose_71 rfl ?_
                    refine vc_iaload dX12_whose_73 (s_64 hB52.1.1) (by omega) (by omega) ?_
                    refine vc_iload_n dX12_whose_74 rfl ?_
                    refine vc_icmp_ne dX12_whose_75 (fun h59 => ?_) (fun h59 => ?_)
                    · refine vc_iconst dX12_whose_95 rfl ?_
                      refine vc_iadd dX12_whose_96 ?_
                      refine vc_nameI (fun x60 ex60 => ?_)
                      refine vc_istore dX12_whose_97 (by decide) rfl (show _ = [some (aR 54), none, some (aI c), some (aI s), some (aI low), some (aI x53), some (aI x60), some (aI v7)] from rfl) ?_
                      refine vc_iincE dX12_whose_99 rfl (by omega) (by omega) (by decide) rfl (show _ = [some (aR 54), none, some (aI c), some (aI s), some (aI low), some (aI x53), some (aI x60), some (aI (v7 + 1))] from rfl) ?_
                      refine vc_goto dX12_whose_102 ?_
                      exact ih58 x60 (v7 + 1) (by omega) (by omega) (by first | rfl | (rw [show (v7 + 1).toNat = v7.toNat + 1 by omega, sm_z (by unfold rgF; rw [hvw]; exact if_neg (fun q => by omega)), ← g58i0]; have e := wI_id (x := v6 + 0) (by omega) (by omega); omega) | (rw [show (v7 + 1).toNat = v7.toNat + 1 by omega, sm_s (x := mI M48 65 v7.toNat) (by unfold rgF; rw [hvw]; exact if_pos ⟨by omega, by omega⟩), ← g58i0]; have e := wI_id (x := v6 + mI M48 65 v7.toNat) (by omega) (by omega); omega)) (by omega)
                    · refine vc_iload dX12_whose_78 rfl ?_
                      refine vc_iload_n dX12_whose_80 rfl ?_
                      refine vc_iand dX12_whose_81 ?_
                      refine vc_if_eq dX12_whose_82 (fun h61 => ?_) (fun h61 => ?_)
                      · refine vc_iconst dX12_whose_95 rfl ?_
                        refine vc_iadd dX12_whose_96 ?_
                        refine vc_nameI (fun x62 ex62 => ?_)
                        refine vc_istore dX12_whose_97 (by decide) rfl (show _ = [some (aR 54), none, some (aI c), some (aI s), some (aI low), some (aI x53), some (aI x62), some (aI v7)] from rfl) ?_
                        refine vc_iincE dX12_whose_99 rfl (by omega) (by omega) (by decide) rfl (show _ = [some (aR 54), none, some (aI c), some (aI s), some (aI low), some (aI x53), some (aI x62), some (aI (v7 + 1))] from rfl) ?_
                        refine vc_goto dX12_whose_102 ?_
                        exact ih58 x62 (v7 + 1) (by omega) (by omega) (by first | rfl | (rw [show (v7 + 1).toNat = v7.toNat + 1 by omega, sm_z (by unfold rgF; rw [hvw]; exact if_neg (fun q => by omega)), ← g58i0]; have e := wI_id (x := v6 + 0) (by omega) (by omega); omega) | (rw [show (v7 + 1).toNat = v7.toNat + 1 by omega, sm_s (x := mI M48 65 v7.toNat) (by unfold rgF; rw [hvw]; exact if_pos ⟨by omega, by omega⟩), ← g58i0]; have e := wI_id (x := v6 + mI M48 65 v7.toNat) (by omega) (by omega); omega)) (by omega)
                      · refine vc_aload_n dX12_whose_85 rfl ?_
                        refine vc_getR dX12_whose_86 flX12_48 (s_54 hB52.1.1) rfl (r_54_34 hB52.1.1) ?_
                        refine vc_iload dX12_whose_89 rfl ?_
                        refine vc_iaload dX12_whose_91 (s_65 hB52.1.1) (by omega) (by omega) ?_
                        refine vc_goto dX12_whose_92 ?_
                        refine vc_iadd dX12_whose_96 ?_
                        refine vc_nameI (fun x63 ex63 => ?_)
                        refine vc_istore dX12_whose_97 (by decide) rfl (show _ = [some (aR 54), none, some (aI c), some (aI s), some (aI low), some (aI x53), some (aI x63), some (aI v7)] from rfl) ?_
                        refine vc_iincE dX12_whose_99 rfl (by omega) (by omega) (by decide) rfl (show _ = [some (aR 54), none, some (aI c), some (aI s), some (aI low), some (aI x53), some (aI x63), some (aI (v7 + 1))] from rfl) ?_
                        refine vc_goto dX12_whose_102 ?_
                        exact ih58 x63 (v7 + 1) (by omega) (by omega) (by first | rfl | (rw [show (v7 + 1).toNat = v7.toNat + 1 by omega, sm_z (by unfold rgF; rw [hvw]; exact if_neg (fun q => by omega)), ← g58i0]; have e := wI_id (x := v6 + 0) (by omega) (by omega); omega) | (rw [show (v7 + 1).toNat = v7.toNat + 1 by omega, sm_s (x := mI M48 65 v7.toNat) (by unfold rgF; rw [hvw]; exact if_pos ⟨by omega, by omega⟩), ← g58i0]; have e := wI_id (x := v6 + mI M48 65 v7.toNat) (by omega) (by omega); omega)) (by omega)
              refine vc_less [some (aR 54), none, some (aI c), some (aI s), some (aI low), some (aI x53), some (aI 0), some (aI 0)] (lessL_keep (lessL_drop (lessL_keep (lessL_keep (lessL_keep (lessL_keep (lessL_keep (lessL_keep (lessL_nil))))))))) ?_
              exact lp58 _ 0 0 (by omega) (by omega) (by first | rfl | (rw [show (v7 + 1).toNat = v7.toNat + 1 by omega, sm_z (by unfold rgF; rw [hvw]; exact if_neg (fun q => by omega)), ← g58i0]; have e := wI_id (x := v6 + 0) (by omega) (by omega); omega) | (rw [show (v7 + 1).toNat = v7.toNat + 1 by omega, sm_s (x := mI M48 65 v7.toNat) (by unfold rgF; rw [hvw]; exact if_pos ⟨by omega, by omega⟩), ← g58i0]; have e := wI_id (x := v6 + mI M48 65 v7.toNat) (by omega) (by omega); omega)) (Nat.lt_succ_self _)
            · refine vc_iconst dX12_whose_50 rfl ?_
              refine vc_iret dX12_whose_51 rfl (Nat.le_of_ble_eq_true rfl) (Nat.le_of_ble_eq_true rfl) ?_
              exact ⟨_, rfl, hB52, Or.inl ⟨⟨by omega, by omega, by omega, by omega, by omega⟩, Or.inl ⟨by rw [← hq0]; omega, rfl⟩⟩⟩
          · refine vc_iconst dX12_whose_31 rfl ?_
            refine vc_iret dX12_whose_32 rfl (Nat.le_of_ble_eq_true rfl) (Nat.le_of_ble_eq_true rfl) ?_
            exact ⟨_, rfl, hB0, Or.inr ⟨fun q => by have q1 := q.2.1; have q2 := q.2.2.2.1; have q3 := q.1; have q4 := q.2.2.1; have q5 := q.2.2.2.2; omega, by omega⟩⟩

