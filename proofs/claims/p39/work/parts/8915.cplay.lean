/-! THE DEEDS of the class: asking, days, plays (written by wip/laws2/c10a.py) -/
set_option maxRecDepth 4000 in
theorem sfX9_asksF {l : Launch} {M : Mem} (hB : Box M)  (t : Int) (p0 : wfL (cS M)) : Call l mdX9_asks [aR 34, aI t] M (fun q N => ∃ r : Int, q = some (aI r) ∧ BF fC M N ∧ AskS t (cS M) (cS N) r) := by
  have hB0 : BF fC M M := BF.start hB
  refine Call.of [some (aR 34), some (aI t)] rfl (Nat.le_of_ble_eq_true rfl) rfl ?_
  refine vc_ok (fun hoM hoS hoL => ?_)
  have hr1 : -2147483648 ≤ t ∧ t < 2147483648 := hoL 1 _ rfl
  have e160 : cS M 16 0 = mI M 16 0 := rfl
  have e18 : cS M 1 8 = mI M 1 8 := rfl
  have e5 : cS M 5 (4 * t).toNat = mI M 5 (4 * t).toNat := rfl
  refine vc_aload_n dX9_asks_0 rfl ?_
  refine vc_cVI dX9_asks_1 (sfX9_isThereF (M := M) hB0.1   ) rfl okX9_isThere viX9_isThere lkX9_64 (s_34 hB0.1.1) cl_9 rfl (Nat.le_of_ble_eq_true rfl) ⟨rfl, rfl⟩ (Nat.le_of_ble_eq_true rfl) (Nat.le_of_ble_eq_true rfl) (Nat.le_of_ble_eq_true rfl) ?_
  rintro x1 _ ⟨rfl, h2, h3, h4⟩
  refine vc_if_eq dX9_asks_4 (fun h5 => ?_) (fun h5 => ?_)
  · refine vc_iconst dX9_asks_39 rfl ?_
    refine vc_iret dX9_asks_40 rfl (Nat.le_of_ble_eq_true rfl) (Nat.le_of_ble_eq_true rfl) ?_
    exact ⟨_, rfl, hB0, Or.inr ⟨by omega, rfl, rfl⟩⟩
  · refine vc_aload_n dX9_asks_7 rfl ?_
    refine vc_getR dX9_asks_8 flX9_9 (s_34 hB0.1.1) rfl (r_34_0 hB0.1.1) ?_
    refine vc_iload_n dX9_asks_11 rfl ?_
    refine vc_cVI dX9_asks_12 (sfX6_hasTellerF (M := M) hB0.1  t ) rfl okX6_hasTeller viX6_hasTeller lkX9_77 (s_1 hB0.1.1) cl_6 rfl (Nat.le_of_ble_eq_true rfl) ⟨rfl, rfl⟩ (Nat.le_of_ble_eq_true rfl) (Nat.le_of_ble_eq_true rfl) (Nat.le_of_ble_eq_true rfl) ?_
    rintro x6 _ ⟨rfl, h7, h8, h9, h10⟩
    refine vc_if_eq dX9_asks_15 (fun h11 => ?_) (fun h11 => ?_)
    · refine vc_iconst dX9_asks_39 rfl ?_
      refine vc_iret dX9_asks_40 rfl (Nat.le_of_ble_eq_true rfl) (Nat.le_of_ble_eq_true rfl) ?_
      exact ⟨_, rfl, hB0, Or.inr ⟨by omega, rfl, rfl⟩⟩
    · refine vc_aload_n dX9_asks_18 rfl ?_
      refine vc_getR dX9_asks_19 flX9_9 (s_34 hB0.1.1) rfl (r_34_0 hB0.1.1) ?_
      refine vc_iload_n dX9_asks_22 rfl ?_
      refine vc_iconst dX9_asks_23 rfl ?_
      refine vc_cVI dX9_asks_24 (sfX6_tellerCellF (M := M) hB0.1  t 0 ) rfl okX6_tellerCell viX6_tellerCell lkX9_80 (s_1 hB0.1.1) cl_6 rfl (Nat.le_of_ble_eq_true rfl) ⟨rfl, rfl⟩ (Nat.le_of_ble_eq_true rfl) (Nat.le_of_ble_eq_true rfl) (Nat.le_of_ble_eq_true rfl) ?_
      rintro x12 _ ⟨rfl, h13⟩
      have hz5 : x12 = -1 ∨ x12 = mI M 5 (4 * t).toNat := by have z : (4 * t + 0).toNat = (4 * t).toNat := (by rw [Int.add_zero]); rw [← z]; omega
      have hz6 : ¬ (0 ≤ t ∧ t < mI M 1 8) ∨ x12 = mI M 5 (4 * t).toNat := by have z : (4 * t + 0).toNat = (4 * t).toNat := (by rw [Int.add_zero]); rw [← z]; omega
      refine vc_aload_n dX9_asks_27 rfl ?_
      refine vc_getR dX9_asks_28 flX9_15 (s_34 hB0.1.1) rfl (r_34_1 hB0.1.1) ?_
      refine vc_getR dX9_asks_31 flX9_27 (s_15 hB0.1.1) rfl (r_15_0 hB0.1.1) ?_
      refine vc_iconst dX9_asks_34 rfl ?_
      refine vc_iaload dX9_asks_35 (s_16 hB0.1.1) (by omega) (by omega) ?_
      refine vc_topI (mI M 16 0) rfl ?_
      refine vc_icmp_eq dX9_asks_36 (fun h14 => ?_) (fun h14 => ?_)
      · refine vc_aload_n dX9_asks_41 rfl ?_
        refine vc_getR dX9_asks_42 flX9_15 (s_34 hB0.1.1) rfl (r_34_1 hB0.1.1) ?_
        refine vc_cVU dX9_asks_45 (sfX8_keepStepF (M := M) hB0.1   ) rfl okX8_keepStep viX8_keepStep lkX9_42 (s_15 hB0.1.1) cl_8 rfl (Nat.le_of_ble_eq_true rfl) ⟨rfl, rfl⟩ (Nat.le_of_ble_eq_true rfl) (Nat.le_of_ble_eq_true rfl) (Nat.le_of_ble_eq_true rfl) ?_
        rintro M15 ⟨hB16, kp17, h18⟩
        have hB19 : BF fC M M15 := BF.go hB0 hB16
        have hc20 : cS M15 = fKp (cS M) := h18
        refine vc_aload_n dX9_asks_48 rfl ?_
        refine vc_iload_n dX9_asks_49 rfl ?_
        have hwh : wfL (cS M15) := by rw [hc20]; exact p0.lk Lk.kp
        have h18 : mI M15 1 8 = mI M 1 8 := by have z : cS M15 1 8 = fKp (cS M) 1 8 := congrFun (congrFun hc20 1) 8; rw [fKp_o (by decide) (by decide)] at z; exact z
        refine vc_cVU dX9_asks_50 (sfX9_hearF (M := M15) hB19.1  t (by omega) (by omega) (by omega) (by exact hwh)) rfl okX9_hear viX9_hear lkX9_83 (s_34 hB19.1.1) cl_9 rfl (Nat.le_of_ble_eq_true rfl) ⟨rfl, rfl⟩ (Nat.le_of_ble_eq_true rfl) (Nat.le_of_ble_eq_true rfl) (Nat.le_of_ble_eq_true rfl) ?_
        rintro M21 ⟨hB22, h23⟩
        have hB24 : BF fC M M21 := BF.go hB19 hB22
        have hc25 : cS M21 = fHe t (fKp (cS M)) := by rw [h23, hc20]
        refine vc_aload_n dX9_asks_53 rfl ?_
        refine vc_getR dX9_asks_54 flX9_15 (s_34 hB24.1.1) rfl (r_34_1 hB24.1.1) ?_
        refine vc_getR dX9_asks_57 flX9_27 (s_15 hB24.1.1) rfl (r_15_0 hB24.1.1) ?_
        refine vc_iconst dX9_asks_60 rfl ?_
        refine vc_iload_n dX9_asks_61 rfl ?_
        refine vc_iaddE dX9_asks_62 (by omega) (by omega) ?_
        refine vc_iaload dX9_asks_63 (s_16 hB24.1.1) (by omega) (by omega) ?_
        refine vc_iret dX9_asks_64 rfl (Nat.le_of_ble_eq_true rfl) (Nat.le_of_ble_eq_true rfl) ?_
        exact ⟨_, rfl, hB24, Or.inl ⟨by omega, hc25, (cS_16t (by omega)).symm⟩⟩
      · refine vc_iconst dX9_asks_39 rfl ?_
        refine vc_iret dX9_asks_40 rfl (Nat.le_of_ble_eq_true rfl) (Nat.le_of_ble_eq_true rfl) ?_
        exact ⟨_, rfl, hB0, Or.inr ⟨by omega, rfl, rfl⟩⟩

set_option maxRecDepth 4000 in
theorem sfX9_hearLowestF {l : Launch} {M : Mem} (hB : Box M)   (p0 : wfL (cS M)) : Call l mdX9_hearLowest [aR 34] M (fun q N => q = none ∧ BF fC M N ∧ cS N = hlS (mI M 1 8).toNat 0 (cS M)) := by
  have hB0 : BF fC M M := BF.start hB
  refine Call.of [some (aR 34), none] rfl (Nat.le_of_ble_eq_true rfl) rfl ?_
  refine vc_iconst dX9_hearLowest_0 rfl ?_
  refine vc_istore_n dX9_hearLowest_1 (by decide) rfl (show _ = [some (aR 34), some (aI 0)] from rfl) ?_
  have lp2 : ∀ (n2 : Nat) (v1 : Int), (0 ≤ v1) → (v1 ≤ 6) → (hlS (mI M 1 8).toNat 0 (cS M) = hlS (mI M 1 8 - v1).toNat v1 (cS M)) → (mI M 1 8 = mI M 1 8) → (6 - v1).toNat < n2 → VC l mdX9_hearLowest 2 [some (aR 34), some (aI v1)] [] M 0 0 (fun q N => q = none ∧ BF fC M N ∧ cS N = hlS (mI M 1 8).toNat 0 (cS M)) := by
    intro n2
    induction n2 with
    | zero => intro v1 g2_1a g2_1b g2i0 g2i1 hm2; exact absurd hm2 (Nat.not_lt_zero _)
    | succ n2 ih2 =>
      intro v1 g2_1a g2_1b g2i0 g2i1 hm2
      refine vc_iload_n dX9_hearLowest_2 rfl ?_
      refine vc_aload_n dX9_hearLowest_3 rfl ?_
      refine vc_getR dX9_hearLowest_4 flX9_9 (s_34 hB0.1.1) rfl (r_34_0 hB0.1.1) ?_
      refine vc_getI dX9_hearLowest_7 flX9_126 (s_1 hB0.1.1) rfl ?_
      have k1 : 0 ≤ mI M 1 8 ∧ mI M 1 8 ≤ 6 := b1_8 (M := M) hB0.1
      refine vc_icmp_ge dX9_hearLowest_10 (fun h2 => ?_) (fun h2 => ?_)
      · refine vc_vret dX9_hearLowest_46 rfl (Nat.le_of_ble_eq_true rfl) (Nat.le_of_ble_eq_true rfl) ?_
        exact ⟨rfl, hB0, by rw [g2i0, show (mI M 1 8 - v1).toNat = 0 by omega]; rfl⟩
      · refine vc_aload_n dX9_hearLowest_13 rfl ?_
        refine vc_getR dX9_hearLowest_14 flX9_9 (s_34 hB0.1.1) rfl (r_34_0 hB0.1.1) ?_
        refine vc_iload_n dX9_hearLowest_17 rfl ?_
        refine vc_iconst dX9_hearLowest_18 rfl ?_
        refine vc_cVI dX9_hearLowest_19 (sfX6_tellerCellF (M := M) hB0.1  v1 0 ) rfl okX6_tellerCell viX6_tellerCell lkX9_80 (s_1 hB0.1.1) cl_6 rfl (Nat.le_of_ble_eq_true rfl) ⟨rfl, rfl⟩ (Nat.le_of_ble_eq_true rfl) (Nat.le_of_ble_eq_true rfl) (Nat.le_of_ble_eq_true rfl) ?_
        rintro x3 _ ⟨rfl, h4⟩
        have hz5 : x3 = mI M 5 (4 * v1).toNat := by have z : (4 * v1 + 0).toNat = (4 * v1).toNat := (by rw [Int.add_zero]); rw [← z]; omega
        have hz6 : cS M 5 (4 * v1).toNat = mI M 5 (4 * v1).toNat := rfl
        have hz7 : cS M 16 0 = mI M 16 0 := rfl
        refine vc_aload_n dX9_hearLowest_22 rfl ?_
        refine vc_getR dX9_hearLowest_23 flX9_15 (s_34 hB0.1.1) rfl (r_34_1 hB0.1.1) ?_
        refine vc_getR dX9_hearLowest_26 flX9_27 (s_15 hB0.1.1) rfl (r_15_0 hB0.1.1) ?_
        refine vc_iconst dX9_hearLowest_29 rfl ?_
        refine vc_iaload dX9_hearLowest_30 (s_16 hB0.1.1) (by omega) (by omega) ?_
        refine vc_topI (mI M 16 0) rfl ?_
        refine vc_icmp_ne dX9_hearLowest_31 (fun h5 => ?_) (fun h5 => ?_)
        · refine vc_iincE dX9_hearLowest_40 rfl (by omega) (by omega) (by decide) rfl (show _ = [some (aR 34), some (aI (v1 + 1))] from rfl) ?_
          refine vc_goto dX9_hearLowest_43 ?_
          exact ih2 (v1 + 1) (by omega) (by omega) (by first | (rw [Int.sub_zero]; done) | (rw [g2i0, show (mI M 1 8 - v1).toNat = (mI M 1 8 - (v1 + 1)).toNat + 1 by omega]; exact if_neg (by omega))) (by omega) (by omega)
        · refine vc_aload_n dX9_hearLowest_34 rfl ?_
          refine vc_iload_n dX9_hearLowest_35 rfl ?_
          refine vc_cVU dX9_hearLowest_36 (sfX9_hearF (M := M) hB0.1  v1 (by omega) (by omega) (by omega) (by exact p0)) rfl okX9_hear viX9_hear lkX9_83 (s_34 hB0.1.1) cl_9 rfl (Nat.le_of_ble_eq_true rfl) ⟨rfl, rfl⟩ (Nat.le_of_ble_eq_true rfl) (Nat.le_of_ble_eq_true rfl) (Nat.le_of_ble_eq_true rfl) ?_
          rintro M6 ⟨hB7, h8⟩
          have hB9 : BF fC M M6 := BF.go hB0 hB7
          have hc10 : cS M6 = fHe v1 (cS M) := h8
          refine vc_vret dX9_hearLowest_39 rfl (Nat.le_of_ble_eq_true rfl) (Nat.le_of_ble_eq_true rfl) ?_
          exact ⟨rfl, hB9, by rw [g2i0, show (mI M 1 8 - v1).toNat = (mI M 1 8 - v1 - 1).toNat + 1 by omega, hc10]; exact (if_pos (by omega)).symm⟩
  exact lp2 _ 0 (by omega) (by omega) (by first | (rw [Int.sub_zero]; done) | (rw [g2i0, show (mI M 1 8 - v1).toNat = (mI M 1 8 - (v1 + 1)).toNat + 1 by omega]; exact if_neg (by omega))) (by omega) (Nat.lt_succ_self _)

set_option maxRecDepth 4000 in
theorem sfX9_anewF {l : Launch} {M : Mem} (hB : Box M)  (x : Int) (p0 : 0 ≤ x) (p1 : x ≤ 40025) : Call l mdX9_anew [aI x] M (fun q N => ∃ r : Int, q = some (aI r) ∧ M = N ∧ 0 ≤ r ∧ r ≤ 30180 ∧ r = nwX x) := by
  have hB0 : BF fQ M M := BF.start hB
  refine Call.of [some (aI x)] rfl (Nat.le_of_ble_eq_true rfl) rfl ?_
  refine vc_iload_n dX9_anew_0 rfl ?_
  refine vc_sipush dX9_anew_1 rfl ?_
  refine vc_imulE dX9_anew_4 (by omega) (by omega) ?_
  refine vc_bipush dX9_anew_5 rfl ?_
  refine vc_iaddE dX9_anew_7 (by omega) (by omega) ?_
  refine vc_sipush dX9_anew_8 rfl ?_
  refine vc_iremE dX9_anew_11 (by omega) (by omega) ?_
  refine vc_iret dX9_anew_12 rfl (Nat.le_of_ble_eq_true rfl) (Nat.le_of_ble_eq_true rfl) ?_
  exact ⟨_, rfl, rfl, by omega, by omega, by rfl⟩

set_option maxRecDepth 4000 in
theorem sfX9_drawnF {l : Launch} {M : Mem} (hB : Box M)  (w : Int) (p0 : wfL (cS M)) : Call l mdX9_drawn [aR 34, aI w] M (fun q N => q = none ∧ BF fC M N ∧ cS N = drS w (cS M)) := by
  have hB0 : BF fC M M := BF.start hB
  refine Call.of [some (aR 34), some (aI w)] rfl (Nat.le_of_ble_eq_true rfl) rfl ?_
  refine vc_ok (fun hoM hoS hoL => ?_)
  have hr1 : -2147483648 ≤ w ∧ w < 2147483648 := hoL 1 _ rfl
  refine vc_iload_n dX9_drawn_0 rfl ?_
  refine vc_if_ne dX9_drawn_1 (fun h1 => ?_) (fun h1 => ?_)
  · refine vc_iload_n dX9_drawn_12 rfl ?_
    refine vc_iconst dX9_drawn_13 rfl ?_
    refine vc_icmp_ne dX9_drawn_14 (fun h2 => ?_) (fun h2 => ?_)
    · refine vc_aload_n dX9_drawn_24 rfl ?_
      refine vc_iconst dX9_drawn_25 rfl ?_
      refine vc_cVI dX9_drawn_26 (sfX9_canGoF (M := M) hB0.1  1 ) rfl okX9_canGo viX9_canGo lkX9_53 (s_34 hB0.1.1) cl_9 rfl (Nat.le_of_ble_eq_true rfl) ⟨rfl, rfl⟩ (Nat.le_of_ble_eq_true rfl) (Nat.le_of_ble_eq_true rfl) (Nat.le_of_ble_eq_true rfl) ?_
      rintro x3 _ ⟨rfl, h4, h5, h6⟩
      have hcn : (x3 = 1 ∧ wkS (cS M) (cS M 16 1) 1 (cS M 16 0) ≠ -1) ∨ (x3 = 0 ∧ wkS (cS M) (cS M 16 1) 1 (cS M 16 0) = -1) := h6
      refine vc_if_eq dX9_drawn_29 (fun h7 => ?_) (fun h7 => ?_)
      · refine vc_aload_n dX9_drawn_39 rfl ?_
        refine vc_iconst dX9_drawn_40 rfl ?_
        refine vc_cVU dX9_drawn_41 (sfX9_faceToF (M := M) hB0.1  1 ) rfl okX9_faceTo viX9_faceTo lkX9_68 (s_34 hB0.1.1) cl_9 rfl (Nat.le_of_ble_eq_true rfl) ⟨rfl, rfl⟩ (Nat.le_of_ble_eq_true rfl) (Nat.le_of_ble_eq_true rfl) (Nat.le_of_ble_eq_true rfl) ?_
        rintro M8 ⟨hB9, h10⟩
        have hB11 : BF fC M M8 := BF.go hB0 hB9
        have hc12 : cS M8 = fFa 1 (cS M) := h10
        refine vc_vret dX9_drawn_44 rfl (Nat.le_of_ble_eq_true rfl) (Nat.le_of_ble_eq_true rfl) ?_
        refine ⟨rfl, hB11, ?_⟩
        rw [hc12]
        unfold drS
        first | exact (if_pos (by omega)).symm | (rw [if_neg (by omega)]; first | exact (if_pos (by omega)).symm | (rw [if_neg (by omega)]; first | exact (if_pos (by rcases hcn with h | h; (exact h.2); (exfalso; omega))).symm | exact (if_neg (fun e => by rcases hcn with h | h; (exfalso; omega); (exact e h.2))).symm))
      · refine vc_aload_n dX9_drawn_32 rfl ?_
        refine vc_cVU dX9_drawn_33 (sfX9_goAheadF (M := M) hB0.1   (by exact p0)) rfl okX9_goAhead viX9_goAhead lkX9_56 (s_34 hB0.1.1) cl_9 rfl (Nat.le_of_ble_eq_true rfl) ⟨rfl, rfl⟩ (Nat.le_of_ble_eq_true rfl) (Nat.le_of_ble_eq_true rfl) (Nat.le_of_ble_eq_true rfl) ?_
        rintro M13 ⟨hB14, h15⟩
        have hB16 : BF fC M M13 := BF.go hB0 hB14
        have hc17 : cS M13 = fAh (cS M) := h15
        refine vc_goto dX9_drawn_36 ?_
        refine vc_vret dX9_drawn_44 rfl (Nat.le_of_ble_eq_true rfl) (Nat.le_of_ble_eq_true rfl) ?_
        refine ⟨rfl, hB16, ?_⟩
        rw [hc17]
        unfold drS
        first | exact (if_pos (by omega)).symm | (rw [if_neg (by omega)]; first | exact (if_pos (by omega)).symm | (rw [if_neg (by omega)]; first | exact (if_pos (by rcases hcn with h | h; (exact h.2); (exfalso; omega))).symm | exact (if_neg (fun e => by rcases hcn with h | h; (exfalso; omega); (exact e h.2))).symm))
    · refine vc_aload_n dX9_drawn_17 rfl ?_
      refine vc_cVU dX9_drawn_18 (sfX9_hearLowestF (M := M) hB0.1   (by exact p0)) rfl okX9_hearLowest viX9_hearLowest lkX9_123 (s_34 hB0.1.1) cl_9 rfl (Nat.le_of_ble_eq_true rfl) ⟨rfl, rfl⟩ (Nat.le_of_ble_eq_true rfl) (Nat.le_of_ble_eq_true rfl) (Nat.le_of_ble_eq_true rfl) ?_
      rintro M18 ⟨hB19, h20⟩
      have hB21 : BF fC M M18 := BF.go hB0 hB19
      have hc22 : cS M18 = hlS (mI M 1 8).toNat 0 (cS M) := h20
      refine vc_goto dX9_drawn_21 ?_
      refine vc_vret dX9_drawn_44 rfl (Nat.le_of_ble_eq_true rfl) (Nat.le_of_ble_eq_true rfl) ?_
      refine ⟨rfl, hB21, ?_⟩
      rw [hc22]
      unfold drS
      first | exact (if_pos (by omega)).symm | (rw [if_neg (by omega)]; first | exact (if_pos (by omega)).symm | (rw [if_neg (by omega)]; first | exact (if_pos (by rcases hcn with h | h; (exact h.2); (exfalso; omega))).symm | exact (if_neg (fun e => by rcases hcn with h | h; (exfalso; omega); (exact e h.2))).symm))
  · refine vc_aload_n dX9_drawn_4 rfl ?_
    refine vc_iconst dX9_drawn_5 rfl ?_
    refine vc_cVU dX9_drawn_6 (sfX9_faceToF (M := M) hB0.1  2 ) rfl okX9_faceTo viX9_faceTo lkX9_68 (s_34 hB0.1.1) cl_9 rfl (Nat.le_of_ble_eq_true rfl) ⟨rfl, rfl⟩ (Nat.le_of_ble_eq_true rfl) (Nat.le_of_ble_eq_true rfl) (Nat.le_of_ble_eq_true rfl) ?_
    rintro M23 ⟨hB24, h25⟩
    have hB26 : BF fC M M23 := BF.go hB0 hB24
    have hc27 : cS M23 = fFa 2 (cS M) := h25
    refine vc_goto dX9_drawn_9 ?_
    refine vc_vret dX9_drawn_44 rfl (Nat.le_of_ble_eq_true rfl) (Nat.le_of_ble_eq_true rfl) ?_
    refine ⟨rfl, hB26, ?_⟩
    rw [hc27]
    unfold drS
    first | exact (if_pos (by omega)).symm | (rw [if_neg (by omega)]; first | exact (if_pos (by omega)).symm | (rw [if_neg (by omega)]; first | exact (if_pos (by rcases hcn with h | h; (exact h.2); (exfalso; omega))).symm | exact (if_neg (fun e => by rcases hcn with h | h; (exfalso; omega); (exact e h.2))).symm))

set_option maxRecDepth 4000 in
theorem sfX9_spendsDayF {l : Launch} {M : Mem} (hB : Box M)  (s : Int) (n : Int) (p0 : wfL (cS M)) : Call l mdX9_spendsDay [aR 34, aI s, aI n] M (fun q N => ∃ r : Int, q = some (aI r) ∧ BF fC M N ∧ DayS s n (cS M) (cS N) r) := by
  have hB0 : BF fC M M := BF.start hB
  refine Call.of [some (aR 34), some (aI s), some (aI n), none, none] rfl (Nat.le_of_ble_eq_true rfl) rfl ?_
  refine vc_ok (fun hoM hoS hoL => ?_)
  have hr1 : -2147483648 ≤ s ∧ s < 2147483648 := hoL 1 _ rfl
  have hr2 : -2147483648 ≤ n ∧ n < 2147483648 := hoL 2 _ rfl
  have e16 : cS M 1 6 = mI M 1 6 := rfl
  refine vc_iload_n dX9_spendsDay_0 rfl ?_
  refine vc_if_lt dX9_spendsDay_1 (fun h1 => ?_) (fun h1 => ?_)
  · refine vc_iconst dX9_spendsDay_32 rfl ?_
    refine vc_iret dX9_spendsDay_33 rfl (Nat.le_of_ble_eq_true rfl) (Nat.le_of_ble_eq_true rfl) ?_
    exact ⟨_, rfl, hB0, Or.inr ⟨by omega, rfl, rfl⟩⟩
  · refine vc_iload_n dX9_spendsDay_4 rfl ?_
    refine vc_sipush dX9_spendsDay_5 rfl ?_
    refine vc_icmp_gt dX9_spendsDay_8 (fun h2 => ?_) (fun h2 => ?_)
    · refine vc_iconst dX9_spendsDay_32 rfl ?_
      refine vc_iret dX9_spendsDay_33 rfl (Nat.le_of_ble_eq_true rfl) (Nat.le_of_ble_eq_true rfl) ?_
      exact ⟨_, rfl, hB0, Or.inr ⟨by omega, rfl, rfl⟩⟩
    · refine vc_iload_n dX9_spendsDay_11 rfl ?_
      refine vc_iconst dX9_spendsDay_12 rfl ?_
      refine vc_icmp_lt dX9_spendsDay_13 (fun h3 => ?_) (fun h3 => ?_)
      · refine vc_iconst dX9_spendsDay_32 rfl ?_
        refine vc_iret dX9_spendsDay_33 rfl (Nat.le_of_ble_eq_true rfl) (Nat.le_of_ble_eq_true rfl) ?_
        exact ⟨_, rfl, hB0, Or.inr ⟨by omega, rfl, rfl⟩⟩
      · refine vc_iload_n dX9_spendsDay_16 rfl ?_
        refine vc_bipush dX9_spendsDay_17 rfl ?_
        refine vc_icmp_gt dX9_spendsDay_19 (fun h4 => ?_) (fun h4 => ?_)
        · refine vc_iconst dX9_spendsDay_32 rfl ?_
          refine vc_iret dX9_spendsDay_33 rfl (Nat.le_of_ble_eq_true rfl) (Nat.le_of_ble_eq_true rfl) ?_
          exact ⟨_, rfl, hB0, Or.inr ⟨by omega, rfl, rfl⟩⟩
        · refine vc_aload_n dX9_spendsDay_22 rfl ?_
          refine vc_getR dX9_spendsDay_23 flX9_9 (s_34 hB0.1.1) rfl (r_34_0 hB0.1.1) ?_
          refine vc_getI dX9_spendsDay_26 flX9_114 (s_1 hB0.1.1) rfl ?_
          have k5 : 0 ≤ mI M 1 6 ∧ mI M 1 6 ≤ 16 := b1_6 (M := M) hB0.1
          refine vc_if_ne dX9_spendsDay_29 (fun h7 => ?_) (fun h7 => ?_)
          · refine vc_aload_n dX9_spendsDay_34 rfl ?_
            refine vc_getR dX9_spendsDay_35 flX9_15 (s_34 hB0.1.1) rfl (r_34_1 hB0.1.1) ?_
            refine vc_cVU dX9_spendsDay_38 (sfX8_keepStepF (M := M) hB0.1   ) rfl okX8_keepStep viX8_keepStep lkX9_42 (s_15 hB0.1.1) cl_8 rfl (Nat.le_of_ble_eq_true rfl) ⟨rfl, rfl⟩ (Nat.le_of_ble_eq_true rfl) (Nat.le_of_ble_eq_true rfl) (Nat.le_of_ble_eq_true rfl) ?_
            rintro M8 ⟨hB9, kp10, h11⟩
            have hB12 : BF fC M M8 := BF.go hB0 hB9
            have kp13 : mI M8 1 = mI M 1 := kp_go rfl kp10
            have hc14 : cS M8 = fKp (cS M) := h11
            have hk6 : mI M8 1 6 = mI M 1 6 := congrFun kp10 6
            refine vc_iconst dX9_spendsDay_41 rfl ?_
            refine vc_iload_n dX9_spendsDay_42 rfl ?_
            refine vc_imulE dX9_spendsDay_43 (by omega) (by omega) ?_
            refine vc_bipush dX9_spendsDay_44 rfl ?_
            refine vc_iaddE dX9_spendsDay_46 (by omega) (by omega) ?_
            refine vc_nameI (fun x15 ex15 => ?_)
            refine vc_istore_n dX9_spendsDay_47 (by decide) rfl (show _ = [some (aR 34), some (aI s), some (aI n), some (aI x15), none] from rfl) ?_
            refine vc_aload_n dX9_spendsDay_48 rfl ?_
            refine vc_iload_n dX9_spendsDay_49 rfl ?_
            refine vc_aload_n dX9_spendsDay_50 rfl ?_
            refine vc_getR dX9_spendsDay_51 flX9_9 (s_34 hB12.1.1) rfl (r_34_0 hB12.1.1) ?_
            refine vc_getI dX9_spendsDay_54 flX9_114 (s_1 hB12.1.1) rfl ?_
            have k16 : 0 ≤ mI M8 1 6 ∧ mI M8 1 6 ≤ 16 := b1_6 (M := M8) hB12.1
            have k17 : mI M8 1 6 = mI M 1 6 := congrFun kp13 6
            refine vc_iremE dX9_spendsDay_57 (by omega) (by omega) ?_
            refine vc_iload_n dX9_spendsDay_58 rfl ?_
            refine vc_iconst dX9_spendsDay_59 rfl ?_
            refine vc_iremE dX9_spendsDay_60 (by omega) (by omega) ?_
            refine vc_iconst dX9_spendsDay_61 rfl ?_
            refine vc_cVU dX9_spendsDay_62 (sfX9_placeF (M := M8) hB12.1  (x15 % (mI M8 1 6)) (x15 % 4) 0 ) rfl okX9_place viX9_place lkX9_45 (s_34 hB12.1.1) cl_9 rfl (Nat.le_of_ble_eq_true rfl) ⟨rfl, rfl⟩ (Nat.le_of_ble_eq_true rfl) (Nat.le_of_ble_eq_true rfl) (Nat.le_of_ble_eq_true rfl) ?_
            rintro M18 ⟨hB19, h20⟩
            have hB21 : BF fC M M18 := BF.go hB12 hB19
            have hc22 : cS M18 = sc 0 (fPl (x15 % (mI M8 1 6)) (x15 % 4) (fKp (cS M))) := by rw [h20, hc14]
            have hc0 := hc22
            refine vc_iload_n dX9_spendsDay_65 rfl ?_
            refine vc_cSI dX9_spendsDay_66 (sfX9_anewF (M := M18) hB21.1  x15 (by omega) (by omega)) rfl okX9_anew stX9_anew lkX9_117 rfl (Nat.le_of_ble_eq_true rfl) ⟨rfl, rfl⟩ (Nat.le_of_ble_eq_true rfl) (Nat.le_of_ble_eq_true rfl) (Nat.le_of_ble_eq_true rfl) ?_
            rintro x23 _ ⟨rfl, h24, h25, h26⟩
            refine vc_istore_n dX9_spendsDay_69 (by decide) rfl (show _ = [some (aR 34), some (aI s), some (aI n), some (aI x23), none] from rfl) ?_
            refine vc_iconst dX9_spendsDay_70 rfl ?_
            refine vc_istore dX9_spendsDay_71 (by decide) rfl (show _ = [some (aR 34), some (aI s), some (aI n), some (aI x23), some (aI 0)] from rfl) ?_
            have lp73 : ∀ (n73 : Nat) (Mq73 : Mem) (v3 : Int) (v4 : Int), (BF fC M Mq73) → (0 ≤ v3) → (v3 ≤ 30180) → (0 ≤ v4) → (dyS n.toNat x23 (cS M18) = dyS (n - v4).toNat v3 (cS Mq73)) → (wfL (cS Mq73)) → (n - v4).toNat < n73 → VC l mdX9_spendsDay 73 [some (aR 34), none, some (aI n), some (aI v3), some (aI v4)] [] Mq73 0 0 (fun q N => ∃ r : Int, q = some (aI r) ∧ BF fC M N ∧ DayS s n (cS M) (cS N) r) := by
              intro n73
              induction n73 with
              | zero => intro Mq73 v3 v4 hQ73 g73_3a g73_3b g73_4a g73i0 g73i1 hm73; exact absurd hm73 (Nat.not_lt_zero _)
              | succ n73 ih73 =>
                intro Mq73 v3 v4 hQ73 g73_3a g73_3b g73_4a g73i0 g73i1 hm73
                refine vc_iload dX9_spendsDay_73 rfl ?_
                refine vc_iload_n dX9_spendsDay_75 rfl ?_
                refine vc_icmp_ge dX9_spendsDay_76 (fun h27 => ?_) (fun h27 => ?_)
                · refine vc_aload_n dX9_spendsDay_97 rfl ?_
                  refine vc_getR dX9_spendsDay_98 flX9_15 (s_34 hQ73.1.1) rfl (r_34_1 hQ73.1.1) ?_
                  refine vc_getR dX9_spendsDay_101 flX9_27 (s_15 hQ73.1.1) rfl (r_15_0 hQ73.1.1) ?_
                  refine vc_iconst dX9_spendsDay_104 rfl ?_
                  refine vc_iload_n dX9_spendsDay_105 rfl ?_
                  refine vc_iastore dX9_spendsDay_106 (s_16 hQ73.1.1) (by omega) (by omega) ?_
                  refine vc_mem (sI Mq73 16 3 v3) rfl ?_
                  have hB28 : BF fC M (sI Mq73 16 3 v3) := BF.w16 hQ73 (fun _ => rfl) _
                  refine vc_aload_n dX9_spendsDay_107 rfl ?_
                  refine vc_getR dX9_spendsDay_108 flX9_15 (s_34 hB28.1.1) rfl (r_34_1 hB28.1.1) ?_
                  refine vc_getR dX9_spendsDay_111 flX9_27 (s_15 hB28.1.1) rfl (r_15_0 hB28.1.1) ?_
                  refine vc_iconst dX9_spendsDay_114 rfl ?_
                  refine vc_iaload dX9_spendsDay_115 (s_16 hB28.1.1) (by omega) (by omega) ?_
                  refine vc_topI (mI Mq73 16 2) rfl ?_
                  refine vc_iret dX9_spendsDay_116 rfl (Nat.le_of_ble_eq_true rfl) (Nat.le_of_ble_eq_true rfl) ?_
                  have hfin : cS (sI Mq73 16 3 v3) = dyS 0 v3 (cS Mq73) := by rw [cS_w rfl]; rfl
                  refine ⟨_, rfl, hB28, Or.inl ⟨by omega, ?_, rfl⟩⟩
                  rw [hfin, ← show (n - v4).toNat = 0 by omega, ← g73i0, hc0]
                  rw [hk6, h26, ex15]; rfl
                · refine vc_aload_n dX9_spendsDay_79 rfl ?_
                  refine vc_iload_n dX9_spendsDay_80 rfl ?_
                  refine vc_iconst dX9_spendsDay_81 rfl ?_
                  refine vc_iremE dX9_spendsDay_82 (by omega) (by omega) ?_
                  refine vc_cVU dX9_spendsDay_83 (sfX9_drawnF (M := Mq73) hQ73.1  (v3 % 4) (by exact g73i1)) rfl okX9_drawn viX9_drawn lkX9_120 (s_34 hQ73.1.1) cl_9 rfl (Nat.le_of_ble_eq_true rfl) ⟨rfl, rfl⟩ (Nat.le_of_ble_eq_true rfl) (Nat.le_of_ble_eq_true rfl) (Nat.le_of_ble_eq_true rfl) ?_
                  rintro M29 ⟨hB30, h31⟩
                  have hB32 : BF fC M M29 := BF.go hQ73 hB30
                  have hc33 : cS M29 = drS (v3 % 4) (cS Mq73) := h31
                  refine vc_iload_n dX9_spendsDay_86 rfl ?_
                  refine vc_cSI dX9_spendsDay_87 (sfX9_anewF (M := M29) hB32.1  v3 (by omega) (by omega)) rfl okX9_anew stX9_anew lkX9_117 rfl (Nat.le_of_ble_eq_true rfl) ⟨rfl, rfl⟩ (Nat.le_of_ble_eq_true rfl) (Nat.le_of_ble_eq_true rfl) (Nat.le_of_ble_eq_true rfl) ?_
                  rintro x34 _ ⟨rfl, h35, h36, h37⟩
                  refine vc_istore_n dX9_spendsDay_90 (by decide) rfl (show _ = [some (aR 34), none, some (aI n), some (aI x34), some (aI v4)] from rfl) ?_
                  refine vc_iincE dX9_spendsDay_91 rfl (by omega) (by omega) (by decide) rfl (show _ = [some (aR 34), none, some (aI n), some (aI x34), some (aI (v4 + 1))] from rfl) ?_
                  refine vc_goto dX9_spendsDay_94 ?_
                  exact ih73 M29 x34 (v4 + 1) hB32 (by omega) (by omega) (by omega) (by first | (rw [Int.sub_zero]; done) | (subst_vars; rw [Int.sub_zero]; done) | (rw [g73i0, show (n - v4).toNat = (n - (v4 + 1)).toNat + 1 by omega, hc33]; show dyS _ (nwX v3) _ = _; congr 1; first | omega | (symm; assumption) | assumption)) (by first | (rw [hc0]; exact p0.lk (Lk.kp.trans (Lk.pl.trans Lk.sc))) | (rw [hc33]; exact g73i1.lk Lk.dr)) (by omega)
            refine vc_less [some (aR 34), none, some (aI n), some (aI x23), some (aI 0)] (lessL_keep (lessL_drop (lessL_keep (lessL_keep (lessL_keep (lessL_nil)))))) ?_
            exact lp73 _ M18 x23 0 hB21 (by omega) (by omega) (by omega) (by first | (rw [Int.sub_zero]; done) | (subst_vars; rw [Int.sub_zero]; done) | (rw [g73i0, show (n - v4).toNat = (n - (v4 + 1)).toNat + 1 by omega, hc33]; show dyS _ (nwX v3) _ = _; congr 1; first | omega | (symm; assumption) | assumption)) (by first | (rw [hc0]; exact p0.lk (Lk.kp.trans (Lk.pl.trans Lk.sc))) | (rw [hc33]; exact g73i1.lk Lk.dr)) (Nat.lt_succ_self _)
          · refine vc_iconst dX9_spendsDay_32 rfl ?_
            refine vc_iret dX9_spendsDay_33 rfl (Nat.le_of_ble_eq_true rfl) (Nat.le_of_ble_eq_true rfl) ?_
            exact ⟨_, rfl, hB0, Or.inr ⟨by omega, rfl, rfl⟩⟩

set_option maxRecDepth 4000 in
theorem sfX9_doesF {l : Launch} {M : Mem} (hB : Box M) (mm : Nat) (rw : Nat) (f : Int) (p0 : 0 ≤ f) (p1 : f ≤ 120) (p2 : 75 ≤ rw) (p3 : M.1[rw]? = some (.inr (0, mm))) (p4 : mm ≤ 300) (p5 : f + 5 ≤ mm) (p6 : wfA (cS M)) (p7 : wfL (cS M)) : Call l mdX9_does [aR 34, aR rw, aI f] M (fun q N => ∃ r : Int, q = some (aI r) ∧ BF fC M N ∧ 0 ≤ r ∧ r ≤ 1 ∧ DoS (mI M rw f.toNat) (mI M rw (f + 1).toNat) (mI M rw (f + 2).toNat) (mI M rw (f + 3).toNat) (mI M rw (f + 4).toNat) (cS M) (cS N) r) := by
  have hB0 : BF fC M M := BF.start hB
  refine Call.of [some (aR 34), some (aR rw), some (aI f), none, none, none, none] rfl (Nat.le_of_ble_eq_true rfl) rfl ?_
  refine vc_iload_n dX9_does_0 rfl ?_
  refine vc_if_lt dX9_does_1 (fun h1 => by exfalso; omega) (fun h1 => ?_)
  refine vc_iload_n dX9_does_4 rfl ?_
  refine vc_iconst dX9_does_5 rfl ?_
  refine vc_iaddE dX9_does_6 (by omega) (by omega) ?_
  refine vc_aload_n dX9_does_7 rfl ?_
  refine vc_alen dX9_does_8 (hB0.2.sh p2 p3) (by simp only [Bool.and_eq_true, decide_eq_true_eq]; omega) ?_
  refine vc_icmp_le dX9_does_9 (fun h2 => ?_) (fun h2 => ?_)
  · refine vc_aload_n dX9_does_14 rfl ?_
    refine vc_iload_n dX9_does_15 rfl ?_
    refine vc_iaload dX9_does_16 (hB0.2.sh p2 p3) (by omega) (by omega) ?_
    refine vc_nameI (fun x3 ex3 => ?_)
    refine vc_istore_n dX9_does_17 (by decide) rfl (show _ = [some (aR 34), some (aR rw), some (aI f), some (aI x3), none, none, none] from rfl) ?_
    refine vc_aload_n dX9_does_18 rfl ?_
    refine vc_iload_n dX9_does_19 rfl ?_
    refine vc_iconst dX9_does_20 rfl ?_
    refine vc_iaddE dX9_does_21 (by omega) (by omega) ?_
    refine vc_iaload dX9_does_22 (hB0.2.sh p2 p3) (by omega) (by omega) ?_
    refine vc_nameI (fun x4 ex4 => ?_)
    refine vc_istore dX9_does_23 (by decide) rfl (show _ = [some (aR 34), some (aR rw), some (aI f), some (aI x3), some (aI x4), none, none] from rfl) ?_
    refine vc_aload_n dX9_does_25 rfl ?_
    refine vc_iload_n dX9_does_26 rfl ?_
    refine vc_iconst dX9_does_27 rfl ?_
    refine vc_iaddE dX9_does_28 (by omega) (by omega) ?_
    refine vc_iaload dX9_does_29 (hB0.2.sh p2 p3) (by omega) (by omega) ?_
    refine vc_nameI (fun x5 ex5 => ?_)
    refine vc_istore dX9_does_30 (by decide) rfl (show _ = [some (aR 34), some (aR rw), some (aI f), some (aI x3), some (aI x4), some (aI x5), none] from rfl) ?_
    refine vc_aload_n dX9_does_32 rfl ?_
    refine vc_iload_n dX9_does_33 rfl ?_
    refine vc_iconst dX9_does_34 rfl ?_
    refine vc_iaddE dX9_does_35 (by omega) (by omega) ?_
    refine vc_iaload dX9_does_36 (hB0.2.sh p2 p3) (by omega) (by omega) ?_
    refine vc_nameI (fun x6 ex6 => ?_)
    refine vc_istore dX9_does_37 (by decide) rfl (show _ = [some (aR 34), some (aR rw), some (aI f), some (aI x3), some (aI x4), some (aI x5), some (aI x6)] from rfl) ?_
    refine vc_iload_n dX9_does_39 rfl ?_
    by_cases h7 : x3 = 5
    · refine vc_tabIn dX9_does_40 5 100 h7 rfl rfl rfl ?_
      refine vc_aload_n dX9_does_100 rfl ?_
      refine vc_getR dX9_does_101 flX9_9 (s_34 hB0.1.1) rfl (r_34_0 hB0.1.1) ?_
      refine vc_iload dX9_does_104 rfl ?_
      refine vc_cVI dX9_does_106 (sfX6_addCornerF (M := M) hB0.1  x4 ) rfl okX6_addCorner viX6_addCorner lkX9_141 (s_1 hB0.1.1) cl_6 rfl (Nat.le_of_ble_eq_true rfl) ⟨rfl, rfl⟩ (Nat.le_of_ble_eq_true rfl) (Nat.le_of_ble_eq_true rfl) (Nat.le_of_ble_eq_true rfl) ?_
      rintro x8 M9 ⟨hB10, h11⟩
      have hB12 : BF fC M M9 := BF.go hB0 hB10
      refine vc_iconst dX9_does_109 rfl ?_
      refine vc_icmp_eq dX9_does_110 (fun h13 => ?_) (fun h13 => ?_)
      · refine vc_iconst dX9_does_117 rfl ?_
        refine vc_zret dX9_does_118 rfl (by first | decide | omega) (Nat.le_of_ble_eq_true rfl) (Nat.le_of_ble_eq_true rfl) ?_
        refine ⟨_, rfl, hB12, by omega, by omega, ?_⟩
        rw [← ex3, ← ex4, ← ex5, ← ex6]
        exact Or.inl ⟨by omega, _, h11, by omega⟩
      · refine vc_iconst dX9_does_113 rfl ?_
        refine vc_goto dX9_does_114 ?_
        refine vc_zret dX9_does_118 rfl (by first | decide | omega) (Nat.le_of_ble_eq_true rfl) (Nat.le_of_ble_eq_true rfl) ?_
        refine ⟨_, rfl, hB12, by omega, by omega, ?_⟩
        rw [← ex3, ← ex4, ← ex5, ← ex6]
        exact Or.inl ⟨by omega, _, h11, by omega⟩
    by_cases h14 : x3 = 6
    · refine vc_tabIn dX9_does_40 6 119 h14 rfl rfl rfl ?_
      refine vc_aload_n dX9_does_119 rfl ?_
      refine vc_getR dX9_does_120 flX9_9 (s_34 hB0.1.1) rfl (r_34_0 hB0.1.1) ?_
      refine vc_iload dX9_does_123 rfl ?_
      refine vc_iload dX9_does_125 rfl ?_
      refine vc_iload dX9_does_127 rfl ?_
      refine vc_iconst dX9_does_129 rfl ?_
      refine vc_cVI dX9_does_130 (sfX6_addStreetF (M := M) hB0.1  x4 x5 x6 0 ) rfl okX6_addStreet viX6_addStreet lkX9_144 (s_1 hB0.1.1) cl_6 rfl (Nat.le_of_ble_eq_true rfl) ⟨rfl, rfl⟩ (Nat.le_of_ble_eq_true rfl) (Nat.le_of_ble_eq_true rfl) (Nat.le_of_ble_eq_true rfl) ?_
      rintro x15 M16 ⟨hB17, h18, h19, h20⟩
      have hB21 : BF fC M M16 := BF.go hB0 hB17
      refine vc_zret dX9_does_133 rfl (by first | decide | omega) (Nat.le_of_ble_eq_true rfl) (Nat.le_of_ble_eq_true rfl) ?_
      refine ⟨_, rfl, hB21, by omega, by omega, ?_⟩
      rw [← ex3, ← ex4, ← ex5, ← ex6]
      exact Or.inr (Or.inl ⟨by omega, h20⟩)
    by_cases h22 : x3 = 7
    · refine vc_tabIn dX9_does_40 7 134 h22 rfl rfl rfl ?_
      refine vc_aload_n dX9_does_134 rfl ?_
      refine vc_getR dX9_does_135 flX9_9 (s_34 hB0.1.1) rfl (r_34_0 hB0.1.1) ?_
      refine vc_iload dX9_does_138 rfl ?_
      refine vc_iload dX9_does_140 rfl ?_
      refine vc_iload dX9_does_142 rfl ?_
      refine vc_iconst dX9_does_144 rfl ?_
      refine vc_cVI dX9_does_145 (sfX6_addStreetF (M := M) hB0.1  x4 x5 x6 1 ) rfl okX6_addStreet viX6_addStreet lkX9_144 (s_1 hB0.1.1) cl_6 rfl (Nat.le_of_ble_eq_true rfl) ⟨rfl, rfl⟩ (Nat.le_of_ble_eq_true rfl) (Nat.le_of_ble_eq_true rfl) (Nat.le_of_ble_eq_true rfl) ?_
      rintro x23 M24 ⟨hB25, h26, h27, h28⟩
      have hB29 : BF fC M M24 := BF.go hB0 hB25
      refine vc_zret dX9_does_148 rfl (by first | decide | omega) (Nat.le_of_ble_eq_true rfl) (Nat.le_of_ble_eq_true rfl) ?_
      refine ⟨_, rfl, hB29, by omega, by omega, ?_⟩
      rw [← ex3, ← ex4, ← ex5, ← ex6]
      exact Or.inr (Or.inr (Or.inl ⟨by omega, h28⟩))
    by_cases h30 : x3 = 8
    · refine vc_tabIn dX9_does_40 8 149 h30 rfl rfl rfl ?_
      refine vc_aload_n dX9_does_149 rfl ?_
      refine vc_getR dX9_does_150 flX9_9 (s_34 hB0.1.1) rfl (r_34_0 hB0.1.1) ?_
      refine vc_iload dX9_does_153 rfl ?_
      refine vc_cVI dX9_does_155 (sfX6_setGoalF (M := M) hB0.1  x4 ) rfl okX6_setGoal viX6_setGoal lkX9_148 (s_1 hB0.1.1) cl_6 rfl (Nat.le_of_ble_eq_true rfl) ⟨rfl, rfl⟩ (Nat.le_of_ble_eq_true rfl) (Nat.le_of_ble_eq_true rfl) (Nat.le_of_ble_eq_true rfl) ?_
      rintro x31 M32 ⟨hB33, h34, h35, h36⟩
      have hB37 : BF fC M M32 := BF.go hB0 hB33
      refine vc_zret dX9_does_158 rfl (by first | decide | omega) (Nat.le_of_ble_eq_true rfl) (Nat.le_of_ble_eq_true rfl) ?_
      refine ⟨_, rfl, hB37, by omega, by omega, ?_⟩
      rw [← ex3, ← ex4, ← ex5, ← ex6]
      exact Or.inr (Or.inr (Or.inr (Or.inl ⟨by omega, h36⟩)))
    by_cases h38 : x3 = 9
    · refine vc_tabIn dX9_does_40 9 159 h38 rfl rfl rfl ?_
      refine vc_aload_n dX9_does_159 rfl ?_
      refine vc_getR dX9_does_160 flX9_9 (s_34 hB0.1.1) rfl (r_34_0 hB0.1.1) ?_
      refine vc_iload dX9_does_163 rfl ?_
      refine vc_iconst dX9_does_165 rfl ?_
      refine vc_iconst dX9_does_166 rfl ?_
      refine vc_iconst dX9_does_167 rfl ?_
      refine vc_cVI dX9_does_168 (sfX6_addTellerF (M := M) hB0.1  x4 0 0 0 ) rfl okX6_addTeller viX6_addTeller lkX9_151 (s_1 hB0.1.1) cl_6 rfl (Nat.le_of_ble_eq_true rfl) ⟨rfl, rfl⟩ (Nat.le_of_ble_eq_true rfl) (Nat.le_of_ble_eq_true rfl) (Nat.le_of_ble_eq_true rfl) ?_
      rintro x39 M40 ⟨hB41, h42⟩
      have hB43 : BF fC M M40 := BF.go hB0 hB41
      refine vc_iconst dX9_does_171 rfl ?_
      refine vc_icmp_eq dX9_does_172 (fun h44 => ?_) (fun h44 => ?_)
      · refine vc_iconst dX9_does_179 rfl ?_
        refine vc_zret dX9_does_180 rfl (by first | decide | omega) (Nat.le_of_ble_eq_true rfl) (Nat.le_of_ble_eq_true rfl) ?_
        refine ⟨_, rfl, hB43, by omega, by omega, ?_⟩
        rw [← ex3, ← ex4, ← ex5, ← ex6]
        exact Or.inr (Or.inr (Or.inr (Or.inr (Or.inl ⟨by omega, _, h42, by omega⟩))))
      · refine vc_iconst dX9_does_175 rfl ?_
        refine vc_goto dX9_does_176 ?_
        refine vc_zret dX9_does_180 rfl (by first | decide | omega) (Nat.le_of_ble_eq_true rfl) (Nat.le_of_ble_eq_true rfl) ?_
        refine ⟨_, rfl, hB43, by omega, by omega, ?_⟩
        rw [← ex3, ← ex4, ← ex5, ← ex6]
        exact Or.inr (Or.inr (Or.inr (Or.inr (Or.inl ⟨by omega, _, h42, by omega⟩))))
    by_cases h45 : x3 = 10
    · refine vc_tabIn dX9_does_40 10 181 h45 rfl rfl rfl ?_
      refine vc_aload_n dX9_does_181 rfl ?_
      refine vc_getR dX9_does_182 flX9_9 (s_34 hB0.1.1) rfl (r_34_0 hB0.1.1) ?_
      refine vc_iload dX9_does_185 rfl ?_
      refine vc_iload dX9_does_187 rfl ?_
      refine vc_iload dX9_does_189 rfl ?_
      refine vc_aload_n dX9_does_191 rfl ?_
      refine vc_iload_n dX9_does_192 rfl ?_
      refine vc_iconst dX9_does_193 rfl ?_
      refine vc_iaddE dX9_does_194 (by omega) (by omega) ?_
      refine vc_iaload dX9_does_195 (hB0.2.sh p2 p3) (by omega) (by omega) ?_
      refine vc_cVI dX9_does_196 (sfX6_addTellingF (M := M) hB0.1  x4 x5 x6 (mI M rw ((f + 4).toNat)) ) rfl okX6_addTelling viX6_addTelling lkX9_155 (s_1 hB0.1.1) cl_6 rfl (Nat.le_of_ble_eq_true rfl) ⟨rfl, rfl⟩ (Nat.le_of_ble_eq_true rfl) (Nat.le_of_ble_eq_true rfl) (Nat.le_of_ble_eq_true rfl) ?_
      rintro x46 M47 ⟨hB48, h49⟩
      have hB50 : BF fC M M47 := BF.go hB0 hB48
      refine vc_iconst dX9_does_199 rfl ?_
      refine vc_icmp_eq dX9_does_200 (fun h51 => ?_) (fun h51 => ?_)
      · refine vc_iconst dX9_does_207 rfl ?_
        refine vc_zret dX9_does_208 rfl (by first | decide | omega) (Nat.le_of_ble_eq_true rfl) (Nat.le_of_ble_eq_true rfl) ?_
        refine ⟨_, rfl, hB50, by omega, by omega, ?_⟩
        rw [← ex3, ← ex4, ← ex5, ← ex6]
        exact Or.inr (Or.inr (Or.inr (Or.inr (Or.inr (Or.inl ⟨by omega, _, h49, by omega⟩)))))
      · refine vc_iconst dX9_does_203 rfl ?_
        refine vc_goto dX9_does_204 ?_
        refine vc_zret dX9_does_208 rfl (by first | decide | omega) (Nat.le_of_ble_eq_true rfl) (Nat.le_of_ble_eq_true rfl) ?_
        refine ⟨_, rfl, hB50, by omega, by omega, ?_⟩
        rw [← ex3, ← ex4, ← ex5, ← ex6]
        exact Or.inr (Or.inr (Or.inr (Or.inr (Or.inr (Or.inl ⟨by omega, _, h49, by omega⟩)))))
    by_cases h52 : x3 = 11
    · refine vc_tabIn dX9_does_40 11 209 h52 rfl rfl rfl ?_
      refine vc_aload_n dX9_does_209 rfl ?_
      refine vc_iload dX9_does_210 rfl ?_
      refine vc_iload dX9_does_212 rfl ?_
      refine vc_cVI dX9_does_214 (sfX9_beginsF (M := M) hB0.1  x4 x5 ) rfl okX9_begins viX9_begins lkX9_158 (s_34 hB0.1.1) cl_9 rfl (Nat.le_of_ble_eq_true rfl) ⟨rfl, rfl⟩ (Nat.le_of_ble_eq_true rfl) (Nat.le_of_ble_eq_true rfl) (Nat.le_of_ble_eq_true rfl) ?_
      rintro x53 M54 ⟨hB55, h56, h57, h58⟩
      have hB59 : BF fC M M54 := BF.go hB0 hB55
      refine vc_zret dX9_does_217 rfl (by first | decide | omega) (Nat.le_of_ble_eq_true rfl) (Nat.le_of_ble_eq_true rfl) ?_
      refine ⟨_, rfl, hB59, by omega, by omega, ?_⟩
      rw [← ex3, ← ex4, ← ex5, ← ex6]
      exact Or.inr (Or.inr (Or.inr (Or.inr (Or.inr (Or.inr (Or.inl ⟨by omega, h58⟩))))))
    by_cases h60 : x3 = 12
    · refine vc_tabIn dX9_does_40 12 218 h60 rfl rfl rfl ?_
      refine vc_aload_n dX9_does_218 rfl ?_
      refine vc_iload dX9_does_219 rfl ?_
      refine vc_cVI dX9_does_221 (sfX9_goesF (M := M) hB0.1  x4 (by exact p7)) rfl okX9_goes viX9_goes lkX9_162 (s_34 hB0.1.1) cl_9 rfl (Nat.le_of_ble_eq_true rfl) ⟨rfl, rfl⟩ (Nat.le_of_ble_eq_true rfl) (Nat.le_of_ble_eq_true rfl) (Nat.le_of_ble_eq_true rfl) ?_
      rintro x61 M62 ⟨hB63, h64, h65, h66, h67⟩
      have hB68 : BF fC M M62 := BF.go hB0 hB63
      refine vc_zret dX9_does_224 rfl (by first | decide | omega) (Nat.le_of_ble_eq_true rfl) (Nat.le_of_ble_eq_true rfl) ?_
      refine ⟨_, rfl, hB68, by omega, by omega, ?_⟩
      rw [← ex3, ← ex4, ← ex5, ← ex6]
      exact Or.inr (Or.inr (Or.inr (Or.inr (Or.inr (Or.inr (Or.inr (Or.inl ⟨by omega, h66, h67⟩)))))))
    by_cases h69 : x3 = 13
    · refine vc_tabIn dX9_does_40 13 225 h69 rfl rfl rfl ?_
      refine vc_aload_n dX9_does_225 rfl ?_
      refine vc_iload dX9_does_226 rfl ?_
      refine vc_cVI dX9_does_228 (sfX9_turnsF (M := M) hB0.1  x4 ) rfl okX9_turns viX9_turns lkX9_165 (s_34 hB0.1.1) cl_9 rfl (Nat.le_of_ble_eq_true rfl) ⟨rfl, rfl⟩ (Nat.le_of_ble_eq_true rfl) (Nat.le_of_ble_eq_true rfl) (Nat.le_of_ble_eq_true rfl) ?_
      rintro x70 M71 ⟨hB72, h73⟩
      have hB74 : BF fC M M71 := BF.go hB0 hB72
      refine vc_iconst dX9_does_231 rfl ?_
      refine vc_icmp_eq dX9_does_232 (fun h75 => ?_) (fun h75 => ?_)
      · refine vc_iconst dX9_does_239 rfl ?_
        refine vc_zret dX9_does_240 rfl (by first | decide | omega) (Nat.le_of_ble_eq_true rfl) (Nat.le_of_ble_eq_true rfl) ?_
        refine ⟨_, rfl, hB74, by omega, by omega, ?_⟩
        rw [← ex3, ← ex4, ← ex5, ← ex6]
        exact Or.inr (Or.inr (Or.inr (Or.inr (Or.inr (Or.inr (Or.inr (Or.inr (Or.inl ⟨by omega, _, h73, by omega⟩))))))))
      · refine vc_iconst dX9_does_235 rfl ?_
        refine vc_goto dX9_does_236 ?_
        refine vc_zret dX9_does_240 rfl (by first | decide | omega) (Nat.le_of_ble_eq_true rfl) (Nat.le_of_ble_eq_true rfl) ?_
        refine ⟨_, rfl, hB74, by omega, by omega, ?_⟩
        rw [← ex3, ← ex4, ← ex5, ← ex6]
        exact Or.inr (Or.inr (Or.inr (Or.inr (Or.inr (Or.inr (Or.inr (Or.inr (Or.inl ⟨by omega, _, h73, by omega⟩))))))))
    by_cases h76 : x3 = 14
    · refine vc_tabIn dX9_does_40 14 241 h76 rfl rfl rfl ?_
      refine vc_aload_n dX9_does_241 rfl ?_
      refine vc_iload dX9_does_242 rfl ?_
      refine vc_cVI dX9_does_244 (sfX9_asksF (M := M) hB0.1  x4 (by exact p7)) rfl okX9_asks viX9_asks lkX9_168 (s_34 hB0.1.1) cl_9 rfl (Nat.le_of_ble_eq_true rfl) ⟨rfl, rfl⟩ (Nat.le_of_ble_eq_true rfl) (Nat.le_of_ble_eq_true rfl) (Nat.le_of_ble_eq_true rfl) ?_
      rintro x77 M78 ⟨hB79, h80⟩
      have hB81 : BF fC M M78 := BF.go hB0 hB79
      refine vc_iconst dX9_does_247 rfl ?_
      refine vc_icmp_eq dX9_does_248 (fun h82 => ?_) (fun h82 => ?_)
      · refine vc_iconst dX9_does_255 rfl ?_
        refine vc_zret dX9_does_256 rfl (by first | decide | omega) (Nat.le_of_ble_eq_true rfl) (Nat.le_of_ble_eq_true rfl) ?_
        refine ⟨_, rfl, hB81, by omega, by omega, ?_⟩
        rw [← ex3, ← ex4, ← ex5, ← ex6]
        exact Or.inr (Or.inr (Or.inr (Or.inr (Or.inr (Or.inr (Or.inr (Or.inr (Or.inr (Or.inl ⟨by omega, _, h80, by omega⟩)))))))))
      · refine vc_iconst dX9_does_251 rfl ?_
        refine vc_goto dX9_does_252 ?_
        refine vc_zret dX9_does_256 rfl (by first | decide | omega) (Nat.le_of_ble_eq_true rfl) (Nat.le_of_ble_eq_true rfl) ?_
        refine ⟨_, rfl, hB81, by omega, by omega, ?_⟩
        rw [← ex3, ← ex4, ← ex5, ← ex6]
        exact Or.inr (Or.inr (Or.inr (Or.inr (Or.inr (Or.inr (Or.inr (Or.inr (Or.inr (Or.inl ⟨by omega, _, h80, by omega⟩)))))))))
    by_cases h83 : x3 = 15
    · refine vc_tabIn dX9_does_40 15 257 h83 rfl rfl rfl ?_
      refine vc_aload_n dX9_does_257 rfl ?_
      refine vc_iload dX9_does_258 rfl ?_
      refine vc_cVI dX9_does_260 (sfX9_followsF (M := M) hB0.1  x4 (by exact p6) (by exact p7)) rfl okX9_follows viX9_follows lkX9_171 (s_34 hB0.1.1) cl_9 rfl (Nat.le_of_ble_eq_true rfl) ⟨rfl, rfl⟩ (Nat.le_of_ble_eq_true rfl) (Nat.le_of_ble_eq_true rfl) (Nat.le_of_ble_eq_true rfl) ?_
      rintro x84 M85 ⟨hB86, h87⟩
      have hB88 : BF fC M M85 := BF.go hB0 hB86
      refine vc_iconst dX9_does_263 rfl ?_
      refine vc_icmp_eq dX9_does_264 (fun h89 => ?_) (fun h89 => ?_)
      · refine vc_iconst dX9_does_271 rfl ?_
        refine vc_zret dX9_does_272 rfl (by first | decide | omega) (Nat.le_of_ble_eq_true rfl) (Nat.le_of_ble_eq_true rfl) ?_
        refine ⟨_, rfl, hB88, by omega, by omega, ?_⟩
        rw [← ex3, ← ex4, ← ex5, ← ex6]
        exact Or.inr (Or.inr (Or.inr (Or.inr (Or.inr (Or.inr (Or.inr (Or.inr (Or.inr (Or.inr (Or.inl ⟨by omega, _, h87, by omega⟩))))))))))
      · refine vc_iconst dX9_does_267 rfl ?_
        refine vc_goto dX9_does_268 ?_
        refine vc_zret dX9_does_272 rfl (by first | decide | omega) (Nat.le_of_ble_eq_true rfl) (Nat.le_of_ble_eq_true rfl) ?_
        refine ⟨_, rfl, hB88, by omega, by omega, ?_⟩
        rw [← ex3, ← ex4, ← ex5, ← ex6]
        exact Or.inr (Or.inr (Or.inr (Or.inr (Or.inr (Or.inr (Or.inr (Or.inr (Or.inr (Or.inr (Or.inl ⟨by omega, _, h87, by omega⟩))))))))))
    refine vc_tabOut dX9_does_40 273 (by omega) rfl ?_
    refine vc_iconst dX9_does_273 rfl ?_
    refine vc_zret dX9_does_274 rfl (by first | decide | omega) (Nat.le_of_ble_eq_true rfl) (Nat.le_of_ble_eq_true rfl) ?_
    refine ⟨_, rfl, hB0, by omega, by omega, ?_⟩
    rw [← ex3, ← ex4, ← ex5, ← ex6]
    exact Or.inr (Or.inr (Or.inr (Or.inr (Or.inr (Or.inr (Or.inr (Or.inr (Or.inr (Or.inr (Or.inr (⟨by omega, rfl, rfl⟩)))))))))))
  · refine vc_iconst dX9_does_12 rfl ?_
    refine vc_zret dX9_does_13 rfl (by first | decide | omega) (Nat.le_of_ble_eq_true rfl) (Nat.le_of_ble_eq_true rfl) ?_
    exfalso; omega

/-- what was played up to here, then the rest -/
def PlI (f : Nat → Int) (n : Nat) (S : Sw) (m : Nat) (i : Int) (S1 : Sw) : Prop := ∀ (S' : Sw) (r : Int), PlS f m i S1 S' r → PlS f n 0 S S' r
set_option maxRecDepth 4000 in
theorem sfX9_playsF {l : Launch} {M : Mem} (hB : Box M)  (y : Nat) (p0 : TxO M y) (p1 : wfA (cS M)) (p2 : ∀ z, mR M y 2 = some z → M.1[z]? = some (.inr (0, (5 * mI M y 3).toNat))) (p3 : wfL (cS M)) : Call l mdX9_plays [aR 34, aR y] M (fun q N => ∃ r : Int, q = some (aI r) ∧ BF fC M N ∧ (∀ z, mR M y 2 = some z → PlS (mI M z) (mI M y 3).toNat 0 (cS M) (cS N) r)) := by
  have hB0 : BF fC M M := BF.start hB
  refine Call.of [some (aR 34), some (aR y), none] rfl (Nat.le_of_ble_eq_true rfl) rfl ?_
  have t1 : TxO M y := p0
  obtain ⟨q7, q8, q21, ta2, tb3, tc4, tn5, tm6, q9, q10, q11, q12, q13, q14, q15, q16, q17, q18, q19, q20⟩ := id t1
  refine vc_iconst dX9_plays_0 rfl ?_
  refine vc_istore_n dX9_plays_1 (by decide) rfl (show _ = [some (aR 34), some (aR y), some (aI 0)] from rfl) ?_
  have lp2 : ∀ (n2 : Nat) (Mq2 : Mem) (v2 : Int), (BF fC M Mq2) → (0 ≤ v2) → (v2 ≤ 24) → (PlI (mI M tc4) (mI M y 3).toNat (cS M) (mI M y 3 - v2).toNat v2 (cS Mq2)) → (wfA (cS Mq2)) → (0 ≤ mI Mq2 1 9) → (wfL (cS Mq2)) → (24 - v2).toNat < n2 → VC l mdX9_plays 2 [some (aR 34), some (aR y), some (aI v2)] [] Mq2 0 0 (fun q N => ∃ r : Int, q = some (aI r) ∧ BF fC M N ∧ (∀ z, mR M y 2 = some z → PlS (mI M z) (mI M y 3).toNat 0 (cS M) (cS N) r)) := by
    intro n2
    induction n2 with
    | zero => intro Mq2 v2 hQ2 g2_2a g2_2b g2i0 g2i1 g2i2 g2i3 hm2; exact absurd hm2 (Nat.not_lt_zero _)
    | succ n2 ih2 =>
      intro Mq2 v2 hQ2 g2_2a g2_2b g2i0 g2i1 g2i2 g2i3 hm2
      refine vc_iload_n dX9_plays_2 rfl ?_
      refine vc_aload_n dX9_plays_3 rfl ?_
      refine vc_getI dX9_plays_4 flX9_129 (hQ2.2.sh q7 q8) rfl ?_
      have k22 : 0 ≤ mI Mq2 y 3 ∧ mI Mq2 y 3 ≤ 24 := by rw [hQ2.2.vl q7 q8]; exact q21
      refine vc_icmp_ge dX9_plays_7 (fun h23 => ?_) (fun h23 => ?_)
      · refine vc_iconst dX9_plays_32 rfl ?_
        refine vc_iret dX9_plays_33 rfl (Nat.le_of_ble_eq_true rfl) (Nat.le_of_ble_eq_true rfl) ?_
        exact ⟨_, rfl, hQ2, fun z hz => by have e9 : tc4 = z := Option.some.inj (q11.symm.trans hz); subst e9; exact g2i0 _ _ (by rw [show (mI M y 3 - v2).toNat = 0 by have hcl : mI Mq2 y 3 = mI M y 3 := hQ2.2.vl q7 q8; omega]; exact ⟨rfl, rfl⟩)⟩
      · refine vc_aload_n dX9_plays_10 rfl ?_
        refine vc_aload_n dX9_plays_11 rfl ?_
        refine vc_getR dX9_plays_12 flX9_134 (hQ2.2.sh q7 q8) rfl ((hQ2.2.rf q7 q8 2).trans q11) ?_
        refine vc_iconst dX9_plays_15 rfl ?_
        refine vc_iload_n dX9_plays_16 rfl ?_
        refine vc_imulE dX9_plays_17 (by omega) (by omega) ?_
        have hcl : mI Mq2 y 3 = mI M y 3 := hQ2.2.vl q7 q8
        have hmm : tm6 = (5 * mI M y 3).toNat := by have z1 := p2 tc4 q11; rw [q17] at z1; exact congrArg (fun q : Sh => match q with | .inr (_, k) => k | .inl _ => 0) (Option.some.inj z1)
        refine vc_cVI dX9_plays_18 (sfX9_doesF (M := Mq2) hQ2.1  tm6 tc4 (5 * v2) (by omega) (by omega) q14 (hQ2.2.sh q14 q17) (by omega) (by omega) (by exact g2i1) (by exact g2i3)) rfl okX9_does viX9_does lkX9_137 (s_34 hQ2.1.1) cl_9 rfl (Nat.le_of_ble_eq_true rfl) ⟨rfl, rfl⟩ (Nat.le_of_ble_eq_true rfl) (Nat.le_of_ble_eq_true rfl) (Nat.le_of_ble_eq_true rfl) ?_
        rintro x24 M25 ⟨hB26, h27, h28, h29⟩
        have hB30 : BF fC M M25 := BF.go hQ2 hB26
        have hvl : ∀ j, mI Mq2 tc4 j = mI M tc4 j := fun j => hQ2.2.vl q14 q17
        have hdo := h29
        rw [hvl, hvl, hvl, hvl, hvl] at hdo
        have hwn : wfA (cS M25) := DoS.wf (S := cS Mq2) (show 0 ≤ cS Mq2 1 9 from g2i2) g2i1 hdo
        have hwl : wfL (cS M25) := g2i3.lk (DoS.lk (S := cS Mq2) (show 0 ≤ cS Mq2 1 9 from g2i2) hdo)
        refine vc_if_ne dX9_plays_21 (fun h31 => ?_) (fun h31 => ?_)
        · have hpn : PlI (mI M tc4) (mI M y 3).toNat (cS M) (mI M y 3 - (v2 + 1)).toNat (v2 + 1) (cS M25) := fun S9 r9 h9 => g2i0 S9 r9 (by rw [show (mI M y 3 - v2).toNat = (mI M y 3 - (v2 + 1)).toNat + 1 by omega]; exact ⟨_, _, hdo, Or.inr ⟨by omega, h9⟩⟩)
          refine vc_iincE dX9_plays_26 rfl (by omega) (by omega) (by decide) rfl (show _ = [some (aR 34), some (aR y), some (aI (v2 + 1))] from rfl) ?_
          refine vc_goto dX9_plays_29 ?_
          exact ih2 M25 (v2 + 1) hB30 (by omega) (by omega) (by first | (rw [Int.sub_zero]; intro S9 r9 h9; exact h9) | exact hpn) (by first | exact p1 | exact hwn) (by first | exact (b1_9 hB).1 | exact (b1_9 hB30.1).1) (by first | exact p3 | exact hwl) (by omega)
        · refine vc_iload_n dX9_plays_24 rfl ?_
          refine vc_iret dX9_plays_25 rfl (Nat.le_of_ble_eq_true rfl) (Nat.le_of_ble_eq_true rfl) ?_
          exact ⟨_, rfl, hB30, fun z hz => by have e9 : tc4 = z := Option.some.inj (q11.symm.trans hz); subst e9; exact g2i0 _ _ (by rw [show (mI M y 3 - v2).toNat = (mI M y 3 - v2 - 1).toNat + 1 by omega]; exact ⟨_, _, hdo, Or.inl ⟨by omega, rfl, rfl⟩⟩)⟩
  exact lp2 _ M 0 hB0 (by omega) (by omega) (by first | (rw [Int.sub_zero]; intro S9 r9 h9; exact h9) | exact hpn) (by first | exact p1 | exact hwn) (by first | exact (b1_9 hB).1 | exact (b1_9 hB30.1).1) (by first | exact p3 | exact hwl) (Nat.lt_succ_self _)

