/-! THE DEEDS of the class: what they do to town and walk (written by wip/laws2/c10a.py) -/
set_option maxRecDepth 4000 in
theorem sfX11_isDirectionF {l : Launch} {M : Mem} (hB : Box M)  (d : Int)  : Call l mdX11_isDirection [aI d] M (fun q N => ∃ r : Int, q = some (aI r) ∧ M = N ∧ 0 ≤ r ∧ r ≤ 1 ∧ ((r = 1 ∧ 0 ≤ d ∧ d ≤ 3) ∨ (r = 0 ∧ ¬ (0 ≤ d ∧ d ≤ 3)))) := by
  have hB0 : BF fQ M M := BF.start hB
  refine Call.of [some (aI d)] rfl (Nat.le_of_ble_eq_true rfl) rfl ?_
  refine vc_ok (fun hoM hoS hoL => ?_)
  have hr0 : -2147483648 ≤ d ∧ d < 2147483648 := hoL 0 _ rfl
  refine vc_iload_n dX11_isDirection_0 rfl ?_
  refine vc_if_lt dX11_isDirection_1 (fun h1 => ?_) (fun h1 => ?_)
  · refine vc_iconst dX11_isDirection_13 rfl ?_
    refine vc_zret dX11_isDirection_14 rfl (by first | decide | omega) (Nat.le_of_ble_eq_true rfl) (Nat.le_of_ble_eq_true rfl) ?_
    exact ⟨_, rfl, rfl, by omega, by omega, by omega⟩
  · refine vc_iload_n dX11_isDirection_4 rfl ?_
    refine vc_iconst dX11_isDirection_5 rfl ?_
    refine vc_icmp_ge dX11_isDirection_6 (fun h2 => ?_) (fun h2 => ?_)
    · refine vc_iconst dX11_isDirection_13 rfl ?_
      refine vc_zret dX11_isDirection_14 rfl (by first | decide | omega) (Nat.le_of_ble_eq_true rfl) (Nat.le_of_ble_eq_true rfl) ?_
      exact ⟨_, rfl, rfl, by omega, by omega, by omega⟩
    · refine vc_iconst dX11_isDirection_9 rfl ?_
      refine vc_goto dX11_isDirection_10 ?_
      refine vc_zret dX11_isDirection_14 rfl (by first | decide | omega) (Nat.le_of_ble_eq_true rfl) (Nat.le_of_ble_eq_true rfl) ?_
      exact ⟨_, rfl, rfl, by omega, by omega, by omega⟩

set_option maxRecDepth 4000 in
theorem sfX11_isSlipF {l : Launch} {M : Mem} (hB : Box M)  (d : Int)  : Call l mdX11_isSlip [aI d] M (fun q N => ∃ r : Int, q = some (aI r) ∧ M = N ∧ 0 ≤ r ∧ r ≤ 1 ∧ ((r = 1 ∧ 0 ≤ d ∧ d ≤ 10) ∨ (r = 0 ∧ ¬ (0 ≤ d ∧ d ≤ 10)))) := by
  have hB0 : BF fQ M M := BF.start hB
  refine Call.of [some (aI d)] rfl (Nat.le_of_ble_eq_true rfl) rfl ?_
  refine vc_ok (fun hoM hoS hoL => ?_)
  have hr0 : -2147483648 ≤ d ∧ d < 2147483648 := hoL 0 _ rfl
  refine vc_iload_n dX11_isSlip_0 rfl ?_
  refine vc_if_lt dX11_isSlip_1 (fun h1 => ?_) (fun h1 => ?_)
  · refine vc_iconst dX11_isSlip_14 rfl ?_
    refine vc_zret dX11_isSlip_15 rfl (by first | decide | omega) (Nat.le_of_ble_eq_true rfl) (Nat.le_of_ble_eq_true rfl) ?_
    exact ⟨_, rfl, rfl, by omega, by omega, by omega⟩
  · refine vc_iload_n dX11_isSlip_4 rfl ?_
    refine vc_bipush dX11_isSlip_5 rfl ?_
    refine vc_icmp_gt dX11_isSlip_7 (fun h2 => ?_) (fun h2 => ?_)
    · refine vc_iconst dX11_isSlip_14 rfl ?_
      refine vc_zret dX11_isSlip_15 rfl (by first | decide | omega) (Nat.le_of_ble_eq_true rfl) (Nat.le_of_ble_eq_true rfl) ?_
      exact ⟨_, rfl, rfl, by omega, by omega, by omega⟩
    · refine vc_iconst dX11_isSlip_10 rfl ?_
      refine vc_goto dX11_isSlip_11 ?_
      refine vc_zret dX11_isSlip_15 rfl (by first | decide | omega) (Nat.le_of_ble_eq_true rfl) (Nat.le_of_ble_eq_true rfl) ?_
      exact ⟨_, rfl, rfl, by omega, by omega, by omega⟩

set_option maxRecDepth 4000 in
theorem sfX1_sideOfF {l : Launch} {M : Mem} (hB : Box M)  (fa : Int) (wh : Int)  : Call l mdX1_sideOf [aI fa, aI wh] M (fun q N => ∃ r : Int, q = some (aI r) ∧ M = N ∧ r = sdS fa wh) := by
  have hB0 : BF fQ M M := BF.start hB
  refine Call.of [some (aI fa), some (aI wh)] rfl (Nat.le_of_ble_eq_true rfl) rfl ?_
  refine vc_ok (fun hoM hoS hoL => ?_)
  have hr0 : -2147483648 ≤ fa ∧ fa < 2147483648 := hoL 0 _ rfl
  have hr1 : -2147483648 ≤ wh ∧ wh < 2147483648 := hoL 1 _ rfl
  refine vc_iload_n dX1_sideOf_0 rfl ?_
  refine vc_iconst dX1_sideOf_1 rfl ?_
  refine vc_icmp_ne dX1_sideOf_2 (fun h1 => ?_) (fun h1 => ?_)
  · refine vc_iload_n dX1_sideOf_13 rfl ?_
    refine vc_iconst dX1_sideOf_14 rfl ?_
    refine vc_icmp_ne dX1_sideOf_15 (fun h2 => ?_) (fun h2 => ?_)
    · refine vc_iload_n dX1_sideOf_26 rfl ?_
      refine vc_iret dX1_sideOf_27 rfl (Nat.le_of_ble_eq_true rfl) (Nat.le_of_ble_eq_true rfl) ?_
      exact ⟨_, rfl, rfl, by unfold sdS; first | (rw [if_pos (by omega)]) | (rw [if_neg (by omega), if_pos (by omega)]) | (rw [if_neg (by omega), if_neg (by omega)])⟩
    · refine vc_iload_n dX1_sideOf_18 rfl ?_
      refine vc_iconst dX1_sideOf_19 rfl ?_
      refine vc_iadd dX1_sideOf_20 ?_
      refine vc_iconst dX1_sideOf_21 rfl ?_
      refine vc_iandW dX1_sideOf_22 4 2 rfl (by decide) rfl ?_
      refine vc_goto dX1_sideOf_23 ?_
      refine vc_iret dX1_sideOf_27 rfl (Nat.le_of_ble_eq_true rfl) (Nat.le_of_ble_eq_true rfl) ?_
      exact ⟨_, rfl, rfl, by unfold sdS; first | (rw [if_pos (by omega)]) | (rw [if_neg (by omega), if_pos (by omega)]) | (rw [if_neg (by omega), if_neg (by omega)])⟩
  · refine vc_iload_n dX1_sideOf_5 rfl ?_
    refine vc_iconst dX1_sideOf_6 rfl ?_
    refine vc_iadd dX1_sideOf_7 ?_
    refine vc_iconst dX1_sideOf_8 rfl ?_
    refine vc_iandW dX1_sideOf_9 4 2 rfl (by decide) rfl ?_
    refine vc_goto dX1_sideOf_10 ?_
    refine vc_iret dX1_sideOf_27 rfl (Nat.le_of_ble_eq_true rfl) (Nat.le_of_ble_eq_true rfl) ?_
    exact ⟨_, rfl, rfl, by unfold sdS; first | (rw [if_pos (by omega)]) | (rw [if_neg (by omega), if_pos (by omega)]) | (rw [if_neg (by omega), if_neg (by omega)])⟩

set_option maxRecDepth 4000 in
theorem sfX6_hasCornerF {l : Launch} {M : Mem} (hB : Box M)  (c : Int)  : Call l mdX6_hasCorner [aR 1, aI c] M (fun q N => ∃ r : Int, q = some (aI r) ∧ M = N ∧ 0 ≤ r ∧ r ≤ 1 ∧ ((r = 1 ∧ 0 ≤ c ∧ c < mI M 1 6) ∨ (r = 0 ∧ ¬ (0 ≤ c ∧ c < mI M 1 6))) ∧ (r = 0 ∨ c ≤ 15)) := by
  have hB0 : BF fQ M M := BF.start hB
  refine Call.of [some (aR 1), some (aI c)] rfl (Nat.le_of_ble_eq_true rfl) rfl ?_
  refine vc_ok (fun hoM hoS hoL => ?_)
  have hr1 : -2147483648 ≤ c ∧ c < 2147483648 := hoL 1 _ rfl
  refine vc_iload_n dX6_hasCorner_0 rfl ?_
  refine vc_if_lt dX6_hasCorner_1 (fun h1 => ?_) (fun h1 => ?_)
  · refine vc_iconst dX6_hasCorner_16 rfl ?_
    refine vc_zret dX6_hasCorner_17 rfl (by first | decide | omega) (Nat.le_of_ble_eq_true rfl) (Nat.le_of_ble_eq_true rfl) ?_
    exact ⟨_, rfl, rfl, by omega, by omega, by omega, by omega⟩
  · refine vc_iload_n dX6_hasCorner_4 rfl ?_
    refine vc_aload_n dX6_hasCorner_5 rfl ?_
    refine vc_getI dX6_hasCorner_6 flX6_52 (s_1 hB0.1.1) rfl ?_
    have k2 : 0 ≤ mI M 1 6 ∧ mI M 1 6 ≤ 16 := b1_6 (M := M) hB0.1
    refine vc_icmp_ge dX6_hasCorner_9 (fun h3 => ?_) (fun h3 => ?_)
    · refine vc_iconst dX6_hasCorner_16 rfl ?_
      refine vc_zret dX6_hasCorner_17 rfl (by first | decide | omega) (Nat.le_of_ble_eq_true rfl) (Nat.le_of_ble_eq_true rfl) ?_
      exact ⟨_, rfl, rfl, by omega, by omega, by omega, by omega⟩
    · refine vc_iconst dX6_hasCorner_12 rfl ?_
      refine vc_goto dX6_hasCorner_13 ?_
      refine vc_zret dX6_hasCorner_17 rfl (by first | decide | omega) (Nat.le_of_ble_eq_true rfl) (Nat.le_of_ble_eq_true rfl) ?_
      exact ⟨_, rfl, rfl, by omega, by omega, by omega, by omega⟩

set_option maxRecDepth 4000 in
theorem sfX6_hasTellerF {l : Launch} {M : Mem} (hB : Box M)  (c : Int)  : Call l mdX6_hasTeller [aR 1, aI c] M (fun q N => ∃ r : Int, q = some (aI r) ∧ M = N ∧ 0 ≤ r ∧ r ≤ 1 ∧ ((r = 1 ∧ 0 ≤ c ∧ c < mI M 1 8) ∨ (r = 0 ∧ ¬ (0 ≤ c ∧ c < mI M 1 8))) ∧ (r = 0 ∨ c ≤ 5)) := by
  have hB0 : BF fQ M M := BF.start hB
  refine Call.of [some (aR 1), some (aI c)] rfl (Nat.le_of_ble_eq_true rfl) rfl ?_
  refine vc_ok (fun hoM hoS hoL => ?_)
  have hr1 : -2147483648 ≤ c ∧ c < 2147483648 := hoL 1 _ rfl
  refine vc_iload_n dX6_hasTeller_0 rfl ?_
  refine vc_if_lt dX6_hasTeller_1 (fun h1 => ?_) (fun h1 => ?_)
  · refine vc_iconst dX6_hasTeller_16 rfl ?_
    refine vc_zret dX6_hasTeller_17 rfl (by first | decide | omega) (Nat.le_of_ble_eq_true rfl) (Nat.le_of_ble_eq_true rfl) ?_
    exact ⟨_, rfl, rfl, by omega, by omega, by omega, by omega⟩
  · refine vc_iload_n dX6_hasTeller_4 rfl ?_
    refine vc_aload_n dX6_hasTeller_5 rfl ?_
    refine vc_getI dX6_hasTeller_6 flX6_55 (s_1 hB0.1.1) rfl ?_
    have k2 : 0 ≤ mI M 1 8 ∧ mI M 1 8 ≤ 6 := b1_8 (M := M) hB0.1
    refine vc_icmp_ge dX6_hasTeller_9 (fun h3 => ?_) (fun h3 => ?_)
    · refine vc_iconst dX6_hasTeller_16 rfl ?_
      refine vc_zret dX6_hasTeller_17 rfl (by first | decide | omega) (Nat.le_of_ble_eq_true rfl) (Nat.le_of_ble_eq_true rfl) ?_
      exact ⟨_, rfl, rfl, by omega, by omega, by omega, by omega⟩
    · refine vc_iconst dX6_hasTeller_12 rfl ?_
      refine vc_goto dX6_hasTeller_13 ?_
      refine vc_zret dX6_hasTeller_17 rfl (by first | decide | omega) (Nat.le_of_ble_eq_true rfl) (Nat.le_of_ble_eq_true rfl) ?_
      exact ⟨_, rfl, rfl, by omega, by omega, by omega, by omega⟩

set_option maxRecDepth 4000 in
theorem sfX6_hasTellingF {l : Launch} {M : Mem} (hB : Box M)  (c : Int)  : Call l mdX6_hasTelling [aR 1, aI c] M (fun q N => ∃ r : Int, q = some (aI r) ∧ M = N ∧ 0 ≤ r ∧ r ≤ 1 ∧ ((r = 1 ∧ 0 ≤ c ∧ c < mI M 1 9) ∨ (r = 0 ∧ ¬ (0 ≤ c ∧ c < mI M 1 9))) ∧ (r = 0 ∨ c ≤ 7)) := by
  have hB0 : BF fQ M M := BF.start hB
  refine Call.of [some (aR 1), some (aI c)] rfl (Nat.le_of_ble_eq_true rfl) rfl ?_
  refine vc_ok (fun hoM hoS hoL => ?_)
  have hr1 : -2147483648 ≤ c ∧ c < 2147483648 := hoL 1 _ rfl
  refine vc_iload_n dX6_hasTelling_0 rfl ?_
  refine vc_if_lt dX6_hasTelling_1 (fun h1 => ?_) (fun h1 => ?_)
  · refine vc_iconst dX6_hasTelling_16 rfl ?_
    refine vc_zret dX6_hasTelling_17 rfl (by first | decide | omega) (Nat.le_of_ble_eq_true rfl) (Nat.le_of_ble_eq_true rfl) ?_
    exact ⟨_, rfl, rfl, by omega, by omega, by omega, by omega⟩
  · refine vc_iload_n dX6_hasTelling_4 rfl ?_
    refine vc_aload_n dX6_hasTelling_5 rfl ?_
    refine vc_getI dX6_hasTelling_6 flX6_58 (s_1 hB0.1.1) rfl ?_
    have k2 : 0 ≤ mI M 1 9 ∧ mI M 1 9 ≤ 8 := b1_9 (M := M) hB0.1
    refine vc_icmp_ge dX6_hasTelling_9 (fun h3 => ?_) (fun h3 => ?_)
    · refine vc_iconst dX6_hasTelling_16 rfl ?_
      refine vc_zret dX6_hasTelling_17 rfl (by first | decide | omega) (Nat.le_of_ble_eq_true rfl) (Nat.le_of_ble_eq_true rfl) ?_
      exact ⟨_, rfl, rfl, by omega, by omega, by omega, by omega⟩
    · refine vc_iconst dX6_hasTelling_12 rfl ?_
      refine vc_goto dX6_hasTelling_13 ?_
      refine vc_zret dX6_hasTelling_17 rfl (by first | decide | omega) (Nat.le_of_ble_eq_true rfl) (Nat.le_of_ble_eq_true rfl) ?_
      exact ⟨_, rfl, rfl, by omega, by omega, by omega, by omega⟩

set_option maxRecDepth 4000 in
theorem sfX6_sightOfF {l : Launch} {M : Mem} (hB : Box M)  (c : Int)  : Call l mdX6_sightOf [aR 1, aI c] M (fun q N => ∃ r : Int, q = some (aI r) ∧ M = N ∧ r = siS (cS M) c) := by
  have hB0 : BF fQ M M := BF.start hB
  refine Call.of [some (aR 1), some (aI c)] rfl (Nat.le_of_ble_eq_true rfl) rfl ?_
  refine vc_ok (fun hoM hoS hoL => ?_)
  have hr1 : -2147483648 ≤ c ∧ c < 2147483648 := hoL 1 _ rfl
  have e16 : cS M 1 6 = mI M 1 6 := rfl
  refine vc_iload_n dX6_sightOf_0 rfl ?_
  refine vc_if_lt dX6_sightOf_1 (fun h1 => ?_) (fun h1 => ?_)
  · refine vc_iconst dX6_sightOf_21 rfl ?_
    refine vc_iret dX6_sightOf_22 rfl (Nat.le_of_ble_eq_true rfl) (Nat.le_of_ble_eq_true rfl) ?_
    exact ⟨_, rfl, rfl, by unfold siS; first | (rw [if_pos (by omega)]; rfl) | (rw [if_neg (by omega)])⟩
  · refine vc_iload_n dX6_sightOf_4 rfl ?_
    refine vc_aload_n dX6_sightOf_5 rfl ?_
    refine vc_getI dX6_sightOf_6 flX6_52 (s_1 hB0.1.1) rfl ?_
    have k2 : 0 ≤ mI M 1 6 ∧ mI M 1 6 ≤ 16 := b1_6 (M := M) hB0.1
    refine vc_icmp_ge dX6_sightOf_9 (fun h3 => ?_) (fun h3 => ?_)
    · refine vc_iconst dX6_sightOf_21 rfl ?_
      refine vc_iret dX6_sightOf_22 rfl (Nat.le_of_ble_eq_true rfl) (Nat.le_of_ble_eq_true rfl) ?_
      exact ⟨_, rfl, rfl, by unfold siS; first | (rw [if_pos (by omega)]; rfl) | (rw [if_neg (by omega)])⟩
    · refine vc_aload_n dX6_sightOf_12 rfl ?_
      refine vc_getR dX6_sightOf_13 flX6_9 (s_1 hB0.1.1) rfl (r_1_0 hB0.1.1) ?_
      refine vc_iload_n dX6_sightOf_16 rfl ?_
      refine vc_iaload dX6_sightOf_17 (s_2 hB0.1.1) (by omega) (by omega) ?_
      refine vc_goto dX6_sightOf_18 ?_
      refine vc_iret dX6_sightOf_22 rfl (Nat.le_of_ble_eq_true rfl) (Nat.le_of_ble_eq_true rfl) ?_
      exact ⟨_, rfl, rfl, by unfold siS; first | (rw [if_pos (by omega)]; rfl) | (rw [if_neg (by omega)])⟩

set_option maxRecDepth 4000 in
theorem sfX6_aheadF {l : Launch} {M : Mem} (hB : Box M)  (c : Int) (d : Int)  : Call l mdX6_ahead [aR 1, aI c, aI d] M (fun q N => ∃ r : Int, q = some (aI r) ∧ M = N ∧ (-1) ≤ r ∧ r ≤ 15 ∧ r = ahS (cS M) c d) := by
  have hB0 : BF fQ M M := BF.start hB
  refine Call.of [some (aR 1), some (aI c), some (aI d)] rfl (Nat.le_of_ble_eq_true rfl) rfl ?_
  refine vc_ok (fun hoM hoS hoL => ?_)
  have hr1 : -2147483648 ≤ c ∧ c < 2147483648 := hoL 1 _ rfl
  have hr2 : -2147483648 ≤ d ∧ d < 2147483648 := hoL 2 _ rfl
  have e16 : cS M 1 6 = mI M 1 6 := rfl
  refine vc_iload_n dX6_ahead_0 rfl ?_
  refine vc_if_lt dX6_ahead_1 (fun h1 => ?_) (fun h1 => ?_)
  · refine vc_iconst dX6_ahead_27 rfl ?_
    refine vc_iret dX6_ahead_28 rfl (Nat.le_of_ble_eq_true rfl) (Nat.le_of_ble_eq_true rfl) ?_
    exact ⟨_, rfl, rfl, by omega, by omega, by unfold ahS; first | (rw [if_pos (by omega)]; rfl) | (rw [if_neg (by omega)])⟩
  · refine vc_iload_n dX6_ahead_4 rfl ?_
    refine vc_aload_n dX6_ahead_5 rfl ?_
    refine vc_getI dX6_ahead_6 flX6_52 (s_1 hB0.1.1) rfl ?_
    have k2 : 0 ≤ mI M 1 6 ∧ mI M 1 6 ≤ 16 := b1_6 (M := M) hB0.1
    refine vc_icmp_ge dX6_ahead_9 (fun h3 => ?_) (fun h3 => ?_)
    · refine vc_iconst dX6_ahead_27 rfl ?_
      refine vc_iret dX6_ahead_28 rfl (Nat.le_of_ble_eq_true rfl) (Nat.le_of_ble_eq_true rfl) ?_
      exact ⟨_, rfl, rfl, by omega, by omega, by unfold ahS; first | (rw [if_pos (by omega)]; rfl) | (rw [if_neg (by omega)])⟩
    · refine vc_aload_n dX6_ahead_12 rfl ?_
      refine vc_getR dX6_ahead_13 flX6_15 (s_1 hB0.1.1) rfl (r_1_1 hB0.1.1) ?_
      refine vc_iconst dX6_ahead_16 rfl ?_
      refine vc_iload_n dX6_ahead_17 rfl ?_
      refine vc_imulE dX6_ahead_18 (by omega) (by omega) ?_
      refine vc_iload_n dX6_ahead_19 rfl ?_
      refine vc_iconst dX6_ahead_20 rfl ?_
      refine vc_iandM dX6_ahead_21 4 2 rfl (by decide) rfl ?_
      refine vc_iaddE dX6_ahead_22 (by omega) (by omega) ?_
      refine vc_iaload dX6_ahead_23 (s_3 hB0.1.1) (by omega) (by omega) ?_
      have k4 : (-1) ≤ mI M 3 (((4 * c) + (d % 4)).toNat) ∧ mI M 3 (((4 * c) + (d % 4)).toNat) ≤ 15 := bA3 (M := M) hB0.1 _
      refine vc_goto dX6_ahead_24 ?_
      refine vc_iret dX6_ahead_28 rfl (Nat.le_of_ble_eq_true rfl) (Nat.le_of_ble_eq_true rfl) ?_
      exact ⟨_, rfl, rfl, by omega, by omega, by unfold ahS; first | (rw [if_pos (by omega)]; rfl) | (rw [if_neg (by omega)])⟩

set_option maxRecDepth 4000 in
theorem sfX6_countsF {l : Launch} {M : Mem} (hB : Box M)  (c : Int) (d : Int) (la : Int)  : Call l mdX6_counts [aR 1, aI c, aI d, aI la] M (fun q N => ∃ r : Int, q = some (aI r) ∧ M = N ∧ 0 ≤ r ∧ r ≤ 1 ∧ ((r = 1 ∧ cntS (cS M) c d la) ∨ (r = 0 ∧ ¬ cntS (cS M) c d la))) := by
  have hB0 : BF fQ M M := BF.start hB
  refine Call.of [some (aR 1), some (aI c), some (aI d), some (aI la), none] rfl (Nat.le_of_ble_eq_true rfl) rfl ?_
  refine vc_ok (fun hoM hoS hoL => ?_)
  have hr1 : -2147483648 ≤ c ∧ c < 2147483648 := hoL 1 _ rfl
  have hr2 : -2147483648 ≤ d ∧ d < 2147483648 := hoL 2 _ rfl
  have hr3 : -2147483648 ≤ la ∧ la < 2147483648 := hoL 3 _ rfl
  have e16 : cS M 1 6 = mI M 1 6 := rfl
  have e3 : cS M 3 (4 * c + d % 4).toNat = mI M 3 (4 * c + d % 4).toNat := rfl
  have e4 : cS M 4 (4 * c + d % 4).toNat = mI M 4 (4 * c + d % 4).toNat := rfl
  refine vc_iload_n dX6_counts_0 rfl ?_
  refine vc_if_lt dX6_counts_1 (fun h1 => ?_) (fun h1 => ?_)
  · refine vc_iconst dX6_counts_12 rfl ?_
    refine vc_zret dX6_counts_13 rfl (by first | decide | omega) (Nat.le_of_ble_eq_true rfl) (Nat.le_of_ble_eq_true rfl) ?_
    exact ⟨_, rfl, rfl, by omega, by omega, by first | (subst ex4; unfold cntS; omega) | (unfold cntS; omega)⟩
  · refine vc_iload_n dX6_counts_4 rfl ?_
    refine vc_aload_n dX6_counts_5 rfl ?_
    refine vc_getI dX6_counts_6 flX6_52 (s_1 hB0.1.1) rfl ?_
    have k2 : 0 ≤ mI M 1 6 ∧ mI M 1 6 ≤ 16 := b1_6 (M := M) hB0.1
    refine vc_icmp_lt dX6_counts_9 (fun h3 => ?_) (fun h3 => ?_)
    · refine vc_iconst dX6_counts_14 rfl ?_
      refine vc_iload_n dX6_counts_15 rfl ?_
      refine vc_imulE dX6_counts_16 (by omega) (by omega) ?_
      refine vc_iload_n dX6_counts_17 rfl ?_
      refine vc_iconst dX6_counts_18 rfl ?_
      refine vc_iandM dX6_counts_19 4 2 rfl (by decide) rfl ?_
      refine vc_iaddE dX6_counts_20 (by omega) (by omega) ?_
      refine vc_nameI (fun x4 ex4 => ?_)
      refine vc_istore dX6_counts_21 (by decide) rfl (show _ = [some (aR 1), some (aI c), some (aI d), some (aI la), some (aI x4)] from rfl) ?_
      refine vc_aload_n dX6_counts_23 rfl ?_
      refine vc_getR dX6_counts_24 flX6_15 (s_1 hB0.1.1) rfl (r_1_1 hB0.1.1) ?_
      refine vc_iload dX6_counts_27 rfl ?_
      refine vc_iaload dX6_counts_29 (s_3 hB0.1.1) (by omega) (by omega) ?_
      have k5 : (-1) ≤ mI M 3 x4.toNat ∧ mI M 3 x4.toNat ≤ 15 := bA3 (M := M) hB0.1 _
      refine vc_iconst dX6_counts_30 rfl ?_
      refine vc_icmp_eq dX6_counts_31 (fun h6 => ?_) (fun h6 => ?_)
      · refine vc_iconst dX6_counts_52 rfl ?_
        refine vc_zret dX6_counts_53 rfl (by first | decide | omega) (Nat.le_of_ble_eq_true rfl) (Nat.le_of_ble_eq_true rfl) ?_
        exact ⟨_, rfl, rfl, by omega, by omega, by first | (subst ex4; unfold cntS; omega) | (unfold cntS; omega)⟩
      · refine vc_iload_n dX6_counts_34 rfl ?_
        refine vc_if_ne dX6_counts_35 (fun h7 => ?_) (fun h7 => ?_)
        · refine vc_iconst dX6_counts_48 rfl ?_
          refine vc_goto dX6_counts_49 ?_
          refine vc_zret dX6_counts_53 rfl (by first | decide | omega) (Nat.le_of_ble_eq_true rfl) (Nat.le_of_ble_eq_true rfl) ?_
          exact ⟨_, rfl, rfl, by omega, by omega, by first | (subst ex4; unfold cntS; omega) | (unfold cntS; omega)⟩
        · refine vc_aload_n dX6_counts_38 rfl ?_
          refine vc_getR dX6_counts_39 flX6_18 (s_1 hB0.1.1) rfl (r_1_2 hB0.1.1) ?_
          refine vc_iload dX6_counts_42 rfl ?_
          refine vc_iaload dX6_counts_44 (s_4 hB0.1.1) (by omega) (by omega) ?_
          refine vc_if_ne dX6_counts_45 (fun h8 => ?_) (fun h8 => ?_)
          · refine vc_iconst dX6_counts_52 rfl ?_
            refine vc_zret dX6_counts_53 rfl (by first | decide | omega) (Nat.le_of_ble_eq_true rfl) (Nat.le_of_ble_eq_true rfl) ?_
            exact ⟨_, rfl, rfl, by omega, by omega, by first | (subst ex4; unfold cntS; omega) | (unfold cntS; omega)⟩
          · refine vc_iconst dX6_counts_48 rfl ?_
            refine vc_goto dX6_counts_49 ?_
            refine vc_zret dX6_counts_53 rfl (by first | decide | omega) (Nat.le_of_ble_eq_true rfl) (Nat.le_of_ble_eq_true rfl) ?_
            exact ⟨_, rfl, rfl, by omega, by omega, by first | (subst ex4; unfold cntS; omega) | (unfold cntS; omega)⟩
    · refine vc_iconst dX6_counts_12 rfl ?_
      refine vc_zret dX6_counts_13 rfl (by first | decide | omega) (Nat.le_of_ble_eq_true rfl) (Nat.le_of_ble_eq_true rfl) ?_
      exact ⟨_, rfl, rfl, by omega, by omega, by first | (subst ex4; unfold cntS; omega) | (unfold cntS; omega)⟩

set_option maxRecDepth 4000 in
theorem sfX6_tellerCellF {l : Launch} {M : Mem} (hB : Box M)  (t : Int) (c : Int)  : Call l mdX6_tellerCell [aR 1, aI t, aI c] M (fun q N => ∃ r : Int, q = some (aI r) ∧ M = N ∧ ((0 ≤ t ∧ t < mI M 1 8 ∧ 0 ≤ c ∧ c < 4 ∧ r = mI M 5 (4 * t + c).toNat) ∨ (¬ (0 ≤ t ∧ t < mI M 1 8 ∧ 0 ≤ c ∧ c < 4) ∧ r = -1))) := by
  have hB0 : BF fQ M M := BF.start hB
  refine Call.of [some (aR 1), some (aI t), some (aI c)] rfl (Nat.le_of_ble_eq_true rfl) rfl ?_
  refine vc_ok (fun hoM hoS hoL => ?_)
  have hr1 : -2147483648 ≤ t ∧ t < 2147483648 := hoL 1 _ rfl
  have hr2 : -2147483648 ≤ c ∧ c < 2147483648 := hoL 2 _ rfl
  refine vc_iload_n dX6_tellerCell_0 rfl ?_
  refine vc_if_lt dX6_tellerCell_1 (fun h1 => ?_) (fun h1 => ?_)
  · refine vc_iconst dX6_tellerCell_34 rfl ?_
    refine vc_iret dX6_tellerCell_35 rfl (Nat.le_of_ble_eq_true rfl) (Nat.le_of_ble_eq_true rfl) ?_
    exact ⟨_, rfl, rfl, by omega⟩
  · refine vc_iload_n dX6_tellerCell_4 rfl ?_
    refine vc_aload_n dX6_tellerCell_5 rfl ?_
    refine vc_getI dX6_tellerCell_6 flX6_55 (s_1 hB0.1.1) rfl ?_
    have k2 : 0 ≤ mI M 1 8 ∧ mI M 1 8 ≤ 6 := b1_8 (M := M) hB0.1
    refine vc_icmp_ge dX6_tellerCell_9 (fun h3 => ?_) (fun h3 => ?_)
    · refine vc_iconst dX6_tellerCell_34 rfl ?_
      refine vc_iret dX6_tellerCell_35 rfl (Nat.le_of_ble_eq_true rfl) (Nat.le_of_ble_eq_true rfl) ?_
      exact ⟨_, rfl, rfl, by omega⟩
    · refine vc_iload_n dX6_tellerCell_12 rfl ?_
      refine vc_if_lt dX6_tellerCell_13 (fun h4 => ?_) (fun h4 => ?_)
      · refine vc_iconst dX6_tellerCell_34 rfl ?_
        refine vc_iret dX6_tellerCell_35 rfl (Nat.le_of_ble_eq_true rfl) (Nat.le_of_ble_eq_true rfl) ?_
        exact ⟨_, rfl, rfl, by omega⟩
      · refine vc_iload_n dX6_tellerCell_16 rfl ?_
        refine vc_iconst dX6_tellerCell_17 rfl ?_
        refine vc_icmp_ge dX6_tellerCell_18 (fun h5 => ?_) (fun h5 => ?_)
        · refine vc_iconst dX6_tellerCell_34 rfl ?_
          refine vc_iret dX6_tellerCell_35 rfl (Nat.le_of_ble_eq_true rfl) (Nat.le_of_ble_eq_true rfl) ?_
          exact ⟨_, rfl, rfl, by omega⟩
        · refine vc_aload_n dX6_tellerCell_21 rfl ?_
          refine vc_getR dX6_tellerCell_22 flX6_21 (s_1 hB0.1.1) rfl (r_1_3 hB0.1.1) ?_
          refine vc_iconst dX6_tellerCell_25 rfl ?_
          refine vc_iload_n dX6_tellerCell_26 rfl ?_
          refine vc_imulE dX6_tellerCell_27 (by omega) (by omega) ?_
          refine vc_iload_n dX6_tellerCell_28 rfl ?_
          refine vc_iaddE dX6_tellerCell_29 (by omega) (by omega) ?_
          refine vc_iaload dX6_tellerCell_30 (s_5 hB0.1.1) (by omega) (by omega) ?_
          refine vc_goto dX6_tellerCell_31 ?_
          refine vc_iret dX6_tellerCell_35 rfl (Nat.le_of_ble_eq_true rfl) (Nat.le_of_ble_eq_true rfl) ?_
          exact ⟨_, rfl, rfl, by omega⟩

set_option maxRecDepth 4000 in
theorem sfX6_tellingCellF {l : Launch} {M : Mem} (hB : Box M)  (t : Int) (c : Int)  : Call l mdX6_tellingCell [aR 1, aI t, aI c] M (fun q N => ∃ r : Int, q = some (aI r) ∧ M = N ∧ ((0 ≤ t ∧ t < mI M 1 9 ∧ 0 ≤ c ∧ c < 9 ∧ r = mI M 6 (9 * t + c).toNat) ∨ (¬ (0 ≤ t ∧ t < mI M 1 9 ∧ 0 ≤ c ∧ c < 9) ∧ r = -1))) := by
  have hB0 : BF fQ M M := BF.start hB
  refine Call.of [some (aR 1), some (aI t), some (aI c)] rfl (Nat.le_of_ble_eq_true rfl) rfl ?_
  refine vc_ok (fun hoM hoS hoL => ?_)
  have hr1 : -2147483648 ≤ t ∧ t < 2147483648 := hoL 1 _ rfl
  have hr2 : -2147483648 ≤ c ∧ c < 2147483648 := hoL 2 _ rfl
  refine vc_iload_n dX6_tellingCell_0 rfl ?_
  refine vc_if_lt dX6_tellingCell_1 (fun h1 => ?_) (fun h1 => ?_)
  · refine vc_iconst dX6_tellingCell_36 rfl ?_
    refine vc_iret dX6_tellingCell_37 rfl (Nat.le_of_ble_eq_true rfl) (Nat.le_of_ble_eq_true rfl) ?_
    exact ⟨_, rfl, rfl, by omega⟩
  · refine vc_iload_n dX6_tellingCell_4 rfl ?_
    refine vc_aload_n dX6_tellingCell_5 rfl ?_
    refine vc_getI dX6_tellingCell_6 flX6_58 (s_1 hB0.1.1) rfl ?_
    have k2 : 0 ≤ mI M 1 9 ∧ mI M 1 9 ≤ 8 := b1_9 (M := M) hB0.1
    refine vc_icmp_ge dX6_tellingCell_9 (fun h3 => ?_) (fun h3 => ?_)
    · refine vc_iconst dX6_tellingCell_36 rfl ?_
      refine vc_iret dX6_tellingCell_37 rfl (Nat.le_of_ble_eq_true rfl) (Nat.le_of_ble_eq_true rfl) ?_
      exact ⟨_, rfl, rfl, by omega⟩
    · refine vc_iload_n dX6_tellingCell_12 rfl ?_
      refine vc_if_lt dX6_tellingCell_13 (fun h4 => ?_) (fun h4 => ?_)
      · refine vc_iconst dX6_tellingCell_36 rfl ?_
        refine vc_iret dX6_tellingCell_37 rfl (Nat.le_of_ble_eq_true rfl) (Nat.le_of_ble_eq_true rfl) ?_
        exact ⟨_, rfl, rfl, by omega⟩
      · refine vc_iload_n dX6_tellingCell_16 rfl ?_
        refine vc_bipush dX6_tellingCell_17 rfl ?_
        refine vc_icmp_ge dX6_tellingCell_19 (fun h5 => ?_) (fun h5 => ?_)
        · refine vc_iconst dX6_tellingCell_36 rfl ?_
          refine vc_iret dX6_tellingCell_37 rfl (Nat.le_of_ble_eq_true rfl) (Nat.le_of_ble_eq_true rfl) ?_
          exact ⟨_, rfl, rfl, by omega⟩
        · refine vc_aload_n dX6_tellingCell_22 rfl ?_
          refine vc_getR dX6_tellingCell_23 flX6_24 (s_1 hB0.1.1) rfl (r_1_4 hB0.1.1) ?_
          refine vc_bipush dX6_tellingCell_26 rfl ?_
          refine vc_iload_n dX6_tellingCell_28 rfl ?_
          refine vc_imulE dX6_tellingCell_29 (by omega) (by omega) ?_
          refine vc_iload_n dX6_tellingCell_30 rfl ?_
          refine vc_iaddE dX6_tellingCell_31 (by omega) (by omega) ?_
          refine vc_iaload dX6_tellingCell_32 (s_6 hB0.1.1) (by omega) (by omega) ?_
          refine vc_goto dX6_tellingCell_33 ?_
          refine vc_iret dX6_tellingCell_37 rfl (Nat.le_of_ble_eq_true rfl) (Nat.le_of_ble_eq_true rfl) ?_
          exact ⟨_, rfl, rfl, by omega⟩

set_option maxRecDepth 4000 in
theorem sfX6_addCornerF {l : Launch} {M : Mem} (hB : Box M)  (s : Int)  : Call l mdX6_addCorner [aR 1, aI s] M (fun q N => ∃ r : Int, q = some (aI r) ∧ BF fC M N ∧ CornerS s (cS M) (cS N) r) := by
  have hB0 : BF fC M M := BF.start hB
  refine Call.of [some (aR 1), some (aI s)] rfl (Nat.le_of_ble_eq_true rfl) rfl ?_
  refine vc_ok (fun hoM hoS hoL => ?_)
  have hr1 : -2147483648 ≤ s ∧ s < 2147483648 := hoL 1 _ rfl
  have e16 : cS M 1 6 = mI M 1 6 := rfl
  refine vc_iload_n dX6_addCorner_0 rfl ?_
  refine vc_if_lt dX6_addCorner_1 (fun h1 => ?_) (fun h1 => ?_)
  · refine vc_iconst dX6_addCorner_18 rfl ?_
    refine vc_iret dX6_addCorner_19 rfl (Nat.le_of_ble_eq_true rfl) (Nat.le_of_ble_eq_true rfl) ?_
    refine ⟨_, rfl, hB0, ?_⟩
    first | exact Or.inl ⟨by omega, by omega, rfl⟩ | exact Or.inr ⟨by omega, by omega, rfl⟩
  · refine vc_iload_n dX6_addCorner_4 rfl ?_
    refine vc_iconst dX6_addCorner_5 rfl ?_
    refine vc_icmp_gt dX6_addCorner_6 (fun h2 => ?_) (fun h2 => ?_)
    · refine vc_iconst dX6_addCorner_18 rfl ?_
      refine vc_iret dX6_addCorner_19 rfl (Nat.le_of_ble_eq_true rfl) (Nat.le_of_ble_eq_true rfl) ?_
      refine ⟨_, rfl, hB0, ?_⟩
      first | exact Or.inl ⟨by omega, by omega, rfl⟩ | exact Or.inr ⟨by omega, by omega, rfl⟩
    · refine vc_aload_n dX6_addCorner_9 rfl ?_
      refine vc_getI dX6_addCorner_10 flX6_52 (s_1 hB0.1.1) rfl ?_
      have k3 : 0 ≤ mI M 1 6 ∧ mI M 1 6 ≤ 16 := b1_6 (M := M) hB0.1
      refine vc_bipush dX6_addCorner_13 rfl ?_
      refine vc_icmp_lt dX6_addCorner_15 (fun h4 => ?_) (fun h4 => ?_)
      · refine vc_aload_n dX6_addCorner_20 rfl ?_
        refine vc_getR dX6_addCorner_21 flX6_9 (s_1 hB0.1.1) rfl (r_1_0 hB0.1.1) ?_
        refine vc_aload_n dX6_addCorner_24 rfl ?_
        refine vc_getI dX6_addCorner_25 flX6_52 (s_1 hB0.1.1) rfl ?_
        refine vc_iload_n dX6_addCorner_28 rfl ?_
        refine vc_iastore dX6_addCorner_29 (s_2 hB0.1.1) (by omega) (by omega) ?_
        have hB5 : BF fC M (sI M 2 ((mI M 1 6).toNat) s) := BF.w2 hB0 (fun _ => rfl) _
        refine vc_aload_n dX6_addCorner_30 rfl ?_
        refine vc_dup dX6_addCorner_31 rfl ?_
        refine vc_getI dX6_addCorner_32 flX6_52 (s_1 hB5.1.1) rfl ?_
        refine vc_topI (mI M 1 6) rfl ?_
        have k6 : 0 ≤ mI M 1 6 ∧ mI M 1 6 ≤ 16 := b1_6 (M := (sI M 2 ((mI M 1 6).toNat) s)) hB5.1
        refine vc_iconst dX6_addCorner_35 rfl ?_
        refine vc_iaddE dX6_addCorner_36 (by omega) (by omega) ?_
        refine vc_putI dX6_addCorner_37 (plX6_52 _ rfl) (s_1 hB5.1.1) rfl ?_
        have hB7 : BF fC M (sI (sI M 2 ((mI M 1 6).toNat) s) 1 6 ((mI M 1 6) + 1)) := BF.w1_6 hB5 rfl (by omega) (by omega)
        refine vc_aload_n dX6_addCorner_40 rfl ?_
        refine vc_getI dX6_addCorner_41 flX6_52 (s_1 hB7.1.1) rfl ?_
        refine vc_topI ((mI M 1 6) + 1) rfl ?_
        refine vc_iconst dX6_addCorner_44 rfl ?_
        refine vc_isubE dX6_addCorner_45 (by omega) (by omega) ?_
        refine vc_iret dX6_addCorner_46 rfl (Nat.le_of_ble_eq_true rfl) (Nat.le_of_ble_eq_true rfl) ?_
        refine ⟨_, rfl, hB7, ?_⟩
        first | exact Or.inl ⟨by omega, by omega, by first | (rw [cS_w rfl, cS_w rfl]; done) | (rw [cS_w rfl, cS_w rfl]; rfl) | (subst_vars; rw [cS_w rfl, cS_w rfl]; done) | (subst_vars; rw [cS_w rfl, cS_w rfl]; rfl)⟩ | exact Or.inr ⟨by omega, by omega, by first | (rw [cS_w rfl, cS_w rfl]; done) | (rw [cS_w rfl, cS_w rfl]; rfl) | (subst_vars; rw [cS_w rfl, cS_w rfl]; done) | (subst_vars; rw [cS_w rfl, cS_w rfl]; rfl)⟩
      · refine vc_iconst dX6_addCorner_18 rfl ?_
        refine vc_iret dX6_addCorner_19 rfl (Nat.le_of_ble_eq_true rfl) (Nat.le_of_ble_eq_true rfl) ?_
        refine ⟨_, rfl, hB0, ?_⟩
        first | exact Or.inl ⟨by omega, by omega, rfl⟩ | exact Or.inr ⟨by omega, by omega, rfl⟩

set_option maxRecDepth 4000 in
theorem sfX6_setGoalF {l : Launch} {M : Mem} (hB : Box M)  (c : Int)  : Call l mdX6_setGoal [aR 1, aI c] M (fun q N => ∃ r : Int, q = some (aI r) ∧ BF fC M N ∧ 0 ≤ r ∧ r ≤ 1 ∧ GoalS c (cS M) (cS N) r) := by
  have hB0 : BF fC M M := BF.start hB
  refine Call.of [some (aR 1), some (aI c)] rfl (Nat.le_of_ble_eq_true rfl) rfl ?_
  refine vc_ok (fun hoM hoS hoL => ?_)
  have hr1 : -2147483648 ≤ c ∧ c < 2147483648 := hoL 1 _ rfl
  have e16 : cS M 1 6 = mI M 1 6 := rfl
  refine vc_iload_n dX6_setGoal_0 rfl ?_
  refine vc_iconst dX6_setGoal_1 rfl ?_
  refine vc_icmp_eq dX6_setGoal_2 (fun h1 => ?_) (fun h1 => ?_)
  · refine vc_aload_n dX6_setGoal_15 rfl ?_
    refine vc_iload_n dX6_setGoal_16 rfl ?_
    refine vc_putI dX6_setGoal_17 (plX6_39 _ rfl) (s_1 hB0.1.1) rfl ?_
    have hB2 : BF fC M (sI M 1 7 c) := BF.w1_7 hB0 rfl (by omega) (by omega)
    refine vc_iconst dX6_setGoal_20 rfl ?_
    refine vc_zret dX6_setGoal_21 rfl (by first | decide | omega) (Nat.le_of_ble_eq_true rfl) (Nat.le_of_ble_eq_true rfl) ?_
    refine ⟨_, rfl, hB2, by omega, by omega, ?_⟩
    first | exact Or.inl ⟨by omega, by omega, by first | (rw [cS_w rfl]; done) | (rw [cS_w rfl]; rfl) | (subst_vars; rw [cS_w rfl]; done) | (subst_vars; rw [cS_w rfl]; rfl)⟩ | exact Or.inr ⟨by omega, by omega, by first | (rw [cS_w rfl]; done) | (rw [cS_w rfl]; rfl) | (subst_vars; rw [cS_w rfl]; done) | (subst_vars; rw [cS_w rfl]; rfl)⟩
  · refine vc_aload_n dX6_setGoal_5 rfl ?_
    refine vc_iload_n dX6_setGoal_6 rfl ?_
    refine vc_cVI dX6_setGoal_7 (sfX6_hasCornerF (M := M) hB0.1  c ) rfl okX6_hasCorner viX6_hasCorner lkX6_77 (s_1 hB0.1.1) cl_6 rfl (Nat.le_of_ble_eq_true rfl) ⟨rfl, rfl⟩ (Nat.le_of_ble_eq_true rfl) (Nat.le_of_ble_eq_true rfl) (Nat.le_of_ble_eq_true rfl) ?_
    rintro x3 _ ⟨rfl, h4, h5, h6, h7⟩
    refine vc_if_ne dX6_setGoal_10 (fun h8 => ?_) (fun h8 => ?_)
    · refine vc_aload_n dX6_setGoal_15 rfl ?_
      refine vc_iload_n dX6_setGoal_16 rfl ?_
      refine vc_putI dX6_setGoal_17 (plX6_39 _ rfl) (s_1 hB0.1.1) rfl ?_
      have hB9 : BF fC M (sI M 1 7 c) := BF.w1_7 hB0 rfl (by omega) (by omega)
      refine vc_iconst dX6_setGoal_20 rfl ?_
      refine vc_zret dX6_setGoal_21 rfl (by first | decide | omega) (Nat.le_of_ble_eq_true rfl) (Nat.le_of_ble_eq_true rfl) ?_
      refine ⟨_, rfl, hB9, by omega, by omega, ?_⟩
      first | exact Or.inl ⟨by omega, by omega, by first | (rw [cS_w rfl]; done) | (rw [cS_w rfl]; rfl) | (subst_vars; rw [cS_w rfl]; done) | (subst_vars; rw [cS_w rfl]; rfl)⟩ | exact Or.inr ⟨by omega, by omega, by first | (rw [cS_w rfl]; done) | (rw [cS_w rfl]; rfl) | (subst_vars; rw [cS_w rfl]; done) | (subst_vars; rw [cS_w rfl]; rfl)⟩
    · refine vc_iconst dX6_setGoal_13 rfl ?_
      refine vc_zret dX6_setGoal_14 rfl (by first | decide | omega) (Nat.le_of_ble_eq_true rfl) (Nat.le_of_ble_eq_true rfl) ?_
      refine ⟨_, rfl, hB0, by omega, by omega, ?_⟩
      first | exact Or.inl ⟨by omega, by omega, rfl⟩ | exact Or.inr ⟨by omega, by omega, rfl⟩

set_option maxRecDepth 4000 in
theorem sfX6_addTellerF {l : Launch} {M : Mem} (hB : Box M)  (c : Int) (s : Int) (e : Int) (m : Int)  : Call l mdX6_addTeller [aR 1, aI c, aI s, aI e, aI m] M (fun q N => ∃ r : Int, q = some (aI r) ∧ BF fC M N ∧ TellerS c s e m (cS M) (cS N) r) := by
  have hB0 : BF fC M M := BF.start hB
  refine Call.of [some (aR 1), some (aI c), some (aI s), some (aI e), some (aI m), none] rfl (Nat.le_of_ble_eq_true rfl) rfl ?_
  refine vc_ok (fun hoM hoS hoL => ?_)
  have hr1 : -2147483648 ≤ c ∧ c < 2147483648 := hoL 1 _ rfl
  have hr2 : -2147483648 ≤ s ∧ s < 2147483648 := hoL 2 _ rfl
  have hr3 : -2147483648 ≤ e ∧ e < 2147483648 := hoL 3 _ rfl
  have hr4 : -2147483648 ≤ m ∧ m < 2147483648 := hoL 4 _ rfl
  have e16 : cS M 1 6 = mI M 1 6 := rfl
  have e18 : cS M 1 8 = mI M 1 8 := rfl
  refine vc_aload_n dX6_addTeller_0 rfl ?_
  refine vc_iload_n dX6_addTeller_1 rfl ?_
  refine vc_cVI dX6_addTeller_2 (sfX6_hasCornerF (M := M) hB0.1  c ) rfl okX6_hasCorner viX6_hasCorner lkX6_77 (s_1 hB0.1.1) cl_6 rfl (Nat.le_of_ble_eq_true rfl) ⟨rfl, rfl⟩ (Nat.le_of_ble_eq_true rfl) (Nat.le_of_ble_eq_true rfl) (Nat.le_of_ble_eq_true rfl) ?_
  rintro x1 _ ⟨rfl, h2, h3, h4, h5⟩
  refine vc_if_eq dX6_addTeller_5 (fun h6 => ?_) (fun h6 => ?_)
  · refine vc_iconst dX6_addTeller_30 rfl ?_
    refine vc_iret dX6_addTeller_31 rfl (Nat.le_of_ble_eq_true rfl) (Nat.le_of_ble_eq_true rfl) ?_
    refine ⟨_, rfl, hB0, ?_⟩
    first | exact Or.inl ⟨by first | (unfold okTe; omega) | (subst_vars; unfold okTe; omega), by omega, rfl⟩ | exact Or.inr ⟨by first | (unfold okTe; omega) | (subst_vars; unfold okTe; omega), by omega, rfl⟩
  · refine vc_iload_n dX6_addTeller_8 rfl ?_
    refine vc_cNI dX6_addTeller_9 (sfX11_isSlipF (M := M) hB0.1  s ) rfl okX11_isSlip stX11_isSlip nkX6_84 rfl (Nat.le_of_ble_eq_true rfl) ⟨rfl, rfl⟩ (Nat.le_of_ble_eq_true rfl) (Nat.le_of_ble_eq_true rfl) (Nat.le_of_ble_eq_true rfl) ?_
    rintro x7 _ ⟨rfl, h8, h9, h10⟩
    refine vc_if_eq dX6_addTeller_12 (fun h11 => ?_) (fun h11 => ?_)
    · refine vc_iconst dX6_addTeller_30 rfl ?_
      refine vc_iret dX6_addTeller_31 rfl (Nat.le_of_ble_eq_true rfl) (Nat.le_of_ble_eq_true rfl) ?_
      refine ⟨_, rfl, hB0, ?_⟩
      first | exact Or.inl ⟨by first | (unfold okTe; omega) | (subst_vars; unfold okTe; omega), by omega, rfl⟩ | exact Or.inr ⟨by first | (unfold okTe; omega) | (subst_vars; unfold okTe; omega), by omega, rfl⟩
    · refine vc_iload_n dX6_addTeller_15 rfl ?_
      refine vc_cNI dX6_addTeller_16 (sfX11_isSlipF (M := M) hB0.1  e ) rfl okX11_isSlip stX11_isSlip nkX6_84 rfl (Nat.le_of_ble_eq_true rfl) ⟨rfl, rfl⟩ (Nat.le_of_ble_eq_true rfl) (Nat.le_of_ble_eq_true rfl) (Nat.le_of_ble_eq_true rfl) ?_
      rintro x12 _ ⟨rfl, h13, h14, h15⟩
      refine vc_if_eq dX6_addTeller_19 (fun h16 => ?_) (fun h16 => ?_)
      · refine vc_iconst dX6_addTeller_30 rfl ?_
        refine vc_iret dX6_addTeller_31 rfl (Nat.le_of_ble_eq_true rfl) (Nat.le_of_ble_eq_true rfl) ?_
        refine ⟨_, rfl, hB0, ?_⟩
        first | exact Or.inl ⟨by first | (unfold okTe; omega) | (subst_vars; unfold okTe; omega), by omega, rfl⟩ | exact Or.inr ⟨by first | (unfold okTe; omega) | (subst_vars; unfold okTe; omega), by omega, rfl⟩
      · refine vc_iload dX6_addTeller_22 rfl ?_
        refine vc_cNI dX6_addTeller_24 (sfX11_isSlipF (M := M) hB0.1  m ) rfl okX11_isSlip stX11_isSlip nkX6_84 rfl (Nat.le_of_ble_eq_true rfl) ⟨rfl, rfl⟩ (Nat.le_of_ble_eq_true rfl) (Nat.le_of_ble_eq_true rfl) (Nat.le_of_ble_eq_true rfl) ?_
        rintro x17 _ ⟨rfl, h18, h19, h20⟩
        refine vc_if_ne dX6_addTeller_27 (fun h21 => ?_) (fun h21 => ?_)
        · refine vc_aload_n dX6_addTeller_32 rfl ?_
          refine vc_getI dX6_addTeller_33 flX6_55 (s_1 hB0.1.1) rfl ?_
          have k22 : 0 ≤ mI M 1 8 ∧ mI M 1 8 ≤ 6 := b1_8 (M := M) hB0.1
          refine vc_bipush dX6_addTeller_36 rfl ?_
          refine vc_icmp_lt dX6_addTeller_38 (fun h23 => ?_) (fun h23 => ?_)
          · refine vc_iconst dX6_addTeller_43 rfl ?_
            refine vc_aload_n dX6_addTeller_44 rfl ?_
            refine vc_getI dX6_addTeller_45 flX6_55 (s_1 hB0.1.1) rfl ?_
            refine vc_imulE dX6_addTeller_48 (by omega) (by omega) ?_
            refine vc_nameI (fun x24 ex24 => ?_)
            refine vc_istore dX6_addTeller_49 (by decide) rfl (show _ = [some (aR 1), some (aI c), some (aI s), some (aI e), some (aI m), some (aI x24)] from rfl) ?_
            refine vc_aload_n dX6_addTeller_51 rfl ?_
            refine vc_getR dX6_addTeller_52 flX6_21 (s_1 hB0.1.1) rfl (r_1_3 hB0.1.1) ?_
            refine vc_iload dX6_addTeller_55 rfl ?_
            refine vc_iload_n dX6_addTeller_57 rfl ?_
            refine vc_iastore dX6_addTeller_58 (s_5 hB0.1.1) (by omega) (by omega) ?_
            have hB25 : BF fC M (sI M 5 x24.toNat c) := BF.w5 hB0 (fun _ => rfl) _
            refine vc_aload_n dX6_addTeller_59 rfl ?_
            refine vc_getR dX6_addTeller_60 flX6_21 (s_1 hB25.1.1) rfl (r_1_3 hB25.1.1) ?_
            refine vc_iload dX6_addTeller_63 rfl ?_
            refine vc_iconst dX6_addTeller_65 rfl ?_
            refine vc_iaddE dX6_addTeller_66 (by omega) (by omega) ?_
            refine vc_iload_n dX6_addTeller_67 rfl ?_
            refine vc_iastore dX6_addTeller_68 (s_5 hB25.1.1) (by omega) (by omega) ?_
            have hB26 : BF fC M (sI (sI M 5 x24.toNat c) 5 ((x24 + 1).toNat) s) := BF.w5 hB25 (fun _ => rfl) _
            refine vc_aload_n dX6_addTeller_69 rfl ?_
            refine vc_getR dX6_addTeller_70 flX6_21 (s_1 hB26.1.1) rfl (r_1_3 hB26.1.1) ?_
            refine vc_iload dX6_addTeller_73 rfl ?_
            refine vc_iconst dX6_addTeller_75 rfl ?_
            refine vc_iaddE dX6_addTeller_76 (by omega) (by omega) ?_
            refine vc_iload_n dX6_addTeller_77 rfl ?_
            refine vc_iastore dX6_addTeller_78 (s_5 hB26.1.1) (by omega) (by omega) ?_
            have hB27 : BF fC M (sI (sI (sI M 5 x24.toNat c) 5 ((x24 + 1).toNat) s) 5 ((x24 + 2).toNat) e) := BF.w5 hB26 (fun _ => rfl) _
            refine vc_aload_n dX6_addTeller_79 rfl ?_
            refine vc_getR dX6_addTeller_80 flX6_21 (s_1 hB27.1.1) rfl (r_1_3 hB27.1.1) ?_
            refine vc_iload dX6_addTeller_83 rfl ?_
            refine vc_iconst dX6_addTeller_85 rfl ?_
            refine vc_iaddE dX6_addTeller_86 (by omega) (by omega) ?_
            refine vc_iload dX6_addTeller_87 rfl ?_
            refine vc_iastore dX6_addTeller_89 (s_5 hB27.1.1) (by omega) (by omega) ?_
            have hB28 : BF fC M (sI (sI (sI (sI M 5 x24.toNat c) 5 ((x24 + 1).toNat) s) 5 ((x24 + 2).toNat) e) 5 ((x24 + 3).toNat) m) := BF.w5 hB27 (fun _ => rfl) _
            refine vc_aload_n dX6_addTeller_90 rfl ?_
            refine vc_dup dX6_addTeller_91 rfl ?_
            refine vc_getI dX6_addTeller_92 flX6_55 (s_1 hB28.1.1) rfl ?_
            refine vc_topI (mI M 1 8) rfl ?_
            have k29 : 0 ≤ mI M 1 8 ∧ mI M 1 8 ≤ 6 := b1_8 (M := (sI (sI (sI (sI M 5 x24.toNat c) 5 ((x24 + 1).toNat) s) 5 ((x24 + 2).toNat) e) 5 ((x24 + 3).toNat) m)) hB28.1
            refine vc_iconst dX6_addTeller_95 rfl ?_
            refine vc_iaddE dX6_addTeller_96 (by omega) (by omega) ?_
            refine vc_putI dX6_addTeller_97 (plX6_55 _ rfl) (s_1 hB28.1.1) rfl ?_
            have hB30 : BF fC M (sI (sI (sI (sI (sI M 5 x24.toNat c) 5 ((x24 + 1).toNat) s) 5 ((x24 + 2).toNat) e) 5 ((x24 + 3).toNat) m) 1 8 ((mI M 1 8) + 1)) := BF.w1_8 hB28 rfl (by omega) (by omega)
            refine vc_aload_n dX6_addTeller_100 rfl ?_
            refine vc_getI dX6_addTeller_101 flX6_55 (s_1 hB30.1.1) rfl ?_
            refine vc_topI ((mI M 1 8) + 1) rfl ?_
            refine vc_iconst dX6_addTeller_104 rfl ?_
            refine vc_isubE dX6_addTeller_105 (by omega) (by omega) ?_
            refine vc_iret dX6_addTeller_106 rfl (Nat.le_of_ble_eq_true rfl) (Nat.le_of_ble_eq_true rfl) ?_
            refine ⟨_, rfl, hB30, ?_⟩
            first | exact Or.inl ⟨by first | (unfold okTe; omega) | (subst_vars; unfold okTe; omega), by omega, by first | (rw [cS_w rfl, cS_w rfl, cS_w rfl, cS_w rfl, cS_w rfl]; done) | (rw [cS_w rfl, cS_w rfl, cS_w rfl, cS_w rfl, cS_w rfl]; rfl) | (subst_vars; rw [cS_w rfl, cS_w rfl, cS_w rfl, cS_w rfl, cS_w rfl]; done) | (subst_vars; rw [cS_w rfl, cS_w rfl, cS_w rfl, cS_w rfl, cS_w rfl]; rfl)⟩ | exact Or.inr ⟨by first | (unfold okTe; omega) | (subst_vars; unfold okTe; omega), by omega, by first | (rw [cS_w rfl, cS_w rfl, cS_w rfl, cS_w rfl, cS_w rfl]; done) | (rw [cS_w rfl, cS_w rfl, cS_w rfl, cS_w rfl, cS_w rfl]; rfl) | (subst_vars; rw [cS_w rfl, cS_w rfl, cS_w rfl, cS_w rfl, cS_w rfl]; done) | (subst_vars; rw [cS_w rfl, cS_w rfl, cS_w rfl, cS_w rfl, cS_w rfl]; rfl)⟩
          · refine vc_iconst dX6_addTeller_41 rfl ?_
            refine vc_iret dX6_addTeller_42 rfl (Nat.le_of_ble_eq_true rfl) (Nat.le_of_ble_eq_true rfl) ?_
            refine ⟨_, rfl, hB0, ?_⟩
            first | exact Or.inl ⟨by first | (unfold okTe; omega) | (subst_vars; unfold okTe; omega), by omega, rfl⟩ | exact Or.inr ⟨by first | (unfold okTe; omega) | (subst_vars; unfold okTe; omega), by omega, rfl⟩
        · refine vc_iconst dX6_addTeller_30 rfl ?_
          refine vc_iret dX6_addTeller_31 rfl (Nat.le_of_ble_eq_true rfl) (Nat.le_of_ble_eq_true rfl) ?_
          refine ⟨_, rfl, hB0, ?_⟩
          first | exact Or.inl ⟨by first | (unfold okTe; omega) | (subst_vars; unfold okTe; omega), by omega, rfl⟩ | exact Or.inr ⟨by first | (unfold okTe; omega) | (subst_vars; unfold okTe; omega), by omega, rfl⟩

set_option maxRecDepth 4000 in
theorem sfX6_addStreetF {l : Launch} {M : Mem} (hB : Box M)  (f : Int) (d : Int) (t : Int) (la : Int)  : Call l mdX6_addStreet [aR 1, aI f, aI d, aI t, aI la] M (fun q N => ∃ r : Int, q = some (aI r) ∧ BF fC M N ∧ 0 ≤ r ∧ r ≤ 1 ∧ StreetS f d t la (cS M) (cS N) r) := by
  have hB0 : BF fC M M := BF.start hB
  refine Call.of [some (aR 1), some (aI f), some (aI d), some (aI t), some (aI la), none, none] rfl (Nat.le_of_ble_eq_true rfl) rfl ?_
  refine vc_ok (fun hoM hoS hoL => ?_)
  have hr1 : -2147483648 ≤ f ∧ f < 2147483648 := hoL 1 _ rfl
  have hr2 : -2147483648 ≤ d ∧ d < 2147483648 := hoL 2 _ rfl
  have hr3 : -2147483648 ≤ t ∧ t < 2147483648 := hoL 3 _ rfl
  have hr4 : -2147483648 ≤ la ∧ la < 2147483648 := hoL 4 _ rfl
  have e16 : cS M 1 6 = mI M 1 6 := rfl
  have e3 : cS M 3 (4 * f + d).toNat = mI M 3 (4 * f + d).toNat := rfl
  have e4 : cS M 3 (4 * t + (d + 2) % 4).toNat = mI M 3 (4 * t + (d + 2) % 4).toNat := rfl
  refine vc_aload_n dX6_addStreet_0 rfl ?_
  refine vc_iload_n dX6_addStreet_1 rfl ?_
  refine vc_cVI dX6_addStreet_2 (sfX6_hasCornerF (M := M) hB0.1  f ) rfl okX6_hasCorner viX6_hasCorner lkX6_77 (s_1 hB0.1.1) cl_6 rfl (Nat.le_of_ble_eq_true rfl) ⟨rfl, rfl⟩ (Nat.le_of_ble_eq_true rfl) (Nat.le_of_ble_eq_true rfl) (Nat.le_of_ble_eq_true rfl) ?_
  rintro x1 _ ⟨rfl, h2, h3, h4, h5⟩
  refine vc_if_eq dX6_addStreet_5 (fun h6 => ?_) (fun h6 => ?_)
  · refine vc_iconst dX6_addStreet_28 rfl ?_
    refine vc_zret dX6_addStreet_29 rfl (by first | decide | omega) (Nat.le_of_ble_eq_true rfl) (Nat.le_of_ble_eq_true rfl) ?_
    refine ⟨_, rfl, hB0, by omega, by omega, ?_⟩
    first | exact Or.inl ⟨by first | (subst_vars; unfold okSt; omega) | (unfold okSt; omega), by omega, rfl⟩ | exact Or.inr ⟨by first | (subst_vars; unfold okSt; omega) | (unfold okSt; omega), by omega, rfl⟩
  · refine vc_aload_n dX6_addStreet_8 rfl ?_
    refine vc_iload_n dX6_addStreet_9 rfl ?_
    refine vc_cVI dX6_addStreet_10 (sfX6_hasCornerF (M := M) hB0.1  t ) rfl okX6_hasCorner viX6_hasCorner lkX6_77 (s_1 hB0.1.1) cl_6 rfl (Nat.le_of_ble_eq_true rfl) ⟨rfl, rfl⟩ (Nat.le_of_ble_eq_true rfl) (Nat.le_of_ble_eq_true rfl) (Nat.le_of_ble_eq_true rfl) ?_
    rintro x7 _ ⟨rfl, h8, h9, h10, h11⟩
    refine vc_if_eq dX6_addStreet_13 (fun h12 => ?_) (fun h12 => ?_)
    · refine vc_iconst dX6_addStreet_28 rfl ?_
      refine vc_zret dX6_addStreet_29 rfl (by first | decide | omega) (Nat.le_of_ble_eq_true rfl) (Nat.le_of_ble_eq_true rfl) ?_
      refine ⟨_, rfl, hB0, by omega, by omega, ?_⟩
      first | exact Or.inl ⟨by first | (subst_vars; unfold okSt; omega) | (unfold okSt; omega), by omega, rfl⟩ | exact Or.inr ⟨by first | (subst_vars; unfold okSt; omega) | (unfold okSt; omega), by omega, rfl⟩
    · refine vc_iload_n dX6_addStreet_16 rfl ?_
      refine vc_iload_n dX6_addStreet_17 rfl ?_
      refine vc_icmp_eq dX6_addStreet_18 (fun h13 => ?_) (fun h13 => ?_)
      · refine vc_iconst dX6_addStreet_28 rfl ?_
        refine vc_zret dX6_addStreet_29 rfl (by first | decide | omega) (Nat.le_of_ble_eq_true rfl) (Nat.le_of_ble_eq_true rfl) ?_
        refine ⟨_, rfl, hB0, by omega, by omega, ?_⟩
        first | exact Or.inl ⟨by first | (subst_vars; unfold okSt; omega) | (unfold okSt; omega), by omega, rfl⟩ | exact Or.inr ⟨by first | (subst_vars; unfold okSt; omega) | (unfold okSt; omega), by omega, rfl⟩
      · refine vc_iload_n dX6_addStreet_21 rfl ?_
        refine vc_cNI dX6_addStreet_22 (sfX11_isDirectionF (M := M) hB0.1  d ) rfl okX11_isDirection stX11_isDirection nkX6_81 rfl (Nat.le_of_ble_eq_true rfl) ⟨rfl, rfl⟩ (Nat.le_of_ble_eq_true rfl) (Nat.le_of_ble_eq_true rfl) (Nat.le_of_ble_eq_true rfl) ?_
        rintro x14 _ ⟨rfl, h15, h16, h17⟩
        refine vc_if_ne dX6_addStreet_25 (fun h18 => ?_) (fun h18 => ?_)
        · refine vc_iconst dX6_addStreet_30 rfl ?_
          refine vc_iload_n dX6_addStreet_31 rfl ?_
          refine vc_imulE dX6_addStreet_32 (by omega) (by omega) ?_
          refine vc_iload_n dX6_addStreet_33 rfl ?_
          refine vc_iaddE dX6_addStreet_34 (by omega) (by omega) ?_
          refine vc_nameI (fun x19 ex19 => ?_)
          refine vc_istore dX6_addStreet_35 (by decide) rfl (show _ = [some (aR 1), some (aI f), some (aI d), some (aI t), some (aI la), some (aI x19), none] from rfl) ?_
          refine vc_iconst dX6_addStreet_37 rfl ?_
          refine vc_iload_n dX6_addStreet_38 rfl ?_
          refine vc_imulE dX6_addStreet_39 (by omega) (by omega) ?_
          refine vc_iload_n dX6_addStreet_40 rfl ?_
          refine vc_iconst dX6_addStreet_41 rfl ?_
          refine vc_iadd dX6_addStreet_42 ?_
          refine vc_iconst dX6_addStreet_43 rfl ?_
          refine vc_iandW dX6_addStreet_44 4 2 rfl (by decide) rfl ?_
          refine vc_iaddE dX6_addStreet_45 (by omega) (by omega) ?_
          refine vc_nameI (fun x20 ex20 => ?_)
          refine vc_istore dX6_addStreet_46 (by decide) rfl (show _ = [some (aR 1), some (aI f), some (aI d), some (aI t), some (aI la), some (aI x19), some (aI x20)] from rfl) ?_
          refine vc_aload_n dX6_addStreet_48 rfl ?_
          refine vc_getR dX6_addStreet_49 flX6_15 (s_1 hB0.1.1) rfl (r_1_1 hB0.1.1) ?_
          refine vc_iload dX6_addStreet_52 rfl ?_
          refine vc_iaload dX6_addStreet_54 (s_3 hB0.1.1) (by omega) (by omega) ?_
          have k21 : (-1) ≤ mI M 3 x19.toNat ∧ mI M 3 x19.toNat ≤ 15 := bA3 (M := M) hB0.1 _
          refine vc_iconst dX6_addStreet_55 rfl ?_
          refine vc_icmp_ne dX6_addStreet_56 (fun h22 => ?_) (fun h22 => ?_)
          · refine vc_iconst dX6_addStreet_70 rfl ?_
            refine vc_zret dX6_addStreet_71 rfl (by first | decide | omega) (Nat.le_of_ble_eq_true rfl) (Nat.le_of_ble_eq_true rfl) ?_
            refine ⟨_, rfl, hB0, by omega, by omega, ?_⟩
            first | exact Or.inl ⟨by first | (subst_vars; unfold okSt; omega) | (unfold okSt; omega), by omega, rfl⟩ | exact Or.inr ⟨by first | (subst_vars; unfold okSt; omega) | (unfold okSt; omega), by omega, rfl⟩
          · refine vc_aload_n dX6_addStreet_59 rfl ?_
            refine vc_getR dX6_addStreet_60 flX6_15 (s_1 hB0.1.1) rfl (r_1_1 hB0.1.1) ?_
            refine vc_iload dX6_addStreet_63 rfl ?_
            refine vc_iaload dX6_addStreet_65 (s_3 hB0.1.1) (by omega) (by omega) ?_
            have k23 : (-1) ≤ mI M 3 x20.toNat ∧ mI M 3 x20.toNat ≤ 15 := bA3 (M := M) hB0.1 _
            refine vc_iconst dX6_addStreet_66 rfl ?_
            refine vc_icmp_eq dX6_addStreet_67 (fun h24 => ?_) (fun h24 => ?_)
            · refine vc_aload_n dX6_addStreet_72 rfl ?_
              refine vc_getR dX6_addStreet_73 flX6_15 (s_1 hB0.1.1) rfl (r_1_1 hB0.1.1) ?_
              refine vc_iload dX6_addStreet_76 rfl ?_
              refine vc_iload_n dX6_addStreet_78 rfl ?_
              refine vc_iastore dX6_addStreet_79 (s_3 hB0.1.1) (by omega) (by omega) ?_
              have hB25 : BF fC M (sI M 3 x19.toNat t) := BF.w3 hB0 (fun _ => rfl) _ (by omega) (by omega)
              refine vc_aload_n dX6_addStreet_80 rfl ?_
              refine vc_getR dX6_addStreet_81 flX6_15 (s_1 hB25.1.1) rfl (r_1_1 hB25.1.1) ?_
              refine vc_iload dX6_addStreet_84 rfl ?_
              refine vc_iload_n dX6_addStreet_86 rfl ?_
              refine vc_iastore dX6_addStreet_87 (s_3 hB25.1.1) (by omega) (by omega) ?_
              have hB26 : BF fC M (sI (sI M 3 x19.toNat t) 3 x20.toNat f) := BF.w3 hB25 (fun _ => rfl) _ (by omega) (by omega)
              refine vc_aload_n dX6_addStreet_88 rfl ?_
              refine vc_getR dX6_addStreet_89 flX6_18 (s_1 hB26.1.1) rfl (r_1_2 hB26.1.1) ?_
              refine vc_iload dX6_addStreet_92 rfl ?_
              refine vc_iload dX6_addStreet_94 rfl ?_
              refine vc_iastore dX6_addStreet_96 (s_4 hB26.1.1) (by omega) (by omega) ?_
              have hB27 : BF fC M (sI (sI (sI M 3 x19.toNat t) 3 x20.toNat f) 4 x19.toNat la) := BF.w4 hB26 (fun _ => rfl) _
              refine vc_aload_n dX6_addStreet_97 rfl ?_
              refine vc_getR dX6_addStreet_98 flX6_18 (s_1 hB27.1.1) rfl (r_1_2 hB27.1.1) ?_
              refine vc_iload dX6_addStreet_101 rfl ?_
              refine vc_iload dX6_addStreet_103 rfl ?_
              refine vc_iastore dX6_addStreet_105 (s_4 hB27.1.1) (by omega) (by omega) ?_
              have hB28 : BF fC M (sI (sI (sI (sI M 3 x19.toNat t) 3 x20.toNat f) 4 x19.toNat la) 4 x20.toNat la) := BF.w4 hB27 (fun _ => rfl) _
              refine vc_iconst dX6_addStreet_106 rfl ?_
              refine vc_zret dX6_addStreet_107 rfl (by first | decide | omega) (Nat.le_of_ble_eq_true rfl) (Nat.le_of_ble_eq_true rfl) ?_
              refine ⟨_, rfl, hB28, by omega, by omega, ?_⟩
              first | exact Or.inl ⟨by first | (subst_vars; unfold okSt; omega) | (unfold okSt; omega), by omega, by first | (rw [cS_w rfl, cS_w rfl, cS_w rfl, cS_w rfl]; done) | (rw [cS_w rfl, cS_w rfl, cS_w rfl, cS_w rfl]; rfl) | (subst_vars; rw [cS_w rfl, cS_w rfl, cS_w rfl, cS_w rfl]; done) | (subst_vars; rw [cS_w rfl, cS_w rfl, cS_w rfl, cS_w rfl]; rfl)⟩ | exact Or.inr ⟨by first | (subst_vars; unfold okSt; omega) | (unfold okSt; omega), by omega, by first | (rw [cS_w rfl, cS_w rfl, cS_w rfl, cS_w rfl]; done) | (rw [cS_w rfl, cS_w rfl, cS_w rfl, cS_w rfl]; rfl) | (subst_vars; rw [cS_w rfl, cS_w rfl, cS_w rfl, cS_w rfl]; done) | (subst_vars; rw [cS_w rfl, cS_w rfl, cS_w rfl, cS_w rfl]; rfl)⟩
            · refine vc_iconst dX6_addStreet_70 rfl ?_
              refine vc_zret dX6_addStreet_71 rfl (by first | decide | omega) (Nat.le_of_ble_eq_true rfl) (Nat.le_of_ble_eq_true rfl) ?_
              refine ⟨_, rfl, hB0, by omega, by omega, ?_⟩
              first | exact Or.inl ⟨by first | (subst_vars; unfold okSt; omega) | (unfold okSt; omega), by omega, rfl⟩ | exact Or.inr ⟨by first | (subst_vars; unfold okSt; omega) | (unfold okSt; omega), by omega, rfl⟩
        · refine vc_iconst dX6_addStreet_28 rfl ?_
          refine vc_zret dX6_addStreet_29 rfl (by first | decide | omega) (Nat.le_of_ble_eq_true rfl) (Nat.le_of_ble_eq_true rfl) ?_
          refine ⟨_, rfl, hB0, by omega, by omega, ?_⟩
          first | exact Or.inl ⟨by first | (subst_vars; unfold okSt; omega) | (unfold okSt; omega), by omega, rfl⟩ | exact Or.inr ⟨by first | (subst_vars; unfold okSt; omega) | (unfold okSt; omega), by omega, rfl⟩

set_option maxRecDepth 4000 in
theorem sfX6_isTurnF {l : Launch} {M : Mem} (hB : Box M)  (t : Int) (p0 : 0 ≤ t) (p1 : t ≤ 999) : Call l mdX6_isTurn [aI t] M (fun q N => ∃ r : Int, q = some (aI r) ∧ M = N ∧ 0 ≤ r ∧ r ≤ 1 ∧ ((r = 1 ∧ isTu t) ∨ (r = 0 ∧ ¬ isTu t))) := by
  have hB0 : BF fQ M M := BF.start hB
  refine Call.of [some (aI t), none, none, none] rfl (Nat.le_of_ble_eq_true rfl) rfl ?_
  refine vc_iload_n dX6_isTurn_0 rfl ?_
  refine vc_bipush dX6_isTurn_1 rfl ?_
  refine vc_idivE dX6_isTurn_3 (by omega) (by omega) ?_
  refine vc_nameI (fun x1 ex1 => ?_)
  refine vc_istore_n dX6_isTurn_4 (by decide) rfl (show _ = [some (aI t), some (aI x1), none, none] from rfl) ?_
  refine vc_iload_n dX6_isTurn_5 rfl ?_
  refine vc_bipush dX6_isTurn_6 rfl ?_
  refine vc_idivE dX6_isTurn_8 (by omega) (by omega) ?_
  refine vc_bipush dX6_isTurn_9 rfl ?_
  refine vc_iremE dX6_isTurn_11 (by omega) (by omega) ?_
  refine vc_nameI (fun x2 ex2 => ?_)
  refine vc_istore_n dX6_isTurn_12 (by decide) rfl (show _ = [some (aI t), some (aI x1), some (aI x2), none] from rfl) ?_
  refine vc_iload_n dX6_isTurn_13 rfl ?_
  refine vc_bipush dX6_isTurn_14 rfl ?_
  refine vc_iremE dX6_isTurn_16 (by omega) (by omega) ?_
  refine vc_nameI (fun x3 ex3 => ?_)
  refine vc_istore_n dX6_isTurn_17 (by decide) rfl (show _ = [some (aI t), some (aI x1), some (aI x2), some (aI x3)] from rfl) ?_
  refine vc_iload_n dX6_isTurn_18 rfl ?_
  refine vc_iconst dX6_isTurn_19 rfl ?_
  refine vc_icmp_lt dX6_isTurn_20 (fun h4 => ?_) (fun h4 => ?_)
  · refine vc_iconst dX6_isTurn_55 rfl ?_
    refine vc_zret dX6_isTurn_56 rfl (by first | decide | omega) (Nat.le_of_ble_eq_true rfl) (Nat.le_of_ble_eq_true rfl) ?_
    exact ⟨_, rfl, rfl, by omega, by omega, by unfold isTu; omega⟩
  · refine vc_iload_n dX6_isTurn_23 rfl ?_
    refine vc_iconst dX6_isTurn_24 rfl ?_
    refine vc_icmp_gt dX6_isTurn_25 (fun h5 => ?_) (fun h5 => ?_)
    · refine vc_iconst dX6_isTurn_55 rfl ?_
      refine vc_zret dX6_isTurn_56 rfl (by first | decide | omega) (Nat.le_of_ble_eq_true rfl) (Nat.le_of_ble_eq_true rfl) ?_
      exact ⟨_, rfl, rfl, by omega, by omega, by unfold isTu; omega⟩
    · refine vc_iload_n dX6_isTurn_28 rfl ?_
      refine vc_iconst dX6_isTurn_29 rfl ?_
      refine vc_icmp_gt dX6_isTurn_30 (fun h6 => ?_) (fun h6 => ?_)
      · refine vc_iconst dX6_isTurn_55 rfl ?_
        refine vc_zret dX6_isTurn_56 rfl (by first | decide | omega) (Nat.le_of_ble_eq_true rfl) (Nat.le_of_ble_eq_true rfl) ?_
        exact ⟨_, rfl, rfl, by omega, by omega, by unfold isTu; omega⟩
      · refine vc_iload_n dX6_isTurn_33 rfl ?_
        refine vc_iconst dX6_isTurn_34 rfl ?_
        refine vc_icmp_lt dX6_isTurn_35 (fun h7 => ?_) (fun h7 => ?_)
        · refine vc_iconst dX6_isTurn_55 rfl ?_
          refine vc_zret dX6_isTurn_56 rfl (by first | decide | omega) (Nat.le_of_ble_eq_true rfl) (Nat.le_of_ble_eq_true rfl) ?_
          exact ⟨_, rfl, rfl, by omega, by omega, by unfold isTu; omega⟩
        · refine vc_iload_n dX6_isTurn_38 rfl ?_
          refine vc_iload_n dX6_isTurn_39 rfl ?_
          refine vc_if_ne dX6_isTurn_40 (fun h8 => ?_) (fun h8 => ?_)
          · refine vc_iconst dX6_isTurn_47 rfl ?_
            refine vc_icmp_gt dX6_isTurn_48 (fun h9 => ?_) (fun h9 => ?_)
            · refine vc_iconst dX6_isTurn_55 rfl ?_
              refine vc_zret dX6_isTurn_56 rfl (by first | decide | omega) (Nat.le_of_ble_eq_true rfl) (Nat.le_of_ble_eq_true rfl) ?_
              exact ⟨_, rfl, rfl, by omega, by omega, by unfold isTu; omega⟩
            · refine vc_iconst dX6_isTurn_51 rfl ?_
              refine vc_goto dX6_isTurn_52 ?_
              refine vc_zret dX6_isTurn_56 rfl (by first | decide | omega) (Nat.le_of_ble_eq_true rfl) (Nat.le_of_ble_eq_true rfl) ?_
              exact ⟨_, rfl, rfl, by omega, by omega, by unfold isTu; omega⟩
          · refine vc_iconst dX6_isTurn_43 rfl ?_
            refine vc_goto dX6_isTurn_44 ?_
            refine vc_icmp_gt dX6_isTurn_48 (fun h10 => ?_) (fun h10 => ?_)
            · refine vc_iconst dX6_isTurn_55 rfl ?_
              refine vc_zret dX6_isTurn_56 rfl (by first | decide | omega) (Nat.le_of_ble_eq_true rfl) (Nat.le_of_ble_eq_true rfl) ?_
              exact ⟨_, rfl, rfl, by omega, by omega, by unfold isTu; omega⟩
            · refine vc_iconst dX6_isTurn_51 rfl ?_
              refine vc_goto dX6_isTurn_52 ?_
              refine vc_zret dX6_isTurn_56 rfl (by first | decide | omega) (Nat.le_of_ble_eq_true rfl) (Nat.le_of_ble_eq_true rfl) ?_
              exact ⟨_, rfl, rfl, by omega, by omega, by unfold isTu; omega⟩

set_option maxRecDepth 4000 in
theorem sfX6_putTurnsF {l : Launch} {M : Mem} (hB : Box M)  (f : Int) (t : Int) (p0 : 0 ≤ f) (p1 : f ≤ 69) : Call l mdX6_putTurns [aR 1, aI f, aI t] M (fun q N => ∃ r : Int, q = some (aI r) ∧ BF fC M N ∧ mI N 1 = mI M 1 ∧ (-1) ≤ r ∧ r ≤ 3 ∧ PutS f t (cS M) (cS N) r) := by
  have hB0 : BF fC M M := BF.start hB
  refine Call.of [some (aR 1), some (aI f), some (aI t), none, none, none] rfl (Nat.le_of_ble_eq_true rfl) rfl ?_
  refine vc_ok (fun hoM hoS hoL => ?_)
  have hr2 : -2147483648 ≤ t ∧ t < 2147483648 := hoL 2 _ rfl
  refine vc_iload_n dX6_putTurns_0 rfl ?_
  refine vc_if_le dX6_putTurns_1 (fun h1 => ?_) (fun h1 => ?_)
  · refine vc_iconst dX6_putTurns_10 rfl ?_
    refine vc_iret dX6_putTurns_11 rfl (Nat.le_of_ble_eq_true rfl) (Nat.le_of_ble_eq_true rfl) ?_
    exact ⟨_, rfl, hB0, rfl, by omega, by omega, Or.inl ⟨by omega, rfl, rfl⟩⟩
  · refine vc_iload_n dX6_putTurns_4 rfl ?_
    refine vc_ldc dX6_putTurns_5 rfl kcX6_93 ?_
    refine vc_icmp_lt dX6_putTurns_7 (fun h2 => ?_) (fun h2 => ?_)
    · refine vc_iload_n dX6_putTurns_12 rfl ?_
      refine vc_sipush dX6_putTurns_13 rfl ?_
      refine vc_icmp_ge dX6_putTurns_16 (fun h3 => ?_) (fun h3 => ?_)
      · refine vc_iload_n dX6_putTurns_23 rfl ?_
        refine vc_ldc dX6_putTurns_24 rfl kcX6_94 ?_
        refine vc_icmp_ge dX6_putTurns_26 (fun h4 => ?_) (fun h4 => ?_)
        · refine vc_iconst dX6_putTurns_33 rfl ?_
          refine vc_istore_n dX6_putTurns_34 (by decide) rfl (show _ = [some (aR 1), some (aI f), some (aI t), some (aI 3), none, none] from rfl) ?_
          refine vc_iload_n dX6_putTurns_35 rfl ?_
          refine vc_istore dX6_putTurns_36 (by decide) rfl (show _ = [some (aR 1), some (aI f), some (aI t), some (aI 3), some (aI t), none] from rfl) ?_
          refine vc_iload_n dX6_putTurns_38 rfl ?_
          refine vc_iload_n dX6_putTurns_39 rfl ?_
          refine vc_iaddE dX6_putTurns_40 (by omega) (by omega) ?_
          refine vc_iconst dX6_putTurns_41 rfl ?_
          refine vc_isubE dX6_putTurns_42 (by omega) (by omega) ?_
          refine vc_nameI (fun x5 ex5 => ?_)
          refine vc_istore dX6_putTurns_43 (by decide) rfl (show _ = [some (aR 1), some (aI f), some (aI t), some (aI 3), some (aI t), some (aI x5)] from rfl) ?_
          have lp45 : ∀ (n45 : Nat) (Mq45 : Mem) (v4 : Int) (v5 : Int), (BF fC M Mq45) → (mI Mq45 1 = mI M 1) → (0 ≤ v4) → (v4 ≤ 999999999) → (f - 1 ≤ v5) → (v5 ≤ f + 2) → (pTn 3 f t (cS M) = pTn (v5 - f + 1).toNat f v4 (cS Mq45)) → (v5 - f + 1).toNat < n45 → VC l mdX6_putTurns 45 [some (aR 1), some (aI f), none, some (aI 3), some (aI v4), some (aI v5)] [] Mq45 0 0 (fun q N => ∃ r : Int, q = some (aI r) ∧ BF fC M N ∧ mI N 1 = mI M 1 ∧ (-1) ≤ r ∧ r ≤ 3 ∧ PutS f t (cS M) (cS N) r) := by
            intro n45
            induction n45 with
            | zero => intro Mq45 v4 v5 hQ45 kp45_1 g45_4a g45_4b g45_5a g45_5b g45i0 hm45; exact absurd hm45 (Nat.not_lt_zero _)
            | succ n45 ih45 =>
              intro Mq45 v4 v5 hQ45 kp45_1 g45_4a g45_4b g45_5a g45_5b g45i0 hm45
              refine vc_iload dX6_putTurns_45 rfl ?_
              refine vc_iload_n dX6_putTurns_47 rfl ?_
              refine vc_icmp_lt dX6_putTurns_48 (fun h6 => ?_) (fun h6 => ?_)
              · refine vc_iload_n dX6_putTurns_92 rfl ?_
                refine vc_iret dX6_putTurns_93 rfl (Nat.le_of_ble_eq_true rfl) (Nat.le_of_ble_eq_true rfl) ?_
                have hcn : cnT t = 3 := (if_neg (by omega)).trans (if_neg (by omega))
                exact ⟨_, rfl, hQ45, kp45_1, by omega, by omega, Or.inr ⟨by omega, Or.inl ⟨by rw [hcn, g45i0, show (v5 - f + 1).toNat = 0 by omega]; rfl, by rw [hcn]; rfl⟩⟩⟩
              · refine vc_iload dX6_putTurns_51 rfl ?_
                refine vc_sipush dX6_putTurns_53 rfl ?_
                refine vc_iremE dX6_putTurns_56 (by omega) (by omega) ?_
                refine vc_cSI dX6_putTurns_57 (sfX6_isTurnF (M := Mq45) hQ45.1  (v4 % 1000) (by omega) (by omega)) rfl okX6_isTurn stX6_isTurn lkX6_95 rfl (Nat.le_of_ble_eq_true rfl) ⟨rfl, rfl⟩ (Nat.le_of_ble_eq_true rfl) (Nat.le_of_ble_eq_true rfl) (Nat.le_of_ble_eq_true rfl) ?_
                rintro x7 _ ⟨rfl, h8, h9, h10⟩
                refine vc_if_ne dX6_putTurns_60 (fun h11 => ?_) (fun h11 => ?_)
                · have hit : isTu (v4 % 1000) := by rcases h10 with h | h; (exact h.2); (exfalso; omega)
                  refine vc_aload_n dX6_putTurns_65 rfl ?_
                  refine vc_getR dX6_putTurns_66 flX6_24 (s_1 hQ45.1.1) rfl (r_1_4 hQ45.1.1) ?_
                  refine vc_iload dX6_putTurns_69 rfl ?_
                  refine vc_iload dX6_putTurns_71 rfl ?_
                  refine vc_sipush dX6_putTurns_73 rfl ?_
                  refine vc_iremE dX6_putTurns_76 (by omega) (by omega) ?_
                  refine vc_iastore dX6_putTurns_77 (s_6 hQ45.1.1) (by omega) (by omega) ?_
                  have kp12 : mI (sI Mq45 6 v5.toNat (v4 % 1000)) 1 = mI M 1 := (kp_sI kp45_1 rfl)
                  have hB13 : BF fC M (sI Mq45 6 v5.toNat (v4 % 1000)) := BF.w6 hQ45 (fun _ => rfl) _
                  refine vc_iload dX6_putTurns_78 rfl ?_
                  refine vc_sipush dX6_putTurns_80 rfl ?_
                  refine vc_idivE dX6_putTurns_83 (by omega) (by omega) ?_
                  refine vc_nameI (fun x14 ex14 => ?_)
                  refine vc_istore dX6_putTurns_84 (by decide) rfl (show _ = [some (aR 1), some (aI f), none, some (aI 3), some (aI x14), some (aI v5)] from rfl) ?_
                  refine vc_iincE dX6_putTurns_86 rfl (by omega) (by omega) (by decide) rfl (show _ = [some (aR 1), some (aI f), none, some (aI 3), some (aI x14), some (aI (v5 + (-1)))] from rfl) ?_
                  refine vc_goto dX6_putTurns_89 ?_
                  exact ih45 (sI Mq45 6 v5.toNat (v4 % 1000)) x14 (v5 + (-1)) hB13 kp12 (by omega) (by omega) (by omega) (by omega) (by first | (rw [show (x5 - f + 1).toNat = 3 by omega]) | (rw [g45i0, show (v5 - f + 1).toNat = (v5 + -1 - f + 1).toNat + 1 by omega, pTn_s hit, cS_w rfl, show (f + ((v5 + -1 - f + 1).toNat : Int)).toNat = v5.toNat by omega]; first | done | (subst_vars; rfl))) (by omega)
                · refine vc_iconst dX6_putTurns_63 rfl ?_
                  refine vc_iret dX6_putTurns_64 rfl (Nat.le_of_ble_eq_true rfl) (Nat.le_of_ble_eq_true rfl) ?_
                  have hcn : cnT t = 3 := (if_neg (by omega)).trans (if_neg (by omega))
                  have hit : ¬ isTu (v4 % 1000) := by rcases h10 with h | h; (exfalso; omega); (exact h.2)
                  exact ⟨_, rfl, hQ45, kp45_1, by omega, by omega, Or.inr ⟨by omega, Or.inr ⟨by rw [hcn, g45i0, show (v5 - f + 1).toNat = (v5 - f).toNat + 1 by omega, pTn_f hit], rfl⟩⟩⟩
          refine vc_less [some (aR 1), some (aI f), none, some (aI 3), some (aI t), some (aI x5)] (lessL_keep (lessL_keep (lessL_drop (lessL_keep (lessL_keep (lessL_keep (lessL_nil))))))) ?_
          exact lp45 _ M t x5 hB0 rfl (by omega) (by omega) (by omega) (by omega) (by first | (rw [show (x5 - f + 1).toNat = 3 by omega]) | (rw [g45i0, show (v5 - f + 1).toNat = (v5 + -1 - f + 1).toNat + 1 by omega, pTn_s hit, cS_w rfl, show (f + ((v5 + -1 - f + 1).toNat : Int)).toNat = v5.toNat by omega]; first | done | (subst_vars; rfl))) (Nat.lt_succ_self _)
        · refine vc_iconst dX6_putTurns_29 rfl ?_
          refine vc_goto dX6_putTurns_30 ?_
          refine vc_istore_n dX6_putTurns_34 (by decide) rfl (show _ = [some (aR 1), some (aI f), some (aI t), some (aI 2), none, none] from rfl) ?_
          refine vc_iload_n dX6_putTurns_35 rfl ?_
          refine vc_istore dX6_putTurns_36 (by decide) rfl (show _ = [some (aR 1), some (aI f), some (aI t), some (aI 2), some (aI t), none] from rfl) ?_
          refine vc_iload_n dX6_putTurns_38 rfl ?_
          refine vc_iload_n dX6_putTurns_39 rfl ?_
          refine vc_iaddE dX6_putTurns_40 (by omega) (by omega) ?_
          refine vc_iconst dX6_putTurns_41 rfl ?_
          refine vc_isubE dX6_putTurns_42 (by omega) (by omega) ?_
          refine vc_nameI (fun x15 ex15 => ?_)
          refine vc_istore dX6_putTurns_43 (by decide) rfl (show _ = [some (aR 1), some (aI f), some (aI t), some (aI 2), some (aI t), some (aI x15)] from rfl) ?_
          have lp45 : ∀ (n45 : Nat) (Mq45 : Mem) (v4 : Int) (v5 : Int), (BF fC M Mq45) → (mI Mq45 1 = mI M 1) → (0 ≤ v4) → (v4 ≤ 999999999) → (f - 1 ≤ v5) → (v5 ≤ f + 2) → (pTn 2 f t (cS M) = pTn (v5 - f + 1).toNat f v4 (cS Mq45)) → (v5 - f + 1).toNat < n45 → VC l mdX6_putTurns 45 [some (aR 1), some (aI f), none, some (aI 2), some (aI v4), some (aI v5)] [] Mq45 0 0 (fun q N => ∃ r : Int, q = some (aI r) ∧ BF fC M N ∧ mI N 1 = mI M 1 ∧ (-1) ≤ r ∧ r ≤ 3 ∧ PutS f t (cS M) (cS N) r) := by
            intro n45
            induction n45 with
            | zero => intro Mq45 v4 v5 hQ45 kp45_1 g45_4a g45_4b g45_5a g45_5b g45i0 hm45; exact absurd hm45 (Nat.not_lt_zero _)
            | succ n45 ih45 =>
              intro Mq45 v4 v5 hQ45 kp45_1 g45_4a g45_4b g45_5a g45_5b g45i0 hm45
              refine vc_iload dX6_putTurns_45 rfl ?_
              refine vc_iload_n dX6_putTurns_47 rfl ?_
              refine vc_icmp_lt dX6_putTurns_48 (fun h16 => ?_) (fun h16 => ?_)
              · refine vc_iload_n dX6_putTurns_92 rfl ?_
                refine vc_iret dX6_putTurns_93 rfl (Nat.le_of_ble_eq_true rfl) (Nat.le_of_ble_eq_true rfl) ?_
                have hcn : cnT t = 2 := (if_neg (by omega)).trans (if_pos (by omega))
                exact ⟨_, rfl, hQ45, kp45_1, by omega, by omega, Or.inr ⟨by omega, Or.inl ⟨by rw [hcn, g45i0, show (v5 - f + 1).toNat = 0 by omega]; rfl, by rw [hcn]; rfl⟩⟩⟩
              · refine vc_iload dX6_putTurns_51 rfl ?_
                refine vc_sipush dX6_putTurns_53 rfl ?_
                refine vc_iremE dX6_putTurns_56 (by omega) (by omega) ?_
                refine vc_cSI dX6_putTurns_57 (sfX6_isTurnF (M := Mq45) hQ45.1  (v4 % 1000) (by omega) (by omega)) rfl okX6_isTurn stX6_isTurn lkX6_95 rfl (Nat.le_of_ble_eq_true rfl) ⟨rfl, rfl⟩ (Nat.le_of_ble_eq_true rfl) (Nat.le_of_ble_eq_true rfl) (Nat.le_of_ble_eq_true rfl) ?_
                rintro x17 _ ⟨rfl, h18, h19, h20⟩
                refine vc_if_ne dX6_putTurns_60 (fun h21 => ?_) (fun h21 => ?_)
                · have hit : isTu (v4 % 1000) := by rcases h20 with h | h; (exact h.2); (exfalso; omega)
                  refine vc_aload_n dX6_putTurns_65 rfl ?_
                  refine vc_getR dX6_putTurns_66 flX6_24 (s_1 hQ45.1.1) rfl (r_1_4 hQ45.1.1) ?_
                  refine vc_iload dX6_putTurns_69 rfl ?_
                  refine vc_iload dX6_putTurns_71 rfl ?_
                  refine vc_sipush dX6_putTurns_73 rfl ?_
                  refine vc_iremE dX6_putTurns_76 (by omega) (by omega) ?_
                  refine vc_iastore dX6_putTurns_77 (s_6 hQ45.1.1) (by omega) (by omega) ?_
                  have kp22 : mI (sI Mq45 6 v5.toNat (v4 % 1000)) 1 = mI M 1 := (kp_sI kp45_1 rfl)
                  have hB23 : BF fC M (sI Mq45 6 v5.toNat (v4 % 1000)) := BF.w6 hQ45 (fun _ => rfl) _
                  refine vc_iload dX6_putTurns_78 rfl ?_
                  refine vc_sipush dX6_putTurns_80 rfl ?_
                  refine vc_idivE dX6_putTurns_83 (by omega) (by omega) ?_
                  refine vc_nameI (fun x24 ex24 => ?_)
                  refine vc_istore dX6_putTurns_84 (by decide) rfl (show _ = [some (aR 1), some (aI f), none, some (aI 2), some (aI x24), some (aI v5)] from rfl) ?_
                  refine vc_iincE dX6_putTurns_86 rfl (by omega) (by omega) (by decide) rfl (show _ = [some (aR 1), some (aI f), none, some (aI 2), some (aI x24), some (aI (v5 + (-1)))] from rfl) ?_
                  refine vc_goto dX6_putTurns_89 ?_
                  exact ih45 (sI Mq45 6 v5.toNat (v4 % 1000)) x24 (v5 + (-1)) hB23 kp22 (by omega) (by omega) (by omega) (by omega) (by first | (rw [show (x15 - f + 1).toNat = 2 by omega]) | (rw [g45i0, show (v5 - f + 1).toNat = (v5 + -1 - f + 1).toNat + 1 by omega, pTn_s hit, cS_w rfl, show (f + ((v5 + -1 - f + 1).toNat : Int)).toNat = v5.toNat by omega]; first | done | (subst_vars; rfl))) (by omega)
                · refine vc_iconst dX6_putTurns_63 rfl ?_
                  refine vc_iret dX6_putTurns_64 rfl (Nat.le_of_ble_eq_true rfl) (Nat.le_of_ble_eq_true rfl) ?_
                  have hcn : cnT t = 2 := (if_neg (by omega)).trans (if_pos (by omega))
                  have hit : ¬ isTu (v4 % 1000) := by rcases h20 with h | h; (exfalso; omega); (exact h.2)
                  exact ⟨_, rfl, hQ45, kp45_1, by omega, by omega, Or.inr ⟨by omega, Or.inr ⟨by rw [hcn, g45i0, show (v5 - f + 1).toNat = (v5 - f).toNat + 1 by omega, pTn_f hit], rfl⟩⟩⟩
          refine vc_less [some (aR 1), some (aI f), none, some (aI 2), some (aI t), some (aI x15)] (lessL_keep (lessL_keep (lessL_drop (lessL_keep (lessL_keep (lessL_keep (lessL_nil))))))) ?_
          exact lp45 _ M t x15 hB0 rfl (by omega) (by omega) (by omega) (by omega) (by first | (rw [show (x15 - f + 1).toNat = 2 by omega]) | (rw [g45i0, show (v5 - f + 1).toNat = (v5 + -1 - f + 1).toNat + 1 by omega, pTn_s hit, cS_w rfl, show (f + ((v5 + -1 - f + 1).toNat : Int)).toNat = v5.toNat by omega]; first | done | (subst_vars; rfl))) (Nat.lt_succ_self _)
      · refine vc_iconst dX6_putTurns_19 rfl ?_
        refine vc_goto dX6_putTurns_20 ?_
        refine vc_istore_n dX6_putTurns_34 (by decide) rfl (show _ = [some (aR 1), some (aI f), some (aI t), some (aI 1), none, none] from rfl) ?_
        refine vc_iload_n dX6_putTurns_35 rfl ?_
        refine vc_istore dX6_putTurns_36 (by decide) rfl (show _ = [some (aR 1), some (aI f), some (aI t), some (aI 1), some (aI t), none] from rfl) ?_
        refine vc_iload_n dX6_putTurns_38 rfl ?_
        refine vc_iload_n dX6_putTurns_39 rfl ?_
        refine vc_iaddE dX6_putTurns_40 (by omega) (by omega) ?_
        refine vc_iconst dX6_putTurns_41 rfl ?_
        refine vc_isubE dX6_putTurns_42 (by omega) (by omega) ?_
        refine vc_nameI (fun x25 ex25 => ?_)
        refine vc_istore dX6_putTurns_43 (by decide) rfl (show _ = [some (aR 1), some (aI f), some (aI t), some (aI 1), some (aI t), some (aI x25)] from rfl) ?_
        have lp45 : ∀ (n45 : Nat) (Mq45 : Mem) (v4 : Int) (v5 : Int), (BF fC M Mq45) → (mI Mq45 1 = mI M 1) → (0 ≤ v4) → (v4 ≤ 999999999) → (f - 1 ≤ v5) → (v5 ≤ f + 2) → (pTn 1 f t (cS M) = pTn (v5 - f + 1).toNat f v4 (cS Mq45)) → (v5 - f + 1).toNat < n45 → VC l mdX6_putTurns 45 [some (aR 1), some (aI f), none, some (aI 1), some (aI v4), some (aI v5)] [] Mq45 0 0 (fun q N => ∃ r : Int, q = some (aI r) ∧ BF fC M N ∧ mI N 1 = mI M 1 ∧ (-1) ≤ r ∧ r ≤ 3 ∧ PutS f t (cS M) (cS N) r) := by
          intro n45
          induction n45 with
          | zero => intro Mq45 v4 v5 hQ45 kp45_1 g45_4a g45_4b g45_5a g45_5b g45i0 hm45; exact absurd hm45 (Nat.not_lt_zero _)
          | succ n45 ih45 =>
            intro Mq45 v4 v5 hQ45 kp45_1 g45_4a g45_4b g45_5a g45_5b g45i0 hm45
            refine vc_iload dX6_putTurns_45 rfl ?_
            refine vc_iload_n dX6_putTurns_47 rfl ?_
            refine vc_icmp_lt dX6_putTurns_48 (fun h26 => ?_) (fun h26 => ?_)
            · refine vc_iload_n dX6_putTurns_92 rfl ?_
              refine vc_iret dX6_putTurns_93 rfl (Nat.le_of_ble_eq_true rfl) (Nat.le_of_ble_eq_true rfl) ?_
              have hcn : cnT t = 1 := if_pos (by omega)
              exact ⟨_, rfl, hQ45, kp45_1, by omega, by omega, Or.inr ⟨by omega, Or.inl ⟨by rw [hcn, g45i0, show (v5 - f + 1).toNat = 0 by omega]; rfl, by rw [hcn]; rfl⟩⟩⟩
            · refine vc_iload dX6_putTurns_51 rfl ?_
              refine vc_sipush dX6_putTurns_53 rfl ?_
              refine vc_iremE dX6_putTurns_56 (by omega) (by omega) ?_
              refine vc_cSI dX6_putTurns_57 (sfX6_isTurnF (M := Mq45) hQ45.1  (v4 % 1000) (by omega) (by omega)) rfl okX6_isTurn stX6_isTurn lkX6_95 rfl (Nat.le_of_ble_eq_true rfl) ⟨rfl, rfl⟩ (Nat.le_of_ble_eq_true rfl) (Nat.le_of_ble_eq_true rfl) (Nat.le_of_ble_eq_true rfl) ?_
              rintro x27 _ ⟨rfl, h28, h29, h30⟩
              refine vc_if_ne dX6_putTurns_60 (fun h31 => ?_) (fun h31 => ?_)
              · have hit : isTu (v4 % 1000) := by rcases h30 with h | h; (exact h.2); (exfalso; omega)
                refine vc_aload_n dX6_putTurns_65 rfl ?_
                refine vc_getR dX6_putTurns_66 flX6_24 (s_1 hQ45.1.1) rfl (r_1_4 hQ45.1.1) ?_
                refine vc_iload dX6_putTurns_69 rfl ?_
                refine vc_iload dX6_putTurns_71 rfl ?_
                refine vc_sipush dX6_putTurns_73 rfl ?_
                refine vc_iremE dX6_putTurns_76 (by omega) (by omega) ?_
                refine vc_iastore dX6_putTurns_77 (s_6 hQ45.1.1) (by omega) (by omega) ?_
                have kp32 : mI (sI Mq45 6 v5.toNat (v4 % 1000)) 1 = mI M 1 := (kp_sI kp45_1 rfl)
                have hB33 : BF fC M (sI Mq45 6 v5.toNat (v4 % 1000)) := BF.w6 hQ45 (fun _ => rfl) _
                refine vc_iload dX6_putTurns_78 rfl ?_
                refine vc_sipush dX6_putTurns_80 rfl ?_
                refine vc_idivE dX6_putTurns_83 (by omega) (by omega) ?_
                refine vc_nameI (fun x34 ex34 => ?_)
                refine vc_istore dX6_putTurns_84 (by decide) rfl (show _ = [some (aR 1), some (aI f), none, some (aI 1), some (aI x34), some (aI v5)] from rfl) ?_
                refine vc_iincE dX6_putTurns_86 rfl (by omega) (by omega) (by decide) rfl (show _ = [some (aR 1), some (aI f), none, some (aI 1), some (aI x34), some (aI (v5 + (-1)))] from rfl) ?_
                refine vc_goto dX6_putTurns_89 ?_
                exact ih45 (sI Mq45 6 v5.toNat (v4 % 1000)) x34 (v5 + (-1)) hB33 kp32 (by omega) (by omega) (by omega) (by omega) (by first | (rw [show (x25 - f + 1).toNat = 1 by omega]) | (rw [g45i0, show (v5 - f + 1).toNat = (v5 + -1 - f + 1).toNat + 1 by omega, pTn_s hit, cS_w rfl, show (f + ((v5 + -1 - f + 1).toNat : Int)).toNat = v5.toNat by omega]; first | done | (subst_vars; rfl))) (by omega)
              · refine vc_iconst dX6_putTurns_63 rfl ?_
                refine vc_iret dX6_putTurns_64 rfl (Nat.le_of_ble_eq_true rfl) (Nat.le_of_ble_eq_true rfl) ?_
                have hcn : cnT t = 1 := if_pos (by omega)
                have hit : ¬ isTu (v4 % 1000) := by rcases h30 with h | h; (exfalso; omega); (exact h.2)
                exact ⟨_, rfl, hQ45, kp45_1, by omega, by omega, Or.inr ⟨by omega, Or.inr ⟨by rw [hcn, g45i0, show (v5 - f + 1).toNat = (v5 - f).toNat + 1 by omega, pTn_f hit], rfl⟩⟩⟩
        refine vc_less [some (aR 1), some (aI f), none, some (aI 1), some (aI t), some (aI x25)] (lessL_keep (lessL_keep (lessL_drop (lessL_keep (lessL_keep (lessL_keep (lessL_nil))))))) ?_
        exact lp45 _ M t x25 hB0 rfl (by omega) (by omega) (by omega) (by omega) (by first | (rw [show (x25 - f + 1).toNat = 1 by omega]) | (rw [g45i0, show (v5 - f + 1).toNat = (v5 + -1 - f + 1).toNat + 1 by omega, pTn_s hit, cS_w rfl, show (f + ((v5 + -1 - f + 1).toNat : Int)).toNat = v5.toNat by omega]; first | done | (subst_vars; rfl))) (Nat.lt_succ_self _)
    · refine vc_iconst dX6_putTurns_10 rfl ?_
      refine vc_iret dX6_putTurns_11 rfl (Nat.le_of_ble_eq_true rfl) (Nat.le_of_ble_eq_true rfl) ?_
      exact ⟨_, rfl, hB0, rfl, by omega, by omega, Or.inl ⟨by omega, rfl, rfl⟩⟩

set_option maxRecDepth 4000 in
theorem sfX6_addTellingF {l : Launch} {M : Mem} (hB : Box M)  (t : Int) (f : Int) (a : Int) (b : Int)  : Call l mdX6_addTelling [aR 1, aI t, aI f, aI a, aI b] M (fun q N => ∃ r : Int, q = some (aI r) ∧ BF fC M N ∧ TellingS t f a b (cS M) (cS N) r) := by
  have hB0 : BF fC M M := BF.start hB
  refine Call.of [some (aR 1), some (aI t), some (aI f), some (aI a), some (aI b), none, none, none] rfl (Nat.le_of_ble_eq_true rfl) rfl ?_
  refine vc_ok (fun hoM hoS hoL => ?_)
  have hr1 : -2147483648 ≤ t ∧ t < 2147483648 := hoL 1 _ rfl
  have hr2 : -2147483648 ≤ f ∧ f < 2147483648 := hoL 2 _ rfl
  have hr3 : -2147483648 ≤ a ∧ a < 2147483648 := hoL 3 _ rfl
  have hr4 : -2147483648 ≤ b ∧ b < 2147483648 := hoL 4 _ rfl
  have e18 : cS M 1 8 = mI M 1 8 := rfl
  have e19 : cS M 1 9 = mI M 1 9 := rfl
  refine vc_aload_n dX6_addTelling_0 rfl ?_
  refine vc_iload_n dX6_addTelling_1 rfl ?_
  refine vc_cVI dX6_addTelling_2 (sfX6_hasTellerF (M := M) hB0.1  t ) rfl okX6_hasTeller viX6_hasTeller lkX6_87 (s_1 hB0.1.1) cl_6 rfl (Nat.le_of_ble_eq_true rfl) ⟨rfl, rfl⟩ (Nat.le_of_ble_eq_true rfl) (Nat.le_of_ble_eq_true rfl) (Nat.le_of_ble_eq_true rfl) ?_
  rintro x1 _ ⟨rfl, h2, h3, h4, h5⟩
  refine vc_if_eq dX6_addTelling_5 (fun h6 => ?_) (fun h6 => ?_)
  · refine vc_iconst dX6_addTelling_24 rfl ?_
    refine vc_iret dX6_addTelling_25 rfl (Nat.le_of_ble_eq_true rfl) (Nat.le_of_ble_eq_true rfl) ?_
    refine ⟨_, rfl, hB0, ?_⟩
    exact Or.inl ⟨by unfold okTg; omega, rfl, rfl⟩
  · refine vc_iload_n dX6_addTelling_8 rfl ?_
    refine vc_cNI dX6_addTelling_9 (sfX11_isDirectionF (M := M) hB0.1  f ) rfl okX11_isDirection stX11_isDirection nkX6_81 rfl (Nat.le_of_ble_eq_true rfl) ⟨rfl, rfl⟩ (Nat.le_of_ble_eq_true rfl) (Nat.le_of_ble_eq_true rfl) (Nat.le_of_ble_eq_true rfl) ?_
    rintro x7 _ ⟨rfl, h8, h9, h10⟩
    refine vc_if_eq dX6_addTelling_12 (fun h11 => ?_) (fun h11 => ?_)
    · refine vc_iconst dX6_addTelling_24 rfl ?_
      refine vc_iret dX6_addTelling_25 rfl (Nat.le_of_ble_eq_true rfl) (Nat.le_of_ble_eq_true rfl) ?_
      refine ⟨_, rfl, hB0, ?_⟩
      exact Or.inl ⟨by unfold okTg; omega, rfl, rfl⟩
    · refine vc_aload_n dX6_addTelling_15 rfl ?_
      refine vc_getI dX6_addTelling_16 flX6_58 (s_1 hB0.1.1) rfl ?_
      have k12 : 0 ≤ mI M 1 9 ∧ mI M 1 9 ≤ 8 := b1_9 (M := M) hB0.1
      refine vc_bipush dX6_addTelling_19 rfl ?_
      refine vc_icmp_lt dX6_addTelling_21 (fun h14 => ?_) (fun h14 => ?_)
      · refine vc_bipush dX6_addTelling_26 rfl ?_
        refine vc_aload_n dX6_addTelling_28 rfl ?_
        refine vc_getI dX6_addTelling_29 flX6_58 (s_1 hB0.1.1) rfl ?_
        refine vc_imulE dX6_addTelling_32 (by omega) (by omega) ?_
        refine vc_nameI (fun x16 ex16 => ?_)
        refine vc_istore dX6_addTelling_33 (by decide) rfl (show _ = [some (aR 1), some (aI t), some (aI f), some (aI a), some (aI b), some (aI x16), none, none] from rfl) ?_
        refine vc_aload_n dX6_addTelling_35 rfl ?_
        refine vc_iload dX6_addTelling_36 rfl ?_
        refine vc_iconst dX6_addTelling_38 rfl ?_
        refine vc_iaddE dX6_addTelling_39 (by omega) (by omega) ?_
        refine vc_iload_n dX6_addTelling_40 rfl ?_
        refine vc_cVI dX6_addTelling_41 (sfX6_putTurnsF (M := M) hB0.1  (x16 + 3) a (by omega) (by omega)) rfl okX6_putTurns viX6_putTurns lkX6_90 (s_1 hB0.1.1) cl_6 rfl (Nat.le_of_ble_eq_true rfl) ⟨rfl, rfl⟩ (Nat.le_of_ble_eq_true rfl) (Nat.le_of_ble_eq_true rfl) (Nat.le_of_ble_eq_true rfl) ?_
        rintro x17 M18 ⟨hB19, kp20, h21, h22, h23⟩
        have hB24 : BF fC M M18 := BF.go hB0 hB19
        have kp25 : mI M18 1 = mI M 1 := kp_go rfl kp20
        have hpt26 := h23
        refine vc_istore dX6_addTelling_44 (by decide) rfl (show _ = [some (aR 1), some (aI t), some (aI f), some (aI a), some (aI b), some (aI x16), some (aI x17), none] from rfl) ?_
        refine vc_iload dX6_addTelling_46 rfl ?_
        refine vc_if_ne dX6_addTelling_48 (fun h27 => ?_) (fun h27 => ?_)
        · refine vc_aload_n dX6_addTelling_55 rfl ?_
          refine vc_iload dX6_addTelling_56 rfl ?_
          refine vc_iconst dX6_addTelling_58 rfl ?_
          refine vc_iaddE dX6_addTelling_59 (by omega) (by omega) ?_
          refine vc_iconst dX6_addTelling_60 rfl ?_
          refine vc_iaddE dX6_addTelling_61 (by omega) (by omega) ?_
          refine vc_iload dX6_addTelling_62 rfl ?_
          refine vc_cVI dX6_addTelling_64 (sfX6_putTurnsF (M := M18) hB24.1  ((x16 + 3) + 3) b (by omega) (by omega)) rfl okX6_putTurns viX6_putTurns lkX6_90 (s_1 hB24.1.1) cl_6 rfl (Nat.le_of_ble_eq_true rfl) ⟨rfl, rfl⟩ (Nat.le_of_ble_eq_true rfl) (Nat.le_of_ble_eq_true rfl) (Nat.le_of_ble_eq_true rfl) ?_
          rintro x28 M29 ⟨hB30, kp31, h32, h33, h34⟩
          have hB35 : BF fC M M29 := BF.go hB24 hB30
          have kp36 : mI M29 1 = mI M 1 := kp_go kp25 kp31
          have hpt37 := h34
          refine vc_istore dX6_addTelling_67 (by decide) rfl (show _ = [some (aR 1), some (aI t), some (aI f), some (aI a), some (aI b), some (aI x16), some (aI x17), some (aI x28)] from rfl) ?_
          refine vc_iload dX6_addTelling_69 rfl ?_
          refine vc_iconst dX6_addTelling_71 rfl ?_
          refine vc_icmp_eq dX6_addTelling_72 (fun h38 => ?_) (fun h38 => ?_)
          · refine vc_iconst dX6_addTelling_92 rfl ?_
            refine vc_iret dX6_addTelling_93 rfl (Nat.le_of_ble_eq_true rfl) (Nat.le_of_ble_eq_true rfl) ?_
            refine ⟨_, rfl, hB35, ?_⟩
            have k19 : mI M29 1 9 = mI M 1 9 := congrFun kp36 9
            subst_vars
            refine Or.inr ⟨by unfold okTg; omega, _, cS M29, _, _, hpt26, Or.inr ⟨by omega, hpt37⟩, ?_⟩
            exact Or.inl ⟨by omega, by omega, rfl⟩
          · refine vc_iload dX6_addTelling_75 rfl ?_
            refine vc_iconst dX6_addTelling_77 rfl ?_
            refine vc_icmp_eq dX6_addTelling_78 (fun h39 => ?_) (fun h39 => ?_)
            · refine vc_iconst dX6_addTelling_92 rfl ?_
              refine vc_iret dX6_addTelling_93 rfl (Nat.le_of_ble_eq_true rfl) (Nat.le_of_ble_eq_true rfl) ?_
              refine ⟨_, rfl, hB35, ?_⟩
              have k19 : mI M29 1 9 = mI M 1 9 := congrFun kp36 9
              subst_vars
              refine Or.inr ⟨by unfold okTg; omega, _, cS M29, _, _, hpt26, Or.inr ⟨by omega, hpt37⟩, ?_⟩
              exact Or.inl ⟨by omega, by omega, rfl⟩
            · refine vc_iload dX6_addTelling_81 rfl ?_
              refine vc_if_le dX6_addTelling_83 (fun h40 => ?_) (fun h40 => ?_)
              · refine vc_aload_n dX6_addTelling_94 rfl ?_
                refine vc_getR dX6_addTelling_95 flX6_24 (s_1 hB35.1.1) rfl (r_1_4 hB35.1.1) ?_
                refine vc_iload dX6_addTelling_98 rfl ?_
                refine vc_iload_n dX6_addTelling_100 rfl ?_
                refine vc_iastore dX6_addTelling_101 (s_6 hB35.1.1) (by omega) (by omega) ?_
                have kp41 : mI (sI M29 6 x16.toNat t) 1 = mI M 1 := (kp_sI kp36 rfl)
                have hB42 : BF fC M (sI M29 6 x16.toNat t) := BF.w6 hB35 (fun _ => rfl) _
                refine vc_aload_n dX6_addTelling_102 rfl ?_
                refine vc_getR dX6_addTelling_103 flX6_24 (s_1 hB42.1.1) rfl (r_1_4 hB42.1.1) ?_
                refine vc_iload dX6_addTelling_106 rfl ?_
                refine vc_iconst dX6_addTelling_108 rfl ?_
                refine vc_iaddE dX6_addTelling_109 (by omega) (by omega) ?_
                refine vc_iload_n dX6_addTelling_110 rfl ?_
                refine vc_iastore dX6_addTelling_111 (s_6 hB42.1.1) (by omega) (by omega) ?_
                have kp43 : mI (sI (sI M29 6 x16.toNat t) 6 ((x16 + 1).toNat) f) 1 = mI M 1 := (kp_sI kp41 rfl)
                have hB44 : BF fC M (sI (sI M29 6 x16.toNat t) 6 ((x16 + 1).toNat) f) := BF.w6 hB42 (fun _ => rfl) _
                refine vc_aload_n dX6_addTelling_112 rfl ?_
                refine vc_getR dX6_addTelling_113 flX6_24 (s_1 hB44.1.1) rfl (r_1_4 hB44.1.1) ?_
                refine vc_iload dX6_addTelling_116 rfl ?_
                refine vc_iconst dX6_addTelling_118 rfl ?_
                refine vc_iaddE dX6_addTelling_119 (by omega) (by omega) ?_
                refine vc_iload dX6_addTelling_120 rfl ?_
                refine vc_iload dX6_addTelling_122 rfl ?_
                refine vc_iaddE dX6_addTelling_124 (by omega) (by omega) ?_
                refine vc_iastore dX6_addTelling_125 (s_6 hB44.1.1) (by omega) (by omega) ?_
                have kp45 : mI (sI (sI (sI M29 6 x16.toNat t) 6 ((x16 + 1).toNat) f) 6 ((x16 + 2).toNat) (x17 + x28)) 1 = mI M 1 := (kp_sI kp43 rfl)
                have hB46 : BF fC M (sI (sI (sI M29 6 x16.toNat t) 6 ((x16 + 1).toNat) f) 6 ((x16 + 2).toNat) (x17 + x28)) := BF.w6 hB44 (fun _ => rfl) _
                refine vc_aload_n dX6_addTelling_126 rfl ?_
                refine vc_dup dX6_addTelling_127 rfl ?_
                refine vc_getI dX6_addTelling_128 flX6_58 (s_1 hB46.1.1) rfl ?_
                refine vc_topI (mI M29 1 9) rfl ?_
                have k47 : 0 ≤ mI M29 1 9 ∧ mI M29 1 9 ≤ 8 := b1_9 (M := (sI (sI (sI M29 6 x16.toNat t) 6 ((x16 + 1).toNat) f) 6 ((x16 + 2).toNat) (x17 + x28))) hB46.1
                have k48 : mI M29 1 9 = mI M 1 9 := congrFun kp45 9
                refine vc_iconst dX6_addTelling_131 rfl ?_
                refine vc_iaddE dX6_addTelling_132 (by omega) (by omega) ?_
                refine vc_putI dX6_addTelling_133 (plX6_58 _ rfl) (s_1 hB46.1.1) rfl ?_
                have hB49 : BF fC M (sI (sI (sI (sI M29 6 x16.toNat t) 6 ((x16 + 1).toNat) f) 6 ((x16 + 2).toNat) (x17 + x28)) 1 9 ((mI M29 1 9) + 1)) := BF.w1_9 hB46 rfl (by omega) (by omega)
                refine vc_aload_n dX6_addTelling_136 rfl ?_
                refine vc_getI dX6_addTelling_137 flX6_58 (s_1 hB49.1.1) rfl ?_
                refine vc_topI ((mI M29 1 9) + 1) rfl ?_
                refine vc_iconst dX6_addTelling_140 rfl ?_
                refine vc_isubE dX6_addTelling_141 (by omega) (by omega) ?_
                refine vc_iret dX6_addTelling_142 rfl (Nat.le_of_ble_eq_true rfl) (Nat.le_of_ble_eq_true rfl) ?_
                refine ⟨_, rfl, hB49, ?_⟩
                have k19 : mI M29 1 9 = mI M 1 9 := congrFun kp36 9
                subst_vars
                refine Or.inr ⟨by unfold okTg; omega, _, cS M29, _, _, hpt26, Or.inr ⟨by omega, hpt37⟩, ?_⟩
                exact Or.inr ⟨by omega, by omega, by unfold tgS; rw [cS_w rfl, cS_w rfl, cS_w rfl, cS_w rfl]; rw [k19]; first | done | rfl⟩
              · refine vc_iload dX6_addTelling_86 rfl ?_
                refine vc_iconst dX6_addTelling_88 rfl ?_
                refine vc_icmp_ge dX6_addTelling_89 (fun h50 => ?_) (fun h50 => ?_)
                · refine vc_aload_n dX6_addTelling_94 rfl ?_
                  refine vc_getR dX6_addTelling_95 flX6_24 (s_1 hB35.1.1) rfl (r_1_4 hB35.1.1) ?_
                  refine vc_iload dX6_addTelling_98 rfl ?_
                  refine vc_iload_n dX6_addTelling_100 rfl ?_
                  refine vc_iastore dX6_addTelling_101 (s_6 hB35.1.1) (by omega) (by omega) ?_
                  have kp51 : mI (sI M29 6 x16.toNat t) 1 = mI M 1 := (kp_sI kp36 rfl)
                  have hB52 : BF fC M (sI M29 6 x16.toNat t) := BF.w6 hB35 (fun _ => rfl) _
                  refine vc_aload_n dX6_addTelling_102 rfl ?_
                  refine vc_getR dX6_addTelling_103 flX6_24 (s_1 hB52.1.1) rfl (r_1_4 hB52.1.1) ?_
                  refine vc_iload dX6_addTelling_106 rfl ?_
                  refine vc_iconst dX6_addTelling_108 rfl ?_
                  refine vc_iaddE dX6_addTelling_109 (by omega) (by omega) ?_
                  refine vc_iload_n dX6_addTelling_110 rfl ?_
                  refine vc_iastore dX6_addTelling_111 (s_6 hB52.1.1) (by omega) (by omega) ?_
                  have kp53 : mI (sI (sI M29 6 x16.toNat t) 6 ((x16 + 1).toNat) f) 1 = mI M 1 := (kp_sI kp51 rfl)
                  have hB54 : BF fC M (sI (sI M29 6 x16.toNat t) 6 ((x16 + 1).toNat) f) := BF.w6 hB52 (fun _ => rfl) _
                  refine vc_aload_n dX6_addTelling_112 rfl ?_
                  refine vc_getR dX6_addTelling_113 flX6_24 (s_1 hB54.1.1) rfl (r_1_4 hB54.1.1) ?_
                  refine vc_iload dX6_addTelling_116 rfl ?_
                  refine vc_iconst dX6_addTelling_118 rfl ?_
                  refine vc_iaddE dX6_addTelling_119 (by omega) (by omega) ?_
                  refine vc_iload dX6_addTelling_120 rfl ?_
                  refine vc_iload dX6_addTelling_122 rfl ?_
                  refine vc_iaddE dX6_addTelling_124 (by omega) (by omega) ?_
                  refine vc_iastore dX6_addTelling_125 (s_6 hB54.1.1) (by omega) (by omega) ?_
                  have kp55 : mI (sI (sI (sI M29 6 x16.toNat t) 6 ((x16 + 1).toNat) f) 6 ((x16 + 2).toNat) (x17 + x28)) 1 = mI M 1 := (kp_sI kp53 rfl)
                  have hB56 : BF fC M (sI (sI (sI M29 6 x16.toNat t) 6 ((x16 + 1).toNat) f) 6 ((x16 + 2).toNat) (x17 + x28)) := BF.w6 hB54 (fun _ => rfl) _
                  refine vc_aload_n dX6_addTelling_126 rfl ?_
                  refine vc_dup dX6_addTelling_127 rfl ?_
                  refine vc_getI dX6_addTelling_128 flX6_58 (s_1 hB56.1.1) rfl ?_
                  refine vc_topI (mI M29 1 9) rfl ?_
                  have k57 : 0 ≤ mI M29 1 9 ∧ mI M29 1 9 ≤ 8 := b1_9 (M := (sI (sI (sI M29 6 x16.toNat t) 6 ((x16 + 1).toNat) f) 6 ((x16 + 2).toNat) (x17 + x28))) hB56.1
                  have k58 : mI M29 1 9 = mI M 1 9 := congrFun kp55 9
                  refine vc_iconst dX6_addTelling_131 rfl ?_
                  refine vc_iaddE dX6_addTelling_132 (by omega) (by omega) ?_
                  refine vc_putI dX6_addTelling_133 (plX6_58 _ rfl) (s_1 hB56.1.1) rfl ?_
                  have hB59 : BF fC M (sI (sI (sI (sI M29 6 x16.toNat t) 6 ((x16 + 1).toNat) f) 6 ((x16 + 2).toNat) (x17 + x28)) 1 9 ((mI M29 1 9) + 1)) := BF.w1_9 hB56 rfl (by omega) (by omega)
                  refine vc_aload_n dX6_addTelling_136 rfl ?_
                  refine vc_getI dX6_addTelling_137 flX6_58 (s_1 hB59.1.1) rfl ?_
                  refine vc_topI ((mI M29 1 9) + 1) rfl ?_
                  refine vc_iconst dX6_addTelling_140 rfl ?_
                  refine vc_isubE dX6_addTelling_141 (by omega) (by omega) ?_
                  refine vc_iret dX6_addTelling_142 rfl (Nat.le_of_ble_eq_true rfl) (Nat.le_of_ble_eq_true rfl) ?_
                  refine ⟨_, rfl, hB59, ?_⟩
                  have k19 : mI M29 1 9 = mI M 1 9 := congrFun kp36 9
                  subst_vars
                  refine Or.inr ⟨by unfold okTg; omega, _, cS M29, _, _, hpt26, Or.inr ⟨by omega, hpt37⟩, ?_⟩
                  exact Or.inr ⟨by omega, by omega, by unfold tgS; rw [cS_w rfl, cS_w rfl, cS_w rfl, cS_w rfl]; rw [k19]; first | done | rfl⟩
                · refine vc_iconst dX6_addTelling_92 rfl ?_
                  refine vc_iret dX6_addTelling_93 rfl (Nat.le_of_ble_eq_true rfl) (Nat.le_of_ble_eq_true rfl) ?_
                  refine ⟨_, rfl, hB35, ?_⟩
                  have k19 : mI M29 1 9 = mI M 1 9 := congrFun kp36 9
                  subst_vars
                  refine Or.inr ⟨by unfold okTg; omega, _, cS M29, _, _, hpt26, Or.inr ⟨by omega, hpt37⟩, ?_⟩
                  exact Or.inl ⟨by omega, by omega, rfl⟩
        · refine vc_iconst dX6_addTelling_51 rfl ?_
          refine vc_goto dX6_addTelling_52 ?_
          refine vc_istore dX6_addTelling_67 (by decide) rfl (show _ = [some (aR 1), some (aI t), some (aI f), some (aI a), some (aI b), some (aI x16), some (aI x17), some (aI 0)] from rfl) ?_
          refine vc_iload dX6_addTelling_69 rfl ?_
          refine vc_iconst dX6_addTelling_71 rfl ?_
          refine vc_icmp_eq dX6_addTelling_72 (fun h60 => ?_) (fun h60 => ?_)
          · refine vc_iconst dX6_addTelling_92 rfl ?_
            refine vc_iret dX6_addTelling_93 rfl (Nat.le_of_ble_eq_true rfl) (Nat.le_of_ble_eq_true rfl) ?_
            refine ⟨_, rfl, hB24, ?_⟩
            have k19 : mI M18 1 9 = mI M 1 9 := congrFun kp25 9
            subst_vars
            refine Or.inr ⟨by unfold okTg; omega, _, cS M18, _, _, hpt26, Or.inl ⟨by omega, rfl, rfl⟩, ?_⟩
            exact Or.inl ⟨by omega, by omega, rfl⟩
          · refine vc_iload dX6_addTelling_75 rfl ?_
            refine vc_iconst dX6_addTelling_77 rfl ?_
            refine vc_icmp_eq dX6_addTelling_78 (fun h61 => by exfalso; omega) (fun h61 => ?_)
            refine vc_iload dX6_addTelling_81 rfl ?_
            refine vc_if_le dX6_addTelling_83 (fun h62 => ?_) (fun h62 => by exfalso; omega)
            refine vc_aload_n dX6_addTelling_94 rfl ?_
            refine vc_getR dX6_addTelling_95 flX6_24 (s_1 hB24.1.1) rfl (r_1_4 hB24.1.1) ?_
            refine vc_iload dX6_addTelling_98 rfl ?_
            refine vc_iload_n dX6_addTelling_100 rfl ?_
            refine vc_iastore dX6_addTelling_101 (s_6 hB24.1.1) (by omega) (by omega) ?_
            have kp63 : mI (sI M18 6 x16.toNat t) 1 = mI M 1 := (kp_sI kp25 rfl)
            have hB64 : BF fC M (sI M18 6 x16.toNat t) := BF.w6 hB24 (fun _ => rfl) _
            refine vc_aload_n dX6_addTelling_102 rfl ?_
            refine vc_getR dX6_addTelling_103 flX6_24 (s_1 hB64.1.1) rfl (r_1_4 hB64.1.1) ?_
            refine vc_iload dX6_addTelling_106 rfl ?_
            refine vc_iconst dX6_addTelling_108 rfl ?_
            refine vc_iaddE dX6_addTelling_109 (by omega) (by omega) ?_
            refine vc_iload_n dX6_addTelling_110 rfl ?_
            refine vc_iastore dX6_addTelling_111 (s_6 hB64.1.1) (by omega) (by omega) ?_
            have kp65 : mI (sI (sI M18 6 x16.toNat t) 6 ((x16 + 1).toNat) f) 1 = mI M 1 := (kp_sI kp63 rfl)
            have hB66 : BF fC M (sI (sI M18 6 x16.toNat t) 6 ((x16 + 1).toNat) f) := BF.w6 hB64 (fun _ => rfl) _
            refine vc_aload_n dX6_addTelling_112 rfl ?_
            refine vc_getR dX6_addTelling_113 flX6_24 (s_1 hB66.1.1) rfl (r_1_4 hB66.1.1) ?_
            refine vc_iload dX6_addTelling_116 rfl ?_
            refine vc_iconst dX6_addTelling_118 rfl ?_
            refine vc_iaddE dX6_addTelling_119 (by omega) (by omega) ?_
            refine vc_iload dX6_addTelling_120 rfl ?_
            refine vc_iload dX6_addTelling_122 rfl ?_
            refine vc_iaddE dX6_addTelling_124 (by omega) (by omega) ?_
            refine vc_iastore dX6_addTelling_125 (s_6 hB66.1.1) (by omega) (by omega) ?_
            have kp67 : mI (sI (sI (sI M18 6 x16.toNat t) 6 ((x16 + 1).toNat) f) 6 ((x16 + 2).toNat) (x17 + 0)) 1 = mI M 1 := (kp_sI kp65 rfl)
            have hB68 : BF fC M (sI (sI (sI M18 6 x16.toNat t) 6 ((x16 + 1).toNat) f) 6 ((x16 + 2).toNat) (x17 + 0)) := BF.w6 hB66 (fun _ => rfl) _
            refine vc_aload_n dX6_addTelling_126 rfl ?_
            refine vc_dup dX6_addTelling_127 rfl ?_
            refine vc_getI dX6_addTelling_128 flX6_58 (s_1 hB68.1.1) rfl ?_
            refine vc_topI (mI M18 1 9) rfl ?_
            have k69 : 0 ≤ mI M18 1 9 ∧ mI M18 1 9 ≤ 8 := b1_9 (M := (sI (sI (sI M18 6 x16.toNat t) 6 ((x16 + 1).toNat) f) 6 ((x16 + 2).toNat) (x17 + 0))) hB68.1
            have k70 : mI M18 1 9 = mI M 1 9 := congrFun kp67 9
            refine vc_iconst dX6_addTelling_131 rfl ?_
            refine vc_iaddE dX6_addTelling_132 (by omega) (by omega) ?_
            refine vc_putI dX6_addTelling_133 (plX6_58 _ rfl) (s_1 hB68.1.1) rfl ?_
            have hB71 : BF fC M (sI (sI (sI (sI M18 6 x16.toNat t) 6 ((x16 + 1).toNat) f) 6 ((x16 + 2).toNat) (x17 + 0)) 1 9 ((mI M18 1 9) + 1)) := BF.w1_9 hB68 rfl (by omega) (by omega)
            refine vc_aload_n dX6_addTelling_136 rfl ?_
            refine vc_getI dX6_addTelling_137 flX6_58 (s_1 hB71.1.1) rfl ?_
            refine vc_topI ((mI M18 1 9) + 1) rfl ?_
            refine vc_iconst dX6_addTelling_140 rfl ?_
            refine vc_isubE dX6_addTelling_141 (by omega) (by omega) ?_
            refine vc_iret dX6_addTelling_142 rfl (Nat.le_of_ble_eq_true rfl) (Nat.le_of_ble_eq_true rfl) ?_
            refine ⟨_, rfl, hB71, ?_⟩
            have k19 : mI M18 1 9 = mI M 1 9 := congrFun kp25 9
            subst_vars
            refine Or.inr ⟨by unfold okTg; omega, _, cS M18, _, _, hpt26, Or.inl ⟨by omega, rfl, rfl⟩, ?_⟩
            exact Or.inr ⟨by omega, by omega, by unfold tgS; rw [cS_w rfl, cS_w rfl, cS_w rfl, cS_w rfl]; rw [k19]; first | done | rfl⟩
      · refine vc_iconst dX6_addTelling_24 rfl ?_
        refine vc_iret dX6_addTelling_25 rfl (Nat.le_of_ble_eq_true rfl) (Nat.le_of_ble_eq_true rfl) ?_
        refine ⟨_, rfl, hB0, ?_⟩
        exact Or.inl ⟨by unfold okTg; omega, rfl, rfl⟩

