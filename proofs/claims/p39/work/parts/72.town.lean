/-! CONTRACTS of Town, Walk: what they answer lies in its range, the box stays (written by wip/p35/c72.py) -/
set_option maxRecDepth 4000 in
theorem sfX11_isDirection {l : Launch} {M : Mem} (hB : Box M)  (d : Int)  : Call l mdX11_isDirection [aI d] M (fun q N => ∃ r : Int, q = some (aI r) ∧ M = N ∧ 0 ≤ r ∧ r ≤ 1 ∧ (r = 0 ∨ (0 ≤ d ∧ d ≤ 3))) := by
  have hB0 : BF fQ M M := BF.start hB
  refine Call.of [some (aI d)] rfl (Nat.le_of_ble_eq_true rfl) rfl ?_
  refine vc_ok (fun hoM hoS hoL => ?_)
  have hr0 : -2147483648 ≤ d ∧ d < 2147483648 := hoL 0 _ rfl
  refine vc_iload_n dX11_isDirection_0 rfl ?_
  refine vc_if_lt dX11_isDirection_1 (fun h1 => ?_) (fun h1 => ?_)
  · refine vc_iconst dX11_isDirection_13 rfl ?_
    refine vc_zret dX11_isDirection_14 rfl (by first | decide | omega) (Nat.le_of_ble_eq_true rfl) (Nat.le_of_ble_eq_true rfl) ?_
    exact ⟨_, rfl, rfl, by omega, by omega, by omega⟩
  · refine vc_iload_n dX11_isDirection_4 rfl ?_
    refine vc_iconst dX11_isDirection_5 rfl ?_
    refine vc_icmp_ge dX11_isDirection_6 (fun h2 => ?_) (fun h2 => ?_)
    · refine vc_iconst dX11_isDirection_13 rfl ?_
      refine vc_zret dX11_isDirection_14 rfl (by first | decide | omega) (Nat.le_of_ble_eq_true rfl) (Nat.le_of_ble_eq_true rfl) ?_
      exact ⟨_, rfl, rfl, by omega, by omega, by omega⟩
    · refine vc_iconst dX11_isDirection_9 rfl ?_
      refine vc_goto dX11_isDirection_10 ?_
      refine vc_zret dX11_isDirection_14 rfl (by first | decide | omega) (Nat.le_of_ble_eq_true rfl) (Nat.le_of_ble_eq_true rfl) ?_
      exact ⟨_, rfl, rfl, by omega, by omega, by omega⟩

set_option maxRecDepth 4000 in
theorem sfX11_held {l : Launch} {M : Mem} (hB : Box M)  (v : Int) (lo : Int) (hi : Int)  : Call l mdX11_held [aI v, aI lo, aI hi] M (fun q N => ∃ r : Int, q = some (aI r) ∧ M = N) := by
  have hB0 : BF fQ M M := BF.start hB
  refine Call.of [some (aI v), some (aI lo), some (aI hi)] rfl (Nat.le_of_ble_eq_true rfl) rfl ?_
  refine vc_ok (fun hoM hoS hoL => ?_)
  have hr0 : -2147483648 ≤ v ∧ v < 2147483648 := hoL 0 _ rfl
  have hr1 : -2147483648 ≤ lo ∧ lo < 2147483648 := hoL 1 _ rfl
  have hr2 : -2147483648 ≤ hi ∧ hi < 2147483648 := hoL 2 _ rfl
  refine vc_iload_n dX11_held_0 rfl ?_
  refine vc_iload_n dX11_held_1 rfl ?_
  refine vc_iload_n dX11_held_2 rfl ?_
  refine vc_mminI dX11_held_3 lkX11_359 (Nat.le_of_ble_eq_true rfl) (Nat.le_of_ble_eq_true rfl) (Nat.le_of_ble_eq_true rfl) ?_
  have k1 := minZ_bd hi v
  refine vc_mmaxI dX11_held_6 lkX11_362 (Nat.le_of_ble_eq_true rfl) (Nat.le_of_ble_eq_true rfl) (Nat.le_of_ble_eq_true rfl) ?_
  have k2 := maxZ_bd lo (minZ hi v)
  refine vc_iret dX11_held_9 rfl (Nat.le_of_ble_eq_true rfl) (Nat.le_of_ble_eq_true rfl) ?_
  exact ⟨_, rfl, rfl⟩

set_option maxRecDepth 4000 in
theorem sfX1_sideOf {l : Launch} {M : Mem} (hB : Box M)  (fa : Int) (wh : Int)  : Call l mdX1_sideOf [aI fa, aI wh] M (fun q N => ∃ r : Int, q = some (aI r) ∧ M = N) := by
  have hB0 : BF fQ M M := BF.start hB
  refine Call.of [some (aI fa), some (aI wh)] rfl (Nat.le_of_ble_eq_true rfl) rfl ?_
  refine vc_ok (fun hoM hoS hoL => ?_)
  have hr0 : -2147483648 ≤ fa ∧ fa < 2147483648 := hoL 0 _ rfl
  have hr1 : -2147483648 ≤ wh ∧ wh < 2147483648 := hoL 1 _ rfl
  refine vc_iload_n dX1_sideOf_0 rfl ?_
  refine vc_iconst dX1_sideOf_1 rfl ?_
  refine vc_icmp_ne dX1_sideOf_2 (fun h1 => ?_) (fun h1 => ?_)
  · refine vc_iload_n dX1_sideOf_13 rfl ?_
    refine vc_iconst dX1_sideOf_14 rfl ?_
    refine vc_icmp_ne dX1_sideOf_15 (fun h2 => ?_) (fun h2 => ?_)
    · refine vc_iload_n dX1_sideOf_26 rfl ?_
      refine vc_iret dX1_sideOf_27 rfl (Nat.le_of_ble_eq_true rfl) (Nat.le_of_ble_eq_true rfl) ?_
      exact ⟨_, rfl, rfl⟩
    · refine vc_iload_n dX1_sideOf_18 rfl ?_
      refine vc_iconst dX1_sideOf_19 rfl ?_
      refine vc_iadd dX1_sideOf_20 ?_
      refine vc_iconst dX1_sideOf_21 rfl ?_
      refine vc_iandW dX1_sideOf_22 4 2 rfl (by decide) rfl ?_
      refine vc_goto dX1_sideOf_23 ?_
      refine vc_iret dX1_sideOf_27 rfl (Nat.le_of_ble_eq_true rfl) (Nat.le_of_ble_eq_true rfl) ?_
      exact ⟨_, rfl, rfl⟩
  · refine vc_iload_n dX1_sideOf_5 rfl ?_
    refine vc_iconst dX1_sideOf_6 rfl ?_
    refine vc_iadd dX1_sideOf_7 ?_
    refine vc_iconst dX1_sideOf_8 rfl ?_
    refine vc_iandW dX1_sideOf_9 4 2 rfl (by decide) rfl ?_
    refine vc_goto dX1_sideOf_10 ?_
    refine vc_iret dX1_sideOf_27 rfl (Nat.le_of_ble_eq_true rfl) (Nat.le_of_ble_eq_true rfl) ?_
    exact ⟨_, rfl, rfl⟩

set_option maxRecDepth 4000 in
theorem sfX6_hasCorner {l : Launch} {M : Mem} (hB : Box M)  (c : Int)  : Call l mdX6_hasCorner [aR 1, aI c] M (fun q N => ∃ r : Int, q = some (aI r) ∧ M = N ∧ 0 ≤ r ∧ r ≤ 1 ∧ (r = 0 ∨ (0 ≤ c ∧ c < mI M 1 6 ∧ c ≤ 15))) := by
  have hB0 : BF fQ M M := BF.start hB
  refine Call.of [some (aR 1), some (aI c)] rfl (Nat.le_of_ble_eq_true rfl) rfl ?_
  refine vc_ok (fun hoM hoS hoL => ?_)
  have hr1 : -2147483648 ≤ c ∧ c < 2147483648 := hoL 1 _ rfl
  refine vc_iload_n dX6_hasCorner_0 rfl ?_
  refine vc_if_lt dX6_hasCorner_1 (fun h1 => ?_) (fun h1 => ?_)
  · refine vc_iconst dX6_hasCorner_16 rfl ?_
    refine vc_zret dX6_hasCorner_17 rfl (by first | decide | omega) (Nat.le_of_ble_eq_true rfl) (Nat.le_of_ble_eq_true rfl) ?_
    exact ⟨_, rfl, rfl, by omega, by omega, by omega⟩
  · refine vc_iload_n dX6_hasCorner_4 rfl ?_
    refine vc_aload_n dX6_hasCorner_5 rfl ?_
    refine vc_getI dX6_hasCorner_6 flX6_52 (s_1 hB0.1.1) rfl ?_
    have k2 : 0 ≤ mI M 1 6 ∧ mI M 1 6 ≤ 16 := b1_6 (M := M) hB0.1
    refine vc_icmp_ge dX6_hasCorner_9 (fun h3 => ?_) (fun h3 => ?_)
    · refine vc_iconst dX6_hasCorner_16 rfl ?_
      refine vc_zret dX6_hasCorner_17 rfl (by first | decide | omega) (Nat.le_of_ble_eq_true rfl) (Nat.le_of_ble_eq_true rfl) ?_
      exact ⟨_, rfl, rfl, by omega, by omega, by omega⟩
    · refine vc_iconst dX6_hasCorner_12 rfl ?_
      refine vc_goto dX6_hasCorner_13 ?_
      refine vc_zret dX6_hasCorner_17 rfl (by first | decide | omega) (Nat.le_of_ble_eq_true rfl) (Nat.le_of_ble_eq_true rfl) ?_
      exact ⟨_, rfl, rfl, by omega, by omega, by omega⟩

set_option maxRecDepth 4000 in
theorem sfX6_hasTeller {l : Launch} {M : Mem} (hB : Box M)  (c : Int)  : Call l mdX6_hasTeller [aR 1, aI c] M (fun q N => ∃ r : Int, q = some (aI r) ∧ M = N ∧ 0 ≤ r ∧ r ≤ 1 ∧ (r = 0 ∨ (0 ≤ c ∧ c < mI M 1 8 ∧ c ≤ 5))) := by
  have hB0 : BF fQ M M := BF.start hB
  refine Call.of [some (aR 1), some (aI c)] rfl (Nat.le_of_ble_eq_true rfl) rfl ?_
  refine vc_ok (fun hoM hoS hoL => ?_)
  have hr1 : -2147483648 ≤ c ∧ c < 2147483648 := hoL 1 _ rfl
  refine vc_iload_n dX6_hasTeller_0 rfl ?_
  refine vc_if_lt dX6_hasTeller_1 (fun h1 => ?_) (fun h1 => ?_)
  · refine vc_iconst dX6_hasTeller_16 rfl ?_
    refine vc_zret dX6_hasTeller_17 rfl (by first | decide | omega) (Nat.le_of_ble_eq_true rfl) (Nat.le_of_ble_eq_true rfl) ?_
    exact ⟨_, rfl, rfl, by omega, by omega, by omega⟩
  · refine vc_iload_n dX6_hasTeller_4 rfl ?_
    refine vc_aload_n dX6_hasTeller_5 rfl ?_
    refine vc_getI dX6_hasTeller_6 flX6_55 (s_1 hB0.1.1) rfl ?_
    have k2 : 0 ≤ mI M 1 8 ∧ mI M 1 8 ≤ 6 := b1_8 (M := M) hB0.1
    refine vc_icmp_ge dX6_hasTeller_9 (fun h3 => ?_) (fun h3 => ?_)
    · refine vc_iconst dX6_hasTeller_16 rfl ?_
      refine vc_zret dX6_hasTeller_17 rfl (by first | decide | omega) (Nat.le_of_ble_eq_true rfl) (Nat.le_of_ble_eq_true rfl) ?_
      exact ⟨_, rfl, rfl, by omega, by omega, by omega⟩
    · refine vc_iconst dX6_hasTeller_12 rfl ?_
      refine vc_goto dX6_hasTeller_13 ?_
      refine vc_zret dX6_hasTeller_17 rfl (by first | decide | omega) (Nat.le_of_ble_eq_true rfl) (Nat.le_of_ble_eq_true rfl) ?_
      exact ⟨_, rfl, rfl, by omega, by omega, by omega⟩

set_option maxRecDepth 4000 in
theorem sfX6_hasTelling {l : Launch} {M : Mem} (hB : Box M)  (c : Int)  : Call l mdX6_hasTelling [aR 1, aI c] M (fun q N => ∃ r : Int, q = some (aI r) ∧ M = N ∧ 0 ≤ r ∧ r ≤ 1 ∧ (r = 0 ∨ (0 ≤ c ∧ c < mI M 1 9 ∧ c ≤ 7))) := by
  have hB0 : BF fQ M M := BF.start hB
  refine Call.of [some (aR 1), some (aI c)] rfl (Nat.le_of_ble_eq_true rfl) rfl ?_
  refine vc_ok (fun hoM hoS hoL => ?_)
  have hr1 : -2147483648 ≤ c ∧ c < 2147483648 := hoL 1 _ rfl
  refine vc_iload_n dX6_hasTelling_0 rfl ?_
  refine vc_if_lt dX6_hasTelling_1 (fun h1 => ?_) (fun h1 => ?_)
  · refine vc_iconst dX6_hasTelling_16 rfl ?_
    refine vc_zret dX6_hasTelling_17 rfl (by first | decide | omega) (Nat.le_of_ble_eq_true rfl) (Nat.le_of_ble_eq_true rfl) ?_
    exact ⟨_, rfl, rfl, by omega, by omega, by omega⟩
  · refine vc_iload_n dX6_hasTelling_4 rfl ?_
    refine vc_aload_n dX6_hasTelling_5 rfl ?_
    refine vc_getI dX6_hasTelling_6 flX6_58 (s_1 hB0.1.1) rfl ?_
    have k2 : 0 ≤ mI M 1 9 ∧ mI M 1 9 ≤ 8 := b1_9 (M := M) hB0.1
    refine vc_icmp_ge dX6_hasTelling_9 (fun h3 => ?_) (fun h3 => ?_)
    · refine vc_iconst dX6_hasTelling_16 rfl ?_
      refine vc_zret dX6_hasTelling_17 rfl (by first | decide | omega) (Nat.le_of_ble_eq_true rfl) (Nat.le_of_ble_eq_true rfl) ?_
      exact ⟨_, rfl, rfl, by omega, by omega, by omega⟩
    · refine vc_iconst dX6_hasTelling_12 rfl ?_
      refine vc_goto dX6_hasTelling_13 ?_
      refine vc_zret dX6_hasTelling_17 rfl (by first | decide | omega) (Nat.le_of_ble_eq_true rfl) (Nat.le_of_ble_eq_true rfl) ?_
      exact ⟨_, rfl, rfl, by omega, by omega, by omega⟩

set_option maxRecDepth 4000 in
theorem sfX6_sightOf {l : Launch} {M : Mem} (hB : Box M)  (c : Int)  : Call l mdX6_sightOf [aR 1, aI c] M (fun q N => ∃ r : Int, q = some (aI r) ∧ M = N) := by
  have hB0 : BF fQ M M := BF.start hB
  refine Call.of [some (aR 1), some (aI c)] rfl (Nat.le_of_ble_eq_true rfl) rfl ?_
  refine vc_ok (fun hoM hoS hoL => ?_)
  have hr1 : -2147483648 ≤ c ∧ c < 2147483648 := hoL 1 _ rfl
  refine vc_iload_n dX6_sightOf_0 rfl ?_
  refine vc_if_lt dX6_sightOf_1 (fun h1 => ?_) (fun h1 => ?_)
  · refine vc_iconst dX6_sightOf_21 rfl ?_
    refine vc_iret dX6_sightOf_22 rfl (Nat.le_of_ble_eq_true rfl) (Nat.le_of_ble_eq_true rfl) ?_
    exact ⟨_, rfl, rfl⟩
  · refine vc_iload_n dX6_sightOf_4 rfl ?_
    refine vc_aload_n dX6_sightOf_5 rfl ?_
    refine vc_getI dX6_sightOf_6 flX6_52 (s_1 hB0.1.1) rfl ?_
    have k2 : 0 ≤ mI M 1 6 ∧ mI M 1 6 ≤ 16 := b1_6 (M := M) hB0.1
    refine vc_icmp_ge dX6_sightOf_9 (fun h3 => ?_) (fun h3 => ?_)
    · refine vc_iconst dX6_sightOf_21 rfl ?_
      refine vc_iret dX6_sightOf_22 rfl (Nat.le_of_ble_eq_true rfl) (Nat.le_of_ble_eq_true rfl) ?_
      exact ⟨_, rfl, rfl⟩
    · refine vc_aload_n dX6_sightOf_12 rfl ?_
      refine vc_getR dX6_sightOf_13 flX6_9 (s_1 hB0.1.1) rfl (r_1_0 hB0.1.1) ?_
      refine vc_iload_n dX6_sightOf_16 rfl ?_
      refine vc_iaload dX6_sightOf_17 (s_2 hB0.1.1) (by omega) (by omega) ?_
      refine vc_goto dX6_sightOf_18 ?_
      refine vc_iret dX6_sightOf_22 rfl (Nat.le_of_ble_eq_true rfl) (Nat.le_of_ble_eq_true rfl) ?_
      exact ⟨_, rfl, rfl⟩

set_option maxRecDepth 4000 in
theorem sfX6_ahead {l : Launch} {M : Mem} (hB : Box M)  (c : Int) (d : Int)  : Call l mdX6_ahead [aR 1, aI c, aI d] M (fun q N => ∃ r : Int, q = some (aI r) ∧ M = N ∧ (-1) ≤ r ∧ r ≤ 15 ∧ (r = -1 ∨ r = mI M 3 (4 * c + d % 4).toNat) ∧ (¬ (0 ≤ c ∧ c < mI M 1 6) ∨ r = mI M 3 (4 * c + d % 4).toNat)) := by
  have hB0 : BF fQ M M := BF.start hB
  refine Call.of [some (aR 1), some (aI c), some (aI d)] rfl (Nat.le_of_ble_eq_true rfl) rfl ?_
  refine vc_ok (fun hoM hoS hoL => ?_)
  have hr1 : -2147483648 ≤ c ∧ c < 2147483648 := hoL 1 _ rfl
  have hr2 : -2147483648 ≤ d ∧ d < 2147483648 := hoL 2 _ rfl
  refine vc_iload_n dX6_ahead_0 rfl ?_
  refine vc_if_lt dX6_ahead_1 (fun h1 => ?_) (fun h1 => ?_)
  · refine vc_iconst dX6_ahead_27 rfl ?_
    refine vc_iret dX6_ahead_28 rfl (Nat.le_of_ble_eq_true rfl) (Nat.le_of_ble_eq_true rfl) ?_
    exact ⟨_, rfl, rfl, by omega, by omega, by omega, by omega⟩
  · refine vc_iload_n dX6_ahead_4 rfl ?_
    refine vc_aload_n dX6_ahead_5 rfl ?_
    refine vc_getI dX6_ahead_6 flX6_52 (s_1 hB0.1.1) rfl ?_
    have k2 : 0 ≤ mI M 1 6 ∧ mI M 1 6 ≤ 16 := b1_6 (M := M) hB0.1
    refine vc_icmp_ge dX6_ahead_9 (fun h3 => ?_) (fun h3 => ?_)
    · refine vc_iconst dX6_ahead_27 rfl ?_
      refine vc_iret dX6_ahead_28 rfl (Nat.le_of_ble_eq_true rfl) (Nat.le_of_ble_eq_true rfl) ?_
      exact ⟨_, rfl, rfl, by omega, by omega, by omega, by omega⟩
    · refine vc_aload_n dX6_ahead_12 rfl ?_
      refine vc_getR dX6_ahead_13 flX6_15 (s_1 hB0.1.1) rfl (r_1_1 hB0.1.1) ?_
      refine vc_iconst dX6_ahead_16 rfl ?_
      refine vc_iload_n dX6_ahead_17 rfl ?_
      refine vc_imulE dX6_ahead_18 (by omega) (by omega) ?_
      refine vc_iload_n dX6_ahead_19 rfl ?_
      refine vc_iconst dX6_ahead_20 rfl ?_
      refine vc_iandM dX6_ahead_21 4 2 rfl (by decide) rfl ?_
      refine vc_iaddE dX6_ahead_22 (by omega) (by omega) ?_
      refine vc_iaload dX6_ahead_23 (s_3 hB0.1.1) (by omega) (by omega) ?_
      have k4 : (-1) ≤ mI M 3 (((4 * c) + (d % 4)).toNat) ∧ mI M 3 (((4 * c) + (d % 4)).toNat) ≤ 15 := bA3 (M := M) hB0.1 _
      refine vc_goto dX6_ahead_24 ?_
      refine vc_iret dX6_ahead_28 rfl (Nat.le_of_ble_eq_true rfl) (Nat.le_of_ble_eq_true rfl) ?_
      exact ⟨_, rfl, rfl, by omega, by omega, by omega, by omega⟩

set_option maxRecDepth 4000 in
theorem sfX6_laneAt {l : Launch} {M : Mem} (hB : Box M)  (c : Int) (d : Int)  : Call l mdX6_laneAt [aR 1, aI c, aI d] M (fun q N => ∃ r : Int, q = some (aI r) ∧ M = N) := by
  have hB0 : BF fQ M M := BF.start hB
  refine Call.of [some (aR 1), some (aI c), some (aI d)] rfl (Nat.le_of_ble_eq_true rfl) rfl ?_
  refine vc_ok (fun hoM hoS hoL => ?_)
  have hr1 : -2147483648 ≤ c ∧ c < 2147483648 := hoL 1 _ rfl
  have hr2 : -2147483648 ≤ d ∧ d < 2147483648 := hoL 2 _ rfl
  refine vc_iload_n dX6_laneAt_0 rfl ?_
  refine vc_if_lt dX6_laneAt_1 (fun h1 => ?_) (fun h1 => ?_)
  · refine vc_iconst dX6_laneAt_27 rfl ?_
    refine vc_iret dX6_laneAt_28 rfl (Nat.le_of_ble_eq_true rfl) (Nat.le_of_ble_eq_true rfl) ?_
    exact ⟨_, rfl, rfl⟩
  · refine vc_iload_n dX6_laneAt_4 rfl ?_
    refine vc_aload_n dX6_laneAt_5 rfl ?_
    refine vc_getI dX6_laneAt_6 flX6_52 (s_1 hB0.1.1) rfl ?_
    have k2 : 0 ≤ mI M 1 6 ∧ mI M 1 6 ≤ 16 := b1_6 (M := M) hB0.1
    refine vc_icmp_ge dX6_laneAt_9 (fun h3 => ?_) (fun h3 => ?_)
    · refine vc_iconst dX6_laneAt_27 rfl ?_
      refine vc_iret dX6_laneAt_28 rfl (Nat.le_of_ble_eq_true rfl) (Nat.le_of_ble_eq_true rfl) ?_
      exact ⟨_, rfl, rfl⟩
    · refine vc_aload_n dX6_laneAt_12 rfl ?_
      refine vc_getR dX6_laneAt_13 flX6_18 (s_1 hB0.1.1) rfl (r_1_2 hB0.1.1) ?_
      refine vc_iconst dX6_laneAt_16 rfl ?_
      refine vc_iload_n dX6_laneAt_17 rfl ?_
      refine vc_imulE dX6_laneAt_18 (by omega) (by omega) ?_
      refine vc_iload_n dX6_laneAt_19 rfl ?_
      refine vc_iconst dX6_laneAt_20 rfl ?_
      refine vc_iandM dX6_laneAt_21 4 2 rfl (by decide) rfl ?_
      refine vc_iaddE dX6_laneAt_22 (by omega) (by omega) ?_
      refine vc_iaload dX6_laneAt_23 (s_4 hB0.1.1) (by omega) (by omega) ?_
      refine vc_goto dX6_laneAt_24 ?_
      refine vc_iret dX6_laneAt_28 rfl (Nat.le_of_ble_eq_true rfl) (Nat.le_of_ble_eq_true rfl) ?_
      exact ⟨_, rfl, rfl⟩

set_option maxRecDepth 4000 in
theorem sfX6_counts {l : Launch} {M : Mem} (hB : Box M)  (c : Int) (d : Int) (la : Int)  : Call l mdX6_counts [aR 1, aI c, aI d, aI la] M (fun q N => ∃ r : Int, q = some (aI r) ∧ M = N ∧ 0 ≤ r ∧ r ≤ 1) := by
  have hB0 : BF fQ M M := BF.start hB
  refine Call.of [some (aR 1), some (aI c), some (aI d), some (aI la), none] rfl (Nat.le_of_ble_eq_true rfl) rfl ?_
  refine vc_ok (fun hoM hoS hoL => ?_)
  have hr1 : -2147483648 ≤ c ∧ c < 2147483648 := hoL 1 _ rfl
  have hr2 : -2147483648 ≤ d ∧ d < 2147483648 := hoL 2 _ rfl
  have hr3 : -2147483648 ≤ la ∧ la < 2147483648 := hoL 3 _ rfl
  refine vc_iload_n dX6_counts_0 rfl ?_
  refine vc_if_lt dX6_counts_1 (fun h1 => ?_) (fun h1 => ?_)
  · refine vc_iconst dX6_counts_12 rfl ?_
    refine vc_zret dX6_counts_13 rfl (by first | decide | omega) (Nat.le_of_ble_eq_true rfl) (Nat.le_of_ble_eq_true rfl) ?_
    exact ⟨_, rfl, rfl, by omega, by omega⟩
  · refine vc_iload_n dX6_counts_4 rfl ?_
    refine vc_aload_n dX6_counts_5 rfl ?_
    refine vc_getI dX6_counts_6 flX6_52 (s_1 hB0.1.1) rfl ?_
    have k2 : 0 ≤ mI M 1 6 ∧ mI M 1 6 ≤ 16 := b1_6 (M := M) hB0.1
    refine vc_icmp_lt dX6_counts_9 (fun h3 => ?_) (fun h3 => ?_)
    · refine vc_iconst dX6_counts_14 rfl ?_
      refine vc_iload_n dX6_counts_15 rfl ?_
      refine vc_imulE dX6_counts_16 (by omega) (by omega) ?_
      refine vc_iload_n dX6_counts_17 rfl ?_
      refine vc_iconst dX6_counts_18 rfl ?_
      refine vc_iandM dX6_counts_19 4 2 rfl (by decide) rfl ?_
      refine vc_iaddE dX6_counts_20 (by omega) (by omega) ?_
      refine vc_nameI (fun x4 ex4 => ?_)
      refine vc_istore dX6_counts_21 (by decide) rfl (show _ = [some (aR 1), some (aI c), some (aI d), some (aI la), some (aI x4)] from rfl) ?_
      refine vc_aload_n dX6_counts_23 rfl ?_
      refine vc_getR dX6_counts_24 flX6_15 (s_1 hB0.1.1) rfl (r_1_1 hB0.1.1) ?_
      refine vc_iload dX6_counts_27 rfl ?_
      refine vc_iaload dX6_counts_29 (s_3 hB0.1.1) (by omega) (by omega) ?_
      have k5 : (-1) ≤ mI M 3 x4.toNat ∧ mI M 3 x4.toNat ≤ 15 := bA3 (M := M) hB0.1 _
      refine vc_iconst dX6_counts_30 rfl ?_
      refine vc_icmp_eq dX6_counts_31 (fun h6 => ?_) (fun h6 => ?_)
      · refine vc_iconst dX6_counts_52 rfl ?_
        refine vc_zret dX6_counts_53 rfl (by first | decide | omega) (Nat.le_of_ble_eq_true rfl) (Nat.le_of_ble_eq_true rfl) ?_
        exact ⟨_, rfl, rfl, by omega, by omega⟩
      · refine vc_iload_n dX6_counts_34 rfl ?_
        refine vc_if_ne dX6_counts_35 (fun h7 => ?_) (fun h7 => ?_)
        · refine vc_iconst dX6_counts_48 rfl ?_
          refine vc_goto dX6_counts_49 ?_
          refine vc_zret dX6_counts_53 rfl (by first | decide | omega) (Nat.le_of_ble_eq_true rfl) (Nat.le_of_ble_eq_true rfl) ?_
          exact ⟨_, rfl, rfl, by omega, by omega⟩
        · refine vc_aload_n dX6_counts_38 rfl ?_
          refine vc_getR dX6_counts_39 flX6_18 (s_1 hB0.1.1) rfl (r_1_2 hB0.1.1) ?_
          refine vc_iload dX6_counts_42 rfl ?_
          refine vc_iaload dX6_counts_44 (s_4 hB0.1.1) (by omega) (by omega) ?_
          refine vc_if_ne dX6_counts_45 (fun h8 => ?_) (fun h8 => ?_)
          · refine vc_iconst dX6_counts_52 rfl ?_
            refine vc_zret dX6_counts_53 rfl (by first | decide | omega) (Nat.le_of_ble_eq_true rfl) (Nat.le_of_ble_eq_true rfl) ?_
            exact ⟨_, rfl, rfl, by omega, by omega⟩
          · refine vc_iconst dX6_counts_48 rfl ?_
            refine vc_goto dX6_counts_49 ?_
            refine vc_zret dX6_counts_53 rfl (by first | decide | omega) (Nat.le_of_ble_eq_true rfl) (Nat.le_of_ble_eq_true rfl) ?_
            exact ⟨_, rfl, rfl, by omega, by omega⟩
    · refine vc_iconst dX6_counts_12 rfl ?_
      refine vc_zret dX6_counts_13 rfl (by first | decide | omega) (Nat.le_of_ble_eq_true rfl) (Nat.le_of_ble_eq_true rfl) ?_
      exact ⟨_, rfl, rfl, by omega, by omega⟩

set_option maxRecDepth 4000 in
theorem sfX6_hasOther {l : Launch} {M : Mem} (hB : Box M)  (c : Int) (a : Int) (b : Int)  : Call l mdX6_hasOther [aR 1, aI c, aI a, aI b] M (fun q N => ∃ r : Int, q = some (aI r) ∧ M = N ∧ 0 ≤ r ∧ r ≤ 1) := by
  have hB0 : BF fQ M M := BF.start hB
  refine Call.of [some (aR 1), some (aI c), some (aI a), some (aI b), none] rfl (Nat.le_of_ble_eq_true rfl) rfl ?_
  refine vc_ok (fun hoM hoS hoL => ?_)
  have hr1 : -2147483648 ≤ c ∧ c < 2147483648 := hoL 1 _ rfl
  have hr2 : -2147483648 ≤ a ∧ a < 2147483648 := hoL 2 _ rfl
  have hr3 : -2147483648 ≤ b ∧ b < 2147483648 := hoL 3 _ rfl
  refine vc_iconst dX6_hasOther_0 rfl ?_
  refine vc_istore dX6_hasOther_1 (by decide) rfl (show _ = [some (aR 1), some (aI c), some (aI a), some (aI b), some (aI 0)] from rfl) ?_
  have lp3 : ∀ (n3 : Nat) (v4 : Int), (0 ≤ v4) → (v4 ≤ 4) → (4 - v4).toNat < n3 → VC l mdX6_hasOther 3 [some (aR 1), some (aI c), some (aI a), some (aI b), some (aI v4)] [] M 0 0 (fun q N => ∃ r : Int, q = some (aI r) ∧ M = N ∧ 0 ≤ r ∧ r ≤ 1) := by
    intro n3
    induction n3 with
    | zero => intro v4 g3_4a g3_4b hm3; exact absurd hm3 (Nat.not_lt_zero _)
    | succ n3 ih3 =>
      intro v4 g3_4a g3_4b hm3
      refine vc_iload dX6_hasOther_3 rfl ?_
      refine vc_iconst dX6_hasOther_5 rfl ?_
      refine vc_icmp_ge dX6_hasOther_6 (fun h1 => ?_) (fun h1 => ?_)
      · refine vc_iconst dX6_hasOther_44 rfl ?_
        refine vc_zret dX6_hasOther_45 rfl (by first | decide | omega) (Nat.le_of_ble_eq_true rfl) (Nat.le_of_ble_eq_true rfl) ?_
        exact ⟨_, rfl, rfl, by omega, by omega⟩
      · refine vc_iload dX6_hasOther_9 rfl ?_
        refine vc_iload_n dX6_hasOther_11 rfl ?_
        refine vc_iconst dX6_hasOther_12 rfl ?_
        refine vc_iandM dX6_hasOther_13 4 2 rfl (by decide) rfl ?_
        refine vc_icmp_eq dX6_hasOther_14 (fun h2 => ?_) (fun h2 => ?_)
        · refine vc_iincE dX6_hasOther_38 rfl (by omega) (by omega) (by decide) rfl (show _ = [some (aR 1), some (aI c), some (aI a), some (aI b), some (aI (v4 + 1))] from rfl) ?_
          refine vc_goto dX6_hasOther_41 ?_
          exact ih3 (v4 + 1) (by omega) (by omega) (by omega)
        · refine vc_iload dX6_hasOther_17 rfl ?_
          refine vc_iload_n dX6_hasOther_19 rfl ?_
          refine vc_iconst dX6_hasOther_20 rfl ?_
          refine vc_iandM dX6_hasOther_21 4 2 rfl (by decide) rfl ?_
          refine vc_icmp_eq dX6_hasOther_22 (fun h3 => ?_) (fun h3 => ?_)
          · refine vc_iincE dX6_hasOther_38 rfl (by omega) (by omega) (by decide) rfl (show _ = [some (aR 1), some (aI c), some (aI a), some (aI b), some (aI (v4 + 1))] from rfl) ?_
            refine vc_goto dX6_hasOther_41 ?_
            exact ih3 (v4 + 1) (by omega) (by omega) (by omega)
          · refine vc_aload_n dX6_hasOther_25 rfl ?_
            refine vc_iload_n dX6_hasOther_26 rfl ?_
            refine vc_iload dX6_hasOther_27 rfl ?_
            refine vc_cVI dX6_hasOther_29 (sfX6_ahead (M := M) hB0.1  c v4 ) rfl okX6_ahead viX6_ahead lkX6_70 (s_1 hB0.1.1) cl_6 rfl (Nat.le_of_ble_eq_true rfl) ⟨rfl, rfl⟩ (Nat.le_of_ble_eq_true rfl) (Nat.le_of_ble_eq_true rfl) (Nat.le_of_ble_eq_true rfl) ?_
            rintro x4 _ ⟨rfl, h5, h6, h7, h8⟩
            refine vc_iconst dX6_hasOther_32 rfl ?_
            refine vc_icmp_eq dX6_hasOther_33 (fun h9 => ?_) (fun h9 => ?_)
            · refine vc_iincE dX6_hasOther_38 rfl (by omega) (by omega) (by decide) rfl (show _ = [some (aR 1), some (aI c), some (aI a), some (aI b), some (aI (v4 + 1))] from rfl) ?_
              refine vc_goto dX6_hasOther_41 ?_
              exact ih3 (v4 + 1) (by omega) (by omega) (by omega)
            · refine vc_iconst dX6_hasOther_36 rfl ?_
              refine vc_zret dX6_hasOther_37 rfl (by first | decide | omega) (Nat.le_of_ble_eq_true rfl) (Nat.le_of_ble_eq_true rfl) ?_
              exact ⟨_, rfl, rfl, by omega, by omega⟩
  exact lp3 _ 0 (by omega) (by omega) (Nat.lt_succ_self _)

set_option maxRecDepth 4000 in
theorem sfX6_tellerCell {l : Launch} {M : Mem} (hB : Box M)  (t : Int) (c : Int)  : Call l mdX6_tellerCell [aR 1, aI t, aI c] M (fun q N => ∃ r : Int, q = some (aI r) ∧ M = N) := by
  have hB0 : BF fQ M M := BF.start hB
  refine Call.of [some (aR 1), some (aI t), some (aI c)] rfl (Nat.le_of_ble_eq_true rfl) rfl ?_
  refine vc_ok (fun hoM hoS hoL => ?_)
  have hr1 : -2147483648 ≤ t ∧ t < 2147483648 := hoL 1 _ rfl
  have hr2 : -2147483648 ≤ c ∧ c < 2147483648 := hoL 2 _ rfl
  refine vc_iload_n dX6_tellerCell_0 rfl ?_
  refine vc_if_lt dX6_tellerCell_1 (fun h1 => ?_) (fun h1 => ?_)
  · refine vc_iconst dX6_tellerCell_34 rfl ?_
    refine vc_iret dX6_tellerCell_35 rfl (Nat.le_of_ble_eq_true rfl) (Nat.le_of_ble_eq_true rfl) ?_
    exact ⟨_, rfl, rfl⟩
  · refine vc_iload_n dX6_tellerCell_4 rfl ?_
    refine vc_aload_n dX6_tellerCell_5 rfl ?_
    refine vc_getI dX6_tellerCell_6 flX6_55 (s_1 hB0.1.1) rfl ?_
    have k2 : 0 ≤ mI M 1 8 ∧ mI M 1 8 ≤ 6 := b1_8 (M := M) hB0.1
    refine vc_icmp_ge dX6_tellerCell_9 (fun h3 => ?_) (fun h3 => ?_)
    · refine vc_iconst dX6_tellerCell_34 rfl ?_
      refine vc_iret dX6_tellerCell_35 rfl (Nat.le_of_ble_eq_true rfl) (Nat.le_of_ble_eq_true rfl) ?_
      exact ⟨_, rfl, rfl⟩
    · refine vc_iload_n dX6_tellerCell_12 rfl ?_
      refine vc_if_lt dX6_tellerCell_13 (fun h4 => ?_) (fun h4 => ?_)
      · refine vc_iconst dX6_tellerCell_34 rfl ?_
        refine vc_iret dX6_tellerCell_35 rfl (Nat.le_of_ble_eq_true rfl) (Nat.le_of_ble_eq_true rfl) ?_
        exact ⟨_, rfl, rfl⟩
      · refine vc_iload_n dX6_tellerCell_16 rfl ?_
        refine vc_iconst dX6_tellerCell_17 rfl ?_
        refine vc_icmp_ge dX6_tellerCell_18 (fun h5 => ?_) (fun h5 => ?_)
        · refine vc_iconst dX6_tellerCell_34 rfl ?_
          refine vc_iret dX6_tellerCell_35 rfl (Nat.le_of_ble_eq_true rfl) (Nat.le_of_ble_eq_true rfl) ?_
          exact ⟨_, rfl, rfl⟩
        · refine vc_aload_n dX6_tellerCell_21 rfl ?_
          refine vc_getR dX6_tellerCell_22 flX6_21 (s_1 hB0.1.1) rfl (r_1_3 hB0.1.1) ?_
          refine vc_iconst dX6_tellerCell_25 rfl ?_
          refine vc_iload_n dX6_tellerCell_26 rfl ?_
          refine vc_imulE dX6_tellerCell_27 (by omega) (by omega) ?_
          refine vc_iload_n dX6_tellerCell_28 rfl ?_
          refine vc_iaddE dX6_tellerCell_29 (by omega) (by omega) ?_
          refine vc_iaload dX6_tellerCell_30 (s_5 hB0.1.1) (by omega) (by omega) ?_
          refine vc_goto dX6_tellerCell_31 ?_
          refine vc_iret dX6_tellerCell_35 rfl (Nat.le_of_ble_eq_true rfl) (Nat.le_of_ble_eq_true rfl) ?_
          exact ⟨_, rfl, rfl⟩

set_option maxRecDepth 4000 in
theorem sfX6_tellingCell {l : Launch} {M : Mem} (hB : Box M)  (t : Int) (c : Int)  : Call l mdX6_tellingCell [aR 1, aI t, aI c] M (fun q N => ∃ r : Int, q = some (aI r) ∧ M = N) := by
  have hB0 : BF fQ M M := BF.start hB
  refine Call.of [some (aR 1), some (aI t), some (aI c)] rfl (Nat.le_of_ble_eq_true rfl) rfl ?_
  refine vc_ok (fun hoM hoS hoL => ?_)
  have hr1 : -2147483648 ≤ t ∧ t < 2147483648 := hoL 1 _ rfl
  have hr2 : -2147483648 ≤ c ∧ c < 2147483648 := hoL 2 _ rfl
  refine vc_iload_n dX6_tellingCell_0 rfl ?_
  refine vc_if_lt dX6_tellingCell_1 (fun h1 => ?_) (fun h1 => ?_)
  · refine vc_iconst dX6_tellingCell_36 rfl ?_
    refine vc_iret dX6_tellingCell_37 rfl (Nat.le_of_ble_eq_true rfl) (Nat.le_of_ble_eq_true rfl) ?_
    exact ⟨_, rfl, rfl⟩
  · refine vc_iload_n dX6_tellingCell_4 rfl ?_
    refine vc_aload_n dX6_tellingCell_5 rfl ?_
    refine vc_getI dX6_tellingCell_6 flX6_58 (s_1 hB0.1.1) rfl ?_
    have k2 : 0 ≤ mI M 1 9 ∧ mI M 1 9 ≤ 8 := b1_9 (M := M) hB0.1
    refine vc_icmp_ge dX6_tellingCell_9 (fun h3 => ?_) (fun h3 => ?_)
    · refine vc_iconst dX6_tellingCell_36 rfl ?_
      refine vc_iret dX6_tellingCell_37 rfl (Nat.le_of_ble_eq_true rfl) (Nat.le_of_ble_eq_true rfl) ?_
      exact ⟨_, rfl, rfl⟩
    · refine vc_iload_n dX6_tellingCell_12 rfl ?_
      refine vc_if_lt dX6_tellingCell_13 (fun h4 => ?_) (fun h4 => ?_)
      · refine vc_iconst dX6_tellingCell_36 rfl ?_
        refine vc_iret dX6_tellingCell_37 rfl (Nat.le_of_ble_eq_true rfl) (Nat.le_of_ble_eq_true rfl) ?_
        exact ⟨_, rfl, rfl⟩
      · refine vc_iload_n dX6_tellingCell_16 rfl ?_
        refine vc_bipush dX6_tellingCell_17 rfl ?_
        refine vc_icmp_ge dX6_tellingCell_19 (fun h5 => ?_) (fun h5 => ?_)
        · refine vc_iconst dX6_tellingCell_36 rfl ?_
          refine vc_iret dX6_tellingCell_37 rfl (Nat.le_of_ble_eq_true rfl) (Nat.le_of_ble_eq_true rfl) ?_
          exact ⟨_, rfl, rfl⟩
        · refine vc_aload_n dX6_tellingCell_22 rfl ?_
          refine vc_getR dX6_tellingCell_23 flX6_24 (s_1 hB0.1.1) rfl (r_1_4 hB0.1.1) ?_
          refine vc_bipush dX6_tellingCell_26 rfl ?_
          refine vc_iload_n dX6_tellingCell_28 rfl ?_
          refine vc_imulE dX6_tellingCell_29 (by omega) (by omega) ?_
          refine vc_iload_n dX6_tellingCell_30 rfl ?_
          refine vc_iaddE dX6_tellingCell_31 (by omega) (by omega) ?_
          refine vc_iaload dX6_tellingCell_32 (s_6 hB0.1.1) (by omega) (by omega) ?_
          refine vc_goto dX6_tellingCell_33 ?_
          refine vc_iret dX6_tellingCell_37 rfl (Nat.le_of_ble_eq_true rfl) (Nat.le_of_ble_eq_true rfl) ?_
          exact ⟨_, rfl, rfl⟩

set_option maxRecDepth 4000 in
theorem sfX6_turnOf {l : Launch} {M : Mem} (hB : Box M)  (t : Int) (i : Int)  : Call l mdX6_turnOf [aR 1, aI t, aI i] M (fun q N => ∃ r : Int, q = some (aI r) ∧ M = N) := by
  have hB0 : BF fQ M M := BF.start hB
  refine Call.of [some (aR 1), some (aI t), some (aI i)] rfl (Nat.le_of_ble_eq_true rfl) rfl ?_
  refine vc_ok (fun hoM hoS hoL => ?_)
  have hr1 : -2147483648 ≤ t ∧ t < 2147483648 := hoL 1 _ rfl
  have hr2 : -2147483648 ≤ i ∧ i < 2147483648 := hoL 2 _ rfl
  refine vc_iload_n dX6_turnOf_0 rfl ?_
  refine vc_if_lt dX6_turnOf_1 (fun h1 => ?_) (fun h1 => ?_)
  · refine vc_iconst dX6_turnOf_25 rfl ?_
    refine vc_iret dX6_turnOf_26 rfl (Nat.le_of_ble_eq_true rfl) (Nat.le_of_ble_eq_true rfl) ?_
    exact ⟨_, rfl, rfl⟩
  · refine vc_iload_n dX6_turnOf_4 rfl ?_
    refine vc_aload_n dX6_turnOf_5 rfl ?_
    refine vc_iload_n dX6_turnOf_6 rfl ?_
    refine vc_iconst dX6_turnOf_7 rfl ?_
    refine vc_cVI dX6_turnOf_8 (sfX6_tellingCell (M := M) hB0.1  t 2 ) rfl okX6_tellingCell viX6_tellingCell lkX6_74 (s_1 hB0.1.1) cl_6 rfl (Nat.le_of_ble_eq_true rfl) ⟨rfl, rfl⟩ (Nat.le_of_ble_eq_true rfl) (Nat.le_of_ble_eq_true rfl) (Nat.le_of_ble_eq_true rfl) ?_
    rintro x2 _ rfl
    refine vc_icmp_ge dX6_turnOf_11 (fun h3 => ?_) (fun h3 => ?_)
    · refine vc_iconst dX6_turnOf_25 rfl ?_
      refine vc_iret dX6_turnOf_26 rfl (Nat.le_of_ble_eq_true rfl) (Nat.le_of_ble_eq_true rfl) ?_
      exact ⟨_, rfl, rfl⟩
    · refine vc_aload_n dX6_turnOf_14 rfl ?_
      refine vc_iload_n dX6_turnOf_15 rfl ?_
      refine vc_iconst dX6_turnOf_16 rfl ?_
      refine vc_iload_n dX6_turnOf_17 rfl ?_
      refine vc_iadd dX6_turnOf_18 ?_
      refine vc_cVI dX6_turnOf_19 (sfX6_tellingCell (M := M) hB0.1  t (wI (3 + i)) ) rfl okX6_tellingCell viX6_tellingCell lkX6_74 (s_1 hB0.1.1) cl_6 rfl (Nat.le_of_ble_eq_true rfl) ⟨rfl, rfl⟩ (Nat.le_of_ble_eq_true rfl) (Nat.le_of_ble_eq_true rfl) (Nat.le_of_ble_eq_true rfl) ?_
      rintro x4 _ rfl
      refine vc_goto dX6_turnOf_22 ?_
      refine vc_iret dX6_turnOf_26 rfl (Nat.le_of_ble_eq_true rfl) (Nat.le_of_ble_eq_true rfl) ?_
      exact ⟨_, rfl, rfl⟩

set_option maxRecDepth 4000 in
theorem sfX6_textOf {l : Launch} {M : Mem} (hB : Box M)  (t : Int)  : Call l mdX6_textOf [aR 1, aI t] M (fun q N => ∃ r : Option Nat, q = some (.inr (.inr r)) ∧ M = N ∧ (∀ y, r = some y → TxO M y)) := by
  have hB0 : BF fQ M M := BF.start hB
  refine Call.of [some (aR 1), some (aI t)] rfl (Nat.le_of_ble_eq_true rfl) rfl ?_
  refine vc_ok (fun hoM hoS hoL => ?_)
  have hr1 : -2147483648 ≤ t ∧ t < 2147483648 := hoL 1 _ rfl
  refine vc_iload_n dX6_textOf_0 rfl ?_
  refine vc_if_lt dX6_textOf_1 (fun h1 => ?_) (fun h1 => ?_)
  · refine vc_null dX6_textOf_21 ?_
    refine vc_aret dX6_textOf_22 rfl (Nat.le_of_ble_eq_true rfl) (Nat.le_of_ble_eq_true rfl) ?_
    exact ⟨_, rfl, rfl, fun y hy => by cases hy⟩
  · refine vc_iload_n dX6_textOf_4 rfl ?_
    refine vc_aload_n dX6_textOf_5 rfl ?_
    refine vc_getI dX6_textOf_6 flX6_61 (s_1 hB0.1.1) rfl ?_
    have k2 : 0 ≤ mI M 1 10 ∧ mI M 1 10 ≤ 4 := b1_10 (M := M) hB0.1
    refine vc_icmp_ge dX6_textOf_9 (fun h3 => ?_) (fun h3 => ?_)
    · refine vc_null dX6_textOf_21 ?_
      refine vc_aret dX6_textOf_22 rfl (Nat.le_of_ble_eq_true rfl) (Nat.le_of_ble_eq_true rfl) ?_
      exact ⟨_, rfl, rfl, fun y hy => by cases hy⟩
    · refine vc_aload_n dX6_textOf_12 rfl ?_
      refine vc_getR dX6_textOf_13 flX6_29 (s_1 hB0.1.1) rfl (r_1_5 hB0.1.1) ?_
      refine vc_iload_n dX6_textOf_16 rfl ?_
      refine vc_aaload dX6_textOf_17 (s_7 hB0.1.1) (by omega) (by omega) ?_
      refine vc_nameO (fun o4 eo4 => ?_)
      refine vc_goto dX6_textOf_18 ?_
      refine vc_aret dX6_textOf_22 rfl (Nat.le_of_ble_eq_true rfl) (Nat.le_of_ble_eq_true rfl) ?_
      exact ⟨_, rfl, rfl, hB0.tx (Or.inl rfl) eo4⟩

