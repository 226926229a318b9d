/-! CONTRACTS of Town, Walk: what they answer lies in its range, the box stays (written by wip/p35/c72.py) -/
set_option maxRecDepth 4000 in
theorem sfX11_isDirection {l : Launch} {M : Mem} (hB : Box M)  (d : Int)  : Call l mdX11_isDirection [aI d] M (fun q N => ∃ r : Int, q = some (aI r) ∧ M = N ∧ 0 ≤ r ∧ r ≤ 1 ∧ (r = 0 ∨ (0 ≤ d ∧ d ≤ 3))) := by
  have hB0 : BF fQ M M := BF.start hB
  refine Call.of [some (aI d)] rfl (Nat.le_of_ble_eq_true rfl) rfl ?_
  refine vc_ok (fun hoM hoS hoL => ?_)
  have hr0 : -2147483648 ≤ d ∧ d < 2147483648 := hoL 0 _ rfl
  refine vc_iload_n dX11_isDirection_0 rfl ?_
  refine vc_if_lt dX11_isDirection_1 (fun h1 => ?_) (fun h1 => ?_)
  · refine vc_iconst dX11_isDirection_13 rfl ?_
    refine vc_zret dX11_isDirection_14 rfl (by first | decide | omega) (Nat.le_of_ble_eq_true rfl) (Nat.le_of_ble_eq_true rfl) ?_
    exact ⟨_, rfl, rfl, by omega, by omega, by omega⟩
  · refine vc_iload_n dX11_isDirection_4 rfl ?_
    refine vc_iconst dX11_isDirection_5 rfl ?_
    refine vc_icmp_ge dX11_isDirection_6 (fun h2 => ?_) (fun h2 => ?_)
    · refine vc_iconst dX11_isDirection_13 rfl ?_
      refine vc_zret dX11_isDirection_14 rfl (by first | decide | omega) (Nat.le_of_ble_eq_true rfl) (Nat.le_of_ble_eq_true rfl) ?_
      exact ⟨_, rfl, rfl, by omega, by omega, by omega⟩
    · refine vc_iconst dX11_isDirection_9 rfl ?_
      refine vc_goto dX11_isDirection_10 ?_
      refine vc_zret dX11_isDirection_14 rfl (by first | decide | omega) (Nat.le_of_ble_eq_true rfl) (Nat.le_of_ble_eq_true rfl) ?_
      exact ⟨_, rfl, rfl, by omega, by omega, by omega⟩

set_option maxRecDepth 4000 in
theorem sfX11_isSlip {l : Launch} {M : Mem} (hB : Box M)  (d : Int)  : Call l mdX11_isSlip [aI d] M (fun q N => ∃ r : Int, q = some (aI r) ∧ M = N ∧ 0 ≤ r ∧ r ≤ 1) := by
  have hB0 : BF fQ M M := BF.start hB
  refine Call.of [some (aI d)] rfl (Nat.le_of_ble_eq_true rfl) rfl ?_
  refine vc_ok (fun hoM hoS hoL => ?_)
  have hr0 : -2147483648 ≤ d ∧ d < 2147483648 := hoL 0 _ rfl
  refine vc_iload_n dX11_isSlip_0 rfl ?_
  refine vc_if_lt dX11_isSlip_1 (fun h1 => ?_) (fun h1 => ?_)
  · refine vc_iconst dX11_isSlip_14 rfl ?_
    refine vc_zret dX11_isSlip_15 rfl (by first | decide | omega) (Nat.le_of_ble_eq_true rfl) (Nat.le_of_ble_eq_true rfl) ?_
    exact ⟨_, rfl, rfl, by omega, by omega⟩
  · refine vc_iload_n dX11_isSlip_4 rfl ?_
    refine vc_bipush dX11_isSlip_5 rfl ?_
    refine vc_icmp_gt dX11_isSlip_7 (fun h2 => ?_) (fun h2 => ?_)
    · refine vc_iconst dX11_isSlip_14 rfl ?_
      refine vc_zret dX11_isSlip_15 rfl (by first | decide | omega) (Nat.le_of_ble_eq_true rfl) (Nat.le_of_ble_eq_true rfl) ?_
      exact ⟨_, rfl, rfl, by omega, by omega⟩
    · refine vc_iconst dX11_isSlip_10 rfl ?_
      refine vc_goto dX11_isSlip_11 ?_
      refine vc_zret dX11_isSlip_15 rfl (by first | decide | omega) (Nat.le_of_ble_eq_true rfl) (Nat.le_of_ble_eq_true rfl) ?_
      exact ⟨_, rfl, rfl, by omega, by omega⟩

set_option maxRecDepth 4000 in
theorem sfX11_held {l : Launch} {M : Mem} (hB : Box M)  (v : Int) (lo : Int) (hi : Int)  : Call l mdX11_held [aI v, aI lo, aI hi] M (fun q N => ∃ r : Int, q = some (aI r) ∧ M = N) := by
  have hB0 : BF fQ M M := BF.start hB
  refine Call.of [some (aI v), some (aI lo), some (aI hi)] rfl (Nat.le_of_ble_eq_true rfl) rfl ?_
  refine vc_ok (fun hoM hoS hoL => ?_)
  have hr0 : -2147483648 ≤ v ∧ v < 2147483648 := hoL 0 _ rfl
  have hr1 : -2147483648 ≤ lo ∧ lo < 2147483648 := hoL 1 _ rfl
  have hr2 : -2147483648 ≤ hi ∧ hi < 2147483648 := hoL 2 _ rfl
  refine vc_iload_n dX11_held_0 rfl ?_
  refine vc_iload_n dX11_held_1 rfl ?_
  refine vc_iload_n dX11_held_2 rfl ?_
  refine vc_mminI dX11_held_3 lkX11_359 (Nat.le_of_ble_eq_true rfl) (Nat.le_of_ble_eq_true rfl) (Nat.le_of_ble_eq_true rfl) ?_
  have k1 := minZ_bd hi v
  refine vc_mmaxI dX11_held_6 lkX11_362 (Nat.le_of_ble_eq_true rfl) (Nat.le_of_ble_eq_true rfl) (Nat.le_of_ble_eq_true rfl) ?_
  have k2 := maxZ_bd lo (minZ hi v)
  refine vc_iret dX11_held_9 rfl (Nat.le_of_ble_eq_true rfl) (Nat.le_of_ble_eq_true rfl) ?_
  exact ⟨_, rfl, rfl⟩

set_option maxRecDepth 4000 in
theorem sfX1_sideOf {l : Launch} {M : Mem} (hB : Box M)  (fa : Int) (wh : Int)  : Call l mdX1_sideOf [aI fa, aI wh] M (fun q N => ∃ r : Int, q = some (aI r) ∧ M = N) := by
  have hB0 : BF fQ M M := BF.start hB
  refine Call.of [some (aI fa), some (aI wh)] rfl (Nat.le_of_ble_eq_true rfl) rfl ?_
  refine vc_ok (fun hoM hoS hoL => ?_)
  have hr0 : -2147483648 ≤ fa ∧ fa < 2147483648 := hoL 0 _ rfl
  have hr1 : -2147483648 ≤ wh ∧ wh < 2147483648 := hoL 1 _ rfl
  refine vc_iload_n dX1_sideOf_0 rfl ?_
  refine vc_iconst dX1_sideOf_1 rfl ?_
  refine vc_icmp_ne dX1_sideOf_2 (fun h1 => ?_) (fun h1 => ?_)
  · refine vc_iload_n dX1_sideOf_13 rfl ?_
    refine vc_iconst dX1_sideOf_14 rfl ?_
    refine vc_icmp_ne dX1_sideOf_15 (fun h2 => ?_) (fun h2 => ?_)
    · refine vc_iload_n dX1_sideOf_26 rfl ?_
      refine vc_iret dX1_sideOf_27 rfl (Nat.le_of_ble_eq_true rfl) (Nat.le_of_ble_eq_true rfl) ?_
      exact ⟨_, rfl, rfl⟩
    · refine vc_iload_n dX1_sideOf_18 rfl ?_
      refine vc_iconst dX1_sideOf_19 rfl ?_
      refine vc_iadd dX1_sideOf_20 ?_
      refine vc_iconst dX1_sideOf_21 rfl ?_
      refine vc_iandW dX1_sideOf_22 4 2 rfl (by decide) rfl ?_
      refine vc_goto dX1_sideOf_23 ?_
      refine vc_iret dX1_sideOf_27 rfl (Nat.le_of_ble_eq_true rfl) (Nat.le_of_ble_eq_true rfl) ?_
      exact ⟨_, rfl, rfl⟩
  · refine vc_iload_n dX1_sideOf_5 rfl ?_
    refine vc_iconst dX1_sideOf_6 rfl ?_
    refine vc_iadd dX1_sideOf_7 ?_
    refine vc_iconst dX1_sideOf_8 rfl ?_
    refine vc_iandW dX1_sideOf_9 4 2 rfl (by decide) rfl ?_
    refine vc_goto dX1_sideOf_10 ?_
    refine vc_iret dX1_sideOf_27 rfl (Nat.le_of_ble_eq_true rfl) (Nat.le_of_ble_eq_true rfl) ?_
    exact ⟨_, rfl, rfl⟩

set_option maxRecDepth 4000 in
theorem sfX1_sideOf_d {l : Launch} {M : Mem} (hB : Box M)  (fa : Int) (wh : Int) (p0 : 0 ≤ fa) (p1 : fa ≤ 3) : Call l mdX1_sideOf [aI fa, aI wh] M (fun q N => ∃ r : Int, q = some (aI r) ∧ M = N ∧ 0 ≤ r ∧ r ≤ 3) := by
  have hB0 : BF fQ M M := BF.start hB
  refine Call.of [some (aI fa), some (aI wh)] rfl (Nat.le_of_ble_eq_true rfl) rfl ?_
  refine vc_ok (fun hoM hoS hoL => ?_)
  have hr1 : -2147483648 ≤ wh ∧ wh < 2147483648 := hoL 1 _ rfl
  refine vc_iload_n dX1_sideOf_0 rfl ?_
  refine vc_iconst dX1_sideOf_1 rfl ?_
  refine vc_icmp_ne dX1_sideOf_2 (fun h1 => ?_) (fun h1 => ?_)
  · refine vc_iload_n dX1_sideOf_13 rfl ?_
    refine vc_iconst dX1_sideOf_14 rfl ?_
    refine vc_icmp_ne dX1_sideOf_15 (fun h2 => ?_) (fun h2 => ?_)
    · refine vc_iload_n dX1_sideOf_26 rfl ?_
      refine vc_iret dX1_sideOf_27 rfl (Nat.le_of_ble_eq_true rfl) (Nat.le_of_ble_eq_true rfl) ?_
      exact ⟨_, rfl, rfl, by omega, by omega⟩
    · refine vc_iload_n dX1_sideOf_18 rfl ?_
      refine vc_iconst dX1_sideOf_19 rfl ?_
      refine vc_iadd dX1_sideOf_20 ?_
      refine vc_iconst dX1_sideOf_21 rfl ?_
      refine vc_iandW dX1_sideOf_22 4 2 rfl (by decide) rfl ?_
      refine vc_goto dX1_sideOf_23 ?_
      refine vc_iret dX1_sideOf_27 rfl (Nat.le_of_ble_eq_true rfl) (Nat.le_of_ble_eq_true rfl) ?_
      exact ⟨_, rfl, rfl, by omega, by omega⟩
  · refine vc_iload_n dX1_sideOf_5 rfl ?_
    refine vc_iconst dX1_sideOf_6 rfl ?_
    refine vc_iadd dX1_sideOf_7 ?_
    refine vc_iconst dX1_sideOf_8 rfl ?_
    refine vc_iandW dX1_sideOf_9 4 2 rfl (by decide) rfl ?_
    refine vc_goto dX1_sideOf_10 ?_
    refine vc_iret dX1_sideOf_27 rfl (Nat.le_of_ble_eq_true rfl) (Nat.le_of_ble_eq_true rfl) ?_
    exact ⟨_, rfl, rfl, by omega, by omega⟩

set_option maxRecDepth 4000 in
theorem sfX6_hasCorner {l : Launch} {M : Mem} (hB : Box M)  (c : Int)  : Call l mdX6_hasCorner [aR 1, aI c] M (fun q N => ∃ r : Int, q = some (aI r) ∧ M = N ∧ 0 ≤ r ∧ r ≤ 1 ∧ (r = 0 ∨ (0 ≤ c ∧ c < mI M 1 6 ∧ c ≤ 15))) := by
  have hB0 : BF fQ M M := BF.start hB
  refine Call.of [some (aR 1), some (aI c)] rfl (Nat.le_of_ble_eq_true rfl) rfl ?_
  refine vc_ok (fun hoM hoS hoL => ?_)
  have hr1 : -2147483648 ≤ c ∧ c < 2147483648 := hoL 1 _ rfl
  refine vc_iload_n dX6_hasCorner_0 rfl ?_
  refine vc_if_lt dX6_hasCorner_1 (fun h1 => ?_) (fun h1 => ?_)
  · refine vc_iconst dX6_hasCorner_16 rfl ?_
    refine vc_zret dX6_hasCorner_17 rfl (by first | decide | omega) (Nat.le_of_ble_eq_true rfl) (Nat.le_of_ble_eq_true rfl) ?_
    exact ⟨_, rfl, rfl, by omega, by omega, by omega⟩
  · refine vc_iload_n dX6_hasCorner_4 rfl ?_
    refine vc_aload_n dX6_hasCorner_5 rfl ?_
    refine vc_getI dX6_hasCorner_6 flX6_52 (s_1 hB0.1.1) rfl ?_
    have k2 : 0 ≤ mI M 1 6 ∧ mI M 1 6 ≤ 16 := b1_6 (M := M) hB0.1
    refine vc_icmp_ge dX6_hasCorner_9 (fun h3 => ?_) (fun h3 => ?_)
    · refine vc_iconst dX6_hasCorner_16 rfl ?_
      refine vc_zret dX6_hasCorner_17 rfl (by first | decide | omega) (Nat.le_of_ble_eq_true rfl) (Nat.le_of_ble_eq_true rfl) ?_
      exact ⟨_, rfl, rfl, by omega, by omega, by omega⟩
    · refine vc_iconst dX6_hasCorner_12 rfl ?_
      refine vc_goto dX6_hasCorner_13 ?_
      refine vc_zret dX6_hasCorner_17 rfl (by first | decide | omega) (Nat.le_of_ble_eq_true rfl) (Nat.le_of_ble_eq_true rfl) ?_
      exact ⟨_, rfl, rfl, by omega, by omega, by omega⟩

set_option maxRecDepth 4000 in
theorem sfX6_hasTeller {l : Launch} {M : Mem} (hB : Box M)  (c : Int)  : Call l mdX6_hasTeller [aR 1, aI c] M (fun q N => ∃ r : Int, q = some (aI r) ∧ M = N ∧ 0 ≤ r ∧ r ≤ 1 ∧ (r = 0 ∨ (0 ≤ c ∧ c < mI M 1 8 ∧ c ≤ 5))) := by
  have hB0 : BF fQ M M := BF.start hB
  refine Call.of [some (aR 1), some (aI c)] rfl (Nat.le_of_ble_eq_true rfl) rfl ?_
  refine vc_ok (fun hoM hoS hoL => ?_)
  have hr1 : -2147483648 ≤ c ∧ c < 2147483648 := hoL 1 _ rfl
  refine vc_iload_n dX6_hasTeller_0 rfl ?_
  refine vc_if_lt dX6_hasTeller_1 (fun h1 => ?_) (fun h1 => ?_)
  · refine vc_iconst dX6_hasTeller_16 rfl ?_
    refine vc_zret dX6_hasTeller_17 rfl (by first | decide | omega) (Nat.le_of_ble_eq_true rfl) (Nat.le_of_ble_eq_true rfl) ?_
    exact ⟨_, rfl, rfl, by omega, by omega, by omega⟩
  · refine vc_iload_n dX6_hasTeller_4 rfl ?_
    refine vc_aload_n dX6_hasTeller_5 rfl ?_
    refine vc_getI dX6_hasTeller_6 flX6_55 (s_1 hB0.1.1) rfl ?_
    have k2 : 0 ≤ mI M 1 8 ∧ mI M 1 8 ≤ 6 := b1_8 (M := M) hB0.1
    refine vc_icmp_ge dX6_hasTeller_9 (fun h3 => ?_) (fun h3 => ?_)
    · refine vc_iconst dX6_hasTeller_16 rfl ?_
      refine vc_zret dX6_hasTeller_17 rfl (by first | decide | omega) (Nat.le_of_ble_eq_true rfl) (Nat.le_of_ble_eq_true rfl) ?_
      exact ⟨_, rfl, rfl, by omega, by omega, by omega⟩
    · refine vc_iconst dX6_hasTeller_12 rfl ?_
      refine vc_goto dX6_hasTeller_13 ?_
      refine vc_zret dX6_hasTeller_17 rfl (by first | decide | omega) (Nat.le_of_ble_eq_true rfl) (Nat.le_of_ble_eq_true rfl) ?_
      exact ⟨_, rfl, rfl, by omega, by omega, by omega⟩

set_option maxRecDepth 4000 in
theorem sfX6_hasTelling {l : Launch} {M : Mem} (hB : Box M)  (c : Int)  : Call l mdX6_hasTelling [aR 1, aI c] M (fun q N => ∃ r : Int, q = some (aI r) ∧ M = N ∧ 0 ≤ r ∧ r ≤ 1 ∧ (r = 0 ∨ (0 ≤ c ∧ c < mI M 1 9 ∧ c ≤ 7))) := by
  have hB0 : BF fQ M M := BF.start hB
  refine Call.of [some (aR 1), some (aI c)] rfl (Nat.le_of_ble_eq_true rfl) rfl ?_
  refine vc_ok (fun hoM hoS hoL => ?_)
  have hr1 : -2147483648 ≤ c ∧ c < 2147483648 := hoL 1 _ rfl
  refine vc_iload_n dX6_hasTelling_0 rfl ?_
  refine vc_if_lt dX6_hasTelling_1 (fun h1 => ?_) (fun h1 => ?_)
  · refine vc_iconst dX6_hasTelling_16 rfl ?_
    refine vc_zret dX6_hasTelling_17 rfl (by first | decide | omega) (Nat.le_of_ble_eq_true rfl) (Nat.le_of_ble_eq_true rfl) ?_
    exact ⟨_, rfl, rfl, by omega, by omega, by omega⟩
  · refine vc_iload_n dX6_hasTelling_4 rfl ?_
    refine vc_aload_n dX6_hasTelling_5 rfl ?_
    refine vc_getI dX6_hasTelling_6 flX6_58 (s_1 hB0.1.1) rfl ?_
    have k2 : 0 ≤ mI M 1 9 ∧ mI M 1 9 ≤ 8 := b1_9 (M := M) hB0.1
    refine vc_icmp_ge dX6_hasTelling_9 (fun h3 => ?_) (fun h3 => ?_)
    · refine vc_iconst dX6_hasTelling_16 rfl ?_
      refine vc_zret dX6_hasTelling_17 rfl (by first | decide | omega) (Nat.le_of_ble_eq_true rfl) (Nat.le_of_ble_eq_true rfl) ?_
      exact ⟨_, rfl, rfl, by omega, by omega, by omega⟩
    · refine vc_iconst dX6_hasTelling_12 rfl ?_
      refine vc_goto dX6_hasTelling_13 ?_
      refine vc_zret dX6_hasTelling_17 rfl (by first | decide | omega) (Nat.le_of_ble_eq_true rfl) (Nat.le_of_ble_eq_true rfl) ?_
      exact ⟨_, rfl, rfl, by omega, by omega, by omega⟩

set_option maxRecDepth 4000 in
theorem sfX6_sightOf {l : Launch} {M : Mem} (hB : Box M)  (c : Int)  : Call l mdX6_sightOf [aR 1, aI c] M (fun q N => ∃ r : Int, q = some (aI r) ∧ M = N) := by
  have hB0 : BF fQ M M := BF.start hB
  refine Call.of [some (aR 1), some (aI c)] rfl (Nat.le_of_ble_eq_true rfl) rfl ?_
  refine vc_ok (fun hoM hoS hoL => ?_)
  have hr1 : -2147483648 ≤ c ∧ c < 2147483648 := hoL 1 _ rfl
  refine vc_iload_n dX6_sightOf_0 rfl ?_
  refine vc_if_lt dX6_sightOf_1 (fun h1 => ?_) (fun h1 => ?_)
  · refine vc_iconst dX6_sightOf_21 rfl ?_
    refine vc_iret dX6_sightOf_22 rfl (Nat.le_of_ble_eq_true rfl) (Nat.le_of_ble_eq_true rfl) ?_
    exact ⟨_, rfl, rfl⟩
  · refine vc_iload_n dX6_sightOf_4 rfl ?_
    refine vc_aload_n dX6_sightOf_5 rfl ?_
    refine vc_getI dX6_sightOf_6 flX6_52 (s_1 hB0.1.1) rfl ?_
    have k2 : 0 ≤ mI M 1 6 ∧ mI M 1 6 ≤ 16 := b1_6 (M := M) hB0.1
    refine vc_icmp_ge dX6_sightOf_9 (fun h3 => ?_) (fun h3 => ?_)
    · refine vc_iconst dX6_sightOf_21 rfl ?_
      refine vc_iret dX6_sightOf_22 rfl (Nat.le_of_ble_eq_true rfl) (Nat.le_of_ble_eq_true rfl) ?_
      exact ⟨_, rfl, rfl⟩
    · refine vc_aload_n dX6_sightOf_12 rfl ?_
      refine vc_getR dX6_sightOf_13 flX6_9 (s_1 hB0.1.1) rfl (r_1_0 hB0.1.1) ?_
      refine vc_iload_n dX6_sightOf_16 rfl ?_
      refine vc_iaload dX6_sightOf_17 (s_2 hB0.1.1) (by omega) (by omega) ?_
      refine vc_goto dX6_sightOf_18 ?_
      refine vc_iret dX6_sightOf_22 rfl (Nat.le_of_ble_eq_true rfl) (Nat.le_of_ble_eq_true rfl) ?_
      exact ⟨_, rfl, rfl⟩

set_option maxRecDepth 4000 in
theorem sfX6_ahead {l : Launch} {M : Mem} (hB : Box M)  (c : Int) (d : Int)  : Call l mdX6_ahead [aR 1, aI c, aI d] M (fun q N => ∃ r : Int, q = some (aI r) ∧ M = N ∧ (-1) ≤ r ∧ r ≤ 15 ∧ (r = -1 ∨ r = mI M 3 (4 * c + d % 4).toNat) ∧ (¬ (0 ≤ c ∧ c < mI M 1 6) ∨ r = mI M 3 (4 * c + d % 4).toNat)) := by
  have hB0 : BF fQ M M := BF.start hB
  refine Call.of [some (aR 1), some (aI c), some (aI d)] rfl (Nat.le_of_ble_eq_true rfl) rfl ?_
  refine vc_ok (fun hoM hoS hoL => ?_)
  have hr1 : -2147483648 ≤ c ∧ c < 2147483648 := hoL 1 _ rfl
  have hr2 : -2147483648 ≤ d ∧ d < 2147483648 := hoL 2 _ rfl
  refine vc_iload_n dX6_ahead_0 rfl ?_
  refine vc_if_lt dX6_ahead_1 (fun h1 => ?_) (fun h1 => ?_)
  · refine vc_iconst dX6_ahead_27 rfl ?_
    refine vc_iret dX6_ahead_28 rfl (Nat.le_of_ble_eq_true rfl) (Nat.le_of_ble_eq_true rfl) ?_
    exact ⟨_, rfl, rfl, by omega, by omega, by omega, by omega⟩
  · refine vc_iload_n dX6_ahead_4 rfl ?_
    refine vc_aload_n dX6_ahead_5 rfl ?_
    refine vc_getI dX6_ahead_6 flX6_52 (s_1 hB0.1.1) rfl ?_
    have k2 : 0 ≤ mI M 1 6 ∧ mI M 1 6 ≤ 16 := b1_6 (M := M) hB0.1
    refine vc_icmp_ge dX6_ahead_9 (fun h3 => ?_) (fun h3 => ?_)
    · refine vc_iconst dX6_ahead_27 rfl ?_
      refine vc_iret dX6_ahead_28 rfl (Nat.le_of_ble_eq_true rfl) (Nat.le_of_ble_eq_true rfl) ?_
      exact ⟨_, rfl, rfl, by omega, by omega, by omega, by omega⟩
    · refine vc_aload_n dX6_ahead_12 rfl ?_
      refine vc_getR dX6_ahead_13 flX6_15 (s_1 hB0.1.1) rfl (r_1_1 hB0.1.1) ?_
      refine vc_iconst dX6_ahead_16 rfl ?_
      refine vc_iload_n dX6_ahead_17 rfl ?_
      refine vc_imulE dX6_ahead_18 (by omega) (by omega) ?_
      refine vc_iload_n dX6_ahead_19 rfl ?_
      refine vc_iconst dX6_ahead_20 rfl ?_
      refine vc_iandM dX6_ahead_21 4 2 rfl (by decide) rfl ?_
      refine vc_iaddE dX6_ahead_22 (by omega) (by omega) ?_
      refine vc_iaload dX6_ahead_23 (s_3 hB0.1.1) (by omega) (by omega) ?_
      have k4 : (-1) ≤ mI M 3 (((4 * c) + (d % 4)).toNat) ∧ mI M 3 (((4 * c) + (d % 4)).toNat) ≤ 15 := bA3 (M := M) hB0.1 _
      refine vc_goto dX6_ahead_24 ?_
      refine vc_iret dX6_ahead_28 rfl (Nat.le_of_ble_eq_true rfl) (Nat.le_of_ble_eq_true rfl) ?_
      exact ⟨_, rfl, rfl, by omega, by omega, by omega, by omega⟩

set_option maxRecDepth 4000 in
theorem sfX6_laneAt {l : Launch} {M : Mem} (hB : Box M)  (c : Int) (d : Int)  : Call l mdX6_laneAt [aR 1, aI c, aI d] M (fun q N => ∃ r : Int, q = some (aI r) ∧ M = N) := by
  have hB0 : BF fQ M M := BF.start hB
  refine Call.of [some (aR 1), some (aI c), some (aI d)] rfl (Nat.le_of_ble_eq_true rfl) rfl ?_
  refine vc_ok (fun hoM hoS hoL => ?_)
  have hr1 : -2147483648 ≤ c ∧ c < 2147483648 := hoL 1 _ rfl
  have hr2 : -2147483648 ≤ d ∧ d < 2147483648 := hoL 2 _ rfl
  refine vc_iload_n dX6_laneAt_0 rfl ?_
  refine vc_if_lt dX6_laneAt_1 (fun h1 => ?_) (fun h1 => ?_)
  · refine vc_iconst dX6_laneAt_27 rfl ?_
    refine vc_iret dX6_laneAt_28 rfl (Nat.le_of_ble_eq_true rfl) (Nat.le_of_ble_eq_true rfl) ?_
    exact ⟨_, rfl, rfl⟩
  · refine vc_iload_n dX6_laneAt_4 rfl ?_
    refine vc_aload_n dX6_laneAt_5 rfl ?_
    refine vc_getI dX6_laneAt_6 flX6_52 (s_1 hB0.1.1) rfl ?_
    have k2 : 0 ≤ mI M 1 6 ∧ mI M 1 6 ≤ 16 := b1_6 (M := M) hB0.1
    refine vc_icmp_ge dX6_laneAt_9 (fun h3 => ?_) (fun h3 => ?_)
    · refine vc_iconst dX6_laneAt_27 rfl ?_
      refine vc_iret dX6_laneAt_28 rfl (Nat.le_of_ble_eq_true rfl) (Nat.le_of_ble_eq_true rfl) ?_
      exact ⟨_, rfl, rfl⟩
    · refine vc_aload_n dX6_laneAt_12 rfl ?_
      refine vc_getR dX6_laneAt_13 flX6_18 (s_1 hB0.1.1) rfl (r_1_2 hB0.1.1) ?_
      refine vc_iconst dX6_laneAt_16 rfl ?_
      refine vc_iload_n dX6_laneAt_17 rfl ?_
      refine vc_imulE dX6_laneAt_18 (by omega) (by omega) ?_
      refine vc_iload_n dX6_laneAt_19 rfl ?_
      refine vc_iconst dX6_laneAt_20 rfl ?_
      refine vc_iandM dX6_laneAt_21 4 2 rfl (by decide) rfl ?_
      refine vc_iaddE dX6_laneAt_22 (by omega) (by omega) ?_
      refine vc_iaload dX6_laneAt_23 (s_4 hB0.1.1) (by omega) (by omega) ?_
      refine vc_goto dX6_laneAt_24 ?_
      refine vc_iret dX6_laneAt_28 rfl (Nat.le_of_ble_eq_true rfl) (Nat.le_of_ble_eq_true rfl) ?_
      exact ⟨_, rfl, rfl⟩

set_option maxRecDepth 4000 in
theorem sfX6_counts {l : Launch} {M : Mem} (hB : Box M)  (c : Int) (d : Int) (la : Int)  : Call l mdX6_counts [aR 1, aI c, aI d, aI la] M (fun q N => ∃ r : Int, q = some (aI r) ∧ M = N ∧ 0 ≤ r ∧ r ≤ 1) := by
  have hB0 : BF fQ M M := BF.start hB
  refine Call.of [some (aR 1), some (aI c), some (aI d), some (aI la), none] rfl (Nat.le_of_ble_eq_true rfl) rfl ?_
  refine vc_ok (fun hoM hoS hoL => ?_)
  have hr1 : -2147483648 ≤ c ∧ c < 2147483648 := hoL 1 _ rfl
  have hr2 : -2147483648 ≤ d ∧ d < 2147483648 := hoL 2 _ rfl
  have hr3 : -2147483648 ≤ la ∧ la < 2147483648 := hoL 3 _ rfl
  refine vc_iload_n dX6_counts_0 rfl ?_
  refine vc_if_lt dX6_counts_1 (fun h1 => ?_) (fun h1 => ?_)
  · refine vc_iconst dX6_counts_12 rfl ?_
    refine vc_zret dX6_counts_13 rfl (by first | decide | omega) (Nat.le_of_ble_eq_true rfl) (Nat.le_of_ble_eq_true rfl) ?_
    exact ⟨_, rfl, rfl, by omega, by omega⟩
  · refine vc_iload_n dX6_counts_4 rfl ?_
    refine vc_aload_n dX6_counts_5 rfl ?_
    refine vc_getI dX6_counts_6 flX6_52 (s_1 hB0.1.1) rfl ?_
    have k2 : 0 ≤ mI M 1 6 ∧ mI M 1 6 ≤ 16 := b1_6 (M := M) hB0.1
    refine vc_icmp_lt dX6_counts_9 (fun h3 => ?_) (fun h3 => ?_)
    · refine vc_iconst dX6_counts_14 rfl ?_
      refine vc_iload_n dX6_counts_15 rfl ?_
      refine vc_imulE dX6_counts_16 (by omega) (by omega) ?_
      refine vc_iload_n dX6_counts_17 rfl ?_
      refine vc_iconst dX6_counts_18 rfl ?_
      refine vc_iandM dX6_counts_19 4 2 rfl (by decide) rfl ?_
      refine vc_iaddE dX6_counts_20 (by omega) (by omega) ?_
      refine vc_nameI (fun x4 ex4 => ?_)
      refine vc_istore dX6_counts_21 (by decide) rfl (show _ = [some (aR 1), some (aI c), some (aI d), some (aI la), some (aI x4)] from rfl) ?_
      refine vc_aload_n dX6_counts_23 rfl ?_
      refine vc_getR dX6_counts_24 flX6_15 (s_1 hB0.1.1) rfl (r_1_1 hB0.1.1) ?_
      refine vc_iload dX6_counts_27 rfl ?_
      refine vc_iaload dX6_counts_29 (s_3 hB0.1.1) (by omega) (by omega) ?_
      have k5 : (-1) ≤ mI M 3 x4.toNat ∧ mI M 3 x4.toNat ≤ 15 := bA3 (M := M) hB0.1 _
      refine vc_iconst dX6_counts_30 rfl ?_
      refine vc_icmp_eq dX6_counts_31 (fun h6 => ?_) (fun h6 => ?_)
      · refine vc_iconst dX6_counts_52 rfl ?_
        refine vc_zret dX6_counts_53 rfl (by first | decide | omega) (Nat.le_of_ble_eq_true rfl) (Nat.le_of_ble_eq_true rfl) ?_
        exact ⟨_, rfl, rfl, by omega, by omega⟩
      · refine vc_iload_n dX6_counts_34 rfl ?_
        refine vc_if_ne dX6_counts_35 (fun h7 => ?_) (fun h7 => ?_)
        · refine vc_iconst dX6_counts_48 rfl ?_
          refine vc_goto dX6_counts_49 ?_
          refine vc_zret dX6_counts_53 rfl (by first | decide | omega) (Nat.le_of_ble_eq_true rfl) (Nat.le_of_ble_eq_true rfl) ?_
          exact ⟨_, rfl, rfl, by omega, by omega⟩
        · refine vc_aload_n dX6_counts_38 rfl ?_
          refine vc_getR dX6_counts_39 flX6_18 (s_1 hB0.1.1) rfl (r_1_2 hB0.1.1) ?_
          refine vc_iload dX6_counts_42 rfl ?_
          refine vc_iaload dX6_counts_44 (s_4 hB0.1.1) (by omega) (by omega) ?_
          refine vc_if_ne dX6_counts_45 (fun h8 => ?_) (fun h8 => ?_)
          · refine vc_iconst dX6_counts_52 rfl ?_
            refine vc_zret dX6_counts_53 rfl (by first | decide | omega) (Nat.le_of_ble_eq_true rfl) (Nat.le_of_ble_eq_true rfl) ?_
            exact ⟨_, rfl, rfl, by omega, by omega⟩
          · refine vc_iconst dX6_counts_48 rfl ?_
            refine vc_goto dX6_counts_49 ?_
            refine vc_zret dX6_counts_53 rfl (by first | decide | omega) (Nat.le_of_ble_eq_true rfl) (Nat.le_of_ble_eq_true rfl) ?_
            exact ⟨_, rfl, rfl, by omega, by omega⟩
    · refine vc_iconst dX6_counts_12 rfl ?_
      refine vc_zret dX6_counts_13 rfl (by first | decide | omega) (Nat.le_of_ble_eq_true rfl) (Nat.le_of_ble_eq_true rfl) ?_
      exact ⟨_, rfl, rfl, by omega, by omega⟩

set_option maxRecDepth 4000 in
theorem sfX6_hasOther {l : Launch} {M : Mem} (hB : Box M)  (c : Int) (a : Int) (b : Int)  : Call l mdX6_hasOther [aR 1, aI c, aI a, aI b] M (fun q N => ∃ r : Int, q = some (aI r) ∧ M = N ∧ 0 ≤ r ∧ r ≤ 1) := by
  have hB0 : BF fQ M M := BF.start hB
  refine Call.of [some (aR 1), some (aI c), some (aI a), some (aI b), none] rfl (Nat.le_of_ble_eq_true rfl) rfl ?_
  refine vc_ok (fun hoM hoS hoL => ?_)
  have hr1 : -2147483648 ≤ c ∧ c < 2147483648 := hoL 1 _ rfl
  have hr2 : -2147483648 ≤ a ∧ a < 2147483648 := hoL 2 _ rfl
  have hr3 : -2147483648 ≤ b ∧ b < 2147483648 := hoL 3 _ rfl
  refine vc_iconst dX6_hasOther_0 rfl ?_
  refine vc_istore dX6_hasOther_1 (by decide) rfl (show _ = [some (aR 1), some (aI c), some (aI a), some (aI b), some (aI 0)] from rfl) ?_
  have lp3 : ∀ (n3 : Nat) (v4 : Int), (0 ≤ v4) → (v4 ≤ 4) → (4 - v4).toNat < n3 → VC l mdX6_hasOther 3 [some (aR 1), some (aI c), some (aI a), some (aI b), some (aI v4)] [] M 0 0 (fun q N => ∃ r : Int, q = some (aI r) ∧ M = N ∧ 0 ≤ r ∧ r ≤ 1) := by
    intro n3
    induction n3 with
    | zero => intro v4 g3_4a g3_4b hm3; exact absurd hm3 (Nat.not_lt_zero _)
    | succ n3 ih3 =>
      intro v4 g3_4a g3_4b hm3
      refine vc_iload dX6_hasOther_3 rfl ?_
      refine vc_iconst dX6_hasOther_5 rfl ?_
      refine vc_icmp_ge dX6_hasOther_6 (fun h1 => ?_) (fun h1 => ?_)
      · refine vc_iconst dX6_hasOther_44 rfl ?_
        refine vc_zret dX6_hasOther_45 rfl (by first | decide | omega) (Nat.le_of_ble_eq_true rfl) (Nat.le_of_ble_eq_true rfl) ?_
        exact ⟨_, rfl, rfl, by omega, by omega⟩
      · refine vc_iload dX6_hasOther_9 rfl ?_
        refine vc_iload_n dX6_hasOther_11 rfl ?_
        refine vc_iconst dX6_hasOther_12 rfl ?_
        refine vc_iandM dX6_hasOther_13 4 2 rfl (by decide) rfl ?_
        refine vc_icmp_eq dX6_hasOther_14 (fun h2 => ?_) (fun h2 => ?_)
        · refine vc_iincE dX6_hasOther_38 rfl (by omega) (by omega) (by decide) rfl (show _ = [some (aR 1), some (aI c), some (aI a), some (aI b), some (aI (v4 + 1))] from rfl) ?_
          refine vc_goto dX6_hasOther_41 ?_
          exact ih3 (v4 + 1) (by omega) (by omega) (by omega)
        · refine vc_iload dX6_hasOther_17 rfl ?_
          refine vc_iload_n dX6_hasOther_19 rfl ?_
          refine vc_iconst dX6_hasOther_20 rfl ?_
          refine vc_iandM dX6_hasOther_21 4 2 rfl (by decide) rfl ?_
          refine vc_icmp_eq dX6_hasOther_22 (fun h3 => ?_) (fun h3 => ?_)
          · refine vc_iincE dX6_hasOther_38 rfl (by omega) (by omega) (by decide) rfl (show _ = [some (aR 1), some (aI c), some (aI a), some (aI b), some (aI (v4 + 1))] from rfl) ?_
            refine vc_goto dX6_hasOther_41 ?_
            exact ih3 (v4 + 1) (by omega) (by omega) (by omega)
          · refine vc_aload_n dX6_hasOther_25 rfl ?_
            refine vc_iload_n dX6_hasOther_26 rfl ?_
            refine vc_iload dX6_hasOther_27 rfl ?_
            refine vc_cVI dX6_hasOther_29 (sfX6_ahead (M := M) hB0.1  c v4 ) rfl okX6_ahead viX6_ahead lkX6_70 (s_1 hB0.1.1) cl_6 rfl (Nat.le_of_ble_eq_true rfl) ⟨rfl, rfl⟩ (Nat.le_of_ble_eq_true rfl) (Nat.le_of_ble_eq_true rfl) (Nat.le_of_ble_eq_true rfl) ?_
            rintro x4 _ ⟨rfl, h5, h6, h7, h8⟩
            refine vc_iconst dX6_hasOther_32 rfl ?_
            refine vc_icmp_eq dX6_hasOther_33 (fun h9 => ?_) (fun h9 => ?_)
            · refine vc_iincE dX6_hasOther_38 rfl (by omega) (by omega) (by decide) rfl (show _ = [some (aR 1), some (aI c), some (aI a), some (aI b), some (aI (v4 + 1))] from rfl) ?_
              refine vc_goto dX6_hasOther_41 ?_
              exact ih3 (v4 + 1) (by omega) (by omega) (by omega)
            · refine vc_iconst dX6_hasOther_36 rfl ?_
              refine vc_zret dX6_hasOther_37 rfl (by first | decide | omega) (Nat.le_of_ble_eq_true rfl) (Nat.le_of_ble_eq_true rfl) ?_
              exact ⟨_, rfl, rfl, by omega, by omega⟩
  exact lp3 _ 0 (by omega) (by omega) (Nat.lt_succ_self _)

set_option maxRecDepth 4000 in
theorem sfX6_tellerCell {l : Launch} {M : Mem} (hB : Box M)  (t : Int) (c : Int)  : Call l mdX6_tellerCell [aR 1, aI t, aI c] M (fun q N => ∃ r : Int, q = some (aI r) ∧ M = N) := by
  have hB0 : BF fQ M M := BF.start hB
  refine Call.of [some (aR 1), some (aI t), some (aI c)] rfl (Nat.le_of_ble_eq_true rfl) rfl ?_
  refine vc_ok (fun hoM hoS hoL => ?_)
  have hr1 : -2147483648 ≤ t ∧ t < 2147483648 := hoL 1 _ rfl
  have hr2 : -2147483648 ≤ c ∧ c < 2147483648 := hoL 2 _ rfl
  refine vc_iload_n dX6_tellerCell_0 rfl ?_
  refine vc_if_lt dX6_tellerCell_1 (fun h1 => ?_) (fun h1 => ?_)
  · refine vc_iconst dX6_tellerCell_34 rfl ?_
    refine vc_iret dX6_tellerCell_35 rfl (Nat.le_of_ble_eq_true rfl) (Nat.le_of_ble_eq_true rfl) ?_
    exact ⟨_, rfl, rfl⟩
  · refine vc_iload_n dX6_tellerCell_4 rfl ?_
    refine vc_aload_n dX6_tellerCell_5 rfl ?_
    refine vc_getI dX6_tellerCell_6 flX6_55 (s_1 hB0.1.1) rfl ?_
    have k2 : 0 ≤ mI M 1 8 ∧ mI M 1 8 ≤ 6 := b1_8 (M := M) hB0.1
    refine vc_icmp_ge dX6_tellerCell_9 (fun h3 => ?_) (fun h3 => ?_)
    · refine vc_iconst dX6_tellerCell_34 rfl ?_
      refine vc_iret dX6_tellerCell_35 rfl (Nat.le_of_ble_eq_true rfl) (Nat.le_of_ble_eq_true rfl) ?_
      exact ⟨_, rfl, rfl⟩
    · refine vc_iload_n dX6_tellerCell_12 rfl ?_
      refine vc_if_lt dX6_tellerCell_13 (fun h4 => ?_) (fun h4 => ?_)
      · refine vc_iconst dX6_tellerCell_34 rfl ?_
        refine vc_iret dX6_tellerCell_35 rfl (Nat.le_of_ble_eq_true rfl) (Nat.le_of_ble_eq_true rfl) ?_
        exact ⟨_, rfl, rfl⟩
      · refine vc_iload_n dX6_tellerCell_16 rfl ?_
        refine vc_iconst dX6_tellerCell_17 rfl ?_
        refine vc_icmp_ge dX6_tellerCell_18 (fun h5 => ?_) (fun h5 => ?_)
        · refine vc_iconst dX6_tellerCell_34 rfl ?_
          refine vc_iret dX6_tellerCell_35 rfl (Nat.le_of_ble_eq_true rfl) (Nat.le_of_ble_eq_true rfl) ?_
          exact ⟨_, rfl, rfl⟩
        · refine vc_aload_n dX6_tellerCell_21 rfl ?_
          refine vc_getR dX6_tellerCell_22 flX6_21 (s_1 hB0.1.1) rfl (r_1_3 hB0.1.1) ?_
          refine vc_iconst dX6_tellerCell_25 rfl ?_
          refine vc_iload_n dX6_tellerCell_26 rfl ?_
          refine vc_imulE dX6_tellerCell_27 (by omega) (by omega) ?_
          refine vc_iload_n dX6_tellerCell_28 rfl ?_
          refine vc_iaddE dX6_tellerCell_29 (by omega) (by omega) ?_
          refine vc_iaload dX6_tellerCell_30 (s_5 hB0.1.1) (by omega) (by omega) ?_
          refine vc_goto dX6_tellerCell_31 ?_
          refine vc_iret dX6_tellerCell_35 rfl (Nat.le_of_ble_eq_true rfl) (Nat.le_of_ble_eq_true rfl) ?_
          exact ⟨_, rfl, rfl⟩

set_option maxRecDepth 4000 in
theorem sfX6_tellingCell {l : Launch} {M : Mem} (hB : Box M)  (t : Int) (c : Int)  : Call l mdX6_tellingCell [aR 1, aI t, aI c] M (fun q N => ∃ r : Int, q = some (aI r) ∧ M = N) := by
  have hB0 : BF fQ M M := BF.start hB
  refine Call.of [some (aR 1), some (aI t), some (aI c)] rfl (Nat.le_of_ble_eq_true rfl) rfl ?_
  refine vc_ok (fun hoM hoS hoL => ?_)
  have hr1 : -2147483648 ≤ t ∧ t < 2147483648 := hoL 1 _ rfl
  have hr2 : -2147483648 ≤ c ∧ c < 2147483648 := hoL 2 _ rfl
  refine vc_iload_n dX6_tellingCell_0 rfl ?_
  refine vc_if_lt dX6_tellingCell_1 (fun h1 => ?_) (fun h1 => ?_)
  · refine vc_iconst dX6_tellingCell_36 rfl ?_
    refine vc_iret dX6_tellingCell_37 rfl (Nat.le_of_ble_eq_true rfl) (Nat.le_of_ble_eq_true rfl) ?_
    exact ⟨_, rfl, rfl⟩
  · refine vc_iload_n dX6_tellingCell_4 rfl ?_
    refine vc_aload_n dX6_tellingCell_5 rfl ?_
    refine vc_getI dX6_tellingCell_6 flX6_58 (s_1 hB0.1.1) rfl ?_
    have k2 : 0 ≤ mI M 1 9 ∧ mI M 1 9 ≤ 8 := b1_9 (M := M) hB0.1
    refine vc_icmp_ge dX6_tellingCell_9 (fun h3 => ?_) (fun h3 => ?_)
    · refine vc_iconst dX6_tellingCell_36 rfl ?_
      refine vc_iret dX6_tellingCell_37 rfl (Nat.le_of_ble_eq_true rfl) (Nat.le_of_ble_eq_true rfl) ?_
      exact ⟨_, rfl, rfl⟩
    · refine vc_iload_n dX6_tellingCell_12 rfl ?_
      refine vc_if_lt dX6_tellingCell_13 (fun h4 => ?_) (fun h4 => ?_)
      · refine vc_iconst dX6_tellingCell_36 rfl ?_
        refine vc_iret dX6_tellingCell_37 rfl (Nat.le_of_ble_eq_true rfl) (Nat.le_of_ble_eq_true rfl) ?_
        exact ⟨_, rfl, rfl⟩
      · refine vc_iload_n dX6_tellingCell_16 rfl ?_
        refine vc_bipush dX6_tellingCell_17 rfl ?_
        refine vc_icmp_ge dX6_tellingCell_19 (fun h5 => ?_) (fun h5 => ?_)
        · refine vc_iconst dX6_tellingCell_36 rfl ?_
          refine vc_iret dX6_tellingCell_37 rfl (Nat.le_of_ble_eq_true rfl) (Nat.le_of_ble_eq_true rfl) ?_
          exact ⟨_, rfl, rfl⟩
        · refine vc_aload_n dX6_tellingCell_22 rfl ?_
          refine vc_getR dX6_tellingCell_23 flX6_24 (s_1 hB0.1.1) rfl (r_1_4 hB0.1.1) ?_
          refine vc_bipush dX6_tellingCell_26 rfl ?_
          refine vc_iload_n dX6_tellingCell_28 rfl ?_
          refine vc_imulE dX6_tellingCell_29 (by omega) (by omega) ?_
          refine vc_iload_n dX6_tellingCell_30 rfl ?_
          refine vc_iaddE dX6_tellingCell_31 (by omega) (by omega) ?_
          refine vc_iaload dX6_tellingCell_32 (s_6 hB0.1.1) (by omega) (by omega) ?_
          refine vc_goto dX6_tellingCell_33 ?_
          refine vc_iret dX6_tellingCell_37 rfl (Nat.le_of_ble_eq_true rfl) (Nat.le_of_ble_eq_true rfl) ?_
          exact ⟨_, rfl, rfl⟩

set_option maxRecDepth 4000 in
theorem sfX6_turnOf {l : Launch} {M : Mem} (hB : Box M)  (t : Int) (i : Int)  : Call l mdX6_turnOf [aR 1, aI t, aI i] M (fun q N => ∃ r : Int, q = some (aI r) ∧ M = N) := by
  have hB0 : BF fQ M M := BF.start hB
  refine Call.of [some (aR 1), some (aI t), some (aI i)] rfl (Nat.le_of_ble_eq_true rfl) rfl ?_
  refine vc_ok (fun hoM hoS hoL => ?_)
  have hr1 : -2147483648 ≤ t ∧ t < 2147483648 := hoL 1 _ rfl
  have hr2 : -2147483648 ≤ i ∧ i < 2147483648 := hoL 2 _ rfl
  refine vc_iload_n dX6_turnOf_0 rfl ?_
  refine vc_if_lt dX6_turnOf_1 (fun h1 => ?_) (fun h1 => ?_)
  · refine vc_iconst dX6_turnOf_25 rfl ?_
    refine vc_iret dX6_turnOf_26 rfl (Nat.le_of_ble_eq_true rfl) (Nat.le_of_ble_eq_true rfl) ?_
    exact ⟨_, rfl, rfl⟩
  · refine vc_iload_n dX6_turnOf_4 rfl ?_
    refine vc_aload_n dX6_turnOf_5 rfl ?_
    refine vc_iload_n dX6_turnOf_6 rfl ?_
    refine vc_iconst dX6_turnOf_7 rfl ?_
    refine vc_cVI dX6_turnOf_8 (sfX6_tellingCell (M := M) hB0.1  t 2 ) rfl okX6_tellingCell viX6_tellingCell lkX6_74 (s_1 hB0.1.1) cl_6 rfl (Nat.le_of_ble_eq_true rfl) ⟨rfl, rfl⟩ (Nat.le_of_ble_eq_true rfl) (Nat.le_of_ble_eq_true rfl) (Nat.le_of_ble_eq_true rfl) ?_
    rintro x2 _ rfl
    refine vc_icmp_ge dX6_turnOf_11 (fun h3 => ?_) (fun h3 => ?_)
    · refine vc_iconst dX6_turnOf_25 rfl ?_
      refine vc_iret dX6_turnOf_26 rfl (Nat.le_of_ble_eq_true rfl) (Nat.le_of_ble_eq_true rfl) ?_
      exact ⟨_, rfl, rfl⟩
    · refine vc_aload_n dX6_turnOf_14 rfl ?_
      refine vc_iload_n dX6_turnOf_15 rfl ?_
      refine vc_iconst dX6_turnOf_16 rfl ?_
      refine vc_iload_n dX6_turnOf_17 rfl ?_
      refine vc_iadd dX6_turnOf_18 ?_
      refine vc_cVI dX6_turnOf_19 (sfX6_tellingCell (M := M) hB0.1  t (wI (3 + i)) ) rfl okX6_tellingCell viX6_tellingCell lkX6_74 (s_1 hB0.1.1) cl_6 rfl (Nat.le_of_ble_eq_true rfl) ⟨rfl, rfl⟩ (Nat.le_of_ble_eq_true rfl) (Nat.le_of_ble_eq_true rfl) (Nat.le_of_ble_eq_true rfl) ?_
      rintro x4 _ rfl
      refine vc_goto dX6_turnOf_22 ?_
      refine vc_iret dX6_turnOf_26 rfl (Nat.le_of_ble_eq_true rfl) (Nat.le_of_ble_eq_true rfl) ?_
      exact ⟨_, rfl, rfl⟩

set_option maxRecDepth 4000 in
theorem sfX6_setGoal {l : Launch} {M : Mem} (hB : Box M)  (c : Int)  : Call l mdX6_setGoal [aR 1, aI c] M (fun q N => ∃ r : Int, q = some (aI r) ∧ BF fC M N ∧ 0 ≤ r ∧ r ≤ 1) := by
  have hB0 : BF fC M M := BF.start hB
  refine Call.of [some (aR 1), some (aI c)] rfl (Nat.le_of_ble_eq_true rfl) rfl ?_
  refine vc_ok (fun hoM hoS hoL => ?_)
  have hr1 : -2147483648 ≤ c ∧ c < 2147483648 := hoL 1 _ rfl
  refine vc_iload_n dX6_setGoal_0 rfl ?_
  refine vc_iconst dX6_setGoal_1 rfl ?_
  refine vc_icmp_eq dX6_setGoal_2 (fun h1 => ?_) (fun h1 => ?_)
  · refine vc_aload_n dX6_setGoal_15 rfl ?_
    refine vc_iload_n dX6_setGoal_16 rfl ?_
    refine vc_putI dX6_setGoal_17 (plX6_39 _ rfl) (s_1 hB0.1.1) rfl ?_
    have hB2 : BF fC M (sI M 1 7 c) := BF.w1_7 hB0 rfl (by omega) (by omega)
    refine vc_iconst dX6_setGoal_20 rfl ?_
    refine vc_zret dX6_setGoal_21 rfl (by first | decide | omega) (Nat.le_of_ble_eq_true rfl) (Nat.le_of_ble_eq_true rfl) ?_
    exact ⟨_, rfl, hB2, by omega, by omega⟩
  · refine vc_aload_n dX6_setGoal_5 rfl ?_
    refine vc_iload_n dX6_setGoal_6 rfl ?_
    refine vc_cVI dX6_setGoal_7 (sfX6_hasCorner (M := M) hB0.1  c ) rfl okX6_hasCorner viX6_hasCorner lkX6_77 (s_1 hB0.1.1) cl_6 rfl (Nat.le_of_ble_eq_true rfl) ⟨rfl, rfl⟩ (Nat.le_of_ble_eq_true rfl) (Nat.le_of_ble_eq_true rfl) (Nat.le_of_ble_eq_true rfl) ?_
    rintro x3 _ ⟨rfl, h4, h5, h6⟩
    refine vc_if_ne dX6_setGoal_10 (fun h7 => ?_) (fun h7 => ?_)
    · refine vc_aload_n dX6_setGoal_15 rfl ?_
      refine vc_iload_n dX6_setGoal_16 rfl ?_
      refine vc_putI dX6_setGoal_17 (plX6_39 _ rfl) (s_1 hB0.1.1) rfl ?_
      have hB8 : BF fC M (sI M 1 7 c) := BF.w1_7 hB0 rfl (by omega) (by omega)
      refine vc_iconst dX6_setGoal_20 rfl ?_
      refine vc_zret dX6_setGoal_21 rfl (by first | decide | omega) (Nat.le_of_ble_eq_true rfl) (Nat.le_of_ble_eq_true rfl) ?_
      exact ⟨_, rfl, hB8, by omega, by omega⟩
    · refine vc_iconst dX6_setGoal_13 rfl ?_
      refine vc_zret dX6_setGoal_14 rfl (by first | decide | omega) (Nat.le_of_ble_eq_true rfl) (Nat.le_of_ble_eq_true rfl) ?_
      exact ⟨_, rfl, hB0, by omega, by omega⟩

set_option maxRecDepth 4000 in
theorem sfX6_addCorner {l : Launch} {M : Mem} (hB : Box M)  (s : Int)  : Call l mdX6_addCorner [aR 1, aI s] M (fun q N => ∃ r : Int, q = some (aI r) ∧ BF fC M N) := by
  have hB0 : BF fC M M := BF.start hB
  refine Call.of [some (aR 1), some (aI s)] rfl (Nat.le_of_ble_eq_true rfl) rfl ?_
  refine vc_ok (fun hoM hoS hoL => ?_)
  have hr1 : -2147483648 ≤ s ∧ s < 2147483648 := hoL 1 _ rfl
  refine vc_iload_n dX6_addCorner_0 rfl ?_
  refine vc_if_lt dX6_addCorner_1 (fun h1 => ?_) (fun h1 => ?_)
  · refine vc_iconst dX6_addCorner_18 rfl ?_
    refine vc_iret dX6_addCorner_19 rfl (Nat.le_of_ble_eq_true rfl) (Nat.le_of_ble_eq_true rfl) ?_
    exact ⟨_, rfl, hB0⟩
  · refine vc_iload_n dX6_addCorner_4 rfl ?_
    refine vc_iconst dX6_addCorner_5 rfl ?_
    refine vc_icmp_gt dX6_addCorner_6 (fun h2 => ?_) (fun h2 => ?_)
    · refine vc_iconst dX6_addCorner_18 rfl ?_
      refine vc_iret dX6_addCorner_19 rfl (Nat.le_of_ble_eq_true rfl) (Nat.le_of_ble_eq_true rfl) ?_
      exact ⟨_, rfl, hB0⟩
    · refine vc_aload_n dX6_addCorner_9 rfl ?_
      refine vc_getI dX6_addCorner_10 flX6_52 (s_1 hB0.1.1) rfl ?_
      have k3 : 0 ≤ mI M 1 6 ∧ mI M 1 6 ≤ 16 := b1_6 (M := M) hB0.1
      refine vc_bipush dX6_addCorner_13 rfl ?_
      refine vc_icmp_lt dX6_addCorner_15 (fun h4 => ?_) (fun h4 => ?_)
      · refine vc_aload_n dX6_addCorner_20 rfl ?_
        refine vc_getR dX6_addCorner_21 flX6_9 (s_1 hB0.1.1) rfl (r_1_0 hB0.1.1) ?_
        refine vc_aload_n dX6_addCorner_24 rfl ?_
        refine vc_getI dX6_addCorner_25 flX6_52 (s_1 hB0.1.1) rfl ?_
        refine vc_iload_n dX6_addCorner_28 rfl ?_
        refine vc_iastore dX6_addCorner_29 (s_2 hB0.1.1) (by omega) (by omega) ?_
        have hB5 : BF fC M (sI M 2 ((mI M 1 6).toNat) s) := BF.w2 hB0 (fun _ => rfl) _
        refine vc_aload_n dX6_addCorner_30 rfl ?_
        refine vc_dup dX6_addCorner_31 rfl ?_
        refine vc_getI dX6_addCorner_32 flX6_52 (s_1 hB5.1.1) rfl ?_
        refine vc_topI (mI M 1 6) rfl ?_
        have k6 : 0 ≤ mI M 1 6 ∧ mI M 1 6 ≤ 16 := b1_6 (M := (sI M 2 ((mI M 1 6).toNat) s)) hB5.1
        refine vc_iconst dX6_addCorner_35 rfl ?_
        refine vc_iaddE dX6_addCorner_36 (by omega) (by omega) ?_
        refine vc_putI dX6_addCorner_37 (plX6_52 _ rfl) (s_1 hB5.1.1) rfl ?_
        have hB7 : BF fC M (sI (sI M 2 ((mI M 1 6).toNat) s) 1 6 ((mI M 1 6) + 1)) := BF.w1_6 hB5 rfl (by omega) (by omega)
        refine vc_aload_n dX6_addCorner_40 rfl ?_
        refine vc_getI dX6_addCorner_41 flX6_52 (s_1 hB7.1.1) rfl ?_
        refine vc_topI ((mI M 1 6) + 1) rfl ?_
        refine vc_iconst dX6_addCorner_44 rfl ?_
        refine vc_isubE dX6_addCorner_45 (by omega) (by omega) ?_
        refine vc_iret dX6_addCorner_46 rfl (Nat.le_of_ble_eq_true rfl) (Nat.le_of_ble_eq_true rfl) ?_
        exact ⟨_, rfl, hB7⟩
      · refine vc_iconst dX6_addCorner_18 rfl ?_
        refine vc_iret dX6_addCorner_19 rfl (Nat.le_of_ble_eq_true rfl) (Nat.le_of_ble_eq_true rfl) ?_
        exact ⟨_, rfl, hB0⟩

set_option maxRecDepth 4000 in
theorem sfX6_addStreet {l : Launch} {M : Mem} (hB : Box M)  (f : Int) (d : Int) (t : Int) (la : Int)  : Call l mdX6_addStreet [aR 1, aI f, aI d, aI t, aI la] M (fun q N => ∃ r : Int, q = some (aI r) ∧ BF fC M N ∧ 0 ≤ r ∧ r ≤ 1) := by
  have hB0 : BF fC M M := BF.start hB
  refine Call.of [some (aR 1), some (aI f), some (aI d), some (aI t), some (aI la), none, none] rfl (Nat.le_of_ble_eq_true rfl) rfl ?_
  refine vc_ok (fun hoM hoS hoL => ?_)
  have hr1 : -2147483648 ≤ f ∧ f < 2147483648 := hoL 1 _ rfl
  have hr2 : -2147483648 ≤ d ∧ d < 2147483648 := hoL 2 _ rfl
  have hr3 : -2147483648 ≤ t ∧ t < 2147483648 := hoL 3 _ rfl
  have hr4 : -2147483648 ≤ la ∧ la < 2147483648 := hoL 4 _ rfl
  refine vc_aload_n dX6_addStreet_0 rfl ?_
  refine vc_iload_n dX6_addStreet_1 rfl ?_
  refine vc_cVI dX6_addStreet_2 (sfX6_hasCorner (M := M) hB0.1  f ) rfl okX6_hasCorner viX6_hasCorner lkX6_77 (s_1 hB0.1.1) cl_6 rfl (Nat.le_of_ble_eq_true rfl) ⟨rfl, rfl⟩ (Nat.le_of_ble_eq_true rfl) (Nat.le_of_ble_eq_true rfl) (Nat.le_of_ble_eq_true rfl) ?_
  rintro x1 _ ⟨rfl, h2, h3, h4⟩
  refine vc_if_eq dX6_addStreet_5 (fun h5 => ?_) (fun h5 => ?_)
  · refine vc_iconst dX6_addStreet_28 rfl ?_
    refine vc_zret dX6_addStreet_29 rfl (by first | decide | omega) (Nat.le_of_ble_eq_true rfl) (Nat.le_of_ble_eq_true rfl) ?_
    exact ⟨_, rfl, hB0, by omega, by omega⟩
  · refine vc_aload_n dX6_addStreet_8 rfl ?_
    refine vc_iload_n dX6_addStreet_9 rfl ?_
    refine vc_cVI dX6_addStreet_10 (sfX6_hasCorner (M := M) hB0.1  t ) rfl okX6_hasCorner viX6_hasCorner lkX6_77 (s_1 hB0.1.1) cl_6 rfl (Nat.le_of_ble_eq_true rfl) ⟨rfl, rfl⟩ (Nat.le_of_ble_eq_true rfl) (Nat.le_of_ble_eq_true rfl) (Nat.le_of_ble_eq_true rfl) ?_
    rintro x6 _ ⟨rfl, h7, h8, h9⟩
    refine vc_if_eq dX6_addStreet_13 (fun h10 => ?_) (fun h10 => ?_)
    · refine vc_iconst dX6_addStreet_28 rfl ?_
      refine vc_zret dX6_addStreet_29 rfl (by first | decide | omega) (Nat.le_of_ble_eq_true rfl) (Nat.le_of_ble_eq_true rfl) ?_
      exact ⟨_, rfl, hB0, by omega, by omega⟩
    · refine vc_iload_n dX6_addStreet_16 rfl ?_
      refine vc_iload_n dX6_addStreet_17 rfl ?_
      refine vc_icmp_eq dX6_addStreet_18 (fun h11 => ?_) (fun h11 => ?_)
      · refine vc_iconst dX6_addStreet_28 rfl ?_
        refine vc_zret dX6_addStreet_29 rfl (by first | decide | omega) (Nat.le_of_ble_eq_true rfl) (Nat.le_of_ble_eq_true rfl) ?_
        exact ⟨_, rfl, hB0, by omega, by omega⟩
      · refine vc_iload_n dX6_addStreet_21 rfl ?_
        refine vc_cNI dX6_addStreet_22 (sfX11_isDirection (M := M) hB0.1  d ) rfl okX11_isDirection stX11_isDirection nkX6_81 rfl (Nat.le_of_ble_eq_true rfl) ⟨rfl, rfl⟩ (Nat.le_of_ble_eq_true rfl) (Nat.le_of_ble_eq_true rfl) (Nat.le_of_ble_eq_true rfl) ?_
        rintro x12 _ ⟨rfl, h13, h14, h15⟩
        refine vc_if_ne dX6_addStreet_25 (fun h16 => ?_) (fun h16 => ?_)
        · refine vc_iconst dX6_addStreet_30 rfl ?_
          refine vc_iload_n dX6_addStreet_31 rfl ?_
          refine vc_imulE dX6_addStreet_32 (by omega) (by omega) ?_
          refine vc_iload_n dX6_addStreet_33 rfl ?_
          refine vc_iaddE dX6_addStreet_34 (by omega) (by omega) ?_
          refine vc_nameI (fun x17 ex17 => ?_)
          refine vc_istore dX6_addStreet_35 (by decide) rfl (show _ = [some (aR 1), some (aI f), some (aI d), some (aI t), some (aI la), some (aI x17), none] from rfl) ?_
          refine vc_iconst dX6_addStreet_37 rfl ?_
          refine vc_iload_n dX6_addStreet_38 rfl ?_
          refine vc_imulE dX6_addStreet_39 (by omega) (by omega) ?_
          refine vc_iload_n dX6_addStreet_40 rfl ?_
          refine vc_iconst dX6_addStreet_41 rfl ?_
          refine vc_iadd dX6_addStreet_42 ?_
          refine vc_iconst dX6_addStreet_43 rfl ?_
          refine vc_iandW dX6_addStreet_44 4 2 rfl (by decide) rfl ?_
          refine vc_iaddE dX6_addStreet_45 (by omega) (by omega) ?_
          refine vc_nameI (fun x18 ex18 => ?_)
          refine vc_istore dX6_addStreet_46 (by decide) rfl (show _ = [some (aR 1), some (aI f), some (aI d), some (aI t), some (aI la), some (aI x17), some (aI x18)] from rfl) ?_
          refine vc_aload_n dX6_addStreet_48 rfl ?_
          refine vc_getR dX6_addStreet_49 flX6_15 (s_1 hB0.1.1) rfl (r_1_1 hB0.1.1) ?_
          refine vc_iload dX6_addStreet_52 rfl ?_
          refine vc_iaload dX6_addStreet_54 (s_3 hB0.1.1) (by omega) (by omega) ?_
          have k19 : (-1) ≤ mI M 3 x17.toNat ∧ mI M 3 x17.toNat ≤ 15 := bA3 (M := M) hB0.1 _
          refine vc_iconst dX6_addStreet_55 rfl ?_
          refine vc_icmp_ne dX6_addStreet_56 (fun h20 => ?_) (fun h20 => ?_)
          · refine vc_iconst dX6_addStreet_70 rfl ?_
            refine vc_zret dX6_addStreet_71 rfl (by first | decide | omega) (Nat.le_of_ble_eq_true rfl) (Nat.le_of_ble_eq_true rfl) ?_
            exact ⟨_, rfl, hB0, by omega, by omega⟩
          · refine vc_aload_n dX6_addStreet_59 rfl ?_
            refine vc_getR dX6_addStreet_60 flX6_15 (s_1 hB0.1.1) rfl (r_1_1 hB0.1.1) ?_
            refine vc_iload dX6_addStreet_63 rfl ?_
            refine vc_iaload dX6_addStreet_65 (s_3 hB0.1.1) (by omega) (by omega) ?_
            have k21 : (-1) ≤ mI M 3 x18.toNat ∧ mI M 3 x18.toNat ≤ 15 := bA3 (M := M) hB0.1 _
            refine vc_iconst dX6_addStreet_66 rfl ?_
            refine vc_icmp_eq dX6_addStreet_67 (fun h22 => ?_) (fun h22 => ?_)
            · refine vc_aload_n dX6_addStreet_72 rfl ?_
              refine vc_getR dX6_addStreet_73 flX6_15 (s_1 hB0.1.1) rfl (r_1_1 hB0.1.1) ?_
              refine vc_iload dX6_addStreet_76 rfl ?_
              refine vc_iload_n dX6_addStreet_78 rfl ?_
              refine vc_iastore dX6_addStreet_79 (s_3 hB0.1.1) (by omega) (by omega) ?_
              have hB23 : BF fC M (sI M 3 x17.toNat t) := BF.w3 hB0 (fun _ => rfl) _ (by omega) (by omega)
              refine vc_aload_n dX6_addStreet_80 rfl ?_
              refine vc_getR dX6_addStreet_81 flX6_15 (s_1 hB23.1.1) rfl (r_1_1 hB23.1.1) ?_
              refine vc_iload dX6_addStreet_84 rfl ?_
              refine vc_iload_n dX6_addStreet_86 rfl ?_
              refine vc_iastore dX6_addStreet_87 (s_3 hB23.1.1) (by omega) (by omega) ?_
              have hB24 : BF fC M (sI (sI M 3 x17.toNat t) 3 x18.toNat f) := BF.w3 hB23 (fun _ => rfl) _ (by omega) (by omega)
              refine vc_aload_n dX6_addStreet_88 rfl ?_
              refine vc_getR dX6_addStreet_89 flX6_18 (s_1 hB24.1.1) rfl (r_1_2 hB24.1.1) ?_
              refine vc_iload dX6_addStreet_92 rfl ?_
              refine vc_iload dX6_addStreet_94 rfl ?_
              refine vc_iastore dX6_addStreet_96 (s_4 hB24.1.1) (by omega) (by omega) ?_
              have hB25 : BF fC M (sI (sI (sI M 3 x17.toNat t) 3 x18.toNat f) 4 x17.toNat la) := BF.w4 hB24 (fun _ => rfl) _
              refine vc_aload_n dX6_addStreet_97 rfl ?_
              refine vc_getR dX6_addStreet_98 flX6_18 (s_1 hB25.1.1) rfl (r_1_2 hB25.1.1) ?_
              refine vc_iload dX6_addStreet_101 rfl ?_
              refine vc_iload dX6_addStreet_103 rfl ?_
              refine vc_iastore dX6_addStreet_105 (s_4 hB25.1.1) (by omega) (by omega) ?_
              have hB26 : BF fC M (sI (sI (sI (sI M 3 x17.toNat t) 3 x18.toNat f) 4 x17.toNat la) 4 x18.toNat la) := BF.w4 hB25 (fun _ => rfl) _
              refine vc_iconst dX6_addStreet_106 rfl ?_
              refine vc_zret dX6_addStreet_107 rfl (by first | decide | omega) (Nat.le_of_ble_eq_true rfl) (Nat.le_of_ble_eq_true rfl) ?_
              exact ⟨_, rfl, hB26, by omega, by omega⟩
            · refine vc_iconst dX6_addStreet_70 rfl ?_
              refine vc_zret dX6_addStreet_71 rfl (by first | decide | omega) (Nat.le_of_ble_eq_true rfl) (Nat.le_of_ble_eq_true rfl) ?_
              exact ⟨_, rfl, hB0, by omega, by omega⟩
        · refine vc_iconst dX6_addStreet_28 rfl ?_
          refine vc_zret dX6_addStreet_29 rfl (by first | decide | omega) (Nat.le_of_ble_eq_true rfl) (Nat.le_of_ble_eq_true rfl) ?_
          exact ⟨_, rfl, hB0, by omega, by omega⟩

set_option maxRecDepth 4000 in
theorem sfX6_addTeller {l : Launch} {M : Mem} (hB : Box M)  (c : Int) (s : Int) (e : Int) (m : Int)  : Call l mdX6_addTeller [aR 1, aI c, aI s, aI e, aI m] M (fun q N => ∃ r : Int, q = some (aI r) ∧ BF fC M N) := by
  have hB0 : BF fC M M := BF.start hB
  refine Call.of [some (aR 1), some (aI c), some (aI s), some (aI e), some (aI m), none] rfl (Nat.le_of_ble_eq_true rfl) rfl ?_
  refine vc_ok (fun hoM hoS hoL => ?_)
  have hr1 : -2147483648 ≤ c ∧ c < 2147483648 := hoL 1 _ rfl
  have hr2 : -2147483648 ≤ s ∧ s < 2147483648 := hoL 2 _ rfl
  have hr3 : -2147483648 ≤ e ∧ e < 2147483648 := hoL 3 _ rfl
  have hr4 : -2147483648 ≤ m ∧ m < 2147483648 := hoL 4 _ rfl
  refine vc_aload_n dX6_addTeller_0 rfl ?_
  refine vc_iload_n dX6_addTeller_1 rfl ?_
  refine vc_cVI dX6_addTeller_2 (sfX6_hasCorner (M := M) hB0.1  c ) rfl okX6_hasCorner viX6_hasCorner lkX6_77 (s_1 hB0.1.1) cl_6 rfl (Nat.le_of_ble_eq_true rfl) ⟨rfl, rfl⟩ (Nat.le_of_ble_eq_true rfl) (Nat.le_of_ble_eq_true rfl) (Nat.le_of_ble_eq_true rfl) ?_
  rintro x1 _ ⟨rfl, h2, h3, h4⟩
  refine vc_if_eq dX6_addTeller_5 (fun h5 => ?_) (fun h5 => ?_)
  · refine vc_iconst dX6_addTeller_30 rfl ?_
    refine vc_iret dX6_addTeller_31 rfl (Nat.le_of_ble_eq_true rfl) (Nat.le_of_ble_eq_true rfl) ?_
    exact ⟨_, rfl, hB0⟩
  · refine vc_iload_n dX6_addTeller_8 rfl ?_
    refine vc_cNI dX6_addTeller_9 (sfX11_isSlip (M := M) hB0.1  s ) rfl okX11_isSlip stX11_isSlip nkX6_84 rfl (Nat.le_of_ble_eq_true rfl) ⟨rfl, rfl⟩ (Nat.le_of_ble_eq_true rfl) (Nat.le_of_ble_eq_true rfl) (Nat.le_of_ble_eq_true rfl) ?_
    rintro x6 _ ⟨rfl, h7, h8⟩
    refine vc_if_eq dX6_addTeller_12 (fun h9 => ?_) (fun h9 => ?_)
    · refine vc_iconst dX6_addTeller_30 rfl ?_
      refine vc_iret dX6_addTeller_31 rfl (Nat.le_of_ble_eq_true rfl) (Nat.le_of_ble_eq_true rfl) ?_
      exact ⟨_, rfl, hB0⟩
    · refine vc_iload_n dX6_addTeller_15 rfl ?_
      refine vc_cNI dX6_addTeller_16 (sfX11_isSlip (M := M) hB0.1  e ) rfl okX11_isSlip stX11_isSlip nkX6_84 rfl (Nat.le_of_ble_eq_true rfl) ⟨rfl, rfl⟩ (Nat.le_of_ble_eq_true rfl) (Nat.le_of_ble_eq_true rfl) (Nat.le_of_ble_eq_true rfl) ?_
      rintro x10 _ ⟨rfl, h11, h12⟩
      refine vc_if_eq dX6_addTeller_19 (fun h13 => ?_) (fun h13 => ?_)
      · refine vc_iconst dX6_addTeller_30 rfl ?_
        refine vc_iret dX6_addTeller_31 rfl (Nat.le_of_ble_eq_true rfl) (Nat.le_of_ble_eq_true rfl) ?_
        exact ⟨_, rfl, hB0⟩
      · refine vc_iload dX6_addTeller_22 rfl ?_
        refine vc_cNI dX6_addTeller_24 (sfX11_isSlip (M := M) hB0.1  m ) rfl okX11_isSlip stX11_isSlip nkX6_84 rfl (Nat.le_of_ble_eq_true rfl) ⟨rfl, rfl⟩ (Nat.le_of_ble_eq_true rfl) (Nat.le_of_ble_eq_true rfl) (Nat.le_of_ble_eq_true rfl) ?_
        rintro x14 _ ⟨rfl, h15, h16⟩
        refine vc_if_ne dX6_addTeller_27 (fun h17 => ?_) (fun h17 => ?_)
        · refine vc_aload_n dX6_addTeller_32 rfl ?_
          refine vc_getI dX6_addTeller_33 flX6_55 (s_1 hB0.1.1) rfl ?_
          have k18 : 0 ≤ mI M 1 8 ∧ mI M 1 8 ≤ 6 := b1_8 (M := M) hB0.1
          refine vc_bipush dX6_addTeller_36 rfl ?_
          refine vc_icmp_lt dX6_addTeller_38 (fun h19 => ?_) (fun h19 => ?_)
          · refine vc_iconst dX6_addTeller_43 rfl ?_
            refine vc_aload_n dX6_addTeller_44 rfl ?_
            refine vc_getI dX6_addTeller_45 flX6_55 (s_1 hB0.1.1) rfl ?_
            refine vc_imulE dX6_addTeller_48 (by omega) (by omega) ?_
            refine vc_nameI (fun x20 ex20 => ?_)
            refine vc_istore dX6_addTeller_49 (by decide) rfl (show _ = [some (aR 1), some (aI c), some (aI s), some (aI e), some (aI m), some (aI x20)] from rfl) ?_
            refine vc_aload_n dX6_addTeller_51 rfl ?_
            refine vc_getR dX6_addTeller_52 flX6_21 (s_1 hB0.1.1) rfl (r_1_3 hB0.1.1) ?_
            refine vc_iload dX6_addTeller_55 rfl ?_
            refine vc_iload_n dX6_addTeller_57 rfl ?_
            refine vc_iastore dX6_addTeller_58 (s_5 hB0.1.1) (by omega) (by omega) ?_
            have hB21 : BF fC M (sI M 5 x20.toNat c) := BF.w5 hB0 (fun _ => rfl) _
            refine vc_aload_n dX6_addTeller_59 rfl ?_
            refine vc_getR dX6_addTeller_60 flX6_21 (s_1 hB21.1.1) rfl (r_1_3 hB21.1.1) ?_
            refine vc_iload dX6_addTeller_63 rfl ?_
            refine vc_iconst dX6_addTeller_65 rfl ?_
            refine vc_iaddE dX6_addTeller_66 (by omega) (by omega) ?_
            refine vc_iload_n dX6_addTeller_67 rfl ?_
            refine vc_iastore dX6_addTeller_68 (s_5 hB21.1.1) (by omega) (by omega) ?_
            have hB22 : BF fC M (sI (sI M 5 x20.toNat c) 5 ((x20 + 1).toNat) s) := BF.w5 hB21 (fun _ => rfl) _
            refine vc_aload_n dX6_addTeller_69 rfl ?_
            refine vc_getR dX6_addTeller_70 flX6_21 (s_1 hB22.1.1) rfl (r_1_3 hB22.1.1) ?_
            refine vc_iload dX6_addTeller_73 rfl ?_
            refine vc_iconst dX6_addTeller_75 rfl ?_
            refine vc_iaddE dX6_addTeller_76 (by omega) (by omega) ?_
            refine vc_iload_n dX6_addTeller_77 rfl ?_
            refine vc_iastore dX6_addTeller_78 (s_5 hB22.1.1) (by omega) (by omega) ?_
            have hB23 : BF fC M (sI (sI (sI M 5 x20.toNat c) 5 ((x20 + 1).toNat) s) 5 ((x20 + 2).toNat) e) := BF.w5 hB22 (fun _ => rfl) _
            refine vc_aload_n dX6_addTeller_79 rfl ?_
            refine vc_getR dX6_addTeller_80 flX6_21 (s_1 hB23.1.1) rfl (r_1_3 hB23.1.1) ?_
            refine vc_iload dX6_addTeller_83 rfl ?_
            refine vc_iconst dX6_addTeller_85 rfl ?_
            refine vc_iaddE dX6_addTeller_86 (by omega) (by omega) ?_
            refine vc_iload dX6_addTeller_87 rfl ?_
            refine vc_iastore dX6_addTeller_89 (s_5 hB23.1.1) (by omega) (by omega) ?_
            have hB24 : BF fC M (sI (sI (sI (sI M 5 x20.toNat c) 5 ((x20 + 1).toNat) s) 5 ((x20 + 2).toNat) e) 5 ((x20 + 3).toNat) m) := BF.w5 hB23 (fun _ => rfl) _
            refine vc_aload_n dX6_addTeller_90 rfl ?_
            refine vc_dup dX6_addTeller_91 rfl ?_
            refine vc_getI dX6_addTeller_92 flX6_55 (s_1 hB24.1.1) rfl ?_
            refine vc_topI (mI M 1 8) rfl ?_
            have k25 : 0 ≤ mI M 1 8 ∧ mI M 1 8 ≤ 6 := b1_8 (M := (sI (sI (sI (sI M 5 x20.toNat c) 5 ((x20 + 1).toNat) s) 5 ((x20 + 2).toNat) e) 5 ((x20 + 3).toNat) m)) hB24.1
            refine vc_iconst dX6_addTeller_95 rfl ?_
            refine vc_iaddE dX6_addTeller_96 (by omega) (by omega) ?_
            refine vc_putI dX6_addTeller_97 (plX6_55 _ rfl) (s_1 hB24.1.1) rfl ?_
            have hB26 : BF fC M (sI (sI (sI (sI (sI M 5 x20.toNat c) 5 ((x20 + 1).toNat) s) 5 ((x20 + 2).toNat) e) 5 ((x20 + 3).toNat) m) 1 8 ((mI M 1 8) + 1)) := BF.w1_8 hB24 rfl (by omega) (by omega)
            refine vc_aload_n dX6_addTeller_100 rfl ?_
            refine vc_getI dX6_addTeller_101 flX6_55 (s_1 hB26.1.1) rfl ?_
            refine vc_topI ((mI M 1 8) + 1) rfl ?_
            refine vc_iconst dX6_addTeller_104 rfl ?_
            refine vc_isubE dX6_addTeller_105 (by omega) (by omega) ?_
            refine vc_iret dX6_addTeller_106 rfl (Nat.le_of_ble_eq_true rfl) (Nat.le_of_ble_eq_true rfl) ?_
            exact ⟨_, rfl, hB26⟩
          · refine vc_iconst dX6_addTeller_41 rfl ?_
            refine vc_iret dX6_addTeller_42 rfl (Nat.le_of_ble_eq_true rfl) (Nat.le_of_ble_eq_true rfl) ?_
            exact ⟨_, rfl, hB0⟩
        · refine vc_iconst dX6_addTeller_30 rfl ?_
          refine vc_iret dX6_addTeller_31 rfl (Nat.le_of_ble_eq_true rfl) (Nat.le_of_ble_eq_true rfl) ?_
          exact ⟨_, rfl, hB0⟩

set_option maxRecDepth 4000 in
theorem sfX6_isTurn {l : Launch} {M : Mem} (hB : Box M)  (t : Int)  : Call l mdX6_isTurn [aI t] M (fun q N => ∃ r : Int, q = some (aI r) ∧ M = N ∧ 0 ≤ r ∧ r ≤ 1) := by
  have hB0 : BF fQ M M := BF.start hB
  refine Call.of [some (aI t), none, none, none] rfl (Nat.le_of_ble_eq_true rfl) rfl ?_
  refine vc_ok (fun hoM hoS hoL => ?_)
  have hr0 : -2147483648 ≤ t ∧ t < 2147483648 := hoL 0 _ rfl
  refine vc_iload_n dX6_isTurn_0 rfl ?_
  refine vc_bipush dX6_isTurn_1 rfl ?_
  refine vc_idiv dX6_isTurn_3 (by omega) ?_
  refine vc_nameI (fun x1 ex1 => ?_)
  refine vc_istore_n dX6_isTurn_4 (by decide) rfl (show _ = [some (aI t), some (aI x1), none, none] from rfl) ?_
  refine vc_iload_n dX6_isTurn_5 rfl ?_
  refine vc_bipush dX6_isTurn_6 rfl ?_
  refine vc_idiv dX6_isTurn_8 (by omega) ?_
  refine vc_bipush dX6_isTurn_9 rfl ?_
  refine vc_irem dX6_isTurn_11 (by omega) ?_
  refine vc_nameI (fun x2 ex2 => ?_)
  refine vc_istore_n dX6_isTurn_12 (by decide) rfl (show _ = [some (aI t), some (aI x1), some (aI x2), none] from rfl) ?_
  refine vc_iload_n dX6_isTurn_13 rfl ?_
  refine vc_bipush dX6_isTurn_14 rfl ?_
  refine vc_irem dX6_isTurn_16 (by omega) ?_
  refine vc_nameI (fun x3 ex3 => ?_)
  refine vc_istore_n dX6_isTurn_17 (by decide) rfl (show _ = [some (aI t), some (aI x1), some (aI x2), some (aI x3)] from rfl) ?_
  refine vc_iload_n dX6_isTurn_18 rfl ?_
  refine vc_iconst dX6_isTurn_19 rfl ?_
  refine vc_icmp_lt dX6_isTurn_20 (fun h4 => ?_) (fun h4 => ?_)
  · refine vc_iconst dX6_isTurn_55 rfl ?_
    refine vc_zret dX6_isTurn_56 rfl (by first | decide | omega) (Nat.le_of_ble_eq_true rfl) (Nat.le_of_ble_eq_true rfl) ?_
    exact ⟨_, rfl, rfl, by omega, by omega⟩
  · refine vc_iload_n dX6_isTurn_23 rfl ?_
    refine vc_iconst dX6_isTurn_24 rfl ?_
    refine vc_icmp_gt dX6_isTurn_25 (fun h5 => ?_) (fun h5 => ?_)
    · refine vc_iconst dX6_isTurn_55 rfl ?_
      refine vc_zret dX6_isTurn_56 rfl (by first | decide | omega) (Nat.le_of_ble_eq_true rfl) (Nat.le_of_ble_eq_true rfl) ?_
      exact ⟨_, rfl, rfl, by omega, by omega⟩
    · refine vc_iload_n dX6_isTurn_28 rfl ?_
      refine vc_iconst dX6_isTurn_29 rfl ?_
      refine vc_icmp_gt dX6_isTurn_30 (fun h6 => ?_) (fun h6 => ?_)
      · refine vc_iconst dX6_isTurn_55 rfl ?_
        refine vc_zret dX6_isTurn_56 rfl (by first | decide | omega) (Nat.le_of_ble_eq_true rfl) (Nat.le_of_ble_eq_true rfl) ?_
        exact ⟨_, rfl, rfl, by omega, by omega⟩
      · refine vc_iload_n dX6_isTurn_33 rfl ?_
        refine vc_iconst dX6_isTurn_34 rfl ?_
        refine vc_icmp_lt dX6_isTurn_35 (fun h7 => ?_) (fun h7 => ?_)
        · refine vc_iconst dX6_isTurn_55 rfl ?_
          refine vc_zret dX6_isTurn_56 rfl (by first | decide | omega) (Nat.le_of_ble_eq_true rfl) (Nat.le_of_ble_eq_true rfl) ?_
          exact ⟨_, rfl, rfl, by omega, by omega⟩
        · refine vc_iload_n dX6_isTurn_38 rfl ?_
          refine vc_iload_n dX6_isTurn_39 rfl ?_
          refine vc_if_ne dX6_isTurn_40 (fun h8 => ?_) (fun h8 => ?_)
          · refine vc_iconst dX6_isTurn_47 rfl ?_
            refine vc_icmp_gt dX6_isTurn_48 (fun h9 => ?_) (fun h9 => ?_)
            · refine vc_iconst dX6_isTurn_55 rfl ?_
              refine vc_zret dX6_isTurn_56 rfl (by first | decide | omega) (Nat.le_of_ble_eq_true rfl) (Nat.le_of_ble_eq_true rfl) ?_
              exact ⟨_, rfl, rfl, by omega, by omega⟩
            · refine vc_iconst dX6_isTurn_51 rfl ?_
              refine vc_goto dX6_isTurn_52 ?_
              refine vc_zret dX6_isTurn_56 rfl (by first | decide | omega) (Nat.le_of_ble_eq_true rfl) (Nat.le_of_ble_eq_true rfl) ?_
              exact ⟨_, rfl, rfl, by omega, by omega⟩
          · refine vc_iconst dX6_isTurn_43 rfl ?_
            refine vc_goto dX6_isTurn_44 ?_
            refine vc_icmp_gt dX6_isTurn_48 (fun h10 => ?_) (fun h10 => ?_)
            · refine vc_iconst dX6_isTurn_55 rfl ?_
              refine vc_zret dX6_isTurn_56 rfl (by first | decide | omega) (Nat.le_of_ble_eq_true rfl) (Nat.le_of_ble_eq_true rfl) ?_
              exact ⟨_, rfl, rfl, by omega, by omega⟩
            · refine vc_iconst dX6_isTurn_51 rfl ?_
              refine vc_goto dX6_isTurn_52 ?_
              refine vc_zret dX6_isTurn_56 rfl (by first | decide | omega) (Nat.le_of_ble_eq_true rfl) (Nat.le_of_ble_eq_true rfl) ?_
              exact ⟨_, rfl, rfl, by omega, by omega⟩

set_option maxRecDepth 4000 in
theorem sfX6_putTurns {l : Launch} {M : Mem} (hB : Box M)  (f : Int) (t : Int) (p0 : 0 ≤ f) (p1 : f ≤ 69) : Call l mdX6_putTurns [aR 1, aI f, aI t] M (fun q N => ∃ r : Int, q = some (aI r) ∧ BF fC M N ∧ mI N 1 = mI M 1) := by
  have hB0 : BF fC M M := BF.start hB
  refine Call.of [some (aR 1), some (aI f), some (aI t), none, none, none] rfl (Nat.le_of_ble_eq_true rfl) rfl ?_
  refine vc_ok (fun hoM hoS hoL => ?_)
  have hr2 : -2147483648 ≤ t ∧ t < 2147483648 := hoL 2 _ rfl
  refine vc_iload_n dX6_putTurns_0 rfl ?_
  refine vc_if_le dX6_putTurns_1 (fun h1 => ?_) (fun h1 => ?_)
  · refine vc_iconst dX6_putTurns_10 rfl ?_
    refine vc_iret dX6_putTurns_11 rfl (Nat.le_of_ble_eq_true rfl) (Nat.le_of_ble_eq_true rfl) ?_
    exact ⟨_, rfl, hB0, rfl⟩
  · refine vc_iload_n dX6_putTurns_4 rfl ?_
    refine vc_ldc dX6_putTurns_5 rfl kcX6_93 ?_
    refine vc_icmp_lt dX6_putTurns_7 (fun h2 => ?_) (fun h2 => ?_)
    · refine vc_iload_n dX6_putTurns_12 rfl ?_
      refine vc_sipush dX6_putTurns_13 rfl ?_
      refine vc_icmp_ge dX6_putTurns_16 (fun h3 => ?_) (fun h3 => ?_)
      · refine vc_iload_n dX6_putTurns_23 rfl ?_
        refine vc_ldc dX6_putTurns_24 rfl kcX6_94 ?_
        refine vc_icmp_ge dX6_putTurns_26 (fun h4 => ?_) (fun h4 => ?_)
        · refine vc_iconst dX6_putTurns_33 rfl ?_
          refine vc_istore_n dX6_putTurns_34 (by decide) rfl (show _ = [some (aR 1), some (aI f), some (aI t), some (aI 3), none, none] from rfl) ?_
          refine vc_iload_n dX6_putTurns_35 rfl ?_
          refine vc_istore dX6_putTurns_36 (by decide) rfl (show _ = [some (aR 1), some (aI f), some (aI t), some (aI 3), some (aI t), none] from rfl) ?_
          refine vc_iload_n dX6_putTurns_38 rfl ?_
          refine vc_iload_n dX6_putTurns_39 rfl ?_
          refine vc_iaddE dX6_putTurns_40 (by omega) (by omega) ?_
          refine vc_iconst dX6_putTurns_41 rfl ?_
          refine vc_isubE dX6_putTurns_42 (by omega) (by omega) ?_
          refine vc_nameI (fun x5 ex5 => ?_)
          refine vc_istore dX6_putTurns_43 (by decide) rfl (show _ = [some (aR 1), some (aI f), some (aI t), some (aI 3), some (aI t), some (aI x5)] from rfl) ?_
          have lp45 : ∀ (n45 : Nat) (Mq45 : Mem) (v4 : Int) (v5 : Int), (BF fC M Mq45) → (mI Mq45 1 = mI M 1) → (f - 1 ≤ v5) → (v5 ≤ f + 2) → (v5 - f + 1).toNat < n45 → VC l mdX6_putTurns 45 [some (aR 1), some (aI f), none, some (aI 3), some (aI v4), some (aI v5)] [] Mq45 0 0 (fun q N => ∃ r : Int, q = some (aI r) ∧ BF fC M N ∧ mI N 1 = mI M 1) := by
            intro n45
            induction n45 with
            | zero => intro Mq45 v4 v5 hQ45 kp45_1 g45_5a g45_5b hm45; exact absurd hm45 (Nat.not_lt_zero _)
            | succ n45 ih45 =>
              intro Mq45 v4 v5 hQ45 kp45_1 g45_5a g45_5b hm45
              refine vc_iload dX6_putTurns_45 rfl ?_
              refine vc_iload_n dX6_putTurns_47 rfl ?_
              refine vc_icmp_lt dX6_putTurns_48 (fun h6 => ?_) (fun h6 => ?_)
              · refine vc_iload_n dX6_putTurns_92 rfl ?_
                refine vc_iret dX6_putTurns_93 rfl (Nat.le_of_ble_eq_true rfl) (Nat.le_of_ble_eq_true rfl) ?_
                exact ⟨_, rfl, hQ45, kp45_1⟩
              · refine vc_iload dX6_putTurns_51 rfl ?_
                refine vc_sipush dX6_putTurns_53 rfl ?_
                refine vc_irem dX6_putTurns_56 (by omega) ?_
                refine vc_cSI dX6_putTurns_57 (sfX6_isTurn (M := Mq45) hQ45.1  (rmI v4 1000) ) rfl okX6_isTurn stX6_isTurn lkX6_95 rfl (Nat.le_of_ble_eq_true rfl) ⟨rfl, rfl⟩ (Nat.le_of_ble_eq_true rfl) (Nat.le_of_ble_eq_true rfl) (Nat.le_of_ble_eq_true rfl) ?_
                rintro x7 _ ⟨rfl, h8, h9⟩
                refine vc_if_ne dX6_putTurns_60 (fun h10 => ?_) (fun h10 => ?_)
                · refine vc_aload_n dX6_putTurns_65 rfl ?_
                  refine vc_getR dX6_putTurns_66 flX6_24 (s_1 hQ45.1.1) rfl (r_1_4 hQ45.1.1) ?_
                  refine vc_iload dX6_putTurns_69 rfl ?_
                  refine vc_iload dX6_putTurns_71 rfl ?_
                  refine vc_sipush dX6_putTurns_73 rfl ?_
                  refine vc_irem dX6_putTurns_76 (by omega) ?_
                  refine vc_iastore dX6_putTurns_77 (s_6 hQ45.1.1) (by omega) (by omega) ?_
                  have kp11 : mI (sI Mq45 6 v5.toNat (rmI v4 1000)) 1 = mI M 1 := (kp_sI kp45_1 rfl)
                  have hB12 : BF fC M (sI Mq45 6 v5.toNat (rmI v4 1000)) := BF.w6 hQ45 (fun _ => rfl) _
                  refine vc_iload dX6_putTurns_78 rfl ?_
                  refine vc_sipush dX6_putTurns_80 rfl ?_
                  refine vc_idiv dX6_putTurns_83 (by omega) ?_
                  refine vc_nameI (fun x13 ex13 => ?_)
                  refine vc_istore dX6_putTurns_84 (by decide) rfl (show _ = [some (aR 1), some (aI f), none, some (aI 3), some (aI x13), some (aI v5)] from rfl) ?_
                  refine vc_iincE dX6_putTurns_86 rfl (by omega) (by omega) (by decide) rfl (show _ = [some (aR 1), some (aI f), none, some (aI 3), some (aI x13), some (aI (v5 + (-1)))] from rfl) ?_
                  refine vc_goto dX6_putTurns_89 ?_
                  exact ih45 (sI Mq45 6 v5.toNat (rmI v4 1000)) x13 (v5 + (-1)) hB12 kp11 (by omega) (by omega) (by omega)
                · refine vc_iconst dX6_putTurns_63 rfl ?_
                  refine vc_iret dX6_putTurns_64 rfl (Nat.le_of_ble_eq_true rfl) (Nat.le_of_ble_eq_true rfl) ?_
                  exact ⟨_, rfl, hQ45, kp45_1⟩
          refine vc_less [some (aR 1), some (aI f), none, some (aI 3), some (aI t), some (aI x5)] (lessL_keep (lessL_keep (lessL_drop (lessL_keep (lessL_keep (lessL_keep (lessL_nil))))))) ?_
          exact lp45 _ M t x5 hB0 rfl (by omega) (by omega) (Nat.lt_succ_self _)
        · refine vc_iconst dX6_putTurns_29 rfl ?_
          refine vc_goto dX6_putTurns_30 ?_
          refine vc_istore_n dX6_putTurns_34 (by decide) rfl (show _ = [some (aR 1), some (aI f), some (aI t), some (aI 2), none, none] from rfl) ?_
          refine vc_iload_n dX6_putTurns_35 rfl ?_
          refine vc_istore dX6_putTurns_36 (by decide) rfl (show _ = [some (aR 1), some (aI f), some (aI t), some (aI 2), some (aI t), none] from rfl) ?_
          refine vc_iload_n dX6_putTurns_38 rfl ?_
          refine vc_iload_n dX6_putTurns_39 rfl ?_
          refine vc_iaddE dX6_putTurns_40 (by omega) (by omega) ?_
          refine vc_iconst dX6_putTurns_41 rfl ?_
          refine vc_isubE dX6_putTurns_42 (by omega) (by omega) ?_
          refine vc_nameI (fun x14 ex14 => ?_)
          refine vc_istore dX6_putTurns_43 (by decide) rfl (show _ = [some (aR 1), some (aI f), some (aI t), some (aI 2), some (aI t), some (aI x14)] from rfl) ?_
          have lp45 : ∀ (n45 : Nat) (Mq45 : Mem) (v4 : Int) (v5 : Int), (BF fC M Mq45) → (mI Mq45 1 = mI M 1) → (f - 1 ≤ v5) → (v5 ≤ f + 2) → (v5 - f + 1).toNat < n45 → VC l mdX6_putTurns 45 [some (aR 1), some (aI f), none, some (aI 2), some (aI v4), some (aI v5)] [] Mq45 0 0 (fun q N => ∃ r : Int, q = some (aI r) ∧ BF fC M N ∧ mI N 1 = mI M 1) := by
            intro n45
            induction n45 with
            | zero => intro Mq45 v4 v5 hQ45 kp45_1 g45_5a g45_5b hm45; exact absurd hm45 (Nat.not_lt_zero _)
            | succ n45 ih45 =>
              intro Mq45 v4 v5 hQ45 kp45_1 g45_5a g45_5b hm45
              refine vc_iload dX6_putTurns_45 rfl ?_
              refine vc_iload_n dX6_putTurns_47 rfl ?_
              refine vc_icmp_lt dX6_putTurns_48 (fun h15 => ?_) (fun h15 => ?_)
              · refine vc_iload_n dX6_putTurns_92 rfl ?_
                refine vc_iret dX6_putTurns_93 rfl (Nat.le_of_ble_eq_true rfl) (Nat.le_of_ble_eq_true rfl) ?_
                exact ⟨_, rfl, hQ45, kp45_1⟩
              · refine vc_iload dX6_putTurns_51 rfl ?_
                refine vc_sipush dX6_putTurns_53 rfl ?_
                refine vc_irem dX6_putTurns_56 (by omega) ?_
                refine vc_cSI dX6_putTurns_57 (sfX6_isTurn (M := Mq45) hQ45.1  (rmI v4 1000) ) rfl okX6_isTurn stX6_isTurn lkX6_95 rfl (Nat.le_of_ble_eq_true rfl) ⟨rfl, rfl⟩ (Nat.le_of_ble_eq_true rfl) (Nat.le_of_ble_eq_true rfl) (Nat.le_of_ble_eq_true rfl) ?_
                rintro x16 _ ⟨rfl, h17, h18⟩
                refine vc_if_ne dX6_putTurns_60 (fun h19 => ?_) (fun h19 => ?_)
                · refine vc_aload_n dX6_putTurns_65 rfl ?_
                  refine vc_getR dX6_putTurns_66 flX6_24 (s_1 hQ45.1.1) rfl (r_1_4 hQ45.1.1) ?_
                  refine vc_iload dX6_putTurns_69 rfl ?_
                  refine vc_iload dX6_putTurns_71 rfl ?_
                  refine vc_sipush dX6_putTurns_73 rfl ?_
                  refine vc_irem dX6_putTurns_76 (by omega) ?_
                  refine vc_iastore dX6_putTurns_77 (s_6 hQ45.1.1) (by omega) (by omega) ?_
                  have kp20 : mI (sI Mq45 6 v5.toNat (rmI v4 1000)) 1 = mI M 1 := (kp_sI kp45_1 rfl)
                  have hB21 : BF fC M (sI Mq45 6 v5.toNat (rmI v4 1000)) := BF.w6 hQ45 (fun _ => rfl) _
                  refine vc_iload dX6_putTurns_78 rfl ?_
                  refine vc_sipush dX6_putTurns_80 rfl ?_
                  refine vc_idiv dX6_putTurns_83 (by omega) ?_
                  refine vc_nameI (fun x22 ex22 => ?_)
                  refine vc_istore dX6_putTurns_84 (by decide) rfl (show _ = [some (aR 1), some (aI f), none, some (aI 2), some (aI x22), some (aI v5)] from rfl) ?_
                  refine vc_iincE dX6_putTurns_86 rfl (by omega) (by omega) (by decide) rfl (show _ = [some (aR 1), some (aI f), none, some (aI 2), some (aI x22), some (aI (v5 + (-1)))] from rfl) ?_
                  refine vc_goto dX6_putTurns_89 ?_
                  exact ih45 (sI Mq45 6 v5.toNat (rmI v4 1000)) x22 (v5 + (-1)) hB21 kp20 (by omega) (by omega) (by omega)
                · refine vc_iconst dX6_putTurns_63 rfl ?_
                  refine vc_iret dX6_putTurns_64 rfl (Nat.le_of_ble_eq_true rfl) (Nat.le_of_ble_eq_true rfl) ?_
                  exact ⟨_, rfl, hQ45, kp45_1⟩
          refine vc_less [some (aR 1), some (aI f), none, some (aI 2), some (aI t), some (aI x14)] (lessL_keep (lessL_keep (lessL_drop (lessL_keep (lessL_keep (lessL_keep (lessL_nil))))))) ?_
          exact lp45 _ M t x14 hB0 rfl (by omega) (by omega) (Nat.lt_succ_self _)
      · refine vc_iconst dX6_putTurns_19 rfl ?_
        refine vc_goto dX6_putTurns_20 ?_
        refine vc_istore_n dX6_putTurns_34 (by decide) rfl (show _ = [some (aR 1), some (aI f), some (aI t), some (aI 1), none, none] from rfl) ?_
        refine vc_iload_n dX6_putTurns_35 rfl ?_
        refine vc_istore dX6_putTurns_36 (by decide) rfl (show _ = [some (aR 1), some (aI f), some (aI t), some (aI 1), some (aI t), none] from rfl) ?_
        refine vc_iload_n dX6_putTurns_38 rfl ?_
        refine vc_iload_n dX6_putTurns_39 rfl ?_
        refine vc_iaddE dX6_putTurns_40 (by omega) (by omega) ?_
        refine vc_iconst dX6_putTurns_41 rfl ?_
        refine vc_isubE dX6_putTurns_42 (by omega) (by omega) ?_
        refine vc_nameI (fun x23 ex23 => ?_)
        refine vc_istore dX6_putTurns_43 (by decide) rfl (show _ = [some (aR 1), some (aI f), some (aI t), some (aI 1), some (aI t), some (aI x23)] from rfl) ?_
        have lp45 : ∀ (n45 : Nat) (Mq45 : Mem) (v4 : Int) (v5 : Int), (BF fC M Mq45) → (mI Mq45 1 = mI M 1) → (f - 1 ≤ v5) → (v5 ≤ f + 2) → (v5 - f + 1).toNat < n45 → VC l mdX6_putTurns 45 [some (aR 1), some (aI f), none, some (aI 1), some (aI v4), some (aI v5)] [] Mq45 0 0 (fun q N => ∃ r : Int, q = some (aI r) ∧ BF fC M N ∧ mI N 1 = mI M 1) := by
          intro n45
          induction n45 with
          | zero => intro Mq45 v4 v5 hQ45 kp45_1 g45_5a g45_5b hm45; exact absurd hm45 (Nat.not_lt_zero _)
          | succ n45 ih45 =>
            intro Mq45 v4 v5 hQ45 kp45_1 g45_5a g45_5b hm45
            refine vc_iload dX6_putTurns_45 rfl ?_
            refine vc_iload_n dX6_putTurns_47 rfl ?_
            refine vc_icmp_lt dX6_putTurns_48 (fun h24 => ?_) (fun h24 => ?_)
            · refine vc_iload_n dX6_putTurns_92 rfl ?_
              refine vc_iret dX6_putTurns_93 rfl (Nat.le_of_ble_eq_true rfl) (Nat.le_of_ble_eq_true rfl) ?_
              exact ⟨_, rfl, hQ45, kp45_1⟩
            · refine vc_iload dX6_putTurns_51 rfl ?_
              refine vc_sipush dX6_putTurns_53 rfl ?_
              refine vc_irem dX6_putTurns_56 (by omega) ?_
              refine vc_cSI dX6_putTurns_57 (sfX6_isTurn (M := Mq45) hQ45.1  (rmI v4 1000) ) rfl okX6_isTurn stX6_isTurn lkX6_95 rfl (Nat.le_of_ble_eq_true rfl) ⟨rfl, rfl⟩ (Nat.le_of_ble_eq_true rfl) (Nat.le_of_ble_eq_true rfl) (Nat.le_of_ble_eq_true rfl) ?_
              rintro x25 _ ⟨rfl, h26, h27⟩
              refine vc_if_ne dX6_putTurns_60 (fun h28 => ?_) (fun h28 => ?_)
              · refine vc_aload_n dX6_putTurns_65 rfl ?_
                refine vc_getR dX6_putTurns_66 flX6_24 (s_1 hQ45.1.1) rfl (r_1_4 hQ45.1.1) ?_
                refine vc_iload dX6_putTurns_69 rfl ?_
                refine vc_iload dX6_putTurns_71 rfl ?_
                refine vc_sipush dX6_putTurns_73 rfl ?_
                refine vc_irem dX6_putTurns_76 (by omega) ?_
                refine vc_iastore dX6_putTurns_77 (s_6 hQ45.1.1) (by omega) (by omega) ?_
                have kp29 : mI (sI Mq45 6 v5.toNat (rmI v4 1000)) 1 = mI M 1 := (kp_sI kp45_1 rfl)
                have hB30 : BF fC M (sI Mq45 6 v5.toNat (rmI v4 1000)) := BF.w6 hQ45 (fun _ => rfl) _
                refine vc_iload dX6_putTurns_78 rfl ?_
                refine vc_sipush dX6_putTurns_80 rfl ?_
                refine vc_idiv dX6_putTurns_83 (by omega) ?_
                refine vc_nameI (fun x31 ex31 => ?_)
                refine vc_istore dX6_putTurns_84 (by decide) rfl (show _ = [some (aR 1), some (aI f), none, some (aI 1), some (aI x31), some (aI v5)] from rfl) ?_
                refine vc_iincE dX6_putTurns_86 rfl (by omega) (by omega) (by decide) rfl (show _ = [some (aR 1), some (aI f), none, some (aI 1), some (aI x31), some (aI (v5 + (-1)))] from rfl) ?_
                refine vc_goto dX6_putTurns_89 ?_
                exact ih45 (sI Mq45 6 v5.toNat (rmI v4 1000)) x31 (v5 + (-1)) hB30 kp29 (by omega) (by omega) (by omega)
              · refine vc_iconst dX6_putTurns_63 rfl ?_
                refine vc_iret dX6_putTurns_64 rfl (Nat.le_of_ble_eq_true rfl) (Nat.le_of_ble_eq_true rfl) ?_
                exact ⟨_, rfl, hQ45, kp45_1⟩
        refine vc_less [some (aR 1), some (aI f), none, some (aI 1), some (aI t), some (aI x23)] (lessL_keep (lessL_keep (lessL_drop (lessL_keep (lessL_keep (lessL_keep (lessL_nil))))))) ?_
        exact lp45 _ M t x23 hB0 rfl (by omega) (by omega) (Nat.lt_succ_self _)
    · refine vc_iconst dX6_putTurns_10 rfl ?_
      refine vc_iret dX6_putTurns_11 rfl (Nat.le_of_ble_eq_true rfl) (Nat.le_of_ble_eq_true rfl) ?_
      exact ⟨_, rfl, hB0, rfl⟩

set_option maxRecDepth 4000 in
theorem sfX6_addTelling {l : Launch} {M : Mem} (hB : Box M)  (t : Int) (f : Int) (a : Int) (b : Int)  : Call l mdX6_addTelling [aR 1, aI t, aI f, aI a, aI b] M (fun q N => ∃ r : Int, q = some (aI r) ∧ BF fC M N) := by
  have hB0 : BF fC M M := BF.start hB
  refine Call.of [some (aR 1), some (aI t), some (aI f), some (aI a), some (aI b), none, none, none] rfl (Nat.le_of_ble_eq_true rfl) rfl ?_
  refine vc_ok (fun hoM hoS hoL => ?_)
  have hr1 : -2147483648 ≤ t ∧ t < 2147483648 := hoL 1 _ rfl
  have hr2 : -2147483648 ≤ f ∧ f < 2147483648 := hoL 2 _ rfl
  have hr3 : -2147483648 ≤ a ∧ a < 2147483648 := hoL 3 _ rfl
  have hr4 : -2147483648 ≤ b ∧ b < 2147483648 := hoL 4 _ rfl
  refine vc_aload_n dX6_addTelling_0 rfl ?_
  refine vc_iload_n dX6_addTelling_1 rfl ?_
  refine vc_cVI dX6_addTelling_2 (sfX6_hasTeller (M := M) hB0.1  t ) rfl okX6_hasTeller viX6_hasTeller lkX6_87 (s_1 hB0.1.1) cl_6 rfl (Nat.le_of_ble_eq_true rfl) ⟨rfl, rfl⟩ (Nat.le_of_ble_eq_true rfl) (Nat.le_of_ble_eq_true rfl) (Nat.le_of_ble_eq_true rfl) ?_
  rintro x1 _ ⟨rfl, h2, h3, h4⟩
  refine vc_if_eq dX6_addTelling_5 (fun h5 => ?_) (fun h5 => ?_)
  · refine vc_iconst dX6_addTelling_24 rfl ?_
    refine vc_iret dX6_addTelling_25 rfl (Nat.le_of_ble_eq_true rfl) (Nat.le_of_ble_eq_true rfl) ?_
    exact ⟨_, rfl, hB0⟩
  · refine vc_iload_n dX6_addTelling_8 rfl ?_
    refine vc_cNI dX6_addTelling_9 (sfX11_isDirection (M := M) hB0.1  f ) rfl okX11_isDirection stX11_isDirection nkX6_81 rfl (Nat.le_of_ble_eq_true rfl) ⟨rfl, rfl⟩ (Nat.le_of_ble_eq_true rfl) (Nat.le_of_ble_eq_true rfl) (Nat.le_of_ble_eq_true rfl) ?_
    rintro x6 _ ⟨rfl, h7, h8, h9⟩
    refine vc_if_eq dX6_addTelling_12 (fun h10 => ?_) (fun h10 => ?_)
    · refine vc_iconst dX6_addTelling_24 rfl ?_
      refine vc_iret dX6_addTelling_25 rfl (Nat.le_of_ble_eq_true rfl) (Nat.le_of_ble_eq_true rfl) ?_
      exact ⟨_, rfl, hB0⟩
    · refine vc_aload_n dX6_addTelling_15 rfl ?_
      refine vc_getI dX6_addTelling_16 flX6_58 (s_1 hB0.1.1) rfl ?_
      have k11 : 0 ≤ mI M 1 9 ∧ mI M 1 9 ≤ 8 := b1_9 (M := M) hB0.1
      refine vc_bipush dX6_addTelling_19 rfl ?_
      refine vc_icmp_lt dX6_addTelling_21 (fun h13 => ?_) (fun h13 => ?_)
      · refine vc_bipush dX6_addTelling_26 rfl ?_
        refine vc_aload_n dX6_addTelling_28 rfl ?_
        refine vc_getI dX6_addTelling_29 flX6_58 (s_1 hB0.1.1) rfl ?_
        refine vc_imulE dX6_addTelling_32 (by omega) (by omega) ?_
        refine vc_nameI (fun x15 ex15 => ?_)
        refine vc_istore dX6_addTelling_33 (by decide) rfl (show _ = [some (aR 1), some (aI t), some (aI f), some (aI a), some (aI b), some (aI x15), none, none] from rfl) ?_
        refine vc_aload_n dX6_addTelling_35 rfl ?_
        refine vc_iload dX6_addTelling_36 rfl ?_
        refine vc_iconst dX6_addTelling_38 rfl ?_
        refine vc_iaddE dX6_addTelling_39 (by omega) (by omega) ?_
        refine vc_iload_n dX6_addTelling_40 rfl ?_
        refine vc_cVI dX6_addTelling_41 (sfX6_putTurns (M := M) hB0.1  (x15 + 3) a (by omega) (by omega)) rfl okX6_putTurns viX6_putTurns lkX6_90 (s_1 hB0.1.1) cl_6 rfl (Nat.le_of_ble_eq_true rfl) ⟨rfl, rfl⟩ (Nat.le_of_ble_eq_true rfl) (Nat.le_of_ble_eq_true rfl) (Nat.le_of_ble_eq_true rfl) ?_
        rintro x16 M17 ⟨hB18, kp19⟩
        have hB20 : BF fC M M17 := BF.go hB0 hB18
        have kp21 : mI M17 1 = mI M 1 := kp_go rfl kp19
        refine vc_istore dX6_addTelling_44 (by decide) rfl (show _ = [some (aR 1), some (aI t), some (aI f), some (aI a), some (aI b), some (aI x15), some (aI x16), none] from rfl) ?_
        refine vc_iload dX6_addTelling_46 rfl ?_
        refine vc_if_ne dX6_addTelling_48 (fun h22 => ?_) (fun h22 => ?_)
        · refine vc_aload_n dX6_addTelling_55 rfl ?_
          refine vc_iload dX6_addTelling_56 rfl ?_
          refine vc_iconst dX6_addTelling_58 rfl ?_
          refine vc_iaddE dX6_addTelling_59 (by omega) (by omega) ?_
          refine vc_iconst dX6_addTelling_60 rfl ?_
          refine vc_iaddE dX6_addTelling_61 (by omega) (by omega) ?_
          refine vc_iload dX6_addTelling_62 rfl ?_
          refine vc_cVI dX6_addTelling_64 (sfX6_putTurns (M := M17) hB20.1  ((x15 + 3) + 3) b (by omega) (by omega)) rfl okX6_putTurns viX6_putTurns lkX6_90 (s_1 hB20.1.1) cl_6 rfl (Nat.le_of_ble_eq_true rfl) ⟨rfl, rfl⟩ (Nat.le_of_ble_eq_true rfl) (Nat.le_of_ble_eq_true rfl) (Nat.le_of_ble_eq_true rfl) ?_
          rintro x23 M24 ⟨hB25, kp26⟩
          have hB27 : BF fC M M24 := BF.go hB20 hB25
          have kp28 : mI M24 1 = mI M 1 := kp_go kp21 kp26
          refine vc_istore dX6_addTelling_67 (by decide) rfl (show _ = [some (aR 1), some (aI t), some (aI f), some (aI a), some (aI b), some (aI x15), some (aI x16), some (aI x23)] from rfl) ?_
          refine vc_iload dX6_addTelling_69 rfl ?_
          refine vc_iconst dX6_addTelling_71 rfl ?_
          refine vc_icmp_eq dX6_addTelling_72 (fun h29 => ?_) (fun h29 => ?_)
          · refine vc_iconst dX6_addTelling_92 rfl ?_
            refine vc_iret dX6_addTelling_93 rfl (Nat.le_of_ble_eq_true rfl) (Nat.le_of_ble_eq_true rfl) ?_
            exact ⟨_, rfl, hB27⟩
          · refine vc_iload dX6_addTelling_75 rfl ?_
            refine vc_iconst dX6_addTelling_77 rfl ?_
            refine vc_icmp_eq dX6_addTelling_78 (fun h30 => ?_) (fun h30 => ?_)
            · refine vc_iconst dX6_addTelling_92 rfl ?_
              refine vc_iret dX6_addTelling_93 rfl (Nat.le_of_ble_eq_true rfl) (Nat.le_of_ble_eq_true rfl) ?_
              exact ⟨_, rfl, hB27⟩
            · refine vc_iload dX6_addTelling_81 rfl ?_
              refine vc_if_le dX6_addTelling_83 (fun h31 => ?_) (fun h31 => ?_)
              · refine vc_aload_n dX6_addTelling_94 rfl ?_
                refine vc_getR dX6_addTelling_95 flX6_24 (s_1 hB27.1.1) rfl (r_1_4 hB27.1.1) ?_
                refine vc_iload dX6_addTelling_98 rfl ?_
                refine vc_iload_n dX6_addTelling_100 rfl ?_
                refine vc_iastore dX6_addTelling_101 (s_6 hB27.1.1) (by omega) (by omega) ?_
                have kp32 : mI (sI M24 6 x15.toNat t) 1 = mI M 1 := (kp_sI kp28 rfl)
                have hB33 : BF fC M (sI M24 6 x15.toNat t) := BF.w6 hB27 (fun _ => rfl) _
                refine vc_aload_n dX6_addTelling_102 rfl ?_
                refine vc_getR dX6_addTelling_103 flX6_24 (s_1 hB33.1.1) rfl (r_1_4 hB33.1.1) ?_
                refine vc_iload dX6_addTelling_106 rfl ?_
                refine vc_iconst dX6_addTelling_108 rfl ?_
                refine vc_iaddE dX6_addTelling_109 (by omega) (by omega) ?_
                refine vc_iload_n dX6_addTelling_110 rfl ?_
                refine vc_iastore dX6_addTelling_111 (s_6 hB33.1.1) (by omega) (by omega) ?_
                have kp34 : mI (sI (sI M24 6 x15.toNat t) 6 ((x15 + 1).toNat) f) 1 = mI M 1 := (kp_sI kp32 rfl)
                have hB35 : BF fC M (sI (sI M24 6 x15.toNat t) 6 ((x15 + 1).toNat) f) := BF.w6 hB33 (fun _ => rfl) _
                refine vc_aload_n dX6_addTelling_112 rfl ?_
                refine vc_getR dX6_addTelling_113 flX6_24 (s_1 hB35.1.1) rfl (r_1_4 hB35.1.1) ?_
                refine vc_iload dX6_addTelling_116 rfl ?_
                refine vc_iconst dX6_addTelling_118 rfl ?_
                refine vc_iaddE dX6_addTelling_119 (by omega) (by omega) ?_
                refine vc_iload dX6_addTelling_120 rfl ?_
                refine vc_iload dX6_addTelling_122 rfl ?_
                refine vc_iadd dX6_addTelling_124 ?_
                refine vc_iastore dX6_addTelling_125 (s_6 hB35.1.1) (by omega) (by omega) ?_
                have kp36 : mI (sI (sI (sI M24 6 x15.toNat t) 6 ((x15 + 1).toNat) f) 6 ((x15 + 2).toNat) (wI (x16 + x23))) 1 = mI M 1 := (kp_sI kp34 rfl)
                have hB37 : BF fC M (sI (sI (sI M24 6 x15.toNat t) 6 ((x15 + 1).toNat) f) 6 ((x15 + 2).toNat) (wI (x16 + x23))) := BF.w6 hB35 (fun _ => rfl) _
                refine vc_aload_n dX6_addTelling_126 rfl ?_
                refine vc_dup dX6_addTelling_127 rfl ?_
                refine vc_getI dX6_addTelling_128 flX6_58 (s_1 hB37.1.1) rfl ?_
                refine vc_topI (mI M24 1 9) rfl ?_
                have k38 : 0 ≤ mI M24 1 9 ∧ mI M24 1 9 ≤ 8 := b1_9 (M := (sI (sI (sI M24 6 x15.toNat t) 6 ((x15 + 1).toNat) f) 6 ((x15 + 2).toNat) (wI (x16 + x23)))) hB37.1
                have k39 : mI M24 1 9 = mI M 1 9 := congrFun kp36 9
                refine vc_iconst dX6_addTelling_131 rfl ?_
                refine vc_iaddE dX6_addTelling_132 (by omega) (by omega) ?_
                refine vc_putI dX6_addTelling_133 (plX6_58 _ rfl) (s_1 hB37.1.1) rfl ?_
                have hB40 : BF fC M (sI (sI (sI (sI M24 6 x15.toNat t) 6 ((x15 + 1).toNat) f) 6 ((x15 + 2).toNat) (wI (x16 + x23))) 1 9 ((mI M24 1 9) + 1)) := BF.w1_9 hB37 rfl (by omega) (by omega)
                refine vc_aload_n dX6_addTelling_136 rfl ?_
                refine vc_getI dX6_addTelling_137 flX6_58 (s_1 hB40.1.1) rfl ?_
                refine vc_topI ((mI M24 1 9) + 1) rfl ?_
                refine vc_iconst dX6_addTelling_140 rfl ?_
                refine vc_isubE dX6_addTelling_141 (by omega) (by omega) ?_
                refine vc_iret dX6_addTelling_142 rfl (Nat.le_of_ble_eq_true rfl) (Nat.le_of_ble_eq_true rfl) ?_
                exact ⟨_, rfl, hB40⟩
              · refine vc_iload dX6_addTelling_86 rfl ?_
                refine vc_iconst dX6_addTelling_88 rfl ?_
                refine vc_icmp_ge dX6_addTelling_89 (fun h41 => ?_) (fun h41 => ?_)
                · refine vc_aload_n dX6_addTelling_94 rfl ?_
                  refine vc_getR dX6_addTelling_95 flX6_24 (s_1 hB27.1.1) rfl (r_1_4 hB27.1.1) ?_
                  refine vc_iload dX6_addTelling_98 rfl ?_
                  refine vc_iload_n dX6_addTelling_100 rfl ?_
                  refine vc_iastore dX6_addTelling_101 (s_6 hB27.1.1) (by omega) (by omega) ?_
                  have kp42 : mI (sI M24 6 x15.toNat t) 1 = mI M 1 := (kp_sI kp28 rfl)
                  have hB43 : BF fC M (sI M24 6 x15.toNat t) := BF.w6 hB27 (fun _ => rfl) _
                  refine vc_aload_n dX6_addTelling_102 rfl ?_
                  refine vc_getR dX6_addTelling_103 flX6_24 (s_1 hB43.1.1) rfl (r_1_4 hB43.1.1) ?_
                  refine vc_iload dX6_addTelling_106 rfl ?_
                  refine vc_iconst dX6_addTelling_108 rfl ?_
                  refine vc_iaddE dX6_addTelling_109 (by omega) (by omega) ?_
                  refine vc_iload_n dX6_addTelling_110 rfl ?_
                  refine vc_iastore dX6_addTelling_111 (s_6 hB43.1.1) (by omega) (by omega) ?_
                  have kp44 : mI (sI (sI M24 6 x15.toNat t) 6 ((x15 + 1).toNat) f) 1 = mI M 1 := (kp_sI kp42 rfl)
                  have hB45 : BF fC M (sI (sI M24 6 x15.toNat t) 6 ((x15 + 1).toNat) f) := BF.w6 hB43 (fun _ => rfl) _
                  refine vc_aload_n dX6_addTelling_112 rfl ?_
                  refine vc_getR dX6_addTelling_113 flX6_24 (s_1 hB45.1.1) rfl (r_1_4 hB45.1.1) ?_
                  refine vc_iload dX6_addTelling_116 rfl ?_
                  refine vc_iconst dX6_addTelling_118 rfl ?_
                  refine vc_iaddE dX6_addTelling_119 (by omega) (by omega) ?_
                  refine vc_iload dX6_addTelling_120 rfl ?_
                  refine vc_iload dX6_addTelling_122 rfl ?_
                  refine vc_iadd dX6_addTelling_124 ?_
                  refine vc_iastore dX6_addTelling_125 (s_6 hB45.1.1) (by omega) (by omega) ?_
                  have kp46 : mI (sI (sI (sI M24 6 x15.toNat t) 6 ((x15 + 1).toNat) f) 6 ((x15 + 2).toNat) (wI (x16 + x23))) 1 = mI M 1 := (kp_sI kp44 rfl)
                  have hB47 : BF fC M (sI (sI (sI M24 6 x15.toNat t) 6 ((x15 + 1).toNat) f) 6 ((x15 + 2).toNat) (wI (x16 + x23))) := BF.w6 hB45 (fun _ => rfl) _
                  refine vc_aload_n dX6_addTelling_126 rfl ?_
                  refine vc_dup dX6_addTelling_127 rfl ?_
                  refine vc_getI dX6_addTelling_128 flX6_58 (s_1 hB47.1.1) rfl ?_
                  refine vc_topI (mI M24 1 9) rfl ?_
                  have k48 : 0 ≤ mI M24 1 9 ∧ mI M24 1 9 ≤ 8 := b1_9 (M := (sI (sI (sI M24 6 x15.toNat t) 6 ((x15 + 1).toNat) f) 6 ((x15 + 2).toNat) (wI (x16 + x23)))) hB47.1
                  have k49 : mI M24 1 9 = mI M 1 9 := congrFun kp46 9
                  refine vc_iconst dX6_addTelling_131 rfl ?_
                  refine vc_iaddE dX6_addTelling_132 (by omega) (by omega) ?_
                  refine vc_putI dX6_addTelling_133 (plX6_58 _ rfl) (s_1 hB47.1.1) rfl ?_
                  have hB50 : BF fC M (sI (sI (sI (sI M24 6 x15.toNat t) 6 ((x15 + 1).toNat) f) 6 ((x15 + 2).toNat) (wI (x16 + x23))) 1 9 ((mI M24 1 9) + 1)) := BF.w1_9 hB47 rfl (by omega) (by omega)
                  refine vc_aload_n dX6_addTelling_136 rfl ?_
                  refine vc_getI dX6_addTelling_137 flX6_58 (s_1 hB50.1.1) rfl ?_
                  refine vc_topI ((mI M24 1 9) + 1) rfl ?_
                  refine vc_iconst dX6_addTelling_140 rfl ?_
                  refine vc_isubE dX6_addTelling_141 (by omega) (by omega) ?_
                  refine vc_iret dX6_addTelling_142 rfl (Nat.le_of_ble_eq_true rfl) (Nat.le_of_ble_eq_true rfl) ?_
                  exact ⟨_, rfl, hB50⟩
                · refine vc_iconst dX6_addTelling_92 rfl ?_
                  refine vc_iret dX6_addTelling_93 rfl (Nat.le_of_ble_eq_true rfl) (Nat.le_of_ble_eq_true rfl) ?_
                  exact ⟨_, rfl, hB27⟩
        · refine vc_iconst dX6_addTelling_51 rfl ?_
          refine vc_goto dX6_addTelling_52 ?_
          refine vc_istore dX6_addTelling_67 (by decide) rfl (show _ = [some (aR 1), some (aI t), some (aI f), some (aI a), some (aI b), some (aI x15), some (aI x16), some (aI 0)] from rfl) ?_
          refine vc_iload dX6_addTelling_69 rfl ?_
          refine vc_iconst dX6_addTelling_71 rfl ?_
          refine vc_icmp_eq dX6_addTelling_72 (fun h51 => ?_) (fun h51 => ?_)
          · refine vc_iconst dX6_addTelling_92 rfl ?_
            refine vc_iret dX6_addTelling_93 rfl (Nat.le_of_ble_eq_true rfl) (Nat.le_of_ble_eq_true rfl) ?_
            exact ⟨_, rfl, hB20⟩
          · refine vc_iload dX6_addTelling_75 rfl ?_
            refine vc_iconst dX6_addTelling_77 rfl ?_
            refine vc_icmp_eq dX6_addTelling_78 (fun h52 => by exfalso; omega) (fun h52 => ?_)
            refine vc_iload dX6_addTelling_81 rfl ?_
            refine vc_if_le dX6_addTelling_83 (fun h53 => ?_) (fun h53 => by exfalso; omega)
            refine vc_aload_n dX6_addTelling_94 rfl ?_
            refine vc_getR dX6_addTelling_95 flX6_24 (s_1 hB20.1.1) rfl (r_1_4 hB20.1.1) ?_
            refine vc_iload dX6_addTelling_98 rfl ?_
            refine vc_iload_n dX6_addTelling_100 rfl ?_
            refine vc_iastore dX6_addTelling_101 (s_6 hB20.1.1) (by omega) (by omega) ?_
            have kp54 : mI (sI M17 6 x15.toNat t) 1 = mI M 1 := (kp_sI kp21 rfl)
            have hB55 : BF fC M (sI M17 6 x15.toNat t) := BF.w6 hB20 (fun _ => rfl) _
            refine vc_aload_n dX6_addTelling_102 rfl ?_
            refine vc_getR dX6_addTelling_103 flX6_24 (s_1 hB55.1.1) rfl (r_1_4 hB55.1.1) ?_
            refine vc_iload dX6_addTelling_106 rfl ?_
            refine vc_iconst dX6_addTelling_108 rfl ?_
            refine vc_iaddE dX6_addTelling_109 (by omega) (by omega) ?_
            refine vc_iload_n dX6_addTelling_110 rfl ?_
            refine vc_iastore dX6_addTelling_111 (s_6 hB55.1.1) (by omega) (by omega) ?_
            have kp56 : mI (sI (sI M17 6 x15.toNat t) 6 ((x15 + 1).toNat) f) 1 = mI M 1 := (kp_sI kp54 rfl)
            have hB57 : BF fC M (sI (sI M17 6 x15.toNat t) 6 ((x15 + 1).toNat) f) := BF.w6 hB55 (fun _ => rfl) _
            refine vc_aload_n dX6_addTelling_112 rfl ?_
            refine vc_getR dX6_addTelling_113 flX6_24 (s_1 hB57.1.1) rfl (r_1_4 hB57.1.1) ?_
            refine vc_iload dX6_addTelling_116 rfl ?_
            refine vc_iconst dX6_addTelling_118 rfl ?_
            refine vc_iaddE dX6_addTelling_119 (by omega) (by omega) ?_
            refine vc_iload dX6_addTelling_120 rfl ?_
            refine vc_iload dX6_addTelling_122 rfl ?_
            refine vc_iadd dX6_addTelling_124 ?_
            refine vc_iastore dX6_addTelling_125 (s_6 hB57.1.1) (by omega) (by omega) ?_
            have kp58 : mI (sI (sI (sI M17 6 x15.toNat t) 6 ((x15 + 1).toNat) f) 6 ((x15 + 2).toNat) (wI (x16 + 0))) 1 = mI M 1 := (kp_sI kp56 rfl)
            have hB59 : BF fC M (sI (sI (sI M17 6 x15.toNat t) 6 ((x15 + 1).toNat) f) 6 ((x15 + 2).toNat) (wI (x16 + 0))) := BF.w6 hB57 (fun _ => rfl) _
            refine vc_aload_n dX6_addTelling_126 rfl ?_
            refine vc_dup dX6_addTelling_127 rfl ?_
            refine vc_getI dX6_addTelling_128 flX6_58 (s_1 hB59.1.1) rfl ?_
            refine vc_topI (mI M17 1 9) rfl ?_
            have k60 : 0 ≤ mI M17 1 9 ∧ mI M17 1 9 ≤ 8 := b1_9 (M := (sI (sI (sI M17 6 x15.toNat t) 6 ((x15 + 1).toNat) f) 6 ((x15 + 2).toNat) (wI (x16 + 0)))) hB59.1
            have k61 : mI M17 1 9 = mI M 1 9 := congrFun kp58 9
            refine vc_iconst dX6_addTelling_131 rfl ?_
            refine vc_iaddE dX6_addTelling_132 (by omega) (by omega) ?_
            refine vc_putI dX6_addTelling_133 (plX6_58 _ rfl) (s_1 hB59.1.1) rfl ?_
            have hB62 : BF fC M (sI (sI (sI (sI M17 6 x15.toNat t) 6 ((x15 + 1).toNat) f) 6 ((x15 + 2).toNat) (wI (x16 + 0))) 1 9 ((mI M17 1 9) + 1)) := BF.w1_9 hB59 rfl (by omega) (by omega)
            refine vc_aload_n dX6_addTelling_136 rfl ?_
            refine vc_getI dX6_addTelling_137 flX6_58 (s_1 hB62.1.1) rfl ?_
            refine vc_topI ((mI M17 1 9) + 1) rfl ?_
            refine vc_iconst dX6_addTelling_140 rfl ?_
            refine vc_isubE dX6_addTelling_141 (by omega) (by omega) ?_
            refine vc_iret dX6_addTelling_142 rfl (Nat.le_of_ble_eq_true rfl) (Nat.le_of_ble_eq_true rfl) ?_
            exact ⟨_, rfl, hB62⟩
      · refine vc_iconst dX6_addTelling_24 rfl ?_
        refine vc_iret dX6_addTelling_25 rfl (Nat.le_of_ble_eq_true rfl) (Nat.le_of_ble_eq_true rfl) ?_
        exact ⟨_, rfl, hB0⟩

set_option maxRecDepth 4000 in
theorem sfX6_textOf {l : Launch} {M : Mem} (hB : Box M)  (t : Int)  : Call l mdX6_textOf [aR 1, aI t] M (fun q N => ∃ r : Option Nat, q = some (.inr (.inr r)) ∧ M = N ∧ (∀ y, r = some y → TxO M y)) := by
  have hB0 : BF fQ M M := BF.start hB
  refine Call.of [some (aR 1), some (aI t)] rfl (Nat.le_of_ble_eq_true rfl) rfl ?_
  refine vc_ok (fun hoM hoS hoL => ?_)
  have hr1 : -2147483648 ≤ t ∧ t < 2147483648 := hoL 1 _ rfl
  refine vc_iload_n dX6_textOf_0 rfl ?_
  refine vc_if_lt dX6_textOf_1 (fun h1 => ?_) (fun h1 => ?_)
  · refine vc_null dX6_textOf_21 ?_
    refine vc_aret dX6_textOf_22 rfl (Nat.le_of_ble_eq_true rfl) (Nat.le_of_ble_eq_true rfl) ?_
    exact ⟨_, rfl, rfl, fun y hy => by cases hy⟩
  · refine vc_iload_n dX6_textOf_4 rfl ?_
    refine vc_aload_n dX6_textOf_5 rfl ?_
    refine vc_getI dX6_textOf_6 flX6_61 (s_1 hB0.1.1) rfl ?_
    have k2 : 0 ≤ mI M 1 10 ∧ mI M 1 10 ≤ 4 := b1_10 (M := M) hB0.1
    refine vc_icmp_ge dX6_textOf_9 (fun h3 => ?_) (fun h3 => ?_)
    · refine vc_null dX6_textOf_21 ?_
      refine vc_aret dX6_textOf_22 rfl (Nat.le_of_ble_eq_true rfl) (Nat.le_of_ble_eq_true rfl) ?_
      exact ⟨_, rfl, rfl, fun y hy => by cases hy⟩
    · refine vc_aload_n dX6_textOf_12 rfl ?_
      refine vc_getR dX6_textOf_13 flX6_29 (s_1 hB0.1.1) rfl (r_1_5 hB0.1.1) ?_
      refine vc_iload_n dX6_textOf_16 rfl ?_
      refine vc_aaload dX6_textOf_17 (s_7 hB0.1.1) (by omega) (by omega) ?_
      refine vc_nameO (fun o4 eo4 => ?_)
      refine vc_goto dX6_textOf_18 ?_
      refine vc_aret dX6_textOf_22 rfl (Nat.le_of_ble_eq_true rfl) (Nat.le_of_ble_eq_true rfl) ?_
      exact ⟨_, rfl, rfl, hB0.tx (Or.inl rfl) eo4⟩

set_option maxRecDepth 4000 in
theorem sfX6_addText {l : Launch} {M : Mem} (hB : Box M)  (t : Option Nat) (p0 : ∀ y, t = some y → TxO M y) : Call l mdX6_addText [aR 1, .inr (.inr t)] M (fun q N => ∃ r : Int, q = some (aI r) ∧ BX M N) := by
  have hB0 : BX M M := BX.start hB
  refine Call.of [some (aR 1), some (.inr (.inr t))] rfl (Nat.le_of_ble_eq_true rfl) rfl ?_
  refine vc_aload_n dX6_addText_0 rfl ?_
  refine vc_getI dX6_addText_1 flX6_61 (s_1 hB0.1.1) rfl ?_
  have k1 : 0 ≤ mI M 1 10 ∧ mI M 1 10 ≤ 4 := b1_10 (M := M) hB0.1
  refine vc_iconst dX6_addText_4 rfl ?_
  refine vc_icmp_lt dX6_addText_5 (fun h2 => ?_) (fun h2 => ?_)
  · refine vc_aload_n dX6_addText_10 rfl ?_
    refine vc_getR dX6_addText_11 flX6_29 (s_1 hB0.1.1) rfl (r_1_5 hB0.1.1) ?_
    refine vc_aload_n dX6_addText_14 rfl ?_
    refine vc_getI dX6_addText_15 flX6_61 (s_1 hB0.1.1) rfl ?_
    refine vc_aload_n dX6_addText_18 rfl ?_
    refine vc_aastore dX6_addText_19 (s_7 hB0.1.1) (by omega) (by omega) (fun y hy => (p0 y hy).2.1) ?_
    have hB3 : BX M (sR M 7 ((mI M 1 10).toNat) t) := BX.T7 hB0 _ (fun y hy => p0 y hy)
    refine vc_aload_n dX6_addText_20 rfl ?_
    refine vc_dup dX6_addText_21 rfl ?_
    refine vc_getI dX6_addText_22 flX6_61 (s_1 hB3.1.1) rfl ?_
    refine vc_topI (mI M 1 10) rfl ?_
    have k4 : 0 ≤ mI M 1 10 ∧ mI M 1 10 ≤ 4 := b1_10 (M := (sR M 7 ((mI M 1 10).toNat) t)) hB3.1
    refine vc_iconst dX6_addText_25 rfl ?_
    refine vc_iaddE dX6_addText_26 (by omega) (by omega) ?_
    refine vc_putI dX6_addText_27 (plX6_61 _ rfl) (s_1 hB3.1.1) rfl ?_
    have hB5 : BX M (sI (sR M 7 ((mI M 1 10).toNat) t) 1 10 ((mI M 1 10) + 1)) := BX.w1_10 hB3 (by omega) (by omega)
    refine vc_aload_n dX6_addText_30 rfl ?_
    refine vc_getI dX6_addText_31 flX6_61 (s_1 hB5.1.1) rfl ?_
    refine vc_topI ((mI M 1 10) + 1) rfl ?_
    refine vc_iconst dX6_addText_34 rfl ?_
    refine vc_isubE dX6_addText_35 (by omega) (by omega) ?_
    refine vc_iret dX6_addText_36 rfl (Nat.le_of_ble_eq_true rfl) (Nat.le_of_ble_eq_true rfl) ?_
    exact ⟨_, rfl, hB5⟩
  · refine vc_iconst dX6_addText_8 rfl ?_
    refine vc_iret dX6_addText_9 rfl (Nat.le_of_ble_eq_true rfl) (Nat.le_of_ble_eq_true rfl) ?_
    exact ⟨_, rfl, hB0⟩

set_option maxRecDepth 4000 in
theorem sfX6_copyFrom_8 {l : Launch} {M : Mem} (hB : Box M)    : Call l mdX6_copyFrom [aR 8, aR 1] M (fun q N => q = none ∧ BX M N) := by
  have hB0 : BX M M := BX.start hB
  refine Call.of [some (aR 8), some (aR 1), none] rfl (Nat.le_of_ble_eq_true rfl) rfl ?_
  refine vc_aload_n dX6_copyFrom_0 rfl ?_
  refine vc_getR dX6_copyFrom_1 flX6_9 (s_1 hB0.1.1) rfl (r_1_0 hB0.1.1) ?_
  refine vc_iconst dX6_copyFrom_4 rfl ?_
  refine vc_aload_n dX6_copyFrom_5 rfl ?_
  refine vc_getR dX6_copyFrom_6 flX6_9 (s_8 hB0.1.1) rfl (r_8_0 hB0.1.1) ?_
  refine vc_iconst dX6_copyFrom_9 rfl ?_
  refine vc_bipush dX6_copyFrom_10 rfl ?_
  refine vc_acopy dX6_copyFrom_12 acX6_46 (s_2 hB0.1.1) (s_9 hB0.1.1) (by omega) (by omega) (by omega) (by omega) (by omega) (Nat.le_of_ble_eq_true rfl) ?_
  refine vc_mem (cpI M 9 2 0 0 16) rfl ?_
  have hB1 : BX M (cpI M 9 2 0 0 16) := BX.C9 hB0 _ _ _ _
  refine vc_aload_n dX6_copyFrom_15 rfl ?_
  refine vc_getR dX6_copyFrom_16 flX6_15 (s_1 hB1.1.1) rfl (r_1_1 hB1.1.1) ?_
  refine vc_iconst dX6_copyFrom_19 rfl ?_
  refine vc_aload_n dX6_copyFrom_20 rfl ?_
  refine vc_getR dX6_copyFrom_21 flX6_15 (s_8 hB1.1.1) rfl (r_8_1 hB1.1.1) ?_
  refine vc_iconst dX6_copyFrom_24 rfl ?_
  refine vc_bipush dX6_copyFrom_25 rfl ?_
  refine vc_acopy dX6_copyFrom_27 acX6_46 (s_3 hB1.1.1) (s_10 hB1.1.1) (by omega) (by omega) (by omega) (by omega) (by omega) (Nat.le_of_ble_eq_true rfl) ?_
  refine vc_mem (cpI (cpI M 9 2 0 0 16) 10 3 0 0 64) rfl ?_
  have hB2 : BX M (cpI (cpI M 9 2 0 0 16) 10 3 0 0 64) := BX.C10 hB1 _ _ _ _ rfl
  refine vc_aload_n dX6_copyFrom_30 rfl ?_
  refine vc_getR dX6_copyFrom_31 flX6_18 (s_1 hB2.1.1) rfl (r_1_2 hB2.1.1) ?_
  refine vc_iconst dX6_copyFrom_34 rfl ?_
  refine vc_aload_n dX6_copyFrom_35 rfl ?_
  refine vc_getR dX6_copyFrom_36 flX6_18 (s_8 hB2.1.1) rfl (r_8_2 hB2.1.1) ?_
  refine vc_iconst dX6_copyFrom_39 rfl ?_
  refine vc_bipush dX6_copyFrom_40 rfl ?_
  refine vc_acopy dX6_copyFrom_42 acX6_46 (s_4 hB2.1.1) (s_11 hB2.1.1) (by omega) (by omega) (by omega) (by omega) (by omega) (Nat.le_of_ble_eq_true rfl) ?_
  refine vc_mem (cpI (cpI (cpI M 9 2 0 0 16) 10 3 0 0 64) 11 4 0 0 64) rfl ?_
  have hB3 : BX M (cpI (cpI (cpI M 9 2 0 0 16) 10 3 0 0 64) 11 4 0 0 64) := BX.C11 hB2 _ _ _ _
  refine vc_aload_n dX6_copyFrom_45 rfl ?_
  refine vc_getR dX6_copyFrom_46 flX6_21 (s_1 hB3.1.1) rfl (r_1_3 hB3.1.1) ?_
  refine vc_iconst dX6_copyFrom_49 rfl ?_
  refine vc_aload_n dX6_copyFrom_50 rfl ?_
  refine vc_getR dX6_copyFrom_51 flX6_21 (s_8 hB3.1.1) rfl (r_8_3 hB3.1.1) ?_
  refine vc_iconst dX6_copyFrom_54 rfl ?_
  refine vc_bipush dX6_copyFrom_55 rfl ?_
  refine vc_acopy dX6_copyFrom_57 acX6_46 (s_5 hB3.1.1) (s_12 hB3.1.1) (by omega) (by omega) (by omega) (by omega) (by omega) (Nat.le_of_ble_eq_true rfl) ?_
  refine vc_mem (cpI (cpI (cpI (cpI M 9 2 0 0 16) 10 3 0 0 64) 11 4 0 0 64) 12 5 0 0 24) rfl ?_
  have hB4 : BX M (cpI (cpI (cpI (cpI M 9 2 0 0 16) 10 3 0 0 64) 11 4 0 0 64) 12 5 0 0 24) := BX.C12 hB3 _ _ _ _
  refine vc_aload_n dX6_copyFrom_60 rfl ?_
  refine vc_getR dX6_copyFrom_61 flX6_24 (s_1 hB4.1.1) rfl (r_1_4 hB4.1.1) ?_
  refine vc_iconst dX6_copyFrom_64 rfl ?_
  refine vc_aload_n dX6_copyFrom_65 rfl ?_
  refine vc_getR dX6_copyFrom_66 flX6_24 (s_8 hB4.1.1) rfl (r_8_4 hB4.1.1) ?_
  refine vc_iconst dX6_copyFrom_69 rfl ?_
  refine vc_bipush dX6_copyFrom_70 rfl ?_
  refine vc_acopy dX6_copyFrom_72 acX6_46 (s_6 hB4.1.1) (s_13 hB4.1.1) (by omega) (by omega) (by omega) (by omega) (by omega) (Nat.le_of_ble_eq_true rfl) ?_
  refine vc_mem (cpI (cpI (cpI (cpI (cpI M 9 2 0 0 16) 10 3 0 0 64) 11 4 0 0 64) 12 5 0 0 24) 13 6 0 0 72) rfl ?_
  have hB5 : BX M (cpI (cpI (cpI (cpI (cpI M 9 2 0 0 16) 10 3 0 0 64) 11 4 0 0 64) 12 5 0 0 24) 13 6 0 0 72) := BX.C13 hB4 _ _ _ _
  refine vc_iconst dX6_copyFrom_75 rfl ?_
  refine vc_istore_n dX6_copyFrom_76 (by decide) rfl (show _ = [some (aR 8), some (aR 1), some (aI 0)] from rfl) ?_
  have lp77 : ∀ (n77 : Nat) (Mq77 : Mem) (v2 : Int), (BX M Mq77) → (0 ≤ v2) → (v2 ≤ 4) → (4 - v2).toNat < n77 → VC l mdX6_copyFrom 77 [some (aR 8), some (aR 1), some (aI v2)] [] Mq77 0 0 (fun q N => q = none ∧ BX M N) := by
    intro n77
    induction n77 with
    | zero => intro Mq77 v2 hQ77 g77_2a g77_2b hm77; exact absurd hm77 (Nat.not_lt_zero _)
    | succ n77 ih77 =>
      intro Mq77 v2 hQ77 g77_2a g77_2b hm77
      refine vc_iload_n dX6_copyFrom_77 rfl ?_
      refine vc_iconst dX6_copyFrom_78 rfl ?_
      refine vc_icmp_ge dX6_copyFrom_79 (fun h6 => ?_) (fun h6 => ?_)
      · refine vc_aload_n dX6_copyFrom_100 rfl ?_
        refine vc_aload_n dX6_copyFrom_101 rfl ?_
        refine vc_getI dX6_copyFrom_102 flX6_52 (s_1 hQ77.1.1) rfl ?_
        have k7 : 0 ≤ mI Mq77 1 6 ∧ mI Mq77 1 6 ≤ 16 := b1_6 (M := Mq77) hQ77.1
        refine vc_putI dX6_copyFrom_105 (plX6_52 _ rfl) (s_8 hQ77.1.1) rfl ?_
        have hB8 : BX M (sI Mq77 8 6 (mI Mq77 1 6)) := BX.w8_6 hQ77 (by omega) (by omega)
        refine vc_aload_n dX6_copyFrom_108 rfl ?_
        refine vc_aload_n dX6_copyFrom_109 rfl ?_
        refine vc_getI dX6_copyFrom_110 flX6_39 (s_1 hB8.1.1) rfl ?_
        refine vc_topI (mI Mq77 1 7) rfl ?_
        have k9 : (-1) ≤ mI Mq77 1 7 ∧ mI Mq77 1 7 ≤ 15 := b1_7 (M := (sI Mq77 8 6 (mI Mq77 1 6))) hB8.1
        refine vc_putI dX6_copyFrom_113 (plX6_39 _ rfl) (s_8 hB8.1.1) rfl ?_
        have hB10 : BX M (sI (sI Mq77 8 6 (mI Mq77 1 6)) 8 7 (mI Mq77 1 7)) := BX.w8_7 hB8 (by omega) (by omega)
        refine vc_aload_n dX6_copyFrom_116 rfl ?_
        refine vc_aload_n dX6_copyFrom_117 rfl ?_
        refine vc_getI dX6_copyFrom_118 flX6_55 (s_1 hB10.1.1) rfl ?_
        refine vc_topI (mI Mq77 1 8) rfl ?_
        have k11 : 0 ≤ mI Mq77 1 8 ∧ mI Mq77 1 8 ≤ 6 := b1_8 (M := (sI (sI Mq77 8 6 (mI Mq77 1 6)) 8 7 (mI Mq77 1 7))) hB10.1
        refine vc_putI dX6_copyFrom_121 (plX6_55 _ rfl) (s_8 hB10.1.1) rfl ?_
        have hB12 : BX M (sI (sI (sI Mq77 8 6 (mI Mq77 1 6)) 8 7 (mI Mq77 1 7)) 8 8 (mI Mq77 1 8)) := BX.w8_8 hB10 (by omega) (by omega)
        refine vc_aload_n dX6_copyFrom_124 rfl ?_
        refine vc_aload_n dX6_copyFrom_125 rfl ?_
        refine vc_getI dX6_copyFrom_126 flX6_58 (s_1 hB12.1.1) rfl ?_
        refine vc_topI (mI Mq77 1 9) rfl ?_
        have k13 : 0 ≤ mI Mq77 1 9 ∧ mI Mq77 1 9 ≤ 8 := b1_9 (M := (sI (sI (sI Mq77 8 6 (mI Mq77 1 6)) 8 7 (mI Mq77 1 7)) 8 8 (mI Mq77 1 8))) hB12.1
        refine vc_putI dX6_copyFrom_129 (plX6_58 _ rfl) (s_8 hB12.1.1) rfl ?_
        have hB14 : BX M (sI (sI (sI (sI Mq77 8 6 (mI Mq77 1 6)) 8 7 (mI Mq77 1 7)) 8 8 (mI Mq77 1 8)) 8 9 (mI Mq77 1 9)) := BX.w8_9 hB12 (by omega) (by omega)
        refine vc_aload_n dX6_copyFrom_132 rfl ?_
        refine vc_aload_n dX6_copyFrom_133 rfl ?_
        refine vc_getI dX6_copyFrom_134 flX6_61 (s_1 hB14.1.1) rfl ?_
        refine vc_topI (mI Mq77 1 10) rfl ?_
        have k15 : 0 ≤ mI Mq77 1 10 ∧ mI Mq77 1 10 ≤ 4 := b1_10 (M := (sI (sI (sI (sI Mq77 8 6 (mI Mq77 1 6)) 8 7 (mI Mq77 1 7)) 8 8 (mI Mq77 1 8)) 8 9 (mI Mq77 1 9))) hB14.1
        refine vc_putI dX6_copyFrom_137 (plX6_61 _ rfl) (s_8 hB14.1.1) rfl ?_
        have hB16 : BX M (sI (sI (sI (sI (sI Mq77 8 6 (mI Mq77 1 6)) 8 7 (mI Mq77 1 7)) 8 8 (mI Mq77 1 8)) 8 9 (mI Mq77 1 9)) 8 10 (mI Mq77 1 10)) := BX.w8_10 hB14 (by omega) (by omega)
        refine vc_aload_n dX6_copyFrom_140 rfl ?_
        refine vc_aload_n dX6_copyFrom_141 rfl ?_
        refine vc_getI dX6_copyFrom_142 flX6_43 (s_1 hB16.1.1) rfl ?_
        refine vc_topI (mI Mq77 1 11) rfl ?_
        refine vc_putI dX6_copyFrom_145 (plX6_43 _ rfl) (s_8 hB16.1.1) rfl ?_
        have hB17 : BX M (sI (sI (sI (sI (sI (sI Mq77 8 6 (mI Mq77 1 6)) 8 7 (mI Mq77 1 7)) 8 8 (mI Mq77 1 8)) 8 9 (mI Mq77 1 9)) 8 10 (mI Mq77 1 10)) 8 11 (mI Mq77 1 11)) := BX.w8_11 hB16
        refine vc_vret dX6_copyFrom_148 rfl (Nat.le_of_ble_eq_true rfl) (Nat.le_of_ble_eq_true rfl) ?_
        exact ⟨rfl, hB17⟩
      · refine vc_aload_n dX6_copyFrom_82 rfl ?_
        refine vc_getR dX6_copyFrom_83 flX6_29 (s_8 hQ77.1.1) rfl (r_8_5 hQ77.1.1) ?_
        refine vc_iload_n dX6_copyFrom_86 rfl ?_
        refine vc_aload_n dX6_copyFrom_87 rfl ?_
        refine vc_getR dX6_copyFrom_88 flX6_29 (s_1 hQ77.1.1) rfl (r_1_5 hQ77.1.1) ?_
        refine vc_iload_n dX6_copyFrom_91 rfl ?_
        refine vc_aaload dX6_copyFrom_92 (s_7 hQ77.1.1) (by omega) (by omega) ?_
        refine vc_nameO (fun o18 eo18 => ?_)
        refine vc_aastore dX6_copyFrom_93 (s_14 hQ77.1.1) (by omega) (by omega) (fun y hy => (hQ77.tx (k := 7) (Or.inl rfl) eo18 y hy).2.1) ?_
        have hB19 : BX M (sR Mq77 14 v2.toNat o18) := BX.T14 hQ77 _ (fun y hy => hQ77.tx (k := 7) (Or.inl rfl) eo18 y hy)
        refine vc_iincE dX6_copyFrom_94 rfl (by omega) (by omega) (by decide) rfl (show _ = [some (aR 8), some (aR 1), some (aI (v2 + 1))] from rfl) ?_
        refine vc_goto dX6_copyFrom_97 ?_
        exact ih77 (sR Mq77 14 v2.toNat o18) (v2 + 1) hB19 (by omega) (by omega) (by omega)
  exact lp77 _ (cpI (cpI (cpI (cpI (cpI M 9 2 0 0 16) 10 3 0 0 64) 11 4 0 0 64) 12 5 0 0 24) 13 6 0 0 72) 0 hB5 (by omega) (by omega) (Nat.lt_succ_self _)

set_option maxRecDepth 4000 in
theorem sfX6_copyFrom_1 {l : Launch} {M : Mem} (hB : Box M)    : Call l mdX6_copyFrom [aR 1, aR 8] M (fun q N => q = none ∧ BX M N) := by
  have hB0 : BX M M := BX.start hB
  refine Call.of [some (aR 1), some (aR 8), none] rfl (Nat.le_of_ble_eq_true rfl) rfl ?_
  refine vc_aload_n dX6_copyFrom_0 rfl ?_
  refine vc_getR dX6_copyFrom_1 flX6_9 (s_8 hB0.1.1) rfl (r_8_0 hB0.1.1) ?_
  refine vc_iconst dX6_copyFrom_4 rfl ?_
  refine vc_aload_n dX6_copyFrom_5 rfl ?_
  refine vc_getR dX6_copyFrom_6 flX6_9 (s_1 hB0.1.1) rfl (r_1_0 hB0.1.1) ?_
  refine vc_iconst dX6_copyFrom_9 rfl ?_
  refine vc_bipush dX6_copyFrom_10 rfl ?_
  refine vc_acopy dX6_copyFrom_12 acX6_46 (s_9 hB0.1.1) (s_2 hB0.1.1) (by omega) (by omega) (by omega) (by omega) (by omega) (Nat.le_of_ble_eq_true rfl) ?_
  refine vc_mem (cpI M 2 9 0 0 16) rfl ?_
  have hB1 : BX M (cpI M 2 9 0 0 16) := BX.C2 hB0 _ _ _ _
  refine vc_aload_n dX6_copyFrom_15 rfl ?_
  refine vc_getR dX6_copyFrom_16 flX6_15 (s_8 hB1.1.1) rfl (r_8_1 hB1.1.1) ?_
  refine vc_iconst dX6_copyFrom_19 rfl ?_
  refine vc_aload_n dX6_copyFrom_20 rfl ?_
  refine vc_getR dX6_copyFrom_21 flX6_15 (s_1 hB1.1.1) rfl (r_1_1 hB1.1.1) ?_
  refine vc_iconst dX6_copyFrom_24 rfl ?_
  refine vc_bipush dX6_copyFrom_25 rfl ?_
  refine vc_acopy dX6_copyFrom_27 acX6_46 (s_10 hB1.1.1) (s_3 hB1.1.1) (by omega) (by omega) (by omega) (by omega) (by omega) (Nat.le_of_ble_eq_true rfl) ?_
  refine vc_mem (cpI (cpI M 2 9 0 0 16) 3 10 0 0 64) rfl ?_
  have hB2 : BX M (cpI (cpI M 2 9 0 0 16) 3 10 0 0 64) := BX.C3 hB1 _ _ _ _ rfl
  refine vc_aload_n dX6_copyFrom_30 rfl ?_
  refine vc_getR dX6_copyFrom_31 flX6_18 (s_8 hB2.1.1) rfl (r_8_2 hB2.1.1) ?_
  refine vc_iconst dX6_copyFrom_34 rfl ?_
  refine vc_aload_n dX6_copyFrom_35 rfl ?_
  refine vc_getR dX6_copyFrom_36 flX6_18 (s_1 hB2.1.1) rfl (r_1_2 hB2.1.1) ?_
  refine vc_iconst dX6_copyFrom_39 rfl ?_
  refine vc_bipush dX6_copyFrom_40 rfl ?_
  refine vc_acopy dX6_copyFrom_42 acX6_46 (s_11 hB2.1.1) (s_4 hB2.1.1) (by omega) (by omega) (by omega) (by omega) (by omega) (Nat.le_of_ble_eq_true rfl) ?_
  refine vc_mem (cpI (cpI (cpI M 2 9 0 0 16) 3 10 0 0 64) 4 11 0 0 64) rfl ?_
  have hB3 : BX M (cpI (cpI (cpI M 2 9 0 0 16) 3 10 0 0 64) 4 11 0 0 64) := BX.C4 hB2 _ _ _ _
  refine vc_aload_n dX6_copyFrom_45 rfl ?_
  refine vc_getR dX6_copyFrom_46 flX6_21 (s_8 hB3.1.1) rfl (r_8_3 hB3.1.1) ?_
  refine vc_iconst dX6_copyFrom_49 rfl ?_
  refine vc_aload_n dX6_copyFrom_50 rfl ?_
  refine vc_getR dX6_copyFrom_51 flX6_21 (s_1 hB3.1.1) rfl (r_1_3 hB3.1.1) ?_
  refine vc_iconst dX6_copyFrom_54 rfl ?_
  refine vc_bipush dX6_copyFrom_55 rfl ?_
  refine vc_acopy dX6_copyFrom_57 acX6_46 (s_12 hB3.1.1) (s_5 hB3.1.1) (by omega) (by omega) (by omega) (by omega) (by omega) (Nat.le_of_ble_eq_true rfl) ?_
  refine vc_mem (cpI (cpI (cpI (cpI M 2 9 0 0 16) 3 10 0 0 64) 4 11 0 0 64) 5 12 0 0 24) rfl ?_
  have hB4 : BX M (cpI (cpI (cpI (cpI M 2 9 0 0 16) 3 10 0 0 64) 4 11 0 0 64) 5 12 0 0 24) := BX.C5 hB3 _ _ _ _
  refine vc_aload_n dX6_copyFrom_60 rfl ?_
  refine vc_getR dX6_copyFrom_61 flX6_24 (s_8 hB4.1.1) rfl (r_8_4 hB4.1.1) ?_
  refine vc_iconst dX6_copyFrom_64 rfl ?_
  refine vc_aload_n dX6_copyFrom_65 rfl ?_
  refine vc_getR dX6_copyFrom_66 flX6_24 (s_1 hB4.1.1) rfl (r_1_4 hB4.1.1) ?_
  refine vc_iconst dX6_copyFrom_69 rfl ?_
  refine vc_bipush dX6_copyFrom_70 rfl ?_
  refine vc_acopy dX6_copyFrom_72 acX6_46 (s_13 hB4.1.1) (s_6 hB4.1.1) (by omega) (by omega) (by omega) (by omega) (by omega) (Nat.le_of_ble_eq_true rfl) ?_
  refine vc_mem (cpI (cpI (cpI (cpI (cpI M 2 9 0 0 16) 3 10 0 0 64) 4 11 0 0 64) 5 12 0 0 24) 6 13 0 0 72) rfl ?_
  have hB5 : BX M (cpI (cpI (cpI (cpI (cpI M 2 9 0 0 16) 3 10 0 0 64) 4 11 0 0 64) 5 12 0 0 24) 6 13 0 0 72) := BX.C6 hB4 _ _ _ _
  refine vc_iconst dX6_copyFrom_75 rfl ?_
  refine vc_istore_n dX6_copyFrom_76 (by decide) rfl (show _ = [some (aR 1), some (aR 8), some (aI 0)] from rfl) ?_
  have lp77 : ∀ (n77 : Nat) (Mq77 : Mem) (v2 : Int), (BX M Mq77) → (0 ≤ v2) → (v2 ≤ 4) → (4 - v2).toNat < n77 → VC l mdX6_copyFrom 77 [some (aR 1), some (aR 8), some (aI v2)] [] Mq77 0 0 (fun q N => q = none ∧ BX M N) := by
    intro n77
    induction n77 with
    | zero => intro Mq77 v2 hQ77 g77_2a g77_2b hm77; exact absurd hm77 (Nat.not_lt_zero _)
    | succ n77 ih77 =>
      intro Mq77 v2 hQ77 g77_2a g77_2b hm77
      refine vc_iload_n dX6_copyFrom_77 rfl ?_
      refine vc_iconst dX6_copyFrom_78 rfl ?_
      refine vc_icmp_ge dX6_copyFrom_79 (fun h6 => ?_) (fun h6 => ?_)
      · refine vc_aload_n dX6_copyFrom_100 rfl ?_
        refine vc_aload_n dX6_copyFrom_101 rfl ?_
        refine vc_getI dX6_copyFrom_102 flX6_52 (s_8 hQ77.1.1) rfl ?_
        have k7 : 0 ≤ mI Mq77 8 6 ∧ mI Mq77 8 6 ≤ 16 := b8_6 (M := Mq77) hQ77.1
        refine vc_putI dX6_copyFrom_105 (plX6_52 _ rfl) (s_1 hQ77.1.1) rfl ?_
        have hB8 : BX M (sI Mq77 1 6 (mI Mq77 8 6)) := BX.w1_6 hQ77 (by omega) (by omega)
        refine vc_aload_n dX6_copyFrom_108 rfl ?_
        refine vc_aload_n dX6_copyFrom_109 rfl ?_
        refine vc_getI dX6_copyFrom_110 flX6_39 (s_8 hB8.1.1) rfl ?_
        refine vc_topI (mI Mq77 8 7) rfl ?_
        have k9 : (-1) ≤ mI Mq77 8 7 ∧ mI Mq77 8 7 ≤ 15 := b8_7 (M := (sI Mq77 1 6 (mI Mq77 8 6))) hB8.1
        refine vc_putI dX6_copyFrom_113 (plX6_39 _ rfl) (s_1 hB8.1.1) rfl ?_
        have hB10 : BX M (sI (sI Mq77 1 6 (mI Mq77 8 6)) 1 7 (mI Mq77 8 7)) := BX.w1_7 hB8 (by omega) (by omega)
        refine vc_aload_n dX6_copyFrom_116 rfl ?_
        refine vc_aload_n dX6_copyFrom_117 rfl ?_
        refine vc_getI dX6_copyFrom_118 flX6_55 (s_8 hB10.1.1) rfl ?_
        refine vc_topI (mI Mq77 8 8) rfl ?_
        have k11 : 0 ≤ mI Mq77 8 8 ∧ mI Mq77 8 8 ≤ 6 := b8_8 (M := (sI (sI Mq77 1 6 (mI Mq77 8 6)) 1 7 (mI Mq77 8 7))) hB10.1
        refine vc_putI dX6_copyFrom_121 (plX6_55 _ rfl) (s_1 hB10.1.1) rfl ?_
        have hB12 : BX M (sI (sI (sI Mq77 1 6 (mI Mq77 8 6)) 1 7 (mI Mq77 8 7)) 1 8 (mI Mq77 8 8)) := BX.w1_8 hB10 (by omega) (by omega)
        refine vc_aload_n dX6_copyFrom_124 rfl ?_
        refine vc_aload_n dX6_copyFrom_125 rfl ?_
        refine vc_getI dX6_copyFrom_126 flX6_58 (s_8 hB12.1.1) rfl ?_
        refine vc_topI (mI Mq77 8 9) rfl ?_
        have k13 : 0 ≤ mI Mq77 8 9 ∧ mI Mq77 8 9 ≤ 8 := b8_9 (M := (sI (sI (sI Mq77 1 6 (mI Mq77 8 6)) 1 7 (mI Mq77 8 7)) 1 8 (mI Mq77 8 8))) hB12.1
        refine vc_putI dX6_copyFrom_129 (plX6_58 _ rfl) (s_1 hB12.1.1) rfl ?_
        have hB14 : BX M (sI (sI (sI (sI Mq77 1 6 (mI Mq77 8 6)) 1 7 (mI Mq77 8 7)) 1 8 (mI Mq77 8 8)) 1 9 (mI Mq77 8 9)) := BX.w1_9 hB12 (by omega) (by omega)
        refine vc_aload_n dX6_copyFrom_132 rfl ?_
        refine vc_aload_n dX6_copyFrom_133 rfl ?_
        refine vc_getI dX6_copyFrom_134 flX6_61 (s_8 hB14.1.1) rfl ?_
        refine vc_topI (mI Mq77 8 10) rfl ?_
        have k15 : 0 ≤ mI Mq77 8 10 ∧ mI Mq77 8 10 ≤ 4 := b8_10 (M := (sI (sI (sI (sI Mq77 1 6 (mI Mq77 8 6)) 1 7 (mI Mq77 8 7)) 1 8 (mI Mq77 8 8)) 1 9 (mI Mq77 8 9))) hB14.1
        refine vc_putI dX6_copyFrom_137 (plX6_61 _ rfl) (s_1 hB14.1.1) rfl ?_
        have hB16 : BX M (sI (sI (sI (sI (sI Mq77 1 6 (mI Mq77 8 6)) 1 7 (mI Mq77 8 7)) 1 8 (mI Mq77 8 8)) 1 9 (mI Mq77 8 9)) 1 10 (mI Mq77 8 10)) := BX.w1_10 hB14 (by omega) (by omega)
        refine vc_aload_n dX6_copyFrom_140 rfl ?_
        refine vc_aload_n dX6_copyFrom_141 rfl ?_
        refine vc_getI dX6_copyFrom_142 flX6_43 (s_8 hB16.1.1) rfl ?_
        refine vc_topI (mI Mq77 8 11) rfl ?_
        refine vc_putI dX6_copyFrom_145 (plX6_43 _ rfl) (s_1 hB16.1.1) rfl ?_
        have hB17 : BX M (sI (sI (sI (sI (sI (sI Mq77 1 6 (mI Mq77 8 6)) 1 7 (mI Mq77 8 7)) 1 8 (mI Mq77 8 8)) 1 9 (mI Mq77 8 9)) 1 10 (mI Mq77 8 10)) 1 11 (mI Mq77 8 11)) := BX.w1_11 hB16
        refine vc_vret dX6_copyFrom_148 rfl (Nat.le_of_ble_eq_true rfl) (Nat.le_of_ble_eq_true rfl) ?_
        exact ⟨rfl, hB17⟩
      · refine vc_aload_n dX6_copyFrom_82 rfl ?_
        refine vc_getR dX6_copyFrom_83 flX6_29 (s_1 hQ77.1.1) rfl (r_1_5 hQ77.1.1) ?_
        refine vc_iload_n dX6_copyFrom_86 rfl ?_
        refine vc_aload_n dX6_copyFrom_87 rfl ?_
        refine vc_getR dX6_copyFrom_88 flX6_29 (s_8 hQ77.1.1) rfl (r_8_5 hQ77.1.1) ?_
        refine vc_iload_n dX6_copyFrom_91 rfl ?_
        refine vc_aaload dX6_copyFrom_92 (s_14 hQ77.1.1) (by omega) (by omega) ?_
        refine vc_nameO (fun o18 eo18 => ?_)
        refine vc_aastore dX6_copyFrom_93 (s_7 hQ77.1.1) (by omega) (by omega) (fun y hy => (hQ77.tx (k := 14) (Or.inr rfl) eo18 y hy).2.1) ?_
        have hB19 : BX M (sR Mq77 7 v2.toNat o18) := BX.T7 hQ77 _ (fun y hy => hQ77.tx (k := 14) (Or.inr rfl) eo18 y hy)
        refine vc_iincE dX6_copyFrom_94 rfl (by omega) (by omega) (by decide) rfl (show _ = [some (aR 1), some (aR 8), some (aI (v2 + 1))] from rfl) ?_
        refine vc_goto dX6_copyFrom_97 ?_
        exact ih77 (sR Mq77 7 v2.toNat o18) (v2 + 1) hB19 (by omega) (by omega) (by omega)
  exact lp77 _ (cpI (cpI (cpI (cpI (cpI M 2 9 0 0 16) 3 10 0 0 64) 4 11 0 0 64) 5 12 0 0 24) 6 13 0 0 72) 0 hB5 (by omega) (by omega) (Nat.lt_succ_self _)

set_option maxRecDepth 4000 in
theorem sfX8_keepStep {l : Launch} {M : Mem} (hB : Box M)    : Call l mdX8_keepStep [aR 15] M (fun q N => q = none ∧ BF fC M N ∧ mI N 1 = mI M 1) := by
  have hB0 : BF fC M M := BF.start hB
  refine Call.of [some (aR 15)] rfl (Nat.le_of_ble_eq_true rfl) rfl ?_
  refine vc_aload_n dX8_keepStep_0 rfl ?_
  refine vc_getR dX8_keepStep_1 flX8_9 (s_15 hB0.1.1) rfl (r_15_0 hB0.1.1) ?_
  refine vc_iconst dX8_keepStep_4 rfl ?_
  refine vc_aload_n dX8_keepStep_5 rfl ?_
  refine vc_getR dX8_keepStep_6 flX8_15 (s_15 hB0.1.1) rfl (r_15_1 hB0.1.1) ?_
  refine vc_bipush dX8_keepStep_9 rfl ?_
  refine vc_aload_n dX8_keepStep_11 rfl ?_
  refine vc_getI dX8_keepStep_12 flX8_28 (s_15 hB0.1.1) rfl ?_
  have k1 : 0 ≤ mI M 15 3 ∧ mI M 15 3 ≤ 29 := b15_3 (M := M) hB0.1
  refine vc_imulE dX8_keepStep_15 (by omega) (by omega) ?_
  refine vc_bipush dX8_keepStep_16 rfl ?_
  refine vc_acopy dX8_keepStep_18 acX8_18 (s_16 hB0.1.1) (s_17 hB0.1.1) (by omega) (by omega) (by omega) (by omega) (by omega) (Nat.le_of_ble_eq_true rfl) ?_
  refine vc_mem (cpI M 17 16 (10 * (mI M 15 3)).toNat 0 10) rfl ?_
  have kp2 : mI (cpI M 17 16 (10 * (mI M 15 3)).toNat 0 10) 1 = mI M 1 := (kp_cp rfl rfl)
  have hB3 : BF fC M (cpI M 17 16 (10 * (mI M 15 3)).toNat 0 10) := BF.C17 hB0 (fun _ => rfl) _ _ _ _
  refine vc_aload_n dX8_keepStep_21 rfl ?_
  refine vc_aload_n dX8_keepStep_22 rfl ?_
  refine vc_getI dX8_keepStep_23 flX8_28 (s_15 hB3.1.1) rfl ?_
  have k4 : 0 ≤ mI (cpI M 17 16 (10 * (mI M 15 3)).toNat 0 10) 15 3 ∧ mI (cpI M 17 16 (10 * (mI M 15 3)).toNat 0 10) 15 3 ≤ 29 := b15_3 (M := (cpI M 17 16 (10 * (mI M 15 3)).toNat 0 10)) hB3.1
  refine vc_iconst dX8_keepStep_26 rfl ?_
  refine vc_iaddE dX8_keepStep_27 (by omega) (by omega) ?_
  refine vc_bipush dX8_keepStep_28 rfl ?_
  refine vc_iremE dX8_keepStep_30 (by omega) (by omega) ?_
  refine vc_nameI (fun x5 ex5 => ?_)
  refine vc_putI dX8_keepStep_31 (plX8_28 _ rfl) (s_15 hB3.1.1) rfl ?_
  have kp6 : mI (sI (cpI M 17 16 (10 * (mI M 15 3)).toNat 0 10) 15 3 x5) 1 = mI M 1 := (kp_sI kp2 rfl)
  have hB7 : BF fC M (sI (cpI M 17 16 (10 * (mI M 15 3)).toNat 0 10) 15 3 x5) := BF.w15_3 hB3 rfl (by omega) (by omega)
  refine vc_aload_n dX8_keepStep_34 rfl ?_
  refine vc_bipush dX8_keepStep_35 rfl ?_
  refine vc_aload_n dX8_keepStep_37 rfl ?_
  refine vc_getI dX8_keepStep_38 flX8_24 (s_15 hB7.1.1) rfl ?_
  have k8 : 0 ≤ mI (sI (cpI M 17 16 (10 * (mI M 15 3)).toNat 0 10) 15 3 x5) 15 2 ∧ mI (sI (cpI M 17 16 (10 * (mI M 15 3)).toNat 0 10) 15 3 x5) 15 2 ≤ 30 := b15_2 (M := (sI (cpI M 17 16 (10 * (mI M 15 3)).toNat 0 10) 15 3 x5)) hB7.1
  refine vc_iconst dX8_keepStep_41 rfl ?_
  refine vc_iaddE dX8_keepStep_42 (by omega) (by omega) ?_
  refine vc_mminI dX8_keepStep_43 lkX8_31 (Nat.le_of_ble_eq_true rfl) (Nat.le_of_ble_eq_true rfl) (Nat.le_of_ble_eq_true rfl) ?_
  have k9 := minZ_bd 30 ((mI (sI (cpI M 17 16 (10 * (mI M 15 3)).toNat 0 10) 15 3 x5) 15 2) + 1)
  refine vc_nameI (fun x10 ex10 => ?_)
  refine vc_putI dX8_keepStep_46 (plX8_24 _ rfl) (s_15 hB7.1.1) rfl ?_
  have kp11 : mI (sI (sI (cpI M 17 16 (10 * (mI M 15 3)).toNat 0 10) 15 3 x5) 15 2 x10) 1 = mI M 1 := (kp_sI kp6 rfl)
  have hB12 : BF fC M (sI (sI (cpI M 17 16 (10 * (mI M 15 3)).toNat 0 10) 15 3 x5) 15 2 x10) := BF.w15_2 hB7 rfl (by omega) (by omega)
  refine vc_vret dX8_keepStep_49 rfl (Nat.le_of_ble_eq_true rfl) (Nat.le_of_ble_eq_true rfl) ?_
  exact ⟨rfl, hB12, kp11⟩

set_option maxRecDepth 4000 in
theorem sfX8_takeBack {l : Launch} {M : Mem} (hB : Box M)    : Call l mdX8_takeBack [aR 15] M (fun q N => ∃ r : Int, q = some (aI r) ∧ BF fC M N) := by
  have hB0 : BF fC M M := BF.start hB
  refine Call.of [some (aR 15)] rfl (Nat.le_of_ble_eq_true rfl) rfl ?_
  refine vc_aload_n dX8_takeBack_0 rfl ?_
  refine vc_getI dX8_takeBack_1 flX8_24 (s_15 hB0.1.1) rfl ?_
  have k1 : 0 ≤ mI M 15 2 ∧ mI M 15 2 ≤ 30 := b15_2 (M := M) hB0.1
  refine vc_if_ne dX8_takeBack_4 (fun h2 => ?_) (fun h2 => ?_)
  · refine vc_aload_n dX8_takeBack_9 rfl ?_
    refine vc_aload_n dX8_takeBack_10 rfl ?_
    refine vc_getI dX8_takeBack_11 flX8_28 (s_15 hB0.1.1) rfl ?_
    have k3 : 0 ≤ mI M 15 3 ∧ mI M 15 3 ≤ 29 := b15_3 (M := M) hB0.1
    refine vc_bipush dX8_takeBack_14 rfl ?_
    refine vc_iaddE dX8_takeBack_16 (by omega) (by omega) ?_
    refine vc_iconst dX8_takeBack_17 rfl ?_
    refine vc_isubE dX8_takeBack_18 (by omega) (by omega) ?_
    refine vc_bipush dX8_takeBack_19 rfl ?_
    refine vc_iremE dX8_takeBack_21 (by omega) (by omega) ?_
    refine vc_putI dX8_takeBack_22 (plX8_28 _ rfl) (s_15 hB0.1.1) rfl ?_
    have hB4 : BF fC M (sI M 15 3 ((((mI M 15 3) + 30) - 1) % 30)) := BF.w15_3 hB0 rfl (by omega) (by omega)
    refine vc_aload_n dX8_takeBack_25 rfl ?_
    refine vc_dup dX8_takeBack_26 rfl ?_
    refine vc_getI dX8_takeBack_27 flX8_24 (s_15 hB4.1.1) rfl ?_
    refine vc_topI (mI M 15 2) rfl ?_
    have k5 : 0 ≤ mI M 15 2 ∧ mI M 15 2 ≤ 30 := b15_2 (M := (sI M 15 3 ((((mI M 15 3) + 30) - 1) % 30))) hB4.1
    refine vc_iconst dX8_takeBack_30 rfl ?_
    refine vc_isubE dX8_takeBack_31 (by omega) (by omega) ?_
    refine vc_putI dX8_takeBack_32 (plX8_24 _ rfl) (s_15 hB4.1.1) rfl ?_
    have hB6 : BF fC M (sI (sI M 15 3 ((((mI M 15 3) + 30) - 1) % 30)) 15 2 ((mI M 15 2) - 1)) := BF.w15_2 hB4 rfl (by omega) (by omega)
    refine vc_aload_n dX8_takeBack_35 rfl ?_
    refine vc_getR dX8_takeBack_36 flX8_15 (s_15 hB6.1.1) rfl (r_15_1 hB6.1.1) ?_
    refine vc_bipush dX8_takeBack_39 rfl ?_
    refine vc_aload_n dX8_takeBack_41 rfl ?_
    refine vc_getI dX8_takeBack_42 flX8_28 (s_15 hB6.1.1) rfl ?_
    refine vc_topI ((((mI M 15 3) + 30) - 1) % 30) rfl ?_
    refine vc_imulE dX8_takeBack_45 (by omega) (by omega) ?_
    refine vc_aload_n dX8_takeBack_46 rfl ?_
    refine vc_getR dX8_takeBack_47 flX8_9 (s_15 hB6.1.1) rfl (r_15_0 hB6.1.1) ?_
    refine vc_iconst dX8_takeBack_50 rfl ?_
    refine vc_bipush dX8_takeBack_51 rfl ?_
    refine vc_acopy dX8_takeBack_53 acX8_18 (s_17 hB6.1.1) (s_16 hB6.1.1) (by omega) (by omega) (by omega) (by omega) (by omega) (Nat.le_of_ble_eq_true rfl) ?_
    refine vc_mem (cpI (sI (sI M 15 3 ((((mI M 15 3) + 30) - 1) % 30)) 15 2 ((mI M 15 2) - 1)) 16 17 0 (10 * ((((mI M 15 3) + 30) - 1) % 30)).toNat 10) rfl ?_
    have hB7 : BF fC M (cpI (sI (sI M 15 3 ((((mI M 15 3) + 30) - 1) % 30)) 15 2 ((mI M 15 2) - 1)) 16 17 0 (10 * ((((mI M 15 3) + 30) - 1) % 30)).toNat 10) := BF.C16 hB6 (fun _ => rfl) _ _ _ _
    refine vc_aload_n dX8_takeBack_56 rfl ?_
    refine vc_getI dX8_takeBack_57 flX8_24 (s_15 hB7.1.1) rfl ?_
    have k8 : 0 ≤ mI (cpI (sI (sI M 15 3 ((((mI M 15 3) + 30) - 1) % 30)) 15 2 ((mI M 15 2) - 1)) 16 17 0 (10 * ((((mI M 15 3) + 30) - 1) % 30)).toNat 10) 15 2 ∧ mI (cpI (sI (sI M 15 3 ((((mI M 15 3) + 30) - 1) % 30)) 15 2 ((mI M 15 2) - 1)) 16 17 0 (10 * ((((mI M 15 3) + 30) - 1) % 30)).toNat 10) 15 2 ≤ 30 := b15_2 (M := (cpI (sI (sI M 15 3 ((((mI M 15 3) + 30) - 1) % 30)) 15 2 ((mI M 15 2) - 1)) 16 17 0 (10 * ((((mI M 15 3) + 30) - 1) % 30)).toNat 10)) hB7.1
    refine vc_iret dX8_takeBack_60 rfl (Nat.le_of_ble_eq_true rfl) (Nat.le_of_ble_eq_true rfl) ?_
    exact ⟨_, rfl, hB7⟩
  · refine vc_iconst dX8_takeBack_7 rfl ?_
    refine vc_iret dX8_takeBack_8 rfl (Nat.le_of_ble_eq_true rfl) (Nat.le_of_ble_eq_true rfl) ?_
    exact ⟨_, rfl, hB0⟩

set_option maxRecDepth 4000 in
theorem sfX8_copyFrom_18 {l : Launch} {M : Mem} (hB : Box M)    : Call l mdX8_copyFrom [aR 18, aR 15] M (fun q N => q = none ∧ BX M N) := by
  have hB0 : BX M M := BX.start hB
  refine Call.of [some (aR 18), some (aR 15)] rfl (Nat.le_of_ble_eq_true rfl) rfl ?_
  refine vc_aload_n dX8_copyFrom_0 rfl ?_
  refine vc_getR dX8_copyFrom_1 flX8_9 (s_15 hB0.1.1) rfl (r_15_0 hB0.1.1) ?_
  refine vc_iconst dX8_copyFrom_4 rfl ?_
  refine vc_aload_n dX8_copyFrom_5 rfl ?_
  refine vc_getR dX8_copyFrom_6 flX8_9 (s_18 hB0.1.1) rfl (r_18_0 hB0.1.1) ?_
  refine vc_iconst dX8_copyFrom_9 rfl ?_
  refine vc_bipush dX8_copyFrom_10 rfl ?_
  refine vc_acopy dX8_copyFrom_12 acX8_18 (s_16 hB0.1.1) (s_19 hB0.1.1) (by omega) (by omega) (by omega) (by omega) (by omega) (Nat.le_of_ble_eq_true rfl) ?_
  refine vc_mem (cpI M 19 16 0 0 10) rfl ?_
  have hB1 : BX M (cpI M 19 16 0 0 10) := BX.C19 hB0 _ _ _ _
  refine vc_aload_n dX8_copyFrom_15 rfl ?_
  refine vc_getR dX8_copyFrom_16 flX8_15 (s_15 hB1.1.1) rfl (r_15_1 hB1.1.1) ?_
  refine vc_iconst dX8_copyFrom_19 rfl ?_
  refine vc_aload_n dX8_copyFrom_20 rfl ?_
  refine vc_getR dX8_copyFrom_21 flX8_15 (s_18 hB1.1.1) rfl (r_18_1 hB1.1.1) ?_
  refine vc_iconst dX8_copyFrom_24 rfl ?_
  refine vc_sipush dX8_copyFrom_25 rfl ?_
  refine vc_acopy dX8_copyFrom_28 acX8_18 (s_17 hB1.1.1) (s_20 hB1.1.1) (by omega) (by omega) (by omega) (by omega) (by omega) (Nat.le_of_ble_eq_true rfl) ?_
  refine vc_mem (cpI (cpI M 19 16 0 0 10) 20 17 0 0 300) rfl ?_
  have hB2 : BX M (cpI (cpI M 19 16 0 0 10) 20 17 0 0 300) := BX.C20 hB1 _ _ _ _
  refine vc_aload_n dX8_copyFrom_31 rfl ?_
  refine vc_aload_n dX8_copyFrom_32 rfl ?_
  refine vc_getI dX8_copyFrom_33 flX8_24 (s_15 hB2.1.1) rfl ?_
  have k3 : 0 ≤ mI (cpI (cpI M 19 16 0 0 10) 20 17 0 0 300) 15 2 ∧ mI (cpI (cpI M 19 16 0 0 10) 20 17 0 0 300) 15 2 ≤ 30 := b15_2 (M := (cpI (cpI M 19 16 0 0 10) 20 17 0 0 300)) hB2.1
  refine vc_putI dX8_copyFrom_36 (plX8_24 _ rfl) (s_18 hB2.1.1) rfl ?_
  have hB4 : BX M (sI (cpI (cpI M 19 16 0 0 10) 20 17 0 0 300) 18 2 (mI (cpI (cpI M 19 16 0 0 10) 20 17 0 0 300) 15 2)) := BX.w18_2 hB2 (by omega) (by omega)
  refine vc_aload_n dX8_copyFrom_39 rfl ?_
  refine vc_aload_n dX8_copyFrom_40 rfl ?_
  refine vc_getI dX8_copyFrom_41 flX8_28 (s_15 hB4.1.1) rfl ?_
  have k5 : 0 ≤ mI (sI (cpI (cpI M 19 16 0 0 10) 20 17 0 0 300) 18 2 (mI (cpI (cpI M 19 16 0 0 10) 20 17 0 0 300) 15 2)) 15 3 ∧ mI (sI (cpI (cpI M 19 16 0 0 10) 20 17 0 0 300) 18 2 (mI (cpI (cpI M 19 16 0 0 10) 20 17 0 0 300) 15 2)) 15 3 ≤ 29 := b15_3 (M := (sI (cpI (cpI M 19 16 0 0 10) 20 17 0 0 300) 18 2 (mI (cpI (cpI M 19 16 0 0 10) 20 17 0 0 300) 15 2))) hB4.1
  refine vc_nameI (fun x6 ex6 => ?_)
  refine vc_putI dX8_copyFrom_44 (plX8_28 _ rfl) (s_18 hB4.1.1) rfl ?_
  have hB7 : BX M (sI (sI (cpI (cpI M 19 16 0 0 10) 20 17 0 0 300) 18 2 (mI (cpI (cpI M 19 16 0 0 10) 20 17 0 0 300) 15 2)) 18 3 x6) := BX.w18_3 hB4 (by omega) (by omega)
  refine vc_vret dX8_copyFrom_47 rfl (Nat.le_of_ble_eq_true rfl) (Nat.le_of_ble_eq_true rfl) ?_
  exact ⟨rfl, hB7⟩

set_option maxRecDepth 4000 in
theorem sfX8_copyFrom_15 {l : Launch} {M : Mem} (hB : Box M)    : Call l mdX8_copyFrom [aR 15, aR 18] M (fun q N => q = none ∧ BX M N) := by
  have hB0 : BX M M := BX.start hB
  refine Call.of [some (aR 15), some (aR 18)] rfl (Nat.le_of_ble_eq_true rfl) rfl ?_
  refine vc_aload_n dX8_copyFrom_0 rfl ?_
  refine vc_getR dX8_copyFrom_1 flX8_9 (s_18 hB0.1.1) rfl (r_18_0 hB0.1.1) ?_
  refine vc_iconst dX8_copyFrom_4 rfl ?_
  refine vc_aload_n dX8_copyFrom_5 rfl ?_
  refine vc_getR dX8_copyFrom_6 flX8_9 (s_15 hB0.1.1) rfl (r_15_0 hB0.1.1) ?_
  refine vc_iconst dX8_copyFrom_9 rfl ?_
  refine vc_bipush dX8_copyFrom_10 rfl ?_
  refine vc_acopy dX8_copyFrom_12 acX8_18 (s_19 hB0.1.1) (s_16 hB0.1.1) (by omega) (by omega) (by omega) (by omega) (by omega) (Nat.le_of_ble_eq_true rfl) ?_
  refine vc_mem (cpI M 16 19 0 0 10) rfl ?_
  have hB1 : BX M (cpI M 16 19 0 0 10) := BX.C16 hB0 _ _ _ _
  refine vc_aload_n dX8_copyFrom_15 rfl ?_
  refine vc_getR dX8_copyFrom_16 flX8_15 (s_18 hB1.1.1) rfl (r_18_1 hB1.1.1) ?_
  refine vc_iconst dX8_copyFrom_19 rfl ?_
  refine vc_aload_n dX8_copyFrom_20 rfl ?_
  refine vc_getR dX8_copyFrom_21 flX8_15 (s_15 hB1.1.1) rfl (r_15_1 hB1.1.1) ?_
  refine vc_iconst dX8_copyFrom_24 rfl ?_
  refine vc_sipush dX8_copyFrom_25 rfl ?_
  refine vc_acopy dX8_copyFrom_28 acX8_18 (s_20 hB1.1.1) (s_17 hB1.1.1) (by omega) (by omega) (by omega) (by omega) (by omega) (Nat.le_of_ble_eq_true rfl) ?_
  refine vc_mem (cpI (cpI M 16 19 0 0 10) 17 20 0 0 300) rfl ?_
  have hB2 : BX M (cpI (cpI M 16 19 0 0 10) 17 20 0 0 300) := BX.C17 hB1 _ _ _ _
  refine vc_aload_n dX8_copyFrom_31 rfl ?_
  refine vc_aload_n dX8_copyFrom_32 rfl ?_
  refine vc_getI dX8_copyFrom_33 flX8_24 (s_18 hB2.1.1) rfl ?_
  have k3 : 0 ≤ mI (cpI (cpI M 16 19 0 0 10) 17 20 0 0 300) 18 2 ∧ mI (cpI (cpI M 16 19 0 0 10) 17 20 0 0 300) 18 2 ≤ 30 := b18_2 (M := (cpI (cpI M 16 19 0 0 10) 17 20 0 0 300)) hB2.1
  refine vc_putI dX8_copyFrom_36 (plX8_24 _ rfl) (s_15 hB2.1.1) rfl ?_
  have hB4 : BX M (sI (cpI (cpI M 16 19 0 0 10) 17 20 0 0 300) 15 2 (mI (cpI (cpI M 16 19 0 0 10) 17 20 0 0 300) 18 2)) := BX.w15_2 hB2 (by omega) (by omega)
  refine vc_aload_n dX8_copyFrom_39 rfl ?_
  refine vc_aload_n dX8_copyFrom_40 rfl ?_
  refine vc_getI dX8_copyFrom_41 flX8_28 (s_18 hB4.1.1) rfl ?_
  have k5 : 0 ≤ mI (sI (cpI (cpI M 16 19 0 0 10) 17 20 0 0 300) 15 2 (mI (cpI (cpI M 16 19 0 0 10) 17 20 0 0 300) 18 2)) 18 3 ∧ mI (sI (cpI (cpI M 16 19 0 0 10) 17 20 0 0 300) 15 2 (mI (cpI (cpI M 16 19 0 0 10) 17 20 0 0 300) 18 2)) 18 3 ≤ 29 := b18_3 (M := (sI (cpI (cpI M 16 19 0 0 10) 17 20 0 0 300) 15 2 (mI (cpI (cpI M 16 19 0 0 10) 17 20 0 0 300) 18 2))) hB4.1
  refine vc_nameI (fun x6 ex6 => ?_)
  refine vc_putI dX8_copyFrom_44 (plX8_28 _ rfl) (s_15 hB4.1.1) rfl ?_
  have hB7 : BX M (sI (sI (cpI (cpI M 16 19 0 0 10) 17 20 0 0 300) 15 2 (mI (cpI (cpI M 16 19 0 0 10) 17 20 0 0 300) 18 2)) 15 3 x6) := BX.w15_3 hB4 (by omega) (by omega)
  refine vc_vret dX8_copyFrom_47 rfl (Nat.le_of_ble_eq_true rfl) (Nat.le_of_ble_eq_true rfl) ?_
  exact ⟨rfl, hB7⟩
