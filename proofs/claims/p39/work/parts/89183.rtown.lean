/-! THE DEEDS of the reference: its town (written by wip/laws2/c10b.py) -/
set_option maxRecDepth 4000 in
theorem sfX12_isInF {l : Launch} {M : Mem} (hB : Box M)  (v : Int) (lo : Int) (hi : Int)  : Call l mdX12_isIn [aI v, aI lo, aI hi] M (fun q N => ∃ r : Int, q = some (aI r) ∧ M = N ∧ 0 ≤ r ∧ r ≤ 1 ∧ ((r = 1 ∧ lo ≤ v ∧ v ≤ hi) ∨ (r = 0 ∧ ¬ (lo ≤ v ∧ v ≤ hi)))) := by
  have hB0 : BF fQ M M := BF.start hB
  refine Call.of [some (aI v), some (aI lo), some (aI hi)] rfl (Nat.le_of_ble_eq_true rfl) rfl ?_
  refine vc_ok (fun hoM hoS hoL => ?_)
  have hr0 : -2147483648 ≤ v ∧ v < 2147483648 := hoL 0 _ rfl
  have hr1 : -2147483648 ≤ lo ∧ lo < 2147483648 := hoL 1 _ rfl
  have hr2 : -2147483648 ≤ hi ∧ hi < 2147483648 := hoL 2 _ rfl
  refine vc_iload_n dX12_isIn_0 rfl ?_
  refine vc_iload_n dX12_isIn_1 rfl ?_
  refine vc_icmp_lt dX12_isIn_2 (fun h1 => ?_) (fun h1 => ?_)
  · refine vc_iconst dX12_isIn_14 rfl ?_
    refine vc_zret dX12_isIn_15 rfl (by first | decide | omega) (Nat.le_of_ble_eq_true rfl) (Nat.le_of_ble_eq_true rfl) ?_
    exact ⟨_, rfl, rfl, by omega, by omega, by omega⟩
  · refine vc_iload_n dX12_isIn_5 rfl ?_
    refine vc_iload_n dX12_isIn_6 rfl ?_
    refine vc_icmp_gt dX12_isIn_7 (fun h2 => ?_) (fun h2 => ?_)
    · refine vc_iconst dX12_isIn_14 rfl ?_
      refine vc_zret dX12_isIn_15 rfl (by first | decide | omega) (Nat.le_of_ble_eq_true rfl) (Nat.le_of_ble_eq_true rfl) ?_
      exact ⟨_, rfl, rfl, by omega, by omega, by omega⟩
    · refine vc_iconst dX12_isIn_10 rfl ?_
      refine vc_goto dX12_isIn_11 ?_
      refine vc_zret dX12_isIn_15 rfl (by first | decide | omega) (Nat.le_of_ble_eq_true rfl) (Nat.le_of_ble_eq_true rfl) ?_
      exact ⟨_, rfl, rfl, by omega, by omega, by omega⟩

set_option maxRecDepth 4000 in
theorem sfX12_isCornerF {l : Launch} {M : Mem} (hB : Box M)  (c : Int)  : Call l mdX12_isCorner [aR 54, aI c] M (fun q N => ∃ r : Int, q = some (aI r) ∧ M = N ∧ 0 ≤ r ∧ r ≤ 1 ∧ ((r = 1 ∧ 0 ≤ c ∧ c < mI M 55 0) ∨ (r = 0 ∧ ¬ (0 ≤ c ∧ c < mI M 55 0))) ∧ (r = 0 ∨ c ≤ 15)) := by
  have hB0 : BF fQ M M := BF.start hB
  refine Call.of [some (aR 54), some (aI c)] rfl (Nat.le_of_ble_eq_true rfl) rfl ?_
  refine vc_ok (fun hoM hoS hoL => ?_)
  have hr1 : -2147483648 ≤ c ∧ c < 2147483648 := hoL 1 _ rfl
  refine vc_iload_n dX12_isCorner_0 rfl ?_
  refine vc_iconst dX12_isCorner_1 rfl ?_
  refine vc_aload_n dX12_isCorner_2 rfl ?_
  refine vc_getR dX12_isCorner_3 flX12_7 (s_54 hB0.1.1) rfl (r_54_0 hB0.1.1) ?_
  refine vc_iconst dX12_isCorner_6 rfl ?_
  refine vc_iaload dX12_isCorner_7 (s_55 hB0.1.1) (by omega) (by omega) ?_
  refine vc_topI (mI M 55 0) rfl ?_
  have k1 : 0 ≤ mI M 55 0 ∧ mI M 55 0 ≤ 16 := b55_0 (M := M) hB0.1
  refine vc_iconst dX12_isCorner_8 rfl ?_
  refine vc_isubE dX12_isCorner_9 (by omega) (by omega) ?_
  refine vc_cSI dX12_isCorner_10 (sfX12_isInF (M := M) hB0.1  c 0 ((mI M 55 0) - 1) ) rfl okX12_isIn stX12_isIn lkX12_83 rfl (Nat.le_of_ble_eq_true rfl) ⟨rfl, rfl⟩ (Nat.le_of_ble_eq_true rfl) (Nat.le_of_ble_eq_true rfl) (Nat.le_of_ble_eq_true rfl) ?_
  rintro x2 _ ⟨rfl, h3, h4, h5⟩
  refine vc_zret dX12_isCorner_13 rfl (by first | decide | omega) (Nat.le_of_ble_eq_true rfl) (Nat.le_of_ble_eq_true rfl) ?_
  exact ⟨_, rfl, rfl, by omega, by omega, by omega, by omega⟩

set_option maxRecDepth 4000 in
theorem sfX12_isTellerF {l : Launch} {M : Mem} (hB : Box M)  (c : Int)  : Call l mdX12_isTeller [aR 54, aI c] M (fun q N => ∃ r : Int, q = some (aI r) ∧ M = N ∧ 0 ≤ r ∧ r ≤ 1 ∧ ((r = 1 ∧ 0 ≤ c ∧ c < mI M 55 2) ∨ (r = 0 ∧ ¬ (0 ≤ c ∧ c < mI M 55 2))) ∧ (r = 0 ∨ c ≤ 5)) := by
  have hB0 : BF fQ M M := BF.start hB
  refine Call.of [some (aR 54), some (aI c)] rfl (Nat.le_of_ble_eq_true rfl) rfl ?_
  refine vc_ok (fun hoM hoS hoL => ?_)
  have hr1 : -2147483648 ≤ c ∧ c < 2147483648 := hoL 1 _ rfl
  refine vc_iload_n dX12_isTeller_0 rfl ?_
  refine vc_iconst dX12_isTeller_1 rfl ?_
  refine vc_aload_n dX12_isTeller_2 rfl ?_
  refine vc_getR dX12_isTeller_3 flX12_7 (s_54 hB0.1.1) rfl (r_54_0 hB0.1.1) ?_
  refine vc_iconst dX12_isTeller_6 rfl ?_
  refine vc_iaload dX12_isTeller_7 (s_55 hB0.1.1) (by omega) (by omega) ?_
  refine vc_topI (mI M 55 2) rfl ?_
  have k1 : 0 ≤ mI M 55 2 ∧ mI M 55 2 ≤ 6 := b55_2 (M := M) hB0.1
  refine vc_iconst dX12_isTeller_8 rfl ?_
  refine vc_isubE dX12_isTeller_9 (by omega) (by omega) ?_
  refine vc_cSI dX12_isTeller_10 (sfX12_isInF (M := M) hB0.1  c 0 ((mI M 55 2) - 1) ) rfl okX12_isIn stX12_isIn lkX12_83 rfl (Nat.le_of_ble_eq_true rfl) ⟨rfl, rfl⟩ (Nat.le_of_ble_eq_true rfl) (Nat.le_of_ble_eq_true rfl) (Nat.le_of_ble_eq_true rfl) ?_
  rintro x2 _ ⟨rfl, h3, h4, h5⟩
  refine vc_zret dX12_isTeller_13 rfl (by first | decide | omega) (Nat.le_of_ble_eq_true rfl) (Nat.le_of_ble_eq_true rfl) ?_
  exact ⟨_, rfl, rfl, by omega, by omega, by omega, by omega⟩

set_option maxRecDepth 4000 in
theorem sfX12_isTellingF {l : Launch} {M : Mem} (hB : Box M)  (c : Int)  : Call l mdX12_isTelling [aR 54, aI c] M (fun q N => ∃ r : Int, q = some (aI r) ∧ M = N ∧ 0 ≤ r ∧ r ≤ 1 ∧ ((r = 1 ∧ 0 ≤ c ∧ c < mI M 55 3) ∨ (r = 0 ∧ ¬ (0 ≤ c ∧ c < mI M 55 3))) ∧ (r = 0 ∨ c ≤ 7)) := by
  have hB0 : BF fQ M M := BF.start hB
  refine Call.of [some (aR 54), some (aI c)] rfl (Nat.le_of_ble_eq_true rfl) rfl ?_
  refine vc_ok (fun hoM hoS hoL => ?_)
  have hr1 : -2147483648 ≤ c ∧ c < 2147483648 := hoL 1 _ rfl
  refine vc_iload_n dX12_isTelling_0 rfl ?_
  refine vc_iconst dX12_isTelling_1 rfl ?_
  refine vc_aload_n dX12_isTelling_2 rfl ?_
  refine vc_getR dX12_isTelling_3 flX12_7 (s_54 hB0.1.1) rfl (r_54_0 hB0.1.1) ?_
  refine vc_iconst dX12_isTelling_6 rfl ?_
  refine vc_iaload dX12_isTelling_7 (s_55 hB0.1.1) (by omega) (by omega) ?_
  refine vc_topI (mI M 55 3) rfl ?_
  have k1 : 0 ≤ mI M 55 3 ∧ mI M 55 3 ≤ 8 := b55_3 (M := M) hB0.1
  refine vc_iconst dX12_isTelling_8 rfl ?_
  refine vc_isubE dX12_isTelling_9 (by omega) (by omega) ?_
  refine vc_cSI dX12_isTelling_10 (sfX12_isInF (M := M) hB0.1  c 0 ((mI M 55 3) - 1) ) rfl okX12_isIn stX12_isIn lkX12_83 rfl (Nat.le_of_ble_eq_true rfl) ⟨rfl, rfl⟩ (Nat.le_of_ble_eq_true rfl) (Nat.le_of_ble_eq_true rfl) (Nat.le_of_ble_eq_true rfl) ?_
  rintro x2 _ ⟨rfl, h3, h4, h5⟩
  refine vc_zret dX12_isTelling_13 rfl (by first | decide | omega) (Nat.le_of_ble_eq_true rfl) (Nat.le_of_ble_eq_true rfl) ?_
  exact ⟨_, rfl, rfl, by omega, by omega, by omega, by omega⟩

set_option maxRecDepth 4000 in
theorem sfX12_sightOfF {l : Launch} {M : Mem} (hB : Box M)  (c : Int) (p0 : 0 ≤ c) (p1 : c ≤ 15) : Call l mdX12_sightOf [aR 54, aI c] M (fun q N => ∃ r : Int, q = some (aI r) ∧ M = N ∧ r = mI M 55 (10 + 9 * c).toNat) := by
  have hB0 : BF fQ M M := BF.start hB
  refine Call.of [some (aR 54), some (aI c)] rfl (Nat.le_of_ble_eq_true rfl) rfl ?_
  refine vc_aload_n dX12_sightOf_0 rfl ?_
  refine vc_getR dX12_sightOf_1 flX12_7 (s_54 hB0.1.1) rfl (r_54_0 hB0.1.1) ?_
  refine vc_bipush dX12_sightOf_4 rfl ?_
  refine vc_bipush dX12_sightOf_6 rfl ?_
  refine vc_iload_n dX12_sightOf_8 rfl ?_
  refine vc_imulE dX12_sightOf_9 (by omega) (by omega) ?_
  refine vc_iaddE dX12_sightOf_10 (by omega) (by omega) ?_
  refine vc_iaload dX12_sightOf_11 (s_55 hB0.1.1) (by omega) (by omega) ?_
  refine vc_iret dX12_sightOf_12 rfl (Nat.le_of_ble_eq_true rfl) (Nat.le_of_ble_eq_true rfl) ?_
  exact ⟨_, rfl, rfl, by rfl⟩

set_option maxRecDepth 4000 in
theorem sfX12_streetOfF {l : Launch} {M : Mem} (hB : Box M)  (c : Int) (d : Int) (p0 : 0 ≤ c) (p1 : c ≤ 15) (p2 : 0 ≤ d) (p3 : d ≤ 3) : Call l mdX12_streetOf [aR 54, aI c, aI d] M (fun q N => ∃ r : Int, q = some (aI r) ∧ M = N ∧ (-1) ≤ r ∧ r ≤ 15 ∧ r = mI M 55 (10 + 9 * c + 1 + d).toNat) := by
  have hB0 : BF fQ M M := BF.start hB
  refine Call.of [some (aR 54), some (aI c), some (aI d)] rfl (Nat.le_of_ble_eq_true rfl) rfl ?_
  refine vc_aload_n dX12_streetOf_0 rfl ?_
  refine vc_getR dX12_streetOf_1 flX12_7 (s_54 hB0.1.1) rfl (r_54_0 hB0.1.1) ?_
  refine vc_bipush dX12_streetOf_4 rfl ?_
  refine vc_bipush dX12_streetOf_6 rfl ?_
  refine vc_iload_n dX12_streetOf_8 rfl ?_
  refine vc_imulE dX12_streetOf_9 (by omega) (by omega) ?_
  refine vc_iaddE dX12_streetOf_10 (by omega) (by omega) ?_
  refine vc_iconst dX12_streetOf_11 rfl ?_
  refine vc_iaddE dX12_streetOf_12 (by omega) (by omega) ?_
  refine vc_iload_n dX12_streetOf_13 rfl ?_
  refine vc_iaddE dX12_streetOf_14 (by omega) (by omega) ?_
  refine vc_iaload dX12_streetOf_15 (s_55 hB0.1.1) (by omega) (by omega) ?_
  have k1 : (-1) ≤ mI M 55 ((((10 + (9 * c)) + 1) + d).toNat) ∧ mI M 55 ((((10 + (9 * c)) + 1) + d).toNat) ≤ 15 := ba_st (M := M) hB0.1 (x := ((10 + (9 * c)) + 1) + d) (by omega) (by omega) ⟨by omega, by omega⟩
  refine vc_iret dX12_streetOf_16 rfl (Nat.le_of_ble_eq_true rfl) (Nat.le_of_ble_eq_true rfl) ?_
  exact ⟨_, rfl, rfl, by omega, by omega, by rfl⟩

set_option maxRecDepth 4000 in
theorem sfX12_isLaneF {l : Launch} {M : Mem} (hB : Box M)  (c : Int) (d : Int) (p0 : 0 ≤ c) (p1 : c ≤ 15) (p2 : 0 ≤ d) (p3 : d ≤ 3) : Call l mdX12_isLane [aR 54, aI c, aI d] M (fun q N => ∃ r : Int, q = some (aI r) ∧ M = N ∧ 0 ≤ r ∧ r ≤ 1 ∧ ((r = 1 ∧ mI M 55 (10 + 9 * c + 5 + d).toNat = 1) ∨ (r = 0 ∧ ¬ (mI M 55 (10 + 9 * c + 5 + d).toNat = 1)))) := by
  have hB0 : BF fQ M M := BF.start hB
  refine Call.of [some (aR 54), some (aI c), some (aI d)] rfl (Nat.le_of_ble_eq_true rfl) rfl ?_
  refine vc_aload_n dX12_isLane_0 rfl ?_
  refine vc_getR dX12_isLane_1 flX12_7 (s_54 hB0.1.1) rfl (r_54_0 hB0.1.1) ?_
  refine vc_bipush dX12_isLane_4 rfl ?_
  refine vc_bipush dX12_isLane_6 rfl ?_
  refine vc_iload_n dX12_isLane_8 rfl ?_
  refine vc_imulE dX12_isLane_9 (by omega) (by omega) ?_
  refine vc_iaddE dX12_isLane_10 (by omega) (by omega) ?_
  refine vc_iconst dX12_isLane_11 rfl ?_
  refine vc_iaddE dX12_isLane_12 (by omega) (by omega) ?_
  refine vc_iload_n dX12_isLane_13 rfl ?_
  refine vc_iaddE dX12_isLane_14 (by omega) (by omega) ?_
  refine vc_iaload dX12_isLane_15 (s_55 hB0.1.1) (by omega) (by omega) ?_
  refine vc_iconst dX12_isLane_16 rfl ?_
  refine vc_icmp_ne dX12_isLane_17 (fun h1 => ?_) (fun h1 => ?_)
  · refine vc_iconst dX12_isLane_24 rfl ?_
    refine vc_zret dX12_isLane_25 rfl (by first | decide | omega) (Nat.le_of_ble_eq_true rfl) (Nat.le_of_ble_eq_true rfl) ?_
    exact ⟨_, rfl, rfl, by omega, by omega, by omega⟩
  · refine vc_iconst dX12_isLane_20 rfl ?_
    refine vc_goto dX12_isLane_21 ?_
    refine vc_zret dX12_isLane_25 rfl (by first | decide | omega) (Nat.le_of_ble_eq_true rfl) (Nat.le_of_ble_eq_true rfl) ?_
    exact ⟨_, rfl, rfl, by omega, by omega, by omega⟩

set_option maxRecDepth 4000 in
theorem sfX12_tellerOfF {l : Launch} {M : Mem} (hB : Box M)  (t : Int) (p0 : 0 ≤ t) (p1 : t ≤ 7) : Call l mdX12_tellerOf [aR 54, aI t] M (fun q N => ∃ r : Int, q = some (aI r) ∧ M = N ∧ 0 ≤ r ∧ r ≤ 5 ∧ r = mI M 55 (184 + 9 * t).toNat) := by
  have hB0 : BF fQ M M := BF.start hB
  refine Call.of [some (aR 54), some (aI t)] rfl (Nat.le_of_ble_eq_true rfl) rfl ?_
  refine vc_aload_n dX12_tellerOf_0 rfl ?_
  refine vc_getR dX12_tellerOf_1 flX12_7 (s_54 hB0.1.1) rfl (r_54_0 hB0.1.1) ?_
  refine vc_sipush dX12_tellerOf_4 rfl ?_
  refine vc_bipush dX12_tellerOf_7 rfl ?_
  refine vc_iload_n dX12_tellerOf_9 rfl ?_
  refine vc_imulE dX12_tellerOf_10 (by omega) (by omega) ?_
  refine vc_iaddE dX12_tellerOf_11 (by omega) (by omega) ?_
  refine vc_iaload dX12_tellerOf_12 (s_55 hB0.1.1) (by omega) (by omega) ?_
  have k1 : 0 ≤ mI M 55 ((184 + (9 * t)).toNat) ∧ mI M 55 ((184 + (9 * t)).toNat) ≤ 5 := ba_t0 (M := M) hB0.1 (x := 184 + (9 * t)) (by omega) (by omega) (by omega)
  refine vc_iret dX12_tellerOf_13 rfl (Nat.le_of_ble_eq_true rfl) (Nat.le_of_ble_eq_true rfl) ?_
  exact ⟨_, rfl, rfl, by omega, by omega, by rfl⟩

set_option maxRecDepth 4000 in
theorem sfX12_facingOfF {l : Launch} {M : Mem} (hB : Box M)  (t : Int) (p0 : 0 ≤ t) (p1 : t ≤ 7) : Call l mdX12_facingOf [aR 54, aI t] M (fun q N => ∃ r : Int, q = some (aI r) ∧ M = N ∧ 0 ≤ r ∧ r ≤ 3 ∧ r = mI M 55 (184 + 9 * t + 1).toNat) := by
  have hB0 : BF fQ M M := BF.start hB
  refine Call.of [some (aR 54), some (aI t)] rfl (Nat.le_of_ble_eq_true rfl) rfl ?_
  refine vc_aload_n dX12_facingOf_0 rfl ?_
  refine vc_getR dX12_facingOf_1 flX12_7 (s_54 hB0.1.1) rfl (r_54_0 hB0.1.1) ?_
  refine vc_sipush dX12_facingOf_4 rfl ?_
  refine vc_bipush dX12_facingOf_7 rfl ?_
  refine vc_iload_n dX12_facingOf_9 rfl ?_
  refine vc_imulE dX12_facingOf_10 (by omega) (by omega) ?_
  refine vc_iaddE dX12_facingOf_11 (by omega) (by omega) ?_
  refine vc_iconst dX12_facingOf_12 rfl ?_
  refine vc_iaddE dX12_facingOf_13 (by omega) (by omega) ?_
  refine vc_iaload dX12_facingOf_14 (s_55 hB0.1.1) (by omega) (by omega) ?_
  have k1 : 0 ≤ mI M 55 (((184 + (9 * t)) + 1).toNat) ∧ mI M 55 (((184 + (9 * t)) + 1).toNat) ≤ 3 := ba_t1 (M := M) hB0.1 (x := (184 + (9 * t)) + 1) (by omega) (by omega) (by omega)
  refine vc_iret dX12_facingOf_15 rfl (Nat.le_of_ble_eq_true rfl) (Nat.le_of_ble_eq_true rfl) ?_
  exact ⟨_, rfl, rfl, by omega, by omega, by rfl⟩

set_option maxRecDepth 4000 in
theorem sfX12_turnsOfF {l : Launch} {M : Mem} (hB : Box M)  (t : Int) (p0 : 0 ≤ t) (p1 : t ≤ 7) : Call l mdX12_turnsOf [aR 54, aI t] M (fun q N => ∃ r : Int, q = some (aI r) ∧ M = N ∧ 0 ≤ r ∧ r ≤ 6 ∧ r = mI M 55 (184 + 9 * t + 2).toNat) := by
  have hB0 : BF fQ M M := BF.start hB
  refine Call.of [some (aR 54), some (aI t)] rfl (Nat.le_of_ble_eq_true rfl) rfl ?_
  refine vc_aload_n dX12_turnsOf_0 rfl ?_
  refine vc_getR dX12_turnsOf_1 flX12_7 (s_54 hB0.1.1) rfl (r_54_0 hB0.1.1) ?_
  refine vc_sipush dX12_turnsOf_4 rfl ?_
  refine vc_bipush dX12_turnsOf_7 rfl ?_
  refine vc_iload_n dX12_turnsOf_9 rfl ?_
  refine vc_imulE dX12_turnsOf_10 (by omega) (by omega) ?_
  refine vc_iaddE dX12_turnsOf_11 (by omega) (by omega) ?_
  refine vc_iconst dX12_turnsOf_12 rfl ?_
  refine vc_iaddE dX12_turnsOf_13 (by omega) (by omega) ?_
  refine vc_iaload dX12_turnsOf_14 (s_55 hB0.1.1) (by omega) (by omega) ?_
  have k1 : 0 ≤ mI M 55 (((184 + (9 * t)) + 2).toNat) ∧ mI M 55 (((184 + (9 * t)) + 2).toNat) ≤ 6 := ba_t2 (M := M) hB0.1 (x := (184 + (9 * t)) + 2) (by omega) (by omega) (by omega)
  refine vc_iret dX12_turnsOf_15 rfl (Nat.le_of_ble_eq_true rfl) (Nat.le_of_ble_eq_true rfl) ?_
  exact ⟨_, rfl, rfl, by omega, by omega, by rfl⟩

set_option maxRecDepth 4000 in
theorem sfX12_turnAtF {l : Launch} {M : Mem} (hB : Box M)  (t : Int) (k : Int) (p0 : 0 ≤ t) (p1 : t ≤ 7) (p2 : 0 ≤ k) (p3 : k ≤ 5) : Call l mdX12_turnAt [aR 54, aI t, aI k] M (fun q N => ∃ r : Int, q = some (aI r) ∧ M = N ∧ r = mI M 55 (184 + 9 * t + 3 + k).toNat) := by
  have hB0 : BF fQ M M := BF.start hB
  refine Call.of [some (aR 54), some (aI t), some (aI k)] rfl (Nat.le_of_ble_eq_true rfl) rfl ?_
  refine vc_aload_n dX12_turnAt_0 rfl ?_
  refine vc_getR dX12_turnAt_1 flX12_7 (s_54 hB0.1.1) rfl (r_54_0 hB0.1.1) ?_
  refine vc_sipush dX12_turnAt_4 rfl ?_
  refine vc_bipush dX12_turnAt_7 rfl ?_
  refine vc_iload_n dX12_turnAt_9 rfl ?_
  refine vc_imulE dX12_turnAt_10 (by omega) (by omega) ?_
  refine vc_iaddE dX12_turnAt_11 (by omega) (by omega) ?_
  refine vc_iconst dX12_turnAt_12 rfl ?_
  refine vc_iaddE dX12_turnAt_13 (by omega) (by omega) ?_
  refine vc_iload_n dX12_turnAt_14 rfl ?_
  refine vc_iaddE dX12_turnAt_15 (by omega) (by omega) ?_
  refine vc_iaload dX12_turnAt_16 (s_55 hB0.1.1) (by omega) (by omega) ?_
  refine vc_iret dX12_turnAt_17 rfl (Nat.le_of_ble_eq_true rfl) (Nat.le_of_ble_eq_true rfl) ?_
  exact ⟨_, rfl, rfl, by rfl⟩

set_option maxRecDepth 4000 in
theorem sfX12_cornerOfF {l : Launch} {M : Mem} (hB : Box M)  (t : Int) (p0 : 0 ≤ t) (p1 : t ≤ 5) : Call l mdX12_cornerOf [aR 54, aI t] M (fun q N => ∃ r : Int, q = some (aI r) ∧ M = N ∧ 0 ≤ r ∧ r ≤ 15 ∧ r = mI M 55 (154 + 5 * t).toNat) := by
  have hB0 : BF fQ M M := BF.start hB
  refine Call.of [some (aR 54), some (aI t)] rfl (Nat.le_of_ble_eq_true rfl) rfl ?_
  refine vc_aload_n dX12_cornerOf_0 rfl ?_
  refine vc_getR dX12_cornerOf_1 flX12_7 (s_54 hB0.1.1) rfl (r_54_0 hB0.1.1) ?_
  refine vc_sipush dX12_cornerOf_4 rfl ?_
  refine vc_iconst dX12_cornerOf_7 rfl ?_
  refine vc_iload_n dX12_cornerOf_8 rfl ?_
  refine vc_imulE dX12_cornerOf_9 (by omega) (by omega) ?_
  refine vc_iaddE dX12_cornerOf_10 (by omega) (by omega) ?_
  refine vc_iaload dX12_cornerOf_11 (s_55 hB0.1.1) (by omega) (by omega) ?_
  have k1 : 0 ≤ mI M 55 ((154 + (5 * t)).toNat) ∧ mI M 55 ((154 + (5 * t)).toNat) ≤ 15 := ba_tc (M := M) hB0.1 (x := 154 + (5 * t)) (by omega) (by omega) (by omega)
  refine vc_iret dX12_cornerOf_12 rfl (Nat.le_of_ble_eq_true rfl) (Nat.le_of_ble_eq_true rfl) ?_
  exact ⟨_, rfl, rfl, by omega, by omega, by rfl⟩

set_option maxRecDepth 4000 in
theorem sfX12_cornerF {l : Launch} {M : Mem} (hB : Box M)  (s : Int)  : Call l mdX12_corner [aR 54, aI s] M (fun q N => ∃ r : Int, q = some (aI r) ∧ BF fR M N ∧ mI N 57 = mI M 57 ∧ (∀ (S S' : Sw) (r9 : Int), AR (mI M 55) S → CornerS s S S' r9 → r = r9 ∧ AR (mI N 55) S')) := by
  have hB0 : BF fR M M := BF.start hB
  refine Call.of [some (aR 54), some (aI s), none, none] rfl (Nat.le_of_ble_eq_true rfl) rfl ?_
  refine vc_ok (fun hoM hoS hoL => ?_)
  have hr1 : -2147483648 ≤ s ∧ s < 2147483648 := hoL 1 _ rfl
  refine vc_iload_n dX12_corner_0 rfl ?_
  refine vc_iconst dX12_corner_1 rfl ?_
  refine vc_iconst dX12_corner_2 rfl ?_
  refine vc_cSI dX12_corner_3 (sfX12_isInF (M := M) hB0.1  s 0 5 ) rfl okX12_isIn stX12_isIn lkX12_83 rfl (Nat.le_of_ble_eq_true rfl) ⟨rfl, rfl⟩ (Nat.le_of_ble_eq_true rfl) (Nat.le_of_ble_eq_true rfl) (Nat.le_of_ble_eq_true rfl) ?_
  rintro x1 _ ⟨rfl, h2, h3, h4⟩
  refine vc_if_eq dX12_corner_6 (fun h5 => ?_) (fun h5 => ?_)
  · refine vc_iconst dX12_corner_20 rfl ?_
    refine vc_iret dX12_corner_21 rfl (Nat.le_of_ble_eq_true rfl) (Nat.le_of_ble_eq_true rfl) ?_
    refine ⟨_, rfl, hB0, rfl, fun S S' r9 hA hC => ?_⟩
    have c0 := hA.1.1.1
    rcases hC with ⟨hc, e1, e2⟩ | ⟨hc, e1, e2⟩
    · exfalso; omega
    · rw [e2]; exact ⟨by omega, hA⟩
  · refine vc_aload_n dX12_corner_9 rfl ?_
    refine vc_getR dX12_corner_10 flX12_7 (s_54 hB0.1.1) rfl (r_54_0 hB0.1.1) ?_
    refine vc_iconst dX12_corner_13 rfl ?_
    refine vc_iaload dX12_corner_14 (s_55 hB0.1.1) (by omega) (by omega) ?_
    refine vc_topI (mI M 55 0) rfl ?_
    have k6 : 0 ≤ mI M 55 0 ∧ mI M 55 0 ≤ 16 := b55_0 (M := M) hB0.1
    refine vc_bipush dX12_corner_15 rfl ?_
    refine vc_icmp_ne dX12_corner_17 (fun h7 => ?_) (fun h7 => ?_)
    · refine vc_bipush dX12_corner_22 rfl ?_
      refine vc_bipush dX12_corner_24 rfl ?_
      refine vc_aload_n dX12_corner_26 rfl ?_
      refine vc_getR dX12_corner_27 flX12_7 (s_54 hB0.1.1) rfl (r_54_0 hB0.1.1) ?_
      refine vc_iconst dX12_corner_30 rfl ?_
      refine vc_iaload dX12_corner_31 (s_55 hB0.1.1) (by omega) (by omega) ?_
      refine vc_topI (mI M 55 0) rfl ?_
      refine vc_imulE dX12_corner_32 (by omega) (by omega) ?_
      refine vc_iaddE dX12_corner_33 (by omega) (by omega) ?_
      refine vc_nameI (fun x8 ex8 => ?_)
      refine vc_istore_n dX12_corner_34 (by decide) rfl (show _ = [some (aR 54), some (aI s), some (aI x8), none] from rfl) ?_
      refine vc_aload_n dX12_corner_35 rfl ?_
      refine vc_getR dX12_corner_36 flX12_7 (s_54 hB0.1.1) rfl (r_54_0 hB0.1.1) ?_
      refine vc_iload_n dX12_corner_39 rfl ?_
      refine vc_iload_n dX12_corner_40 rfl ?_
      refine vc_iastore dX12_corner_41 (s_55 hB0.1.1) (by omega) (by omega) ?_
      have kp9 : mI (sI M 55 x8.toNat s) 57 = mI M 57 := (kp_sI rfl rfl)
      have hB10 : BF fR M (sI M 55 x8.toNat s) := BF.a (x := x8) hB0 (by omega) (by omega) (by unfold aB; refine ⟨?_, ?_, ?_, ?_, ?_, ?_, ?_, ?_, ?_, ?_, ?_, ?_, ?_, ?_, ?_, ?_, ?_, ?_⟩ <;> intros <;> omega) (by omega) (by omega) (by omega) (by omega) (by omega) (by omega) fR_55
      refine vc_iconst dX12_corner_42 rfl ?_
      refine vc_istore_n dX12_corner_43 (by decide) rfl (show _ = [some (aR 54), some (aI s), some (aI x8), some (aI 0)] from rfl) ?_
      have lp44 : ∀ (n44 : Nat) (Mq44 : Mem) (v3 : Int), (BF fR M Mq44) → (mI Mq44 57 = mI M 57) → (0 ≤ v3) → (v3 ≤ 4) → (mI Mq44 55 0 = mI M 55 0) → (∀ q : Nat, (q : Int) < v3 → mI Mq44 55 (10 + 9 * (mI M 55 0).toNat + 1 + q) = -1) → (∀ q : Nat, (q : Int) < v3 → mI Mq44 55 (10 + 9 * (mI M 55 0).toNat + 5 + q) = -1) → (mI Mq44 55 (10 + 9 * (mI M 55 0).toNat) = s) → (∀ j : Nat, ¬ (10 + 9 * (mI M 55 0).toNat ≤ j ∧ j < 10 + 9 * (mI M 55 0).toNat + 9) → mI Mq44 55 j = mI M 55 j) → (4 - v3).toNat < n44 → VC l mdX12_corner 44 [some (aR 54), none, some (aI x8), some (aI v3)] [] Mq44 0 0 (fun q N => ∃ r : Int, q = some (aI r) ∧ BF fR M N ∧ mI N 57 = mI M 57 ∧ (∀ (S S' : Sw) (r9 : Int), AR (mI M 55) S → CornerS s S S' r9 → r = r9 ∧ AR (mI N 55) S')) := by
        intro n44
        induction n44 with
        | zero => intro Mq44 v3 hQ44 kp44_57 g44_3a g44_3b g44i0 g44i1 g44i2 g44i3 g44i4 hm44; exact absurd hm44 (Nat.not_lt_zero _)
        | succ n44 ih44 =>
          intro Mq44 v3 hQ44 kp44_57 g44_3a g44_3b g44i0 g44i1 g44i2 g44i3 g44i4 hm44
          refine vc_iload_n dX12_corner_44 rfl ?_
          refine vc_iconst dX12_corner_45 rfl ?_
          refine vc_icmp_ge dX12_corner_46 (fun h11 => ?_) (fun h11 => ?_)
          · refine vc_aload_n dX12_corner_77 rfl ?_
            refine vc_getR dX12_corner_78 flX12_7 (s_54 hQ44.1.1) rfl (r_54_0 hQ44.1.1) ?_
            refine vc_iconst dX12_corner_81 rfl ?_
            refine vc_dup2 dX12_corner_82 rfl rfl ?_
            refine vc_iaload dX12_corner_83 (s_55 hQ44.1.1) (by omega) (by omega) ?_
            refine vc_topI (mI Mq44 55 0) rfl ?_
            have k12 : 0 ≤ mI Mq44 55 0 ∧ mI Mq44 55 0 ≤ 16 := b55_0 (M := Mq44) hQ44.1
            refine vc_iconst dX12_corner_84 rfl ?_
            refine vc_iaddE dX12_corner_85 (by omega) (by omega) ?_
            refine vc_iastore dX12_corner_86 (s_55 hQ44.1.1) (by omega) (by omega) ?_
            refine vc_mem (sI Mq44 55 0 ((mI Mq44 55 0) + 1)) rfl ?_
            have kp13 : mI (sI Mq44 55 0 ((mI Mq44 55 0) + 1)) 57 = mI M 57 := (kp_sI kp44_57 rfl)
            have hB14 : BF fR M (sI Mq44 55 0 ((mI Mq44 55 0) + 1)) := BF.a0 hQ44 (by omega) (by omega) (fun d hd => by have q := g44i1 d (by omega); rw [g44i0]; omega)
            refine vc_aload_n dX12_corner_87 rfl ?_
            refine vc_getR dX12_corner_88 flX12_7 (s_54 hB14.1.1) rfl (r_54_0 hB14.1.1) ?_
            refine vc_iconst dX12_corner_91 rfl ?_
            refine vc_iaload dX12_corner_92 (s_55 hB14.1.1) (by omega) (by omega) ?_
            refine vc_topI ((mI Mq44 55 0) + 1) rfl ?_
            refine vc_iconst dX12_corner_93 rfl ?_
            refine vc_isubE dX12_corner_94 (by omega) (by omega) ?_
            refine vc_iret dX12_corner_95 rfl (Nat.le_of_ble_eq_true rfl) (Nat.le_of_ble_eq_true rfl) ?_
            refine ⟨_, rfl, hB14, kp13, fun S S' r9 hA hC => ?_⟩
            have c0 := hA.1.1.1
            rcases hC with ⟨hc, e1, e2⟩ | ⟨hc, e1, e2⟩
            · have z0 : mI (sI Mq44 55 0 ((mI Mq44 55 0) + 1)) 55 0 = mI M 55 0 + 1 := by rw [mI_same]; omega
              rw [e2]
              refine ⟨by omega, AR_corner hA (by omega) (by rw [← c0]; exact z0) ?_ (fun d hd => ?_) (fun j j0 j1 => ?_)⟩
              · rw [← c0, mI_sI, if_neg (by omega)]; exact g44i3
              · rw [← c0, mI_sI, if_neg (by omega), mI_sI, if_neg (by omega)]; exact ⟨g44i1 d (by omega), g44i2 d (by omega)⟩
              · rw [← c0] at j1; rw [mI_sI, if_neg (by omega)]; exact g44i4 j (by omega)
            · exfalso; omega
          · refine vc_aload_n dX12_corner_49 rfl ?_
            refine vc_getR dX12_corner_50 flX12_7 (s_54 hQ44.1.1) rfl (r_54_0 hQ44.1.1) ?_
            refine vc_iload_n dX12_corner_53 rfl ?_
            refine vc_iconst dX12_corner_54 rfl ?_
            refine vc_iaddE dX12_corner_55 (by omega) (by omega) ?_
            refine vc_iload_n dX12_corner_56 rfl ?_
            refine vc_iaddE dX12_corner_57 (by omega) (by omega) ?_
            refine vc_iconst dX12_corner_58 rfl ?_
            refine vc_iastore dX12_corner_59 (s_55 hQ44.1.1) (by omega) (by omega) ?_
            have kp15 : mI (sI Mq44 55 (((x8 + 1) + v3).toNat) (-1)) 57 = mI M 57 := (kp_sI kp44_57 rfl)
            have hB16 : BF fR M (sI Mq44 55 (((x8 + 1) + v3).toNat) (-1)) := BF.aS (x := (x8 + 1) + v3) hQ44 (by omega) (by omega) ⟨by omega, by omega⟩ (by omega) (by omega) (by omega)
            refine vc_aload_n dX12_corner_60 rfl ?_
            refine vc_getR dX12_corner_61 flX12_7 (s_54 hB16.1.1) rfl (r_54_0 hB16.1.1) ?_
            refine vc_iload_n dX12_corner_64 rfl ?_
            refine vc_iconst dX12_corner_65 rfl ?_
            refine vc_iaddE dX12_corner_66 (by omega) (by omega) ?_
            refine vc_iload_n dX12_corner_67 rfl ?_
            refine vc_iaddE dX12_corner_68 (by omega) (by omega) ?_
            refine vc_iconst dX12_corner_69 rfl ?_
            refine vc_iastore dX12_corner_70 (s_55 hB16.1.1) (by omega) (by omega) ?_
            have kp17 : mI (sI (sI Mq44 55 (((x8 + 1) + v3).toNat) (-1)) 55 (((x8 + 5) + v3).toNat) (-1)) 57 = mI M 57 := (kp_sI kp15 rfl)
            have hB18 : BF fR M (sI (sI Mq44 55 (((x8 + 1) + v3).toNat) (-1)) 55 (((x8 + 5) + v3).toNat) (-1)) := BF.a (x := (x8 + 5) + v3) hB16 (by omega) (by omega) (by unfold aB; refine ⟨?_, ?_, ?_, ?_, ?_, ?_, ?_, ?_, ?_, ?_, ?_, ?_, ?_, ?_, ?_, ?_, ?_, ?_⟩ <;> intros <;> omega) (by omega) (by omega) (by omega) (by omega) (by omega) (by omega) fR_55
            refine vc_iincE dX12_corner_71 rfl (by omega) (by omega) (by decide) rfl (show _ = [some (aR 54), none, some (aI x8), some (aI (v3 + 1))] from rfl) ?_
            refine vc_goto dX12_corner_74 ?_
            exact ih44 (sI (sI Mq44 55 (((x8 + 1) + v3).toNat) (-1)) 55 (((x8 + 5) + v3).toNat) (-1)) (v3 + 1) hB18 kp17 (by omega) (by omega) (by (repeat rw [mI_sI, if_neg (by omega)]); try omega) (by first | (intro q hq; exfalso; omega) | (intro q hq; by_cases hq2 : q = v3.toNat; (first | (rw [mI_sI, if_neg (by omega), mI_sI, if_pos (by omega)]) | (rw [mI_sI, if_pos (by omega)])); (rw [mI_sI, if_neg (by omega), mI_sI, if_neg (by omega)]; exact g44i1 q (by omega)))) (by first | (intro q hq; exfalso; omega) | (intro q hq; by_cases hq2 : q = v3.toNat; (first | (rw [mI_sI, if_neg (by omega), mI_sI, if_pos (by omega)]) | (rw [mI_sI, if_pos (by omega)])); (rw [mI_sI, if_neg (by omega), mI_sI, if_neg (by omega)]; exact g44i2 q (by omega)))) (by first | (rw [mI_sI, if_pos (by omega)]) | (rw [mI_sI, if_neg (by omega), mI_sI, if_neg (by omega)]; exact g44i3)) (by first | (intro j hj; rw [mI_sI, if_neg (by omega), mI_sI, if_neg (by omega)]; exact g44i4 j hj) | (intro j hj; rw [mI_sI, if_neg (by omega)])) (by omega)
      refine vc_less [some (aR 54), none, some (aI x8), some (aI 0)] (lessL_keep (lessL_drop (lessL_keep (lessL_keep (lessL_nil))))) ?_
      exact lp44 _ (sI M 55 x8.toNat s) 0 hB10 kp9 (by omega) (by omega) (by (repeat rw [mI_sI, if_neg (by omega)]); try omega) (by first | (intro q hq; exfalso; omega) | (intro q hq; by_cases hq2 : q = v3.toNat; (first | (rw [mI_sI, if_neg (by omega), mI_sI, if_pos (by omega)]) | (rw [mI_sI, if_pos (by omega)])); (rw [mI_sI, if_neg (by omega), mI_sI, if_neg (by omega)]; exact g44i1 q (by omega)))) (by first | (intro q hq; exfalso; omega) | (intro q hq; by_cases hq2 : q = v3.toNat; (first | (rw [mI_sI, if_neg (by omega), mI_sI, if_pos (by omega)]) | (rw [mI_sI, if_pos (by omega)])); (rw [mI_sI, if_neg (by omega), mI_sI, if_neg (by omega)]; exact g44i2 q (by omega)))) (by first | (rw [mI_sI, if_pos (by omega)]) | (rw [mI_sI, if_neg (by omega), mI_sI, if_neg (by omega)]; exact g44i3)) (by first | (intro j hj; rw [mI_sI, if_neg (by omega), mI_sI, if_neg (by omega)]; exact g44i4 j hj) | (intro j hj; rw [mI_sI, if_neg (by omega)])) (Nat.lt_succ_self _)
    · refine vc_iconst dX12_corner_20 rfl ?_
      refine vc_iret dX12_corner_21 rfl (Nat.le_of_ble_eq_true rfl) (Nat.le_of_ble_eq_true rfl) ?_
      refine ⟨_, rfl, hB0, rfl, fun S S' r9 hA hC => ?_⟩
      have c0 := hA.1.1.1
      rcases hC with ⟨hc, e1, e2⟩ | ⟨hc, e1, e2⟩
      · exfalso; omega
      · rw [e2]; exact ⟨by omega, hA⟩

set_option maxRecDepth 4000 in
theorem sfX12_streetF {l : Launch} {M : Mem} (hB : Box M)  (f : Int) (d : Int) (t : Int) (la : Int)  : Call l mdX12_street [aR 54, aI f, aI d, aI t, aI la] M (fun q N => ∃ r : Int, q = some (aI r) ∧ BF fR M N ∧ mI N 57 = mI M 57 ∧ 0 ≤ r ∧ r ≤ 1 ∧ (∀ (S S' : Sw) (r9 : Int), AR (mI M 55) S → StreetS f d t (bl la) S S' r9 → r = r9 ∧ AR (mI N 55) S')) := by
  have hB0 : BF fR M M := BF.start hB
  refine Call.of [some (aR 54), some (aI f), some (aI d), some (aI t), some (aI la), none] rfl (Nat.le_of_ble_eq_true rfl) rfl ?_
  refine vc_ok (fun hoM hoS hoL => ?_)
  have hr1 : -2147483648 ≤ f ∧ f < 2147483648 := hoL 1 _ rfl
  have hr2 : -2147483648 ≤ d ∧ d < 2147483648 := hoL 2 _ rfl
  have hr3 : -2147483648 ≤ t ∧ t < 2147483648 := hoL 3 _ rfl
  have hr4 : -2147483648 ≤ la ∧ la < 2147483648 := hoL 4 _ rfl
  refine vc_aload_n dX12_street_0 rfl ?_
  refine vc_iload_n dX12_street_1 rfl ?_
  refine vc_cVI dX12_street_2 (sfX12_isCornerF (M := M) hB0.1  f ) rfl okX12_isCorner viX12_isCorner lkX12_87 (s_54 hB0.1.1) cl_12 rfl (Nat.le_of_ble_eq_true rfl) ⟨rfl, rfl⟩ (Nat.le_of_ble_eq_true rfl) (Nat.le_of_ble_eq_true rfl) (Nat.le_of_ble_eq_true rfl) ?_
  rintro x1 _ ⟨rfl, h2, h3, h4, h5⟩
  refine vc_if_eq dX12_street_5 (fun h6 => ?_) (fun h6 => ?_)
  · refine vc_iconst dX12_street_30 rfl ?_
    refine vc_zret dX12_street_31 rfl (by first | decide | omega) (Nat.le_of_ble_eq_true rfl) (Nat.le_of_ble_eq_true rfl) ?_
    refine ⟨_, rfl, hB0, rfl, by omega, by omega, fun S S' r9 hA hC => ?_⟩
    have c0 := hA.1.1.1
    have hst : ∀ (x y : Int), 0 ≤ x → x < mI M 55 0 → 0 ≤ y → y ≤ 3 → mI M 55 (10 + 9 * x + 1 + y).toNat = S 3 (4 * x + y).toNat := fun x y x0 x1 y0 y1 => by have z := ((hA.1.2.1 x.toNat (by omega)).2 y.toNat (by omega)).1; rw [show 10 + 9 * x.toNat + 1 + y.toNat = (10 + 9 * x + 1 + y).toNat by omega, show 4 * x.toNat + y.toNat = (4 * x + y).toNat by omega] at z; exact z
    have hb := b55_0 hB
    rcases hC with ⟨hc, e1, e2⟩ | ⟨hc, e1, e2⟩
    · exfalso; obtain ⟨o1, o2, o3, o4, o5, o6, o7, o8, o9⟩ := hc; first | omega | (have y1 := hst f d (by omega) (by omega) (by omega) (by omega); omega) | (have y2 := hst t ((d + 2) % 4) (by omega) (by omega) (by omega) (by omega); subst_vars; omega)
    · rw [e2]; exact ⟨by omega, hA⟩
  · refine vc_aload_n dX12_street_8 rfl ?_
    refine vc_iload_n dX12_street_9 rfl ?_
    refine vc_cVI dX12_street_10 (sfX12_isCornerF (M := M) hB0.1  t ) rfl okX12_isCorner viX12_isCorner lkX12_87 (s_54 hB0.1.1) cl_12 rfl (Nat.le_of_ble_eq_true rfl) ⟨rfl, rfl⟩ (Nat.le_of_ble_eq_true rfl) (Nat.le_of_ble_eq_true rfl) (Nat.le_of_ble_eq_true rfl) ?_
    rintro x7 _ ⟨rfl, h8, h9, h10, h11⟩
    refine vc_if_eq dX12_street_13 (fun h12 => ?_) (fun h12 => ?_)
    · refine vc_iconst dX12_street_30 rfl ?_
      refine vc_zret dX12_street_31 rfl (by first | decide | omega) (Nat.le_of_ble_eq_true rfl) (Nat.le_of_ble_eq_true rfl) ?_
      refine ⟨_, rfl, hB0, rfl, by omega, by omega, fun S S' r9 hA hC => ?_⟩
      have c0 := hA.1.1.1
      have hst : ∀ (x y : Int), 0 ≤ x → x < mI M 55 0 → 0 ≤ y → y ≤ 3 → mI M 55 (10 + 9 * x + 1 + y).toNat = S 3 (4 * x + y).toNat := fun x y x0 x1 y0 y1 => by have z := ((hA.1.2.1 x.toNat (by omega)).2 y.toNat (by omega)).1; rw [show 10 + 9 * x.toNat + 1 + y.toNat = (10 + 9 * x + 1 + y).toNat by omega, show 4 * x.toNat + y.toNat = (4 * x + y).toNat by omega] at z; exact z
      have hb := b55_0 hB
      rcases hC with ⟨hc, e1, e2⟩ | ⟨hc, e1, e2⟩
      · exfalso; obtain ⟨o1, o2, o3, o4, o5, o6, o7, o8, o9⟩ := hc; first | omega | (have y1 := hst f d (by omega) (by omega) (by omega) (by omega); omega) | (have y2 := hst t ((d + 2) % 4) (by omega) (by omega) (by omega) (by omega); subst_vars; omega)
      · rw [e2]; exact ⟨by omega, hA⟩
    · refine vc_iload_n dX12_street_16 rfl ?_
      refine vc_iload_n dX12_street_17 rfl ?_
      refine vc_icmp_eq dX12_street_18 (fun h13 => ?_) (fun h13 => ?_)
      · refine vc_iconst dX12_street_30 rfl ?_
        refine vc_zret dX12_street_31 rfl (by first | decide | omega) (Nat.le_of_ble_eq_true rfl) (Nat.le_of_ble_eq_true rfl) ?_
        refine ⟨_, rfl, hB0, rfl, by omega, by omega, fun S S' r9 hA hC => ?_⟩
        have c0 := hA.1.1.1
        have hst : ∀ (x y : Int), 0 ≤ x → x < mI M 55 0 → 0 ≤ y → y ≤ 3 → mI M 55 (10 + 9 * x + 1 + y).toNat = S 3 (4 * x + y).toNat := fun x y x0 x1 y0 y1 => by have z := ((hA.1.2.1 x.toNat (by omega)).2 y.toNat (by omega)).1; rw [show 10 + 9 * x.toNat + 1 + y.toNat = (10 + 9 * x + 1 + y).toNat by omega, show 4 * x.toNat + y.toNat = (4 * x + y).toNat by omega] at z; exact z
        have hb := b55_0 hB
        rcases hC with ⟨hc, e1, e2⟩ | ⟨hc, e1, e2⟩
        · exfalso; obtain ⟨o1, o2, o3, o4, o5, o6, o7, o8, o9⟩ := hc; first | omega | (have y1 := hst f d (by omega) (by omega) (by omega) (by omega); omega) | (have y2 := hst t ((d + 2) % 4) (by omega) (by omega) (by omega) (by omega); subst_vars; omega)
        · rw [e2]; exact ⟨by omega, hA⟩
      · refine vc_iload_n dX12_street_21 rfl ?_
        refine vc_iconst dX12_street_22 rfl ?_
        refine vc_iconst dX12_street_23 rfl ?_
        refine vc_cSI dX12_street_24 (sfX12_isInF (M := M) hB0.1  d 0 3 ) rfl okX12_isIn stX12_isIn lkX12_83 rfl (Nat.le_of_ble_eq_true rfl) ⟨rfl, rfl⟩ (Nat.le_of_ble_eq_true rfl) (Nat.le_of_ble_eq_true rfl) (Nat.le_of_ble_eq_true rfl) ?_
        rintro x14 _ ⟨rfl, h15, h16, h17⟩
        refine vc_if_ne dX12_street_27 (fun h18 => ?_) (fun h18 => ?_)
        · refine vc_iload_n dX12_street_32 rfl ?_
          refine vc_iconst dX12_street_33 rfl ?_
          refine vc_iaddE dX12_street_34 (by omega) (by omega) ?_
          refine vc_iconst dX12_street_35 rfl ?_
          refine vc_iremE dX12_street_36 (by omega) (by omega) ?_
          refine vc_nameI (fun x19 ex19 => ?_)
          refine vc_istore dX12_street_37 (by decide) rfl (show _ = [some (aR 54), some (aI f), some (aI d), some (aI t), some (aI la), some (aI x19)] from rfl) ?_
          refine vc_aload_n dX12_street_39 rfl ?_
          refine vc_iload_n dX12_street_40 rfl ?_
          refine vc_iload_n dX12_street_41 rfl ?_
          refine vc_cVI dX12_street_42 (sfX12_streetOfF (M := M) hB0.1  f d (by omega) (by omega) (by omega) (by omega)) rfl okX12_streetOf viX12_streetOf lkX12_91 (s_54 hB0.1.1) cl_12 rfl (Nat.le_of_ble_eq_true rfl) ⟨rfl, rfl⟩ (Nat.le_of_ble_eq_true rfl) (Nat.le_of_ble_eq_true rfl) (Nat.le_of_ble_eq_true rfl) ?_
          rintro x20 _ ⟨rfl, h21, h22, h23⟩
          refine vc_if_ge dX12_street_45 (fun h24 => ?_) (fun h24 => ?_)
          · refine vc_iconst dX12_street_58 rfl ?_
            refine vc_zret dX12_street_59 rfl (by first | decide | omega) (Nat.le_of_ble_eq_true rfl) (Nat.le_of_ble_eq_true rfl) ?_
            refine ⟨_, rfl, hB0, rfl, by omega, by omega, fun S S' r9 hA hC => ?_⟩
            have c0 := hA.1.1.1
            have hst : ∀ (x y : Int), 0 ≤ x → x < mI M 55 0 → 0 ≤ y → y ≤ 3 → mI M 55 (10 + 9 * x + 1 + y).toNat = S 3 (4 * x + y).toNat := fun x y x0 x1 y0 y1 => by have z := ((hA.1.2.1 x.toNat (by omega)).2 y.toNat (by omega)).1; rw [show 10 + 9 * x.toNat + 1 + y.toNat = (10 + 9 * x + 1 + y).toNat by omega, show 4 * x.toNat + y.toNat = (4 * x + y).toNat by omega] at z; exact z
            have hb := b55_0 hB
            rcases hC with ⟨hc, e1, e2⟩ | ⟨hc, e1, e2⟩
            · exfalso; obtain ⟨o1, o2, o3, o4, o5, o6, o7, o8, o9⟩ := hc; first | omega | (have y1 := hst f d (by omega) (by omega) (by omega) (by omega); omega) | (have y2 := hst t ((d + 2) % 4) (by omega) (by omega) (by omega) (by omega); subst_vars; omega)
            · rw [e2]; exact ⟨by omega, hA⟩
          · refine vc_aload_n dX12_street_48 rfl ?_
            refine vc_iload_n dX12_street_49 rfl ?_
            refine vc_iload dX12_street_50 rfl ?_
            refine vc_cVI dX12_street_52 (sfX12_streetOfF (M := M) hB0.1  t x19 (by omega) (by omega) (by omega) (by omega)) rfl okX12_streetOf viX12_streetOf lkX12_91 (s_54 hB0.1.1) cl_12 rfl (Nat.le_of_ble_eq_true rfl) ⟨rfl, rfl⟩ (Nat.le_of_ble_eq_true rfl) (Nat.le_of_ble_eq_true rfl) (Nat.le_of_ble_eq_true rfl) ?_
            rintro x25 _ ⟨rfl, h26, h27, h28⟩
            refine vc_if_lt dX12_street_55 (fun h29 => ?_) (fun h29 => ?_)
            · refine vc_aload_n dX12_street_60 rfl ?_
              refine vc_getR dX12_street_61 flX12_7 (s_54 hB0.1.1) rfl (r_54_0 hB0.1.1) ?_
              refine vc_bipush dX12_street_64 rfl ?_
              refine vc_bipush dX12_street_66 rfl ?_
              refine vc_iload_n dX12_street_68 rfl ?_
              refine vc_imulE dX12_street_69 (by omega) (by omega) ?_
              refine vc_iaddE dX12_street_70 (by omega) (by omega) ?_
              refine vc_iconst dX12_street_71 rfl ?_
              refine vc_iaddE dX12_street_72 (by omega) (by omega) ?_
              refine vc_iload_n dX12_street_73 rfl ?_
              refine vc_iaddE dX12_street_74 (by omega) (by omega) ?_
              refine vc_iload_n dX12_street_75 rfl ?_
              refine vc_iastore dX12_street_76 (s_55 hB0.1.1) (by omega) (by omega) ?_
              have kp30 : mI (sI M 55 ((((10 + (9 * f)) + 1) + d).toNat) t) 57 = mI M 57 := (kp_sI rfl rfl)
              have hB31 : BF fR M (sI M 55 ((((10 + (9 * f)) + 1) + d).toNat) t) := BF.aS (x := ((10 + (9 * f)) + 1) + d) hB0 (by omega) (by omega) ⟨by omega, by omega⟩ (by omega) (by omega) (by ((repeat rw [mI_sI, if_neg (by omega)]); try omega))
              refine vc_aload_n dX12_street_77 rfl ?_
              refine vc_getR dX12_street_78 flX12_7 (s_54 hB31.1.1) rfl (r_54_0 hB31.1.1) ?_
              refine vc_bipush dX12_street_81 rfl ?_
              refine vc_bipush dX12_street_83 rfl ?_
              refine vc_iload_n dX12_street_85 rfl ?_
              refine vc_imulE dX12_street_86 (by omega) (by omega) ?_
              refine vc_iaddE dX12_street_87 (by omega) (by omega) ?_
              refine vc_iconst dX12_street_88 rfl ?_
              refine vc_iaddE dX12_street_89 (by omega) (by omega) ?_
              refine vc_iload dX12_street_90 rfl ?_
              refine vc_iaddE dX12_street_92 (by omega) (by omega) ?_
              refine vc_iload_n dX12_street_93 rfl ?_
              refine vc_iastore dX12_street_94 (s_55 hB31.1.1) (by omega) (by omega) ?_
              have kp32 : mI (sI (sI M 55 ((((10 + (9 * f)) + 1) + d).toNat) t) 55 ((((10 + (9 * t)) + 1) + x19).toNat) f) 57 = mI M 57 := (kp_sI kp30 rfl)
              have hB33 : BF fR M (sI (sI M 55 ((((10 + (9 * f)) + 1) + d).toNat) t) 55 ((((10 + (9 * t)) + 1) + x19).toNat) f) := BF.aS (x := ((10 + (9 * t)) + 1) + x19) hB31 (by omega) (by omega) ⟨by omega, by omega⟩ (by omega) (by omega) (by ((repeat rw [mI_sI, if_neg (by omega)]); try omega))
              refine vc_aload_n dX12_street_95 rfl ?_
              refine vc_getR dX12_street_96 flX12_7 (s_54 hB33.1.1) rfl (r_54_0 hB33.1.1) ?_
              refine vc_bipush dX12_street_99 rfl ?_
              refine vc_bipush dX12_street_101 rfl ?_
              refine vc_iload_n dX12_street_103 rfl ?_
              refine vc_imulE dX12_street_104 (by omega) (by omega) ?_
              refine vc_iaddE dX12_street_105 (by omega) (by omega) ?_
              refine vc_iconst dX12_street_106 rfl ?_
              refine vc_iaddE dX12_street_107 (by omega) (by omega) ?_
              refine vc_iload_n dX12_street_108 rfl ?_
              refine vc_iaddE dX12_street_109 (by omega) (by omega) ?_
              refine vc_iload dX12_street_110 rfl ?_
              refine vc_if_eq dX12_street_112 (fun h34 => ?_) (fun h34 => ?_)
              · refine vc_iconst dX12_street_119 rfl ?_
                refine vc_iastore dX12_street_120 (s_55 hB33.1.1) (by omega) (by omega) ?_
                have kp35 : mI (sI (sI (sI M 55 ((((10 + (9 * f)) + 1) + d).toNat) t) 55 ((((10 + (9 * t)) + 1) + x19).toNat) f) 55 ((((10 + (9 * f)) + 5) + d).toNat) 0) 57 = mI M 57 := (kp_sI kp32 rfl)
                have hB36 : BF fR M (sI (sI (sI M 55 ((((10 + (9 * f)) + 1) + d).toNat) t) 55 ((((10 + (9 * t)) + 1) + x19).toNat) f) 55 ((((10 + (9 * f)) + 5) + d).toNat) 0) := BF.a (x := ((10 + (9 * f)) + 5) + d) hB33 (by omega) (by omega) (by unfold aB; refine ⟨?_, ?_, ?_, ?_, ?_, ?_, ?_, ?_, ?_, ?_, ?_, ?_, ?_, ?_, ?_, ?_, ?_, ?_⟩ <;> intros <;> omega) (by omega) (by omega) (by omega) (by omega) (by omega) (by omega) fR_55
                refine vc_aload_n dX12_street_121 rfl ?_
                refine vc_getR dX12_street_122 flX12_7 (s_54 hB36.1.1) rfl (r_54_0 hB36.1.1) ?_
                refine vc_bipush dX12_street_125 rfl ?_
                refine vc_bipush dX12_street_127 rfl ?_
                refine vc_iload_n dX12_street_129 rfl ?_
                refine vc_imulE dX12_street_130 (by omega) (by omega) ?_
                refine vc_iaddE dX12_street_131 (by omega) (by omega) ?_
                refine vc_iconst dX12_street_132 rfl ?_
                refine vc_iaddE dX12_street_133 (by omega) (by omega) ?_
                refine vc_iload dX12_street_134 rfl ?_
                refine vc_iaddE dX12_street_136 (by omega) (by omega) ?_
                refine vc_iload dX12_street_137 rfl ?_
                refine vc_if_eq dX12_street_139 (fun h37 => ?_) (fun h37 => by exfalso; omega)
                refine vc_iconst dX12_street_146 rfl ?_
                refine vc_iastore dX12_street_147 (s_55 hB36.1.1) (by omega) (by omega) ?_
                have kp38 : mI (sI (sI (sI (sI M 55 ((((10 + (9 * f)) + 1) + d).toNat) t) 55 ((((10 + (9 * t)) + 1) + x19).toNat) f) 55 ((((10 + (9 * f)) + 5) + d).toNat) 0) 55 ((((10 + (9 * t)) + 5) + x19).toNat) 0) 57 = mI M 57 := (kp_sI kp35 rfl)
                have hB39 : BF fR M (sI (sI (sI (sI M 55 ((((10 + (9 * f)) + 1) + d).toNat) t) 55 ((((10 + (9 * t)) + 1) + x19).toNat) f) 55 ((((10 + (9 * f)) + 5) + d).toNat) 0) 55 ((((10 + (9 * t)) + 5) + x19).toNat) 0) := BF.a (x := ((10 + (9 * t)) + 5) + x19) hB36 (by omega) (by omega) (by unfold aB; refine ⟨?_, ?_, ?_, ?_, ?_, ?_, ?_, ?_, ?_, ?_, ?_, ?_, ?_, ?_, ?_, ?_, ?_, ?_⟩ <;> intros <;> omega) (by omega) (by omega) (by omega) (by omega) (by omega) (by omega) fR_55
                refine vc_iconst dX12_street_148 rfl ?_
                refine vc_zret dX12_street_149 rfl (by first | decide | omega) (Nat.le_of_ble_eq_true rfl) (Nat.le_of_ble_eq_true rfl) ?_
                refine ⟨_, rfl, hB39, kp38, by omega, by omega, fun S S' r9 hA hC => ?_⟩
                have c0 := hA.1.1.1
                have hst : ∀ (x y : Int), 0 ≤ x → x < mI M 55 0 → 0 ≤ y → y ≤ 3 → mI M 55 (10 + 9 * x + 1 + y).toNat = S 3 (4 * x + y).toNat := fun x y x0 x1 y0 y1 => by have z := ((hA.1.2.1 x.toNat (by omega)).2 y.toNat (by omega)).1; rw [show 10 + 9 * x.toNat + 1 + y.toNat = (10 + 9 * x + 1 + y).toNat by omega, show 4 * x.toNat + y.toNat = (4 * x + y).toNat by omega] at z; exact z
                have hb := b55_0 hB
                rcases hC with ⟨hc, e1, e2⟩ | ⟨hc, e1, e2⟩
                · obtain ⟨o1, o2, o3, o4, o5, o6, o7, o8, o9⟩ := id hc; subst ex19; rw [e2]
                  refine ⟨by omega, AR_street hA hc (by first | exact Or.inl (if_pos (by omega)) | exact Or.inr (if_neg (by omega))) ?_ ?_ ?_ ?_ (fun j j1 j2 j3 j4 => ?_)⟩
                  · first | (exfalso; omega) | (rw [mI_sI, if_pos (by omega)]) | (rw [mI_sI, if_neg (by omega), mI_sI, if_pos (by omega)]) | (rw [mI_sI, if_neg (by omega), mI_sI, if_neg (by omega), mI_sI, if_pos (by omega)]) | (rw [mI_sI, if_neg (by omega), mI_sI, if_neg (by omega), mI_sI, if_neg (by omega), mI_sI, if_pos (by omega)])
                  · first | (exfalso; omega) | (rw [mI_sI, if_pos (by omega)]) | (rw [mI_sI, if_neg (by omega), mI_sI, if_pos (by omega)]) | (rw [mI_sI, if_neg (by omega), mI_sI, if_neg (by omega), mI_sI, if_pos (by omega)]) | (rw [mI_sI, if_neg (by omega), mI_sI, if_neg (by omega), mI_sI, if_neg (by omega), mI_sI, if_pos (by omega)])
                  · (first | (rw [show bl la = 0 from if_pos (by omega)]) | (rw [show bl la = 1 from if_neg (by omega)])); (first | (exfalso; omega) | (rw [mI_sI, if_pos (by omega)]) | (rw [mI_sI, if_neg (by omega), mI_sI, if_pos (by omega)]) | (rw [mI_sI, if_neg (by omega), mI_sI, if_neg (by omega), mI_sI, if_pos (by omega)]) | (rw [mI_sI, if_neg (by omega), mI_sI, if_neg (by omega), mI_sI, if_neg (by omega), mI_sI, if_pos (by omega)]))
                  · (first | (rw [show bl la = 0 from if_pos (by omega)]) | (rw [show bl la = 1 from if_neg (by omega)])); (first | (exfalso; omega) | (rw [mI_sI, if_pos (by omega)]) | (rw [mI_sI, if_neg (by omega), mI_sI, if_pos (by omega)]) | (rw [mI_sI, if_neg (by omega), mI_sI, if_neg (by omega), mI_sI, if_pos (by omega)]) | (rw [mI_sI, if_neg (by omega), mI_sI, if_neg (by omega), mI_sI, if_neg (by omega), mI_sI, if_pos (by omega)]))
                  · rw [mI_sI, if_neg (by omega), mI_sI, if_neg (by omega), mI_sI, if_neg (by omega), mI_sI, if_neg (by omega)]
                · exfalso; apply hc; unfold okSt; have y1 := hst f d (by omega) (by omega) (by omega) (by omega); have y2 := hst t ((d + 2) % 4) (by omega) (by omega) (by omega) (by omega); subst ex19; omega
              · refine vc_iconst dX12_street_115 rfl ?_
                refine vc_goto dX12_street_116 ?_
                refine vc_iastore dX12_street_120 (s_55 hB33.1.1) (by omega) (by omega) ?_
                have kp40 : mI (sI (sI (sI M 55 ((((10 + (9 * f)) + 1) + d).toNat) t) 55 ((((10 + (9 * t)) + 1) + x19).toNat) f) 55 ((((10 + (9 * f)) + 5) + d).toNat) 1) 57 = mI M 57 := (kp_sI kp32 rfl)
                have hB41 : BF fR M (sI (sI (sI M 55 ((((10 + (9 * f)) + 1) + d).toNat) t) 55 ((((10 + (9 * t)) + 1) + x19).toNat) f) 55 ((((10 + (9 * f)) + 5) + d).toNat) 1) := BF.a (x := ((10 + (9 * f)) + 5) + d) hB33 (by omega) (by omega) (by unfold aB; refine ⟨?_, ?_, ?_, ?_, ?_, ?_, ?_, ?_, ?_, ?_, ?_, ?_, ?_, ?_, ?_, ?_, ?_, ?_⟩ <;> intros <;> omega) (by omega) (by omega) (by omega) (by omega) (by omega) (by omega) fR_55
                refine vc_aload_n dX12_street_121 rfl ?_
                refine vc_getR dX12_street_122 flX12_7 (s_54 hB41.1.1) rfl (r_54_0 hB41.1.1) ?_
                refine vc_bipush dX12_street_125 rfl ?_
                refine vc_bipush dX12_street_127 rfl ?_
                refine vc_iload_n dX12_street_129 rfl ?_
                refine vc_imulE dX12_street_130 (by omega) (by omega) ?_
                refine vc_iaddE dX12_street_131 (by omega) (by omega) ?_
                refine vc_iconst dX12_street_132 rfl ?_
                refine vc_iaddE dX12_street_133 (by omega) (by omega) ?_
                refine vc_iload dX12_street_134 rfl ?_
                refine vc_iaddE dX12_street_136 (by omega) (by omega) ?_
                refine vc_iload dX12_street_137 rfl ?_
                refine vc_if_eq dX12_street_139 (fun h42 => ?_) (fun h42 => ?_)
                · refine vc_iconst dX12_street_146 rfl ?_
                  refine vc_iastore dX12_street_147 (s_55 hB41.1.1) (by omega) (by omega) ?_
                  have kp43 : mI (sI (sI (sI (sI M 55 ((((10 + (9 * f)) + 1) + d).toNat) t) 55 ((((10 + (9 * t)) + 1) + x19).toNat) f) 55 ((((10 + (9 * f)) + 5) + d).toNat) 1) 55 ((((10 + (9 * t)) + 5) + x19).toNat) 0) 57 = mI M 57 := (kp_sI kp40 rfl)
                  have hB44 : BF fR M (sI (sI (sI (sI M 55 ((((10 + (9 * f)) + 1) + d).toNat) t) 55 ((((10 + (9 * t)) + 1) + x19).toNat) f) 55 ((((10 + (9 * f)) + 5) + d).toNat) 1) 55 ((((10 + (9 * t)) + 5) + x19).toNat) 0) := BF.a (x := ((10 + (9 * t)) + 5) + x19) hB41 (by omega) (by omega) (by unfold aB; refine ⟨?_, ?_, ?_, ?_, ?_, ?_, ?_, ?_, ?_, ?_, ?_, ?_, ?_, ?_, ?_, ?_, ?_, ?_⟩ <;> intros <;> omega) (by omega) (by omega) (by omega) (by omega) (by omega) (by omega) fR_55
                  refine vc_iconst dX12_street_148 rfl ?_
                  refine vc_zret dX12_street_149 rfl (by first | decide | omega) (Nat.le_of_ble_eq_true rfl) (Nat.le_of_ble_eq_true rfl) ?_
                  refine ⟨_, rfl, hB44, kp43, by omega, by omega, fun S S' r9 hA hC => ?_⟩
                  have c0 := hA.1.1.1
                  have hst : ∀ (x y : Int), 0 ≤ x → x < mI M 55 0 → 0 ≤ y → y ≤ 3 → mI M 55 (10 + 9 * x + 1 + y).toNat = S 3 (4 * x + y).toNat := fun x y x0 x1 y0 y1 => by have z := ((hA.1.2.1 x.toNat (by omega)).2 y.toNat (by omega)).1; rw [show 10 + 9 * x.toNat + 1 + y.toNat = (10 + 9 * x + 1 + y).toNat by omega, show 4 * x.toNat + y.toNat = (4 * x + y).toNat by omega] at z; exact z
                  have hb := b55_0 hB
                  rcases hC with ⟨hc, e1, e2⟩ | ⟨hc, e1, e2⟩
                  · obtain ⟨o1, o2, o3, o4, o5, o6, o7, o8, o9⟩ := id hc; subst ex19; rw [e2]
                    refine ⟨by omega, AR_street hA hc (by first | exact Or.inl (if_pos (by omega)) | exact Or.inr (if_neg (by omega))) ?_ ?_ ?_ ?_ (fun j j1 j2 j3 j4 => ?_)⟩
                    · first | (exfalso; omega) | (rw [mI_sI, if_pos (by omega)]) | (rw [mI_sI, if_neg (by omega), mI_sI, if_pos (by omega)]) | (rw [mI_sI, if_neg (by omega), mI_sI, if_neg (by omega), mI_sI, if_pos (by omega)]) | (rw [mI_sI, if_neg (by omega), mI_sI, if_neg (by omega), mI_sI, if_neg (by omega), mI_sI, if_pos (by omega)])
                    · first | (exfalso; omega) | (rw [mI_sI, if_pos (by omega)]) | (rw [mI_sI, if_neg (by omega), mI_sI, if_pos (by omega)]) | (rw [mI_sI, if_neg (by omega), mI_sI, if_neg (by omega), mI_sI, if_pos (by omega)]) | (rw [mI_sI, if_neg (by omega), mI_sI, if_neg (by omega), mI_sI, if_neg (by omega), mI_sI, if_pos (by omega)])
                    · (first | (rw [show bl la = 0 from if_pos (by omega)]) | (rw [show bl la = 1 from if_neg (by omega)])); (first | (exfalso; omega) | (rw [mI_sI, if_pos (by omega)]) | (rw [mI_sI, if_neg (by omega), mI_sI, if_pos (by omega)]) | (rw [mI_sI, if_neg (by omega), mI_sI, if_neg (by omega), mI_sI, if_pos (by omega)]) | (rw [mI_sI, if_neg (by omega), mI_sI, if_neg (by omega), mI_sI, if_neg (by omega), mI_sI, if_pos (by omega)]))
                    · (first | (rw [show bl la = 0 from if_pos (by omega)]) | (rw [show bl la = 1 from if_neg (by omega)])); (first | (exfalso; omega) | (rw [mI_sI, if_pos (by omega)]) | (rw [mI_sI, if_neg (by omega), mI_sI, if_pos (by omega)]) | (rw [mI_sI, if_neg (by omega), mI_sI, if_neg (by omega), mI_sI, if_pos (by omega)]) | (rw [mI_sI, if_neg (by omega), mI_sI, if_neg (by omega), mI_sI, if_neg (by omega), mI_sI, if_pos (by omega)]))
                    · rw [mI_sI, if_neg (by omega), mI_sI, if_neg (by omega), mI_sI, if_neg (by omega), mI_sI, if_neg (by omega)]
                  · exfalso; apply hc; unfold okSt; have y1 := hst f d (by omega) (by omega) (by omega) (by omega); have y2 := hst t ((d + 2) % 4) (by omega) (by omega) (by omega) (by omega); subst ex19; omega
                · refine vc_iconst dX12_street_142 rfl ?_
                  refine vc_goto dX12_street_143 ?_
                  refine vc_iastore dX12_street_147 (s_55 hB41.1.1) (by omega) (by omega) ?_
                  have kp45 : mI (sI (sI (sI (sI M 55 ((((10 + (9 * f)) + 1) + d).toNat) t) 55 ((((10 + (9 * t)) + 1) + x19).toNat) f) 55 ((((10 + (9 * f)) + 5) + d).toNat) 1) 55 ((((10 + (9 * t)) + 5) + x19).toNat) 1) 57 = mI M 57 := (kp_sI kp40 rfl)
                  have hB46 : BF fR M (sI (sI (sI (sI M 55 ((((10 + (9 * f)) + 1) + d).toNat) t) 55 ((((10 + (9 * t)) + 1) + x19).toNat) f) 55 ((((10 + (9 * f)) + 5) + d).toNat) 1) 55 ((((10 + (9 * t)) + 5) + x19).toNat) 1) := BF.a (x := ((10 + (9 * t)) + 5) + x19) hB41 (by omega) (by omega) (by unfold aB; refine ⟨?_, ?_, ?_, ?_, ?_, ?_, ?_, ?_, ?_, ?_, ?_, ?_, ?_, ?_, ?_, ?_, ?_, ?_⟩ <;> intros <;> omega) (by omega) (by omega) (by omega) (by omega) (by omega) (by omega) fR_55
                  refine vc_iconst dX12_street_148 rfl ?_
                  refine vc_zret dX12_street_149 rfl (by first | decide | omega) (Nat.le_of_ble_eq_true rfl) (Nat.le_of_ble_eq_true rfl) ?_
                  refine ⟨_, rfl, hB46, kp45, by omega, by omega, fun S S' r9 hA hC => ?_⟩
                  have c0 := hA.1.1.1
                  have hst : ∀ (x y : Int), 0 ≤ x → x < mI M 55 0 → 0 ≤ y → y ≤ 3 → mI M 55 (10 + 9 * x + 1 + y).toNat = S 3 (4 * x + y).toNat := fun x y x0 x1 y0 y1 => by have z := ((hA.1.2.1 x.toNat (by omega)).2 y.toNat (by omega)).1; rw [show 10 + 9 * x.toNat + 1 + y.toNat = (10 + 9 * x + 1 + y).toNat by omega, show 4 * x.toNat + y.toNat = (4 * x + y).toNat by omega] at z; exact z
                  have hb := b55_0 hB
                  rcases hC with ⟨hc, e1, e2⟩ | ⟨hc, e1, e2⟩
                  · obtain ⟨o1, o2, o3, o4, o5, o6, o7, o8, o9⟩ := id hc; subst ex19; rw [e2]
                    refine ⟨by omega, AR_street hA hc (by first | exact Or.inl (if_pos (by omega)) | exact Or.inr (if_neg (by omega))) ?_ ?_ ?_ ?_ (fun j j1 j2 j3 j4 => ?_)⟩
                    · first | (exfalso; omega) | (rw [mI_sI, if_pos (by omega)]) | (rw [mI_sI, if_neg (by omega), mI_sI, if_pos (by omega)]) | (rw [mI_sI, if_neg (by omega), mI_sI, if_neg (by omega), mI_sI, if_pos (by omega)]) | (rw [mI_sI, if_neg (by omega), mI_sI, if_neg (by omega), mI_sI, if_neg (by omega), mI_sI, if_pos (by omega)])
                    · first | (exfalso; omega) | (rw [mI_sI, if_pos (by omega)]) | (rw [mI_sI, if_neg (by omega), mI_sI, if_pos (by omega)]) | (rw [mI_sI, if_neg (by omega), mI_sI, if_neg (by omega), mI_sI, if_pos (by omega)]) | (rw [mI_sI, if_neg (by omega), mI_sI, if_neg (by omega), mI_sI, if_neg (by omega), mI_sI, if_pos (by omega)])
                    · (first | (rw [show bl la = 0 from if_pos (by omega)]) | (rw [show bl la = 1 from if_neg (by omega)])); (first | (exfalso; omega) | (rw [mI_sI, if_pos (by omega)]) | (rw [mI_sI, if_neg (by omega), mI_sI, if_pos (by omega)]) | (rw [mI_sI, if_neg (by omega), mI_sI, if_neg (by omega), mI_sI, if_pos (by omega)]) | (rw [mI_sI, if_neg (by omega), mI_sI, if_neg (by omega), mI_sI, if_neg (by omega), mI_sI, if_pos (by omega)]))
                    · (first | (rw [show bl la = 0 from if_pos (by omega)]) | (rw [show bl la = 1 from if_neg (by omega)])); (first | (exfalso; omega) | (rw [mI_sI, if_pos (by omega)]) | (rw [mI_sI, if_neg (by omega), mI_sI, if_pos (by omega)]) | (rw [mI_sI, if_neg (by omega), mI_sI, if_neg (by omega), mI_sI, if_pos (by omega)]) | (rw [mI_sI, if_neg (by omega), mI_sI, if_neg (by omega), mI_sI, if_neg (by omega), mI_sI, if_pos (by omega)]))
                    · rw [mI_sI, if_neg (by omega), mI_sI, if_neg (by omega), mI_sI, if_neg (by omega), mI_sI, if_neg (by omega)]
                  · exfalso; apply hc; unfold okSt; have y1 := hst f d (by omega) (by omega) (by omega) (by omega); have y2 := hst t ((d + 2) % 4) (by omega) (by omega) (by omega) (by omega); subst ex19; omega
            · refine vc_iconst dX12_street_58 rfl ?_
              refine vc_zret dX12_street_59 rfl (by first | decide | omega) (Nat.le_of_ble_eq_true rfl) (Nat.le_of_ble_eq_true rfl) ?_
              refine ⟨_, rfl, hB0, rfl, by omega, by omega, fun S S' r9 hA hC => ?_⟩
              have c0 := hA.1.1.1
              have hst : ∀ (x y : Int), 0 ≤ x → x < mI M 55 0 → 0 ≤ y → y ≤ 3 → mI M 55 (10 + 9 * x + 1 + y).toNat = S 3 (4 * x + y).toNat := fun x y x0 x1 y0 y1 => by have z := ((hA.1.2.1 x.toNat (by omega)).2 y.toNat (by omega)).1; rw [show 10 + 9 * x.toNat + 1 + y.toNat = (10 + 9 * x + 1 + y).toNat by omega, show 4 * x.toNat + y.toNat = (4 * x + y).toNat by omega] at z; exact z
              have hb := b55_0 hB
              rcases hC with ⟨hc, e1, e2⟩ | ⟨hc, e1, e2⟩
              · exfalso; obtain ⟨o1, o2, o3, o4, o5, o6, o7, o8, o9⟩ := hc; first | omega | (have y1 := hst f d (by omega) (by omega) (by omega) (by omega); omega) | (have y2 := hst t ((d + 2) % 4) (by omega) (by omega) (by omega) (by omega); subst_vars; omega)
              · rw [e2]; exact ⟨by omega, hA⟩
        · refine vc_iconst dX12_street_30 rfl ?_
          refine vc_zret dX12_street_31 rfl (by first | decide | omega) (Nat.le_of_ble_eq_true rfl) (Nat.le_of_ble_eq_true rfl) ?_
          refine ⟨_, rfl, hB0, rfl, by omega, by omega, fun S S' r9 hA hC => ?_⟩
          have c0 := hA.1.1.1
          have hst : ∀ (x y : Int), 0 ≤ x → x < mI M 55 0 → 0 ≤ y → y ≤ 3 → mI M 55 (10 + 9 * x + 1 + y).toNat = S 3 (4 * x + y).toNat := fun x y x0 x1 y0 y1 => by have z := ((hA.1.2.1 x.toNat (by omega)).2 y.toNat (by omega)).1; rw [show 10 + 9 * x.toNat + 1 + y.toNat = (10 + 9 * x + 1 + y).toNat by omega, show 4 * x.toNat + y.toNat = (4 * x + y).toNat by omega] at z; exact z
          have hb := b55_0 hB
          rcases hC with ⟨hc, e1, e2⟩ | ⟨hc, e1, e2⟩
          · exfalso; obtain ⟨o1, o2, o3, o4, o5, o6, o7, o8, o9⟩ := hc; first | omega | (have y1 := hst f d (by omega) (by omega) (by omega) (by omega); omega) | (have y2 := hst t ((d + 2) % 4) (by omega) (by omega) (by omega) (by omega); subst_vars; omega)
          · rw [e2]; exact ⟨by omega, hA⟩

set_option maxRecDepth 4000 in
theorem sfX12_goalF {l : Launch} {M : Mem} (hB : Box M)  (c : Int)  : Call l mdX12_goal [aR 54, aI c] M (fun q N => ∃ r : Int, q = some (aI r) ∧ BF fR M N ∧ mI N 57 = mI M 57 ∧ 0 ≤ r ∧ r ≤ 1 ∧ (∀ (S S' : Sw) (r9 : Int), AR (mI M 55) S → GoalS c S S' r9 → r = r9 ∧ AR (mI N 55) S')) := by
  have hB0 : BF fR M M := BF.start hB
  refine Call.of [some (aR 54), some (aI c)] rfl (Nat.le_of_ble_eq_true rfl) rfl ?_
  refine vc_ok (fun hoM hoS hoL => ?_)
  have hr1 : -2147483648 ≤ c ∧ c < 2147483648 := hoL 1 _ rfl
  refine vc_iload_n dX12_goal_0 rfl ?_
  refine vc_iconst dX12_goal_1 rfl ?_
  refine vc_icmp_eq dX12_goal_2 (fun h1 => ?_) (fun h1 => ?_)
  · refine vc_aload_n dX12_goal_15 rfl ?_
    refine vc_getR dX12_goal_16 flX12_7 (s_54 hB0.1.1) rfl (r_54_0 hB0.1.1) ?_
    refine vc_iconst dX12_goal_19 rfl ?_
    refine vc_iload_n dX12_goal_20 rfl ?_
    refine vc_iastore dX12_goal_21 (s_55 hB0.1.1) (by omega) (by omega) ?_
    refine vc_mem (sI M 55 1 c) rfl ?_
    have kp2 : mI (sI M 55 1 c) 57 = mI M 57 := (kp_sI rfl rfl)
    have hB3 : BF fR M (sI M 55 1 c) := BF.a (x := 1) hB0 (by omega) (by omega) (by unfold aB; refine ⟨?_, ?_, ?_, ?_, ?_, ?_, ?_, ?_, ?_, ?_, ?_, ?_, ?_, ?_, ?_, ?_, ?_, ?_⟩ <;> intros <;> omega) (by omega) (by omega) (by omega) (by omega) (by omega) (by omega) fR_55
    refine vc_iconst dX12_goal_22 rfl ?_
    refine vc_zret dX12_goal_23 rfl (by first | decide | omega) (Nat.le_of_ble_eq_true rfl) (Nat.le_of_ble_eq_true rfl) ?_
    refine ⟨_, rfl, hB3, kp2, by omega, by omega, fun S S' r9 hA hC => ?_⟩
    have c0 := hA.1.1.1
    have hb := b55_0 hB
    rcases hC with ⟨hc, e1, e2⟩ | ⟨hc, e1, e2⟩
    · rw [e2]; exact ⟨by omega, AR_goal hA (by omega) mI_same (fun j hj => by rw [mI_sI, if_neg (fun e => hj e.2)])⟩
    · exfalso; omega
  · refine vc_aload_n dX12_goal_5 rfl ?_
    refine vc_iload_n dX12_goal_6 rfl ?_
    refine vc_cVI dX12_goal_7 (sfX12_isCornerF (M := M) hB0.1  c ) rfl okX12_isCorner viX12_isCorner lkX12_87 (s_54 hB0.1.1) cl_12 rfl (Nat.le_of_ble_eq_true rfl) ⟨rfl, rfl⟩ (Nat.le_of_ble_eq_true rfl) (Nat.le_of_ble_eq_true rfl) (Nat.le_of_ble_eq_true rfl) ?_
    rintro x4 _ ⟨rfl, h5, h6, h7, h8⟩
    refine vc_if_ne dX12_goal_10 (fun h9 => ?_) (fun h9 => ?_)
    · refine vc_aload_n dX12_goal_15 rfl ?_
      refine vc_getR dX12_goal_16 flX12_7 (s_54 hB0.1.1) rfl (r_54_0 hB0.1.1) ?_
      refine vc_iconst dX12_goal_19 rfl ?_
      refine vc_iload_n dX12_goal_20 rfl ?_
      refine vc_iastore dX12_goal_21 (s_55 hB0.1.1) (by omega) (by omega) ?_
      refine vc_mem (sI M 55 1 c) rfl ?_
      have kp10 : mI (sI M 55 1 c) 57 = mI M 57 := (kp_sI rfl rfl)
      have hB11 : BF fR M (sI M 55 1 c) := BF.a (x := 1) hB0 (by omega) (by omega) (by unfold aB; refine ⟨?_, ?_, ?_, ?_, ?_, ?_, ?_, ?_, ?_, ?_, ?_, ?_, ?_, ?_, ?_, ?_, ?_, ?_⟩ <;> intros <;> omega) (by omega) (by omega) (by omega) (by omega) (by omega) (by omega) fR_55
      refine vc_iconst dX12_goal_22 rfl ?_
      refine vc_zret dX12_goal_23 rfl (by first | decide | omega) (Nat.le_of_ble_eq_true rfl) (Nat.le_of_ble_eq_true rfl) ?_
      refine ⟨_, rfl, hB11, kp10, by omega, by omega, fun S S' r9 hA hC => ?_⟩
      have c0 := hA.1.1.1
      have hb := b55_0 hB
      rcases hC with ⟨hc, e1, e2⟩ | ⟨hc, e1, e2⟩
      · rw [e2]; exact ⟨by omega, AR_goal hA (by omega) mI_same (fun j hj => by rw [mI_sI, if_neg (fun e => hj e.2)])⟩
      · exfalso; omega
    · refine vc_iconst dX12_goal_13 rfl ?_
      refine vc_zret dX12_goal_14 rfl (by first | decide | omega) (Nat.le_of_ble_eq_true rfl) (Nat.le_of_ble_eq_true rfl) ?_
      refine ⟨_, rfl, hB0, rfl, by omega, by omega, fun S S' r9 hA hC => ?_⟩
      have c0 := hA.1.1.1
      have hb := b55_0 hB
      rcases hC with ⟨hc, e1, e2⟩ | ⟨hc, e1, e2⟩
      · exfalso; omega
      · rw [e2]; exact ⟨by omega, hA⟩

set_option maxRecDepth 4000 in
theorem sfX12_byF {l : Launch} {M : Mem} (hB : Box M)  (t : Int)  : Call l mdX12_by [aR 54, aI t] M (fun q N => ∃ r : Int, q = some (aI r) ∧ BF fR M N ∧ 0 ≤ r ∧ r ≤ 1 ∧ (∀ (S S' : Sw) (r9 : Int), AR (mI M 55) S → ByS t S S' r9 → r = r9 ∧ AR (mI N 55) S')) := by
  have hB0 : BF fR M M := BF.start hB
  refine Call.of [some (aR 54), some (aI t)] rfl (Nat.le_of_ble_eq_true rfl) rfl ?_
  refine vc_ok (fun hoM hoS hoL => ?_)
  have hr1 : -2147483648 ≤ t ∧ t < 2147483648 := hoL 1 _ rfl
  refine vc_iload_n dX12_by_0 rfl ?_
  refine vc_iconst dX12_by_1 rfl ?_
  refine vc_aload_n dX12_by_2 rfl ?_
  refine vc_getR dX12_by_3 flX12_7 (s_54 hB0.1.1) rfl (r_54_0 hB0.1.1) ?_
  refine vc_iconst dX12_by_6 rfl ?_
  refine vc_iaload dX12_by_7 (s_55 hB0.1.1) (by omega) (by omega) ?_
  refine vc_topI (mI M 55 5) rfl ?_
  have k1 : 0 ≤ mI M 55 5 ∧ mI M 55 5 ≤ 4 := b55_5 (M := M) hB0.1
  refine vc_iconst dX12_by_8 rfl ?_
  refine vc_isubE dX12_by_9 (by omega) (by omega) ?_
  refine vc_cSI dX12_by_10 (sfX12_isInF (M := M) hB0.1  t (-1) ((mI M 55 5) - 1) ) rfl okX12_isIn stX12_isIn lkX12_83 rfl (Nat.le_of_ble_eq_true rfl) ⟨rfl, rfl⟩ (Nat.le_of_ble_eq_true rfl) (Nat.le_of_ble_eq_true rfl) (Nat.le_of_ble_eq_true rfl) ?_
  rintro x2 _ ⟨rfl, h3, h4, h5⟩
  refine vc_if_ne dX12_by_13 (fun h6 => ?_) (fun h6 => ?_)
  · refine vc_aload_n dX12_by_18 rfl ?_
    refine vc_getR dX12_by_19 flX12_7 (s_54 hB0.1.1) rfl (r_54_0 hB0.1.1) ?_
    refine vc_bipush dX12_by_22 rfl ?_
    refine vc_iload_n dX12_by_24 rfl ?_
    refine vc_iastore dX12_by_25 (s_55 hB0.1.1) (by omega) (by omega) ?_
    refine vc_mem (sI M 55 6 t) rfl ?_
    have hB7 : BF fR M (sI M 55 6 t) := BF.a6 hB0 (by omega) (by omega)
    refine vc_iconst dX12_by_26 rfl ?_
    refine vc_zret dX12_by_27 rfl (by first | decide | omega) (Nat.le_of_ble_eq_true rfl) (Nat.le_of_ble_eq_true rfl) ?_
    refine ⟨_, rfl, hB7, by omega, by omega, fun S S' r9 hA hC => ?_⟩
    have c0 := hA.1.1.2.2.2.2.1
    rcases hC with ⟨hc, e1, e2⟩ | ⟨hc, e1, e2⟩
    · rw [e2]; exact ⟨by omega, AR_by hA (by omega) mI_same (fun j hj => by rw [mI_sI, if_neg (fun e => hj e.2)])⟩
    · exfalso; omega
  · refine vc_iconst dX12_by_16 rfl ?_
    refine vc_zret dX12_by_17 rfl (by first | decide | omega) (Nat.le_of_ble_eq_true rfl) (Nat.le_of_ble_eq_true rfl) ?_
    refine ⟨_, rfl, hB0, by omega, by omega, fun S S' r9 hA hC => ?_⟩
    have c0 := hA.1.1.2.2.2.2.1
    rcases hC with ⟨hc, e1, e2⟩ | ⟨hc, e1, e2⟩
    · exfalso; omega
    · rw [e2]; exact ⟨by omega, hA⟩

set_option maxRecDepth 4000 in
theorem sfX12_tellerF {l : Launch} {M : Mem} (hB : Box M)  (c : Int) (s : Int) (e : Int) (m : Int)  : Call l mdX12_teller [aR 54, aI c, aI s, aI e, aI m] M (fun q N => ∃ r : Int, q = some (aI r) ∧ BF fR M N ∧ mI N 57 = mI M 57 ∧ (∀ (S S' : Sw) (r9 : Int), AR (mI M 55) S → TellerS c s e m S S' r9 → r = r9 ∧ AR (mI N 55) S')) := by
  have hB0 : BF fR M M := BF.start hB
  refine Call.of [some (aR 54), some (aI c), some (aI s), some (aI e), some (aI m), none] rfl (Nat.le_of_ble_eq_true rfl) rfl ?_
  refine vc_ok (fun hoM hoS hoL => ?_)
  have hr1 : -2147483648 ≤ c ∧ c < 2147483648 := hoL 1 _ rfl
  have hr2 : -2147483648 ≤ s ∧ s < 2147483648 := hoL 2 _ rfl
  have hr3 : -2147483648 ≤ e ∧ e < 2147483648 := hoL 3 _ rfl
  have hr4 : -2147483648 ≤ m ∧ m < 2147483648 := hoL 4 _ rfl
  refine vc_aload_n dX12_teller_0 rfl ?_
  refine vc_iload_n dX12_teller_1 rfl ?_
  refine vc_cVI dX12_teller_2 (sfX12_isCornerF (M := M) hB0.1  c ) rfl okX12_isCorner viX12_isCorner lkX12_87 (s_54 hB0.1.1) cl_12 rfl (Nat.le_of_ble_eq_true rfl) ⟨rfl, rfl⟩ (Nat.le_of_ble_eq_true rfl) (Nat.le_of_ble_eq_true rfl) (Nat.le_of_ble_eq_true rfl) ?_
  rintro x1 _ ⟨rfl, h2, h3, h4, h5⟩
  refine vc_if_eq dX12_teller_5 (fun h6 => ?_) (fun h6 => ?_)
  · refine vc_iconst dX12_teller_50 rfl ?_
    refine vc_iret dX12_teller_51 rfl (Nat.le_of_ble_eq_true rfl) (Nat.le_of_ble_eq_true rfl) ?_
    refine ⟨_, rfl, hB0, rfl, fun S S' r9 hA hC => ?_⟩
    have c0 := hA.1.1.1
    have c2 := hA.1.1.2.2.1
    have hb := b55_2 hB
    rcases hC with ⟨hc, e1, e2⟩ | ⟨hc, e1, e2⟩
    · exfalso; unfold okTe at hc; omega
    · rw [e2]; exact ⟨by omega, hA⟩
  · refine vc_iload_n dX12_teller_8 rfl ?_
    refine vc_iconst dX12_teller_9 rfl ?_
    refine vc_bipush dX12_teller_10 rfl ?_
    refine vc_cSI dX12_teller_12 (sfX12_isInF (M := M) hB0.1  s 0 10 ) rfl okX12_isIn stX12_isIn lkX12_83 rfl (Nat.le_of_ble_eq_true rfl) ⟨rfl, rfl⟩ (Nat.le_of_ble_eq_true rfl) (Nat.le_of_ble_eq_true rfl) (Nat.le_of_ble_eq_true rfl) ?_
    rintro x7 _ ⟨rfl, h8, h9, h10⟩
    refine vc_if_eq dX12_teller_15 (fun h11 => ?_) (fun h11 => ?_)
    · refine vc_iconst dX12_teller_50 rfl ?_
      refine vc_iret dX12_teller_51 rfl (Nat.le_of_ble_eq_true rfl) (Nat.le_of_ble_eq_true rfl) ?_
      refine ⟨_, rfl, hB0, rfl, fun S S' r9 hA hC => ?_⟩
      have c0 := hA.1.1.1
      have c2 := hA.1.1.2.2.1
      have hb := b55_2 hB
      rcases hC with ⟨hc, e1, e2⟩ | ⟨hc, e1, e2⟩
      · exfalso; unfold okTe at hc; omega
      · rw [e2]; exact ⟨by omega, hA⟩
    · refine vc_iload_n dX12_teller_18 rfl ?_
      refine vc_iconst dX12_teller_19 rfl ?_
      refine vc_bipush dX12_teller_20 rfl ?_
      refine vc_cSI dX12_teller_22 (sfX12_isInF (M := M) hB0.1  e 0 10 ) rfl okX12_isIn stX12_isIn lkX12_83 rfl (Nat.le_of_ble_eq_true rfl) ⟨rfl, rfl⟩ (Nat.le_of_ble_eq_true rfl) (Nat.le_of_ble_eq_true rfl) (Nat.le_of_ble_eq_true rfl) ?_
      rintro x12 _ ⟨rfl, h13, h14, h15⟩
      refine vc_if_eq dX12_teller_25 (fun h16 => ?_) (fun h16 => ?_)
      · refine vc_iconst dX12_teller_50 rfl ?_
        refine vc_iret dX12_teller_51 rfl (Nat.le_of_ble_eq_true rfl) (Nat.le_of_ble_eq_true rfl) ?_
        refine ⟨_, rfl, hB0, rfl, fun S S' r9 hA hC => ?_⟩
        have c0 := hA.1.1.1
        have c2 := hA.1.1.2.2.1
        have hb := b55_2 hB
        rcases hC with ⟨hc, e1, e2⟩ | ⟨hc, e1, e2⟩
        · exfalso; unfold okTe at hc; omega
        · rw [e2]; exact ⟨by omega, hA⟩
      · refine vc_iload dX12_teller_28 rfl ?_
        refine vc_iconst dX12_teller_30 rfl ?_
        refine vc_bipush dX12_teller_31 rfl ?_
        refine vc_cSI dX12_teller_33 (sfX12_isInF (M := M) hB0.1  m 0 10 ) rfl okX12_isIn stX12_isIn lkX12_83 rfl (Nat.le_of_ble_eq_true rfl) ⟨rfl, rfl⟩ (Nat.le_of_ble_eq_true rfl) (Nat.le_of_ble_eq_true rfl) (Nat.le_of_ble_eq_true rfl) ?_
        rintro x17 _ ⟨rfl, h18, h19, h20⟩
        refine vc_if_eq dX12_teller_36 (fun h21 => ?_) (fun h21 => ?_)
        · refine vc_iconst dX12_teller_50 rfl ?_
          refine vc_iret dX12_teller_51 rfl (Nat.le_of_ble_eq_true rfl) (Nat.le_of_ble_eq_true rfl) ?_
          refine ⟨_, rfl, hB0, rfl, fun S S' r9 hA hC => ?_⟩
          have c0 := hA.1.1.1
          have c2 := hA.1.1.2.2.1
          have hb := b55_2 hB
          rcases hC with ⟨hc, e1, e2⟩ | ⟨hc, e1, e2⟩
          · exfalso; unfold okTe at hc; omega
          · rw [e2]; exact ⟨by omega, hA⟩
        · refine vc_aload_n dX12_teller_39 rfl ?_
          refine vc_getR dX12_teller_40 flX12_7 (s_54 hB0.1.1) rfl (r_54_0 hB0.1.1) ?_
          refine vc_iconst dX12_teller_43 rfl ?_
          refine vc_iaload dX12_teller_44 (s_55 hB0.1.1) (by omega) (by omega) ?_
          refine vc_topI (mI M 55 2) rfl ?_
          have k22 : 0 ≤ mI M 55 2 ∧ mI M 55 2 ≤ 6 := b55_2 (M := M) hB0.1
          refine vc_bipush dX12_teller_45 rfl ?_
          refine vc_icmp_ne dX12_teller_47 (fun h23 => ?_) (fun h23 => ?_)
          · refine vc_sipush dX12_teller_52 rfl ?_
            refine vc_iconst dX12_teller_55 rfl ?_
            refine vc_aload_n dX12_teller_56 rfl ?_
            refine vc_getR dX12_teller_57 flX12_7 (s_54 hB0.1.1) rfl (r_54_0 hB0.1.1) ?_
            refine vc_iconst dX12_teller_60 rfl ?_
            refine vc_iaload dX12_teller_61 (s_55 hB0.1.1) (by omega) (by omega) ?_
            refine vc_topI (mI M 55 2) rfl ?_
            refine vc_imulE dX12_teller_62 (by omega) (by omega) ?_
            refine vc_iaddE dX12_teller_63 (by omega) (by omega) ?_
            refine vc_nameI (fun x24 ex24 => ?_)
            refine vc_istore dX12_teller_64 (by decide) rfl (show _ = [some (aR 54), some (aI c), some (aI s), some (aI e), some (aI m), some (aI x24)] from rfl) ?_
            refine vc_aload_n dX12_teller_66 rfl ?_
            refine vc_getR dX12_teller_67 flX12_7 (s_54 hB0.1.1) rfl (r_54_0 hB0.1.1) ?_
            refine vc_iload dX12_teller_70 rfl ?_
            refine vc_iload_n dX12_teller_72 rfl ?_
            refine vc_iastore dX12_teller_73 (s_55 hB0.1.1) (by omega) (by omega) ?_
            have kp25 : mI (sI M 55 x24.toNat c) 57 = mI M 57 := (kp_sI rfl rfl)
            have hB26 : BF fR M (sI M 55 x24.toNat c) := BF.a (x := x24) hB0 (by omega) (by omega) (by unfold aB; refine ⟨?_, ?_, ?_, ?_, ?_, ?_, ?_, ?_, ?_, ?_, ?_, ?_, ?_, ?_, ?_, ?_, ?_, ?_⟩ <;> intros <;> omega) (by omega) (by omega) (by omega) (by omega) (by omega) (by omega) fR_55
            refine vc_aload_n dX12_teller_74 rfl ?_
            refine vc_getR dX12_teller_75 flX12_7 (s_54 hB26.1.1) rfl (r_54_0 hB26.1.1) ?_
            refine vc_iload dX12_teller_78 rfl ?_
            refine vc_iconst dX12_teller_80 rfl ?_
            refine vc_iaddE dX12_teller_81 (by omega) (by omega) ?_
            refine vc_iload_n dX12_teller_82 rfl ?_
            refine vc_iastore dX12_teller_83 (s_55 hB26.1.1) (by omega) (by omega) ?_
            have kp27 : mI (sI (sI M 55 x24.toNat c) 55 ((x24 + 1).toNat) s) 57 = mI M 57 := (kp_sI kp25 rfl)
            have hB28 : BF fR M (sI (sI M 55 x24.toNat c) 55 ((x24 + 1).toNat) s) := BF.a (x := x24 + 1) hB26 (by omega) (by omega) (by unfold aB; refine ⟨?_, ?_, ?_, ?_, ?_, ?_, ?_, ?_, ?_, ?_, ?_, ?_, ?_, ?_, ?_, ?_, ?_, ?_⟩ <;> intros <;> omega) (by omega) (by omega) (by omega) (by omega) (by omega) (by omega) fR_55
            refine vc_aload_n dX12_teller_84 rfl ?_
            refine vc_getR dX12_teller_85 flX12_7 (s_54 hB28.1.1) rfl (r_54_0 hB28.1.1) ?_
            refine vc_iload dX12_teller_88 rfl ?_
            refine vc_iconst dX12_teller_90 rfl ?_
            refine vc_iaddE dX12_teller_91 (by omega) (by omega) ?_
            refine vc_iload_n dX12_teller_92 rfl ?_
            refine vc_iastore dX12_teller_93 (s_55 hB28.1.1) (by omega) (by omega) ?_
            have kp29 : mI (sI (sI (sI M 55 x24.toNat c) 55 ((x24 + 1).toNat) s) 55 ((x24 + 2).toNat) e) 57 = mI M 57 := (kp_sI kp27 rfl)
            have hB30 : BF fR M (sI (sI (sI M 55 x24.toNat c) 55 ((x24 + 1).toNat) s) 55 ((x24 + 2).toNat) e) := BF.a (x := x24 + 2) hB28 (by omega) (by omega) (by unfold aB; refine ⟨?_, ?_, ?_, ?_, ?_, ?_, ?_, ?_, ?_, ?_, ?_, ?_, ?_, ?_, ?_, ?_, ?_, ?_⟩ <;> intros <;> omega) (by omega) (by omega) (by omega) (by omega) (by omega) (by omega) fR_55
            refine vc_aload_n dX12_teller_94 rfl ?_
            refine vc_getR dX12_teller_95 flX12_7 (s_54 hB30.1.1) rfl (r_54_0 hB30.1.1) ?_
            refine vc_iload dX12_teller_98 rfl ?_
            refine vc_iconst dX12_teller_100 rfl ?_
            refine vc_iaddE dX12_teller_101 (by omega) (by omega) ?_
            refine vc_iload dX12_teller_102 rfl ?_
            refine vc_iastore dX12_teller_104 (s_55 hB30.1.1) (by omega) (by omega) ?_
            have kp31 : mI (sI (sI (sI (sI M 55 x24.toNat c) 55 ((x24 + 1).toNat) s) 55 ((x24 + 2).toNat) e) 55 ((x24 + 3).toNat) m) 57 = mI M 57 := (kp_sI kp29 rfl)
            have hB32 : BF fR M (sI (sI (sI (sI M 55 x24.toNat c) 55 ((x24 + 1).toNat) s) 55 ((x24 + 2).toNat) e) 55 ((x24 + 3).toNat) m) := BF.a (x := x24 + 3) hB30 (by omega) (by omega) (by unfold aB; refine ⟨?_, ?_, ?_, ?_, ?_, ?_, ?_, ?_, ?_, ?_, ?_, ?_, ?_, ?_, ?_, ?_, ?_, ?_⟩ <;> intros <;> omega) (by omega) (by omega) (by omega) (by omega) (by omega) (by omega) fR_55
            refine vc_aload_n dX12_teller_105 rfl ?_
            refine vc_getR dX12_teller_106 flX12_7 (s_54 hB32.1.1) rfl (r_54_0 hB32.1.1) ?_
            refine vc_iload dX12_teller_109 rfl ?_
            refine vc_iconst dX12_teller_111 rfl ?_
            refine vc_iaddE dX12_teller_112 (by omega) (by omega) ?_
            refine vc_iconst dX12_teller_113 rfl ?_
            refine vc_iastore dX12_teller_114 (s_55 hB32.1.1) (by omega) (by omega) ?_
            have kp33 : mI (sI (sI (sI (sI (sI M 55 x24.toNat c) 55 ((x24 + 1).toNat) s) 55 ((x24 + 2).toNat) e) 55 ((x24 + 3).toNat) m) 55 ((x24 + 4).toNat) 0) 57 = mI M 57 := (kp_sI kp31 rfl)
            have hB34 : BF fR M (sI (sI (sI (sI (sI M 55 x24.toNat c) 55 ((x24 + 1).toNat) s) 55 ((x24 + 2).toNat) e) 55 ((x24 + 3).toNat) m) 55 ((x24 + 4).toNat) 0) := BF.a (x := x24 + 4) hB32 (by omega) (by omega) (by unfold aB; refine ⟨?_, ?_, ?_, ?_, ?_, ?_, ?_, ?_, ?_, ?_, ?_, ?_, ?_, ?_, ?_, ?_, ?_, ?_⟩ <;> intros <;> omega) (by omega) (by omega) (by omega) (by omega) (by omega) (by omega) fR_55
            refine vc_aload_n dX12_teller_115 rfl ?_
            refine vc_getR dX12_teller_116 flX12_7 (s_54 hB34.1.1) rfl (r_54_0 hB34.1.1) ?_
            refine vc_iconst dX12_teller_119 rfl ?_
            refine vc_dup2 dX12_teller_120 rfl rfl ?_
            refine vc_iaload dX12_teller_121 (s_55 hB34.1.1) (by omega) (by omega) ?_
            refine vc_topI (mI (sI (sI (sI (sI (sI M 55 x24.toNat c) 55 ((x24 + 1).toNat) s) 55 ((x24 + 2).toNat) e) 55 ((x24 + 3).toNat) m) 55 ((x24 + 4).toNat) 0) 55 2) rfl ?_
            have k35 : mI (sI (sI (sI (sI (sI M 55 x24.toNat c) 55 ((x24 + 1).toNat) s) 55 ((x24 + 2).toNat) e) 55 ((x24 + 3).toNat) m) 55 ((x24 + 4).toNat) 0) 55 2 = mI M 55 2 := by repeat rw [mI_sI, if_neg (by omega)]
            have k36 : 0 ≤ mI (sI (sI (sI (sI (sI M 55 x24.toNat c) 55 ((x24 + 1).toNat) s) 55 ((x24 + 2).toNat) e) 55 ((x24 + 3).toNat) m) 55 ((x24 + 4).toNat) 0) 55 2 ∧ mI (sI (sI (sI (sI (sI M 55 x24.toNat c) 55 ((x24 + 1).toNat) s) 55 ((x24 + 2).toNat) e) 55 ((x24 + 3).toNat) m) 55 ((x24 + 4).toNat) 0) 55 2 ≤ 6 := b55_2 (M := (sI (sI (sI (sI (sI M 55 x24.toNat c) 55 ((x24 + 1).toNat) s) 55 ((x24 + 2).toNat) e) 55 ((x24 + 3).toNat) m) 55 ((x24 + 4).toNat) 0)) hB34.1
            refine vc_iconst dX12_teller_122 rfl ?_
            refine vc_iaddE dX12_teller_123 (by omega) (by omega) ?_
            refine vc_iastore dX12_teller_124 (s_55 hB34.1.1) (by omega) (by omega) ?_
            refine vc_mem (sI (sI (sI (sI (sI (sI M 55 x24.toNat c) 55 ((x24 + 1).toNat) s) 55 ((x24 + 2).toNat) e) 55 ((x24 + 3).toNat) m) 55 ((x24 + 4).toNat) 0) 55 2 ((mI (sI (sI (sI (sI (sI M 55 x24.toNat c) 55 ((x24 + 1).toNat) s) 55 ((x24 + 2).toNat) e) 55 ((x24 + 3).toNat) m) 55 ((x24 + 4).toNat) 0) 55 2) + 1)) rfl ?_
            have kp37 : mI (sI (sI (sI (sI (sI (sI M 55 x24.toNat c) 55 ((x24 + 1).toNat) s) 55 ((x24 + 2).toNat) e) 55 ((x24 + 3).toNat) m) 55 ((x24 + 4).toNat) 0) 55 2 ((mI (sI (sI (sI (sI (sI M 55 x24.toNat c) 55 ((x24 + 1).toNat) s) 55 ((x24 + 2).toNat) e) 55 ((x24 + 3).toNat) m) 55 ((x24 + 4).toNat) 0) 55 2) + 1)) 57 = mI M 57 := (kp_sI kp33 rfl)
            have hB38 : BF fR M (sI (sI (sI (sI (sI (sI M 55 x24.toNat c) 55 ((x24 + 1).toNat) s) 55 ((x24 + 2).toNat) e) 55 ((x24 + 3).toNat) m) 55 ((x24 + 4).toNat) 0) 55 2 ((mI (sI (sI (sI (sI (sI M 55 x24.toNat c) 55 ((x24 + 1).toNat) s) 55 ((x24 + 2).toNat) e) 55 ((x24 + 3).toNat) m) 55 ((x24 + 4).toNat) 0) 55 2) + 1)) := BF.a (x := 2) hB34 (by omega) (by omega) (by unfold aB; refine ⟨?_, ?_, ?_, ?_, ?_, ?_, ?_, ?_, ?_, ?_, ?_, ?_, ?_, ?_, ?_, ?_, ?_, ?_⟩ <;> intros <;> omega) (by omega) (by omega) (by omega) (by omega) (by omega) (by omega) fR_55
            refine vc_aload_n dX12_teller_125 rfl ?_
            refine vc_getR dX12_teller_126 flX12_7 (s_54 hB38.1.1) rfl (r_54_0 hB38.1.1) ?_
            refine vc_iconst dX12_teller_129 rfl ?_
            refine vc_iaload dX12_teller_130 (s_55 hB38.1.1) (by omega) (by omega) ?_
            refine vc_topI ((mI (sI (sI (sI (sI (sI M 55 x24.toNat c) 55 ((x24 + 1).toNat) s) 55 ((x24 + 2).toNat) e) 55 ((x24 + 3).toNat) m) 55 ((x24 + 4).toNat) 0) 55 2) + 1) rfl ?_
            refine vc_iconst dX12_teller_131 rfl ?_
            refine vc_isubE dX12_teller_132 (by omega) (by omega) ?_
            refine vc_iret dX12_teller_133 rfl (Nat.le_of_ble_eq_true rfl) (Nat.le_of_ble_eq_true rfl) ?_
            refine ⟨_, rfl, hB38, kp37, fun S S' r9 hA hC => ?_⟩
            have c0 := hA.1.1.1
            have c2 := hA.1.1.2.2.1
            have hb := b55_2 hB
            rcases hC with ⟨hc, e1, e2⟩ | ⟨hc, e1, e2⟩
            · have z0 : mI (sI (sI (sI (sI (sI (sI M 55 x24.toNat c) 55 ((x24 + 1).toNat) s) 55 ((x24 + 2).toNat) e) 55 ((x24 + 3).toNat) m) 55 ((x24 + 4).toNat) 0) 55 2 ((mI (sI (sI (sI (sI (sI M 55 x24.toNat c) 55 ((x24 + 1).toNat) s) 55 ((x24 + 2).toNat) e) 55 ((x24 + 3).toNat) m) 55 ((x24 + 4).toNat) 0) 55 2) + 1)) 55 2 = mI M 55 2 + 1 := by rw [mI_same]; (repeat rw [mI_sI, if_neg (by omega)])
              rw [e2]
              exact ⟨by omega, AR_teller hA hc (by omega) (by rw [← c2]; first | (rw [mI_sI, if_neg (by omega), mI_sI, if_pos (by omega)]) | (rw [mI_sI, if_neg (by omega), mI_sI, if_neg (by omega), mI_sI, if_pos (by omega)]) | (rw [mI_sI, if_neg (by omega), mI_sI, if_neg (by omega), mI_sI, if_neg (by omega), mI_sI, if_pos (by omega)]) | (rw [mI_sI, if_neg (by omega), mI_sI, if_neg (by omega), mI_sI, if_neg (by omega), mI_sI, if_neg (by omega), mI_sI, if_pos (by omega)]) | (rw [mI_sI, if_neg (by omega), mI_sI, if_neg (by omega), mI_sI, if_neg (by omega), mI_sI, if_neg (by omega), mI_sI, if_neg (by omega), mI_sI, if_pos (by omega)])) (by rw [← c2]; first | (rw [mI_sI, if_neg (by omega), mI_sI, if_pos (by omega)]) | (rw [mI_sI, if_neg (by omega), mI_sI, if_neg (by omega), mI_sI, if_pos (by omega)]) | (rw [mI_sI, if_neg (by omega), mI_sI, if_neg (by omega), mI_sI, if_neg (by omega), mI_sI, if_pos (by omega)]) | (rw [mI_sI, if_neg (by omega), mI_sI, if_neg (by omega), mI_sI, if_neg (by omega), mI_sI, if_neg (by omega), mI_sI, if_pos (by omega)]) | (rw [mI_sI, if_neg (by omega), mI_sI, if_neg (by omega), mI_sI, if_neg (by omega), mI_sI, if_neg (by omega), mI_sI, if_neg (by omega), mI_sI, if_pos (by omega)])) (by rw [← c2]; first | (rw [mI_sI, if_neg (by omega), mI_sI, if_pos (by omega)]) | (rw [mI_sI, if_neg (by omega), mI_sI, if_neg (by omega), mI_sI, if_pos (by omega)]) | (rw [mI_sI, if_neg (by omega), mI_sI, if_neg (by omega), mI_sI, if_neg (by omega), mI_sI, if_pos (by omega)]) | (rw [mI_sI, if_neg (by omega), mI_sI, if_neg (by omega), mI_sI, if_neg (by omega), mI_sI, if_neg (by omega), mI_sI, if_pos (by omega)]) | (rw [mI_sI, if_neg (by omega), mI_sI, if_neg (by omega), mI_sI, if_neg (by omega), mI_sI, if_neg (by omega), mI_sI, if_neg (by omega), mI_sI, if_pos (by omega)])) (by rw [← c2]; first | (rw [mI_sI, if_neg (by omega), mI_sI, if_pos (by omega)]) | (rw [mI_sI, if_neg (by omega), mI_sI, if_neg (by omega), mI_sI, if_pos (by omega)]) | (rw [mI_sI, if_neg (by omega), mI_sI, if_neg (by omega), mI_sI, if_neg (by omega), mI_sI, if_pos (by omega)]) | (rw [mI_sI, if_neg (by omega), mI_sI, if_neg (by omega), mI_sI, if_neg (by omega), mI_sI, if_neg (by omega), mI_sI, if_pos (by omega)]) | (rw [mI_sI, if_neg (by omega), mI_sI, if_neg (by omega), mI_sI, if_neg (by omega), mI_sI, if_neg (by omega), mI_sI, if_neg (by omega), mI_sI, if_pos (by omega)])) (by rw [← c2]; first | (rw [mI_sI, if_neg (by omega), mI_sI, if_pos (by omega)]) | (rw [mI_sI, if_neg (by omega), mI_sI, if_neg (by omega), mI_sI, if_pos (by omega)]) | (rw [mI_sI, if_neg (by omega), mI_sI, if_neg (by omega), mI_sI, if_neg (by omega), mI_sI, if_pos (by omega)]) | (rw [mI_sI, if_neg (by omega), mI_sI, if_neg (by omega), mI_sI, if_neg (by omega), mI_sI, if_neg (by omega), mI_sI, if_pos (by omega)]) | (rw [mI_sI, if_neg (by omega), mI_sI, if_neg (by omega), mI_sI, if_neg (by omega), mI_sI, if_neg (by omega), mI_sI, if_neg (by omega), mI_sI, if_pos (by omega)])) (fun j j0 j1 => by rw [← c2] at j1; rw [mI_sI, if_neg (by omega), mI_sI, if_neg (by omega), mI_sI, if_neg (by omega), mI_sI, if_neg (by omega), mI_sI, if_neg (by omega), mI_sI, if_neg (by omega)])⟩
            · exfalso; apply hc; unfold okTe; omega
          · refine vc_iconst dX12_teller_50 rfl ?_
            refine vc_iret dX12_teller_51 rfl (Nat.le_of_ble_eq_true rfl) (Nat.le_of_ble_eq_true rfl) ?_
            refine ⟨_, rfl, hB0, rfl, fun S S' r9 hA hC => ?_⟩
            have c0 := hA.1.1.1
            have c2 := hA.1.1.2.2.1
            have hb := b55_2 hB
            rcases hC with ⟨hc, e1, e2⟩ | ⟨hc, e1, e2⟩
            · exfalso; unfold okTe at hc; omega
            · rw [e2]; exact ⟨by omega, hA⟩

