/-! THE LAWS of the class (written by wip/laws2/c10a.py) -/
theorem cS_c {M : Mem} {t : Nat} (h : t < 10) (j : Nat) : cS M (1000 + t) j = ofA M (txA M t 0) j := by
  rw [cS_tx (by omega)]
  unfold cTx
  rw [if_pos (by omega), show 1000 + t - 1000 = t by omega]
theorem cS_e {M : Mem} {t : Nat} (h : t < 10) (j : Nat) : cS M (1010 + t) j = ofA M (txA M t 1) j := by
  rw [cS_tx (by omega)]
  unfold cTx
  rw [if_neg (by omega), if_pos (by omega), show 1010 + t - 1010 = t by omega]
theorem cS_l {M : Mem} {t : Nat} (h : t < 10) (j : Nat) : cS M (1020 + t) j = lnA M (txA M t 0) := by
  rw [cS_tx (by omega)]
  unfold cTx
  rw [if_neg (by omega), if_neg (by omega), show 1020 + t - 1020 = t by omega]
theorem ru_no {M : Mem} {w : Int} (h4 : mI M 1 10 ≤ 4) (h : ¬ (0 ≤ mI M 1 11 ∧ mI M 1 11 < mI M 1 10) ∨ mR M 7 (mI M 1 11).toNat = none) : ¬ ruS (cS M) w := by
  rintro ⟨a, b, c⟩
  have a : 0 ≤ mI M 1 11 := a
  have b : mI M 1 11 < mI M 1 10 := b
  rcases h with h | h
  · exact h ⟨a, b⟩
  · apply c
    show cS M (1010 + (mI M 1 11).toNat) _ = -1
    rw [cS_e (by omega)]
    unfold txA
    rw [h]
    rfl
/-- a text that rules and is there -/
theorem law_y {M : Mem} (hB : Box M) (hw : wfL (cS M)) {y : Nat} (t0 : 0 ≤ mI M 1 11) (t1 : mI M 1 11 < mI M 1 10) (h4 : mI M 1 10 ≤ 4) (hy : mR M 7 (mI M 1 11).toNat = some y) {w : Int} (w0 : 0 ≤ w) (w4 : w ≤ 4) : ((∀ b, mR M y 1 = some b → mI M b (2 * w).toNat = -1) → ¬ ruS (cS M) w) ∧ ((∀ b, mR M y 1 = some b → mI M b (2 * w).toNat ≠ -1) → ruS (cS M) w ∧ ∃ c, rgO w c ∧ LcY M y w c ∧ ∀ nm, evKV nm (tLw (cS M) (mI M 1 11).toNat w.toNat) = evKV nm c) := by
  obtain ⟨y1, y2, _, a, b, c2, n, m, q0, q1, _, q3, q4, _, q6, q7, _⟩ := hB.2.2.1 7 (mI M 1 11).toNat y (Or.inl rfl) hy
  have ea : txA M (mI M 1 11).toNat 0 = some a := by unfold txA; rw [hy]; exact q0
  have eb : txA M (mI M 1 11).toNat 1 = some b := by unfold txA; rw [hy]; exact q1
  have fa : ∀ j, cS M (1000 + (mI M 1 11).toNat) j = mI M a j := fun j => by rw [cS_c (by omega), ea]; exact if_pos q3
  have fb : ∀ j, cS M (1010 + (mI M 1 11).toNat) j = mI M b j := fun j => by rw [cS_e (by omega), eb]; exact if_pos q4
  have fl : cS M (1020 + (mI M 1 11).toNat) 0 = n := by
    rw [cS_l (by omega), ea]
    unfold lnA
    dsimp only
    rw [q6]
  refine ⟨fun h hr => hr.2.2 ?_, fun h => ?_⟩
  · show cS M (1010 + (mI M 1 11).toNat) _ = -1
    rw [fb]
    exact h b q1
  · have hne := h b q1
    refine ⟨⟨t0, t1, by show cS M (1010 + (mI M 1 11).toNat) _ ≠ -1; rw [fb]; exact hne⟩, ?_⟩
    have z := hw (mI M 1 11).toNat (by show _ < mI M 1 10; omega) w.toNat (by omega)
    unfold wfL1 at z
    rw [fb, fb, fl, show 2 * w.toNat = (2 * w).toNat by omega, show (2 * w).toNat + 1 = (2 * w + 1).toNat by omega, show ((w.toNat : Int)) = w by omega] at z
    obtain ⟨c, z1, z2, z3, z4, z5, z6⟩ := z hne
    refine ⟨c, z1, ⟨a, b, n, q0, q1, q6, z1, z2, z3, z4, z5, fun i hi => by rw [← fa]; exact z6 i hi⟩, fun nm => ?_⟩
    unfold tLw
    rw [fb, fb, show 2 * w.toNat = (2 * w).toNat by omega, show (2 * w).toNat + 1 = (2 * w + 1).toNat by omega, show (mI M b (2 * w + 1).toNat - mI M b (2 * w).toNat).toNat = c.length by omega]
    exact lsC_V z1 z6
set_option maxRecDepth 4000 in
theorem sfX11_heldF {l : Launch} {M : Mem} (hB : Box M)  (v : Int) (lo : Int) (hi : Int)  : Call l mdX11_held [aI v, aI lo, aI hi] M (fun q N => ∃ r : Int, q = some (aI r) ∧ M = N ∧ r = clS lo hi v) := by
  have hB0 : BF fQ M M := BF.start hB
  refine Call.of [some (aI v), some (aI lo), some (aI hi)] rfl (Nat.le_of_ble_eq_true rfl) rfl ?_
  refine vc_ok (fun hoM hoS hoL => ?_)
  have hr0 : -2147483648 ≤ v ∧ v < 2147483648 := hoL 0 _ rfl
  have hr1 : -2147483648 ≤ lo ∧ lo < 2147483648 := hoL 1 _ rfl
  have hr2 : -2147483648 ≤ hi ∧ hi < 2147483648 := hoL 2 _ rfl
  refine vc_iload_n dX11_held_0 rfl ?_
  refine vc_iload_n dX11_held_1 rfl ?_
  refine vc_iload_n dX11_held_2 rfl ?_
  refine vc_mminI dX11_held_3 lkX11_359 (Nat.le_of_ble_eq_true rfl) (Nat.le_of_ble_eq_true rfl) (Nat.le_of_ble_eq_true rfl) ?_
  have k1 := minZ_bd hi v
  refine vc_mmaxI dX11_held_6 lkX11_362 (Nat.le_of_ble_eq_true rfl) (Nat.le_of_ble_eq_true rfl) (Nat.le_of_ble_eq_true rfl) ?_
  have k2 := maxZ_bd lo (minZ hi v)
  refine vc_iret dX11_held_9 rfl (Nat.le_of_ble_eq_true rfl) (Nat.le_of_ble_eq_true rfl) ?_
  exact ⟨_, rfl, rfl, by rfl⟩

set_option maxRecDepth 4000 in
theorem sfX6_textOfF {l : Launch} {M : Mem} (hB : Box M)  (t : Int)  : Call l mdX6_textOf [aR 1, aI t] M (fun q N => ∃ r : Option Nat, q = some (.inr (.inr r)) ∧ M = N ∧ (∀ y, r = some y → TxO M y) ∧ (((0 ≤ t ∧ t < mI M 1 10) ∧ r = mR M 7 t.toNat) ∨ (¬ (0 ≤ t ∧ t < mI M 1 10) ∧ r = none))) := by
  have hB0 : BF fQ M M := BF.start hB
  refine Call.of [some (aR 1), some (aI t)] rfl (Nat.le_of_ble_eq_true rfl) rfl ?_
  refine vc_ok (fun hoM hoS hoL => ?_)
  have hr1 : -2147483648 ≤ t ∧ t < 2147483648 := hoL 1 _ rfl
  refine vc_iload_n dX6_textOf_0 rfl ?_
  refine vc_if_lt dX6_textOf_1 (fun h1 => ?_) (fun h1 => ?_)
  · refine vc_null dX6_textOf_21 ?_
    refine vc_aret dX6_textOf_22 rfl (Nat.le_of_ble_eq_true rfl) (Nat.le_of_ble_eq_true rfl) ?_
    exact ⟨_, rfl, rfl, (fun y hy => by cases hy), Or.inr ⟨by omega, rfl⟩⟩
  · refine vc_iload_n dX6_textOf_4 rfl ?_
    refine vc_aload_n dX6_textOf_5 rfl ?_
    refine vc_getI dX6_textOf_6 flX6_61 (s_1 hB0.1.1) rfl ?_
    have k2 : 0 ≤ mI M 1 10 ∧ mI M 1 10 ≤ 4 := b1_10 (M := M) hB0.1
    refine vc_icmp_ge dX6_textOf_9 (fun h3 => ?_) (fun h3 => ?_)
    · refine vc_null dX6_textOf_21 ?_
      refine vc_aret dX6_textOf_22 rfl (Nat.le_of_ble_eq_true rfl) (Nat.le_of_ble_eq_true rfl) ?_
      exact ⟨_, rfl, rfl, (fun y hy => by cases hy), Or.inr ⟨by omega, rfl⟩⟩
    · refine vc_aload_n dX6_textOf_12 rfl ?_
      refine vc_getR dX6_textOf_13 flX6_29 (s_1 hB0.1.1) rfl (r_1_5 hB0.1.1) ?_
      refine vc_iload_n dX6_textOf_16 rfl ?_
      refine vc_aaload dX6_textOf_17 (s_7 hB0.1.1) (by omega) (by omega) ?_
      refine vc_nameO (fun o4 eo4 => ?_)
      refine vc_goto dX6_textOf_18 ?_
      refine vc_aret dX6_textOf_22 rfl (Nat.le_of_ble_eq_true rfl) (Nat.le_of_ble_eq_true rfl) ?_
      exact ⟨_, rfl, rfl, hB0.tx (Or.inl rfl) eo4, Or.inl ⟨by omega, eo4⟩⟩

set_option maxRecDepth 4000 in
theorem sfX6_laneAtF {l : Launch} {M : Mem} (hB : Box M)  (c : Int) (d : Int)  : Call l mdX6_laneAt [aR 1, aI c, aI d] M (fun q N => ∃ r : Int, q = some (aI r) ∧ M = N ∧ r = laI (cS M) c d) := by
  have hB0 : BF fQ M M := BF.start hB
  refine Call.of [some (aR 1), some (aI c), some (aI d)] rfl (Nat.le_of_ble_eq_true rfl) rfl ?_
  refine vc_ok (fun hoM hoS hoL => ?_)
  have hr1 : -2147483648 ≤ c ∧ c < 2147483648 := hoL 1 _ rfl
  have hr2 : -2147483648 ≤ d ∧ d < 2147483648 := hoL 2 _ rfl
  have e16 : cS M 1 6 = mI M 1 6 := rfl
  refine vc_iload_n dX6_laneAt_0 rfl ?_
  refine vc_if_lt dX6_laneAt_1 (fun h1 => ?_) (fun h1 => ?_)
  · refine vc_iconst dX6_laneAt_27 rfl ?_
    refine vc_iret dX6_laneAt_28 rfl (Nat.le_of_ble_eq_true rfl) (Nat.le_of_ble_eq_true rfl) ?_
    exact ⟨_, rfl, rfl, by unfold laI; first | (rw [if_pos (by omega)]; rfl) | (rw [if_neg (by omega)])⟩
  · refine vc_iload_n dX6_laneAt_4 rfl ?_
    refine vc_aload_n dX6_laneAt_5 rfl ?_
    refine vc_getI dX6_laneAt_6 flX6_52 (s_1 hB0.1.1) rfl ?_
    have k2 : 0 ≤ mI M 1 6 ∧ mI M 1 6 ≤ 16 := b1_6 (M := M) hB0.1
    refine vc_icmp_ge dX6_laneAt_9 (fun h3 => ?_) (fun h3 => ?_)
    · refine vc_iconst dX6_laneAt_27 rfl ?_
      refine vc_iret dX6_laneAt_28 rfl (Nat.le_of_ble_eq_true rfl) (Nat.le_of_ble_eq_true rfl) ?_
      exact ⟨_, rfl, rfl, by unfold laI; first | (rw [if_pos (by omega)]; rfl) | (rw [if_neg (by omega)])⟩
    · refine vc_aload_n dX6_laneAt_12 rfl ?_
      refine vc_getR dX6_laneAt_13 flX6_18 (s_1 hB0.1.1) rfl (r_1_2 hB0.1.1) ?_
      refine vc_iconst dX6_laneAt_16 rfl ?_
      refine vc_iload_n dX6_laneAt_17 rfl ?_
      refine vc_imulE dX6_laneAt_18 (by omega) (by omega) ?_
      refine vc_iload_n dX6_laneAt_19 rfl ?_
      refine vc_iconst dX6_laneAt_20 rfl ?_
      refine vc_iandM dX6_laneAt_21 4 2 rfl (by decide) rfl ?_
      refine vc_iaddE dX6_laneAt_22 (by omega) (by omega) ?_
      refine vc_iaload dX6_laneAt_23 (s_4 hB0.1.1) (by omega) (by omega) ?_
      refine vc_goto dX6_laneAt_24 ?_
      refine vc_iret dX6_laneAt_28 rfl (Nat.le_of_ble_eq_true rfl) (Nat.le_of_ble_eq_true rfl) ?_
      exact ⟨_, rfl, rfl, by unfold laI; first | (rw [if_pos (by omega)]; rfl) | (rw [if_neg (by omega)])⟩

set_option maxRecDepth 4000 in
theorem sfX2_nameTellerF {l : Launch} {M : Mem} (hB : Box M)  (t : Int) (p0 : 0 ≤ t) (p1 : t < mI M 1 8) : Call l mdX2_nameTeller [aR 29, aI t] M (fun q N => q = none ∧ BF fS M N ∧ mI N 32 = mI M 32 ∧ mI N 33 = mI M 33 ∧ mI N 30 0 = t ∧ mI N 30 1 = mI M 5 (4 * t).toNat ∧ mI N 30 2 = mI M 16 (4 + t).toNat) := by
  have hB0 : BF fS M M := BF.start hB
  refine Call.of [some (aR 29), some (aI t)] rfl (Nat.le_of_ble_eq_true rfl) rfl ?_
  refine vc_ok (fun hoM hoS hoL => ?_)
  have hr1 : -2147483648 ≤ t ∧ t < 2147483648 := hoL 1 _ rfl
  refine vc_aload_n dX2_nameTeller_0 rfl ?_
  refine vc_getR dX2_nameTeller_1 flX2_19 (s_29 hB0.1.1) rfl (r_29_2 hB0.1.1) ?_
  refine vc_iconst dX2_nameTeller_4 rfl ?_
  refine vc_iload_n dX2_nameTeller_5 rfl ?_
  refine vc_iastore dX2_nameTeller_6 (s_30 hB0.1.1) (by omega) (by omega) ?_
  refine vc_mem (sI M 30 0 t) rfl ?_
  have kp1 : mI (sI M 30 0 t) 32 = mI M 32 := (kp_sI rfl rfl)
  have kp2 : mI (sI M 30 0 t) 33 = mI M 33 := (kp_sI rfl rfl)
  have hB3 : BF fS M (sI M 30 0 t) := BF.w30 hB0 (fun _ => rfl) _
  refine vc_aload_n dX2_nameTeller_7 rfl ?_
  refine vc_getR dX2_nameTeller_8 flX2_19 (s_29 hB3.1.1) rfl (r_29_2 hB3.1.1) ?_
  refine vc_iconst dX2_nameTeller_11 rfl ?_
  refine vc_aload_n dX2_nameTeller_12 rfl ?_
  refine vc_getR dX2_nameTeller_13 flX2_9 (s_29 hB3.1.1) rfl (r_29_0 hB3.1.1) ?_
  refine vc_iload_n dX2_nameTeller_16 rfl ?_
  refine vc_iconst dX2_nameTeller_17 rfl ?_
  have k184 : mI (sI M 30 0 t) 1 8 = mI M 1 8 := rfl
  refine vc_cVI dX2_nameTeller_18 (sfX6_tellerCellF (M := (sI M 30 0 t)) hB3.1  t 0 ) rfl okX6_tellerCell viX6_tellerCell lkX2_32 (s_1 hB3.1.1) cl_6 rfl (Nat.le_of_ble_eq_true rfl) ⟨rfl, rfl⟩ (Nat.le_of_ble_eq_true rfl) (Nat.le_of_ble_eq_true rfl) (Nat.le_of_ble_eq_true rfl) ?_
  rintro x5 _ ⟨rfl, h6⟩
  have q1 : x5 = mI M 5 (4 * t).toNat := by have z : x5 = mI (sI M 30 0 t) 5 (4 * t + 0).toNat := (by omega); rw [z, Int.add_zero]; rfl
  refine vc_iastore dX2_nameTeller_21 (s_30 hB3.1.1) (by omega) (by omega) ?_
  refine vc_mem (sI (sI M 30 0 t) 30 1 x5) rfl ?_
  have kp7 : mI (sI (sI M 30 0 t) 30 1 x5) 32 = mI M 32 := (kp_sI kp1 rfl)
  have kp8 : mI (sI (sI M 30 0 t) 30 1 x5) 33 = mI M 33 := (kp_sI kp2 rfl)
  have hB9 : BF fS M (sI (sI M 30 0 t) 30 1 x5) := BF.w30 hB3 (fun _ => rfl) _
  refine vc_aload_n dX2_nameTeller_22 rfl ?_
  refine vc_getR dX2_nameTeller_23 flX2_19 (s_29 hB9.1.1) rfl (r_29_2 hB9.1.1) ?_
  refine vc_iconst dX2_nameTeller_26 rfl ?_
  refine vc_aload_n dX2_nameTeller_27 rfl ?_
  refine vc_getR dX2_nameTeller_28 flX2_9 (s_29 hB9.1.1) rfl (r_29_0 hB9.1.1) ?_
  refine vc_iload_n dX2_nameTeller_31 rfl ?_
  have k1810 : mI (sI (sI M 30 0 t) 30 1 x5) 1 8 = mI M 1 8 := rfl
  refine vc_cVI dX2_nameTeller_32 (sfX6_hasTellerF (M := (sI (sI M 30 0 t) 30 1 x5)) hB9.1  t ) rfl okX6_hasTeller viX6_hasTeller lkX2_71 (s_1 hB9.1.1) cl_6 rfl (Nat.le_of_ble_eq_true rfl) ⟨rfl, rfl⟩ (Nat.le_of_ble_eq_true rfl) (Nat.le_of_ble_eq_true rfl) (Nat.le_of_ble_eq_true rfl) ?_
  rintro x11 _ ⟨rfl, h12, h13, h14, h15⟩
  refine vc_if_eq dX2_nameTeller_35 (fun h16 => ?_) (fun h16 => ?_)
  · refine vc_iconst dX2_nameTeller_52 rfl ?_
    refine vc_iastore dX2_nameTeller_53 (s_30 hB9.1.1) (by omega) (by omega) ?_
    refine vc_mem (sI (sI (sI M 30 0 t) 30 1 x5) 30 2 0) rfl ?_
    have kp17 : mI (sI (sI (sI M 30 0 t) 30 1 x5) 30 2 0) 32 = mI M 32 := (kp_sI kp7 rfl)
    have kp18 : mI (sI (sI (sI M 30 0 t) 30 1 x5) 30 2 0) 33 = mI M 33 := (kp_sI kp8 rfl)
    have hB19 : BF fS M (sI (sI (sI M 30 0 t) 30 1 x5) 30 2 0) := BF.w30 hB9 (fun _ => rfl) _
    refine vc_vret dX2_nameTeller_54 rfl (Nat.le_of_ble_eq_true rfl) (Nat.le_of_ble_eq_true rfl) ?_
    exact ⟨rfl, hB19, kp17, kp18, by first | rfl | (exfalso; omega), by first | exact q1 | (exfalso; omega), by first | rfl | (exfalso; omega)⟩
  · refine vc_aload_n dX2_nameTeller_38 rfl ?_
    refine vc_getR dX2_nameTeller_39 flX2_15 (s_29 hB9.1.1) rfl (r_29_1 hB9.1.1) ?_
    refine vc_getR dX2_nameTeller_42 flX2_74 (s_15 hB9.1.1) rfl (r_15_0 hB9.1.1) ?_
    refine vc_iconst dX2_nameTeller_45 rfl ?_
    refine vc_iload_n dX2_nameTeller_46 rfl ?_
    refine vc_iaddE dX2_nameTeller_47 (by omega) (by omega) ?_
    refine vc_iaload dX2_nameTeller_48 (s_16 hB9.1.1) (by omega) (by omega) ?_
    refine vc_topI (mI M 16 ((4 + t).toNat)) rfl ?_
    refine vc_goto dX2_nameTeller_49 ?_
    refine vc_iastore dX2_nameTeller_53 (s_30 hB9.1.1) (by omega) (by omega) ?_
    refine vc_mem (sI (sI (sI M 30 0 t) 30 1 x5) 30 2 (mI M 16 ((4 + t).toNat))) rfl ?_
    have kp20 : mI (sI (sI (sI M 30 0 t) 30 1 x5) 30 2 (mI M 16 ((4 + t).toNat))) 32 = mI M 32 := (kp_sI kp7 rfl)
    have kp21 : mI (sI (sI (sI M 30 0 t) 30 1 x5) 30 2 (mI M 16 ((4 + t).toNat))) 33 = mI M 33 := (kp_sI kp8 rfl)
    have hB22 : BF fS M (sI (sI (sI M 30 0 t) 30 1 x5) 30 2 (mI M 16 ((4 + t).toNat))) := BF.w30 hB9 (fun _ => rfl) _
    refine vc_vret dX2_nameTeller_54 rfl (Nat.le_of_ble_eq_true rfl) (Nat.le_of_ble_eq_true rfl) ?_
    exact ⟨rfl, hB22, kp20, kp21, by first | rfl | (exfalso; omega), by first | exact q1 | (exfalso; omega), by first | rfl | (exfalso; omega)⟩

set_option maxRecDepth 4000 in
theorem sfX2_paceF {l : Launch} {M : Mem} (hB : Box M)  (c : Int) (d : Int) (p0 : wfL (cS M)) : Call l mdX2_pace [aR 29, aI c, aI d] M (fun q N => ∃ r : Int, q = some (aI r) ∧ BF fS M N ∧ mI N 32 = mI M 32 ∧ mI N 33 = mI M 33 ∧ r = paS (cS M) c d) := by
  have hB0 : BF fS M M := BF.start hB
  refine Call.of [some (aR 29), some (aI c), some (aI d), none] rfl (Nat.le_of_ble_eq_true rfl) rfl ?_
  refine vc_ok (fun hoM hoS hoL => ?_)
  have hr1 : -2147483648 ≤ c ∧ c < 2147483648 := hoL 1 _ rfl
  have hr2 : -2147483648 ≤ d ∧ d < 2147483648 := hoL 2 _ rfl
  refine vc_aload_n dX2_pace_0 rfl ?_
  refine vc_getR dX2_pace_1 flX2_9 (s_29 hB0.1.1) rfl (r_29_0 hB0.1.1) ?_
  refine vc_aload_n dX2_pace_4 rfl ?_
  refine vc_getR dX2_pace_5 flX2_9 (s_29 hB0.1.1) rfl (r_29_0 hB0.1.1) ?_
  refine vc_getI dX2_pace_8 flX2_35 (s_1 hB0.1.1) rfl ?_
  refine vc_cVO dX2_pace_11 (sfX6_textOfF (M := M) hB0.1  (mI M 1 11) ) rfl okX6_textOf viX6_textOf lkX2_39 (s_1 hB0.1.1) cl_6 rfl (Nat.le_of_ble_eq_true rfl) ⟨rfl, rfl⟩ (Nat.le_of_ble_eq_true rfl) (Nat.le_of_ble_eq_true rfl) (Nat.le_of_ble_eq_true rfl) ?_
  rintro o1 _ ⟨rfl, h2, h3⟩
  refine vc_astore_n dX2_pace_14 (by decide) rfl (show _ = [some (aR 29), some (aI c), some (aI d), some (.inr (.inr o1))] from rfl) ?_
  refine vc_aload_n dX2_pace_15 rfl ?_
  refine vc_ifnull dX2_pace_16 (fun h4 => ?_) (fun h4 => ?_)
  · subst h4
    refine vc_bipush dX2_pace_27 rfl ?_
    refine vc_iret dX2_pace_29 rfl (Nat.le_of_ble_eq_true rfl) (Nat.le_of_ble_eq_true rfl) ?_
    exact ⟨_, rfl, hB0, rfl, rfl, by unfold paS; rw [lwS_n (ru_no (b1_10 hB).2 (by rcases h3 with h | h; (exact Or.inr h.2.symm); (exact Or.inl h.1)))]; first | done | rfl⟩
  · obtain ⟨y5, h4⟩ := Option.ne_none_iff_exists'.mp h4
    subst h4
    have t6 : TxO M y5 := h2 y5 rfl
    obtain ⟨q12, q13, q26, ta7, tb8, tc9, tn10, tm11, q14, q15, q16, q17, q18, q19, q20, q21, q22, q23, q24, q25⟩ := id t6
    refine vc_aload_n dX2_pace_19 rfl ?_
    refine vc_iconst dX2_pace_20 rfl ?_
    have hyy : (0 ≤ mI M 1 11 ∧ mI M 1 11 < mI M 1 10) ∧ mR M 7 (mI M 1 11).toNat = some y5 := by rcases h3 with h | h; (exact ⟨h.1, h.2.symm⟩); (exact absurd h.2 (by simp))
    obtain ⟨hly1, hly2⟩ := law_y hB p0 hyy.1.1 hyy.1.2 (b1_10 hB).2 hyy.2 (w := 3) (by omega) (by omega)
    refine vc_cVI dX2_pace_21 (sfX5_rulesF (M := M) hB0.1  y5 3 (by omega) (by omega) ((t6).dy hB0.2)) rfl okX5_rules viX5_rules lkX2_43 (hB0.2.sh q12 q13) cl_5 rfl (Nat.le_of_ble_eq_true rfl) ⟨rfl, rfl⟩ (Nat.le_of_ble_eq_true rfl) (Nat.le_of_ble_eq_true rfl) (Nat.le_of_ble_eq_true rfl) ?_
    rintro x27 _ ⟨rfl, h28, h29, h30⟩
    have hru := h30
    refine vc_if_ne dX2_pace_24 (fun h31 => ?_) (fun h31 => ?_)
    · refine vc_aload_n dX2_pace_30 rfl ?_
      refine vc_getR dX2_pace_31 flX2_19 (s_29 hB0.1.1) rfl (r_29_2 hB0.1.1) ?_
      refine vc_bipush dX2_pace_34 rfl ?_
      refine vc_aload_n dX2_pace_36 rfl ?_
      refine vc_getR dX2_pace_37 flX2_9 (s_29 hB0.1.1) rfl (r_29_0 hB0.1.1) ?_
      refine vc_iload_n dX2_pace_40 rfl ?_
      refine vc_iload_n dX2_pace_41 rfl ?_
      refine vc_cVI dX2_pace_42 (sfX6_laneAtF (M := M) hB0.1  c d ) rfl okX6_laneAt viX6_laneAt lkX2_61 (s_1 hB0.1.1) cl_6 rfl (Nat.le_of_ble_eq_true rfl) ⟨rfl, rfl⟩ (Nat.le_of_ble_eq_true rfl) (Nat.le_of_ble_eq_true rfl) (Nat.le_of_ble_eq_true rfl) ?_
      rintro x32 _ ⟨rfl, h33⟩
      have hcm34 : cS M = cS M := cS_bf hB hB0
      have q_la : x32 = laI (cS M) c d := h33.trans (by rw [hcm34])
      refine vc_iastore dX2_pace_45 (s_30 hB0.1.1) (by omega) (by omega) ?_
      refine vc_mem (sI M 30 6 x32) rfl ?_
      have kp35 : mI (sI M 30 6 x32) 32 = mI M 32 := (kp_sI rfl rfl)
      have kp36 : mI (sI M 30 6 x32) 33 = mI M 33 := (kp_sI rfl rfl)
      have hB37 : BF fS M (sI M 30 6 x32) := BF.w30 hB0 (fun _ => rfl) _
      refine vc_aload_n dX2_pace_46 rfl ?_
      refine vc_getR dX2_pace_47 flX2_19 (s_29 hB37.1.1) rfl (r_29_2 hB37.1.1) ?_
      refine vc_bipush dX2_pace_50 rfl ?_
      refine vc_aload_n dX2_pace_52 rfl ?_
      refine vc_getR dX2_pace_53 flX2_9 (s_29 hB37.1.1) rfl (r_29_0 hB37.1.1) ?_
      refine vc_aload_n dX2_pace_56 rfl ?_
      refine vc_getR dX2_pace_57 flX2_9 (s_29 hB37.1.1) rfl (r_29_0 hB37.1.1) ?_
      refine vc_iload_n dX2_pace_60 rfl ?_
      refine vc_iload_n dX2_pace_61 rfl ?_
      refine vc_cVI dX2_pace_62 (sfX6_aheadF (M := (sI M 30 6 x32)) hB37.1  c d ) rfl okX6_ahead viX6_ahead lkX2_64 (s_1 hB37.1.1) cl_6 rfl (Nat.le_of_ble_eq_true rfl) ⟨rfl, rfl⟩ (Nat.le_of_ble_eq_true rfl) (Nat.le_of_ble_eq_true rfl) (Nat.le_of_ble_eq_true rfl) ?_
      rintro x38 _ ⟨rfl, h39, h40, h41⟩
      have hcm42 : cS (sI M 30 6 x32) = cS M := cS_bf hB hB37
      have q_ah : x38 = ahS (cS M) c d := h41.trans (by rw [hcm42])
      refine vc_cVI dX2_pace_65 (sfX6_sightOfF (M := (sI M 30 6 x32)) hB37.1  x38 ) rfl okX6_sightOf viX6_sightOf lkX2_67 (s_1 hB37.1.1) cl_6 rfl (Nat.le_of_ble_eq_true rfl) ⟨rfl, rfl⟩ (Nat.le_of_ble_eq_true rfl) (Nat.le_of_ble_eq_true rfl) (Nat.le_of_ble_eq_true rfl) ?_
      rintro x43 _ ⟨rfl, h44⟩
      have q_si : x43 = siS (cS M) x38 := h44.trans (by rw [hcm42])
      refine vc_iastore dX2_pace_68 (s_30 hB37.1.1) (by omega) (by omega) ?_
      refine vc_mem (sI (sI M 30 6 x32) 30 7 x43) rfl ?_
      have kp45 : mI (sI (sI M 30 6 x32) 30 7 x43) 32 = mI M 32 := (kp_sI kp35 rfl)
      have kp46 : mI (sI (sI M 30 6 x32) 30 7 x43) 33 = mI M 33 := (kp_sI kp36 rfl)
      have hB47 : BF fS M (sI (sI M 30 6 x32) 30 7 x43) := BF.w30 hB37 (fun _ => rfl) _
      refine vc_aload_n dX2_pace_69 rfl ?_
      refine vc_getR dX2_pace_70 flX2_19 (s_29 hB47.1.1) rfl (r_29_2 hB47.1.1) ?_
      refine vc_bipush dX2_pace_73 rfl ?_
      refine vc_iload_n dX2_pace_75 rfl ?_
      refine vc_iastore dX2_pace_76 (s_30 hB47.1.1) (by omega) (by omega) ?_
      refine vc_mem (sI (sI (sI M 30 6 x32) 30 7 x43) 30 8 d) rfl ?_
      have kp48 : mI (sI (sI (sI M 30 6 x32) 30 7 x43) 30 8 d) 32 = mI M 32 := (kp_sI kp45 rfl)
      have kp49 : mI (sI (sI (sI M 30 6 x32) 30 7 x43) 30 8 d) 33 = mI M 33 := (kp_sI kp46 rfl)
      have hB50 : BF fS M (sI (sI (sI M 30 6 x32) 30 7 x43) 30 8 d) := BF.w30 hB47 (fun _ => rfl) _
      refine vc_aload_n dX2_pace_77 rfl ?_
      refine vc_iconst dX2_pace_78 rfl ?_
      refine vc_aload_n dX2_pace_79 rfl ?_
      refine vc_getR dX2_pace_80 flX2_19 (s_29 hB50.1.1) rfl (r_29_2 hB50.1.1) ?_
      refine vc_aload_n dX2_pace_83 rfl ?_
      refine vc_getR dX2_pace_84 flX2_23 (s_29 hB50.1.1) rfl (r_29_3 hB50.1.1) ?_
      have hr1 : x27 = 1 := by omega
      obtain ⟨hlr, cc, hcr, hlc, hev⟩ := hly2 (by rcases hru with h | h; (exact h.2); (exfalso; omega))
      have hlc2 := hlc.dy t6 hB50.2
      have n6 : mI (sI (sI (sI M 30 6 x32) 30 7 x43) 30 8 d) 30 6 = x32 := by (repeat rw [mI_sI, if_neg (by decide)]); exact mI_same
      have n7 : mI (sI (sI (sI M 30 6 x32) 30 7 x43) 30 8 d) 30 7 = x43 := by (repeat rw [mI_sI, if_neg (by decide)]); exact mI_same
      have n8 : mI (sI (sI (sI M 30 6 x32) 30 7 x43) 30 8 d) 30 8 = d := by (repeat rw [mI_sI, if_neg (by decide)]); exact mI_same
      refine vc_cVI dX2_pace_87 (sfX5_valueK (M := (sI (sI (sI M 30 6 x32) 30 7 x43) 30 8 d)) hB50.1 cc y5 3 (by omega) (by omega) ((t6).dy hB50.2) (by exact hlc2)) rfl okX5_value viX5_value lkX2_53 (hB50.2.sh q12 q13) cl_5 rfl (Nat.le_of_ble_eq_true rfl) ⟨rfl, rfl⟩ (Nat.le_of_ble_eq_true rfl) (Nat.le_of_ble_eq_true rfl) (Nat.le_of_ble_eq_true rfl) ?_
      rintro x51 M52 ⟨hB53, kp54, kp55, h56⟩
      have hB57 : BF fS M M52 := BF.go hB50 hB53
      have kp58 : mI M52 32 = mI M 32 := kp_go kp48 kp54
      have kp59 : mI M52 33 = mI M 33 := kp_go kp49 kp55
      have hvv := h56
      refine vc_iconst dX2_pace_90 rfl ?_
      refine vc_bipush dX2_pace_91 rfl ?_
      refine vc_cNI dX2_pace_93 (sfX11_heldF (M := M52) hB57.1  x51 1 99 ) rfl okX11_held stX11_held nkX2_57 rfl (Nat.le_of_ble_eq_true rfl) ⟨rfl, rfl⟩ (Nat.le_of_ble_eq_true rfl) (Nat.le_of_ble_eq_true rfl) (Nat.le_of_ble_eq_true rfl) ?_
      rintro x60 _ ⟨rfl, h61⟩
      refine vc_iret dX2_pace_96 rfl (Nat.le_of_ble_eq_true rfl) (Nat.le_of_ble_eq_true rfl) ?_
      have hco : evKV (nmC (sI (sI (sI M 30 6 x32) 30 7 x43) 30 8 d)) cc = evKV (pnS (cS M) c d) cc := evKV_co (w := 3) (fun v v0 v8 ho => by
          have h6 : 6 ≤ v := by unfold okLw at ho; omega
          unfold pnS nmC
          rcases (by omega : v = 6 ∨ v = 7 ∨ v = 8) with rfl | rfl | rfl
          · rw [if_pos rfl]; exact n6.trans q_la
          · rw [if_neg (by decide), if_pos rfl]; exact n7.trans (q_si.trans (by rw [q_ah]))
          · rw [if_neg (by decide), if_neg (by decide)]; exact n8) hcr
      exact ⟨_, rfl, hB57, kp58, kp59, by unfold paS; rw [lwS_y hlr, h61, hvv, hco]; exact congrArg (clS 1 99) (hev _).symm⟩
    · refine vc_bipush dX2_pace_27 rfl ?_
      refine vc_iret dX2_pace_29 rfl (Nat.le_of_ble_eq_true rfl) (Nat.le_of_ble_eq_true rfl) ?_
      exact ⟨_, rfl, hB0, rfl, rfl, by unfold paS; rw [lwS_n (hly1 (by rcases hru with h | h; (exfalso; omega); (exact h.2)))]; first | done | rfl⟩

set_option maxRecDepth 4000 in
theorem sfX2_askingF {l : Launch} {M : Mem} (hB : Box M)  (t : Int) (p0 : 0 ≤ t) (p1 : t < mI M 1 8) (p2 : wfL (cS M)) : Call l mdX2_asking [aR 29, aI t] M (fun q N => ∃ r : Int, q = some (aI r) ∧ BF fS M N ∧ mI N 32 = mI M 32 ∧ mI N 33 = mI M 33 ∧ r = akS (cS M) t) := by
  have hB0 : BF fS M M := BF.start hB
  refine Call.of [some (aR 29), some (aI t), none] rfl (Nat.le_of_ble_eq_true rfl) rfl ?_
  refine vc_ok (fun hoM hoS hoL => ?_)
  have hr1 : -2147483648 ≤ t ∧ t < 2147483648 := hoL 1 _ rfl
  refine vc_aload_n dX2_asking_0 rfl ?_
  refine vc_getR dX2_asking_1 flX2_9 (s_29 hB0.1.1) rfl (r_29_0 hB0.1.1) ?_
  refine vc_aload_n dX2_asking_4 rfl ?_
  refine vc_getR dX2_asking_5 flX2_9 (s_29 hB0.1.1) rfl (r_29_0 hB0.1.1) ?_
  refine vc_getI dX2_asking_8 flX2_35 (s_1 hB0.1.1) rfl ?_
  refine vc_cVO dX2_asking_11 (sfX6_textOfF (M := M) hB0.1  (mI M 1 11) ) rfl okX6_textOf viX6_textOf lkX2_39 (s_1 hB0.1.1) cl_6 rfl (Nat.le_of_ble_eq_true rfl) ⟨rfl, rfl⟩ (Nat.le_of_ble_eq_true rfl) (Nat.le_of_ble_eq_true rfl) (Nat.le_of_ble_eq_true rfl) ?_
  rintro o1 _ ⟨rfl, h2, h3⟩
  refine vc_astore_n dX2_asking_14 (by decide) rfl (show _ = [some (aR 29), some (aI t), some (.inr (.inr o1))] from rfl) ?_
  refine vc_aload_n dX2_asking_15 rfl ?_
  refine vc_ifnull dX2_asking_16 (fun h4 => ?_) (fun h4 => ?_)
  · subst h4
    refine vc_bipush dX2_asking_27 rfl ?_
    refine vc_iret dX2_asking_29 rfl (Nat.le_of_ble_eq_true rfl) (Nat.le_of_ble_eq_true rfl) ?_
    exact ⟨_, rfl, hB0, rfl, rfl, by unfold akS; rw [lwS_n (ru_no (b1_10 hB).2 (by rcases h3 with h | h; (exact Or.inr h.2.symm); (exact Or.inl h.1)))]; first | done | rfl⟩
  · obtain ⟨y5, h4⟩ := Option.ne_none_iff_exists'.mp h4
    subst h4
    have t6 : TxO M y5 := h2 y5 rfl
    obtain ⟨q12, q13, q26, ta7, tb8, tc9, tn10, tm11, q14, q15, q16, q17, q18, q19, q20, q21, q22, q23, q24, q25⟩ := id t6
    refine vc_aload_n dX2_asking_19 rfl ?_
    refine vc_iconst dX2_asking_20 rfl ?_
    have hyy : (0 ≤ mI M 1 11 ∧ mI M 1 11 < mI M 1 10) ∧ mR M 7 (mI M 1 11).toNat = some y5 := by rcases h3 with h | h; (exact ⟨h.1, h.2.symm⟩); (exact absurd h.2 (by simp))
    obtain ⟨hly1, hly2⟩ := law_y hB p2 hyy.1.1 hyy.1.2 (b1_10 hB).2 hyy.2 (w := 4) (by omega) (by omega)
    refine vc_cVI dX2_asking_21 (sfX5_rulesF (M := M) hB0.1  y5 4 (by omega) (by omega) ((t6).dy hB0.2)) rfl okX5_rules viX5_rules lkX2_43 (hB0.2.sh q12 q13) cl_5 rfl (Nat.le_of_ble_eq_true rfl) ⟨rfl, rfl⟩ (Nat.le_of_ble_eq_true rfl) (Nat.le_of_ble_eq_true rfl) (Nat.le_of_ble_eq_true rfl) ?_
    rintro x27 _ ⟨rfl, h28, h29, h30⟩
    have hru := h30
    refine vc_if_ne dX2_asking_24 (fun h31 => ?_) (fun h31 => ?_)
    · refine vc_aload_n dX2_asking_30 rfl ?_
      refine vc_iload_n dX2_asking_31 rfl ?_
      refine vc_cVU dX2_asking_32 (sfX2_nameTellerF (M := M) hB0.1  t (by omega) (by omega)) rfl okX2_nameTeller viX2_nameTeller lkX2_49 (s_29 hB0.1.1) cl_2 rfl (Nat.le_of_ble_eq_true rfl) ⟨rfl, rfl⟩ (Nat.le_of_ble_eq_true rfl) (Nat.le_of_ble_eq_true rfl) (Nat.le_of_ble_eq_true rfl) ?_
      rintro M32 ⟨hB33, kp34, kp35, h36, h37, h38⟩
      have hB39 : BF fS M M32 := BF.go hB0 hB33
      have kp40 : mI M32 32 = mI M 32 := kp_go rfl kp34
      have kp41 : mI M32 33 = mI M 33 := kp_go rfl kp35
      refine vc_aload_n dX2_asking_35 rfl ?_
      refine vc_iconst dX2_asking_36 rfl ?_
      refine vc_aload_n dX2_asking_37 rfl ?_
      refine vc_getR dX2_asking_38 flX2_19 (s_29 hB39.1.1) rfl (r_29_2 hB39.1.1) ?_
      refine vc_aload_n dX2_asking_41 rfl ?_
      refine vc_getR dX2_asking_42 flX2_23 (s_29 hB39.1.1) rfl (r_29_3 hB39.1.1) ?_
      have hr1 : x27 = 1 := by omega
      obtain ⟨hlr, cc, hcr, hlc, hev⟩ := hly2 (by rcases hru with h | h; (exact h.2); (exfalso; omega))
      have hlc2 := hlc.dy t6 hB39.2
      have n0 : mI M32 30 0 = t := by (repeat rw [mI_sI, if_neg (by decide)]); exact h36
      have n1 : mI M32 30 1 = mI M 5 (4 * t).toNat := by (repeat rw [mI_sI, if_neg (by decide)]); exact h37
      have n2 : mI M32 30 2 = mI M 16 (4 + t).toNat := by (repeat rw [mI_sI, if_neg (by decide)]); exact h38
      refine vc_cVI dX2_asking_45 (sfX5_valueK (M := M32) hB39.1 cc y5 4 (by omega) (by omega) ((t6).dy hB39.2) (by exact hlc2)) rfl okX5_value viX5_value lkX2_53 (hB39.2.sh q12 q13) cl_5 rfl (Nat.le_of_ble_eq_true rfl) ⟨rfl, rfl⟩ (Nat.le_of_ble_eq_true rfl) (Nat.le_of_ble_eq_true rfl) (Nat.le_of_ble_eq_true rfl) ?_
      rintro x42 M43 ⟨hB44, kp45, kp46, h47⟩
      have hB48 : BF fS M M43 := BF.go hB39 hB44
      have kp49 : mI M43 32 = mI M 32 := kp_go kp40 kp45
      have kp50 : mI M43 33 = mI M 33 := kp_go kp41 kp46
      have hvv := h47
      refine vc_iconst dX2_asking_48 rfl ?_
      refine vc_bipush dX2_asking_49 rfl ?_
      refine vc_cNI dX2_asking_51 (sfX11_heldF (M := M43) hB48.1  x42 0 99 ) rfl okX11_held stX11_held nkX2_57 rfl (Nat.le_of_ble_eq_true rfl) ⟨rfl, rfl⟩ (Nat.le_of_ble_eq_true rfl) (Nat.le_of_ble_eq_true rfl) (Nat.le_of_ble_eq_true rfl) ?_
      rintro x51 _ ⟨rfl, h52⟩
      refine vc_iret dX2_asking_54 rfl (Nat.le_of_ble_eq_true rfl) (Nat.le_of_ble_eq_true rfl) ?_
      have hco : evKV (nmC M32) cc = evKV (anS (cS M) t) cc := evKV_co (w := 4) (fun v v0 v8 ho => by
          have h2 : v ≤ 2 := by unfold okLw at ho; omega
          unfold anS nmC
          rcases (by omega : v = 0 ∨ v = 1 ∨ v = 2) with rfl | rfl | rfl
          · rw [if_pos rfl]; exact n0
          · rw [if_neg (by decide), if_pos rfl]; exact n1
          · rw [if_neg (by decide), if_neg (by decide)]; exact n2) hcr
      exact ⟨_, rfl, hB48, kp49, kp50, by unfold akS; rw [lwS_y hlr, h52, hvv, hco]; exact congrArg (clS 0 99) (hev _).symm⟩
    · refine vc_bipush dX2_asking_27 rfl ?_
      refine vc_iret dX2_asking_29 rfl (Nat.le_of_ble_eq_true rfl) (Nat.le_of_ble_eq_true rfl) ?_
      exact ⟨_, rfl, hB0, rfl, rfl, by unfold akS; rw [lwS_n (hly1 (by rcases hru with h | h; (exfalso; omega); (exact h.2)))]; first | done | rfl⟩

