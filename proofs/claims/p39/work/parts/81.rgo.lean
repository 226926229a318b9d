/-! CONTRACTS of the reference: goings, steps, plays (written by wip/p35/c81.py) -/
set_option maxRecDepth 4000 in
theorem sfX12_nameTeller {l : Launch} {M : Mem} (hB : Box M)  (t : Int) (p0 : 0 ≤ t) (p1 : t ≤ 5) : Call l mdX12_nameTeller [aR 54, aI t] M (fun q N => q = none ∧ BF fS M N ∧ mI N 54 = mI M 54 ∧ mI N 55 = mI M 55 ∧ mI N 57 = mI M 57 ∧ mI N 63 = mI M 63 ∧ mI N 69 = mI M 69 ∧ mI N 71 = mI M 71) := by
  have hB0 : BF fS M M := BF.start hB
  refine Call.of [some (aR 54), some (aI t)] rfl (Nat.le_of_ble_eq_true rfl) rfl ?_
  refine vc_aload_n dX12_nameTeller_0 rfl ?_
  refine vc_getR dX12_nameTeller_1 flX12_35 (s_54 hB0.1.1) rfl (r_54_22 hB0.1.1) ?_
  refine vc_iconst dX12_nameTeller_4 rfl ?_
  refine vc_iload_n dX12_nameTeller_5 rfl ?_
  refine vc_iastore dX12_nameTeller_6 (s_61 hB0.1.1) (by omega) (by omega) ?_
  refine vc_mem (sI M 61 0 t) rfl ?_
  have kp1 : mI (sI M 61 0 t) 69 = mI M 69 := (kp_sI rfl rfl)
  have kp2 : mI (sI M 61 0 t) 71 = mI M 71 := (kp_sI rfl rfl)
  have kp3 : mI (sI M 61 0 t) 54 = mI M 54 := (kp_sI rfl rfl)
  have kp4 : mI (sI M 61 0 t) 55 = mI M 55 := (kp_sI rfl rfl)
  have kp5 : mI (sI M 61 0 t) 57 = mI M 57 := (kp_sI rfl rfl)
  have kp6 : mI (sI M 61 0 t) 63 = mI M 63 := (kp_sI rfl rfl)
  have hB7 : BF fS M (sI M 61 0 t) := BF.w61 hB0 (fun _ => rfl) _
  refine vc_aload_n dX12_nameTeller_7 rfl ?_
  refine vc_getR dX12_nameTeller_8 flX12_35 (s_54 hB7.1.1) rfl (r_54_22 hB7.1.1) ?_
  refine vc_iconst dX12_nameTeller_11 rfl ?_
  refine vc_aload_n dX12_nameTeller_12 rfl ?_
  refine vc_iload_n dX12_nameTeller_13 rfl ?_
  refine vc_cVI dX12_nameTeller_14 (sfX12_cornerOf (M := (sI M 61 0 t)) hB7.1  t (by omega) (by omega)) rfl okX12_cornerOf viX12_cornerOf lkX12_296 (s_54 hB7.1.1) cl_12 rfl (Nat.le_of_ble_eq_true rfl) ⟨rfl, rfl⟩ (Nat.le_of_ble_eq_true rfl) (Nat.le_of_ble_eq_true rfl) (Nat.le_of_ble_eq_true rfl) ?_
  rintro x8 _ ⟨rfl, h9, h10⟩
  refine vc_iastore dX12_nameTeller_17 (s_61 hB7.1.1) (by omega) (by omega) ?_
  refine vc_mem (sI (sI M 61 0 t) 61 1 x8) rfl ?_
  have kp11 : mI (sI (sI M 61 0 t) 61 1 x8) 69 = mI M 69 := (kp_sI kp1 rfl)
  have kp12 : mI (sI (sI M 61 0 t) 61 1 x8) 71 = mI M 71 := (kp_sI kp2 rfl)
  have kp13 : mI (sI (sI M 61 0 t) 61 1 x8) 54 = mI M 54 := (kp_sI kp3 rfl)
  have kp14 : mI (sI (sI M 61 0 t) 61 1 x8) 55 = mI M 55 := (kp_sI kp4 rfl)
  have kp15 : mI (sI (sI M 61 0 t) 61 1 x8) 57 = mI M 57 := (kp_sI kp5 rfl)
  have kp16 : mI (sI (sI M 61 0 t) 61 1 x8) 63 = mI M 63 := (kp_sI kp6 rfl)
  have hB17 : BF fS M (sI (sI M 61 0 t) 61 1 x8) := BF.w61 hB7 (fun _ => rfl) _
  refine vc_aload_n dX12_nameTeller_18 rfl ?_
  refine vc_getR dX12_nameTeller_19 flX12_35 (s_54 hB17.1.1) rfl (r_54_22 hB17.1.1) ?_
  refine vc_iconst dX12_nameTeller_22 rfl ?_
  refine vc_aload_n dX12_nameTeller_23 rfl ?_
  refine vc_getR dX12_nameTeller_24 flX12_7 (s_54 hB17.1.1) rfl (r_54_0 hB17.1.1) ?_
  refine vc_sipush dX12_nameTeller_27 rfl ?_
  refine vc_iconst dX12_nameTeller_30 rfl ?_
  refine vc_iload_n dX12_nameTeller_31 rfl ?_
  refine vc_imulE dX12_nameTeller_32 (by omega) (by omega) ?_
  refine vc_iaddE dX12_nameTeller_33 (by omega) (by omega) ?_
  refine vc_iconst dX12_nameTeller_34 rfl ?_
  refine vc_iaddE dX12_nameTeller_35 (by omega) (by omega) ?_
  refine vc_iaload dX12_nameTeller_36 (s_55 hB17.1.1) (by omega) (by omega) ?_
  refine vc_topI (mI M 55 (((154 + (5 * t)) + 4).toNat)) rfl ?_
  have k18 : mI M 55 (((154 + (5 * t)) + 4).toNat) = mI M 55 (((154 + (5 * t)) + 4).toNat) := congrFun kp14 (((154 + (5 * t)) + 4).toNat)
  refine vc_iastore dX12_nameTeller_37 (s_61 hB17.1.1) (by omega) (by omega) ?_
  refine vc_mem (sI (sI (sI M 61 0 t) 61 1 x8) 61 2 (mI M 55 (((154 + (5 * t)) + 4).toNat))) rfl ?_
  have kp19 : mI (sI (sI (sI M 61 0 t) 61 1 x8) 61 2 (mI M 55 (((154 + (5 * t)) + 4).toNat))) 69 = mI M 69 := (kp_sI kp11 rfl)
  have kp20 : mI (sI (sI (sI M 61 0 t) 61 1 x8) 61 2 (mI M 55 (((154 + (5 * t)) + 4).toNat))) 71 = mI M 71 := (kp_sI kp12 rfl)
  have kp21 : mI (sI (sI (sI M 61 0 t) 61 1 x8) 61 2 (mI M 55 (((154 + (5 * t)) + 4).toNat))) 54 = mI M 54 := (kp_sI kp13 rfl)
  have kp22 : mI (sI (sI (sI M 61 0 t) 61 1 x8) 61 2 (mI M 55 (((154 + (5 * t)) + 4).toNat))) 55 = mI M 55 := (kp_sI kp14 rfl)
  have kp23 : mI (sI (sI (sI M 61 0 t) 61 1 x8) 61 2 (mI M 55 (((154 + (5 * t)) + 4).toNat))) 57 = mI M 57 := (kp_sI kp15 rfl)
  have kp24 : mI (sI (sI (sI M 61 0 t) 61 1 x8) 61 2 (mI M 55 (((154 + (5 * t)) + 4).toNat))) 63 = mI M 63 := (kp_sI kp16 rfl)
  have hB25 : BF fS M (sI (sI (sI M 61 0 t) 61 1 x8) 61 2 (mI M 55 (((154 + (5 * t)) + 4).toNat))) := BF.w61 hB17 (fun _ => rfl) _
  refine vc_vret dX12_nameTeller_38 rfl (Nat.le_of_ble_eq_true rfl) (Nat.le_of_ble_eq_true rfl) ?_
  exact ⟨rfl, hB25, kp21, kp22, kp23, kp24, kp19, kp20⟩

set_option maxRecDepth 4000 in
theorem sfX12_slipOf {l : Launch} {M : Mem} (hB : Box M)  (t : Int) (s : Int) (p0 : 0 ≤ t) (p1 : t ≤ 7) (p2 : 0 ≤ s) (p3 : s ≤ 2) : Call l mdX12_slipOf [aR 54, aI t, aI s] M (fun q N => ∃ r : Int, q = some (aI r) ∧ BF fS M N ∧ mI N 54 = mI M 54 ∧ mI N 55 = mI M 55 ∧ mI N 57 = mI M 57 ∧ mI N 63 = mI M 63 ∧ mI N 69 = mI M 69 ∧ mI N 71 = mI M 71) := by
  have hB0 : BF fS M M := BF.start hB
  refine Call.of [some (aR 54), some (aI t), some (aI s), none] rfl (Nat.le_of_ble_eq_true rfl) rfl ?_
  refine vc_aload_n dX12_slipOf_0 rfl ?_
  refine vc_iload_n dX12_slipOf_1 rfl ?_
  refine vc_cVI dX12_slipOf_2 (sfX12_tellerOf (M := M) hB0.1  t (by omega) (by omega)) rfl okX12_tellerOf viX12_tellerOf lkX12_299 (s_54 hB0.1.1) cl_12 rfl (Nat.le_of_ble_eq_true rfl) ⟨rfl, rfl⟩ (Nat.le_of_ble_eq_true rfl) (Nat.le_of_ble_eq_true rfl) (Nat.le_of_ble_eq_true rfl) ?_
  rintro x1 _ ⟨rfl, h2, h3⟩
  refine vc_istore_n dX12_slipOf_5 (by decide) rfl (show _ = [some (aR 54), some (aI t), some (aI s), some (aI x1)] from rfl) ?_
  refine vc_aload_n dX12_slipOf_6 rfl ?_
  refine vc_iload_n dX12_slipOf_7 rfl ?_
  refine vc_cVU dX12_slipOf_8 (sfX12_nameTeller (M := M) hB0.1  x1 (by omega) (by omega)) rfl okX12_nameTeller viX12_nameTeller lkX12_302 (s_54 hB0.1.1) cl_12 rfl (Nat.le_of_ble_eq_true rfl) ⟨rfl, rfl⟩ (Nat.le_of_ble_eq_true rfl) (Nat.le_of_ble_eq_true rfl) (Nat.le_of_ble_eq_true rfl) ?_
  rintro M4 ⟨hB5, kp6, kp7, kp8, kp9, kp10, kp11⟩
  have hB12 : BF fS M M4 := BF.go hB0 hB5
  have kp13 : mI M4 69 = mI M 69 := kp_go rfl kp10
  have kp14 : mI M4 71 = mI M 71 := kp_go rfl kp11
  have kp15 : mI M4 54 = mI M 54 := kp_go rfl kp6
  have kp16 : mI M4 55 = mI M 55 := kp_go rfl kp7
  have kp17 : mI M4 57 = mI M 57 := kp_go rfl kp8
  have kp18 : mI M4 63 = mI M 63 := kp_go rfl kp9
  refine vc_aload_n dX12_slipOf_11 rfl ?_
  refine vc_getR dX12_slipOf_12 flX12_35 (s_54 hB12.1.1) rfl (r_54_22 hB12.1.1) ?_
  refine vc_iconst dX12_slipOf_15 rfl ?_
  refine vc_aload_n dX12_slipOf_16 rfl ?_
  refine vc_iload_n dX12_slipOf_17 rfl ?_
  refine vc_cVI dX12_slipOf_18 (sfX12_turnsOf (M := M4) hB12.1  t (by omega) (by omega)) rfl okX12_turnsOf viX12_turnsOf lkX12_305 (s_54 hB12.1.1) cl_12 rfl (Nat.le_of_ble_eq_true rfl) ⟨rfl, rfl⟩ (Nat.le_of_ble_eq_true rfl) (Nat.le_of_ble_eq_true rfl) (Nat.le_of_ble_eq_true rfl) ?_
  rintro x19 _ ⟨rfl, h20, h21, h22⟩
  refine vc_iastore dX12_slipOf_21 (s_61 hB12.1.1) (by omega) (by omega) ?_
  refine vc_mem (sI M4 61 3 x19) rfl ?_
  have kp23 : mI (sI M4 61 3 x19) 69 = mI M 69 := (kp_sI kp13 rfl)
  have kp24 : mI (sI M4 61 3 x19) 71 = mI M 71 := (kp_sI kp14 rfl)
  have kp25 : mI (sI M4 61 3 x19) 54 = mI M 54 := (kp_sI kp15 rfl)
  have kp26 : mI (sI M4 61 3 x19) 55 = mI M 55 := (kp_sI kp16 rfl)
  have kp27 : mI (sI M4 61 3 x19) 57 = mI M 57 := (kp_sI kp17 rfl)
  have kp28 : mI (sI M4 61 3 x19) 63 = mI M 63 := (kp_sI kp18 rfl)
  have hB29 : BF fS M (sI M4 61 3 x19) := BF.w61 hB12 (fun _ => rfl) _
  refine vc_aload_n dX12_slipOf_22 rfl ?_
  refine vc_getR dX12_slipOf_23 flX12_35 (s_54 hB29.1.1) rfl (r_54_22 hB29.1.1) ?_
  refine vc_iconst dX12_slipOf_26 rfl ?_
  refine vc_aload_n dX12_slipOf_27 rfl ?_
  refine vc_iload_n dX12_slipOf_28 rfl ?_
  refine vc_cVI dX12_slipOf_29 (sfX12_facingOf (M := (sI M4 61 3 x19)) hB29.1  t (by omega) (by omega)) rfl okX12_facingOf viX12_facingOf lkX12_308 (s_54 hB29.1.1) cl_12 rfl (Nat.le_of_ble_eq_true rfl) ⟨rfl, rfl⟩ (Nat.le_of_ble_eq_true rfl) (Nat.le_of_ble_eq_true rfl) (Nat.le_of_ble_eq_true rfl) ?_
  rintro x30 _ ⟨rfl, h31, h32⟩
  refine vc_iastore dX12_slipOf_32 (s_61 hB29.1.1) (by omega) (by omega) ?_
  refine vc_mem (sI (sI M4 61 3 x19) 61 4 x30) rfl ?_
  have kp33 : mI (sI (sI M4 61 3 x19) 61 4 x30) 69 = mI M 69 := (kp_sI kp23 rfl)
  have kp34 : mI (sI (sI M4 61 3 x19) 61 4 x30) 71 = mI M 71 := (kp_sI kp24 rfl)
  have kp35 : mI (sI (sI M4 61 3 x19) 61 4 x30) 54 = mI M 54 := (kp_sI kp25 rfl)
  have kp36 : mI (sI (sI M4 61 3 x19) 61 4 x30) 55 = mI M 55 := (kp_sI kp26 rfl)
  have kp37 : mI (sI (sI M4 61 3 x19) 61 4 x30) 57 = mI M 57 := (kp_sI kp27 rfl)
  have kp38 : mI (sI (sI M4 61 3 x19) 61 4 x30) 63 = mI M 63 := (kp_sI kp28 rfl)
  have hB39 : BF fS M (sI (sI M4 61 3 x19) 61 4 x30) := BF.w61 hB29 (fun _ => rfl) _
  refine vc_aload_n dX12_slipOf_33 rfl ?_
  refine vc_getR dX12_slipOf_34 flX12_35 (s_54 hB39.1.1) rfl (r_54_22 hB39.1.1) ?_
  refine vc_iconst dX12_slipOf_37 rfl ?_
  refine vc_aload_n dX12_slipOf_38 rfl ?_
  refine vc_getR dX12_slipOf_39 flX12_7 (s_54 hB39.1.1) rfl (r_54_0 hB39.1.1) ?_
  refine vc_sipush dX12_slipOf_42 rfl ?_
  refine vc_iconst dX12_slipOf_45 rfl ?_
  refine vc_iload_n dX12_slipOf_46 rfl ?_
  refine vc_imulE dX12_slipOf_47 (by omega) (by omega) ?_
  refine vc_iaddE dX12_slipOf_48 (by omega) (by omega) ?_
  refine vc_iconst dX12_slipOf_49 rfl ?_
  refine vc_iaddE dX12_slipOf_50 (by omega) (by omega) ?_
  refine vc_iload_n dX12_slipOf_51 rfl ?_
  refine vc_iaddE dX12_slipOf_52 (by omega) (by omega) ?_
  refine vc_iaload dX12_slipOf_53 (s_55 hB39.1.1) (by omega) (by omega) ?_
  refine vc_topI (mI M4 55 ((((154 + (5 * x1)) + 1) + s).toNat)) rfl ?_
  have k40 : mI M4 55 ((((154 + (5 * x1)) + 1) + s).toNat) = mI M 55 ((((154 + (5 * x1)) + 1) + s).toNat) := congrFun kp36 ((((154 + (5 * x1)) + 1) + s).toNat)
  refine vc_iastore dX12_slipOf_54 (s_61 hB39.1.1) (by omega) (by omega) ?_
  refine vc_mem (sI (sI (sI M4 61 3 x19) 61 4 x30) 61 5 (mI M4 55 ((((154 + (5 * x1)) + 1) + s).toNat))) rfl ?_
  have kp41 : mI (sI (sI (sI M4 61 3 x19) 61 4 x30) 61 5 (mI M4 55 ((((154 + (5 * x1)) + 1) + s).toNat))) 69 = mI M 69 := (kp_sI kp33 rfl)
  have kp42 : mI (sI (sI (sI M4 61 3 x19) 61 4 x30) 61 5 (mI M4 55 ((((154 + (5 * x1)) + 1) + s).toNat))) 71 = mI M 71 := (kp_sI kp34 rfl)
  have kp43 : mI (sI (sI (sI M4 61 3 x19) 61 4 x30) 61 5 (mI M4 55 ((((154 + (5 * x1)) + 1) + s).toNat))) 54 = mI M 54 := (kp_sI kp35 rfl)
  have kp44 : mI (sI (sI (sI M4 61 3 x19) 61 4 x30) 61 5 (mI M4 55 ((((154 + (5 * x1)) + 1) + s).toNat))) 55 = mI M 55 := (kp_sI kp36 rfl)
  have kp45 : mI (sI (sI (sI M4 61 3 x19) 61 4 x30) 61 5 (mI M4 55 ((((154 + (5 * x1)) + 1) + s).toNat))) 57 = mI M 57 := (kp_sI kp37 rfl)
  have kp46 : mI (sI (sI (sI M4 61 3 x19) 61 4 x30) 61 5 (mI M4 55 ((((154 + (5 * x1)) + 1) + s).toNat))) 63 = mI M 63 := (kp_sI kp38 rfl)
  have hB47 : BF fS M (sI (sI (sI M4 61 3 x19) 61 4 x30) 61 5 (mI M4 55 ((((154 + (5 * x1)) + 1) + s).toNat))) := BF.w61 hB39 (fun _ => rfl) _
  refine vc_aload_n dX12_slipOf_55 rfl ?_
  refine vc_iconst dX12_slipOf_56 rfl ?_
  refine vc_iload_n dX12_slipOf_57 rfl ?_
  refine vc_iaddE dX12_slipOf_58 (by omega) (by omega) ?_
  refine vc_aload_n dX12_slipOf_59 rfl ?_
  refine vc_getR dX12_slipOf_60 flX12_35 (s_54 hB47.1.1) rfl (r_54_22 hB47.1.1) ?_
  refine vc_iconst dX12_slipOf_63 rfl ?_
  refine vc_iaload dX12_slipOf_64 (s_61 hB47.1.1) (by omega) (by omega) ?_
  refine vc_topI (mI M4 55 ((((154 + (5 * x1)) + 1) + s).toNat)) rfl ?_
  refine vc_iconst dX12_slipOf_65 rfl ?_
  refine vc_bipush dX12_slipOf_66 rfl ?_
  refine vc_cVI dX12_slipOf_68 (sfX12_says (M := (sI (sI (sI M4 61 3 x19) 61 4 x30) 61 5 (mI M4 55 ((((154 + (5 * x1)) + 1) + s).toNat)))) hB47.1  (0 + s) (mI M4 55 ((((154 + (5 * x1)) + 1) + s).toNat)) 0 10 (by omega) (by omega)) rfl okX12_says viX12_says lkX12_311 (s_54 hB47.1.1) cl_12 rfl (Nat.le_of_ble_eq_true rfl) ⟨rfl, rfl⟩ (Nat.le_of_ble_eq_true rfl) (Nat.le_of_ble_eq_true rfl) (Nat.le_of_ble_eq_true rfl) ?_
  rintro x48 M49 ⟨hB50, kp51, kp52, kp53, kp54, kp55, kp56, kp57⟩
  have hB58 : BF fS M M49 := BF.go hB47 hB50
  have kp59 : mI M49 69 = mI M 69 := kp_go kp41 kp56
  have kp60 : mI M49 71 = mI M 71 := kp_go kp42 kp57
  have kp61 : mI M49 54 = mI M 54 := kp_go kp43 kp51
  have kp62 : mI M49 55 = mI M 55 := kp_go kp44 kp52
  have kp63 : mI M49 57 = mI M 57 := kp_go kp45 kp53
  have kp64 : mI M49 63 = mI M 63 := kp_go kp46 kp55
  refine vc_iret dX12_slipOf_71 rfl (Nat.le_of_ble_eq_true rfl) (Nat.le_of_ble_eq_true rfl) ?_
  exact ⟨_, rfl, hB58, kp61, kp62, kp63, kp64, kp59, kp60⟩

set_option maxRecDepth 4000 in
theorem sfX12_paceOf {l : Launch} {M : Mem} (hB : Box M)  (c : Int) (d : Int) (p0 : 0 ≤ c) (p1 : c ≤ 15) (p2 : 0 ≤ d) (p3 : d ≤ 3) : Call l mdX12_paceOf [aR 54, aI c, aI d] M (fun q N => ∃ r : Int, q = some (aI r) ∧ BF fS M N ∧ mI N 54 = mI M 54 ∧ mI N 55 = mI M 55 ∧ mI N 57 = mI M 57 ∧ mI N 63 = mI M 63 ∧ mI N 69 = mI M 69 ∧ mI N 71 = mI M 71) := by
  have hB0 : BF fS M M := BF.start hB
  refine Call.of [some (aR 54), some (aI c), some (aI d)] rfl (Nat.le_of_ble_eq_true rfl) rfl ?_
  refine vc_aload_n dX12_paceOf_0 rfl ?_
  refine vc_getR dX12_paceOf_1 flX12_35 (s_54 hB0.1.1) rfl (r_54_22 hB0.1.1) ?_
  refine vc_bipush dX12_paceOf_4 rfl ?_
  refine vc_aload_n dX12_paceOf_6 rfl ?_
  refine vc_iload_n dX12_paceOf_7 rfl ?_
  refine vc_iload_n dX12_paceOf_8 rfl ?_
  refine vc_cVI dX12_paceOf_9 (sfX12_isLane (M := M) hB0.1  c d (by omega) (by omega) (by omega) (by omega)) rfl okX12_isLane viX12_isLane lkX12_315 (s_54 hB0.1.1) cl_12 rfl (Nat.le_of_ble_eq_true rfl) ⟨rfl, rfl⟩ (Nat.le_of_ble_eq_true rfl) (Nat.le_of_ble_eq_true rfl) (Nat.le_of_ble_eq_true rfl) ?_
  rintro x1 _ ⟨rfl, h2, h3⟩
  refine vc_if_eq dX12_paceOf_12 (fun h4 => ?_) (fun h4 => ?_)
  · refine vc_iconst dX12_paceOf_19 rfl ?_
    refine vc_iastore dX12_paceOf_20 (s_61 hB0.1.1) (by omega) (by omega) ?_
    refine vc_mem (sI M 61 6 0) rfl ?_
    have kp5 : mI (sI M 61 6 0) 69 = mI M 69 := (kp_sI rfl rfl)
    have kp6 : mI (sI M 61 6 0) 71 = mI M 71 := (kp_sI rfl rfl)
    have kp7 : mI (sI M 61 6 0) 54 = mI M 54 := (kp_sI rfl rfl)
    have kp8 : mI (sI M 61 6 0) 55 = mI M 55 := (kp_sI rfl rfl)
    have kp9 : mI (sI M 61 6 0) 57 = mI M 57 := (kp_sI rfl rfl)
    have kp10 : mI (sI M 61 6 0) 63 = mI M 63 := (kp_sI rfl rfl)
    have hB11 : BF fS M (sI M 61 6 0) := BF.w61 hB0 (fun _ => rfl) _
    refine vc_aload_n dX12_paceOf_21 rfl ?_
    refine vc_getR dX12_paceOf_22 flX12_35 (s_54 hB11.1.1) rfl (r_54_22 hB11.1.1) ?_
    refine vc_bipush dX12_paceOf_25 rfl ?_
    refine vc_aload_n dX12_paceOf_27 rfl ?_
    refine vc_aload_n dX12_paceOf_28 rfl ?_
    refine vc_iload_n dX12_paceOf_29 rfl ?_
    refine vc_iload_n dX12_paceOf_30 rfl ?_
    refine vc_cVI dX12_paceOf_31 (sfX12_streetOf (M := (sI M 61 6 0)) hB11.1  c d (by omega) (by omega) (by omega) (by omega)) rfl okX12_streetOf viX12_streetOf lkX12_91 (s_54 hB11.1.1) cl_12 rfl (Nat.le_of_ble_eq_true rfl) ⟨rfl, rfl⟩ (Nat.le_of_ble_eq_true rfl) (Nat.le_of_ble_eq_true rfl) (Nat.le_of_ble_eq_true rfl) ?_
    rintro x12 _ ⟨rfl, h13, h14, h15⟩
    refine vc_cVI dX12_paceOf_34 (sfX12_sightOf (M := (sI M 61 6 0)) hB11.1  x12 (by omega) (by omega)) rfl okX12_sightOf viX12_sightOf lkX12_318 (s_54 hB11.1.1) cl_12 rfl (Nat.le_of_ble_eq_true rfl) ⟨rfl, rfl⟩ (Nat.le_of_ble_eq_true rfl) (Nat.le_of_ble_eq_true rfl) (Nat.le_of_ble_eq_true rfl) ?_
    rintro x16 _ rfl
    refine vc_iastore dX12_paceOf_37 (s_61 hB11.1.1) (by omega) (by omega) ?_
    refine vc_mem (sI (sI M 61 6 0) 61 7 x16) rfl ?_
    have kp17 : mI (sI (sI M 61 6 0) 61 7 x16) 69 = mI M 69 := (kp_sI kp5 rfl)
    have kp18 : mI (sI (sI M 61 6 0) 61 7 x16) 71 = mI M 71 := (kp_sI kp6 rfl)
    have kp19 : mI (sI (sI M 61 6 0) 61 7 x16) 54 = mI M 54 := (kp_sI kp7 rfl)
    have kp20 : mI (sI (sI M 61 6 0) 61 7 x16) 55 = mI M 55 := (kp_sI kp8 rfl)
    have kp21 : mI (sI (sI M 61 6 0) 61 7 x16) 57 = mI M 57 := (kp_sI kp9 rfl)
    have kp22 : mI (sI (sI M 61 6 0) 61 7 x16) 63 = mI M 63 := (kp_sI kp10 rfl)
    have hB23 : BF fS M (sI (sI M 61 6 0) 61 7 x16) := BF.w61 hB11 (fun _ => rfl) _
    refine vc_aload_n dX12_paceOf_38 rfl ?_
    refine vc_getR dX12_paceOf_39 flX12_35 (s_54 hB23.1.1) rfl (r_54_22 hB23.1.1) ?_
    refine vc_bipush dX12_paceOf_42 rfl ?_
    refine vc_iload_n dX12_paceOf_44 rfl ?_
    refine vc_iastore dX12_paceOf_45 (s_61 hB23.1.1) (by omega) (by omega) ?_
    refine vc_mem (sI (sI (sI M 61 6 0) 61 7 x16) 61 8 d) rfl ?_
    have kp24 : mI (sI (sI (sI M 61 6 0) 61 7 x16) 61 8 d) 69 = mI M 69 := (kp_sI kp17 rfl)
    have kp25 : mI (sI (sI (sI M 61 6 0) 61 7 x16) 61 8 d) 71 = mI M 71 := (kp_sI kp18 rfl)
    have kp26 : mI (sI (sI (sI M 61 6 0) 61 7 x16) 61 8 d) 54 = mI M 54 := (kp_sI kp19 rfl)
    have kp27 : mI (sI (sI (sI M 61 6 0) 61 7 x16) 61 8 d) 55 = mI M 55 := (kp_sI kp20 rfl)
    have kp28 : mI (sI (sI (sI M 61 6 0) 61 7 x16) 61 8 d) 57 = mI M 57 := (kp_sI kp21 rfl)
    have kp29 : mI (sI (sI (sI M 61 6 0) 61 7 x16) 61 8 d) 63 = mI M 63 := (kp_sI kp22 rfl)
    have hB30 : BF fS M (sI (sI (sI M 61 6 0) 61 7 x16) 61 8 d) := BF.w61 hB23 (fun _ => rfl) _
    refine vc_aload_n dX12_paceOf_46 rfl ?_
    refine vc_iconst dX12_paceOf_47 rfl ?_
    refine vc_bipush dX12_paceOf_48 rfl ?_
    refine vc_iconst dX12_paceOf_50 rfl ?_
    refine vc_bipush dX12_paceOf_51 rfl ?_
    refine vc_cVI dX12_paceOf_53 (sfX12_says (M := (sI (sI (sI M 61 6 0) 61 7 x16) 61 8 d)) hB30.1  3 10 1 99 (by omega) (by omega)) rfl okX12_says viX12_says lkX12_311 (s_54 hB30.1.1) cl_12 rfl (Nat.le_of_ble_eq_true rfl) ⟨rfl, rfl⟩ (Nat.le_of_ble_eq_true rfl) (Nat.le_of_ble_eq_true rfl) (Nat.le_of_ble_eq_true rfl) ?_
    rintro x31 M32 ⟨hB33, kp34, kp35, kp36, kp37, kp38, kp39, kp40⟩
    have hB41 : BF fS M M32 := BF.go hB30 hB33
    have kp42 : mI M32 69 = mI M 69 := kp_go kp24 kp39
    have kp43 : mI M32 71 = mI M 71 := kp_go kp25 kp40
    have kp44 : mI M32 54 = mI M 54 := kp_go kp26 kp34
    have kp45 : mI M32 55 = mI M 55 := kp_go kp27 kp35
    have kp46 : mI M32 57 = mI M 57 := kp_go kp28 kp36
    have kp47 : mI M32 63 = mI M 63 := kp_go kp29 kp38
    refine vc_iret dX12_paceOf_56 rfl (Nat.le_of_ble_eq_true rfl) (Nat.le_of_ble_eq_true rfl) ?_
    exact ⟨_, rfl, hB41, kp44, kp45, kp46, kp47, kp42, kp43⟩
  · refine vc_iconst dX12_paceOf_15 rfl ?_
    refine vc_goto dX12_paceOf_16 ?_
    refine vc_iastore dX12_paceOf_20 (s_61 hB0.1.1) (by omega) (by omega) ?_
    refine vc_mem (sI M 61 6 1) rfl ?_
    have kp48 : mI (sI M 61 6 1) 69 = mI M 69 := (kp_sI rfl rfl)
    have kp49 : mI (sI M 61 6 1) 71 = mI M 71 := (kp_sI rfl rfl)
    have kp50 : mI (sI M 61 6 1) 54 = mI M 54 := (kp_sI rfl rfl)
    have kp51 : mI (sI M 61 6 1) 55 = mI M 55 := (kp_sI rfl rfl)
    have kp52 : mI (sI M 61 6 1) 57 = mI M 57 := (kp_sI rfl rfl)
    have kp53 : mI (sI M 61 6 1) 63 = mI M 63 := (kp_sI rfl rfl)
    have hB54 : BF fS M (sI M 61 6 1) := BF.w61 hB0 (fun _ => rfl) _
    refine vc_aload_n dX12_paceOf_21 rfl ?_
    refine vc_getR dX12_paceOf_22 flX12_35 (s_54 hB54.1.1) rfl (r_54_22 hB54.1.1) ?_
    refine vc_bipush dX12_paceOf_25 rfl ?_
    refine vc_aload_n dX12_paceOf_27 rfl ?_
    refine vc_aload_n dX12_paceOf_28 rfl ?_
    refine vc_iload_n dX12_paceOf_29 rfl ?_
    refine vc_iload_n dX12_paceOf_30 rfl ?_
    refine vc_cVI dX12_paceOf_31 (sfX12_streetOf (M := (sI M 61 6 1)) hB54.1  c d (by omega) (by omega) (by omega) (by omega)) rfl okX12_streetOf viX12_streetOf lkX12_91 (s_54 hB54.1.1) cl_12 rfl (Nat.le_of_ble_eq_true rfl) ⟨rfl, rfl⟩ (Nat.le_of_ble_eq_true rfl) (Nat.le_of_ble_eq_true rfl) (Nat.le_of_ble_eq_true rfl) ?_
    rintro x55 _ ⟨rfl, h56, h57, h58⟩
    refine vc_cVI dX12_paceOf_34 (sfX12_sightOf (M := (sI M 61 6 1)) hB54.1  x55 (by omega) (by omega)) rfl okX12_sightOf viX12_sightOf lkX12_318 (s_54 hB54.1.1) cl_12 rfl (Nat.le_of_ble_eq_true rfl) ⟨rfl, rfl⟩ (Nat.le_of_ble_eq_true rfl) (Nat.le_of_ble_eq_true rfl) (Nat.le_of_ble_eq_true rfl) ?_
    rintro x59 _ rfl
    refine vc_iastore dX12_paceOf_37 (s_61 hB54.1.1) (by omega) (by omega) ?_
    refine vc_mem (sI (sI M 61 6 1) 61 7 x59) rfl ?_
    have kp60 : mI (sI (sI M 61 6 1) 61 7 x59) 69 = mI M 69 := (kp_sI kp48 rfl)
    have kp61 : mI (sI (sI M 61 6 1) 61 7 x59) 71 = mI M 71 := (kp_sI kp49 rfl)
    have kp62 : mI (sI (sI M 61 6 1) 61 7 x59) 54 = mI M 54 := (kp_sI kp50 rfl)
    have kp63 : mI (sI (sI M 61 6 1) 61 7 x59) 55 = mI M 55 := (kp_sI kp51 rfl)
    have kp64 : mI (sI (sI M 61 6 1) 61 7 x59) 57 = mI M 57 := (kp_sI kp52 rfl)
    have kp65 : mI (sI (sI M 61 6 1) 61 7 x59) 63 = mI M 63 := (kp_sI kp53 rfl)
    have hB66 : BF fS M (sI (sI M 61 6 1) 61 7 x59) := BF.w61 hB54 (fun _ => rfl) _
    refine vc_aload_n dX12_paceOf_38 rfl ?_
    refine vc_getR dX12_paceOf_39 flX12_35 (s_54 hB66.1.1) rfl (r_54_22 hB66.1.1) ?_
    refine vc_bipush dX12_paceOf_42 rfl ?_
    refine vc_iload_n dX12_paceOf_44 rfl ?_
    refine vc_iastore dX12_paceOf_45 (s_61 hB66.1.1) (by omega) (by omega) ?_
    refine vc_mem (sI (sI (sI M 61 6 1) 61 7 x59) 61 8 d) rfl ?_
    have kp67 : mI (sI (sI (sI M 61 6 1) 61 7 x59) 61 8 d) 69 = mI M 69 := (kp_sI kp60 rfl)
    have kp68 : mI (sI (sI (sI M 61 6 1) 61 7 x59) 61 8 d) 71 = mI M 71 := (kp_sI kp61 rfl)
    have kp69 : mI (sI (sI (sI M 61 6 1) 61 7 x59) 61 8 d) 54 = mI M 54 := (kp_sI kp62 rfl)
    have kp70 : mI (sI (sI (sI M 61 6 1) 61 7 x59) 61 8 d) 55 = mI M 55 := (kp_sI kp63 rfl)
    have kp71 : mI (sI (sI (sI M 61 6 1) 61 7 x59) 61 8 d) 57 = mI M 57 := (kp_sI kp64 rfl)
    have kp72 : mI (sI (sI (sI M 61 6 1) 61 7 x59) 61 8 d) 63 = mI M 63 := (kp_sI kp65 rfl)
    have hB73 : BF fS M (sI (sI (sI M 61 6 1) 61 7 x59) 61 8 d) := BF.w61 hB66 (fun _ => rfl) _
    refine vc_aload_n dX12_paceOf_46 rfl ?_
    refine vc_iconst dX12_paceOf_47 rfl ?_
    refine vc_bipush dX12_paceOf_48 rfl ?_
    refine vc_iconst dX12_paceOf_50 rfl ?_
    refine vc_bipush dX12_paceOf_51 rfl ?_
    refine vc_cVI dX12_paceOf_53 (sfX12_says (M := (sI (sI (sI M 61 6 1) 61 7 x59) 61 8 d)) hB73.1  3 10 1 99 (by omega) (by omega)) rfl okX12_says viX12_says lkX12_311 (s_54 hB73.1.1) cl_12 rfl (Nat.le_of_ble_eq_true rfl) ⟨rfl, rfl⟩ (Nat.le_of_ble_eq_true rfl) (Nat.le_of_ble_eq_true rfl) (Nat.le_of_ble_eq_true rfl) ?_
    rintro x74 M75 ⟨hB76, kp77, kp78, kp79, kp80, kp81, kp82, kp83⟩
    have hB84 : BF fS M M75 := BF.go hB73 hB76
    have kp85 : mI M75 69 = mI M 69 := kp_go kp67 kp82
    have kp86 : mI M75 71 = mI M 71 := kp_go kp68 kp83
    have kp87 : mI M75 54 = mI M 54 := kp_go kp69 kp77
    have kp88 : mI M75 55 = mI M 55 := kp_go kp70 kp78
    have kp89 : mI M75 57 = mI M 57 := kp_go kp71 kp79
    have kp90 : mI M75 63 = mI M 63 := kp_go kp72 kp81
    refine vc_iret dX12_paceOf_56 rfl (Nat.le_of_ble_eq_true rfl) (Nat.le_of_ble_eq_true rfl) ?_
    exact ⟨_, rfl, hB84, kp87, kp88, kp89, kp90, kp85, kp86⟩

set_option maxRecDepth 4000 in
theorem sfX12_asksOf {l : Launch} {M : Mem} (hB : Box M)  (t : Int) (p0 : 0 ≤ t) (p1 : t ≤ 5) : Call l mdX12_asksOf [aR 54, aI t] M (fun q N => ∃ r : Int, q = some (aI r) ∧ BF fS M N ∧ mI N 54 = mI M 54 ∧ mI N 55 = mI M 55 ∧ mI N 57 = mI M 57 ∧ mI N 63 = mI M 63 ∧ mI N 69 = mI M 69 ∧ mI N 71 = mI M 71) := by
  have hB0 : BF fS M M := BF.start hB
  refine Call.of [some (aR 54), some (aI t)] rfl (Nat.le_of_ble_eq_true rfl) rfl ?_
  refine vc_aload_n dX12_asksOf_0 rfl ?_
  refine vc_iload_n dX12_asksOf_1 rfl ?_
  refine vc_cVU dX12_asksOf_2 (sfX12_nameTeller (M := M) hB0.1  t (by omega) (by omega)) rfl okX12_nameTeller viX12_nameTeller lkX12_302 (s_54 hB0.1.1) cl_12 rfl (Nat.le_of_ble_eq_true rfl) ⟨rfl, rfl⟩ (Nat.le_of_ble_eq_true rfl) (Nat.le_of_ble_eq_true rfl) (Nat.le_of_ble_eq_true rfl) ?_
  rintro M1 ⟨hB2, kp3, kp4, kp5, kp6, kp7, kp8⟩
  have hB9 : BF fS M M1 := BF.go hB0 hB2
  have kp10 : mI M1 69 = mI M 69 := kp_go rfl kp7
  have kp11 : mI M1 71 = mI M 71 := kp_go rfl kp8
  have kp12 : mI M1 54 = mI M 54 := kp_go rfl kp3
  have kp13 : mI M1 55 = mI M 55 := kp_go rfl kp4
  have kp14 : mI M1 57 = mI M 57 := kp_go rfl kp5
  have kp15 : mI M1 63 = mI M 63 := kp_go rfl kp6
  refine vc_aload_n dX12_asksOf_5 rfl ?_
  refine vc_iconst dX12_asksOf_6 rfl ?_
  refine vc_bipush dX12_asksOf_7 rfl ?_
  refine vc_iconst dX12_asksOf_9 rfl ?_
  refine vc_bipush dX12_asksOf_10 rfl ?_
  refine vc_cVI dX12_asksOf_12 (sfX12_says (M := M1) hB9.1  4 20 0 99 (by omega) (by omega)) rfl okX12_says viX12_says lkX12_311 (s_54 hB9.1.1) cl_12 rfl (Nat.le_of_ble_eq_true rfl) ⟨rfl, rfl⟩ (Nat.le_of_ble_eq_true rfl) (Nat.le_of_ble_eq_true rfl) (Nat.le_of_ble_eq_true rfl) ?_
  rintro x16 M17 ⟨hB18, kp19, kp20, kp21, kp22, kp23, kp24, kp25⟩
  have hB26 : BF fS M M17 := BF.go hB9 hB18
  have kp27 : mI M17 69 = mI M 69 := kp_go kp10 kp24
  have kp28 : mI M17 71 = mI M 71 := kp_go kp11 kp25
  have kp29 : mI M17 54 = mI M 54 := kp_go kp12 kp19
  have kp30 : mI M17 55 = mI M 55 := kp_go kp13 kp20
  have kp31 : mI M17 57 = mI M 57 := kp_go kp14 kp21
  have kp32 : mI M17 63 = mI M 63 := kp_go kp15 kp23
  refine vc_iret dX12_asksOf_15 rfl (Nat.le_of_ble_eq_true rfl) (Nat.le_of_ble_eq_true rfl) ?_
  exact ⟨_, rfl, hB26, kp29, kp30, kp31, kp32, kp27, kp28⟩

set_option maxRecDepth 4000 in
theorem sfX12_ofTelling {l : Launch} {M : Mem} (hB : Box M)  (t : Int) (w : Int)  : Call l mdX12_ofTelling [aR 54, aI t, aI w] M (fun q N => ∃ r : Int, q = some (aI r) ∧ BF fQ M N) := by
  have hB0 : BF fQ M M := BF.start hB
  refine Call.of [some (aR 54), some (aI t), some (aI w)] rfl (Nat.le_of_ble_eq_true rfl) rfl ?_
  refine vc_ok (fun hoM hoS hoL => ?_)
  have hr1 : -2147483648 ≤ t ∧ t < 2147483648 := hoL 1 _ rfl
  have hr2 : -2147483648 ≤ w ∧ w < 2147483648 := hoL 2 _ rfl
  refine vc_aload_n dX12_ofTelling_0 rfl ?_
  refine vc_iload_n dX12_ofTelling_1 rfl ?_
  refine vc_cVI dX12_ofTelling_2 (sfX12_isTelling (M := M) hB0.1  t ) rfl okX12_isTelling viX12_isTelling lkX12_400 (s_54 hB0.1.1) cl_12 rfl (Nat.le_of_ble_eq_true rfl) ⟨rfl, rfl⟩ (Nat.le_of_ble_eq_true rfl) (Nat.le_of_ble_eq_true rfl) (Nat.le_of_ble_eq_true rfl) ?_
  rintro x1 _ ⟨rfl, h2, h3, h4⟩
  refine vc_if_ne dX12_ofTelling_5 (fun h5 => ?_) (fun h5 => ?_)
  · refine vc_iload_n dX12_ofTelling_10 rfl ?_
    refine vc_bipush dX12_ofTelling_11 rfl ?_
    refine vc_bipush dX12_ofTelling_13 rfl ?_
    refine vc_aload_n dX12_ofTelling_15 rfl ?_
    refine vc_iload_n dX12_ofTelling_16 rfl ?_
    refine vc_cVI dX12_ofTelling_17 (sfX12_turnsOf (M := M) hB0.1  t (by omega) (by omega)) rfl okX12_turnsOf viX12_turnsOf lkX12_305 (s_54 hB0.1.1) cl_12 rfl (Nat.le_of_ble_eq_true rfl) ⟨rfl, rfl⟩ (Nat.le_of_ble_eq_true rfl) (Nat.le_of_ble_eq_true rfl) (Nat.le_of_ble_eq_true rfl) ?_
    rintro x6 _ ⟨rfl, h7, h8, h9⟩
    refine vc_iaddE dX12_ofTelling_20 (by omega) (by omega) ?_
    refine vc_cSI dX12_ofTelling_21 (sfX12_isIn (M := M) hB0.1  w 10 (9 + x6) ) rfl okX12_isIn stX12_isIn lkX12_83 rfl (Nat.le_of_ble_eq_true rfl) ⟨rfl, rfl⟩ (Nat.le_of_ble_eq_true rfl) (Nat.le_of_ble_eq_true rfl) (Nat.le_of_ble_eq_true rfl) ?_
    rintro x10 _ ⟨rfl, h11, h12, h13⟩
    refine vc_if_eq dX12_ofTelling_24 (fun h14 => ?_) (fun h14 => ?_)
    · refine vc_iload_n dX12_ofTelling_37 rfl ?_
      refine vc_iconst dX12_ofTelling_38 rfl ?_
      refine vc_iconst dX12_ofTelling_39 rfl ?_
      refine vc_cSI dX12_ofTelling_40 (sfX12_isIn (M := M) hB0.1  w 3 5 ) rfl okX12_isIn stX12_isIn lkX12_83 rfl (Nat.le_of_ble_eq_true rfl) ⟨rfl, rfl⟩ (Nat.le_of_ble_eq_true rfl) (Nat.le_of_ble_eq_true rfl) (Nat.le_of_ble_eq_true rfl) ?_
      rintro x15 _ ⟨rfl, h16, h17, h18⟩
      refine vc_if_eq dX12_ofTelling_43 (fun h19 => ?_) (fun h19 => ?_)
      · refine vc_iload_n dX12_ofTelling_55 rfl ?_
        refine vc_iconst dX12_ofTelling_56 rfl ?_
        refine vc_iconst dX12_ofTelling_57 rfl ?_
        refine vc_cSI dX12_ofTelling_58 (sfX12_isIn (M := M) hB0.1  w 0 2 ) rfl okX12_isIn stX12_isIn lkX12_83 rfl (Nat.le_of_ble_eq_true rfl) ⟨rfl, rfl⟩ (Nat.le_of_ble_eq_true rfl) (Nat.le_of_ble_eq_true rfl) (Nat.le_of_ble_eq_true rfl) ?_
        rintro x20 _ ⟨rfl, h21, h22, h23⟩
        refine vc_if_eq dX12_ofTelling_61 (fun h24 => ?_) (fun h24 => ?_)
        · refine vc_iconst dX12_ofTelling_82 rfl ?_
          refine vc_iret dX12_ofTelling_83 rfl (Nat.le_of_ble_eq_true rfl) (Nat.le_of_ble_eq_true rfl) ?_
          exact ⟨_, rfl, hB0⟩
        · refine vc_aload_n dX12_ofTelling_64 rfl ?_
          refine vc_getR dX12_ofTelling_65 flX12_7 (s_54 hB0.1.1) rfl (r_54_0 hB0.1.1) ?_
          refine vc_sipush dX12_ofTelling_68 rfl ?_
          refine vc_bipush dX12_ofTelling_71 rfl ?_
          refine vc_iload_n dX12_ofTelling_73 rfl ?_
          refine vc_imulE dX12_ofTelling_74 (by omega) (by omega) ?_
          refine vc_iaddE dX12_ofTelling_75 (by omega) (by omega) ?_
          refine vc_iload_n dX12_ofTelling_76 rfl ?_
          refine vc_iaddE dX12_ofTelling_77 (by omega) (by omega) ?_
          refine vc_iaload dX12_ofTelling_78 (s_55 hB0.1.1) (by omega) (by omega) ?_
          refine vc_goto dX12_ofTelling_79 ?_
          refine vc_iret dX12_ofTelling_83 rfl (Nat.le_of_ble_eq_true rfl) (Nat.le_of_ble_eq_true rfl) ?_
          exact ⟨_, rfl, hB0⟩
      · refine vc_aload_n dX12_ofTelling_46 rfl ?_
        refine vc_iload_n dX12_ofTelling_47 rfl ?_
        refine vc_iload_n dX12_ofTelling_48 rfl ?_
        refine vc_iconst dX12_ofTelling_49 rfl ?_
        refine vc_isubE dX12_ofTelling_50 (by omega) (by omega) ?_
        refine vc_cVI dX12_ofTelling_51 (sfX12_slipOf (M := M) hB0.1  t (w - 3) (by omega) (by omega) (by omega) (by omega)) rfl okX12_slipOf viX12_slipOf lkX12_446 (s_54 hB0.1.1) cl_12 rfl (Nat.le_of_ble_eq_true rfl) ⟨rfl, rfl⟩ (Nat.le_of_ble_eq_true rfl) (Nat.le_of_ble_eq_true rfl) (Nat.le_of_ble_eq_true rfl) ?_
        rintro x25 M26 ⟨hB27, kp28, kp29, kp30, kp31, kp32, kp33⟩
        have hB34 : BF fQ M M26 := BF.go hB0 hB27.sq
        refine vc_iret dX12_ofTelling_54 rfl (Nat.le_of_ble_eq_true rfl) (Nat.le_of_ble_eq_true rfl) ?_
        exact ⟨_, rfl, hB34⟩
    · refine vc_aload_n dX12_ofTelling_27 rfl ?_
      refine vc_iload_n dX12_ofTelling_28 rfl ?_
      refine vc_iload_n dX12_ofTelling_29 rfl ?_
      refine vc_bipush dX12_ofTelling_30 rfl ?_
      refine vc_isubE dX12_ofTelling_32 (by omega) (by omega) ?_
      refine vc_cVI dX12_ofTelling_33 (sfX12_turnAt (M := M) hB0.1  t (w - 10) (by omega) (by omega) (by omega) (by omega)) rfl okX12_turnAt viX12_turnAt lkX12_358 (s_54 hB0.1.1) cl_12 rfl (Nat.le_of_ble_eq_true rfl) ⟨rfl, rfl⟩ (Nat.le_of_ble_eq_true rfl) (Nat.le_of_ble_eq_true rfl) (Nat.le_of_ble_eq_true rfl) ?_
      rintro x35 _ rfl
      refine vc_iret dX12_ofTelling_36 rfl (Nat.le_of_ble_eq_true rfl) (Nat.le_of_ble_eq_true rfl) ?_
      exact ⟨_, rfl, hB0⟩
  · refine vc_iconst dX12_ofTelling_8 rfl ?_
    refine vc_iret dX12_ofTelling_9 rfl (Nat.le_of_ble_eq_true rfl) (Nat.le_of_ble_eq_true rfl) ?_
    exact ⟨_, rfl, hB0⟩

set_option maxRecDepth 4000 in
theorem sfX12_begin {l : Launch} {M : Mem} (hB : Box M)  (c : Int) (f : Int) (p0 : 0 ≤ c) (p1 : c ≤ 15) (p2 : 0 ≤ f) (p3 : f ≤ 3) : Call l mdX12_begin [aR 54, aI c, aI f] M (fun q N => q = none ∧ BF fS M N ∧ mI N 55 = mI M 55 ∧ mI N 57 = mI M 57 ∧ mI N 54 32 = mI M 54 32) := by
  have hB0 : BF fS M M := BF.start hB
  refine Call.of [some (aR 54), some (aI c), some (aI f)] rfl (Nat.le_of_ble_eq_true rfl) rfl ?_
  refine vc_aload_n dX12_begin_0 rfl ?_
  refine vc_iload_n dX12_begin_1 rfl ?_
  refine vc_putI dX12_begin_2 (plX12_321 _ rfl) (s_54 hB0.1.1) rfl ?_
  have kp1 : mI (sI M 54 24 c) 57 = mI M 57 := (kp_sI rfl rfl)
  have kp2 : mI (sI M 54 24 c) 55 = mI M 55 := (kp_sI rfl rfl)
  have hB3 : BF fS M (sI M 54 24 c) := BF.w54_24 hB0 rfl (by omega) (by omega)
  refine vc_aload_n dX12_begin_5 rfl ?_
  refine vc_iload_n dX12_begin_6 rfl ?_
  refine vc_putI dX12_begin_7 (plX12_324 _ rfl) (s_54 hB3.1.1) rfl ?_
  have kp4 : mI (sI (sI M 54 24 c) 54 25 f) 57 = mI M 57 := (kp_sI kp1 rfl)
  have kp5 : mI (sI (sI M 54 24 c) 54 25 f) 55 = mI M 55 := (kp_sI kp2 rfl)
  have hB6 : BF fS M (sI (sI M 54 24 c) 54 25 f) := BF.w54_25 hB3 rfl (by omega) (by omega)
  refine vc_aload_n dX12_begin_10 rfl ?_
  refine vc_iconst dX12_begin_11 rfl ?_
  refine vc_putI dX12_begin_12 (plX12_327 _ rfl) (s_54 hB6.1.1) rfl ?_
  have kp7 : mI (sI (sI (sI M 54 24 c) 54 25 f) 54 26 0) 57 = mI M 57 := (kp_sI kp4 rfl)
  have kp8 : mI (sI (sI (sI M 54 24 c) 54 25 f) 54 26 0) 55 = mI M 55 := (kp_sI kp5 rfl)
  have hB9 : BF fS M (sI (sI (sI M 54 24 c) 54 25 f) 54 26 0) := BF.w54_26 hB6 rfl
  refine vc_aload_n dX12_begin_15 rfl ?_
  refine vc_iconst dX12_begin_16 rfl ?_
  refine vc_putI dX12_begin_17 (plX12_330 _ rfl) (s_54 hB9.1.1) rfl ?_
  have kp10 : mI (sI (sI (sI (sI M 54 24 c) 54 25 f) 54 26 0) 54 27 0) 57 = mI M 57 := (kp_sI kp7 rfl)
  have kp11 : mI (sI (sI (sI (sI M 54 24 c) 54 25 f) 54 26 0) 54 27 0) 55 = mI M 55 := (kp_sI kp8 rfl)
  have hB12 : BF fS M (sI (sI (sI (sI M 54 24 c) 54 25 f) 54 26 0) 54 27 0) := BF.w54_27 hB9 rfl (by omega) (by omega)
  refine vc_aload_n dX12_begin_20 rfl ?_
  refine vc_iconst dX12_begin_21 rfl ?_
  refine vc_putI dX12_begin_22 (plX12_333 _ rfl) (s_54 hB12.1.1) rfl ?_
  have kp13 : mI (sI (sI (sI (sI (sI M 54 24 c) 54 25 f) 54 26 0) 54 27 0) 54 28 0) 57 = mI M 57 := (kp_sI kp10 rfl)
  have kp14 : mI (sI (sI (sI (sI (sI M 54 24 c) 54 25 f) 54 26 0) 54 27 0) 54 28 0) 55 = mI M 55 := (kp_sI kp11 rfl)
  have hB15 : BF fS M (sI (sI (sI (sI (sI M 54 24 c) 54 25 f) 54 26 0) 54 27 0) 54 28 0) := BF.w54_28 hB12 rfl
  refine vc_aload_n dX12_begin_25 rfl ?_
  refine vc_iconst dX12_begin_26 rfl ?_
  refine vc_putI dX12_begin_27 (plX12_336 _ rfl) (s_54 hB15.1.1) rfl ?_
  have kp16 : mI (sI (sI (sI (sI (sI (sI M 54 24 c) 54 25 f) 54 26 0) 54 27 0) 54 28 0) 54 29 0) 57 = mI M 57 := (kp_sI kp13 rfl)
  have kp17 : mI (sI (sI (sI (sI (sI (sI M 54 24 c) 54 25 f) 54 26 0) 54 27 0) 54 28 0) 54 29 0) 55 = mI M 55 := (kp_sI kp14 rfl)
  have hB18 : BF fS M (sI (sI (sI (sI (sI (sI M 54 24 c) 54 25 f) 54 26 0) 54 27 0) 54 28 0) 54 29 0) := BF.w54_29 hB15 rfl
  refine vc_vret dX12_begin_30 rfl (Nat.le_of_ble_eq_true rfl) (Nat.le_of_ble_eq_true rfl) ?_
  have k19 : mI (sI (sI (sI (sI (sI (sI M 54 24 c) 54 25 f) 54 26 0) 54 27 0) 54 28 0) 54 29 0) 54 32 = mI M 54 32 := rfl
  exact ⟨rfl, hB18, kp17, kp16, by omega⟩

set_option maxRecDepth 4000 in
theorem sfX12_isDoubt {l : Launch} {M : Mem} (hB : Box M)  (b : Int)  : Call l mdX12_isDoubt [aR 54, aI b] M (fun q N => ∃ r : Int, q = some (aI r) ∧ M = N ∧ 0 ≤ r ∧ r ≤ 1) := by
  have hB0 : BF fQ M M := BF.start hB
  refine Call.of [some (aR 54), some (aI b), none] rfl (Nat.le_of_ble_eq_true rfl) rfl ?_
  refine vc_ok (fun hoM hoS hoL => ?_)
  have hr1 : -2147483648 ≤ b ∧ b < 2147483648 := hoL 1 _ rfl
  refine vc_iconst dX12_isDoubt_0 rfl ?_
  refine vc_istore_n dX12_isDoubt_1 (by decide) rfl (show _ = [some (aR 54), some (aI b), some (aI 0)] from rfl) ?_
  have lp2 : ∀ (n2 : Nat) (v2 : Int), (0 ≤ v2) → (v2 ≤ 4) → (4 - v2).toNat < n2 → VC l mdX12_isDoubt 2 [some (aR 54), some (aI b), some (aI v2)] [] M 0 0 (fun q N => ∃ r : Int, q = some (aI r) ∧ M = N ∧ 0 ≤ r ∧ r ≤ 1) := by
    intro n2
    induction n2 with
    | zero => intro v2 g2_2a g2_2b hm2; exact absurd hm2 (Nat.not_lt_zero _)
    | succ n2 ih2 =>
      intro v2 g2_2a g2_2b hm2
      refine vc_iload_n dX12_isDoubt_2 rfl ?_
      refine vc_iconst dX12_isDoubt_3 rfl ?_
      refine vc_icmp_ge dX12_isDoubt_4 (fun h1 => ?_) (fun h1 => ?_)
      · refine vc_iconst dX12_isDoubt_40 rfl ?_
        refine vc_zret dX12_isDoubt_41 rfl (by first | decide | omega) (Nat.le_of_ble_eq_true rfl) (Nat.le_of_ble_eq_true rfl) ?_
        exact ⟨_, rfl, rfl, by omega, by omega⟩
      · refine vc_iload_n dX12_isDoubt_7 rfl ?_
        refine vc_aload_n dX12_isDoubt_8 rfl ?_
        refine vc_getI dX12_isDoubt_9 flX12_324 (s_54 hB0.1.1) rfl ?_
        have k2 : 0 ≤ mI M 54 25 ∧ mI M 54 25 ≤ 3 := b54_25 (M := M) hB0.1
        refine vc_icmp_eq dX12_isDoubt_12 (fun h3 => ?_) (fun h3 => ?_)
        · refine vc_iincE dX12_isDoubt_34 rfl (by omega) (by omega) (by decide) rfl (show _ = [some (aR 54), some (aI b), some (aI (v2 + 1))] from rfl) ?_
          refine vc_goto dX12_isDoubt_37 ?_
          exact ih2 (v2 + 1) (by omega) (by omega) (by omega)
        · refine vc_iload_n dX12_isDoubt_15 rfl ?_
          refine vc_iload_n dX12_isDoubt_16 rfl ?_
          refine vc_icmp_eq dX12_isDoubt_17 (fun h4 => ?_) (fun h4 => ?_)
          · refine vc_iincE dX12_isDoubt_34 rfl (by omega) (by omega) (by decide) rfl (show _ = [some (aR 54), some (aI b), some (aI (v2 + 1))] from rfl) ?_
            refine vc_goto dX12_isDoubt_37 ?_
            exact ih2 (v2 + 1) (by omega) (by omega) (by omega)
          · refine vc_aload_n dX12_isDoubt_20 rfl ?_
            refine vc_aload_n dX12_isDoubt_21 rfl ?_
            refine vc_getI dX12_isDoubt_22 flX12_321 (s_54 hB0.1.1) rfl ?_
            have k5 : 0 ≤ mI M 54 24 ∧ mI M 54 24 ≤ 15 := b54_24 (M := M) hB0.1
            refine vc_iload_n dX12_isDoubt_25 rfl ?_
            refine vc_cVI dX12_isDoubt_26 (sfX12_streetOf (M := M) hB0.1  (mI M 54 24) v2 (by omega) (by omega) (by omega) (by omega)) rfl okX12_streetOf viX12_streetOf lkX12_91 (s_54 hB0.1.1) cl_12 rfl (Nat.le_of_ble_eq_true rfl) ⟨rfl, rfl⟩ (Nat.le_of_ble_eq_true rfl) (Nat.le_of_ble_eq_true rfl) (Nat.le_of_ble_eq_true rfl) ?_
            rintro x6 _ ⟨rfl, h7, h8, h9⟩
            refine vc_if_lt dX12_isDoubt_29 (fun h10 => ?_) (fun h10 => ?_)
            · refine vc_iincE dX12_isDoubt_34 rfl (by omega) (by omega) (by decide) rfl (show _ = [some (aR 54), some (aI b), some (aI (v2 + 1))] from rfl) ?_
              refine vc_goto dX12_isDoubt_37 ?_
              exact ih2 (v2 + 1) (by omega) (by omega) (by omega)
            · refine vc_iconst dX12_isDoubt_32 rfl ?_
              refine vc_zret dX12_isDoubt_33 rfl (by first | decide | omega) (Nat.le_of_ble_eq_true rfl) (Nat.le_of_ble_eq_true rfl) ?_
              exact ⟨_, rfl, rfl, by omega, by omega⟩
  exact lp2 _ 0 (by omega) (by omega) (Nat.lt_succ_self _)

set_option maxRecDepth 4000 in
theorem sfX12_goOn {l : Launch} {M : Mem} (hB : Box M)    : Call l mdX12_goOn [aR 54] M (fun q N => ∃ r : Int, q = some (aI r) ∧ BF fS M N ∧ mI N 55 = mI M 55 ∧ mI N 57 = mI M 57 ∧ 0 ≤ r ∧ r ≤ 1 ∧ (r = 0 ∨ mI N 54 27 = mI M 54 27 + 1) ∧ mI N 54 32 = mI M 54 32) := by
  have hB0 : BF fS M M := BF.start hB
  refine Call.of [some (aR 54)] rfl (Nat.le_of_ble_eq_true rfl) rfl ?_
  refine vc_aload_n dX12_goOn_0 rfl ?_
  refine vc_aload_n dX12_goOn_1 rfl ?_
  refine vc_getI dX12_goOn_2 flX12_321 (s_54 hB0.1.1) rfl ?_
  have k1 : 0 ≤ mI M 54 24 ∧ mI M 54 24 ≤ 15 := b54_24 (M := M) hB0.1
  refine vc_aload_n dX12_goOn_5 rfl ?_
  refine vc_getI dX12_goOn_6 flX12_324 (s_54 hB0.1.1) rfl ?_
  have k2 : 0 ≤ mI M 54 25 ∧ mI M 54 25 ≤ 3 := b54_25 (M := M) hB0.1
  refine vc_cVI dX12_goOn_9 (sfX12_streetOf (M := M) hB0.1  (mI M 54 24) (mI M 54 25) (by omega) (by omega) (by omega) (by omega)) rfl okX12_streetOf viX12_streetOf lkX12_91 (s_54 hB0.1.1) cl_12 rfl (Nat.le_of_ble_eq_true rfl) ⟨rfl, rfl⟩ (Nat.le_of_ble_eq_true rfl) (Nat.le_of_ble_eq_true rfl) (Nat.le_of_ble_eq_true rfl) ?_
  rintro x3 _ ⟨rfl, h4, h5, h6⟩
  refine vc_if_lt dX12_goOn_12 (fun h7 => ?_) (fun h7 => ?_)
  · refine vc_iconst dX12_goOn_24 rfl ?_
    refine vc_zret dX12_goOn_25 rfl (by first | decide | omega) (Nat.le_of_ble_eq_true rfl) (Nat.le_of_ble_eq_true rfl) ?_
    exact ⟨_, rfl, hB0, rfl, rfl, by omega, by omega, by omega, by omega⟩
  · refine vc_aload_n dX12_goOn_15 rfl ?_
    refine vc_getI dX12_goOn_16 flX12_330 (s_54 hB0.1.1) rfl ?_
    have k8 : 0 ≤ mI M 54 27 ∧ mI M 54 27 ≤ 40 := b54_27 (M := M) hB0.1
    refine vc_bipush dX12_goOn_19 rfl ?_
    refine vc_icmp_ne dX12_goOn_21 (fun h9 => ?_) (fun h9 => ?_)
    · refine vc_aload_n dX12_goOn_26 rfl ?_
      refine vc_aload_n dX12_goOn_27 rfl ?_
      refine vc_getI dX12_goOn_28 flX12_339 (s_54 hB0.1.1) rfl ?_
      refine vc_cVI dX12_goOn_31 (sfX12_isDoubt (M := M) hB0.1  (mI M 54 30) ) rfl okX12_isDoubt viX12_isDoubt lkX12_342 (s_54 hB0.1.1) cl_12 rfl (Nat.le_of_ble_eq_true rfl) ⟨rfl, rfl⟩ (Nat.le_of_ble_eq_true rfl) (Nat.le_of_ble_eq_true rfl) (Nat.le_of_ble_eq_true rfl) ?_
      rintro x10 _ ⟨rfl, h11, h12⟩
      refine vc_if_eq dX12_goOn_34 (fun h13 => ?_) (fun h13 => ?_)
      · refine vc_aload_n dX12_goOn_62 rfl ?_
        refine vc_dup dX12_goOn_63 rfl ?_
        refine vc_getI dX12_goOn_64 flX12_327 (s_54 hB0.1.1) rfl ?_
        refine vc_aload_n dX12_goOn_67 rfl ?_
        refine vc_aload_n dX12_goOn_68 rfl ?_
        refine vc_getI dX12_goOn_69 flX12_321 (s_54 hB0.1.1) rfl ?_
        refine vc_aload_n dX12_goOn_72 rfl ?_
        refine vc_getI dX12_goOn_73 flX12_324 (s_54 hB0.1.1) rfl ?_
        refine vc_cVI dX12_goOn_76 (sfX12_paceOf (M := M) hB0.1  (mI M 54 24) (mI M 54 25) (by omega) (by omega) (by omega) (by omega)) rfl okX12_paceOf viX12_paceOf lkX12_345 (s_54 hB0.1.1) cl_12 rfl (Nat.le_of_ble_eq_true rfl) ⟨rfl, rfl⟩ (Nat.le_of_ble_eq_true rfl) (Nat.le_of_ble_eq_true rfl) (Nat.le_of_ble_eq_true rfl) ?_
        rintro x14 M15 ⟨hB16, kp17, kp18, kp19, kp20, kp21, kp22⟩
        have hB23 : BF fS M M15 := BF.go hB0 hB16
        have kp24 : mI M15 57 = mI M 57 := kp_go rfl kp19
        have kp25 : mI M15 55 = mI M 55 := kp_go rfl kp18
        have fe26 : mI M15 54 24 = mI M 54 24 := congrFun kp17 24
        have fe27 : mI M15 54 25 = mI M 54 25 := congrFun kp17 25
        have fe28 : mI M15 54 27 = mI M 54 27 := congrFun kp17 27
        have fe29 : mI M15 54 32 = mI M 54 32 := congrFun kp17 32
        refine vc_iadd dX12_goOn_79 ?_
        refine vc_putI dX12_goOn_80 (plX12_327 _ rfl) (s_54 hB23.1.1) rfl ?_
        have kp30 : mI (sI M15 54 26 (wI ((mI M 54 26) + x14))) 57 = mI M 57 := (kp_sI kp24 rfl)
        have kp31 : mI (sI M15 54 26 (wI ((mI M 54 26) + x14))) 55 = mI M 55 := (kp_sI kp25 rfl)
        have hB32 : BF fS M (sI M15 54 26 (wI ((mI M 54 26) + x14))) := BF.w54_26 hB23 rfl
        refine vc_aload_n dX12_goOn_83 rfl ?_
        refine vc_aload_n dX12_goOn_84 rfl ?_
        refine vc_aload_n dX12_goOn_85 rfl ?_
        refine vc_getI dX12_goOn_86 flX12_321 (s_54 hB32.1.1) rfl ?_
        refine vc_topI (mI M15 54 24) rfl ?_
        have k33 : 0 ≤ mI M15 54 24 ∧ mI M15 54 24 ≤ 15 := b54_24 (M := (sI M15 54 26 (wI ((mI M 54 26) + x14)))) hB32.1
        refine vc_aload_n dX12_goOn_89 rfl ?_
        refine vc_getI dX12_goOn_90 flX12_324 (s_54 hB32.1.1) rfl ?_
        refine vc_topI (mI M15 54 25) rfl ?_
        have k34 : 0 ≤ mI M15 54 25 ∧ mI M15 54 25 ≤ 3 := b54_25 (M := (sI M15 54 26 (wI ((mI M 54 26) + x14)))) hB32.1
        have k35 : mI (sI M15 54 26 (wI ((mI M 54 26) + x14))) 54 24 = mI M15 54 24 := rfl
        have k36 : mI (sI M15 54 26 (wI ((mI M 54 26) + x14))) 54 25 = mI M15 54 25 := rfl
        have k37 : mI (sI M15 54 26 (wI ((mI M 54 26) + x14))) 54 27 = mI M15 54 27 := rfl
        have k38 : mI (sI M15 54 26 (wI ((mI M 54 26) + x14))) 54 32 = mI M15 54 32 := rfl
        refine vc_cVI dX12_goOn_93 (sfX12_streetOf (M := (sI M15 54 26 (wI ((mI M 54 26) + x14)))) hB32.1  (mI M15 54 24) (mI M15 54 25) (by omega) (by omega) (by omega) (by omega)) rfl okX12_streetOf viX12_streetOf lkX12_91 (s_54 hB32.1.1) cl_12 rfl (Nat.le_of_ble_eq_true rfl) ⟨rfl, rfl⟩ (Nat.le_of_ble_eq_true rfl) (Nat.le_of_ble_eq_true rfl) (Nat.le_of_ble_eq_true rfl) ?_
        rintro x39 _ ⟨rfl, h40, h41, h42⟩
        have e4 : x39 = mI M 55 ((((10 + (9 * mI M 54 24)) + 1) + mI M 54 25)).toNat := by
          rw [← fe26, ← fe27]
          exact h42.trans (congrFun kp31 _)
        have e5 : 0 ≤ x39 := by omega
        refine vc_putI dX12_goOn_96 (plX12_321 _ rfl) (s_54 hB32.1.1) rfl ?_
        have kp43 : mI (sI (sI M15 54 26 (wI ((mI M 54 26) + x14))) 54 24 x39) 57 = mI M 57 := (kp_sI kp30 rfl)
        have kp44 : mI (sI (sI M15 54 26 (wI ((mI M 54 26) + x14))) 54 24 x39) 55 = mI M 55 := (kp_sI kp31 rfl)
        have hB45 : BF fS M (sI (sI M15 54 26 (wI ((mI M 54 26) + x14))) 54 24 x39) := BF.w54_24 hB32 rfl (by omega) (by omega)
        refine vc_aload_n dX12_goOn_99 rfl ?_
        refine vc_aload_n dX12_goOn_100 rfl ?_
        refine vc_getI dX12_goOn_101 flX12_324 (s_54 hB45.1.1) rfl ?_
        refine vc_topI (mI M15 54 25) rfl ?_
        have k46 : 0 ≤ mI M15 54 25 ∧ mI M15 54 25 ≤ 3 := b54_25 (M := (sI (sI M15 54 26 (wI ((mI M 54 26) + x14))) 54 24 x39)) hB45.1
        refine vc_iconst dX12_goOn_104 rfl ?_
        refine vc_iaddE dX12_goOn_105 (by omega) (by omega) ?_
        refine vc_iconst dX12_goOn_106 rfl ?_
        refine vc_iremE dX12_goOn_107 (by omega) (by omega) ?_
        refine vc_putI dX12_goOn_108 (plX12_339 _ rfl) (s_54 hB45.1.1) rfl ?_
        have kp47 : mI (sI (sI (sI M15 54 26 (wI ((mI M 54 26) + x14))) 54 24 x39) 54 30 (((mI M15 54 25) + 2) % 4)) 57 = mI M 57 := (kp_sI kp43 rfl)
        have kp48 : mI (sI (sI (sI M15 54 26 (wI ((mI M 54 26) + x14))) 54 24 x39) 54 30 (((mI M15 54 25) + 2) % 4)) 55 = mI M 55 := (kp_sI kp44 rfl)
        have hB49 : BF fS M (sI (sI (sI M15 54 26 (wI ((mI M 54 26) + x14))) 54 24 x39) 54 30 (((mI M15 54 25) + 2) % 4)) := BF.w54_30 hB45 rfl
        refine vc_aload_n dX12_goOn_111 rfl ?_
        refine vc_dup dX12_goOn_112 rfl ?_
        refine vc_getI dX12_goOn_113 flX12_330 (s_54 hB49.1.1) rfl ?_
        refine vc_topI (mI M15 54 27) rfl ?_
        have k50 : 0 ≤ mI M15 54 27 ∧ mI M15 54 27 ≤ 40 := b54_27 (M := (sI (sI (sI M15 54 26 (wI ((mI M 54 26) + x14))) 54 24 x39) 54 30 (((mI M15 54 25) + 2) % 4))) hB49.1
        refine vc_iconst dX12_goOn_116 rfl ?_
        refine vc_iaddE dX12_goOn_117 (by omega) (by omega) ?_
        refine vc_putI dX12_goOn_118 (plX12_330 _ rfl) (s_54 hB49.1.1) rfl ?_
        have kp51 : mI (sI (sI (sI (sI M15 54 26 (wI ((mI M 54 26) + x14))) 54 24 x39) 54 30 (((mI M15 54 25) + 2) % 4)) 54 27 ((mI M15 54 27) + 1)) 57 = mI M 57 := (kp_sI kp47 rfl)
        have kp52 : mI (sI (sI (sI (sI M15 54 26 (wI ((mI M 54 26) + x14))) 54 24 x39) 54 30 (((mI M15 54 25) + 2) % 4)) 54 27 ((mI M15 54 27) + 1)) 55 = mI M 55 := (kp_sI kp48 rfl)
        have hB53 : BF fS M (sI (sI (sI (sI M15 54 26 (wI ((mI M 54 26) + x14))) 54 24 x39) 54 30 (((mI M15 54 25) + 2) % 4)) 54 27 ((mI M15 54 27) + 1)) := BF.w54_27 hB49 rfl (by omega) (by omega)
        refine vc_iconst dX12_goOn_121 rfl ?_
        refine vc_zret dX12_goOn_122 rfl (by first | decide | omega) (Nat.le_of_ble_eq_true rfl) (Nat.le_of_ble_eq_true rfl) ?_
        have k54 : mI (sI (sI (sI (sI M15 54 26 (wI ((mI M 54 26) + x14))) 54 24 x39) 54 30 (((mI M15 54 25) + 2) % 4)) 54 27 ((mI M15 54 27) + 1)) 54 24 = x39 := rfl
        have k55 : mI (sI (sI (sI (sI M15 54 26 (wI ((mI M 54 26) + x14))) 54 24 x39) 54 30 (((mI M15 54 25) + 2) % 4)) 54 27 ((mI M15 54 27) + 1)) 54 25 = mI M15 54 25 := rfl
        have k56 : mI (sI (sI (sI (sI M15 54 26 (wI ((mI M 54 26) + x14))) 54 24 x39) 54 30 (((mI M15 54 25) + 2) % 4)) 54 27 ((mI M15 54 27) + 1)) 54 27 = (mI M15 54 27) + 1 := rfl
        have k57 : mI (sI (sI (sI (sI M15 54 26 (wI ((mI M 54 26) + x14))) 54 24 x39) 54 30 (((mI M15 54 25) + 2) % 4)) 54 27 ((mI M15 54 27) + 1)) 54 32 = mI M15 54 32 := rfl
        exact ⟨_, rfl, hB53, kp52, kp51, by omega, by omega, by omega, by omega⟩
      · refine vc_aload_n dX12_goOn_37 rfl ?_
        refine vc_dup dX12_goOn_38 rfl ?_
        refine vc_getI dX12_goOn_39 flX12_333 (s_54 hB0.1.1) rfl ?_
        refine vc_iconst dX12_goOn_42 rfl ?_
        refine vc_iadd dX12_goOn_43 ?_
        refine vc_putI dX12_goOn_44 (plX12_333 _ rfl) (s_54 hB0.1.1) rfl ?_
        have kp58 : mI (sI M 54 28 (wI ((mI M 54 28) + 1))) 57 = mI M 57 := (kp_sI rfl rfl)
        have kp59 : mI (sI M 54 28 (wI ((mI M 54 28) + 1))) 55 = mI M 55 := (kp_sI rfl rfl)
        have hB60 : BF fS M (sI M 54 28 (wI ((mI M 54 28) + 1))) := BF.w54_28 hB0 rfl
        refine vc_aload_n dX12_goOn_47 rfl ?_
        refine vc_dup dX12_goOn_48 rfl ?_
        refine vc_getI dX12_goOn_49 flX12_336 (s_54 hB60.1.1) rfl ?_
        refine vc_topI (mI M 54 29) rfl ?_
        refine vc_iconst dX12_goOn_52 rfl ?_
        refine vc_aload_n dX12_goOn_53 rfl ?_
        refine vc_getI dX12_goOn_54 flX12_321 (s_54 hB60.1.1) rfl ?_
        refine vc_topI (mI M 54 24) rfl ?_
        have k61 : 0 ≤ mI M 54 24 ∧ mI M 54 24 ≤ 15 := b54_24 (M := (sI M 54 28 (wI ((mI M 54 28) + 1)))) hB60.1
        refine vc_ishl dX12_goOn_57 ?_
        refine vc_ior dX12_goOn_58 ?_
        refine vc_putI dX12_goOn_59 (plX12_336 _ rfl) (s_54 hB60.1.1) rfl ?_
        have kp62 : mI (sI (sI M 54 28 (wI ((mI M 54 28) + 1))) 54 29 (orI (mI M 54 29) (shlI 1 (mI M 54 24)))) 57 = mI M 57 := (kp_sI kp58 rfl)
        have kp63 : mI (sI (sI M 54 28 (wI ((mI M 54 28) + 1))) 54 29 (orI (mI M 54 29) (shlI 1 (mI M 54 24)))) 55 = mI M 55 := (kp_sI kp59 rfl)
        have hB64 : BF fS M (sI (sI M 54 28 (wI ((mI M 54 28) + 1))) 54 29 (orI (mI M 54 29) (shlI 1 (mI M 54 24)))) := BF.w54_29 hB60 rfl
        refine vc_aload_n dX12_goOn_62 rfl ?_
        refine vc_dup dX12_goOn_63 rfl ?_
        refine vc_getI dX12_goOn_64 flX12_327 (s_54 hB64.1.1) rfl ?_
        refine vc_topI (mI M 54 26) rfl ?_
        refine vc_aload_n dX12_goOn_67 rfl ?_
        refine vc_aload_n dX12_goOn_68 rfl ?_
        refine vc_getI dX12_goOn_69 flX12_321 (s_54 hB64.1.1) rfl ?_
        refine vc_topI (mI M 54 24) rfl ?_
        have k65 : 0 ≤ mI M 54 24 ∧ mI M 54 24 ≤ 15 := b54_24 (M := (sI (sI M 54 28 (wI ((mI M 54 28) + 1))) 54 29 (orI (mI M 54 29) (shlI 1 (mI M 54 24))))) hB64.1
        refine vc_aload_n dX12_goOn_72 rfl ?_
        refine vc_getI dX12_goOn_73 flX12_324 (s_54 hB64.1.1) rfl ?_
        refine vc_topI (mI M 54 25) rfl ?_
        have k66 : 0 ≤ mI M 54 25 ∧ mI M 54 25 ≤ 3 := b54_25 (M := (sI (sI M 54 28 (wI ((mI M 54 28) + 1))) 54 29 (orI (mI M 54 29) (shlI 1 (mI M 54 24))))) hB64.1
        have k67 : mI (sI (sI M 54 28 (wI ((mI M 54 28) + 1))) 54 29 (orI (mI M 54 29) (shlI 1 (mI M 54 24)))) 54 24 = mI M 54 24 := rfl
        have k68 : mI (sI (sI M 54 28 (wI ((mI M 54 28) + 1))) 54 29 (orI (mI M 54 29) (shlI 1 (mI M 54 24)))) 54 25 = mI M 54 25 := rfl
        have k69 : mI (sI (sI M 54 28 (wI ((mI M 54 28) + 1))) 54 29 (orI (mI M 54 29) (shlI 1 (mI M 54 24)))) 54 27 = mI M 54 27 := rfl
        have k70 : mI (sI (sI M 54 28 (wI ((mI M 54 28) + 1))) 54 29 (orI (mI M 54 29) (shlI 1 (mI M 54 24)))) 54 32 = mI M 54 32 := rfl
        refine vc_cVI dX12_goOn_76 (sfX12_paceOf (M := (sI (sI M 54 28 (wI ((mI M 54 28) + 1))) 54 29 (orI (mI M 54 29) (shlI 1 (mI M 54 24))))) hB64.1  (mI M 54 24) (mI M 54 25) (by omega) (by omega) (by omega) (by omega)) rfl okX12_paceOf viX12_paceOf lkX12_345 (s_54 hB64.1.1) cl_12 rfl (Nat.le_of_ble_eq_true rfl) ⟨rfl, rfl⟩ (Nat.le_of_ble_eq_true rfl) (Nat.le_of_ble_eq_true rfl) (Nat.le_of_ble_eq_true rfl) ?_
        rintro x71 M72 ⟨hB73, kp74, kp75, kp76, kp77, kp78, kp79⟩
        have hB80 : BF fS M M72 := BF.go hB64 hB73
        have kp81 : mI M72 57 = mI M 57 := kp_go kp62 kp76
        have kp82 : mI M72 55 = mI M 55 := kp_go kp63 kp75
        have fe83 : mI M72 54 24 = mI M 54 24 := congrFun kp74 24
        have fe84 : mI M72 54 25 = mI M 54 25 := congrFun kp74 25
        have fe85 : mI M72 54 27 = mI M 54 27 := congrFun kp74 27
        have fe86 : mI M72 54 32 = mI M 54 32 := congrFun kp74 32
        refine vc_iadd dX12_goOn_79 ?_
        refine vc_putI dX12_goOn_80 (plX12_327 _ rfl) (s_54 hB80.1.1) rfl ?_
        have kp87 : mI (sI M72 54 26 (wI ((mI M 54 26) + x71))) 57 = mI M 57 := (kp_sI kp81 rfl)
        have kp88 : mI (sI M72 54 26 (wI ((mI M 54 26) + x71))) 55 = mI M 55 := (kp_sI kp82 rfl)
        have hB89 : BF fS M (sI M72 54 26 (wI ((mI M 54 26) + x71))) := BF.w54_26 hB80 rfl
        refine vc_aload_n dX12_goOn_83 rfl ?_
        refine vc_aload_n dX12_goOn_84 rfl ?_
        refine vc_aload_n dX12_goOn_85 rfl ?_
        refine vc_getI dX12_goOn_86 flX12_321 (s_54 hB89.1.1) rfl ?_
        refine vc_topI (mI M72 54 24) rfl ?_
        have k90 : 0 ≤ mI M72 54 24 ∧ mI M72 54 24 ≤ 15 := b54_24 (M := (sI M72 54 26 (wI ((mI M 54 26) + x71)))) hB89.1
        refine vc_aload_n dX12_goOn_89 rfl ?_
        refine vc_getI dX12_goOn_90 flX12_324 (s_54 hB89.1.1) rfl ?_
        refine vc_topI (mI M72 54 25) rfl ?_
        have k91 : 0 ≤ mI M72 54 25 ∧ mI M72 54 25 ≤ 3 := b54_25 (M := (sI M72 54 26 (wI ((mI M 54 26) + x71)))) hB89.1
        have k92 : mI (sI M72 54 26 (wI ((mI M 54 26) + x71))) 54 24 = mI M72 54 24 := rfl
        have k93 : mI (sI M72 54 26 (wI ((mI M 54 26) + x71))) 54 25 = mI M72 54 25 := rfl
        have k94 : mI (sI M72 54 26 (wI ((mI M 54 26) + x71))) 54 27 = mI M72 54 27 := rfl
        have k95 : mI (sI M72 54 26 (wI ((mI M 54 26) + x71))) 54 32 = mI M72 54 32 := rfl
        refine vc_cVI dX12_goOn_93 (sfX12_streetOf (M := (sI M72 54 26 (wI ((mI M 54 26) + x71)))) hB89.1  (mI M72 54 24) (mI M72 54 25) (by omega) (by omega) (by omega) (by omega)) rfl okX12_streetOf viX12_streetOf lkX12_91 (s_54 hB89.1.1) cl_12 rfl (Nat.le_of_ble_eq_true rfl) ⟨rfl, rfl⟩ (Nat.le_of_ble_eq_true rfl) (Nat.le_of_ble_eq_true rfl) (Nat.le_of_ble_eq_true rfl) ?_
        rintro x96 _ ⟨rfl, h97, h98, h99⟩
        have e4 : x96 = mI M 55 ((((10 + (9 * mI M 54 24)) + 1) + mI M 54 25)).toNat := by
          rw [← fe83, ← fe84]
          exact h99.trans (congrFun kp88 _)
        have e5 : 0 ≤ x96 := by omega
        refine vc_putI dX12_goOn_96 (plX12_321 _ rfl) (s_54 hB89.1.1) rfl ?_
        have kp100 : mI (sI (sI M72 54 26 (wI ((mI M 54 26) + x71))) 54 24 x96) 57 = mI M 57 := (kp_sI kp87 rfl)
        have kp101 : mI (sI (sI M72 54 26 (wI ((mI M 54 26) + x71))) 54 24 x96) 55 = mI M 55 := (kp_sI kp88 rfl)
        have hB102 : BF fS M (sI (sI M72 54 26 (wI ((mI M 54 26) + x71))) 54 24 x96) := BF.w54_24 hB89 rfl (by omega) (by omega)
        refine vc_aload_n dX12_goOn_99 rfl ?_
        refine vc_aload_n dX12_goOn_100 rfl ?_
        refine vc_getI dX12_goOn_101 flX12_324 (s_54 hB102.1.1) rfl ?_
        refine vc_topI (mI M72 54 25) rfl ?_
        have k103 : 0 ≤ mI M72 54 25 ∧ mI M72 54 25 ≤ 3 := b54_25 (M := (sI (sI M72 54 26 (wI ((mI M 54 26) + x71))) 54 24 x96)) hB102.1
        refine vc_iconst dX12_goOn_104 rfl ?_
        refine vc_iaddE dX12_goOn_105 (by omega) (by omega) ?_
        refine vc_iconst dX12_goOn_106 rfl ?_
        refine vc_iremE dX12_goOn_107 (by omega) (by omega) ?_
        refine vc_putI dX12_goOn_108 (plX12_339 _ rfl) (s_54 hB102.1.1) rfl ?_
        have kp104 : mI (sI (sI (sI M72 54 26 (wI ((mI M 54 26) + x71))) 54 24 x96) 54 30 (((mI M72 54 25) + 2) % 4)) 57 = mI M 57 := (kp_sI kp100 rfl)
        have kp105 : mI (sI (sI (sI M72 54 26 (wI ((mI M 54 26) + x71))) 54 24 x96) 54 30 (((mI M72 54 25) + 2) % 4)) 55 = mI M 55 := (kp_sI kp101 rfl)
        have hB106 : BF fS M (sI (sI (sI M72 54 26 (wI ((mI M 54 26) + x71))) 54 24 x96) 54 30 (((mI M72 54 25) + 2) % 4)) := BF.w54_30 hB102 rfl
        refine vc_aload_n dX12_goOn_111 rfl ?_
        refine vc_dup dX12_goOn_112 rfl ?_
        refine vc_getI dX12_goOn_113 flX12_330 (s_54 hB106.1.1) rfl ?_
        refine vc_topI (mI M72 54 27) rfl ?_
        have k107 : 0 ≤ mI M72 54 27 ∧ mI M72 54 27 ≤ 40 := b54_27 (M := (sI (sI (sI M72 54 26 (wI ((mI M 54 26) + x71))) 54 24 x96) 54 30 (((mI M72 54 25) + 2) % 4))) hB106.1
        refine vc_iconst dX12_goOn_116 rfl ?_
        refine vc_iaddE dX12_goOn_117 (by omega) (by omega) ?_
        refine vc_putI dX12_goOn_118 (plX12_330 _ rfl) (s_54 hB106.1.1) rfl ?_
        have kp108 : mI (sI (sI (sI (sI M72 54 26 (wI ((mI M 54 26) + x71))) 54 24 x96) 54 30 (((mI M72 54 25) + 2) % 4)) 54 27 ((mI M72 54 27) + 1)) 57 = mI M 57 := (kp_sI kp104 rfl)
        have kp109 : mI (sI (sI (sI (sI M72 54 26 (wI ((mI M 54 26) + x71))) 54 24 x96) 54 30 (((mI M72 54 25) + 2) % 4)) 54 27 ((mI M72 54 27) + 1)) 55 = mI M 55 := (kp_sI kp105 rfl)
        have hB110 : BF fS M (sI (sI (sI (sI M72 54 26 (wI ((mI M 54 26) + x71))) 54 24 x96) 54 30 (((mI M72 54 25) + 2) % 4)) 54 27 ((mI M72 54 27) + 1)) := BF.w54_27 hB106 rfl (by omega) (by omega)
        refine vc_iconst dX12_goOn_121 rfl ?_
        refine vc_zret dX12_goOn_122 rfl (by first | decide | omega) (Nat.le_of_ble_eq_true rfl) (Nat.le_of_ble_eq_true rfl) ?_
        have k111 : mI (sI (sI (sI (sI M72 54 26 (wI ((mI M 54 26) + x71))) 54 24 x96) 54 30 (((mI M72 54 25) + 2) % 4)) 54 27 ((mI M72 54 27) + 1)) 54 24 = x96 := rfl
        have k112 : mI (sI (sI (sI (sI M72 54 26 (wI ((mI M 54 26) + x71))) 54 24 x96) 54 30 (((mI M72 54 25) + 2) % 4)) 54 27 ((mI M72 54 27) + 1)) 54 25 = mI M72 54 25 := rfl
        have k113 : mI (sI (sI (sI (sI M72 54 26 (wI ((mI M 54 26) + x71))) 54 24 x96) 54 30 (((mI M72 54 25) + 2) % 4)) 54 27 ((mI M72 54 27) + 1)) 54 27 = (mI M72 54 27) + 1 := rfl
        have k114 : mI (sI (sI (sI (sI M72 54 26 (wI ((mI M 54 26) + x71))) 54 24 x96) 54 30 (((mI M72 54 25) + 2) % 4)) 54 27 ((mI M72 54 27) + 1)) 54 32 = mI M72 54 32 := rfl
        exact ⟨_, rfl, hB110, kp109, kp108, by omega, by omega, by omega, by omega⟩
    · refine vc_iconst dX12_goOn_24 rfl ?_
      refine vc_zret dX12_goOn_25 rfl (by first | decide | omega) (Nat.le_of_ble_eq_true rfl) (Nat.le_of_ble_eq_true rfl) ?_
      exact ⟨_, rfl, hB0, rfl, rfl, by omega, by omega, by omega, by omega⟩

set_option maxRecDepth 4000 in
theorem sfX12_isCounted {l : Launch} {M : Mem} (hB : Box M)  (d : Int) (s : Int) (p0 : 0 ≤ d) (p1 : d ≤ 3) : Call l mdX12_isCounted [aR 54, aI d, aI s] M (fun q N => ∃ r : Int, q = some (aI r) ∧ M = N ∧ 0 ≤ r ∧ r ≤ 1) := by
  have hB0 : BF fQ M M := BF.start hB
  refine Call.of [some (aR 54), some (aI d), some (aI s)] rfl (Nat.le_of_ble_eq_true rfl) rfl ?_
  refine vc_ok (fun hoM hoS hoL => ?_)
  have hr2 : -2147483648 ≤ s ∧ s < 2147483648 := hoL 2 _ rfl
  refine vc_aload_n dX12_isCounted_0 rfl ?_
  refine vc_aload_n dX12_isCounted_1 rfl ?_
  refine vc_getI dX12_isCounted_2 flX12_321 (s_54 hB0.1.1) rfl ?_
  have k1 : 0 ≤ mI M 54 24 ∧ mI M 54 24 ≤ 15 := b54_24 (M := M) hB0.1
  refine vc_iload_n dX12_isCounted_5 rfl ?_
  refine vc_cVI dX12_isCounted_6 (sfX12_streetOf (M := M) hB0.1  (mI M 54 24) d (by omega) (by omega) (by omega) (by omega)) rfl okX12_streetOf viX12_streetOf lkX12_91 (s_54 hB0.1.1) cl_12 rfl (Nat.le_of_ble_eq_true rfl) ⟨rfl, rfl⟩ (Nat.le_of_ble_eq_true rfl) (Nat.le_of_ble_eq_true rfl) (Nat.le_of_ble_eq_true rfl) ?_
  rintro x2 _ ⟨rfl, h3, h4, h5⟩
  refine vc_if_lt dX12_isCounted_9 (fun h6 => ?_) (fun h6 => ?_)
  · refine vc_iconst dX12_isCounted_34 rfl ?_
    refine vc_zret dX12_isCounted_35 rfl (by first | decide | omega) (Nat.le_of_ble_eq_true rfl) (Nat.le_of_ble_eq_true rfl) ?_
    exact ⟨_, rfl, rfl, by omega, by omega⟩
  · refine vc_aload_n dX12_isCounted_12 rfl ?_
    refine vc_aload_n dX12_isCounted_13 rfl ?_
    refine vc_getI dX12_isCounted_14 flX12_321 (s_54 hB0.1.1) rfl ?_
    refine vc_iload_n dX12_isCounted_17 rfl ?_
    refine vc_cVI dX12_isCounted_18 (sfX12_isLane (M := M) hB0.1  (mI M 54 24) d (by omega) (by omega) (by omega) (by omega)) rfl okX12_isLane viX12_isLane lkX12_315 (s_54 hB0.1.1) cl_12 rfl (Nat.le_of_ble_eq_true rfl) ⟨rfl, rfl⟩ (Nat.le_of_ble_eq_true rfl) (Nat.le_of_ble_eq_true rfl) (Nat.le_of_ble_eq_true rfl) ?_
    rintro x7 _ ⟨rfl, h8, h9⟩
    refine vc_if_eq dX12_isCounted_21 (fun h10 => ?_) (fun h10 => ?_)
    · refine vc_iconst dX12_isCounted_30 rfl ?_
      refine vc_goto dX12_isCounted_31 ?_
      refine vc_zret dX12_isCounted_35 rfl (by first | decide | omega) (Nat.le_of_ble_eq_true rfl) (Nat.le_of_ble_eq_true rfl) ?_
      exact ⟨_, rfl, rfl, by omega, by omega⟩
    · refine vc_iload_n dX12_isCounted_24 rfl ?_
      refine vc_iconst dX12_isCounted_25 rfl ?_
      refine vc_iand dX12_isCounted_26 ?_
      refine vc_if_ne dX12_isCounted_27 (fun h11 => ?_) (fun h11 => ?_)
      · refine vc_iconst dX12_isCounted_34 rfl ?_
        refine vc_zret dX12_isCounted_35 rfl (by first | decide | omega) (Nat.le_of_ble_eq_true rfl) (Nat.le_of_ble_eq_true rfl) ?_
        exact ⟨_, rfl, rfl, by omega, by omega⟩
      · refine vc_iconst dX12_isCounted_30 rfl ?_
        refine vc_goto dX12_isCounted_31 ?_
        refine vc_zret dX12_isCounted_35 rfl (by first | decide | omega) (Nat.le_of_ble_eq_true rfl) (Nat.le_of_ble_eq_true rfl) ?_
        exact ⟨_, rfl, rfl, by omega, by omega⟩

set_option maxRecDepth 4000 in
theorem sfX12_goTurn {l : Launch} {M : Mem} (hB : Box M)  (t : Int) (s : Int)  : Call l mdX12_goTurn [aR 54, aI t, aI s] M (fun q N => ∃ r : Int, q = some (aI r) ∧ BF fS M N ∧ mI N 55 = mI M 55 ∧ mI N 57 = mI M 57 ∧ 0 ≤ r ∧ r ≤ 1 ∧ mI N 54 32 = mI M 54 32) := by
  have hB0 : BF fS M M := BF.start hB
  refine Call.of [some (aR 54), some (aI t), some (aI s), none, none, none, none, none, none, none] rfl (Nat.le_of_ble_eq_true rfl) rfl ?_
  refine vc_ok (fun hoM hoS hoL => ?_)
  have hr1 : -2147483648 ≤ t ∧ t < 2147483648 := hoL 1 _ rfl
  have hr2 : -2147483648 ≤ s ∧ s < 2147483648 := hoL 2 _ rfl
  have kz := b54_27 hB
  refine vc_iload_n dX12_goTurn_0 rfl ?_
  refine vc_bipush dX12_goTurn_1 rfl ?_
  refine vc_idiv dX12_goTurn_3 (by omega) ?_
  refine vc_nameI (fun x1 ex1 => ?_)
  refine vc_istore_n dX12_goTurn_4 (by decide) rfl (show _ = [some (aR 54), some (aI t), some (aI s), some (aI x1), none, none, none, none, none, none] from rfl) ?_
  refine vc_iload_n dX12_goTurn_5 rfl ?_
  refine vc_bipush dX12_goTurn_6 rfl ?_
  refine vc_irem dX12_goTurn_8 (by omega) ?_
  refine vc_nameI (fun x2 ex2 => ?_)
  refine vc_istore dX12_goTurn_9 (by decide) rfl (show _ = [some (aR 54), some (aI t), some (aI s), some (aI x1), some (aI x2), none, none, none, none, none] from rfl) ?_
  refine vc_iload_n dX12_goTurn_11 rfl ?_
  refine vc_bipush dX12_goTurn_12 rfl ?_
  refine vc_idiv dX12_goTurn_14 (by omega) ?_
  refine vc_bipush dX12_goTurn_15 rfl ?_
  refine vc_irem dX12_goTurn_17 (by omega) ?_
  refine vc_iconst dX12_goTurn_18 rfl ?_
  refine vc_icmp_ne dX12_goTurn_19 (fun h3 => ?_) (fun h3 => ?_)
  · refine vc_iconst dX12_goTurn_26 rfl ?_
    refine vc_istore dX12_goTurn_27 (by decide) rfl (show _ = [some (aR 54), some (aI t), some (aI s), some (aI x1), some (aI x2), some (aI 0), none, none, none, none] from rfl) ?_
    refine vc_iload dX12_goTurn_29 rfl ?_
    refine vc_if_eq dX12_goTurn_31 (fun h4 => ?_) (fun h4 => by exfalso; omega)
    refine vc_iload_n dX12_goTurn_52 rfl ?_
    refine vc_iconst dX12_goTurn_53 rfl ?_
    refine vc_icmp_ne dX12_goTurn_54 (fun h5 => ?_) (fun h5 => ?_)
    · refine vc_iconst dX12_goTurn_61 rfl ?_
      refine vc_iload_n dX12_goTurn_62 rfl ?_
      refine vc_iconst dX12_goTurn_63 rfl ?_
      refine vc_iandM dX12_goTurn_64 2 1 rfl (by decide) rfl ?_
      refine vc_if_ne dX12_goTurn_65 (fun h6 => ?_) (fun h6 => ?_)
      · refine vc_iconst dX12_goTurn_72 rfl ?_
        refine vc_icmp_ne dX12_goTurn_73 (fun h7 => by exfalso; omega) (fun h7 => ?_)
        refine vc_iconst dX12_goTurn_76 rfl ?_
        refine vc_goto dX12_goTurn_77 ?_
        refine vc_istore dX12_goTurn_81 (by decide) rfl (show _ = [some (aR 54), some (aI t), some (aI s), some (aI x1), some (aI x2), some (aI 0), some (aI 1), none, none, none] from rfl) ?_
        refine vc_iload_n dX12_goTurn_83 rfl ?_
        refine vc_iconst dX12_goTurn_84 rfl ?_
        refine vc_icmp_ne dX12_goTurn_85 (fun h8 => ?_) (fun h8 => ?_)
        · refine vc_aload_n dX12_goTurn_95 rfl ?_
          refine vc_getI dX12_goTurn_96 flX12_324 (s_54 hB0.1.1) rfl ?_
          have k9 : 0 ≤ mI M 54 25 ∧ mI M 54 25 ≤ 3 := b54_25 (M := M) hB0.1
          refine vc_iload dX12_goTurn_99 rfl ?_
          refine vc_if_eq dX12_goTurn_101 (fun h10 => by exfalso; omega) (fun h10 => ?_)
          refine vc_iconst dX12_goTurn_104 rfl ?_
          refine vc_goto dX12_goTurn_105 ?_
          refine vc_iaddE dX12_goTurn_109 (by omega) (by omega) ?_
          refine vc_iconst dX12_goTurn_110 rfl ?_
          refine vc_iremE dX12_goTurn_111 (by omega) (by omega) ?_
          refine vc_nameI (fun x11 ex11 => ?_)
          refine vc_istore dX12_goTurn_112 (by decide) rfl (show _ = [some (aR 54), some (aI t), some (aI s), some (aI x1), some (aI x2), some (aI 0), some (aI 1), some (aI x11), none, none] from rfl) ?_
          refine vc_iconst dX12_goTurn_114 rfl ?_
          refine vc_istore dX12_goTurn_115 (by decide) rfl (show _ = [some (aR 54), some (aI t), some (aI s), some (aI x1), some (aI x2), some (aI 0), some (aI 1), some (aI x11), some (aI 0), none] from rfl) ?_
          refine vc_iconst dX12_goTurn_117 rfl ?_
          refine vc_istore dX12_goTurn_118 (by decide) rfl (show _ = [some (aR 54), some (aI t), some (aI s), some (aI x1), some (aI x2), some (aI 0), some (aI 1), some (aI x11), some (aI 0), some (aI 0)] from rfl) ?_
          have lp120 : ∀ (n120 : Nat) (Mq120 : Mem) (v8 : Int) (v9 : Int), (BF fS M Mq120) → (mI Mq120 57 = mI M 57) → (mI Mq120 55 = mI M 55) → (0 ≤ v9) → (v9 ≤ 1) → (mI Mq120 54 32 = mI M 54 32) → (0 ≤ mI Mq120 54 27) → (mI Mq120 54 27 ≤ 40) → (40 - mI Mq120 54 27).toNat < n120 → VC l mdX12_goTurn 120 [some (aR 54), none, some (aI s), some (aI x1), some (aI x2), some (aI 0), none, some (aI x11), some (aI v8), some (aI v9)] [] Mq120 0 0 (fun q N => ∃ r : Int, q = some (aI r) ∧ BF fS M N ∧ mI N 55 = mI M 55 ∧ mI N 57 = mI M 57 ∧ 0 ≤ r ∧ r ≤ 1 ∧ mI N 54 32 = mI M 54 32) := by
            intro n120
            induction n120 with
            | zero => intro Mq120 v8 v9 hQ120 kp120_57 kp120_55 g120_9a g120_9b g120i0 g120i1 g120i2 hm120; exact absurd hm120 (Nat.not_lt_zero _)
            | succ n120 ih120 =>
              intro Mq120 v8 v9 hQ120 kp120_57 kp120_55 g120_9a g120_9b g120i0 g120i1 g120i2 hm120
              refine vc_iload dX12_goTurn_120 rfl ?_
              refine vc_if_ne dX12_goTurn_122 (fun h12 => ?_) (fun h12 => ?_)
              · refine vc_iload_n dX12_goTurn_200 rfl ?_
                refine vc_iconst dX12_goTurn_201 rfl ?_
                refine vc_icmp_eq dX12_goTurn_202 (fun h13 => ?_) (fun h13 => ?_)
                · refine vc_aload_n dX12_goTurn_217 rfl ?_
                  refine vc_iload dX12_goTurn_218 rfl ?_
                  refine vc_putI dX12_goTurn_220 (plX12_324 _ rfl) (s_54 hQ120.1.1) rfl ?_
                  have kp14 : mI (sI Mq120 54 25 x11) 57 = mI M 57 := (kp_sI kp120_57 rfl)
                  have kp15 : mI (sI Mq120 54 25 x11) 55 = mI M 55 := (kp_sI kp120_55 rfl)
                  have hB16 : BF fS M (sI Mq120 54 25 x11) := BF.w54_25 hQ120 rfl (by omega) (by omega)
                  refine vc_iconst dX12_goTurn_223 rfl ?_
                  refine vc_zret dX12_goTurn_224 rfl (by first | decide | omega) (Nat.le_of_ble_eq_true rfl) (Nat.le_of_ble_eq_true rfl) ?_
                  have k17 : mI (sI Mq120 54 25 x11) 54 27 = mI Mq120 54 27 := rfl
                  have k18 : mI (sI Mq120 54 25 x11) 54 32 = mI Mq120 54 32 := rfl
                  exact ⟨_, rfl, hB16, kp15, kp14, by omega, by omega, by omega⟩
                · refine vc_aload_n dX12_goTurn_205 rfl ?_
                  refine vc_iload dX12_goTurn_206 rfl ?_
                  refine vc_iload_n dX12_goTurn_208 rfl ?_
                  refine vc_cVI dX12_goTurn_209 (sfX12_isCounted (M := Mq120) hQ120.1  x11 s (by omega) (by omega)) rfl okX12_isCounted viX12_isCounted lkX12_352 (s_54 hQ120.1.1) cl_12 rfl (Nat.le_of_ble_eq_true rfl) ⟨rfl, rfl⟩ (Nat.le_of_ble_eq_true rfl) (Nat.le_of_ble_eq_true rfl) (Nat.le_of_ble_eq_true rfl) ?_
                  rintro x19 _ ⟨rfl, h20, h21⟩
                  refine vc_if_ne dX12_goTurn_212 (fun h22 => ?_) (fun h22 => ?_)
                  · refine vc_aload_n dX12_goTurn_217 rfl ?_
                    refine vc_iload dX12_goTurn_218 rfl ?_
                    refine vc_putI dX12_goTurn_220 (plX12_324 _ rfl) (s_54 hQ120.1.1) rfl ?_
                    have kp23 : mI (sI Mq120 54 25 x11) 57 = mI M 57 := (kp_sI kp120_57 rfl)
                    have kp24 : mI (sI Mq120 54 25 x11) 55 = mI M 55 := (kp_sI kp120_55 rfl)
                    have hB25 : BF fS M (sI Mq120 54 25 x11) := BF.w54_25 hQ120 rfl (by omega) (by omega)
                    refine vc_iconst dX12_goTurn_223 rfl ?_
                    refine vc_zret dX12_goTurn_224 rfl (by first | decide | omega) (Nat.le_of_ble_eq_true rfl) (Nat.le_of_ble_eq_true rfl) ?_
                    have k26 : mI (sI Mq120 54 25 x11) 54 27 = mI Mq120 54 27 := rfl
                    have k27 : mI (sI Mq120 54 25 x11) 54 32 = mI Mq120 54 32 := rfl
                    exact ⟨_, rfl, hB25, kp24, kp23, by omega, by omega, by omega⟩
                  · refine vc_iconst dX12_goTurn_215 rfl ?_
                    refine vc_zret dX12_goTurn_216 rfl (by first | decide | omega) (Nat.le_of_ble_eq_true rfl) (Nat.le_of_ble_eq_true rfl) ?_
                    exact ⟨_, rfl, hQ120, kp120_55, kp120_57, by omega, by omega, by omega⟩
              · refine vc_aload_n dX12_goTurn_125 rfl ?_
                refine vc_cVI dX12_goTurn_126 (sfX12_goOn (M := Mq120) hQ120.1   ) rfl okX12_goOn viX12_goOn lkX12_348 (s_54 hQ120.1.1) cl_12 rfl (Nat.le_of_ble_eq_true rfl) ⟨rfl, rfl⟩ (Nat.le_of_ble_eq_true rfl) (Nat.le_of_ble_eq_true rfl) (Nat.le_of_ble_eq_true rfl) ?_
                rintro x28 M29 ⟨hB30, kp31, kp32, h33, h34, h35, h36⟩
                have hB37 : BF fS M M29 := BF.go hQ120 hB30
                have kp38 : mI M29 57 = mI M 57 := kp_go kp120_57 kp32
                have kp39 : mI M29 55 = mI M 55 := kp_go kp120_55 kp31
                have kz := b54_27 (M := M29) hB37.1
                refine vc_if_ne dX12_goTurn_129 (fun h40 => ?_) (fun h40 => ?_)
                · refine vc_iload dX12_goTurn_134 rfl ?_
                  refine vc_if_ne dX12_goTurn_136 (fun h41 => by exfalso; omega) (fun h41 => ?_)
                  refine vc_iload_n dX12_goTurn_139 rfl ?_
                  refine vc_iconst dX12_goTurn_140 rfl ?_
                  refine vc_icmp_eq dX12_goTurn_141 (fun h42 => ?_) (fun h42 => ?_)
                  · refine vc_iinc dX12_goTurn_154 rfl (by decide) rfl (show _ = [some (aR 54), none, some (aI s), some (aI x1), some (aI x2), some (aI 0), none, some (aI x11), some (aI (wI (v8 + 1))), some (aI v9)] from rfl) ?_
                    refine vc_iload dX12_goTurn_157 rfl ?_
                    refine vc_if_eq dX12_goTurn_159 (fun h43 => ?_) (fun h43 => by exfalso; omega)
                    refine vc_iload dX12_goTurn_183 rfl ?_
                    refine vc_iload dX12_goTurn_185 rfl ?_
                    refine vc_icmp_ne dX12_goTurn_187 (fun h44 => ?_) (fun h44 => ?_)
                    · refine vc_iconst dX12_goTurn_194 rfl ?_
                      refine vc_istore dX12_goTurn_195 (by decide) rfl (show _ = [some (aR 54), none, some (aI s), some (aI x1), some (aI x2), some (aI 0), none, some (aI x11), some (aI (wI (v8 + 1))), some (aI 0)] from rfl) ?_
                      refine vc_goto dX12_goTurn_197 ?_
                      exact ih120 M29 (wI (v8 + 1)) 0 hB37 kp38 kp39 (by omega) (by omega) (by omega) (by omega) (by omega) (by omega)
                    · refine vc_iconst dX12_goTurn_190 rfl ?_
                      refine vc_goto dX12_goTurn_191 ?_
                      refine vc_istore dX12_goTurn_195 (by decide) rfl (show _ = [some (aR 54), none, some (aI s), some (aI x1), some (aI x2), some (aI 0), none, some (aI x11), some (aI (wI (v8 + 1))), some (aI 1)] from rfl) ?_
                      refine vc_goto dX12_goTurn_197 ?_
                      exact ih120 M29 (wI (v8 + 1)) 1 hB37 kp38 kp39 (by omega) (by omega) (by omega) (by omega) (by omega) (by omega)
                  · refine vc_aload_n dX12_goTurn_144 rfl ?_
                    refine vc_iload dX12_goTurn_145 rfl ?_
                    refine vc_iload_n dX12_goTurn_147 rfl ?_
                    refine vc_cVI dX12_goTurn_148 (sfX12_isCounted (M := M29) hB37.1  x11 s (by omega) (by omega)) rfl okX12_isCounted viX12_isCounted lkX12_352 (s_54 hB37.1.1) cl_12 rfl (Nat.le_of_ble_eq_true rfl) ⟨rfl, rfl⟩ (Nat.le_of_ble_eq_true rfl) (Nat.le_of_ble_eq_true rfl) (Nat.le_of_ble_eq_true rfl) ?_
                    rintro x45 _ ⟨rfl, h46, h47⟩
                    refine vc_if_eq dX12_goTurn_151 (fun h48 => ?_) (fun h48 => ?_)
                    · refine vc_iload dX12_goTurn_157 rfl ?_
                      refine vc_if_eq dX12_goTurn_159 (fun h49 => ?_) (fun h49 => by exfalso; omega)
                      refine vc_iload dX12_goTurn_183 rfl ?_
                      refine vc_iload dX12_goTurn_185 rfl ?_
                      refine vc_icmp_ne dX12_goTurn_187 (fun h50 => ?_) (fun h50 => ?_)
                      · refine vc_iconst dX12_goTurn_194 rfl ?_
                        refine vc_istore dX12_goTurn_195 (by decide) rfl (show _ = [some (aR 54), none, some (aI s), some (aI x1), some (aI x2), some (aI 0), none, some (aI x11), some (aI v8), some (aI 0)] from rfl) ?_
                        refine vc_goto dX12_goTurn_197 ?_
                        exact ih120 M29 v8 0 hB37 kp38 kp39 (by omega) (by omega) (by omega) (by omega) (by omega) (by omega)
                      · refine vc_iconst dX12_goTurn_190 rfl ?_
                        refine vc_goto dX12_goTurn_191 ?_
                        refine vc_istore dX12_goTurn_195 (by decide) rfl (show _ = [some (aR 54), none, some (aI s), some (aI x1), some (aI x2), some (aI 0), none, some (aI x11), some (aI v8), some (aI 1)] from rfl) ?_
                        refine vc_goto dX12_goTurn_197 ?_
                        exact ih120 M29 v8 1 hB37 kp38 kp39 (by omega) (by omega) (by omega) (by omega) (by omega) (by omega)
                    · refine vc_iinc dX12_goTurn_154 rfl (by decide) rfl (show _ = [some (aR 54), none, some (aI s), some (aI x1), some (aI x2), some (aI 0), none, some (aI x11), some (aI (wI (v8 + 1))), some (aI v9)] from rfl) ?_
                      refine vc_iload dX12_goTurn_157 rfl ?_
                      refine vc_if_eq dX12_goTurn_159 (fun h51 => ?_) (fun h51 => by exfalso; omega)
                      refine vc_iload dX12_goTurn_183 rfl ?_
                      refine vc_iload dX12_goTurn_185 rfl ?_
                      refine vc_icmp_ne dX12_goTurn_187 (fun h52 => ?_) (fun h52 => ?_)
                      · refine vc_iconst dX12_goTurn_194 rfl ?_
                        refine vc_istore dX12_goTurn_195 (by decide) rfl (show _ = [some (aR 54), none, some (aI s), some (aI x1), some (aI x2), some (aI 0), none, some (aI x11), some (aI (wI (v8 + 1))), some (aI 0)] from rfl) ?_
                        refine vc_goto dX12_goTurn_197 ?_
                        exact ih120 M29 (wI (v8 + 1)) 0 hB37 kp38 kp39 (by omega) (by omega) (by omega) (by omega) (by omega) (by omega)
                      · refine vc_iconst dX12_goTurn_190 rfl ?_
                        refine vc_goto dX12_goTurn_191 ?_
                        refine vc_istore dX12_goTurn_195 (by decide) rfl (show _ = [some (aR 54), none, some (aI s), some (aI x1), some (aI x2), some (aI 0), none, some (aI x11), some (aI (wI (v8 + 1))), some (aI 1)] from rfl) ?_
                        refine vc_goto dX12_goTurn_197 ?_
                        exact ih120 M29 (wI (v8 + 1)) 1 hB37 kp38 kp39 (by omega) (by omega) (by omega) (by omega) (by omega) (by omega)
                · refine vc_iconst dX12_goTurn_132 rfl ?_
                  refine vc_zret dX12_goTurn_133 rfl (by first | decide | omega) (Nat.le_of_ble_eq_true rfl) (Nat.le_of_ble_eq_true rfl) ?_
                  exact ⟨_, rfl, hB37, kp39, kp38, by omega, by omega, by omega⟩
          refine vc_less [some (aR 54), none, some (aI s), some (aI x1), some (aI x2), some (aI 0), none, some (aI x11), some (aI 0), some (aI 0)] (lessL_keep (lessL_drop (lessL_keep (lessL_keep (lessL_keep (lessL_keep (lessL_drop (lessL_keep (lessL_keep (lessL_keep (lessL_nil))))))))))) ?_
          exact lp120 _ M 0 0 hB0 rfl rfl (by omega) (by omega) (by omega) (by omega) (by omega) (Nat.lt_succ_self _)
        · refine vc_aload_n dX12_goTurn_88 rfl ?_
          refine vc_getI dX12_goTurn_89 flX12_324 (s_54 hB0.1.1) rfl ?_
          have k53 : 0 ≤ mI M 54 25 ∧ mI M 54 25 ≤ 3 := b54_25 (M := M) hB0.1
          refine vc_goto dX12_goTurn_92 ?_
          refine vc_nameI (fun x54 ex54 => ?_)
          refine vc_istore dX12_goTurn_112 (by decide) rfl (show _ = [some (aR 54), some (aI t), some (aI s), some (aI x1), some (aI x2), some (aI 0), some (aI 1), some (aI x54), none, none] from rfl) ?_
          refine vc_iconst dX12_goTurn_114 rfl ?_
          refine vc_istore dX12_goTurn_115 (by decide) rfl (show _ = [some (aR 54), some (aI t), some (aI s), some (aI x1), some (aI x2), some (aI 0), some (aI 1), some (aI x54), some (aI 0), none] from rfl) ?_
          refine vc_iconst dX12_goTurn_117 rfl ?_
          refine vc_istore dX12_goTurn_118 (by decide) rfl (show _ = [some (aR 54), some (aI t), some (aI s), some (aI x1), some (aI x2), some (aI 0), some (aI 1), some (aI x54), some (aI 0), some (aI 0)] from rfl) ?_
          have lp120 : ∀ (n120 : Nat) (Mq120 : Mem) (v8 : Int) (v9 : Int), (BF fS M Mq120) → (mI Mq120 57 = mI M 57) → (mI Mq120 55 = mI M 55) → (0 ≤ v9) → (v9 ≤ 1) → (mI Mq120 54 32 = mI M 54 32) → (0 ≤ mI Mq120 54 27) → (mI Mq120 54 27 ≤ 40) → (40 - mI Mq120 54 27).toNat < n120 → VC l mdX12_goTurn 120 [some (aR 54), none, some (aI s), some (aI x1), some (aI x2), some (aI 0), none, some (aI x54), some (aI v8), some (aI v9)] [] Mq120 0 0 (fun q N => ∃ r : Int, q = some (aI r) ∧ BF fS M N ∧ mI N 55 = mI M 55 ∧ mI N 57 = mI M 57 ∧ 0 ≤ r ∧ r ≤ 1 ∧ mI N 54 32 = mI M 54 32) := by
            intro n120
            induction n120 with
            | zero => intro Mq120 v8 v9 hQ120 kp120_57 kp120_55 g120_9a g120_9b g120i0 g120i1 g120i2 hm120; exact absurd hm120 (Nat.not_lt_zero _)
            | succ n120 ih120 =>
              intro Mq120 v8 v9 hQ120 kp120_57 kp120_55 g120_9a g120_9b g120i0 g120i1 g120i2 hm120
              refine vc_iload dX12_goTurn_120 rfl ?_
              refine vc_if_ne dX12_goTurn_122 (fun h55 => ?_) (fun h55 => ?_)
              · refine vc_iload_n dX12_goTurn_200 rfl ?_
                refine vc_iconst dX12_goTurn_201 rfl ?_
                refine vc_icmp_eq dX12_goTurn_202 (fun h56 => ?_) (fun h56 => by exfalso; omega)
                refine vc_aload_n dX12_goTurn_217 rfl ?_
                refine vc_iload dX12_goTurn_218 rfl ?_
                refine vc_putI dX12_goTurn_220 (plX12_324 _ rfl) (s_54 hQ120.1.1) rfl ?_
                have kp57 : mI (sI Mq120 54 25 x54) 57 = mI M 57 := (kp_sI kp120_57 rfl)
                have kp58 : mI (sI Mq120 54 25 x54) 55 = mI M 55 := (kp_sI kp120_55 rfl)
                have hB59 : BF fS M (sI Mq120 54 25 x54) := BF.w54_25 hQ120 rfl (by omega) (by omega)
                refine vc_iconst dX12_goTurn_223 rfl ?_
                refine vc_zret dX12_goTurn_224 rfl (by first | decide | omega) (Nat.le_of_ble_eq_true rfl) (Nat.le_of_ble_eq_true rfl) ?_
                have k60 : mI (sI Mq120 54 25 x54) 54 27 = mI Mq120 54 27 := rfl
                have k61 : mI (sI Mq120 54 25 x54) 54 32 = mI Mq120 54 32 := rfl
                exact ⟨_, rfl, hB59, kp58, kp57, by omega, by omega, by omega⟩
              · refine vc_aload_n dX12_goTurn_125 rfl ?_
                refine vc_cVI dX12_goTurn_126 (sfX12_goOn (M := Mq120) hQ120.1   ) rfl okX12_goOn viX12_goOn lkX12_348 (s_54 hQ120.1.1) cl_12 rfl (Nat.le_of_ble_eq_true rfl) ⟨rfl, rfl⟩ (Nat.le_of_ble_eq_true rfl) (Nat.le_of_ble_eq_true rfl) (Nat.le_of_ble_eq_true rfl) ?_
                rintro x62 M63 ⟨hB64, kp65, kp66, h67, h68, h69, h70⟩
                have hB71 : BF fS M M63 := BF.go hQ120 hB64
                have kp72 : mI M63 57 = mI M 57 := kp_go kp120_57 kp66
                have kp73 : mI M63 55 = mI M 55 := kp_go kp120_55 kp65
                have kz := b54_27 (M := M63) hB71.1
                refine vc_if_ne dX12_goTurn_129 (fun h74 => ?_) (fun h74 => ?_)
                · refine vc_iload dX12_goTurn_134 rfl ?_
                  refine vc_if_ne dX12_goTurn_136 (fun h75 => by exfalso; omega) (fun h75 => ?_)
                  refine vc_iload_n dX12_goTurn_139 rfl ?_
                  refine vc_iconst dX12_goTurn_140 rfl ?_
                  refine vc_icmp_eq dX12_goTurn_141 (fun h76 => ?_) (fun h76 => by exfalso; omega)
                  refine vc_iinc dX12_goTurn_154 rfl (by decide) rfl (show _ = [some (aR 54), none, some (aI s), some (aI x1), some (aI x2), some (aI 0), none, some (aI x54), some (aI (wI (v8 + 1))), some (aI v9)] from rfl) ?_
                  refine vc_iload dX12_goTurn_157 rfl ?_
                  refine vc_if_eq dX12_goTurn_159 (fun h77 => ?_) (fun h77 => by exfalso; omega)
                  refine vc_iload dX12_goTurn_183 rfl ?_
                  refine vc_iload dX12_goTurn_185 rfl ?_
                  refine vc_icmp_ne dX12_goTurn_187 (fun h78 => ?_) (fun h78 => ?_)
                  · refine vc_iconst dX12_goTurn_194 rfl ?_
                    refine vc_istore dX12_goTurn_195 (by decide) rfl (show _ = [some (aR 54), none, some (aI s), some (aI x1), some (aI x2), some (aI 0), none, some (aI x54), some (aI (wI (v8 + 1))), some (aI 0)] from rfl) ?_
                    refine vc_goto dX12_goTurn_197 ?_
                    exact ih120 M63 (wI (v8 + 1)) 0 hB71 kp72 kp73 (by omega) (by omega) (by omega) (by omega) (by omega) (by omega)
                  · refine vc_iconst dX12_goTurn_190 rfl ?_
                    refine vc_goto dX12_goTurn_191 ?_
                    refine vc_istore dX12_goTurn_195 (by decide) rfl (show _ = [some (aR 54), none, some (aI s), some (aI x1), some (aI x2), some (aI 0), none, some (aI x54), some (aI (wI (v8 + 1))), some (aI 1)] from rfl) ?_
                    refine vc_goto dX12_goTurn_197 ?_
                    exact ih120 M63 (wI (v8 + 1)) 1 hB71 kp72 kp73 (by omega) (by omega) (by omega) (by omega) (by omega) (by omega)
                · refine vc_iconst dX12_goTurn_132 rfl ?_
                  refine vc_zret dX12_goTurn_133 rfl (by first | decide | omega) (Nat.le_of_ble_eq_true rfl) (Nat.le_of_ble_eq_true rfl) ?_
                  exact ⟨_, rfl, hB71, kp73, kp72, by omega, by omega, by omega⟩
          refine vc_less [some (aR 54), none, some (aI s), some (aI x1), some (aI x2), some (aI 0), none, some (aI x54), some (aI 0), some (aI 0)] (lessL_keep (lessL_drop (lessL_keep (lessL_keep (lessL_keep (lessL_keep (lessL_drop (lessL_keep (lessL_keep (lessL_keep (lessL_nil))))))))))) ?_
          exact lp120 _ M 0 0 hB0 rfl rfl (by omega) (by omega) (by omega) (by omega) (by omega) (Nat.lt_succ_self _)
      · refine vc_iconst dX12_goTurn_68 rfl ?_
        refine vc_goto dX12_goTurn_69 ?_
        refine vc_icmp_ne dX12_goTurn_73 (fun h79 => ?_) (fun h79 => by exfalso; omega)
        refine vc_iconst dX12_goTurn_80 rfl ?_
        refine vc_istore dX12_goTurn_81 (by decide) rfl (show _ = [some (aR 54), some (aI t), some (aI s), some (aI x1), some (aI x2), some (aI 0), some (aI 0), none, none, none] from rfl) ?_
        refine vc_iload_n dX12_goTurn_83 rfl ?_
        refine vc_iconst dX12_goTurn_84 rfl ?_
        refine vc_icmp_ne dX12_goTurn_85 (fun h80 => ?_) (fun h80 => ?_)
        · refine vc_aload_n dX12_goTurn_95 rfl ?_
          refine vc_getI dX12_goTurn_96 flX12_324 (s_54 hB0.1.1) rfl ?_
          have k81 : 0 ≤ mI M 54 25 ∧ mI M 54 25 ≤ 3 := b54_25 (M := M) hB0.1
          refine vc_iload dX12_goTurn_99 rfl ?_
          refine vc_if_eq dX12_goTurn_101 (fun h82 => ?_) (fun h82 => by exfalso; omega)
          refine vc_iconst dX12_goTurn_108 rfl ?_
          refine vc_iaddE dX12_goTurn_109 (by omega) (by omega) ?_
          refine vc_iconst dX12_goTurn_110 rfl ?_
          refine vc_iremE dX12_goTurn_111 (by omega) (by omega) ?_
          refine vc_nameI (fun x83 ex83 => ?_)
          refine vc_istore dX12_goTurn_112 (by decide) rfl (show _ = [some (aR 54), some (aI t), some (aI s), some (aI x1), some (aI x2), some (aI 0), some (aI 0), some (aI x83), none, none] from rfl) ?_
          refine vc_iconst dX12_goTurn_114 rfl ?_
          refine vc_istore dX12_goTurn_115 (by decide) rfl (show _ = [some (aR 54), some (aI t), some (aI s), some (aI x1), some (aI x2), some (aI 0), some (aI 0), some (aI x83), some (aI 0), none] from rfl) ?_
          refine vc_iconst dX12_goTurn_117 rfl ?_
          refine vc_istore dX12_goTurn_118 (by decide) rfl (show _ = [some (aR 54), some (aI t), some (aI s), some (aI x1), some (aI x2), some (aI 0), some (aI 0), some (aI x83), some (aI 0), some (aI 0)] from rfl) ?_
          have lp120 : ∀ (n120 : Nat) (Mq120 : Mem) (v8 : Int) (v9 : Int), (BF fS M Mq120) → (mI Mq120 57 = mI M 57) → (mI Mq120 55 = mI M 55) → (0 ≤ v9) → (v9 ≤ 1) → (mI Mq120 54 32 = mI M 54 32) → (0 ≤ mI Mq120 54 27) → (mI Mq120 54 27 ≤ 40) → (40 - mI Mq120 54 27).toNat < n120 → VC l mdX12_goTurn 120 [some (aR 54), none, some (aI s), some (aI x1), some (aI x2), some (aI 0), none, some (aI x83), some (aI v8), some (aI v9)] [] Mq120 0 0 (fun q N => ∃ r : Int, q = some (aI r) ∧ BF fS M N ∧ mI N 55 = mI M 55 ∧ mI N 57 = mI M 57 ∧ 0 ≤ r ∧ r ≤ 1 ∧ mI N 54 32 = mI M 54 32) := by
            intro n120
            induction n120 with
            | zero => intro Mq120 v8 v9 hQ120 kp120_57 kp120_55 g120_9a g120_9b g120i0 g120i1 g120i2 hm120; exact absurd hm120 (Nat.not_lt_zero _)
            | succ n120 ih120 =>
              intro Mq120 v8 v9 hQ120 kp120_57 kp120_55 g120_9a g120_9b g120i0 g120i1 g120i2 hm120
              refine vc_iload dX12_goTurn_120 rfl ?_
              refine vc_if_ne dX12_goTurn_122 (fun h84 => ?_) (fun h84 => ?_)
              · refine vc_iload_n dX12_goTurn_200 rfl ?_
                refine vc_iconst dX12_goTurn_201 rfl ?_
                refine vc_icmp_eq dX12_goTurn_202 (fun h85 => ?_) (fun h85 => ?_)
                · refine vc_aload_n dX12_goTurn_217 rfl ?_
                  refine vc_iload dX12_goTurn_218 rfl ?_
                  refine vc_putI dX12_goTurn_220 (plX12_324 _ rfl) (s_54 hQ120.1.1) rfl ?_
                  have kp86 : mI (sI Mq120 54 25 x83) 57 = mI M 57 := (kp_sI kp120_57 rfl)
                  have kp87 : mI (sI Mq120 54 25 x83) 55 = mI M 55 := (kp_sI kp120_55 rfl)
                  have hB88 : BF fS M (sI Mq120 54 25 x83) := BF.w54_25 hQ120 rfl (by omega) (by omega)
                  refine vc_iconst dX12_goTurn_223 rfl ?_
                  refine vc_zret dX12_goTurn_224 rfl (by first | decide | omega) (Nat.le_of_ble_eq_true rfl) (Nat.le_of_ble_eq_true rfl) ?_
                  have k89 : mI (sI Mq120 54 25 x83) 54 27 = mI Mq120 54 27 := rfl
                  have k90 : mI (sI Mq120 54 25 x83) 54 32 = mI Mq120 54 32 := rfl
                  exact ⟨_, rfl, hB88, kp87, kp86, by omega, by omega, by omega⟩
                · refine vc_aload_n dX12_goTurn_205 rfl ?_
                  refine vc_iload dX12_goTurn_206 rfl ?_
                  refine vc_iload_n dX12_goTurn_208 rfl ?_
                  refine vc_cVI dX12_goTurn_209 (sfX12_isCounted (M := Mq120) hQ120.1  x83 s (by omega) (by omega)) rfl okX12_isCounted viX12_isCounted lkX12_352 (s_54 hQ120.1.1) cl_12 rfl (Nat.le_of_ble_eq_true rfl) ⟨rfl, rfl⟩ (Nat.le_of_ble_eq_true rfl) (Nat.le_of_ble_eq_true rfl) (Nat.le_of_ble_eq_true rfl) ?_
                  rintro x91 _ ⟨rfl, h92, h93⟩
                  refine vc_if_ne dX12_goTurn_212 (fun h94 => ?_) (fun h94 => ?_)
                  · refine vc_aload_n dX12_goTurn_217 rfl ?_
                    refine vc_iload dX12_goTurn_218 rfl ?_
                    refine vc_putI dX12_goTurn_220 (plX12_324 _ rfl) (s_54 hQ120.1.1) rfl ?_
                    have kp95 : mI (sI Mq120 54 25 x83) 57 = mI M 57 := (kp_sI kp120_57 rfl)
                    have kp96 : mI (sI Mq120 54 25 x83) 55 = mI M 55 := (kp_sI kp120_55 rfl)
                    have hB97 : BF fS M (sI Mq120 54 25 x83) := BF.w54_25 hQ120 rfl (by omega) (by omega)
                    refine vc_iconst dX12_goTurn_223 rfl ?_
                    refine vc_zret dX12_goTurn_224 rfl (by first | decide | omega) (Nat.le_of_ble_eq_true rfl) (Nat.le_of_ble_eq_true rfl) ?_
                    have k98 : mI (sI Mq120 54 25 x83) 54 27 = mI Mq120 54 27 := rfl
                    have k99 : mI (sI Mq120 54 25 x83) 54 32 = mI Mq120 54 32 := rfl
                    exact ⟨_, rfl, hB97, kp96, kp95, by omega, by omega, by omega⟩
                  · refine vc_iconst dX12_goTurn_215 rfl ?_
                    refine vc_zret dX12_goTurn_216 rfl (by first | decide | omega) (Nat.le_of_ble_eq_true rfl) (Nat.le_of_ble_eq_true rfl) ?_
                    exact ⟨_, rfl, hQ120, kp120_55, kp120_57, by omega, by omega, by omega⟩
              · refine vc_aload_n dX12_goTurn_125 rfl ?_
                refine vc_cVI dX12_goTurn_126 (sfX12_goOn (M := Mq120) hQ120.1   ) rfl okX12_goOn viX12_goOn lkX12_348 (s_54 hQ120.1.1) cl_12 rfl (Nat.le_of_ble_eq_true rfl) ⟨rfl, rfl⟩ (Nat.le_of_ble_eq_true rfl) (Nat.le_of_ble_eq_true rfl) (Nat.le_of_ble_eq_true rfl) ?_
                rintro x100 M101 ⟨hB102, kp103, kp104, h105, h106, h107, h108⟩
                have hB109 : BF fS M M101 := BF.go hQ120 hB102
                have kp110 : mI M101 57 = mI M 57 := kp_go kp120_57 kp104
                have kp111 : mI M101 55 = mI M 55 := kp_go kp120_55 kp103
                have kz := b54_27 (M := M101) hB109.1
                refine vc_if_ne dX12_goTurn_129 (fun h112 => ?_) (fun h112 => ?_)
                · refine vc_iload dX12_goTurn_134 rfl ?_
                  refine vc_if_ne dX12_goTurn_136 (fun h113 => by exfalso; omega) (fun h113 => ?_)
                  refine vc_iload_n dX12_goTurn_139 rfl ?_
                  refine vc_iconst dX12_goTurn_140 rfl ?_
                  refine vc_icmp_eq dX12_goTurn_141 (fun h114 => ?_) (fun h114 => ?_)
                  · refine vc_iinc dX12_goTurn_154 rfl (by decide) rfl (show _ = [some (aR 54), none, some (aI s), some (aI x1), some (aI x2), some (aI 0), none, some (aI x83), some (aI (wI (v8 + 1))), some (aI v9)] from rfl) ?_
                    refine vc_iload dX12_goTurn_157 rfl ?_
                    refine vc_if_eq dX12_goTurn_159 (fun h115 => ?_) (fun h115 => by exfalso; omega)
                    refine vc_iload dX12_goTurn_183 rfl ?_
                    refine vc_iload dX12_goTurn_185 rfl ?_
                    refine vc_icmp_ne dX12_goTurn_187 (fun h116 => ?_) (fun h116 => ?_)
                    · refine vc_iconst dX12_goTurn_194 rfl ?_
                      refine vc_istore dX12_goTurn_195 (by decide) rfl (show _ = [some (aR 54), none, some (aI s), some (aI x1), some (aI x2), some (aI 0), none, some (aI x83), some (aI (wI (v8 + 1))), some (aI 0)] from rfl) ?_
                      refine vc_goto dX12_goTurn_197 ?_
                      exact ih120 M101 (wI (v8 + 1)) 0 hB109 kp110 kp111 (by omega) (by omega) (by omega) (by omega) (by omega) (by omega)
                    · refine vc_iconst dX12_goTurn_190 rfl ?_
                      refine vc_goto dX12_goTurn_191 ?_
                      refine vc_istore dX12_goTurn_195 (by decide) rfl (show _ = [some (aR 54), none, some (aI s), some (aI x1), some (aI x2), some (aI 0), none, some (aI x83), some (aI (wI (v8 + 1))), some (aI 1)] from rfl) ?_
                      refine vc_goto dX12_goTurn_197 ?_
                      exact ih120 M101 (wI (v8 + 1)) 1 hB109 kp110 kp111 (by omega) (by omega) (by omega) (by omega) (by omega) (by omega)
                  · refine vc_aload_n dX12_goTurn_144 rfl ?_
                    refine vc_iload dX12_goTurn_145 rfl ?_
                    refine vc_iload_n dX12_goTurn_147 rfl ?_
                    refine vc_cVI dX12_goTurn_148 (sfX12_isCounted (M := M101) hB109.1  x83 s (by omega) (by omega)) rfl okX12_isCounted viX12_isCounted lkX12_352 (s_54 hB109.1.1) cl_12 rfl (Nat.le_of_ble_eq_true rfl) ⟨rfl, rfl⟩ (Nat.le_of_ble_eq_true rfl) (Nat.le_of_ble_eq_true rfl) (Nat.le_of_ble_eq_true rfl) ?_
                    rintro x117 _ ⟨rfl, h118, h119⟩
                    refine vc_if_eq dX12_goTurn_151 (fun h120 => ?_) (fun h120 => ?_)
                    · refine vc_iload dX12_goTurn_157 rfl ?_
                      refine vc_if_eq dX12_goTurn_159 (fun h121 => ?_) (fun h121 => by exfalso; omega)
                      refine vc_iload dX12_goTurn_183 rfl ?_
                      refine vc_iload dX12_goTurn_185 rfl ?_
                      refine vc_icmp_ne dX12_goTurn_187 (fun h122 => ?_) (fun h122 => ?_)
                      · refine vc_iconst dX12_goTurn_194 rfl ?_
                        refine vc_istore dX12_goTurn_195 (by decide) rfl (show _ = [some (aR 54), none, some (aI s), some (aI x1), some (aI x2), some (aI 0), none, some (aI x83), some (aI v8), some (aI 0)] from rfl) ?_
                        refine vc_goto dX12_goTurn_197 ?_
                        exact ih120 M101 v8 0 hB109 kp110 kp111 (by omega) (by omega) (by omega) (by omega) (by omega) (by omega)
                      · refine vc_iconst dX12_goTurn_190 rfl ?_
                        refine vc_goto dX12_goTurn_191 ?_
                        refine vc_istore dX12_goTurn_195 (by decide) rfl (show _ = [some (aR 54), none, some (aI s), some (aI x1), some (aI x2), some (aI 0), none, some (aI x83), some (aI v8), some (aI 1)] from rfl) ?_
                        refine vc_goto dX12_goTurn_197 ?_
                        exact ih120 M101 v8 1 hB109 kp110 kp111 (by omega) (by omega) (by omega) (by omega) (by omega) (by omega)
                    · refine vc_iinc dX12_goTurn_154 rfl (by decide) rfl (show _ = [some (aR 54), none, some (aI s), some (aI x1), some (aI x2), some (aI 0), none, some (aI x83), some (aI (wI (v8 + 1))), some (aI v9)] from rfl) ?_
                      refine vc_iload dX12_goTurn_157 rfl ?_
                      refine vc_if_eq dX12_goTurn_159 (fun h123 => ?_) (fun h123 => by exfalso; omega)
                      refine vc_iload dX12_goTurn_183 rfl ?_
                      refine vc_iload dX12_goTurn_185 rfl ?_
                      refine vc_icmp_ne dX12_goTurn_187 (fun h124 => ?_) (fun h124 => ?_)
                      · refine vc_iconst dX12_goTurn_194 rfl ?_
                        refine vc_istore dX12_goTurn_195 (by decide) rfl (show _ = [some (aR 54), none, some (aI s), some (aI x1), some (aI x2), some (aI 0), none, some (aI x83), some (aI (wI (v8 + 1))), some (aI 0)] from rfl) ?_
                        refine vc_goto dX12_goTurn_197 ?_
                        exact ih120 M101 (wI (v8 + 1)) 0 hB109 kp110 kp111 (by omega) (by omega) (by omega) (by omega) (by omega) (by omega)
                      · refine vc_iconst dX12_goTurn_190 rfl ?_
                        refine vc_goto dX12_goTurn_191 ?_
                        refine vc_istore dX12_goTurn_195 (by decide) rfl (show _ = [some (aR 54), none, some (aI s), some (aI x1), some (aI x2), some (aI 0), none, some (aI x83), some (aI (wI (v8 + 1))), some (aI 1)] from rfl) ?_
                        refine vc_goto dX12_goTurn_197 ?_
                        exact ih120 M101 (wI (v8 + 1)) 1 hB109 kp110 kp111 (by omega) (by omega) (by omega) (by omega) (by omega) (by omega)
                · refine vc_iconst dX12_goTurn_132 rfl ?_
                  refine vc_zret dX12_goTurn_133 rfl (by first | decide | omega) (Nat.le_of_ble_eq_true rfl) (Nat.le_of_ble_eq_true rfl) ?_
                  exact ⟨_, rfl, hB109, kp111, kp110, by omega, by omega, by omega⟩
          refine vc_less [some (aR 54), none, some (aI s), some (aI x1), some (aI x2), some (aI 0), none, some (aI x83), some (aI 0), some (aI 0)] (lessL_keep (lessL_drop (lessL_keep (lessL_keep (lessL_keep (lessL_keep (lessL_drop (lessL_keep (lessL_keep (lessL_keep (lessL_nil))))))))))) ?_
          exact lp120 _ M 0 0 hB0 rfl rfl (by omega) (by omega) (by omega) (by omega) (by omega) (Nat.lt_succ_self _)
        · refine vc_aload_n dX12_goTurn_88 rfl ?_
          refine vc_getI dX12_goTurn_89 flX12_324 (s_54 hB0.1.1) rfl ?_
          have k125 : 0 ≤ mI M 54 25 ∧ mI M 54 25 ≤ 3 := b54_25 (M := M) hB0.1
          refine vc_goto dX12_goTurn_92 ?_
          refine vc_nameI (fun x126 ex126 => ?_)
          refine vc_istore dX12_goTurn_112 (by decide) rfl (show _ = [some (aR 54), some (aI t), some (aI s), some (aI x1), some (aI x2), some (aI 0), some (aI 0), some (aI x126), none, none] from rfl) ?_
          refine vc_iconst dX12_goTurn_114 rfl ?_
          refine vc_istore dX12_goTurn_115 (by decide) rfl (show _ = [some (aR 54), some (aI t), some (aI s), some (aI x1), some (aI x2), some (aI 0), some (aI 0), some (aI x126), some (aI 0), none] from rfl) ?_
          refine vc_iconst dX12_goTurn_117 rfl ?_
          refine vc_istore dX12_goTurn_118 (by decide) rfl (show _ = [some (aR 54), some (aI t), some (aI s), some (aI x1), some (aI x2), some (aI 0), some (aI 0), some (aI x126), some (aI 0), some (aI 0)] from rfl) ?_
          have lp120 : ∀ (n120 : Nat) (Mq120 : Mem) (v8 : Int) (v9 : Int), (BF fS M Mq120) → (mI Mq120 57 = mI M 57) → (mI Mq120 55 = mI M 55) → (0 ≤ v9) → (v9 ≤ 1) → (mI Mq120 54 32 = mI M 54 32) → (0 ≤ mI Mq120 54 27) → (mI Mq120 54 27 ≤ 40) → (40 - mI Mq120 54 27).toNat < n120 → VC l mdX12_goTurn 120 [some (aR 54), none, some (aI s), some (aI x1), some (aI x2), some (aI 0), none, some (aI x126), some (aI v8), some (aI v9)] [] Mq120 0 0 (fun q N => ∃ r : Int, q = some (aI r) ∧ BF fS M N ∧ mI N 55 = mI M 55 ∧ mI N 57 = mI M 57 ∧ 0 ≤ r ∧ r ≤ 1 ∧ mI N 54 32 = mI M 54 32) := by
            intro n120
            induction n120 with
            | zero => intro Mq120 v8 v9 hQ120 kp120_57 kp120_55 g120_9a g120_9b g120i0 g120i1 g120i2 hm120; exact absurd hm120 (Nat.not_lt_zero _)
            | succ n120 ih120 =>
              intro Mq120 v8 v9 hQ120 kp120_57 kp120_55 g120_9a g120_9b g120i0 g120i1 g120i2 hm120
              refine vc_iload dX12_goTurn_120 rfl ?_
              refine vc_if_ne dX12_goTurn_122 (fun h127 => ?_) (fun h127 => ?_)
              · refine vc_iload_n dX12_goTurn_200 rfl ?_
                refine vc_iconst dX12_goTurn_201 rfl ?_
                refine vc_icmp_eq dX12_goTurn_202 (fun h128 => ?_) (fun h128 => by exfalso; omega)
                refine vc_aload_n dX12_goTurn_217 rfl ?_
                refine vc_iload dX12_goTurn_218 rfl ?_
                refine vc_putI dX12_goTurn_220 (plX12_324 _ rfl) (s_54 hQ120.1.1) rfl ?_
                have kp129 : mI (sI Mq120 54 25 x126) 57 = mI M 57 := (kp_sI kp120_57 rfl)
                have kp130 : mI (sI Mq120 54 25 x126) 55 = mI M 55 := (kp_sI kp120_55 rfl)
                have hB131 : BF fS M (sI Mq120 54 25 x126) := BF.w54_25 hQ120 rfl (by omega) (by omega)
                refine vc_iconst dX12_goTurn_223 rfl ?_
                refine vc_zret dX12_goTurn_224 rfl (by first | decide | omega) (Nat.le_of_ble_eq_true rfl) (Nat.le_of_ble_eq_true rfl) ?_
                have k132 : mI (sI Mq120 54 25 x126) 54 27 = mI Mq120 54 27 := rfl
                have k133 : mI (sI Mq120 54 25 x126) 54 32 = mI Mq120 54 32 := rfl
                exact ⟨_, rfl, hB131, kp130, kp129, by omega, by omega, by omega⟩
              · refine vc_aload_n dX12_goTurn_125 rfl ?_
                refine vc_cVI dX12_goTurn_126 (sfX12_goOn (M := Mq120) hQ120.1   ) rfl okX12_goOn viX12_goOn lkX12_348 (s_54 hQ120.1.1) cl_12 rfl (Nat.le_of_ble_eq_true rfl) ⟨rfl, rfl⟩ (Nat.le_of_ble_eq_true rfl) (Nat.le_of_ble_eq_true rfl) (Nat.le_of_ble_eq_true rfl) ?_
                rintro x134 M135 ⟨hB136, kp137, kp138, h139, h140, h141, h142⟩
                have hB143 : BF fS M M135 := BF.go hQ120 hB136
                have kp144 : mI M135 57 = mI M 57 := kp_go kp120_57 kp138
                have kp145 : mI M135 55 = mI M 55 := kp_go kp120_55 kp137
                have kz := b54_27 (M := M135) hB143.1
                refine vc_if_ne dX12_goTurn_129 (fun h146 => ?_) (fun h146 => ?_)
                · refine vc_iload dX12_goTurn_134 rfl ?_
                  refine vc_if_ne dX12_goTurn_136 (fun h147 => by exfalso; omega) (fun h147 => ?_)
                  refine vc_iload_n dX12_goTurn_139 rfl ?_
                  refine vc_iconst dX12_goTurn_140 rfl ?_
                  refine vc_icmp_eq dX12_goTurn_141 (fun h148 => ?_) (fun h148 => by exfalso; omega)
                  refine vc_iinc dX12_goTurn_154 rfl (by decide) rfl (show _ = [some (aR 54), none, some (aI s), some (aI x1), some (aI x2), some (aI 0), none, some (aI x126), some (aI (wI (v8 + 1))), some (aI v9)] from rfl) ?_
                  refine vc_iload dX12_goTurn_157 rfl ?_
                  refine vc_if_eq dX12_goTurn_159 (fun h149 => ?_) (fun h149 => by exfalso; omega)
                  refine vc_iload dX12_goTurn_183 rfl ?_
                  refine vc_iload dX12_goTurn_185 rfl ?_
                  refine vc_icmp_ne dX12_goTurn_187 (fun h150 => ?_) (fun h150 => ?_)
                  · refine vc_iconst dX12_goTurn_194 rfl ?_
                    refine vc_istore dX12_goTurn_195 (by decide) rfl (show _ = [some (aR 54), none, some (aI s), some (aI x1), some (aI x2), some (aI 0), none, some (aI x126), some (aI (wI (v8 + 1))), some (aI 0)] from rfl) ?_
                    refine vc_goto dX12_goTurn_197 ?_
                    exact ih120 M135 (wI (v8 + 1)) 0 hB143 kp144 kp145 (by omega) (by omega) (by omega) (by omega) (by omega) (by omega)
                  · refine vc_iconst dX12_goTurn_190 rfl ?_
                    refine vc_goto dX12_goTurn_191 ?_
                    refine vc_istore dX12_goTurn_195 (by decide) rfl (show _ = [some (aR 54), none, some (aI s), some (aI x1), some (aI x2), some (aI 0), none, some (aI x126), some (aI (wI (v8 + 1))), some (aI 1)] from rfl) ?_
                    refine vc_goto dX12_goTurn_197 ?_
                    exact ih120 M135 (wI (v8 + 1)) 1 hB143 kp144 kp145 (by omega) (by omega) (by omega) (by omega) (by omega) (by omega)
                · refine vc_iconst dX12_goTurn_132 rfl ?_
                  refine vc_zret dX12_goTurn_133 rfl (by first | decide | omega) (Nat.le_of_ble_eq_true rfl) (Nat.le_of_ble_eq_true rfl) ?_
                  exact ⟨_, rfl, hB143, kp145, kp144, by omega, by omega, by omega⟩
          refine vc_less [some (aR 54), none, some (aI s), some (aI x1), some (aI x2), some (aI 0), none, some (aI x126), some (aI 0), some (aI 0)] (lessL_keep (lessL_drop (lessL_keep (lessL_keep (lessL_keep (lessL_keep (lessL_drop (lessL_keep (lessL_keep (lessL_keep (lessL_nil))))))))))) ?_
          exact lp120 _ M 0 0 hB0 rfl rfl (by omega) (by omega) (by omega) (by omega) (by omega) (Nat.lt_succ_self _)
    · refine vc_iconst dX12_goTurn_57 rfl ?_
      refine vc_goto dX12_goTurn_58 ?_
      refine vc_iload_n dX12_goTurn_62 rfl ?_
      refine vc_iconst dX12_goTurn_63 rfl ?_
      refine vc_iandM dX12_goTurn_64 2 1 rfl (by decide) rfl ?_
      refine vc_if_ne dX12_goTurn_65 (fun h151 => ?_) (fun h151 => ?_)
      · refine vc_iconst dX12_goTurn_72 rfl ?_
        refine vc_icmp_ne dX12_goTurn_73 (fun h152 => ?_) (fun h152 => by exfalso; omega)
        refine vc_iconst dX12_goTurn_80 rfl ?_
        refine vc_istore dX12_goTurn_81 (by decide) rfl (show _ = [some (aR 54), some (aI t), some (aI s), some (aI x1), some (aI x2), some (aI 0), some (aI 0), none, none, none] from rfl) ?_
        refine vc_iload_n dX12_goTurn_83 rfl ?_
        refine vc_iconst dX12_goTurn_84 rfl ?_
        refine vc_icmp_ne dX12_goTurn_85 (fun h153 => ?_) (fun h153 => by exfalso; omega)
        refine vc_aload_n dX12_goTurn_95 rfl ?_
        refine vc_getI dX12_goTurn_96 flX12_324 (s_54 hB0.1.1) rfl ?_
        have k154 : 0 ≤ mI M 54 25 ∧ mI M 54 25 ≤ 3 := b54_25 (M := M) hB0.1
        refine vc_iload dX12_goTurn_99 rfl ?_
        refine vc_if_eq dX12_goTurn_101 (fun h155 => ?_) (fun h155 => by exfalso; omega)
        refine vc_iconst dX12_goTurn_108 rfl ?_
        refine vc_iaddE dX12_goTurn_109 (by omega) (by omega) ?_
        refine vc_iconst dX12_goTurn_110 rfl ?_
        refine vc_iremE dX12_goTurn_111 (by omega) (by omega) ?_
        refine vc_nameI (fun x156 ex156 => ?_)
        refine vc_istore dX12_goTurn_112 (by decide) rfl (show _ = [some (aR 54), some (aI t), some (aI s), some (aI x1), some (aI x2), some (aI 0), some (aI 0), some (aI x156), none, none] from rfl) ?_
        refine vc_iconst dX12_goTurn_114 rfl ?_
        refine vc_istore dX12_goTurn_115 (by decide) rfl (show _ = [some (aR 54), some (aI t), some (aI s), some (aI x1), some (aI x2), some (aI 0), some (aI 0), some (aI x156), some (aI 0), none] from rfl) ?_
        refine vc_iconst dX12_goTurn_117 rfl ?_
        refine vc_istore dX12_goTurn_118 (by decide) rfl (show _ = [some (aR 54), some (aI t), some (aI s), some (aI x1), some (aI x2), some (aI 0), some (aI 0), some (aI x156), some (aI 0), some (aI 0)] from rfl) ?_
        have lp120 : ∀ (n120 : Nat) (Mq120 : Mem) (v8 : Int) (v9 : Int), (BF fS M Mq120) → (mI Mq120 57 = mI M 57) → (mI Mq120 55 = mI M 55) → (0 ≤ v9) → (v9 ≤ 1) → (mI Mq120 54 32 = mI M 54 32) → (0 ≤ mI Mq120 54 27) → (mI Mq120 54 27 ≤ 40) → (40 - mI Mq120 54 27).toNat < n120 → VC l mdX12_goTurn 120 [some (aR 54), none, some (aI s), some (aI x1), some (aI x2), some (aI 0), none, some (aI x156), some (aI v8), some (aI v9)] [] Mq120 0 0 (fun q N => ∃ r : Int, q = some (aI r) ∧ BF fS M N ∧ mI N 55 = mI M 55 ∧ mI N 57 = mI M 57 ∧ 0 ≤ r ∧ r ≤ 1 ∧ mI N 54 32 = mI M 54 32) := by
          intro n120
          induction n120 with
          | zero => intro Mq120 v8 v9 hQ120 kp120_57 kp120_55 g120_9a g120_9b g120i0 g120i1 g120i2 hm120; exact absurd hm120 (Nat.not_lt_zero _)
          | succ n120 ih120 =>
            intro Mq120 v8 v9 hQ120 kp120_57 kp120_55 g120_9a g120_9b g120i0 g120i1 g120i2 hm120
            refine vc_iload dX12_goTurn_120 rfl ?_
            refine vc_if_ne dX12_goTurn_122 (fun h157 => ?_) (fun h157 => ?_)
            · refine vc_iload_n dX12_goTurn_200 rfl ?_
              refine vc_iconst dX12_goTurn_201 rfl ?_
              refine vc_icmp_eq dX12_goTurn_202 (fun h158 => by exfalso; omega) (fun h158 => ?_)
              refine vc_aload_n dX12_goTurn_205 rfl ?_
              refine vc_iload dX12_goTurn_206 rfl ?_
              refine vc_iload_n dX12_goTurn_208 rfl ?_
              refine vc_cVI dX12_goTurn_209 (sfX12_isCounted (M := Mq120) hQ120.1  x156 s (by omega) (by omega)) rfl okX12_isCounted viX12_isCounted lkX12_352 (s_54 hQ120.1.1) cl_12 rfl (Nat.le_of_ble_eq_true rfl) ⟨rfl, rfl⟩ (Nat.le_of_ble_eq_true rfl) (Nat.le_of_ble_eq_true rfl) (Nat.le_of_ble_eq_true rfl) ?_
              rintro x159 _ ⟨rfl, h160, h161⟩
              refine vc_if_ne dX12_goTurn_212 (fun h162 => ?_) (fun h162 => ?_)
              · refine vc_aload_n dX12_goTurn_217 rfl ?_
                refine vc_iload dX12_goTurn_218 rfl ?_
                refine vc_putI dX12_goTurn_220 (plX12_324 _ rfl) (s_54 hQ120.1.1) rfl ?_
                have kp163 : mI (sI Mq120 54 25 x156) 57 = mI M 57 := (kp_sI kp120_57 rfl)
                have kp164 : mI (sI Mq120 54 25 x156) 55 = mI M 55 := (kp_sI kp120_55 rfl)
                have hB165 : BF fS M (sI Mq120 54 25 x156) := BF.w54_25 hQ120 rfl (by omega) (by omega)
                refine vc_iconst dX12_goTurn_223 rfl ?_
                refine vc_zret dX12_goTurn_224 rfl (by first | decide | omega) (Nat.le_of_ble_eq_true rfl) (Nat.le_of_ble_eq_true rfl) ?_
                have k166 : mI (sI Mq120 54 25 x156) 54 27 = mI Mq120 54 27 := rfl
                have k167 : mI (sI Mq120 54 25 x156) 54 32 = mI Mq120 54 32 := rfl
                exact ⟨_, rfl, hB165, kp164, kp163, by omega, by omega, by omega⟩
              · refine vc_iconst dX12_goTurn_215 rfl ?_
                refine vc_zret dX12_goTurn_216 rfl (by first | decide | omega) (Nat.le_of_ble_eq_true rfl) (Nat.le_of_ble_eq_true rfl) ?_
                exact ⟨_, rfl, hQ120, kp120_55, kp120_57, by omega, by omega, by omega⟩
            · refine vc_aload_n dX12_goTurn_125 rfl ?_
              refine vc_cVI dX12_goTurn_126 (sfX12_goOn (M := Mq120) hQ120.1   ) rfl okX12_goOn viX12_goOn lkX12_348 (s_54 hQ120.1.1) cl_12 rfl (Nat.le_of_ble_eq_true rfl) ⟨rfl, rfl⟩ (Nat.le_of_ble_eq_true rfl) (Nat.le_of_ble_eq_true rfl) (Nat.le_of_ble_eq_true rfl) ?_
              rintro x168 M169 ⟨hB170, kp171, kp172, h173, h174, h175, h176⟩
              have hB177 : BF fS M M169 := BF.go hQ120 hB170
              have kp178 : mI M169 57 = mI M 57 := kp_go kp120_57 kp172
              have kp179 : mI M169 55 = mI M 55 := kp_go kp120_55 kp171
              have kz := b54_27 (M := M169) hB177.1
              refine vc_if_ne dX12_goTurn_129 (fun h180 => ?_) (fun h180 => ?_)
              · refine vc_iload dX12_goTurn_134 rfl ?_
                refine vc_if_ne dX12_goTurn_136 (fun h181 => by exfalso; omega) (fun h181 => ?_)
                refine vc_iload_n dX12_goTurn_139 rfl ?_
                refine vc_iconst dX12_goTurn_140 rfl ?_
                refine vc_icmp_eq dX12_goTurn_141 (fun h182 => by exfalso; omega) (fun h182 => ?_)
                refine vc_aload_n dX12_goTurn_144 rfl ?_
                refine vc_iload dX12_goTurn_145 rfl ?_
                refine vc_iload_n dX12_goTurn_147 rfl ?_
                refine vc_cVI dX12_goTurn_148 (sfX12_isCounted (M := M169) hB177.1  x156 s (by omega) (by omega)) rfl okX12_isCounted viX12_isCounted lkX12_352 (s_54 hB177.1.1) cl_12 rfl (Nat.le_of_ble_eq_true rfl) ⟨rfl, rfl⟩ (Nat.le_of_ble_eq_true rfl) (Nat.le_of_ble_eq_true rfl) (Nat.le_of_ble_eq_true rfl) ?_
                rintro x183 _ ⟨rfl, h184, h185⟩
                refine vc_if_eq dX12_goTurn_151 (fun h186 => ?_) (fun h186 => ?_)
                · refine vc_iload dX12_goTurn_157 rfl ?_
                  refine vc_if_eq dX12_goTurn_159 (fun h187 => ?_) (fun h187 => by exfalso; omega)
                  refine vc_iload dX12_goTurn_183 rfl ?_
                  refine vc_iload dX12_goTurn_185 rfl ?_
                  refine vc_icmp_ne dX12_goTurn_187 (fun h188 => ?_) (fun h188 => ?_)
                  · refine vc_iconst dX12_goTurn_194 rfl ?_
                    refine vc_istore dX12_goTurn_195 (by decide) rfl (show _ = [some (aR 54), none, some (aI s), some (aI x1), some (aI x2), some (aI 0), none, some (aI x156), some (aI v8), some (aI 0)] from rfl) ?_
                    refine vc_goto dX12_goTurn_197 ?_
                    exact ih120 M169 v8 0 hB177 kp178 kp179 (by omega) (by omega) (by omega) (by omega) (by omega) (by omega)
                  · refine vc_iconst dX12_goTurn_190 rfl ?_
                    refine vc_goto dX12_goTurn_191 ?_
                    refine vc_istore dX12_goTurn_195 (by decide) rfl (show _ = [some (aR 54), none, some (aI s), some (aI x1), some (aI x2), some (aI 0), none, some (aI x156), some (aI v8), some (aI 1)] from rfl) ?_
                    refine vc_goto dX12_goTurn_197 ?_
                    exact ih120 M169 v8 1 hB177 kp178 kp179 (by omega) (by omega) (by omega) (by omega) (by omega) (by omega)
                · refine vc_iinc dX12_goTurn_154 rfl (by decide) rfl (show _ = [some (aR 54), none, some (aI s), some (aI x1), some (aI x2), some (aI 0), none, some (aI x156), some (aI (wI (v8 + 1))), some (aI v9)] from rfl) ?_
                  refine vc_iload dX12_goTurn_157 rfl ?_
                  refine vc_if_eq dX12_goTurn_159 (fun h189 => ?_) (fun h189 => by exfalso; omega)
                  refine vc_iload dX12_goTurn_183 rfl ?_
                  refine vc_iload dX12_goTurn_185 rfl ?_
                  refine vc_icmp_ne dX12_goTurn_187 (fun h190 => ?_) (fun h190 => ?_)
                  · refine vc_iconst dX12_goTurn_194 rfl ?_
                    refine vc_istore dX12_goTurn_195 (by decide) rfl (show _ = [some (aR 54), none, some (aI s), some (aI x1), some (aI x2), some (aI 0), none, some (aI x156), some (aI (wI (v8 + 1))), some (aI 0)] from rfl) ?_
                    refine vc_goto dX12_goTurn_197 ?_
                    exact ih120 M169 (wI (v8 + 1)) 0 hB177 kp178 kp179 (by omega) (by omega) (by omega) (by omega) (by omega) (by omega)
                  · refine vc_iconst dX12_goTurn_190 rfl ?_
                    refine vc_goto dX12_goTurn_191 ?_
                    refine vc_istore dX12_goTurn_195 (by decide) rfl (show _ = [some (aR 54), none, some (aI s), some (aI x1), some (aI x2), some (aI 0), none, some (aI x156), some (aI (wI (v8 + 1))), some (aI 1)] from rfl) ?_
                    refine vc_goto dX12_goTurn_197 ?_
                    exact ih120 M169 (wI (v8 + 1)) 1 hB177 kp178 kp179 (by omega) (by omega) (by omega) (by omega) (by omega) (by omega)
              · refine vc_iconst dX12_goTurn_132 rfl ?_
                refine vc_zret dX12_goTurn_133 rfl (by first | decide | omega) (Nat.le_of_ble_eq_true rfl) (Nat.le_of_ble_eq_true rfl) ?_
                exact ⟨_, rfl, hB177, kp179, kp178, by omega, by omega, by omega⟩
        refine vc_less [some (aR 54), none, some (aI s), some (aI x1), some (aI x2), some (aI 0), none, some (aI x156), some (aI 0), some (aI 0)] (lessL_keep (lessL_drop (lessL_keep (lessL_keep (lessL_keep (lessL_keep (lessL_drop (lessL_keep (lessL_keep (lessL_keep (lessL_nil))))))))))) ?_
        exact lp120 _ M 0 0 hB0 rfl rfl (by omega) (by omega) (by omega) (by omega) (by omega) (Nat.lt_succ_self _)
      · refine vc_iconst dX12_goTurn_68 rfl ?_
        refine vc_goto dX12_goTurn_69 ?_
        refine vc_icmp_ne dX12_goTurn_73 (fun h191 => by exfalso; omega) (fun h191 => ?_)
        refine vc_iconst dX12_goTurn_76 rfl ?_
        refine vc_goto dX12_goTurn_77 ?_
        refine vc_istore dX12_goTurn_81 (by decide) rfl (show _ = [some (aR 54), some (aI t), some (aI s), some (aI x1), some (aI x2), some (aI 0), some (aI 1), none, none, none] from rfl) ?_
        refine vc_iload_n dX12_goTurn_83 rfl ?_
        refine vc_iconst dX12_goTurn_84 rfl ?_
        refine vc_icmp_ne dX12_goTurn_85 (fun h192 => ?_) (fun h192 => by exfalso; omega)
        refine vc_aload_n dX12_goTurn_95 rfl ?_
        refine vc_getI dX12_goTurn_96 flX12_324 (s_54 hB0.1.1) rfl ?_
        have k193 : 0 ≤ mI M 54 25 ∧ mI M 54 25 ≤ 3 := b54_25 (M := M) hB0.1
        refine vc_iload dX12_goTurn_99 rfl ?_
        refine vc_if_eq dX12_goTurn_101 (fun h194 => by exfalso; omega) (fun h194 => ?_)
        refine vc_iconst dX12_goTurn_104 rfl ?_
        refine vc_goto dX12_goTurn_105 ?_
        refine vc_iaddE dX12_goTurn_109 (by omega) (by omega) ?_
        refine vc_iconst dX12_goTurn_110 rfl ?_
        refine vc_iremE dX12_goTurn_111 (by omega) (by omega) ?_
        refine vc_nameI (fun x195 ex195 => ?_)
        refine vc_istore dX12_goTurn_112 (by decide) rfl (show _ = [some (aR 54), some (aI t), some (aI s), some (aI x1), some (aI x2), some (aI 0), some (aI 1), some (aI x195), none, none] from rfl) ?_
        refine vc_iconst dX12_goTurn_114 rfl ?_
        refine vc_istore dX12_goTurn_115 (by decide) rfl (show _ = [some (aR 54), some (aI t), some (aI s), some (aI x1), some (aI x2), some (aI 0), some (aI 1), some (aI x195), some (aI 0), none] from rfl) ?_
        refine vc_iconst dX12_goTurn_117 rfl ?_
        refine vc_istore dX12_goTurn_118 (by decide) rfl (show _ = [some (aR 54), some (aI t), some (aI s), some (aI x1), some (aI x2), some (aI 0), some (aI 1), some (aI x195), some (aI 0), some (aI 0)] from rfl) ?_
        have lp120 : ∀ (n120 : Nat) (Mq120 : Mem) (v8 : Int) (v9 : Int), (BF fS M Mq120) → (mI Mq120 57 = mI M 57) → (mI Mq120 55 = mI M 55) → (0 ≤ v9) → (v9 ≤ 1) → (mI Mq120 54 32 = mI M 54 32) → (0 ≤ mI Mq120 54 27) → (mI Mq120 54 27 ≤ 40) → (40 - mI Mq120 54 27).toNat < n120 → VC l mdX12_goTurn 120 [some (aR 54), none, some (aI s), some (aI x1), some (aI x2), some (aI 0), none, some (aI x195), some (aI v8), some (aI v9)] [] Mq120 0 0 (fun q N => ∃ r : Int, q = some (aI r) ∧ BF fS M N ∧ mI N 55 = mI M 55 ∧ mI N 57 = mI M 57 ∧ 0 ≤ r ∧ r ≤ 1 ∧ mI N 54 32 = mI M 54 32) := by
          intro n120
          induction n120 with
          | zero => intro Mq120 v8 v9 hQ120 kp120_57 kp120_55 g120_9a g120_9b g120i0 g120i1 g120i2 hm120; exact absurd hm120 (Nat.not_lt_zero _)
          | succ n120 ih120 =>
            intro Mq120 v8 v9 hQ120 kp120_57 kp120_55 g120_9a g120_9b g120i0 g120i1 g120i2 hm120
            refine vc_iload dX12_goTurn_120 rfl ?_
            refine vc_if_ne dX12_goTurn_122 (fun h196 => ?_) (fun h196 => ?_)
            · refine vc_iload_n dX12_goTurn_200 rfl ?_
              refine vc_iconst dX12_goTurn_201 rfl ?_
              refine vc_icmp_eq dX12_goTurn_202 (fun h197 => by exfalso; omega) (fun h197 => ?_)
              refine vc_aload_n dX12_goTurn_205 rfl ?_
              refine vc_iload dX12_goTurn_206 rfl ?_
              refine vc_iload_n dX12_goTurn_208 rfl ?_
              refine vc_cVI dX12_goTurn_209 (sfX12_isCounted (M := Mq120) hQ120.1  x195 s (by omega) (by omega)) rfl okX12_isCounted viX12_isCounted lkX12_352 (s_54 hQ120.1.1) cl_12 rfl (Nat.le_of_ble_eq_true rfl) ⟨rfl, rfl⟩ (Nat.le_of_ble_eq_true rfl) (Nat.le_of_ble_eq_true rfl) (Nat.le_of_ble_eq_true rfl) ?_
              rintro x198 _ ⟨rfl, h199, h200⟩
              refine vc_if_ne dX12_goTurn_212 (fun h201 => ?_) (fun h201 => ?_)
              · refine vc_aload_n dX12_goTurn_217 rfl ?_
                refine vc_iload dX12_goTurn_218 rfl ?_
                refine vc_putI dX12_goTurn_220 (plX12_324 _ rfl) (s_54 hQ120.1.1) rfl ?_
                have kp202 : mI (sI Mq120 54 25 x195) 57 = mI M 57 := (kp_sI kp120_57 rfl)
                have kp203 : mI (sI Mq120 54 25 x195) 55 = mI M 55 := (kp_sI kp120_55 rfl)
                have hB204 : BF fS M (sI Mq120 54 25 x195) := BF.w54_25 hQ120 rfl (by omega) (by omega)
                refine vc_iconst dX12_goTurn_223 rfl ?_
                refine vc_zret dX12_goTurn_224 rfl (by first | decide | omega) (Nat.le_of_ble_eq_true rfl) (Nat.le_of_ble_eq_true rfl) ?_
                have k205 : mI (sI Mq120 54 25 x195) 54 27 = mI Mq120 54 27 := rfl
                have k206 : mI (sI Mq120 54 25 x195) 54 32 = mI Mq120 54 32 := rfl
                exact ⟨_, rfl, hB204, kp203, kp202, by omega, by omega, by omega⟩
              · refine vc_iconst dX12_goTurn_215 rfl ?_
                refine vc_zret dX12_goTurn_216 rfl (by first | decide | omega) (Nat.le_of_ble_eq_true rfl) (Nat.le_of_ble_eq_true rfl) ?_
                exact ⟨_, rfl, hQ120, kp120_55, kp120_57, by omega, by omega, by omega⟩
            · refine vc_aload_n dX12_goTurn_125 rfl ?_
              refine vc_cVI dX12_goTurn_126 (sfX12_goOn (M := Mq120) hQ120.1   ) rfl okX12_goOn viX12_goOn lkX12_348 (s_54 hQ120.1.1) cl_12 rfl (Nat.le_of_ble_eq_true rfl) ⟨rfl, rfl⟩ (Nat.le_of_ble_eq_true rfl) (Nat.le_of_ble_eq_true rfl) (Nat.le_of_ble_eq_true rfl) ?_
              rintro x207 M208 ⟨hB209, kp210, kp211, h212, h213, h214, h215⟩
              have hB216 : BF fS M M208 := BF.go hQ120 hB209
              have kp217 : mI M208 57 = mI M 57 := kp_go kp120_57 kp211
              have kp218 : mI M208 55 = mI M 55 := kp_go kp120_55 kp210
              have kz := b54_27 (M := M208) hB216.1
              refine vc_if_ne dX12_goTurn_129 (fun h219 => ?_) (fun h219 => ?_)
              · refine vc_iload dX12_goTurn_134 rfl ?_
                refine vc_if_ne dX12_goTurn_136 (fun h220 => by exfalso; omega) (fun h220 => ?_)
                refine vc_iload_n dX12_goTurn_139 rfl ?_
                refine vc_iconst dX12_goTurn_140 rfl ?_
                refine vc_icmp_eq dX12_goTurn_141 (fun h221 => by exfalso; omega) (fun h221 => ?_)
                refine vc_aload_n dX12_goTurn_144 rfl ?_
                refine vc_iload dX12_goTurn_145 rfl ?_
                refine vc_iload_n dX12_goTurn_147 rfl ?_
                refine vc_cVI dX12_goTurn_148 (sfX12_isCounted (M := M208) hB216.1  x195 s (by omega) (by omega)) rfl okX12_isCounted viX12_isCounted lkX12_352 (s_54 hB216.1.1) cl_12 rfl (Nat.le_of_ble_eq_true rfl) ⟨rfl, rfl⟩ (Nat.le_of_ble_eq_true rfl) (Nat.le_of_ble_eq_true rfl) (Nat.le_of_ble_eq_true rfl) ?_
                rintro x222 _ ⟨rfl, h223, h224⟩
                refine vc_if_eq dX12_goTurn_151 (fun h225 => ?_) (fun h225 => ?_)
                · refine vc_iload dX12_goTurn_157 rfl ?_
                  refine vc_if_eq dX12_goTurn_159 (fun h226 => ?_) (fun h226 => by exfalso; omega)
                  refine vc_iload dX12_goTurn_183 rfl ?_
                  refine vc_iload dX12_goTurn_185 rfl ?_
                  refine vc_icmp_ne dX12_goTurn_187 (fun h227 => ?_) (fun h227 => ?_)
                  · refine vc_iconst dX12_goTurn_194 rfl ?_
                    refine vc_istore dX12_goTurn_195 (by decide) rfl (show _ = [some (aR 54), none, some (aI s), some (aI x1), some (aI x2), some (aI 0), none, some (aI x195), some (aI v8), some (aI 0)] from rfl) ?_
                    refine vc_goto dX12_goTurn_197 ?_
                    exact ih120 M208 v8 0 hB216 kp217 kp218 (by omega) (by omega) (by omega) (by omega) (by omega) (by omega)
                  · refine vc_iconst dX12_goTurn_190 rfl ?_
                    refine vc_goto dX12_goTurn_191 ?_
                    refine vc_istore dX12_goTurn_195 (by decide) rfl (show _ = [some (aR 54), none, some (aI s), some (aI x1), some (aI x2), some (aI 0), none, some (aI x195), some (aI v8), some (aI 1)] from rfl) ?_
                    refine vc_goto dX12_goTurn_197 ?_
                    exact ih120 M208 v8 1 hB216 kp217 kp218 (by omega) (by omega) (by omega) (by omega) (by omega) (by omega)
                · refine vc_iinc dX12_goTurn_154 rfl (by decide) rfl (show _ = [some (aR 54), none, some (aI s), some (aI x1), some (aI x2), some (aI 0), none, some (aI x195), some (aI (wI (v8 + 1))), some (aI v9)] from rfl) ?_
                  refine vc_iload dX12_goTurn_157 rfl ?_
                  refine vc_if_eq dX12_goTurn_159 (fun h228 => ?_) (fun h228 => by exfalso; omega)
                  refine vc_iload dX12_goTurn_183 rfl ?_
                  refine vc_iload dX12_goTurn_185 rfl ?_
                  refine vc_icmp_ne dX12_goTurn_187 (fun h229 => ?_) (fun h229 => ?_)
                  · refine vc_iconst dX12_goTurn_194 rfl ?_
                    refine vc_istore dX12_goTurn_195 (by decide) rfl (show _ = [some (aR 54), none, some (aI s), some (aI x1), some (aI x2), some (aI 0), none, some (aI x195), some (aI (wI (v8 + 1))), some (aI 0)] from rfl) ?_
                    refine vc_goto dX12_goTurn_197 ?_
                    exact ih120 M208 (wI (v8 + 1)) 0 hB216 kp217 kp218 (by omega) (by omega) (by omega) (by omega) (by omega) (by omega)
                  · refine vc_iconst dX12_goTurn_190 rfl ?_
                    refine vc_goto dX12_goTurn_191 ?_
                    refine vc_istore dX12_goTurn_195 (by decide) rfl (show _ = [some (aR 54), none, some (aI s), some (aI x1), some (aI x2), some (aI 0), none, some (aI x195), some (aI (wI (v8 + 1))), some (aI 1)] from rfl) ?_
                    refine vc_goto dX12_goTurn_197 ?_
                    exact ih120 M208 (wI (v8 + 1)) 1 hB216 kp217 kp218 (by omega) (by omega) (by omega) (by omega) (by omega) (by omega)
              · refine vc_iconst dX12_goTurn_132 rfl ?_
                refine vc_zret dX12_goTurn_133 rfl (by first | decide | omega) (Nat.le_of_ble_eq_true rfl) (Nat.le_of_ble_eq_true rfl) ?_
                exact ⟨_, rfl, hB216, kp218, kp217, by omega, by omega, by omega⟩
        refine vc_less [some (aR 54), none, some (aI s), some (aI x1), some (aI x2), some (aI 0), none, some (aI x195), some (aI 0), some (aI 0)] (lessL_keep (lessL_drop (lessL_keep (lessL_keep (lessL_keep (lessL_keep (lessL_drop (lessL_keep (lessL_keep (lessL_keep (lessL_nil))))))))))) ?_
        exact lp120 _ M 0 0 hB0 rfl rfl (by omega) (by omega) (by omega) (by omega) (by omega) (Nat.lt_succ_self _)
  · refine vc_iconst dX12_goTurn_22 rfl ?_
    refine vc_goto dX12_goTurn_23 ?_
    refine vc_istore dX12_goTurn_27 (by decide) rfl (show _ = [some (aR 54), some (aI t), some (aI s), some (aI x1), some (aI x2), some (aI 1), none, none, none, none] from rfl) ?_
    refine vc_iload dX12_goTurn_29 rfl ?_
    refine vc_if_eq dX12_goTurn_31 (fun h230 => by exfalso; omega) (fun h230 => ?_)
    refine vc_iload_n dX12_goTurn_34 rfl ?_
    refine vc_iconst dX12_goTurn_35 rfl ?_
    refine vc_iand dX12_goTurn_36 ?_
    refine vc_if_eq dX12_goTurn_37 (fun h231 => ?_) (fun h231 => ?_)
    · refine vc_iload_n dX12_goTurn_52 rfl ?_
      refine vc_iconst dX12_goTurn_53 rfl ?_
      refine vc_icmp_ne dX12_goTurn_54 (fun h232 => ?_) (fun h232 => ?_)
      · refine vc_iconst dX12_goTurn_61 rfl ?_
        refine vc_iload_n dX12_goTurn_62 rfl ?_
        refine vc_iconst dX12_goTurn_63 rfl ?_
        refine vc_iandM dX12_goTurn_64 2 1 rfl (by decide) rfl ?_
        refine vc_if_ne dX12_goTurn_65 (fun h233 => ?_) (fun h233 => ?_)
        · refine vc_iconst dX12_goTurn_72 rfl ?_
          refine vc_icmp_ne dX12_goTurn_73 (fun h234 => by exfalso; omega) (fun h234 => ?_)
          refine vc_iconst dX12_goTurn_76 rfl ?_
          refine vc_goto dX12_goTurn_77 ?_
          refine vc_istore dX12_goTurn_81 (by decide) rfl (show _ = [some (aR 54), some (aI t), some (aI s), some (aI x1), some (aI x2), some (aI 1), some (aI 1), none, none, none] from rfl) ?_
          refine vc_iload_n dX12_goTurn_83 rfl ?_
          refine vc_iconst dX12_goTurn_84 rfl ?_
          refine vc_icmp_ne dX12_goTurn_85 (fun h235 => ?_) (fun h235 => ?_)
          · refine vc_aload_n dX12_goTurn_95 rfl ?_
            refine vc_getI dX12_goTurn_96 flX12_324 (s_54 hB0.1.1) rfl ?_
            have k236 : 0 ≤ mI M 54 25 ∧ mI M 54 25 ≤ 3 := b54_25 (M := M) hB0.1
            refine vc_iload dX12_goTurn_99 rfl ?_
            refine vc_if_eq dX12_goTurn_101 (fun h237 => by exfalso; omega) (fun h237 => ?_)
            refine vc_iconst dX12_goTurn_104 rfl ?_
            refine vc_goto dX12_goTurn_105 ?_
            refine vc_iaddE dX12_goTurn_109 (by omega) (by omega) ?_
            refine vc_iconst dX12_goTurn_110 rfl ?_
            refine vc_iremE dX12_goTurn_111 (by omega) (by omega) ?_
            refine vc_nameI (fun x238 ex238 => ?_)
            refine vc_istore dX12_goTurn_112 (by decide) rfl (show _ = [some (aR 54), some (aI t), some (aI s), some (aI x1), some (aI x2), some (aI 1), some (aI 1), some (aI x238), none, none] from rfl) ?_
            refine vc_iconst dX12_goTurn_114 rfl ?_
            refine vc_istore dX12_goTurn_115 (by decide) rfl (show _ = [some (aR 54), some (aI t), some (aI s), some (aI x1), some (aI x2), some (aI 1), some (aI 1), some (aI x238), some (aI 0), none] from rfl) ?_
            refine vc_iconst dX12_goTurn_117 rfl ?_
            refine vc_istore dX12_goTurn_118 (by decide) rfl (show _ = [some (aR 54), some (aI t), some (aI s), some (aI x1), some (aI x2), some (aI 1), some (aI 1), some (aI x238), some (aI 0), some (aI 0)] from rfl) ?_
            have lp120 : ∀ (n120 : Nat) (Mq120 : Mem) (v8 : Int) (v9 : Int), (BF fS M Mq120) → (mI Mq120 57 = mI M 57) → (mI Mq120 55 = mI M 55) → (0 ≤ v9) → (v9 ≤ 1) → (mI Mq120 54 32 = mI M 54 32) → (0 ≤ mI Mq120 54 27) → (mI Mq120 54 27 ≤ 40) → (40 - mI Mq120 54 27).toNat < n120 → VC l mdX12_goTurn 120 [some (aR 54), none, some (aI s), some (aI x1), some (aI x2), some (aI 1), none, some (aI x238), some (aI v8), some (aI v9)] [] Mq120 0 0 (fun q N => ∃ r : Int, q = some (aI r) ∧ BF fS M N ∧ mI N 55 = mI M 55 ∧ mI N 57 = mI M 57 ∧ 0 ≤ r ∧ r ≤ 1 ∧ mI N 54 32 = mI M 54 32) := by
              intro n120
              induction n120 with
              | zero => intro Mq120 v8 v9 hQ120 kp120_57 kp120_55 g120_9a g120_9b g120i0 g120i1 g120i2 hm120; exact absurd hm120 (Nat.not_lt_zero _)
              | succ n120 ih120 =>
                intro Mq120 v8 v9 hQ120 kp120_57 kp120_55 g120_9a g120_9b g120i0 g120i1 g120i2 hm120
                refine vc_iload dX12_goTurn_120 rfl ?_
                refine vc_if_ne dX12_goTurn_122 (fun h239 => ?_) (fun h239 => ?_)
                · refine vc_iload_n dX12_goTurn_200 rfl ?_
                  refine vc_iconst dX12_goTurn_201 rfl ?_
                  refine vc_icmp_eq dX12_goTurn_202 (fun h240 => ?_) (fun h240 => ?_)
                  · refine vc_aload_n dX12_goTurn_217 rfl ?_
                    refine vc_iload dX12_goTurn_218 rfl ?_
                    refine vc_putI dX12_goTurn_220 (plX12_324 _ rfl) (s_54 hQ120.1.1) rfl ?_
                    have kp241 : mI (sI Mq120 54 25 x238) 57 = mI M 57 := (kp_sI kp120_57 rfl)
                    have kp242 : mI (sI Mq120 54 25 x238) 55 = mI M 55 := (kp_sI kp120_55 rfl)
                    have hB243 : BF fS M (sI Mq120 54 25 x238) := BF.w54_25 hQ120 rfl (by omega) (by omega)
                    refine vc_iconst dX12_goTurn_223 rfl ?_
                    refine vc_zret dX12_goTurn_224 rfl (by first | decide | omega) (Nat.le_of_ble_eq_true rfl) (Nat.le_of_ble_eq_true rfl) ?_
                    have k244 : mI (sI Mq120 54 25 x238) 54 27 = mI Mq120 54 27 := rfl
                    have k245 : mI (sI Mq120 54 25 x238) 54 32 = mI Mq120 54 32 := rfl
                    exact ⟨_, rfl, hB243, kp242, kp241, by omega, by omega, by omega⟩
                  · refine vc_aload_n dX12_goTurn_205 rfl ?_
                    refine vc_iload dX12_goTurn_206 rfl ?_
                    refine vc_iload_n dX12_goTurn_208 rfl ?_
                    refine vc_cVI dX12_goTurn_209 (sfX12_isCounted (M := Mq120) hQ120.1  x238 s (by omega) (by omega)) rfl okX12_isCounted viX12_isCounted lkX12_352 (s_54 hQ120.1.1) cl_12 rfl (Nat.le_of_ble_eq_true rfl) ⟨rfl, rfl⟩ (Nat.le_of_ble_eq_true rfl) (Nat.le_of_ble_eq_true rfl) (Nat.le_of_ble_eq_true rfl) ?_
                    rintro x246 _ ⟨rfl, h247, h248⟩
                    refine vc_if_ne dX12_goTurn_212 (fun h249 => ?_) (fun h249 => ?_)
                    · refine vc_aload_n dX12_goTurn_217 rfl ?_
                      refine vc_iload dX12_goTurn_218 rfl ?_
                      refine vc_putI dX12_goTurn_220 (plX12_324 _ rfl) (s_54 hQ120.1.1) rfl ?_
                      have kp250 : mI (sI Mq120 54 25 x238) 57 = mI M 57 := (kp_sI kp120_57 rfl)
                      have kp251 : mI (sI Mq120 54 25 x238) 55 = mI M 55 := (kp_sI kp120_55 rfl)
                      have hB252 : BF fS M (sI Mq120 54 25 x238) := BF.w54_25 hQ120 rfl (by omega) (by omega)
                      refine vc_iconst dX12_goTurn_223 rfl ?_
                      refine vc_zret dX12_goTurn_224 rfl (by first | decide | omega) (Nat.le_of_ble_eq_true rfl) (Nat.le_of_ble_eq_true rfl) ?_
                      have k253 : mI (sI Mq120 54 25 x238) 54 27 = mI Mq120 54 27 := rfl
                      have k254 : mI (sI Mq120 54 25 x238) 54 32 = mI Mq120 54 32 := rfl
                      exact ⟨_, rfl, hB252, kp251, kp250, by omega, by omega, by omega⟩
                    · refine vc_iconst dX12_goTurn_215 rfl ?_
                      refine vc_zret dX12_goTurn_216 rfl (by first | decide | omega) (Nat.le_of_ble_eq_true rfl) (Nat.le_of_ble_eq_true rfl) ?_
                      exact ⟨_, rfl, hQ120, kp120_55, kp120_57, by omega, by omega, by omega⟩
                · refine vc_aload_n dX12_goTurn_125 rfl ?_
                  refine vc_cVI dX12_goTurn_126 (sfX12_goOn (M := Mq120) hQ120.1   ) rfl okX12_goOn viX12_goOn lkX12_348 (s_54 hQ120.1.1) cl_12 rfl (Nat.le_of_ble_eq_true rfl) ⟨rfl, rfl⟩ (Nat.le_of_ble_eq_true rfl) (Nat.le_of_ble_eq_true rfl) (Nat.le_of_ble_eq_true rfl) ?_
                  rintro x255 M256 ⟨hB257, kp258, kp259, h260, h261, h262, h263⟩
                  have hB264 : BF fS M M256 := BF.go hQ120 hB257
                  have kp265 : mI M256 57 = mI M 57 := kp_go kp120_57 kp259
                  have kp266 : mI M256 55 = mI M 55 := kp_go kp120_55 kp258
                  have kz := b54_27 (M := M256) hB264.1
                  refine vc_if_ne dX12_goTurn_129 (fun h267 => ?_) (fun h267 => ?_)
                  · refine vc_iload dX12_goTurn_134 rfl ?_
                    refine vc_if_ne dX12_goTurn_136 (fun h268 => ?_) (fun h268 => by exfalso; omega)
                    refine vc_iload dX12_goTurn_157 rfl ?_
                    refine vc_if_eq dX12_goTurn_159 (fun h269 => by exfalso; omega) (fun h269 => ?_)
                    refine vc_aload_n dX12_goTurn_162 rfl ?_
                    refine vc_aload_n dX12_goTurn_163 rfl ?_
                    refine vc_getI dX12_goTurn_164 flX12_321 (s_54 hB264.1.1) rfl ?_
                    have k270 : 0 ≤ mI M256 54 24 ∧ mI M256 54 24 ≤ 15 := b54_24 (M := M256) hB264.1
                    refine vc_cVI dX12_goTurn_167 (sfX12_sightOf (M := M256) hB264.1  (mI M256 54 24) (by omega) (by omega)) rfl okX12_sightOf viX12_sightOf lkX12_318 (s_54 hB264.1.1) cl_12 rfl (Nat.le_of_ble_eq_true rfl) ⟨rfl, rfl⟩ (Nat.le_of_ble_eq_true rfl) (Nat.le_of_ble_eq_true rfl) (Nat.le_of_ble_eq_true rfl) ?_
                    rintro x271 _ rfl
                    refine vc_iload dX12_goTurn_170 rfl ?_
                    refine vc_icmp_ne dX12_goTurn_172 (fun h272 => ?_) (fun h272 => ?_)
                    · refine vc_iconst dX12_goTurn_179 rfl ?_
                      refine vc_goto dX12_goTurn_180 ?_
                      refine vc_istore dX12_goTurn_195 (by decide) rfl (show _ = [some (aR 54), none, some (aI s), some (aI x1), some (aI x2), some (aI 1), none, some (aI x238), some (aI v8), some (aI 0)] from rfl) ?_
                      refine vc_goto dX12_goTurn_197 ?_
                      exact ih120 M256 v8 0 hB264 kp265 kp266 (by omega) (by omega) (by omega) (by omega) (by omega) (by omega)
                    · refine vc_iconst dX12_goTurn_175 rfl ?_
                      refine vc_goto dX12_goTurn_176 ?_
                      refine vc_istore dX12_goTurn_195 (by decide) rfl (show _ = [some (aR 54), none, some (aI s), some (aI x1), some (aI x2), some (aI 1), none, some (aI x238), some (aI v8), some (aI 1)] from rfl) ?_
                      refine vc_goto dX12_goTurn_197 ?_
                      exact ih120 M256 v8 1 hB264 kp265 kp266 (by omega) (by omega) (by omega) (by omega) (by omega) (by omega)
                  · refine vc_iconst dX12_goTurn_132 rfl ?_
                    refine vc_zret dX12_goTurn_133 rfl (by first | decide | omega) (Nat.le_of_ble_eq_true rfl) (Nat.le_of_ble_eq_true rfl) ?_
                    exact ⟨_, rfl, hB264, kp266, kp265, by omega, by omega, by omega⟩
            refine vc_less [some (aR 54), none, some (aI s), some (aI x1), some (aI x2), some (aI 1), none, some (aI x238), some (aI 0), some (aI 0)] (lessL_keep (lessL_drop (lessL_keep (lessL_keep (lessL_keep (lessL_keep (lessL_drop (lessL_keep (lessL_keep (lessL_keep (lessL_nil))))))))))) ?_
            exact lp120 _ M 0 0 hB0 rfl rfl (by omega) (by omega) (by omega) (by omega) (by omega) (Nat.lt_succ_self _)
          · refine vc_aload_n dX12_goTurn_88 rfl ?_
            refine vc_getI dX12_goTurn_89 flX12_324 (s_54 hB0.1.1) rfl ?_
            have k273 : 0 ≤ mI M 54 25 ∧ mI M 54 25 ≤ 3 := b54_25 (M := M) hB0.1
            refine vc_goto dX12_goTurn_92 ?_
            refine vc_nameI (fun x274 ex274 => ?_)
            refine vc_istore dX12_goTurn_112 (by decide) rfl (show _ = [some (aR 54), some (aI t), some (aI s), some (aI x1), some (aI x2), some (aI 1), some (aI 1), some (aI x274), none, none] from rfl) ?_
            refine vc_iconst dX12_goTurn_114 rfl ?_
            refine vc_istore dX12_goTurn_115 (by decide) rfl (show _ = [some (aR 54), some (aI t), some (aI s), some (aI x1), some (aI x2), some (aI 1), some (aI 1), some (aI x274), some (aI 0), none] from rfl) ?_
            refine vc_iconst dX12_goTurn_117 rfl ?_
            refine vc_istore dX12_goTurn_118 (by decide) rfl (show _ = [some (aR 54), some (aI t), some (aI s), some (aI x1), some (aI x2), some (aI 1), some (aI 1), some (aI x274), some (aI 0), some (aI 0)] from rfl) ?_
            have lp120 : ∀ (n120 : Nat) (Mq120 : Mem) (v8 : Int) (v9 : Int), (BF fS M Mq120) → (mI Mq120 57 = mI M 57) → (mI Mq120 55 = mI M 55) → (0 ≤ v9) → (v9 ≤ 1) → (mI Mq120 54 32 = mI M 54 32) → (0 ≤ mI Mq120 54 27) → (mI Mq120 54 27 ≤ 40) → (40 - mI Mq120 54 27).toNat < n120 → VC l mdX12_goTurn 120 [some (aR 54), none, some (aI s), some (aI x1), some (aI x2), some (aI 1), none, some (aI x274), some (aI v8), some (aI v9)] [] Mq120 0 0 (fun q N => ∃ r : Int, q = some (aI r) ∧ BF fS M N ∧ mI N 55 = mI M 55 ∧ mI N 57 = mI M 57 ∧ 0 ≤ r ∧ r ≤ 1 ∧ mI N 54 32 = mI M 54 32) := by
              intro n120
              induction n120 with
              | zero => intro Mq120 v8 v9 hQ120 kp120_57 kp120_55 g120_9a g120_9b g120i0 g120i1 g120i2 hm120; exact absurd hm120 (Nat.not_lt_zero _)
              | succ n120 ih120 =>
                intro Mq120 v8 v9 hQ120 kp120_57 kp120_55 g120_9a g120_9b g120i0 g120i1 g120i2 hm120
                refine vc_iload dX12_goTurn_120 rfl ?_
                refine vc_if_ne dX12_goTurn_122 (fun h275 => ?_) (fun h275 => ?_)
                · refine vc_iload_n dX12_goTurn_200 rfl ?_
                  refine vc_iconst dX12_goTurn_201 rfl ?_
                  refine vc_icmp_eq dX12_goTurn_202 (fun h276 => ?_) (fun h276 => by exfalso; omega)
                  refine vc_aload_n dX12_goTurn_217 rfl ?_
                  refine vc_iload dX12_goTurn_218 rfl ?_
                  refine vc_putI dX12_goTurn_220 (plX12_324 _ rfl) (s_54 hQ120.1.1) rfl ?_
                  have kp277 : mI (sI Mq120 54 25 x274) 57 = mI M 57 := (kp_sI kp120_57 rfl)
                  have kp278 : mI (sI Mq120 54 25 x274) 55 = mI M 55 := (kp_sI kp120_55 rfl)
                  have hB279 : BF fS M (sI Mq120 54 25 x274) := BF.w54_25 hQ120 rfl (by omega) (by omega)
                  refine vc_iconst dX12_goTurn_223 rfl ?_
                  refine vc_zret dX12_goTurn_224 rfl (by first | decide | omega) (Nat.le_of_ble_eq_true rfl) (Nat.le_of_ble_eq_true rfl) ?_
                  have k280 : mI (sI Mq120 54 25 x274) 54 27 = mI Mq120 54 27 := rfl
                  have k281 : mI (sI Mq120 54 25 x274) 54 32 = mI Mq120 54 32 := rfl
                  exact ⟨_, rfl, hB279, kp278, kp277, by omega, by omega, by omega⟩
                · refine vc_aload_n dX12_goTurn_125 rfl ?_
                  refine vc_cVI dX12_goTurn_126 (sfX12_goOn (M := Mq120) hQ120.1   ) rfl okX12_goOn viX12_goOn lkX12_348 (s_54 hQ120.1.1) cl_12 rfl (Nat.le_of_ble_eq_true rfl) ⟨rfl, rfl⟩ (Nat.le_of_ble_eq_true rfl) (Nat.le_of_ble_eq_true rfl) (Nat.le_of_ble_eq_true rfl) ?_
                  rintro x282 M283 ⟨hB284, kp285, kp286, h287, h288, h289, h290⟩
                  have hB291 : BF fS M M283 := BF.go hQ120 hB284
                  have kp292 : mI M283 57 = mI M 57 := kp_go kp120_57 kp286
                  have kp293 : mI M283 55 = mI M 55 := kp_go kp120_55 kp285
                  have kz := b54_27 (M := M283) hB291.1
                  refine vc_if_ne dX12_goTurn_129 (fun h294 => ?_) (fun h294 => ?_)
                  · refine vc_iload dX12_goTurn_134 rfl ?_
                    refine vc_if_ne dX12_goTurn_136 (fun h295 => ?_) (fun h295 => by exfalso; omega)
                    refine vc_iload dX12_goTurn_157 rfl ?_
                    refine vc_if_eq dX12_goTurn_159 (fun h296 => by exfalso; omega) (fun h296 => ?_)
                    refine vc_aload_n dX12_goTurn_162 rfl ?_
                    refine vc_aload_n dX12_goTurn_163 rfl ?_
                    refine vc_getI dX12_goTurn_164 flX12_321 (s_54 hB291.1.1) rfl ?_
                    have k297 : 0 ≤ mI M283 54 24 ∧ mI M283 54 24 ≤ 15 := b54_24 (M := M283) hB291.1
                    refine vc_cVI dX12_goTurn_167 (sfX12_sightOf (M := M283) hB291.1  (mI M283 54 24) (by omega) (by omega)) rfl okX12_sightOf viX12_sightOf lkX12_318 (s_54 hB291.1.1) cl_12 rfl (Nat.le_of_ble_eq_true rfl) ⟨rfl, rfl⟩ (Nat.le_of_ble_eq_true rfl) (Nat.le_of_ble_eq_true rfl) (Nat.le_of_ble_eq_true rfl) ?_
                    rintro x298 _ rfl
                    refine vc_iload dX12_goTurn_170 rfl ?_
                    refine vc_icmp_ne dX12_goTurn_172 (fun h299 => ?_) (fun h299 => ?_)
                    · refine vc_iconst dX12_goTurn_179 rfl ?_
                      refine vc_goto dX12_goTurn_180 ?_
                      refine vc_istore dX12_goTurn_195 (by decide) rfl (show _ = [some (aR 54), none, some (aI s), some (aI x1), some (aI x2), some (aI 1), none, some (aI x274), some (aI v8), some (aI 0)] from rfl) ?_
                      refine vc_goto dX12_goTurn_197 ?_
                      exact ih120 M283 v8 0 hB291 kp292 kp293 (by omega) (by omega) (by omega) (by omega) (by omega) (by omega)
                    · refine vc_iconst dX12_goTurn_175 rfl ?_
                      refine vc_goto dX12_goTurn_176 ?_
                      refine vc_istore dX12_goTurn_195 (by decide) rfl (show _ = [some (aR 54), none, some (aI s), some (aI x1), some (aI x2), some (aI 1), none, some (aI x274), some (aI v8), some (aI 1)] from rfl) ?_
                      refine vc_goto dX12_goTurn_197 ?_
                      exact ih120 M283 v8 1 hB291 kp292 kp293 (by omega) (by omega) (by omega) (by omega) (by omega) (by omega)
                  · refine vc_iconst dX12_goTurn_132 rfl ?_
                    refine vc_zret dX12_goTurn_133 rfl (by first | decide | omega) (Nat.le_of_ble_eq_true rfl) (Nat.le_of_ble_eq_true rfl) ?_
                    exact ⟨_, rfl, hB291, kp293, kp292, by omega, by omega, by omega⟩
            refine vc_less [some (aR 54), none, some (aI s), some (aI x1), some (aI x2), some (aI 1), none, some (aI x274), some (aI 0), some (aI 0)] (lessL_keep (lessL_drop (lessL_keep (lessL_keep (lessL_keep (lessL_keep (lessL_drop (lessL_keep (lessL_keep (lessL_keep (lessL_nil))))))))))) ?_
            exact lp120 _ M 0 0 hB0 rfl rfl (by omega) (by omega) (by omega) (by omega) (by omega) (Nat.lt_succ_self _)
        · refine vc_iconst dX12_goTurn_68 rfl ?_
          refine vc_goto dX12_goTurn_69 ?_
          refine vc_icmp_ne dX12_goTurn_73 (fun h300 => ?_) (fun h300 => by exfalso; omega)
          refine vc_iconst dX12_goTurn_80 rfl ?_
          refine vc_istore dX12_goTurn_81 (by decide) rfl (show _ = [some (aR 54), some (aI t), some (aI s), some (aI x1), some (aI x2), some (aI 1), some (aI 0), none, none, none] from rfl) ?_
          refine vc_iload_n dX12_goTurn_83 rfl ?_
          refine vc_iconst dX12_goTurn_84 rfl ?_
          refine vc_icmp_ne dX12_goTurn_85 (fun h301 => ?_) (fun h301 => ?_)
          · refine vc_aload_n dX12_goTurn_95 rfl ?_
            refine vc_getI dX12_goTurn_96 flX12_324 (s_54 hB0.1.1) rfl ?_
            have k302 : 0 ≤ mI M 54 25 ∧ mI M 54 25 ≤ 3 := b54_25 (M := M) hB0.1
            refine vc_iload dX12_goTurn_99 rfl ?_
            refine vc_if_eq dX12_goTurn_101 (fun h303 => ?_) (fun h303 => by exfalso; omega)
            refine vc_iconst dX12_goTurn_108 rfl ?_
            refine vc_iaddE dX12_goTurn_109 (by omega) (by omega) ?_
            refine vc_iconst dX12_goTurn_110 rfl ?_
            refine vc_iremE dX12_goTurn_111 (by omega) (by omega) ?_
            refine vc_nameI (fun x304 ex304 => ?_)
            refine vc_istore dX12_goTurn_112 (by decide) rfl (show _ = [some (aR 54), some (aI t), some (aI s), some (aI x1), some (aI x2), some (aI 1), some (aI 0), some (aI x304), none, none] from rfl) ?_
            refine vc_iconst dX12_goTurn_114 rfl ?_
            refine vc_istore dX12_goTurn_115 (by decide) rfl (show _ = [some (aR 54), some (aI t), some (aI s), some (aI x1), some (aI x2), some (aI 1), some (aI 0), some (aI x304), some (aI 0), none] from rfl) ?_
            refine vc_iconst dX12_goTurn_117 rfl ?_
            refine vc_istore dX12_goTurn_118 (by decide) rfl (show _ = [some (aR 54), some (aI t), some (aI s), some (aI x1), some (aI x2), some (aI 1), some (aI 0), some (aI x304), some (aI 0), some (aI 0)] from rfl) ?_
            have lp120 : ∀ (n120 : Nat) (Mq120 : Mem) (v8 : Int) (v9 : Int), (BF fS M Mq120) → (mI Mq120 57 = mI M 57) → (mI Mq120 55 = mI M 55) → (0 ≤ v9) → (v9 ≤ 1) → (mI Mq120 54 32 = mI M 54 32) → (0 ≤ mI Mq120 54 27) → (mI Mq120 54 27 ≤ 40) → (40 - mI Mq120 54 27).toNat < n120 → VC l mdX12_goTurn 120 [some (aR 54), none, some (aI s), some (aI x1), some (aI x2), some (aI 1), none, some (aI x304), some (aI v8), some (aI v9)] [] Mq120 0 0 (fun q N => ∃ r : Int, q = some (aI r) ∧ BF fS M N ∧ mI N 55 = mI M 55 ∧ mI N 57 = mI M 57 ∧ 0 ≤ r ∧ r ≤ 1 ∧ mI N 54 32 = mI M 54 32) := by
              intro n120
              induction n120 with
              | zero => intro Mq120 v8 v9 hQ120 kp120_57 kp120_55 g120_9a g120_9b g120i0 g120i1 g120i2 hm120; exact absurd hm120 (Nat.not_lt_zero _)
              | succ n120 ih120 =>
                intro Mq120 v8 v9 hQ120 kp120_57 kp120_55 g120_9a g120_9b g120i0 g120i1 g120i2 hm120
                refine vc_iload dX12_goTurn_120 rfl ?_
                refine vc_if_ne dX12_goTurn_122 (fun h305 => ?_) (fun h305 => ?_)
                · refine vc_iload_n dX12_goTurn_200 rfl ?_
                  refine vc_iconst dX12_goTurn_201 rfl ?_
                  refine vc_icmp_eq dX12_goTurn_202 (fun h306 => ?_) (fun h306 => ?_)
                  · refine vc_aload_n dX12_goTurn_217 rfl ?_
                    refine vc_iload dX12_goTurn_218 rfl ?_
                    refine vc_putI dX12_goTurn_220 (plX12_324 _ rfl) (s_54 hQ120.1.1) rfl ?_
                    have kp307 : mI (sI Mq120 54 25 x304) 57 = mI M 57 := (kp_sI kp120_57 rfl)
                    have kp308 : mI (sI Mq120 54 25 x304) 55 = mI M 55 := (kp_sI kp120_55 rfl)
                    have hB309 : BF fS M (sI Mq120 54 25 x304) := BF.w54_25 hQ120 rfl (by omega) (by omega)
                    refine vc_iconst dX12_goTurn_223 rfl ?_
                    refine vc_zret dX12_goTurn_224 rfl (by first | decide | omega) (Nat.le_of_ble_eq_true rfl) (Nat.le_of_ble_eq_true rfl) ?_
                    have k310 : mI (sI Mq120 54 25 x304) 54 27 = mI Mq120 54 27 := rfl
                    have k311 : mI (sI Mq120 54 25 x304) 54 32 = mI Mq120 54 32 := rfl
                    exact ⟨_, rfl, hB309, kp308, kp307, by omega, by omega, by omega⟩
                  · refine vc_aload_n dX12_goTurn_205 rfl ?_
                    refine vc_iload dX12_goTurn_206 rfl ?_
                    refine vc_iload_n dX12_goTurn_208 rfl ?_
                    refine vc_cVI dX12_goTurn_209 (sfX12_isCounted (M := Mq120) hQ120.1  x304 s (by omega) (by omega)) rfl okX12_isCounted viX12_isCounted lkX12_352 (s_54 hQ120.1.1) cl_12 rfl (Nat.le_of_ble_eq_true rfl) ⟨rfl, rfl⟩ (Nat.le_of_ble_eq_true rfl) (Nat.le_of_ble_eq_true rfl) (Nat.le_of_ble_eq_true rfl) ?_
                    rintro x312 _ ⟨rfl, h313, h314⟩
                    refine vc_if_ne dX12_goTurn_212 (fun h315 => ?_) (fun h315 => ?_)
                    · refine vc_aload_n dX12_goTurn_217 rfl ?_
                      refine vc_iload dX12_goTurn_218 rfl ?_
                      refine vc_putI dX12_goTurn_220 (plX12_324 _ rfl) (s_54 hQ120.1.1) rfl ?_
                      have kp316 : mI (sI Mq120 54 25 x304) 57 = mI M 57 := (kp_sI kp120_57 rfl)
                      have kp317 : mI (sI Mq120 54 25 x304) 55 = mI M 55 := (kp_sI kp120_55 rfl)
                      have hB318 : BF fS M (sI Mq120 54 25 x304) := BF.w54_25 hQ120 rfl (by omega) (by omega)
                      refine vc_iconst dX12_goTurn_223 rfl ?_
                      refine vc_zret dX12_goTurn_224 rfl (by first | decide | omega) (Nat.le_of_ble_eq_true rfl) (Nat.le_of_ble_eq_true rfl) ?_
                      have k319 : mI (sI Mq120 54 25 x304) 54 27 = mI Mq120 54 27 := rfl
                      have k320 : mI (sI Mq120 54 25 x304) 54 32 = mI Mq120 54 32 := rfl
                      exact ⟨_, rfl, hB318, kp317, kp316, by omega, by omega, by omega⟩
                    · refine vc_iconst dX12_goTurn_215 rfl ?_
                      refine vc_zret dX12_goTurn_216 rfl (by first | decide | omega) (Nat.le_of_ble_eq_true rfl) (Nat.le_of_ble_eq_true rfl) ?_
                      exact ⟨_, rfl, hQ120, kp120_55, kp120_57, by omega, by omega, by omega⟩
                · refine vc_aload_n dX12_goTurn_125 rfl ?_
                  refine vc_cVI dX12_goTurn_126 (sfX12_goOn (M := Mq120) hQ120.1   ) rfl okX12_goOn viX12_goOn lkX12_348 (s_54 hQ120.1.1) cl_12 rfl (Nat.le_of_ble_eq_true rfl) ⟨rfl, rfl⟩ (Nat.le_of_ble_eq_true rfl) (Nat.le_of_ble_eq_true rfl) (Nat.le_of_ble_eq_true rfl) ?_
                  rintro x321 M322 ⟨hB323, kp324, kp325, h326, h327, h328, h329⟩
                  have hB330 : BF fS M M322 := BF.go hQ120 hB323
                  have kp331 : mI M322 57 = mI M 57 := kp_go kp120_57 kp325
                  have kp332 : mI M322 55 = mI M 55 := kp_go kp120_55 kp324
                  have kz := b54_27 (M := M322) hB330.1
                  refine vc_if_ne dX12_goTurn_129 (fun h333 => ?_) (fun h333 => ?_)
                  · refine vc_iload dX12_goTurn_134 rfl ?_
                    refine vc_if_ne dX12_goTurn_136 (fun h334 => ?_) (fun h334 => by exfalso; omega)
                    refine vc_iload dX12_goTurn_157 rfl ?_
                    refine vc_if_eq dX12_goTurn_159 (fun h335 => by exfalso; omega) (fun h335 => ?_)
                    refine vc_aload_n dX12_goTurn_162 rfl ?_
                    refine vc_aload_n dX12_goTurn_163 rfl ?_
                    refine vc_getI dX12_goTurn_164 flX12_321 (s_54 hB330.1.1) rfl ?_
                    have k336 : 0 ≤ mI M322 54 24 ∧ mI M322 54 24 ≤ 15 := b54_24 (M := M322) hB330.1
                    refine vc_cVI dX12_goTurn_167 (sfX12_sightOf (M := M322) hB330.1  (mI M322 54 24) (by omega) (by omega)) rfl okX12_sightOf viX12_sightOf lkX12_318 (s_54 hB330.1.1) cl_12 rfl (Nat.le_of_ble_eq_true rfl) ⟨rfl, rfl⟩ (Nat.le_of_ble_eq_true rfl) (Nat.le_of_ble_eq_true rfl) (Nat.le_of_ble_eq_true rfl) ?_
                    rintro x337 _ rfl
                    refine vc_iload dX12_goTurn_170 rfl ?_
                    refine vc_icmp_ne dX12_goTurn_172 (fun h338 => ?_) (fun h338 => ?_)
                    · refine vc_iconst dX12_goTurn_179 rfl ?_
                      refine vc_goto dX12_goTurn_180 ?_
                      refine vc_istore dX12_goTurn_195 (by decide) rfl (show _ = [some (aR 54), none, some (aI s), some (aI x1), some (aI x2), some (aI 1), none, some (aI x304), some (aI v8), some (aI 0)] from rfl) ?_
                      refine vc_goto dX12_goTurn_197 ?_
                      exact ih120 M322 v8 0 hB330 kp331 kp332 (by omega) (by omega) (by omega) (by omega) (by omega) (by omega)
                    · refine vc_iconst dX12_goTurn_175 rfl ?_
                      refine vc_goto dX12_goTurn_176 ?_
                      refine vc_istore dX12_goTurn_195 (by decide) rfl (show _ = [some (aR 54), none, some (aI s), some (aI x1), some (aI x2), some (aI 1), none, some (aI x304), some (aI v8), some (aI 1)] from rfl) ?_
                      refine vc_goto dX12_goTurn_197 ?_
                      exact ih120 M322 v8 1 hB330 kp331 kp332 (by omega) (by omega) (by omega) (by omega) (by omega) (by omega)
                  · refine vc_iconst dX12_goTurn_132 rfl ?_
                    refine vc_zret dX12_goTurn_133 rfl (by first | decide | omega) (Nat.le_of_ble_eq_true rfl) (Nat.le_of_ble_eq_true rfl) ?_
                    exact ⟨_, rfl, hB330, kp332, kp331, by omega, by omega, by omega⟩
            refine vc_less [some (aR 54), none, some (aI s), some (aI x1), some (aI x2), some (aI 1), none, some (aI x304), some (aI 0), some (aI 0)] (lessL_keep (lessL_drop (lessL_keep (lessL_keep (lessL_keep (lessL_keep (lessL_drop (lessL_keep (lessL_keep (lessL_keep (lessL_nil))))))))))) ?_
            exact lp120 _ M 0 0 hB0 rfl rfl (by omega) (by omega) (by omega) (by omega) (by omega) (Nat.lt_succ_self _)
          · refine vc_aload_n dX12_goTurn_88 rfl ?_
            refine vc_getI dX12_goTurn_89 flX12_324 (s_54 hB0.1.1) rfl ?_
            have k339 : 0 ≤ mI M 54 25 ∧ mI M 54 25 ≤ 3 := b54_25 (M := M) hB0.1
            refine vc_goto dX12_goTurn_92 ?_
            refine vc_nameI (fun x340 ex340 => ?_)
            refine vc_istore dX12_goTurn_112 (by decide) rfl (show _ = [some (aR 54), some (aI t), some (aI s), some (aI x1), some (aI x2), some (aI 1), some (aI 0), some (aI x340), none, none] from rfl) ?_
            refine vc_iconst dX12_goTurn_114 rfl ?_
            refine vc_istore dX12_goTurn_115 (by decide) rfl (show _ = [some (aR 54), some (aI t), some (aI s), some (aI x1), some (aI x2), some (aI 1), some (aI 0), some (aI x340), some (aI 0), none] from rfl) ?_
            refine vc_iconst dX12_goTurn_117 rfl ?_
            refine vc_istore dX12_goTurn_118 (by decide) rfl (show _ = [some (aR 54), some (aI t), some (aI s), some (aI x1), some (aI x2), some (aI 1), some (aI 0), some (aI x340), some (aI 0), some (aI 0)] from rfl) ?_
            have lp120 : ∀ (n120 : Nat) (Mq120 : Mem) (v8 : Int) (v9 : Int), (BF fS M Mq120) → (mI Mq120 57 = mI M 57) → (mI Mq120 55 = mI M 55) → (0 ≤ v9) → (v9 ≤ 1) → (mI Mq120 54 32 = mI M 54 32) → (0 ≤ mI Mq120 54 27) → (mI Mq120 54 27 ≤ 40) → (40 - mI Mq120 54 27).toNat < n120 → VC l mdX12_goTurn 120 [some (aR 54), none, some (aI s), some (aI x1), some (aI x2), some (aI 1), none, some (aI x340), some (aI v8), some (aI v9)] [] Mq120 0 0 (fun q N => ∃ r : Int, q = some (aI r) ∧ BF fS M N ∧ mI N 55 = mI M 55 ∧ mI N 57 = mI M 57 ∧ 0 ≤ r ∧ r ≤ 1 ∧ mI N 54 32 = mI M 54 32) := by
              intro n120
              induction n120 with
              | zero => intro Mq120 v8 v9 hQ120 kp120_57 kp120_55 g120_9a g120_9b g120i0 g120i1 g120i2 hm120; exact absurd hm120 (Nat.not_lt_zero _)
              | succ n120 ih120 =>
                intro Mq120 v8 v9 hQ120 kp120_57 kp120_55 g120_9a g120_9b g120i0 g120i1 g120i2 hm120
                refine vc_iload dX12_goTurn_120 rfl ?_
                refine vc_if_ne dX12_goTurn_122 (fun h341 => ?_) (fun h341 => ?_)
                · refine vc_iload_n dX12_goTurn_200 rfl ?_
                  refine vc_iconst dX12_goTurn_201 rfl ?_
                  refine vc_icmp_eq dX12_goTurn_202 (fun h342 => ?_) (fun h342 => by exfalso; omega)
                  refine vc_aload_n dX12_goTurn_217 rfl ?_
                  refine vc_iload dX12_goTurn_218 rfl ?_
                  refine vc_putI dX12_goTurn_220 (plX12_324 _ rfl) (s_54 hQ120.1.1) rfl ?_
                  have kp343 : mI (sI Mq120 54 25 x340) 57 = mI M 57 := (kp_sI kp120_57 rfl)
                  have kp344 : mI (sI Mq120 54 25 x340) 55 = mI M 55 := (kp_sI kp120_55 rfl)
                  have hB345 : BF fS M (sI Mq120 54 25 x340) := BF.w54_25 hQ120 rfl (by omega) (by omega)
                  refine vc_iconst dX12_goTurn_223 rfl ?_
                  refine vc_zret dX12_goTurn_224 rfl (by first | decide | omega) (Nat.le_of_ble_eq_true rfl) (Nat.le_of_ble_eq_true rfl) ?_
                  have k346 : mI (sI Mq120 54 25 x340) 54 27 = mI Mq120 54 27 := rfl
                  have k347 : mI (sI Mq120 54 25 x340) 54 32 = mI Mq120 54 32 := rfl
                  exact ⟨_, rfl, hB345, kp344, kp343, by omega, by omega, by omega⟩
                · refine vc_aload_n dX12_goTurn_125 rfl ?_
                  refine vc_cVI dX12_goTurn_126 (sfX12_goOn (M := Mq120) hQ120.1   ) rfl okX12_goOn viX12_goOn lkX12_348 (s_54 hQ120.1.1) cl_12 rfl (Nat.le_of_ble_eq_true rfl) ⟨rfl, rfl⟩ (Nat.le_of_ble_eq_true rfl) (Nat.le_of_ble_eq_true rfl) (Nat.le_of_ble_eq_true rfl) ?_
                  rintro x348 M349 ⟨hB350, kp351, kp352, h353, h354, h355, h356⟩
                  have hB357 : BF fS M M349 := BF.go hQ120 hB350
                  have kp358 : mI M349 57 = mI M 57 := kp_go kp120_57 kp352
                  have kp359 : mI M349 55 = mI M 55 := kp_go kp120_55 kp351
                  have kz := b54_27 (M := M349) hB357.1
                  refine vc_if_ne dX12_goTurn_129 (fun h360 => ?_) (fun h360 => ?_)
                  · refine vc_iload dX12_goTurn_134 rfl ?_
                    refine vc_if_ne dX12_goTurn_136 (fun h361 => ?_) (fun h361 => by exfalso; omega)
                    refine vc_iload dX12_goTurn_157 rfl ?_
                    refine vc_if_eq dX12_goTurn_159 (fun h362 => by exfalso; omega) (fun h362 => ?_)
                    refine vc_aload_n dX12_goTurn_162 rfl ?_
                    refine vc_aload_n dX12_goTurn_163 rfl ?_
                    refine vc_getI dX12_goTurn_164 flX12_321 (s_54 hB357.1.1) rfl ?_
                    have k363 : 0 ≤ mI M349 54 24 ∧ mI M349 54 24 ≤ 15 := b54_24 (M := M349) hB357.1
                    refine vc_cVI dX12_goTurn_167 (sfX12_sightOf (M := M349) hB357.1  (mI M349 54 24) (by omega) (by omega)) rfl okX12_sightOf viX12_sightOf lkX12_318 (s_54 hB357.1.1) cl_12 rfl (Nat.le_of_ble_eq_true rfl) ⟨rfl, rfl⟩ (Nat.le_of_ble_eq_true rfl) (Nat.le_of_ble_eq_true rfl) (Nat.le_of_ble_eq_true rfl) ?_
                    rintro x364 _ rfl
                    refine vc_iload dX12_goTurn_170 rfl ?_
                    refine vc_icmp_ne dX12_goTurn_172 (fun h365 => ?_) (fun h365 => ?_)
                    · refine vc_iconst dX12_goTurn_179 rfl ?_
                      refine vc_goto dX12_goTurn_180 ?_
                      refine vc_istore dX12_goTurn_195 (by decide) rfl (show _ = [some (aR 54), none, some (aI s), some (aI x1), some (aI x2), some (aI 1), none, some (aI x340), some (aI v8), some (aI 0)] from rfl) ?_
                      refine vc_goto dX12_goTurn_197 ?_
                      exact ih120 M349 v8 0 hB357 kp358 kp359 (by omega) (by omega) (by omega) (by omega) (by omega) (by omega)
                    · refine vc_iconst dX12_goTurn_175 rfl ?_
                      refine vc_goto dX12_goTurn_176 ?_
                      refine vc_istore dX12_goTurn_195 (by decide) rfl (show _ = [some (aR 54), none, some (aI s), some (aI x1), some (aI x2), some (aI 1), none, some (aI x340), some (aI v8), some (aI 1)] from rfl) ?_
                      refine vc_goto dX12_goTurn_197 ?_
                      exact ih120 M349 v8 1 hB357 kp358 kp359 (by omega) (by omega) (by omega) (by omega) (by omega) (by omega)
                  · refine vc_iconst dX12_goTurn_132 rfl ?_
                    refine vc_zret dX12_goTurn_133 rfl (by first | decide | omega) (Nat.le_of_ble_eq_true rfl) (Nat.le_of_ble_eq_true rfl) ?_
                    exact ⟨_, rfl, hB357, kp359, kp358, by omega, by omega, by omega⟩
            refine vc_less [some (aR 54), none, some (aI s), some (aI x1), some (aI x2), some (aI 1), none, some (aI x340), some (aI 0), some (aI 0)] (lessL_keep (lessL_drop (lessL_keep (lessL_keep (lessL_keep (lessL_keep (lessL_drop (lessL_keep (lessL_keep (lessL_keep (lessL_nil))))))))))) ?_
            exact lp120 _ M 0 0 hB0 rfl rfl (by omega) (by omega) (by omega) (by omega) (by omega) (Nat.lt_succ_self _)
      · refine vc_iconst dX12_goTurn_57 rfl ?_
        refine vc_goto dX12_goTurn_58 ?_
        refine vc_iload_n dX12_goTurn_62 rfl ?_
        refine vc_iconst dX12_goTurn_63 rfl ?_
        refine vc_iandM dX12_goTurn_64 2 1 rfl (by decide) rfl ?_
        refine vc_if_ne dX12_goTurn_65 (fun h366 => ?_) (fun h366 => ?_)
        · refine vc_iconst dX12_goTurn_72 rfl ?_
          refine vc_icmp_ne dX12_goTurn_73 (fun h367 => ?_) (fun h367 => by exfalso; omega)
          refine vc_iconst dX12_goTurn_80 rfl ?_
          refine vc_istore dX12_goTurn_81 (by decide) rfl (show _ = [some (aR 54), some (aI t), some (aI s), some (aI x1), some (aI x2), some (aI 1), some (aI 0), none, none, none] from rfl) ?_
          refine vc_iload_n dX12_goTurn_83 rfl ?_
          refine vc_iconst dX12_goTurn_84 rfl ?_
          refine vc_icmp_ne dX12_goTurn_85 (fun h368 => ?_) (fun h368 => by exfalso; omega)
          refine vc_aload_n dX12_goTurn_95 rfl ?_
          refine vc_getI dX12_goTurn_96 flX12_324 (s_54 hB0.1.1) rfl ?_
          have k369 : 0 ≤ mI M 54 25 ∧ mI M 54 25 ≤ 3 := b54_25 (M := M) hB0.1
          refine vc_iload dX12_goTurn_99 rfl ?_
          refine vc_if_eq dX12_goTurn_101 (fun h370 => ?_) (fun h370 => by exfalso; omega)
          refine vc_iconst dX12_goTurn_108 rfl ?_
          refine vc_iaddE dX12_goTurn_109 (by omega) (by omega) ?_
          refine vc_iconst dX12_goTurn_110 rfl ?_
          refine vc_iremE dX12_goTurn_111 (by omega) (by omega) ?_
          refine vc_nameI (fun x371 ex371 => ?_)
          refine vc_istore dX12_goTurn_112 (by decide) rfl (show _ = [some (aR 54), some (aI t), some (aI s), some (aI x1), some (aI x2), some (aI 1), some (aI 0), some (aI x371), none, none] from rfl) ?_
          refine vc_iconst dX12_goTurn_114 rfl ?_
          refine vc_istore dX12_goTurn_115 (by decide) rfl (show _ = [some (aR 54), some (aI t), some (aI s), some (aI x1), some (aI x2), some (aI 1), some (aI 0), some (aI x371), some (aI 0), none] from rfl) ?_
          refine vc_iconst dX12_goTurn_117 rfl ?_
          refine vc_istore dX12_goTurn_118 (by decide) rfl (show _ = [some (aR 54), some (aI t), some (aI s), some (aI x1), some (aI x2), some (aI 1), some (aI 0), some (aI x371), some (aI 0), some (aI 0)] from rfl) ?_
          have lp120 : ∀ (n120 : Nat) (Mq120 : Mem) (v8 : Int) (v9 : Int), (BF fS M Mq120) → (mI Mq120 57 = mI M 57) → (mI Mq120 55 = mI M 55) → (0 ≤ v9) → (v9 ≤ 1) → (mI Mq120 54 32 = mI M 54 32) → (0 ≤ mI Mq120 54 27) → (mI Mq120 54 27 ≤ 40) → (40 - mI Mq120 54 27).toNat < n120 → VC l mdX12_goTurn 120 [some (aR 54), none, some (aI s), some (aI x1), some (aI x2), some (aI 1), none, some (aI x371), some (aI v8), some (aI v9)] [] Mq120 0 0 (fun q N => ∃ r : Int, q = some (aI r) ∧ BF fS M N ∧ mI N 55 = mI M 55 ∧ mI N 57 = mI M 57 ∧ 0 ≤ r ∧ r ≤ 1 ∧ mI N 54 32 = mI M 54 32) := by
            intro n120
            induction n120 with
            | zero => intro Mq120 v8 v9 hQ120 kp120_57 kp120_55 g120_9a g120_9b g120i0 g120i1 g120i2 hm120; exact absurd hm120 (Nat.not_lt_zero _)
            | succ n120 ih120 =>
              intro Mq120 v8 v9 hQ120 kp120_57 kp120_55 g120_9a g120_9b g120i0 g120i1 g120i2 hm120
              refine vc_iload dX12_goTurn_120 rfl ?_
              refine vc_if_ne dX12_goTurn_122 (fun h372 => ?_) (fun h372 => ?_)
              · refine vc_iload_n dX12_goTurn_200 rfl ?_
                refine vc_iconst dX12_goTurn_201 rfl ?_
                refine vc_icmp_eq dX12_goTurn_202 (fun h373 => by exfalso; omega) (fun h373 => ?_)
                refine vc_aload_n dX12_goTurn_205 rfl ?_
                refine vc_iload dX12_goTurn_206 rfl ?_
                refine vc_iload_n dX12_goTurn_208 rfl ?_
                refine vc_cVI dX12_goTurn_209 (sfX12_isCounted (M := Mq120) hQ120.1  x371 s (by omega) (by omega)) rfl okX12_isCounted viX12_isCounted lkX12_352 (s_54 hQ120.1.1) cl_12 rfl (Nat.le_of_ble_eq_true rfl) ⟨rfl, rfl⟩ (Nat.le_of_ble_eq_true rfl) (Nat.le_of_ble_eq_true rfl) (Nat.le_of_ble_eq_true rfl) ?_
                rintro x374 _ ⟨rfl, h375, h376⟩
                refine vc_if_ne dX12_goTurn_212 (fun h377 => ?_) (fun h377 => ?_)
                · refine vc_aload_n dX12_goTurn_217 rfl ?_
                  refine vc_iload dX12_goTurn_218 rfl ?_
                  refine vc_putI dX12_goTurn_220 (plX12_324 _ rfl) (s_54 hQ120.1.1) rfl ?_
                  have kp378 : mI (sI Mq120 54 25 x371) 57 = mI M 57 := (kp_sI kp120_57 rfl)
                  have kp379 : mI (sI Mq120 54 25 x371) 55 = mI M 55 := (kp_sI kp120_55 rfl)
                  have hB380 : BF fS M (sI Mq120 54 25 x371) := BF.w54_25 hQ120 rfl (by omega) (by omega)
                  refine vc_iconst dX12_goTurn_223 rfl ?_
                  refine vc_zret dX12_goTurn_224 rfl (by first | decide | omega) (Nat.le_of_ble_eq_true rfl) (Nat.le_of_ble_eq_true rfl) ?_
                  have k381 : mI (sI Mq120 54 25 x371) 54 27 = mI Mq120 54 27 := rfl
                  have k382 : mI (sI Mq120 54 25 x371) 54 32 = mI Mq120 54 32 := rfl
                  exact ⟨_, rfl, hB380, kp379, kp378, by omega, by omega, by omega⟩
                · refine vc_iconst dX12_goTurn_215 rfl ?_
                  refine vc_zret dX12_goTurn_216 rfl (by first | decide | omega) (Nat.le_of_ble_eq_true rfl) (Nat.le_of_ble_eq_true rfl) ?_
                  exact ⟨_, rfl, hQ120, kp120_55, kp120_57, by omega, by omega, by omega⟩
              · refine vc_aload_n dX12_goTurn_125 rfl ?_
                refine vc_cVI dX12_goTurn_126 (sfX12_goOn (M := Mq120) hQ120.1   ) rfl okX12_goOn viX12_goOn lkX12_348 (s_54 hQ120.1.1) cl_12 rfl (Nat.le_of_ble_eq_true rfl) ⟨rfl, rfl⟩ (Nat.le_of_ble_eq_true rfl) (Nat.le_of_ble_eq_true rfl) (Nat.le_of_ble_eq_true rfl) ?_
                rintro x383 M384 ⟨hB385, kp386, kp387, h388, h389, h390, h391⟩
                have hB392 : BF fS M M384 := BF.go hQ120 hB385
                have kp393 : mI M384 57 = mI M 57 := kp_go kp120_57 kp387
                have kp394 : mI M384 55 = mI M 55 := kp_go kp120_55 kp386
                have kz := b54_27 (M := M384) hB392.1
                refine vc_if_ne dX12_goTurn_129 (fun h395 => ?_) (fun h395 => ?_)
                · refine vc_iload dX12_goTurn_134 rfl ?_
                  refine vc_if_ne dX12_goTurn_136 (fun h396 => ?_) (fun h396 => by exfalso; omega)
                  refine vc_iload dX12_goTurn_157 rfl ?_
                  refine vc_if_eq dX12_goTurn_159 (fun h397 => by exfalso; omega) (fun h397 => ?_)
                  refine vc_aload_n dX12_goTurn_162 rfl ?_
                  refine vc_aload_n dX12_goTurn_163 rfl ?_
                  refine vc_getI dX12_goTurn_164 flX12_321 (s_54 hB392.1.1) rfl ?_
                  have k398 : 0 ≤ mI M384 54 24 ∧ mI M384 54 24 ≤ 15 := b54_24 (M := M384) hB392.1
                  refine vc_cVI dX12_goTurn_167 (sfX12_sightOf (M := M384) hB392.1  (mI M384 54 24) (by omega) (by omega)) rfl okX12_sightOf viX12_sightOf lkX12_318 (s_54 hB392.1.1) cl_12 rfl (Nat.le_of_ble_eq_true rfl) ⟨rfl, rfl⟩ (Nat.le_of_ble_eq_true rfl) (Nat.le_of_ble_eq_true rfl) (Nat.le_of_ble_eq_true rfl) ?_
                  rintro x399 _ rfl
                  refine vc_iload dX12_goTurn_170 rfl ?_
                  refine vc_icmp_ne dX12_goTurn_172 (fun h400 => ?_) (fun h400 => ?_)
                  · refine vc_iconst dX12_goTurn_179 rfl ?_
                    refine vc_goto dX12_goTurn_180 ?_
                    refine vc_istore dX12_goTurn_195 (by decide) rfl (show _ = [some (aR 54), none, some (aI s), some (aI x1), some (aI x2), some (aI 1), none, some (aI x371), some (aI v8), some (aI 0)] from rfl) ?_
                    refine vc_goto dX12_goTurn_197 ?_
                    exact ih120 M384 v8 0 hB392 kp393 kp394 (by omega) (by omega) (by omega) (by omega) (by omega) (by omega)
                  · refine vc_iconst dX12_goTurn_175 rfl ?_
                    refine vc_goto dX12_goTurn_176 ?_
                    refine vc_istore dX12_goTurn_195 (by decide) rfl (show _ = [some (aR 54), none, some (aI s), some (aI x1), some (aI x2), some (aI 1), none, some (aI x371), some (aI v8), some (aI 1)] from rfl) ?_
                    refine vc_goto dX12_goTurn_197 ?_
                    exact ih120 M384 v8 1 hB392 kp393 kp394 (by omega) (by omega) (by omega) (by omega) (by omega) (by omega)
                · refine vc_iconst dX12_goTurn_132 rfl ?_
                  refine vc_zret dX12_goTurn_133 rfl (by first | decide | omega) (Nat.le_of_ble_eq_true rfl) (Nat.le_of_ble_eq_true rfl) ?_
                  exact ⟨_, rfl, hB392, kp394, kp393, by omega, by omega, by omega⟩
          refine vc_less [some (aR 54), none, some (aI s), some (aI x1), some (aI x2), some (aI 1), none, some (aI x371), some (aI 0), some (aI 0)] (lessL_keep (lessL_drop (lessL_keep (lessL_keep (lessL_keep (lessL_keep (lessL_drop (lessL_keep (lessL_keep (lessL_keep (lessL_nil))))))))))) ?_
          exact lp120 _ M 0 0 hB0 rfl rfl (by omega) (by omega) (by omega) (by omega) (by omega) (Nat.lt_succ_self _)
        · refine vc_iconst dX12_goTurn_68 rfl ?_
          refine vc_goto dX12_goTurn_69 ?_
          refine vc_icmp_ne dX12_goTurn_73 (fun h401 => by exfalso; omega) (fun h401 => ?_)
          refine vc_iconst dX12_goTurn_76 rfl ?_
          refine vc_goto dX12_goTurn_77 ?_
          refine vc_istore dX12_goTurn_81 (by decide) rfl (show _ = [some (aR 54), some (aI t), some (aI s), some (aI x1), some (aI x2), some (aI 1), some (aI 1), none, none, none] from rfl) ?_
          refine vc_iload_n dX12_goTurn_83 rfl ?_
          refine vc_iconst dX12_goTurn_84 rfl ?_
          refine vc_icmp_ne dX12_goTurn_85 (fun h402 => ?_) (fun h402 => by exfalso; omega)
          refine vc_aload_n dX12_goTurn_95 rfl ?_
          refine vc_getI dX12_goTurn_96 flX12_324 (s_54 hB0.1.1) rfl ?_
          have k403 : 0 ≤ mI M 54 25 ∧ mI M 54 25 ≤ 3 := b54_25 (M := M) hB0.1
          refine vc_iload dX12_goTurn_99 rfl ?_
          refine vc_if_eq dX12_goTurn_101 (fun h404 => by exfalso; omega) (fun h404 => ?_)
          refine vc_iconst dX12_goTurn_104 rfl ?_
          refine vc_goto dX12_goTurn_105 ?_
          refine vc_iaddE dX12_goTurn_109 (by omega) (by omega) ?_
          refine vc_iconst dX12_goTurn_110 rfl ?_
          refine vc_iremE dX12_goTurn_111 (by omega) (by omega) ?_
          refine vc_nameI (fun x405 ex405 => ?_)
          refine vc_istore dX12_goTurn_112 (by decide) rfl (show _ = [some (aR 54), some (aI t), some (aI s), some (aI x1), some (aI x2), some (aI 1), some (aI 1), some (aI x405), none, none] from rfl) ?_
          refine vc_iconst dX12_goTurn_114 rfl ?_
          refine vc_istore dX12_goTurn_115 (by decide) rfl (show _ = [some (aR 54), some (aI t), some (aI s), some (aI x1), some (aI x2), some (aI 1), some (aI 1), some (aI x405), some (aI 0), none] from rfl) ?_
          refine vc_iconst dX12_goTurn_117 rfl ?_
          refine vc_istore dX12_goTurn_118 (by decide) rfl (show _ = [some (aR 54), some (aI t), some (aI s), some (aI x1), some (aI x2), some (aI 1), some (aI 1), some (aI x405), some (aI 0), some (aI 0)] from rfl) ?_
          have lp120 : ∀ (n120 : Nat) (Mq120 : Mem) (v8 : Int) (v9 : Int), (BF fS M Mq120) → (mI Mq120 57 = mI M 57) → (mI Mq120 55 = mI M 55) → (0 ≤ v9) → (v9 ≤ 1) → (mI Mq120 54 32 = mI M 54 32) → (0 ≤ mI Mq120 54 27) → (mI Mq120 54 27 ≤ 40) → (40 - mI Mq120 54 27).toNat < n120 → VC l mdX12_goTurn 120 [some (aR 54), none, some (aI s), some (aI x1), some (aI x2), some (aI 1), none, some (aI x405), some (aI v8), some (aI v9)] [] Mq120 0 0 (fun q N => ∃ r : Int, q = some (aI r) ∧ BF fS M N ∧ mI N 55 = mI M 55 ∧ mI N 57 = mI M 57 ∧ 0 ≤ r ∧ r ≤ 1 ∧ mI N 54 32 = mI M 54 32) := by
            intro n120
            induction n120 with
            | zero => intro Mq120 v8 v9 hQ120 kp120_57 kp120_55 g120_9a g120_9b g120i0 g120i1 g120i2 hm120; exact absurd hm120 (Nat.not_lt_zero _)
            | succ n120 ih120 =>
              intro Mq120 v8 v9 hQ120 kp120_57 kp120_55 g120_9a g120_9b g120i0 g120i1 g120i2 hm120
              refine vc_iload dX12_goTurn_120 rfl ?_
              refine vc_if_ne dX12_goTurn_122 (fun h406 => ?_) (fun h406 => ?_)
              · refine vc_iload_n dX12_goTurn_200 rfl ?_
                refine vc_iconst dX12_goTurn_201 rfl ?_
                refine vc_icmp_eq dX12_goTurn_202 (fun h407 => by exfalso; omega) (fun h407 => ?_)
                refine vc_aload_n dX12_goTurn_205 rfl ?_
                refine vc_iload dX12_goTurn_206 rfl ?_
                refine vc_iload_n dX12_goTurn_208 rfl ?_
                refine vc_cVI dX12_goTurn_209 (sfX12_isCounted (M := Mq120) hQ120.1  x405 s (by omega) (by omega)) rfl okX12_isCounted viX12_isCounted lkX12_352 (s_54 hQ120.1.1) cl_12 rfl (Nat.le_of_ble_eq_true rfl) ⟨rfl, rfl⟩ (Nat.le_of_ble_eq_true rfl) (Nat.le_of_ble_eq_true rfl) (Nat.le_of_ble_eq_true rfl) ?_
                rintro x408 _ ⟨rfl, h409, h410⟩
                refine vc_if_ne dX12_goTurn_212 (fun h411 => ?_) (fun h411 => ?_)
                · refine vc_aload_n dX12_goTurn_217 rfl ?_
                  refine vc_iload dX12_goTurn_218 rfl ?_
                  refine vc_putI dX12_goTurn_220 (plX12_324 _ rfl) (s_54 hQ120.1.1) rfl ?_
                  have kp412 : mI (sI Mq120 54 25 x405) 57 = mI M 57 := (kp_sI kp120_57 rfl)
                  have kp413 : mI (sI Mq120 54 25 x405) 55 = mI M 55 := (kp_sI kp120_55 rfl)
                  have hB414 : BF fS M (sI Mq120 54 25 x405) := BF.w54_25 hQ120 rfl (by omega) (by omega)
                  refine vc_iconst dX12_goTurn_223 rfl ?_
                  refine vc_zret dX12_goTurn_224 rfl (by first | decide | omega) (Nat.le_of_ble_eq_true rfl) (Nat.le_of_ble_eq_true rfl) ?_
                  have k415 : mI (sI Mq120 54 25 x405) 54 27 = mI Mq120 54 27 := rfl
                  have k416 : mI (sI Mq120 54 25 x405) 54 32 = mI Mq120 54 32 := rfl
                  exact ⟨_, rfl, hB414, kp413, kp412, by omega, by omega, by omega⟩
                · refine vc_iconst dX12_goTurn_215 rfl ?_
                  refine vc_zret dX12_goTurn_216 rfl (by first | decide | omega) (Nat.le_of_ble_eq_true rfl) (Nat.le_of_ble_eq_true rfl) ?_
                  exact ⟨_, rfl, hQ120, kp120_55, kp120_57, by omega, by omega, by omega⟩
              · refine vc_aload_n dX12_goTurn_125 rfl ?_
                refine vc_cVI dX12_goTurn_126 (sfX12_goOn (M := Mq120) hQ120.1   ) rfl okX12_goOn viX12_goOn lkX12_348 (s_54 hQ120.1.1) cl_12 rfl (Nat.le_of_ble_eq_true rfl) ⟨rfl, rfl⟩ (Nat.le_of_ble_eq_true rfl) (Nat.le_of_ble_eq_true rfl) (Nat.le_of_ble_eq_true rfl) ?_
                rintro x417 M418 ⟨hB419, kp420, kp421, h422, h423, h424, h425⟩
                have hB426 : BF fS M M418 := BF.go hQ120 hB419
                have kp427 : mI M418 57 = mI M 57 := kp_go kp120_57 kp421
                have kp428 : mI M418 55 = mI M 55 := kp_go kp120_55 kp420
                have kz := b54_27 (M := M418) hB426.1
                refine vc_if_ne dX12_goTurn_129 (fun h429 => ?_) (fun h429 => ?_)
                · refine vc_iload dX12_goTurn_134 rfl ?_
                  refine vc_if_ne dX12_goTurn_136 (fun h430 => ?_) (fun h430 => by exfalso; omega)
                  refine vc_iload dX12_goTurn_157 rfl ?_
                  refine vc_if_eq dX12_goTurn_159 (fun h431 => by exfalso; omega) (fun h431 => ?_)
                  refine vc_aload_n dX12_goTurn_162 rfl ?_
                  refine vc_aload_n dX12_goTurn_163 rfl ?_
                  refine vc_getI dX12_goTurn_164 flX12_321 (s_54 hB426.1.1) rfl ?_
                  have k432 : 0 ≤ mI M418 54 24 ∧ mI M418 54 24 ≤ 15 := b54_24 (M := M418) hB426.1
                  refine vc_cVI dX12_goTurn_167 (sfX12_sightOf (M := M418) hB426.1  (mI M418 54 24) (by omega) (by omega)) rfl okX12_sightOf viX12_sightOf lkX12_318 (s_54 hB426.1.1) cl_12 rfl (Nat.le_of_ble_eq_true rfl) ⟨rfl, rfl⟩ (Nat.le_of_ble_eq_true rfl) (Nat.le_of_ble_eq_true rfl) (Nat.le_of_ble_eq_true rfl) ?_
                  rintro x433 _ rfl
                  refine vc_iload dX12_goTurn_170 rfl ?_
                  refine vc_icmp_ne dX12_goTurn_172 (fun h434 => ?_) (fun h434 => ?_)
                  · refine vc_iconst dX12_goTurn_179 rfl ?_
                    refine vc_goto dX12_goTurn_180 ?_
                    refine vc_istore dX12_goTurn_195 (by decide) rfl (show _ = [some (aR 54), none, some (aI s), some (aI x1), some (aI x2), some (aI 1), none, some (aI x405), some (aI v8), some (aI 0)] from rfl) ?_
                    refine vc_goto dX12_goTurn_197 ?_
                    exact ih120 M418 v8 0 hB426 kp427 kp428 (by omega) (by omega) (by omega) (by omega) (by omega) (by omega)
                  · refine vc_iconst dX12_goTurn_175 rfl ?_
                    refine vc_goto dX12_goTurn_176 ?_
                    refine vc_istore dX12_goTurn_195 (by decide) rfl (show _ = [some (aR 54), none, some (aI s), some (aI x1), some (aI x2), some (aI 1), none, some (aI x405), some (aI v8), some (aI 1)] from rfl) ?_
                    refine vc_goto dX12_goTurn_197 ?_
                    exact ih120 M418 v8 1 hB426 kp427 kp428 (by omega) (by omega) (by omega) (by omega) (by omega) (by omega)
                · refine vc_iconst dX12_goTurn_132 rfl ?_
                  refine vc_zret dX12_goTurn_133 rfl (by first | decide | omega) (Nat.le_of_ble_eq_true rfl) (Nat.le_of_ble_eq_true rfl) ?_
                  exact ⟨_, rfl, hB426, kp428, kp427, by omega, by omega, by omega⟩
          refine vc_less [some (aR 54), none, some (aI s), some (aI x1), some (aI x2), some (aI 1), none, some (aI x405), some (aI 0), some (aI 0)] (lessL_keep (lessL_drop (lessL_keep (lessL_keep (lessL_keep (lessL_keep (lessL_drop (lessL_keep (lessL_keep (lessL_keep (lessL_nil))))))))))) ?_
          exact lp120 _ M 0 0 hB0 rfl rfl (by omega) (by omega) (by omega) (by omega) (by omega) (Nat.lt_succ_self _)
    · refine vc_iload dX12_goTurn_40 rfl ?_
      refine vc_iconst dX12_goTurn_42 rfl ?_
      refine vc_icmp_ge dX12_goTurn_43 (fun h435 => ?_) (fun h435 => ?_)
      · refine vc_iload_n dX12_goTurn_52 rfl ?_
        refine vc_iconst dX12_goTurn_53 rfl ?_
        refine vc_icmp_ne dX12_goTurn_54 (fun h436 => ?_) (fun h436 => ?_)
        · refine vc_iconst dX12_goTurn_61 rfl ?_
          refine vc_iload_n dX12_goTurn_62 rfl ?_
          refine vc_iconst dX12_goTurn_63 rfl ?_
          refine vc_iandM dX12_goTurn_64 2 1 rfl (by decide) rfl ?_
          refine vc_if_ne dX12_goTurn_65 (fun h437 => ?_) (fun h437 => ?_)
          · refine vc_iconst dX12_goTurn_72 rfl ?_
            refine vc_icmp_ne dX12_goTurn_73 (fun h438 => by exfalso; omega) (fun h438 => ?_)
            refine vc_iconst dX12_goTurn_76 rfl ?_
            refine vc_goto dX12_goTurn_77 ?_
            refine vc_istore dX12_goTurn_81 (by decide) rfl (show _ = [some (aR 54), some (aI t), some (aI s), some (aI x1), some (aI x2), some (aI 1), some (aI 1), none, none, none] from rfl) ?_
            refine vc_iload_n dX12_goTurn_83 rfl ?_
            refine vc_iconst dX12_goTurn_84 rfl ?_
            refine vc_icmp_ne dX12_goTurn_85 (fun h439 => ?_) (fun h439 => ?_)
            · refine vc_aload_n dX12_goTurn_95 rfl ?_
              refine vc_getI dX12_goTurn_96 flX12_324 (s_54 hB0.1.1) rfl ?_
              have k440 : 0 ≤ mI M 54 25 ∧ mI M 54 25 ≤ 3 := b54_25 (M := M) hB0.1
              refine vc_iload dX12_goTurn_99 rfl ?_
              refine vc_if_eq dX12_goTurn_101 (fun h441 => by exfalso; omega) (fun h441 => ?_)
              refine vc_iconst dX12_goTurn_104 rfl ?_
              refine vc_goto dX12_goTurn_105 ?_
              refine vc_iaddE dX12_goTurn_109 (by omega) (by omega) ?_
              refine vc_iconst dX12_goTurn_110 rfl ?_
              refine vc_iremE dX12_goTurn_111 (by omega) (by omega) ?_
              refine vc_nameI (fun x442 ex442 => ?_)
              refine vc_istore dX12_goTurn_112 (by decide) rfl (show _ = [some (aR 54), some (aI t), some (aI s), some (aI x1), some (aI x2), some (aI 1), some (aI 1), some (aI x442), none, none] from rfl) ?_
              refine vc_iconst dX12_goTurn_114 rfl ?_
              refine vc_istore dX12_goTurn_115 (by decide) rfl (show _ = [some (aR 54), some (aI t), some (aI s), some (aI x1), some (aI x2), some (aI 1), some (aI 1), some (aI x442), some (aI 0), none] from rfl) ?_
              refine vc_iconst dX12_goTurn_117 rfl ?_
              refine vc_istore dX12_goTurn_118 (by decide) rfl (show _ = [some (aR 54), some (aI t), some (aI s), some (aI x1), some (aI x2), some (aI 1), some (aI 1), some (aI x442), some (aI 0), some (aI 0)] from rfl) ?_
              have lp120 : ∀ (n120 : Nat) (Mq120 : Mem) (v8 : Int) (v9 : Int), (BF fS M Mq120) → (mI Mq120 57 = mI M 57) → (mI Mq120 55 = mI M 55) → (0 ≤ v9) → (v9 ≤ 1) → (mI Mq120 54 32 = mI M 54 32) → (0 ≤ mI Mq120 54 27) → (mI Mq120 54 27 ≤ 40) → (40 - mI Mq120 54 27).toNat < n120 → VC l mdX12_goTurn 120 [some (aR 54), none, some (aI s), some (aI x1), some (aI x2), some (aI 1), none, some (aI x442), some (aI v8), some (aI v9)] [] Mq120 0 0 (fun q N => ∃ r : Int, q = some (aI r) ∧ BF fS M N ∧ mI N 55 = mI M 55 ∧ mI N 57 = mI M 57 ∧ 0 ≤ r ∧ r ≤ 1 ∧ mI N 54 32 = mI M 54 32) := by
                intro n120
                induction n120 with
                | zero => intro Mq120 v8 v9 hQ120 kp120_57 kp120_55 g120_9a g120_9b g120i0 g120i1 g120i2 hm120; exact absurd hm120 (Nat.not_lt_zero _)
                | succ n120 ih120 =>
                  intro Mq120 v8 v9 hQ120 kp120_57 kp120_55 g120_9a g120_9b g120i0 g120i1 g120i2 hm120
                  refine vc_iload dX12_goTurn_120 rfl ?_
                  refine vc_if_ne dX12_goTurn_122 (fun h443 => ?_) (fun h443 => ?_)
                  · refine vc_iload_n dX12_goTurn_200 rfl ?_
                    refine vc_iconst dX12_goTurn_201 rfl ?_
                    refine vc_icmp_eq dX12_goTurn_202 (fun h444 => ?_) (fun h444 => ?_)
                    · refine vc_aload_n dX12_goTurn_217 rfl ?_
                      refine vc_iload dX12_goTurn_218 rfl ?_
                      refine vc_putI dX12_goTurn_220 (plX12_324 _ rfl) (s_54 hQ120.1.1) rfl ?_
                      have kp445 : mI (sI Mq120 54 25 x442) 57 = mI M 57 := (kp_sI kp120_57 rfl)
                      have kp446 : mI (sI Mq120 54 25 x442) 55 = mI M 55 := (kp_sI kp120_55 rfl)
                      have hB447 : BF fS M (sI Mq120 54 25 x442) := BF.w54_25 hQ120 rfl (by omega) (by omega)
                      refine vc_iconst dX12_goTurn_223 rfl ?_
                      refine vc_zret dX12_goTurn_224 rfl (by first | decide | omega) (Nat.le_of_ble_eq_true rfl) (Nat.le_of_ble_eq_true rfl) ?_
                      have k448 : mI (sI Mq120 54 25 x442) 54 27 = mI Mq120 54 27 := rfl
                      have k449 : mI (sI Mq120 54 25 x442) 54 32 = mI Mq120 54 32 := rfl
                      exact ⟨_, rfl, hB447, kp446, kp445, by omega, by omega, by omega⟩
                    · refine vc_aload_n dX12_goTurn_205 rfl ?_
                      refine vc_iload dX12_goTurn_206 rfl ?_
                      refine vc_iload_n dX12_goTurn_208 rfl ?_
                      refine vc_cVI dX12_goTurn_209 (sfX12_isCounted (M := Mq120) hQ120.1  x442 s (by omega) (by omega)) rfl okX12_isCounted viX12_isCounted lkX12_352 (s_54 hQ120.1.1) cl_12 rfl (Nat.le_of_ble_eq_true rfl) ⟨rfl, rfl⟩ (Nat.le_of_ble_eq_true rfl) (Nat.le_of_ble_eq_true rfl) (Nat.le_of_ble_eq_true rfl) ?_
                      rintro x450 _ ⟨rfl, h451, h452⟩
                      refine vc_if_ne dX12_goTurn_212 (fun h453 => ?_) (fun h453 => ?_)
                      · refine vc_aload_n dX12_goTurn_217 rfl ?_
                        refine vc_iload dX12_goTurn_218 rfl ?_
                        refine vc_putI dX12_goTurn_220 (plX12_324 _ rfl) (s_54 hQ120.1.1) rfl ?_
                        have kp454 : mI (sI Mq120 54 25 x442) 57 = mI M 57 := (kp_sI kp120_57 rfl)
                        have kp455 : mI (sI Mq120 54 25 x442) 55 = mI M 55 := (kp_sI kp120_55 rfl)
                        have hB456 : BF fS M (sI Mq120 54 25 x442) := BF.w54_25 hQ120 rfl (by omega) (by omega)
                        refine vc_iconst dX12_goTurn_223 rfl ?_
                        refine vc_zret dX12_goTurn_224 rfl (by first | decide | omega) (Nat.le_of_ble_eq_true rfl) (Nat.le_of_ble_eq_true rfl) ?_
                        have k457 : mI (sI Mq120 54 25 x442) 54 27 = mI Mq120 54 27 := rfl
                        have k458 : mI (sI Mq120 54 25 x442) 54 32 = mI Mq120 54 32 := rfl
                        exact ⟨_, rfl, hB456, kp455, kp454, by omega, by omega, by omega⟩
                      · refine vc_iconst dX12_goTurn_215 rfl ?_
                        refine vc_zret dX12_goTurn_216 rfl (by first | decide | omega) (Nat.le_of_ble_eq_true rfl) (Nat.le_of_ble_eq_true rfl) ?_
                        exact ⟨_, rfl, hQ120, kp120_55, kp120_57, by omega, by omega, by omega⟩
                  · refine vc_aload_n dX12_goTurn_125 rfl ?_
                    refine vc_cVI dX12_goTurn_126 (sfX12_goOn (M := Mq120) hQ120.1   ) rfl okX12_goOn viX12_goOn lkX12_348 (s_54 hQ120.1.1) cl_12 rfl (Nat.le_of_ble_eq_true rfl) ⟨rfl, rfl⟩ (Nat.le_of_ble_eq_true rfl) (Nat.le_of_ble_eq_true rfl) (Nat.le_of_ble_eq_true rfl) ?_
                    rintro x459 M460 ⟨hB461, kp462, kp463, h464, h465, h466, h467⟩
                    have hB468 : BF fS M M460 := BF.go hQ120 hB461
                    have kp469 : mI M460 57 = mI M 57 := kp_go kp120_57 kp463
                    have kp470 : mI M460 55 = mI M 55 := kp_go kp120_55 kp462
                    have kz := b54_27 (M := M460) hB468.1
                    refine vc_if_ne dX12_goTurn_129 (fun h471 => ?_) (fun h471 => ?_)
                    · refine vc_iload dX12_goTurn_134 rfl ?_
                      refine vc_if_ne dX12_goTurn_136 (fun h472 => ?_) (fun h472 => by exfalso; omega)
                      refine vc_iload dX12_goTurn_157 rfl ?_
                      refine vc_if_eq dX12_goTurn_159 (fun h473 => by exfalso; omega) (fun h473 => ?_)
                      refine vc_aload_n dX12_goTurn_162 rfl ?_
                      refine vc_aload_n dX12_goTurn_163 rfl ?_
                      refine vc_getI dX12_goTurn_164 flX12_321 (s_54 hB468.1.1) rfl ?_
                      have k474 : 0 ≤ mI M460 54 24 ∧ mI M460 54 24 ≤ 15 := b54_24 (M := M460) hB468.1
                      refine vc_cVI dX12_goTurn_167 (sfX12_sightOf (M := M460) hB468.1  (mI M460 54 24) (by omega) (by omega)) rfl okX12_sightOf viX12_sightOf lkX12_318 (s_54 hB468.1.1) cl_12 rfl (Nat.le_of_ble_eq_true rfl) ⟨rfl, rfl⟩ (Nat.le_of_ble_eq_true rfl) (Nat.le_of_ble_eq_true rfl) (Nat.le_of_ble_eq_true rfl) ?_
                      rintro x475 _ rfl
                      refine vc_iload dX12_goTurn_170 rfl ?_
                      refine vc_icmp_ne dX12_goTurn_172 (fun h476 => ?_) (fun h476 => ?_)
                      · refine vc_iconst dX12_goTurn_179 rfl ?_
                        refine vc_goto dX12_goTurn_180 ?_
                        refine vc_istore dX12_goTurn_195 (by decide) rfl (show _ = [some (aR 54), none, some (aI s), some (aI x1), some (aI x2), some (aI 1), none, some (aI x442), some (aI v8), some (aI 0)] from rfl) ?_
                        refine vc_goto dX12_goTurn_197 ?_
                        exact ih120 M460 v8 0 hB468 kp469 kp470 (by omega) (by omega) (by omega) (by omega) (by omega) (by omega)
                      · refine vc_iconst dX12_goTurn_175 rfl ?_
                        refine vc_goto dX12_goTurn_176 ?_
                        refine vc_istore dX12_goTurn_195 (by decide) rfl (show _ = [some (aR 54), none, some (aI s), some (aI x1), some (aI x2), some (aI 1), none, some (aI x442), some (aI v8), some (aI 1)] from rfl) ?_
                        refine vc_goto dX12_goTurn_197 ?_
                        exact ih120 M460 v8 1 hB468 kp469 kp470 (by omega) (by omega) (by omega) (by omega) (by omega) (by omega)
                    · refine vc_iconst dX12_goTurn_132 rfl ?_
                      refine vc_zret dX12_goTurn_133 rfl (by first | decide | omega) (Nat.le_of_ble_eq_true rfl) (Nat.le_of_ble_eq_true rfl) ?_
                      exact ⟨_, rfl, hB468, kp470, kp469, by omega, by omega, by omega⟩
              refine vc_less [some (aR 54), none, some (aI s), some (aI x1), some (aI x2), some (aI 1), none, some (aI x442), some (aI 0), some (aI 0)] (lessL_keep (lessL_drop (lessL_keep (lessL_keep (lessL_keep (lessL_keep (lessL_drop (lessL_keep (lessL_keep (lessL_keep (lessL_nil))))))))))) ?_
              exact lp120 _ M 0 0 hB0 rfl rfl (by omega) (by omega) (by omega) (by omega) (by omega) (Nat.lt_succ_self _)
            · refine vc_aload_n dX12_goTurn_88 rfl ?_
              refine vc_getI dX12_goTurn_89 flX12_324 (s_54 hB0.1.1) rfl ?_
              have k477 : 0 ≤ mI M 54 25 ∧ mI M 54 25 ≤ 3 := b54_25 (M := M) hB0.1
              refine vc_goto dX12_goTurn_92 ?_
              refine vc_nameI (fun x478 ex478 => ?_)
              refine vc_istore dX12_goTurn_112 (by decide) rfl (show _ = [some (aR 54), some (aI t), some (aI s), some (aI x1), some (aI x2), some (aI 1), some (aI 1), some (aI x478), none, none] from rfl) ?_
              refine vc_iconst dX12_goTurn_114 rfl ?_
              refine vc_istore dX12_goTurn_115 (by decide) rfl (show _ = [some (aR 54), some (aI t), some (aI s), some (aI x1), some (aI x2), some (aI 1), some (aI 1), some (aI x478), some (aI 0), none] from rfl) ?_
              refine vc_iconst dX12_goTurn_117 rfl ?_
              refine vc_istore dX12_goTurn_118 (by decide) rfl (show _ = [some (aR 54), some (aI t), some (aI s), some (aI x1), some (aI x2), some (aI 1), some (aI 1), some (aI x478), some (aI 0), some (aI 0)] from rfl) ?_
              have lp120 : ∀ (n120 : Nat) (Mq120 : Mem) (v8 : Int) (v9 : Int), (BF fS M Mq120) → (mI Mq120 57 = mI M 57) → (mI Mq120 55 = mI M 55) → (0 ≤ v9) → (v9 ≤ 1) → (mI Mq120 54 32 = mI M 54 32) → (0 ≤ mI Mq120 54 27) → (mI Mq120 54 27 ≤ 40) → (40 - mI Mq120 54 27).toNat < n120 → VC l mdX12_goTurn 120 [some (aR 54), none, some (aI s), some (aI x1), some (aI x2), some (aI 1), none, some (aI x478), some (aI v8), some (aI v9)] [] Mq120 0 0 (fun q N => ∃ r : Int, q = some (aI r) ∧ BF fS M N ∧ mI N 55 = mI M 55 ∧ mI N 57 = mI M 57 ∧ 0 ≤ r ∧ r ≤ 1 ∧ mI N 54 32 = mI M 54 32) := by
                intro n120
                induction n120 with
                | zero => intro Mq120 v8 v9 hQ120 kp120_57 kp120_55 g120_9a g120_9b g120i0 g120i1 g120i2 hm120; exact absurd hm120 (Nat.not_lt_zero _)
                | succ n120 ih120 =>
                  intro Mq120 v8 v9 hQ120 kp120_57 kp120_55 g120_9a g120_9b g120i0 g120i1 g120i2 hm120
                  refine vc_iload dX12_goTurn_120 rfl ?_
                  refine vc_if_ne dX12_goTurn_122 (fun h479 => ?_) (fun h479 => ?_)
                  · refine vc_iload_n dX12_goTurn_200 rfl ?_
                    refine vc_iconst dX12_goTurn_201 rfl ?_
                    refine vc_icmp_eq dX12_goTurn_202 (fun h480 => ?_) (fun h480 => by exfalso; omega)
                    refine vc_aload_n dX12_goTurn_217 rfl ?_
                    refine vc_iload dX12_goTurn_218 rfl ?_
                    refine vc_putI dX12_goTurn_220 (plX12_324 _ rfl) (s_54 hQ120.1.1) rfl ?_
                    have kp481 : mI (sI Mq120 54 25 x478) 57 = mI M 57 := (kp_sI kp120_57 rfl)
                    have kp482 : mI (sI Mq120 54 25 x478) 55 = mI M 55 := (kp_sI kp120_55 rfl)
                    have hB483 : BF fS M (sI Mq120 54 25 x478) := BF.w54_25 hQ120 rfl (by omega) (by omega)
                    refine vc_iconst dX12_goTurn_223 rfl ?_
                    refine vc_zret dX12_goTurn_224 rfl (by first | decide | omega) (Nat.le_of_ble_eq_true rfl) (Nat.le_of_ble_eq_true rfl) ?_
                    have k484 : mI (sI Mq120 54 25 x478) 54 27 = mI Mq120 54 27 := rfl
                    have k485 : mI (sI Mq120 54 25 x478) 54 32 = mI Mq120 54 32 := rfl
                    exact ⟨_, rfl, hB483, kp482, kp481, by omega, by omega, by omega⟩
                  · refine vc_aload_n dX12_goTurn_125 rfl ?_
                    refine vc_cVI dX12_goTurn_126 (sfX12_goOn (M := Mq120) hQ120.1   ) rfl okX12_goOn viX12_goOn lkX12_348 (s_54 hQ120.1.1) cl_12 rfl (Nat.le_of_ble_eq_true rfl) ⟨rfl, rfl⟩ (Nat.le_of_ble_eq_true rfl) (Nat.le_of_ble_eq_true rfl) (Nat.le_of_ble_eq_true rfl) ?_
                    rintro x486 M487 ⟨hB488, kp489, kp490, h491, h492, h493, h494⟩
                    have hB495 : BF fS M M487 := BF.go hQ120 hB488
                    have kp496 : mI M487 57 = mI M 57 := kp_go kp120_57 kp490
                    have kp497 : mI M487 55 = mI M 55 := kp_go kp120_55 kp489
                    have kz := b54_27 (M := M487) hB495.1
                    refine vc_if_ne dX12_goTurn_129 (fun h498 => ?_) (fun h498 => ?_)
                    · refine vc_iload dX12_goTurn_134 rfl ?_
                      refine vc_if_ne dX12_goTurn_136 (fun h499 => ?_) (fun h499 => by exfalso; omega)
                      refine vc_iload dX12_goTurn_157 rfl ?_
                      refine vc_if_eq dX12_goTurn_159 (fun h500 => by exfalso; omega) (fun h500 => ?_)
                      refine vc_aload_n dX12_goTurn_162 rfl ?_
                      refine vc_aload_n dX12_goTurn_163 rfl ?_
                      refine vc_getI dX12_goTurn_164 flX12_321 (s_54 hB495.1.1) rfl ?_
                      have k501 : 0 ≤ mI M487 54 24 ∧ mI M487 54 24 ≤ 15 := b54_24 (M := M487) hB495.1
                      refine vc_cVI dX12_goTurn_167 (sfX12_sightOf (M := M487) hB495.1  (mI M487 54 24) (by omega) (by omega)) rfl okX12_sightOf viX12_sightOf lkX12_318 (s_54 hB495.1.1) cl_12 rfl (Nat.le_of_ble_eq_true rfl) ⟨rfl, rfl⟩ (Nat.le_of_ble_eq_true rfl) (Nat.le_of_ble_eq_true rfl) (Nat.le_of_ble_eq_true rfl) ?_
                      rintro x502 _ rfl
                      refine vc_iload dX12_goTurn_170 rfl ?_
                      refine vc_icmp_ne dX12_goTurn_172 (fun h503 => ?_) (fun h503 => ?_)
                      · refine vc_iconst dX12_goTurn_179 rfl ?_
                        refine vc_goto dX12_goTurn_180 ?_
                        refine vc_istore dX12_goTurn_195 (by decide) rfl (show _ = [some (aR 54), none, some (aI s), some (aI x1), some (aI x2), some (aI 1), none, some (aI x478), some (aI v8), some (aI 0)] from rfl) ?_
                        refine vc_goto dX12_goTurn_197 ?_
                        exact ih120 M487 v8 0 hB495 kp496 kp497 (by omega) (by omega) (by omega) (by omega) (by omega) (by omega)
                      · refine vc_iconst dX12_goTurn_175 rfl ?_
                        refine vc_goto dX12_goTurn_176 ?_
                        refine vc_istore dX12_goTurn_195 (by decide) rfl (show _ = [some (aR 54), none, some (aI s), some (aI x1), some (aI x2), some (aI 1), none, some (aI x478), some (aI v8), some (aI 1)] from rfl) ?_
                        refine vc_goto dX12_goTurn_197 ?_
                        exact ih120 M487 v8 1 hB495 kp496 kp497 (by omega) (by omega) (by omega) (by omega) (by omega) (by omega)
                    · refine vc_iconst dX12_goTurn_132 rfl ?_
                      refine vc_zret dX12_goTurn_133 rfl (by first | decide | omega) (Nat.le_of_ble_eq_true rfl) (Nat.le_of_ble_eq_true rfl) ?_
                      exact ⟨_, rfl, hB495, kp497, kp496, by omega, by omega, by omega⟩
              refine vc_less [some (aR 54), none, some (aI s), some (aI x1), some (aI x2), some (aI 1), none, some (aI x478), some (aI 0), some (aI 0)] (lessL_keep (lessL_drop (lessL_keep (lessL_keep (lessL_keep (lessL_keep (lessL_drop (lessL_keep (lessL_keep (lessL_keep (lessL_nil))))))))))) ?_
              exact lp120 _ M 0 0 hB0 rfl rfl (by omega) (by omega) (by omega) (by omega) (by omega) (Nat.lt_succ_self _)
          · refine vc_iconst dX12_goTurn_68 rfl ?_
            refine vc_goto dX12_goTurn_69 ?_
            refine vc_icmp_ne dX12_goTurn_73 (fun h504 => ?_) (fun h504 => by exfalso; omega)
            refine vc_iconst dX12_goTurn_80 rfl ?_
            refine vc_istore dX12_goTurn_81 (by decide) rfl (show _ = [some (aR 54), some (aI t), some (aI s), some (aI x1), some (aI x2), some (aI 1), some (aI 0), none, none, none] from rfl) ?_
            refine vc_iload_n dX12_goTurn_83 rfl ?_
            refine vc_iconst dX12_goTurn_84 rfl ?_
            refine vc_icmp_ne dX12_goTurn_85 (fun h505 => ?_) (fun h505 => ?_)
            · refine vc_aload_n dX12_goTurn_95 rfl ?_
              refine vc_getI dX12_goTurn_96 flX12_324 (s_54 hB0.1.1) rfl ?_
              have k506 : 0 ≤ mI M 54 25 ∧ mI M 54 25 ≤ 3 := b54_25 (M := M) hB0.1
              refine vc_iload dX12_goTurn_99 rfl ?_
              refine vc_if_eq dX12_goTurn_101 (fun h507 => ?_) (fun h507 => by exfalso; omega)
              refine vc_iconst dX12_goTurn_108 rfl ?_
              refine vc_iaddE dX12_goTurn_109 (by omega) (by omega) ?_
              refine vc_iconst dX12_goTurn_110 rfl ?_
              refine vc_iremE dX12_goTurn_111 (by omega) (by omega) ?_
              refine vc_nameI (fun x508 ex508 => ?_)
              refine vc_istore dX12_goTurn_112 (by decide) rfl (show _ = [some (aR 54), some (aI t), some (aI s), some (aI x1), some (aI x2), some (aI 1), some (aI 0), some (aI x508), none, none] from rfl) ?_
              refine vc_iconst dX12_goTurn_114 rfl ?_
              refine vc_istore dX12_goTurn_115 (by decide) rfl (show _ = [some (aR 54), some (aI t), some (aI s), some (aI x1), some (aI x2), some (aI 1), some (aI 0), some (aI x508), some (aI 0), none] from rfl) ?_
              refine vc_iconst dX12_goTurn_117 rfl ?_
              refine vc_istore dX12_goTurn_118 (by decide) rfl (show _ = [some (aR 54), some (aI t), some (aI s), some (aI x1), some (aI x2), some (aI 1), some (aI 0), some (aI x508), some (aI 0), some (aI 0)] from rfl) ?_
              have lp120 : ∀ (n120 : Nat) (Mq120 : Mem) (v8 : Int) (v9 : Int), (BF fS M Mq120) → (mI Mq120 57 = mI M 57) → (mI Mq120 55 = mI M 55) → (0 ≤ v9) → (v9 ≤ 1) → (mI Mq120 54 32 = mI M 54 32) → (0 ≤ mI Mq120 54 27) → (mI Mq120 54 27 ≤ 40) → (40 - mI Mq120 54 27).toNat < n120 → VC l mdX12_goTurn 120 [some (aR 54), none, some (aI s), some (aI x1), some (aI x2), some (aI 1), none, some (aI x508), some (aI v8), some (aI v9)] [] Mq120 0 0 (fun q N => ∃ r : Int, q = some (aI r) ∧ BF fS M N ∧ mI N 55 = mI M 55 ∧ mI N 57 = mI M 57 ∧ 0 ≤ r ∧ r ≤ 1 ∧ mI N 54 32 = mI M 54 32) := by
                intro n120
                induction n120 with
                | zero => intro Mq120 v8 v9 hQ120 kp120_57 kp120_55 g120_9a g120_9b g120i0 g120i1 g120i2 hm120; exact absurd hm120 (Nat.not_lt_zero _)
                | succ n120 ih120 =>
                  intro Mq120 v8 v9 hQ120 kp120_57 kp120_55 g120_9a g120_9b g120i0 g120i1 g120i2 hm120
                  refine vc_iload dX12_goTurn_120 rfl ?_
                  refine vc_if_ne dX12_goTurn_122 (fun h509 => ?_) (fun h509 => ?_)
                  · refine vc_iload_n dX12_goTurn_200 rfl ?_
                    refine vc_iconst dX12_goTurn_201 rfl ?_
                    refine vc_icmp_eq dX12_goTurn_202 (fun h510 => ?_) (fun h510 => ?_)
                    · refine vc_aload_n dX12_goTurn_217 rfl ?_
                      refine vc_iload dX12_goTurn_218 rfl ?_
                      refine vc_putI dX12_goTurn_220 (plX12_324 _ rfl) (s_54 hQ120.1.1) rfl ?_
                      have kp511 : mI (sI Mq120 54 25 x508) 57 = mI M 57 := (kp_sI kp120_57 rfl)
                      have kp512 : mI (sI Mq120 54 25 x508) 55 = mI M 55 := (kp_sI kp120_55 rfl)
                      have hB513 : BF fS M (sI Mq120 54 25 x508) := BF.w54_25 hQ120 rfl (by omega) (by omega)
                      refine vc_iconst dX12_goTurn_223 rfl ?_
                      refine vc_zret dX12_goTurn_224 rfl (by first | decide | omega) (Nat.le_of_ble_eq_true rfl) (Nat.le_of_ble_eq_true rfl) ?_
                      have k514 : mI (sI Mq120 54 25 x508) 54 27 = mI Mq120 54 27 := rfl
                      have k515 : mI (sI Mq120 54 25 x508) 54 32 = mI Mq120 54 32 := rfl
                      exact ⟨_, rfl, hB513, kp512, kp511, by omega, by omega, by omega⟩
                    · refine vc_aload_n dX12_goTurn_205 rfl ?_
                      refine vc_iload dX12_goTurn_206 rfl ?_
                      refine vc_iload_n dX12_goTurn_208 rfl ?_
                      refine vc_cVI dX12_goTurn_209 (sfX12_isCounted (M := Mq120) hQ120.1  x508 s (by omega) (by omega)) rfl okX12_isCounted viX12_isCounted lkX12_352 (s_54 hQ120.1.1) cl_12 rfl (Nat.le_of_ble_eq_true rfl) ⟨rfl, rfl⟩ (Nat.le_of_ble_eq_true rfl) (Nat.le_of_ble_eq_true rfl) (Nat.le_of_ble_eq_true rfl) ?_
                      rintro x516 _ ⟨rfl, h517, h518⟩
                      refine vc_if_ne dX12_goTurn_212 (fun h519 => ?_) (fun h519 => ?_)
                      · refine vc_aload_n dX12_goTurn_217 rfl ?_
                        refine vc_iload dX12_goTurn_218 rfl ?_
                        refine vc_putI dX12_goTurn_220 (plX12_324 _ rfl) (s_54 hQ120.1.1) rfl ?_
                        have kp520 : mI (sI Mq120 54 25 x508) 57 = mI M 57 := (kp_sI kp120_57 rfl)
                        have kp521 : mI (sI Mq120 54 25 x508) 55 = mI M 55 := (kp_sI kp120_55 rfl)
                        have hB522 : BF fS M (sI Mq120 54 25 x508) := BF.w54_25 hQ120 rfl (by omega) (by omega)
                        refine vc_iconst dX12_goTurn_223 rfl ?_
                        refine vc_zret dX12_goTurn_224 rfl (by first | decide | omega) (Nat.le_of_ble_eq_true rfl) (Nat.le_of_ble_eq_true rfl) ?_
                        have k523 : mI (sI Mq120 54 25 x508) 54 27 = mI Mq120 54 27 := rfl
                        have k524 : mI (sI Mq120 54 25 x508) 54 32 = mI Mq120 54 32 := rfl
                        exact ⟨_, rfl, hB522, kp521, kp520, by omega, by omega, by omega⟩
                      · refine vc_iconst dX12_goTurn_215 rfl ?_
                        refine vc_zret dX12_goTurn_216 rfl (by first | decide | omega) (Nat.le_of_ble_eq_true rfl) (Nat.le_of_ble_eq_true rfl) ?_
                        exact ⟨_, rfl, hQ120, kp120_55, kp120_57, by omega, by omega, by omega⟩
                  · refine vc_aload_n dX12_goTurn_125 rfl ?_
                    refine vc_cVI dX12_goTurn_126 (sfX12_goOn (M := Mq120) hQ120.1   ) rfl okX12_goOn viX12_goOn lkX12_348 (s_54 hQ120.1.1) cl_12 rfl (Nat.le_of_ble_eq_true rfl) ⟨rfl, rfl⟩ (Nat.le_of_ble_eq_true rfl) (Nat.le_of_ble_eq_true rfl) (Nat.le_of_ble_eq_true rfl) ?_
                    rintro x525 M526 ⟨hB527, kp528, kp529, h530, h531, h532, h533⟩
                    have hB534 : BF fS M M526 := BF.go hQ120 hB527
                    have kp535 : mI M526 57 = mI M 57 := kp_go kp120_57 kp529
                    have kp536 : mI M526 55 = mI M 55 := kp_go kp120_55 kp528
                    have kz := b54_27 (M := M526) hB534.1
                    refine vc_if_ne dX12_goTurn_129 (fun h537 => ?_) (fun h537 => ?_)
                    · refine vc_iload dX12_goTurn_134 rfl ?_
                      refine vc_if_ne dX12_goTurn_136 (fun h538 => ?_) (fun h538 => by exfalso; omega)
                      refine vc_iload dX12_goTurn_157 rfl ?_
                      refine vc_if_eq dX12_goTurn_159 (fun h539 => by exfalso; omega) (fun h539 => ?_)
                      refine vc_aload_n dX12_goTurn_162 rfl ?_
                      refine vc_aload_n dX12_goTurn_163 rfl ?_
                      refine vc_getI dX12_goTurn_164 flX12_321 (s_54 hB534.1.1) rfl ?_
                      have k540 : 0 ≤ mI M526 54 24 ∧ mI M526 54 24 ≤ 15 := b54_24 (M := M526) hB534.1
                      refine vc_cVI dX12_goTurn_167 (sfX12_sightOf (M := M526) hB534.1  (mI M526 54 24) (by omega) (by omega)) rfl okX12_sightOf viX12_sightOf lkX12_318 (s_54 hB534.1.1) cl_12 rfl (Nat.le_of_ble_eq_true rfl) ⟨rfl, rfl⟩ (Nat.le_of_ble_eq_true rfl) (Nat.le_of_ble_eq_true rfl) (Nat.le_of_ble_eq_true rfl) ?_
                      rintro x541 _ rfl
                      refine vc_iload dX12_goTurn_170 rfl ?_
                      refine vc_icmp_ne dX12_goTurn_172 (fun h542 => ?_) (fun h542 => ?_)
                      · refine vc_iconst dX12_goTurn_179 rfl ?_
                        refine vc_goto dX12_goTurn_180 ?_
                        refine vc_istore dX12_goTurn_195 (by decide) rfl (show _ = [some (aR 54), none, some (aI s), some (aI x1), some (aI x2), some (aI 1), none, some (aI x508), some (aI v8), some (aI 0)] from rfl) ?_
                        refine vc_goto dX12_goTurn_197 ?_
                        exact ih120 M526 v8 0 hB534 kp535 kp536 (by omega) (by omega) (by omega) (by omega) (by omega) (by omega)
                      · refine vc_iconst dX12_goTurn_175 rfl ?_
                        refine vc_goto dX12_goTurn_176 ?_
                        refine vc_istore dX12_goTurn_195 (by decide) rfl (show _ = [some (aR 54), none, some (aI s), some (aI x1), some (aI x2), some (aI 1), none, some (aI x508), some (aI v8), some (aI 1)] from rfl) ?_
                        refine vc_goto dX12_goTurn_197 ?_
                        exact ih120 M526 v8 1 hB534 kp535 kp536 (by omega) (by omega) (by omega) (by omega) (by omega) (by omega)
                    · refine vc_iconst dX12_goTurn_132 rfl ?_
                      refine vc_zret dX12_goTurn_133 rfl (by first | decide | omega) (Nat.le_of_ble_eq_true rfl) (Nat.le_of_ble_eq_true rfl) ?_
                      exact ⟨_, rfl, hB534, kp536, kp535, by omega, by omega, by omega⟩
              refine vc_less [some (aR 54), none, some (aI s), some (aI x1), some (aI x2), some (aI 1), none, some (aI x508), some (aI 0), some (aI 0)] (lessL_keep (lessL_drop (lessL_keep (lessL_keep (lessL_keep (lessL_keep (lessL_drop (lessL_keep (lessL_keep (lessL_keep (lessL_nil))))))))))) ?_
              exact lp120 _ M 0 0 hB0 rfl rfl (by omega) (by omega) (by omega) (by omega) (by omega) (Nat.lt_succ_self _)
            · refine vc_aload_n dX12_goTurn_88 rfl ?_
              refine vc_getI dX12_goTurn_89 flX12_324 (s_54 hB0.1.1) rfl ?_
              have k543 : 0 ≤ mI M 54 25 ∧ mI M 54 25 ≤ 3 := b54_25 (M := M) hB0.1
              refine vc_goto dX12_goTurn_92 ?_
              refine vc_nameI (fun x544 ex544 => ?_)
              refine vc_istore dX12_goTurn_112 (by decide) rfl (show _ = [some (aR 54), some (aI t), some (aI s), some (aI x1), some (aI x2), some (aI 1), some (aI 0), some (aI x544), none, none] from rfl) ?_
              refine vc_iconst dX12_goTurn_114 rfl ?_
              refine vc_istore dX12_goTurn_115 (by decide) rfl (show _ = [some (aR 54), some (aI t), some (aI s), some (aI x1), some (aI x2), some (aI 1), some (aI 0), some (aI x544), some (aI 0), none] from rfl) ?_
              refine vc_iconst dX12_goTurn_117 rfl ?_
              refine vc_istore dX12_goTurn_118 (by decide) rfl (show _ = [some (aR 54), some (aI t), some (aI s), some (aI x1), some (aI x2), some (aI 1), some (aI 0), some (aI x544), some (aI 0), some (aI 0)] from rfl) ?_
              have lp120 : ∀ (n120 : Nat) (Mq120 : Mem) (v8 : Int) (v9 : Int), (BF fS M Mq120) → (mI Mq120 57 = mI M 57) → (mI Mq120 55 = mI M 55) → (0 ≤ v9) → (v9 ≤ 1) → (mI Mq120 54 32 = mI M 54 32) → (0 ≤ mI Mq120 54 27) → (mI Mq120 54 27 ≤ 40) → (40 - mI Mq120 54 27).toNat < n120 → VC l mdX12_goTurn 120 [some (aR 54), none, some (aI s), some (aI x1), some (aI x2), some (aI 1), none, some (aI x544), some (aI v8), some (aI v9)] [] Mq120 0 0 (fun q N => ∃ r : Int, q = some (aI r) ∧ BF fS M N ∧ mI N 55 = mI M 55 ∧ mI N 57 = mI M 57 ∧ 0 ≤ r ∧ r ≤ 1 ∧ mI N 54 32 = mI M 54 32) := by
                intro n120
                induction n120 with
                | zero => intro Mq120 v8 v9 hQ120 kp120_57 kp120_55 g120_9a g120_9b g120i0 g120i1 g120i2 hm120; exact absurd hm120 (Nat.not_lt_zero _)
                | succ n120 ih120 =>
                  intro Mq120 v8 v9 hQ120 kp120_57 kp120_55 g120_9a g120_9b g120i0 g120i1 g120i2 hm120
                  refine vc_iload dX12_goTurn_120 rfl ?_
                  refine vc_if_ne dX12_goTurn_122 (fun h545 => ?_) (fun h545 => ?_)
                  · refine vc_iload_n dX12_goTurn_200 rfl ?_
                    refine vc_iconst dX12_goTurn_201 rfl ?_
                    refine vc_icmp_eq dX12_goTurn_202 (fun h546 => ?_) (fun h546 => by exfalso; omega)
                    refine vc_aload_n dX12_goTurn_217 rfl ?_
                    refine vc_iload dX12_goTurn_218 rfl ?_
                    refine vc_putI dX12_goTurn_220 (plX12_324 _ rfl) (s_54 hQ120.1.1) rfl ?_
                    have kp547 : mI (sI Mq120 54 25 x544) 57 = mI M 57 := (kp_sI kp120_57 rfl)
                    have kp548 : mI (sI Mq120 54 25 x544) 55 = mI M 55 := (kp_sI kp120_55 rfl)
                    have hB549 : BF fS M (sI Mq120 54 25 x544) := BF.w54_25 hQ120 rfl (by omega) (by omega)
                    refine vc_iconst dX12_goTurn_223 rfl ?_
                    refine vc_zret dX12_goTurn_224 rfl (by first | decide | omega) (Nat.le_of_ble_eq_true rfl) (Nat.le_of_ble_eq_true rfl) ?_
                    have k550 : mI (sI Mq120 54 25 x544) 54 27 = mI Mq120 54 27 := rfl
                    have k551 : mI (sI Mq120 54 25 x544) 54 32 = mI Mq120 54 32 := rfl
                    exact ⟨_, rfl, hB549, kp548, kp547, by omega, by omega, by omega⟩
                  · refine vc_aload_n dX12_goTurn_125 rfl ?_
                    refine vc_cVI dX12_goTurn_126 (sfX12_goOn (M := Mq120) hQ120.1   ) rfl okX12_goOn viX12_goOn lkX12_348 (s_54 hQ120.1.1) cl_12 rfl (Nat.le_of_ble_eq_true rfl) ⟨rfl, rfl⟩ (Nat.le_of_ble_eq_true rfl) (Nat.le_of_ble_eq_true rfl) (Nat.le_of_ble_eq_true rfl) ?_
                    rintro x552 M553 ⟨hB554, kp555, kp556, h557, h558, h559, h560⟩
                    have hB561 : BF fS M M553 := BF.go hQ120 hB554
                    have kp562 : mI M553 57 = mI M 57 := kp_go kp120_57 kp556
                    have kp563 : mI M553 55 = mI M 55 := kp_go kp120_55 kp555
                    have kz := b54_27 (M := M553) hB561.1
                    refine vc_if_ne dX12_goTurn_129 (fun h564 => ?_) (fun h564 => ?_)
                    · refine vc_iload dX12_goTurn_134 rfl ?_
                      refine vc_if_ne dX12_goTurn_136 (fun h565 => ?_) (fun h565 => by exfalso; omega)
                      refine vc_iload dX12_goTurn_157 rfl ?_
                      refine vc_if_eq dX12_goTurn_159 (fun h566 => by exfalso; omega) (fun h566 => ?_)
                      refine vc_aload_n dX12_goTurn_162 rfl ?_
                      refine vc_aload_n dX12_goTurn_163 rfl ?_
                      refine vc_getI dX12_goTurn_164 flX12_321 (s_54 hB561.1.1) rfl ?_
                      have k567 : 0 ≤ mI M553 54 24 ∧ mI M553 54 24 ≤ 15 := b54_24 (M := M553) hB561.1
                      refine vc_cVI dX12_goTurn_167 (sfX12_sightOf (M := M553) hB561.1  (mI M553 54 24) (by omega) (by omega)) rfl okX12_sightOf viX12_sightOf lkX12_318 (s_54 hB561.1.1) cl_12 rfl (Nat.le_of_ble_eq_true rfl) ⟨rfl, rfl⟩ (Nat.le_of_ble_eq_true rfl) (Nat.le_of_ble_eq_true rfl) (Nat.le_of_ble_eq_true rfl) ?_
                      rintro x568 _ rfl
                      refine vc_iload dX12_goTurn_170 rfl ?_
                      refine vc_icmp_ne dX12_goTurn_172 (fun h569 => ?_) (fun h569 => ?_)
                      · refine vc_iconst dX12_goTurn_179 rfl ?_
                        refine vc_goto dX12_goTurn_180 ?_
                        refine vc_istore dX12_goTurn_195 (by decide) rfl (show _ = [some (aR 54), none, some (aI s), some (aI x1), some (aI x2), some (aI 1), none, some (aI x544), some (aI v8), some (aI 0)] from rfl) ?_
                        refine vc_goto dX12_goTurn_197 ?_
                        exact ih120 M553 v8 0 hB561 kp562 kp563 (by omega) (by omega) (by omega) (by omega) (by omega) (by omega)
                      · refine vc_iconst dX12_goTurn_175 rfl ?_
                        refine vc_goto dX12_goTurn_176 ?_
                        refine vc_istore dX12_goTurn_195 (by decide) rfl (show _ = [some (aR 54), none, some (aI s), some (aI x1), some (aI x2), some (aI 1), none, some (aI x544), some (aI v8), some (aI 1)] from rfl) ?_
                        refine vc_goto dX12_goTurn_197 ?_
                        exact ih120 M553 v8 1 hB561 kp562 kp563 (by omega) (by omega) (by omega) (by omega) (by omega) (by omega)
                    · refine vc_iconst dX12_goTurn_132 rfl ?_
                      refine vc_zret dX12_goTurn_133 rfl (by first | decide | omega) (Nat.le_of_ble_eq_true rfl) (Nat.le_of_ble_eq_true rfl) ?_
                      exact ⟨_, rfl, hB561, kp563, kp562, by omega, by omega, by omega⟩
              refine vc_less [some (aR 54), none, some (aI s), some (aI x1), some (aI x2), some (aI 1), none, some (aI x544), some (aI 0), some (aI 0)] (lessL_keep (lessL_drop (lessL_keep (lessL_keep (lessL_keep (lessL_keep (lessL_drop (lessL_keep (lessL_keep (lessL_keep (lessL_nil))))))))))) ?_
              exact lp120 _ M 0 0 hB0 rfl rfl (by omega) (by omega) (by omega) (by omega) (by omega) (Nat.lt_succ_self _)
        · refine vc_iconst dX12_goTurn_57 rfl ?_
          refine vc_goto dX12_goTurn_58 ?_
          refine vc_iload_n dX12_goTurn_62 rfl ?_
          refine vc_iconst dX12_goTurn_63 rfl ?_
          refine vc_iandM dX12_goTurn_64 2 1 rfl (by decide) rfl ?_
          refine vc_if_ne dX12_goTurn_65 (fun h570 => ?_) (fun h570 => ?_)
          · refine vc_iconst dX12_goTurn_72 rfl ?_
            refine vc_icmp_ne dX12_goTurn_73 (fun h571 => ?_) (fun h571 => by exfalso; omega)
            refine vc_iconst dX12_goTurn_80 rfl ?_
            refine vc_istore dX12_goTurn_81 (by decide) rfl (show _ = [some (aR 54), some (aI t), some (aI s), some (aI x1), some (aI x2), some (aI 1), some (aI 0), none, none, none] from rfl) ?_
            refine vc_iload_n dX12_goTurn_83 rfl ?_
            refine vc_iconst dX12_goTurn_84 rfl ?_
            refine vc_icmp_ne dX12_goTurn_85 (fun h572 => ?_) (fun h572 => by exfalso; omega)
            refine vc_aload_n dX12_goTurn_95 rfl ?_
            refine vc_getI dX12_goTurn_96 flX12_324 (s_54 hB0.1.1) rfl ?_
            have k573 : 0 ≤ mI M 54 25 ∧ mI M 54 25 ≤ 3 := b54_25 (M := M) hB0.1
            refine vc_iload dX12_goTurn_99 rfl ?_
            refine vc_if_eq dX12_goTurn_101 (fun h574 => ?_) (fun h574 => by exfalso; omega)
            refine vc_iconst dX12_goTurn_108 rfl ?_
            refine vc_iaddE dX12_goTurn_109 (by omega) (by omega) ?_
            refine vc_iconst dX12_goTurn_110 rfl ?_
            refine vc_iremE dX12_goTurn_111 (by omega) (by omega) ?_
            refine vc_nameI (fun x575 ex575 => ?_)
            refine vc_istore dX12_goTurn_112 (by decide) rfl (show _ = [some (aR 54), some (aI t), some (aI s), some (aI x1), some (aI x2), some (aI 1), some (aI 0), some (aI x575), none, none] from rfl) ?_
            refine vc_iconst dX12_goTurn_114 rfl ?_
            refine vc_istore dX12_goTurn_115 (by decide) rfl (show _ = [some (aR 54), some (aI t), some (aI s), some (aI x1), some (aI x2), some (aI 1), some (aI 0), some (aI x575), some (aI 0), none] from rfl) ?_
            refine vc_iconst dX12_goTurn_117 rfl ?_
            refine vc_istore dX12_goTurn_118 (by decide) rfl (show _ = [some (aR 54), some (aI t), some (aI s), some (aI x1), some (aI x2), some (aI 1), some (aI 0), some (aI x575), some (aI 0), some (aI 0)] from rfl) ?_
            have lp120 : ∀ (n120 : Nat) (Mq120 : Mem) (v8 : Int) (v9 : Int), (BF fS M Mq120) → (mI Mq120 57 = mI M 57) → (mI Mq120 55 = mI M 55) → (0 ≤ v9) → (v9 ≤ 1) → (mI Mq120 54 32 = mI M 54 32) → (0 ≤ mI Mq120 54 27) → (mI Mq120 54 27 ≤ 40) → (40 - mI Mq120 54 27).toNat < n120 → VC l mdX12_goTurn 120 [some (aR 54), none, some (aI s), some (aI x1), some (aI x2), some (aI 1), none, some (aI x575), some (aI v8), some (aI v9)] [] Mq120 0 0 (fun q N => ∃ r : Int, q = some (aI r) ∧ BF fS M N ∧ mI N 55 = mI M 55 ∧ mI N 57 = mI M 57 ∧ 0 ≤ r ∧ r ≤ 1 ∧ mI N 54 32 = mI M 54 32) := by
              intro n120
              induction n120 with
              | zero => intro Mq120 v8 v9 hQ120 kp120_57 kp120_55 g120_9a g120_9b g120i0 g120i1 g120i2 hm120; exact absurd hm120 (Nat.not_lt_zero _)
              | succ n120 ih120 =>
                intro Mq120 v8 v9 hQ120 kp120_57 kp120_55 g120_9a g120_9b g120i0 g120i1 g120i2 hm120
                refine vc_iload dX12_goTurn_120 rfl ?_
                refine vc_if_ne dX12_goTurn_122 (fun h576 => ?_) (fun h576 => ?_)
                · refine vc_iload_n dX12_goTurn_200 rfl ?_
                  refine vc_iconst dX12_goTurn_201 rfl ?_
                  refine vc_icmp_eq dX12_goTurn_202 (fun h577 => by exfalso; omega) (fun h577 => ?_)
                  refine vc_aload_n dX12_goTurn_205 rfl ?_
                  refine vc_iload dX12_goTurn_206 rfl ?_
                  refine vc_iload_n dX12_goTurn_208 rfl ?_
                  refine vc_cVI dX12_goTurn_209 (sfX12_isCounted (M := Mq120) hQ120.1  x575 s (by omega) (by omega)) rfl okX12_isCounted viX12_isCounted lkX12_352 (s_54 hQ120.1.1) cl_12 rfl (Nat.le_of_ble_eq_true rfl) ⟨rfl, rfl⟩ (Nat.le_of_ble_eq_true rfl) (Nat.le_of_ble_eq_true rfl) (Nat.le_of_ble_eq_true rfl) ?_
                  rintro x578 _ ⟨rfl, h579, h580⟩
                  refine vc_if_ne dX12_goTurn_212 (fun h581 => ?_) (fun h581 => ?_)
                  · refine vc_aload_n dX12_goTurn_217 rfl ?_
                    refine vc_iload dX12_goTurn_218 rfl ?_
                    refine vc_putI dX12_goTurn_220 (plX12_324 _ rfl) (s_54 hQ120.1.1) rfl ?_
                    have kp582 : mI (sI Mq120 54 25 x575) 57 = mI M 57 := (kp_sI kp120_57 rfl)
                    have kp583 : mI (sI Mq120 54 25 x575) 55 = mI M 55 := (kp_sI kp120_55 rfl)
                    have hB584 : BF fS M (sI Mq120 54 25 x575) := BF.w54_25 hQ120 rfl (by omega) (by omega)
                    refine vc_iconst dX12_goTurn_223 rfl ?_
                    refine vc_zret dX12_goTurn_224 rfl (by first | decide | omega) (Nat.le_of_ble_eq_true rfl) (Nat.le_of_ble_eq_true rfl) ?_
                    have k585 : mI (sI Mq120 54 25 x575) 54 27 = mI Mq120 54 27 := rfl
                    have k586 : mI (sI Mq120 54 25 x575) 54 32 = mI Mq120 54 32 := rfl
                    exact ⟨_, rfl, hB584, kp583, kp582, by omega, by omega, by omega⟩
                  · refine vc_iconst dX12_goTurn_215 rfl ?_
                    refine vc_zret dX12_goTurn_216 rfl (by first | decide | omega) (Nat.le_of_ble_eq_true rfl) (Nat.le_of_ble_eq_true rfl) ?_
                    exact ⟨_, rfl, hQ120, kp120_55, kp120_57, by omega, by omega, by omega⟩
                · refine vc_aload_n dX12_goTurn_125 rfl ?_
                  refine vc_cVI dX12_goTurn_126 (sfX12_goOn (M := Mq120) hQ120.1   ) rfl okX12_goOn viX12_goOn lkX12_348 (s_54 hQ120.1.1) cl_12 rfl (Nat.le_of_ble_eq_true rfl) ⟨rfl, rfl⟩ (Nat.le_of_ble_eq_true rfl) (Nat.le_of_ble_eq_true rfl) (Nat.le_of_ble_eq_true rfl) ?_
                  rintro x587 M588 ⟨hB589, kp590, kp591, h592, h593, h594, h595⟩
                  have hB596 : BF fS M M588 := BF.go hQ120 hB589
                  have kp597 : mI M588 57 = mI M 57 := kp_go kp120_57 kp591
                  have kp598 : mI M588 55 = mI M 55 := kp_go kp120_55 kp590
                  have kz := b54_27 (M := M588) hB596.1
                  refine vc_if_ne dX12_goTurn_129 (fun h599 => ?_) (fun h599 => ?_)
                  · refine vc_iload dX12_goTurn_134 rfl ?_
                    refine vc_if_ne dX12_goTurn_136 (fun h600 => ?_) (fun h600 => by exfalso; omega)
                    refine vc_iload dX12_goTurn_157 rfl ?_
                    refine vc_if_eq dX12_goTurn_159 (fun h601 => by exfalso; omega) (fun h601 => ?_)
                    refine vc_aload_n dX12_goTurn_162 rfl ?_
                    refine vc_aload_n dX12_goTurn_163 rfl ?_
                    refine vc_getI dX12_goTurn_164 flX12_321 (s_54 hB596.1.1) rfl ?_
                    have k602 : 0 ≤ mI M588 54 24 ∧ mI M588 54 24 ≤ 15 := b54_24 (M := M588) hB596.1
                    refine vc_cVI dX12_goTurn_167 (sfX12_sightOf (M := M588) hB596.1  (mI M588 54 24) (by omega) (by omega)) rfl okX12_sightOf viX12_sightOf lkX12_318 (s_54 hB596.1.1) cl_12 rfl (Nat.le_of_ble_eq_true rfl) ⟨rfl, rfl⟩ (Nat.le_of_ble_eq_true rfl) (Nat.le_of_ble_eq_true rfl) (Nat.le_of_ble_eq_true rfl) ?_
                    rintro x603 _ rfl
                    refine vc_iload dX12_goTurn_170 rfl ?_
                    refine vc_icmp_ne dX12_goTurn_172 (fun h604 => ?_) (fun h604 => ?_)
                    · refine vc_iconst dX12_goTurn_179 rfl ?_
                      refine vc_goto dX12_goTurn_180 ?_
                      refine vc_istore dX12_goTurn_195 (by decide) rfl (show _ = [some (aR 54), none, some (aI s), some (aI x1), some (aI x2), some (aI 1), none, some (aI x575), some (aI v8), some (aI 0)] from rfl) ?_
                      refine vc_goto dX12_goTurn_197 ?_
                      exact ih120 M588 v8 0 hB596 kp597 kp598 (by omega) (by omega) (by omega) (by omega) (by omega) (by omega)
                    · refine vc_iconst dX12_goTurn_175 rfl ?_
                      refine vc_goto dX12_goTurn_176 ?_
                      refine vc_istore dX12_goTurn_195 (by decide) rfl (show _ = [some (aR 54), none, some (aI s), some (aI x1), some (aI x2), some (aI 1), none, some (aI x575), some (aI v8), some (aI 1)] from rfl) ?_
                      refine vc_goto dX12_goTurn_197 ?_
                      exact ih120 M588 v8 1 hB596 kp597 kp598 (by omega) (by omega) (by omega) (by omega) (by omega) (by omega)
                  · refine vc_iconst dX12_goTurn_132 rfl ?_
                    refine vc_zret dX12_goTurn_133 rfl (by first | decide | omega) (Nat.le_of_ble_eq_true rfl) (Nat.le_of_ble_eq_true rfl) ?_
                    exact ⟨_, rfl, hB596, kp598, kp597, by omega, by omega, by omega⟩
            refine vc_less [some (aR 54), none, some (aI s), some (aI x1), some (aI x2), some (aI 1), none, some (aI x575), some (aI 0), some (aI 0)] (lessL_keep (lessL_drop (lessL_keep (lessL_keep (lessL_keep (lessL_keep (lessL_drop (lessL_keep (lessL_keep (lessL_keep (lessL_nil))))))))))) ?_
            exact lp120 _ M 0 0 hB0 rfl rfl (by omega) (by omega) (by omega) (by omega) (by omega) (Nat.lt_succ_self _)
          · refine vc_iconst dX12_goTurn_68 rfl ?_
            refine vc_goto dX12_goTurn_69 ?_
            refine vc_icmp_ne dX12_goTurn_73 (fun h605 => by exfalso; omega) (fun h605 => ?_)
            refine vc_iconst dX12_goTurn_76 rfl ?_
            refine vc_goto dX12_goTurn_77 ?_
            refine vc_istore dX12_goTurn_81 (by decide) rfl (show _ = [some (aR 54), some (aI t), some (aI s), some (aI x1), some (aI x2), some (aI 1), some (aI 1), none, none, none] from rfl) ?_
            refine vc_iload_n dX12_goTurn_83 rfl ?_
            refine vc_iconst dX12_goTurn_84 rfl ?_
            refine vc_icmp_ne dX12_goTurn_85 (fun h606 => ?_) (fun h606 => by exfalso; omega)
            refine vc_aload_n dX12_goTurn_95 rfl ?_
            refine vc_getI dX12_goTurn_96 flX12_324 (s_54 hB0.1.1) rfl ?_
            have k607 : 0 ≤ mI M 54 25 ∧ mI M 54 25 ≤ 3 := b54_25 (M := M) hB0.1
            refine vc_iload dX12_goTurn_99 rfl ?_
            refine vc_if_eq dX12_goTurn_101 (fun h608 => by exfalso; omega) (fun h608 => ?_)
            refine vc_iconst dX12_goTurn_104 rfl ?_
            refine vc_goto dX12_goTurn_105 ?_
            refine vc_iaddE dX12_goTurn_109 (by omega) (by omega) ?_
            refine vc_iconst dX12_goTurn_110 rfl ?_
            refine vc_iremE dX12_goTurn_111 (by omega) (by omega) ?_
            refine vc_nameI (fun x609 ex609 => ?_)
            refine vc_istore dX12_goTurn_112 (by decide) rfl (show _ = [some (aR 54), some (aI t), some (aI s), some (aI x1), some (aI x2), some (aI 1), some (aI 1), some (aI x609), none, none] from rfl) ?_
            refine vc_iconst dX12_goTurn_114 rfl ?_
            refine vc_istore dX12_goTurn_115 (by decide) rfl (show _ = [some (aR 54), some (aI t), some (aI s), some (aI x1), some (aI x2), some (aI 1), some (aI 1), some (aI x609), some (aI 0), none] from rfl) ?_
            refine vc_iconst dX12_goTurn_117 rfl ?_
            refine vc_istore dX12_goTurn_118 (by decide) rfl (show _ = [some (aR 54), some (aI t), some (aI s), some (aI x1), some (aI x2), some (aI 1), some (aI 1), some (aI x609), some (aI 0), some (aI 0)] from rfl) ?_
            have lp120 : ∀ (n120 : Nat) (Mq120 : Mem) (v8 : Int) (v9 : Int), (BF fS M Mq120) → (mI Mq120 57 = mI M 57) → (mI Mq120 55 = mI M 55) → (0 ≤ v9) → (v9 ≤ 1) → (mI Mq120 54 32 = mI M 54 32) → (0 ≤ mI Mq120 54 27) → (mI Mq120 54 27 ≤ 40) → (40 - mI Mq120 54 27).toNat < n120 → VC l mdX12_goTurn 120 [some (aR 54), none, some (aI s), some (aI x1), some (aI x2), some (aI 1), none, some (aI x609), some (aI v8), some (aI v9)] [] Mq120 0 0 (fun q N => ∃ r : Int, q = some (aI r) ∧ BF fS M N ∧ mI N 55 = mI M 55 ∧ mI N 57 = mI M 57 ∧ 0 ≤ r ∧ r ≤ 1 ∧ mI N 54 32 = mI M 54 32) := by
              intro n120
              induction n120 with
              | zero => intro Mq120 v8 v9 hQ120 kp120_57 kp120_55 g120_9a g120_9b g120i0 g120i1 g120i2 hm120; exact absurd hm120 (Nat.not_lt_zero _)
              | succ n120 ih120 =>
                intro Mq120 v8 v9 hQ120 kp120_57 kp120_55 g120_9a g120_9b g120i0 g120i1 g120i2 hm120
                refine vc_iload dX12_goTurn_120 rfl ?_
                refine vc_if_ne dX12_goTurn_122 (fun h610 => ?_) (fun h610 => ?_)
                · refine vc_iload_n dX12_goTurn_200 rfl ?_
                  refine vc_iconst dX12_goTurn_201 rfl ?_
                  refine vc_icmp_eq dX12_goTurn_202 (fun h611 => by exfalso; omega) (fun h611 => ?_)
                  refine vc_aload_n dX12_goTurn_205 rfl ?_
                  refine vc_iload dX12_goTurn_206 rfl ?_
                  refine vc_iload_n dX12_goTurn_208 rfl ?_
                  refine vc_cVI dX12_goTurn_209 (sfX12_isCounted (M := Mq120) hQ120.1  x609 s (by omega) (by omega)) rfl okX12_isCounted viX12_isCounted lkX12_352 (s_54 hQ120.1.1) cl_12 rfl (Nat.le_of_ble_eq_true rfl) ⟨rfl, rfl⟩ (Nat.le_of_ble_eq_true rfl) (Nat.le_of_ble_eq_true rfl) (Nat.le_of_ble_eq_true rfl) ?_
                  rintro x612 _ ⟨rfl, h613, h614⟩
                  refine vc_if_ne dX12_goTurn_212 (fun h615 => ?_) (fun h615 => ?_)
                  · refine vc_aload_n dX12_goTurn_217 rfl ?_
                    refine vc_iload dX12_goTurn_218 rfl ?_
                    refine vc_putI dX12_goTurn_220 (plX12_324 _ rfl) (s_54 hQ120.1.1) rfl ?_
                    have kp616 : mI (sI Mq120 54 25 x609) 57 = mI M 57 := (kp_sI kp120_57 rfl)
                    have kp617 : mI (sI Mq120 54 25 x609) 55 = mI M 55 := (kp_sI kp120_55 rfl)
                    have hB618 : BF fS M (sI Mq120 54 25 x609) := BF.w54_25 hQ120 rfl (by omega) (by omega)
                    refine vc_iconst dX12_goTurn_223 rfl ?_
                    refine vc_zret dX12_goTurn_224 rfl (by first | decide | omega) (Nat.le_of_ble_eq_true rfl) (Nat.le_of_ble_eq_true rfl) ?_
                    have k619 : mI (sI Mq120 54 25 x609) 54 27 = mI Mq120 54 27 := rfl
                    have k620 : mI (sI Mq120 54 25 x609) 54 32 = mI Mq120 54 32 := rfl
                    exact ⟨_, rfl, hB618, kp617, kp616, by omega, by omega, by omega⟩
                  · refine vc_iconst dX12_goTurn_215 rfl ?_
                    refine vc_zret dX12_goTurn_216 rfl (by first | decide | omega) (Nat.le_of_ble_eq_true rfl) (Nat.le_of_ble_eq_true rfl) ?_
                    exact ⟨_, rfl, hQ120, kp120_55, kp120_57, by omega, by omega, by omega⟩
                · refine vc_aload_n dX12_goTurn_125 rfl ?_
                  refine vc_cVI dX12_goTurn_126 (sfX12_goOn (M := Mq120) hQ120.1   ) rfl okX12_goOn viX12_goOn lkX12_348 (s_54 hQ120.1.1) cl_12 rfl (Nat.le_of_ble_eq_true rfl) ⟨rfl, rfl⟩ (Nat.le_of_ble_eq_true rfl) (Nat.le_of_ble_eq_true rfl) (Nat.le_of_ble_eq_true rfl) ?_
                  rintro x621 M622 ⟨hB623, kp624, kp625, h626, h627, h628, h629⟩
                  have hB630 : BF fS M M622 := BF.go hQ120 hB623
                  have kp631 : mI M622 57 = mI M 57 := kp_go kp120_57 kp625
                  have kp632 : mI M622 55 = mI M 55 := kp_go kp120_55 kp624
                  have kz := b54_27 (M := M622) hB630.1
                  refine vc_if_ne dX12_goTurn_129 (fun h633 => ?_) (fun h633 => ?_)
                  · refine vc_iload dX12_goTurn_134 rfl ?_
                    refine vc_if_ne dX12_goTurn_136 (fun h634 => ?_) (fun h634 => by exfalso; omega)
                    refine vc_iload dX12_goTurn_157 rfl ?_
                    refine vc_if_eq dX12_goTurn_159 (fun h635 => by exfalso; omega) (fun h635 => ?_)
                    refine vc_aload_n dX12_goTurn_162 rfl ?_
                    refine vc_aload_n dX12_goTurn_163 rfl ?_
                    refine vc_getI dX12_goTurn_164 flX12_321 (s_54 hB630.1.1) rfl ?_
                    have k636 : 0 ≤ mI M622 54 24 ∧ mI M622 54 24 ≤ 15 := b54_24 (M := M622) hB630.1
                    refine vc_cVI dX12_goTurn_167 (sfX12_sightOf (M := M622) hB630.1  (mI M622 54 24) (by omega) (by omega)) rfl okX12_sightOf viX12_sightOf lkX12_318 (s_54 hB630.1.1) cl_12 rfl (Nat.le_of_ble_eq_true rfl) ⟨rfl, rfl⟩ (Nat.le_of_ble_eq_true rfl) (Nat.le_of_ble_eq_true rfl) (Nat.le_of_ble_eq_true rfl) ?_
                    rintro x637 _ rfl
                    refine vc_iload dX12_goTurn_170 rfl ?_
                    refine vc_icmp_ne dX12_goTurn_172 (fun h638 => ?_) (fun h638 => ?_)
                    · refine vc_iconst dX12_goTurn_179 rfl ?_
                      refine vc_goto dX12_goTurn_180 ?_
                      refine vc_istore dX12_goTurn_195 (by decide) rfl (show _ = [some (aR 54), none, some (aI s), some (aI x1), some (aI x2), some (aI 1), none, some (aI x609), some (aI v8), some (aI 0)] from rfl) ?_
                      refine vc_goto dX12_goTurn_197 ?_
                      exact ih120 M622 v8 0 hB630 kp631 kp632 (by omega) (by omega) (by omega) (by omega) (by omega) (by omega)
                    · refine vc_iconst dX12_goTurn_175 rfl ?_
                      refine vc_goto dX12_goTurn_176 ?_
                      refine vc_istore dX12_goTurn_195 (by decide) rfl (show _ = [some (aR 54), none, some (aI s), some (aI x1), some (aI x2), some (aI 1), none, some (aI x609), some (aI v8), some (aI 1)] from rfl) ?_
                      refine vc_goto dX12_goTurn_197 ?_
                      exact ih120 M622 v8 1 hB630 kp631 kp632 (by omega) (by omega) (by omega) (by omega) (by omega) (by omega)
                  · refine vc_iconst dX12_goTurn_132 rfl ?_
                    refine vc_zret dX12_goTurn_133 rfl (by first | decide | omega) (Nat.le_of_ble_eq_true rfl) (Nat.le_of_ble_eq_true rfl) ?_
                    exact ⟨_, rfl, hB630, kp632, kp631, by omega, by omega, by omega⟩
            refine vc_less [some (aR 54), none, some (aI s), some (aI x1), some (aI x2), some (aI 1), none, some (aI x609), some (aI 0), some (aI 0)] (lessL_keep (lessL_drop (lessL_keep (lessL_keep (lessL_keep (lessL_keep (lessL_drop (lessL_keep (lessL_keep (lessL_keep (lessL_nil))))))))))) ?_
            exact lp120 _ M 0 0 hB0 rfl rfl (by omega) (by omega) (by omega) (by omega) (by omega) (Nat.lt_succ_self _)
      · refine vc_iconst dX12_goTurn_46 rfl ?_
        refine vc_iload dX12_goTurn_47 rfl ?_
        refine vc_isub dX12_goTurn_49 ?_
        refine vc_nameI (fun x639 ex639 => ?_)
        refine vc_istore dX12_goTurn_50 (by decide) rfl (show _ = [some (aR 54), some (aI t), some (aI s), some (aI x1), some (aI x639), some (aI 1), none, none, none, none] from rfl) ?_
        refine vc_iload_n dX12_goTurn_52 rfl ?_
        refine vc_iconst dX12_goTurn_53 rfl ?_
        refine vc_icmp_ne dX12_goTurn_54 (fun h640 => ?_) (fun h640 => ?_)
        · refine vc_iconst dX12_goTurn_61 rfl ?_
          refine vc_iload_n dX12_goTurn_62 rfl ?_
          refine vc_iconst dX12_goTurn_63 rfl ?_
          refine vc_iandM dX12_goTurn_64 2 1 rfl (by decide) rfl ?_
          refine vc_if_ne dX12_goTurn_65 (fun h641 => ?_) (fun h641 => ?_)
          · refine vc_iconst dX12_goTurn_72 rfl ?_
            refine vc_icmp_ne dX12_goTurn_73 (fun h642 => by exfalso; omega) (fun h642 => ?_)
            refine vc_iconst dX12_goTurn_76 rfl ?_
            refine vc_goto dX12_goTurn_77 ?_
            refine vc_istore dX12_goTurn_81 (by decide) rfl (show _ = [some (aR 54), some (aI t), some (aI s), some (aI x1), some (aI x639), some (aI 1), some (aI 1), none, none, none] from rfl) ?_
            refine vc_iload_n dX12_goTurn_83 rfl ?_
            refine vc_iconst dX12_goTurn_84 rfl ?_
            refine vc_icmp_ne dX12_goTurn_85 (fun h643 => ?_) (fun h643 => ?_)
            · refine vc_aload_n dX12_goTurn_95 rfl ?_
              refine vc_getI dX12_goTurn_96 flX12_324 (s_54 hB0.1.1) rfl ?_
              have k644 : 0 ≤ mI M 54 25 ∧ mI M 54 25 ≤ 3 := b54_25 (M := M) hB0.1
              refine vc_iload dX12_goTurn_99 rfl ?_
              refine vc_if_eq dX12_goTurn_101 (fun h645 => by exfalso; omega) (fun h645 => ?_)
              refine vc_iconst dX12_goTurn_104 rfl ?_
              refine vc_goto dX12_goTurn_105 ?_
              refine vc_iaddE dX12_goTurn_109 (by omega) (by omega) ?_
              refine vc_iconst dX12_goTurn_110 rfl ?_
              refine vc_iremE dX12_goTurn_111 (by omega) (by omega) ?_
              refine vc_nameI (fun x646 ex646 => ?_)
              refine vc_istore dX12_goTurn_112 (by decide) rfl (show _ = [some (aR 54), some (aI t), some (aI s), some (aI x1), some (aI x639), some (aI 1), some (aI 1), some (aI x646), none, none] from rfl) ?_
              refine vc_iconst dX12_goTurn_114 rfl ?_
              refine vc_istore dX12_goTurn_115 (by decide) rfl (show _ = [some (aR 54), some (aI t), some (aI s), some (aI x1), some (aI x639), some (aI 1), some (aI 1), some (aI x646), some (aI 0), none] from rfl) ?_
              refine vc_iconst dX12_goTurn_117 rfl ?_
              refine vc_istore dX12_goTurn_118 (by decide) rfl (show _ = [some (aR 54), some (aI t), some (aI s), some (aI x1), some (aI x639), some (aI 1), some (aI 1), some (aI x646), some (aI 0), some (aI 0)] from rfl) ?_
              have lp120 : ∀ (n120 : Nat) (Mq120 : Mem) (v8 : Int) (v9 : Int), (BF fS M Mq120) → (mI Mq120 57 = mI M 57) → (mI Mq120 55 = mI M 55) → (0 ≤ v9) → (v9 ≤ 1) → (mI Mq120 54 32 = mI M 54 32) → (0 ≤ mI Mq120 54 27) → (mI Mq120 54 27 ≤ 40) → (40 - mI Mq120 54 27).toNat < n120 → VC l mdX12_goTurn 120 [some (aR 54), none, some (aI s), some (aI x1), some (aI x639), some (aI 1), none, some (aI x646), some (aI v8), some (aI v9)] [] Mq120 0 0 (fun q N => ∃ r : Int, q = some (aI r) ∧ BF fS M N ∧ mI N 55 = mI M 55 ∧ mI N 57 = mI M 57 ∧ 0 ≤ r ∧ r ≤ 1 ∧ mI N 54 32 = mI M 54 32) := by
                intro n120
                induction n120 with
                | zero => intro Mq120 v8 v9 hQ120 kp120_57 kp120_55 g120_9a g120_9b g120i0 g120i1 g120i2 hm120; exact absurd hm120 (Nat.not_lt_zero _)
                | succ n120 ih120 =>
                  intro Mq120 v8 v9 hQ120 kp120_57 kp120_55 g120_9a g120_9b g120i0 g120i1 g120i2 hm120
                  refine vc_iload dX12_goTurn_120 rfl ?_
                  refine vc_if_ne dX12_goTurn_122 (fun h647 => ?_) (fun h647 => ?_)
                  · refine vc_iload_n dX12_goTurn_200 rfl ?_
                    refine vc_iconst dX12_goTurn_201 rfl ?_
                    refine vc_icmp_eq dX12_goTurn_202 (fun h648 => ?_) (fun h648 => ?_)
                    · refine vc_aload_n dX12_goTurn_217 rfl ?_
                      refine vc_iload dX12_goTurn_218 rfl ?_
                      refine vc_putI dX12_goTurn_220 (plX12_324 _ rfl) (s_54 hQ120.1.1) rfl ?_
                      have kp649 : mI (sI Mq120 54 25 x646) 57 = mI M 57 := (kp_sI kp120_57 rfl)
                      have kp650 : mI (sI Mq120 54 25 x646) 55 = mI M 55 := (kp_sI kp120_55 rfl)
                      have hB651 : BF fS M (sI Mq120 54 25 x646) := BF.w54_25 hQ120 rfl (by omega) (by omega)
                      refine vc_iconst dX12_goTurn_223 rfl ?_
                      refine vc_zret dX12_goTurn_224 rfl (by first | decide | omega) (Nat.le_of_ble_eq_true rfl) (Nat.le_of_ble_eq_true rfl) ?_
                      have k652 : mI (sI Mq120 54 25 x646) 54 27 = mI Mq120 54 27 := rfl
                      have k653 : mI (sI Mq120 54 25 x646) 54 32 = mI Mq120 54 32 := rfl
                      exact ⟨_, rfl, hB651, kp650, kp649, by omega, by omega, by omega⟩
                    · refine vc_aload_n dX12_goTurn_205 rfl ?_
                      refine vc_iload dX12_goTurn_206 rfl ?_
                      refine vc_iload_n dX12_goTurn_208 rfl ?_
                      refine vc_cVI dX12_goTurn_209 (sfX12_isCounted (M := Mq120) hQ120.1  x646 s (by omega) (by omega)) rfl okX12_isCounted viX12_isCounted lkX12_352 (s_54 hQ120.1.1) cl_12 rfl (Nat.le_of_ble_eq_true rfl) ⟨rfl, rfl⟩ (Nat.le_of_ble_eq_true rfl) (Nat.le_of_ble_eq_true rfl) (Nat.le_of_ble_eq_true rfl) ?_
                      rintro x654 _ ⟨rfl, h655, h656⟩
                      refine vc_if_ne dX12_goTurn_212 (fun h657 => ?_) (fun h657 => ?_)
                      · refine vc_aload_n dX12_goTurn_217 rfl ?_
                        refine vc_iload dX12_goTurn_218 rfl ?_
                        refine vc_putI dX12_goTurn_220 (plX12_324 _ rfl) (s_54 hQ120.1.1) rfl ?_
                        have kp658 : mI (sI Mq120 54 25 x646) 57 = mI M 57 := (kp_sI kp120_57 rfl)
                        have kp659 : mI (sI Mq120 54 25 x646) 55 = mI M 55 := (kp_sI kp120_55 rfl)
                        have hB660 : BF fS M (sI Mq120 54 25 x646) := BF.w54_25 hQ120 rfl (by omega) (by omega)
                        refine vc_iconst dX12_goTurn_223 rfl ?_
                        refine vc_zret dX12_goTurn_224 rfl (by first | decide | omega) (Nat.le_of_ble_eq_true rfl) (Nat.le_of_ble_eq_true rfl) ?_
                        have k661 : mI (sI Mq120 54 25 x646) 54 27 = mI Mq120 54 27 := rfl
                        have k662 : mI (sI Mq120 54 25 x646) 54 32 = mI Mq120 54 32 := rfl
                        exact ⟨_, rfl, hB660, kp659, kp658, by omega, by omega, by omega⟩
                      · refine vc_iconst dX12_goTurn_215 rfl ?_
                        refine vc_zret dX12_goTurn_216 rfl (by first | decide | omega) (Nat.le_of_ble_eq_true rfl) (Nat.le_of_ble_eq_true rfl) ?_
                        exact ⟨_, rfl, hQ120, kp120_55, kp120_57, by omega, by omega, by omega⟩
                  · refine vc_aload_n dX12_goTurn_125 rfl ?_
                    refine vc_cVI dX12_goTurn_126 (sfX12_goOn (M := Mq120) hQ120.1   ) rfl okX12_goOn viX12_goOn lkX12_348 (s_54 hQ120.1.1) cl_12 rfl (Nat.le_of_ble_eq_true rfl) ⟨rfl, rfl⟩ (Nat.le_of_ble_eq_true rfl) (Nat.le_of_ble_eq_true rfl) (Nat.le_of_ble_eq_true rfl) ?_
                    rintro x663 M664 ⟨hB665, kp666, kp667, h668, h669, h670, h671⟩
                    have hB672 : BF fS M M664 := BF.go hQ120 hB665
                    have kp673 : mI M664 57 = mI M 57 := kp_go kp120_57 kp667
                    have kp674 : mI M664 55 = mI M 55 := kp_go kp120_55 kp666
                    have kz := b54_27 (M := M664) hB672.1
                    refine vc_if_ne dX12_goTurn_129 (fun h675 => ?_) (fun h675 => ?_)
                    · refine vc_iload dX12_goTurn_134 rfl ?_
                      refine vc_if_ne dX12_goTurn_136 (fun h676 => ?_) (fun h676 => by exfalso; omega)
                      refine vc_iload dX12_goTurn_157 rfl ?_
                      refine vc_if_eq dX12_goTurn_159 (fun h677 => by exfalso; omega) (fun h677 => ?_)
                      refine vc_aload_n dX12_goTurn_162 rfl ?_
                      refine vc_aload_n dX12_goTurn_163 rfl ?_
                      refine vc_getI dX12_goTurn_164 flX12_321 (s_54 hB672.1.1) rfl ?_
                      have k678 : 0 ≤ mI M664 54 24 ∧ mI M664 54 24 ≤ 15 := b54_24 (M := M664) hB672.1
                      refine vc_cVI dX12_goTurn_167 (sfX12_sightOf (M := M664) hB672.1  (mI M664 54 24) (by omega) (by omega)) rfl okX12_sightOf viX12_sightOf lkX12_318 (s_54 hB672.1.1) cl_12 rfl (Nat.le_of_ble_eq_true rfl) ⟨rfl, rfl⟩ (Nat.le_of_ble_eq_true rfl) (Nat.le_of_ble_eq_true rfl) (Nat.le_of_ble_eq_true rfl) ?_
                      rintro x679 _ rfl
                      refine vc_iload dX12_goTurn_170 rfl ?_
                      refine vc_icmp_ne dX12_goTurn_172 (fun h680 => ?_) (fun h680 => ?_)
                      · refine vc_iconst dX12_goTurn_179 rfl ?_
                        refine vc_goto dX12_goTurn_180 ?_
                        refine vc_istore dX12_goTurn_195 (by decide) rfl (show _ = [some (aR 54), none, some (aI s), some (aI x1), some (aI x639), some (aI 1), none, some (aI x646), some (aI v8), some (aI 0)] from rfl) ?_
                        refine vc_goto dX12_goTurn_197 ?_
                        exact ih120 M664 v8 0 hB672 kp673 kp674 (by omega) (by omega) (by omega) (by omega) (by omega) (by omega)
                      · refine vc_iconst dX12_goTurn_175 rfl ?_
                        refine vc_goto dX12_goTurn_176 ?_
                        refine vc_istore dX12_goTurn_195 (by decide) rfl (show _ = [some (aR 54), none, some (aI s), some (aI x1), some (aI x639), some (aI 1), none, some (aI x646), some (aI v8), some (aI 1)] from rfl) ?_
                        refine vc_goto dX12_goTurn_197 ?_
                        exact ih120 M664 v8 1 hB672 kp673 kp674 (by omega) (by omega) (by omega) (by omega) (by omega) (by omega)
                    · refine vc_iconst dX12_goTurn_132 rfl ?_
                      refine vc_zret dX12_goTurn_133 rfl (by first | decide | omega) (Nat.le_of_ble_eq_true rfl) (Nat.le_of_ble_eq_true rfl) ?_
                      exact ⟨_, rfl, hB672, kp674, kp673, by omega, by omega, by omega⟩
              refine vc_less [some (aR 54), none, some (aI s), some (aI x1), some (aI x639), some (aI 1), none, some (aI x646), some (aI 0), some (aI 0)] (lessL_keep (lessL_drop (lessL_keep (lessL_keep (lessL_keep (lessL_keep (lessL_drop (lessL_keep (lessL_keep (lessL_keep (lessL_nil))))))))))) ?_
              exact lp120 _ M 0 0 hB0 rfl rfl (by omega) (by omega) (by omega) (by omega) (by omega) (Nat.lt_succ_self _)
            · refine vc_aload_n dX12_goTurn_88 rfl ?_
              refine vc_getI dX12_goTurn_89 flX12_324 (s_54 hB0.1.1) rfl ?_
              have k681 : 0 ≤ mI M 54 25 ∧ mI M 54 25 ≤ 3 := b54_25 (M := M) hB0.1
              refine vc_goto dX12_goTurn_92 ?_
              refine vc_nameI (fun x682 ex682 => ?_)
              refine vc_istore dX12_goTurn_112 (by decide) rfl (show _ = [some (aR 54), some (aI t), some (aI s), some (aI x1), some (aI x639), some (aI 1), some (aI 1), some (aI x682), none, none] from rfl) ?_
              refine vc_iconst dX12_goTurn_114 rfl ?_
              refine vc_istore dX12_goTurn_115 (by decide) rfl (show _ = [some (aR 54), some (aI t), some (aI s), some (aI x1), some (aI x639), some (aI 1), some (aI 1), some (aI x682), some (aI 0), none] from rfl) ?_
              refine vc_iconst dX12_goTurn_117 rfl ?_
              refine vc_istore dX12_goTurn_118 (by decide) rfl (show _ = [some (aR 54), some (aI t), some (aI s), some (aI x1), some (aI x639), some (aI 1), some (aI 1), some (aI x682), some (aI 0), some (aI 0)] from rfl) ?_
              have lp120 : ∀ (n120 : Nat) (Mq120 : Mem) (v8 : Int) (v9 : Int), (BF fS M Mq120) → (mI Mq120 57 = mI M 57) → (mI Mq120 55 = mI M 55) → (0 ≤ v9) → (v9 ≤ 1) → (mI Mq120 54 32 = mI M 54 32) → (0 ≤ mI Mq120 54 27) → (mI Mq120 54 27 ≤ 40) → (40 - mI Mq120 54 27).toNat < n120 → VC l mdX12_goTurn 120 [some (aR 54), none, some (aI s), some (aI x1), some (aI x639), some (aI 1), none, some (aI x682), some (aI v8), some (aI v9)] [] Mq120 0 0 (fun q N => ∃ r : Int, q = some (aI r) ∧ BF fS M N ∧ mI N 55 = mI M 55 ∧ mI N 57 = mI M 57 ∧ 0 ≤ r ∧ r ≤ 1 ∧ mI N 54 32 = mI M 54 32) := by
                intro n120
                induction n120 with
                | zero => intro Mq120 v8 v9 hQ120 kp120_57 kp120_55 g120_9a g120_9b g120i0 g120i1 g120i2 hm120; exact absurd hm120 (Nat.not_lt_zero _)
                | succ n120 ih120 =>
                  intro Mq120 v8 v9 hQ120 kp120_57 kp120_55 g120_9a g120_9b g120i0 g120i1 g120i2 hm120
                  refine vc_iload dX12_goTurn_120 rfl ?_
                  refine vc_if_ne dX12_goTurn_122 (fun h683 => ?_) (fun h683 => ?_)
                  · refine vc_iload_n dX12_goTurn_200 rfl ?_
                    refine vc_iconst dX12_goTurn_201 rfl ?_
                    refine vc_icmp_eq dX12_goTurn_202 (fun h684 => ?_) (fun h684 => by exfalso; omega)
                    refine vc_aload_n dX12_goTurn_217 rfl ?_
                    refine vc_iload dX12_goTurn_218 rfl ?_
                    refine vc_putI dX12_goTurn_220 (plX12_324 _ rfl) (s_54 hQ120.1.1) rfl ?_
                    have kp685 : mI (sI Mq120 54 25 x682) 57 = mI M 57 := (kp_sI kp120_57 rfl)
                    have kp686 : mI (sI Mq120 54 25 x682) 55 = mI M 55 := (kp_sI kp120_55 rfl)
                    have hB687 : BF fS M (sI Mq120 54 25 x682) := BF.w54_25 hQ120 rfl (by omega) (by omega)
                    refine vc_iconst dX12_goTurn_223 rfl ?_
                    refine vc_zret dX12_goTurn_224 rfl (by first | decide | omega) (Nat.le_of_ble_eq_true rfl) (Nat.le_of_ble_eq_true rfl) ?_
                    have k688 : mI (sI Mq120 54 25 x682) 54 27 = mI Mq120 54 27 := rfl
                    have k689 : mI (sI Mq120 54 25 x682) 54 32 = mI Mq120 54 32 := rfl
                    exact ⟨_, rfl, hB687, kp686, kp685, by omega, by omega, by omega⟩
                  · refine vc_aload_n dX12_goTurn_125 rfl ?_
                    refine vc_cVI dX12_goTurn_126 (sfX12_goOn (M := Mq120) hQ120.1   ) rfl okX12_goOn viX12_goOn lkX12_348 (s_54 hQ120.1.1) cl_12 rfl (Nat.le_of_ble_eq_true rfl) ⟨rfl, rfl⟩ (Nat.le_of_ble_eq_true rfl) (Nat.le_of_ble_eq_true rfl) (Nat.le_of_ble_eq_true rfl) ?_
                    rintro x690 M691 ⟨hB692, kp693, kp694, h695, h696, h697, h698⟩
                    have hB699 : BF fS M M691 := BF.go hQ120 hB692
                    have kp700 : mI M691 57 = mI M 57 := kp_go kp120_57 kp694
                    have kp701 : mI M691 55 = mI M 55 := kp_go kp120_55 kp693
                    have kz := b54_27 (M := M691) hB699.1
                    refine vc_if_ne dX12_goTurn_129 (fun h702 => ?_) (fun h702 => ?_)
                    · refine vc_iload dX12_goTurn_134 rfl ?_
                      refine vc_if_ne dX12_goTurn_136 (fun h703 => ?_) (fun h703 => by exfalso; omega)
                      refine vc_iload dX12_goTurn_157 rfl ?_
                      refine vc_if_eq dX12_goTurn_159 (fun h704 => by exfalso; omega) (fun h704 => ?_)
                      refine vc_aload_n dX12_goTurn_162 rfl ?_
                      refine vc_aload_n dX12_goTurn_163 rfl ?_
                      refine vc_getI dX12_goTurn_164 flX12_321 (s_54 hB699.1.1) rfl ?_
                      have k705 : 0 ≤ mI M691 54 24 ∧ mI M691 54 24 ≤ 15 := b54_24 (M := M691) hB699.1
                      refine vc_cVI dX12_goTurn_167 (sfX12_sightOf (M := M691) hB699.1  (mI M691 54 24) (by omega) (by omega)) rfl okX12_sightOf viX12_sightOf lkX12_318 (s_54 hB699.1.1) cl_12 rfl (Nat.le_of_ble_eq_true rfl) ⟨rfl, rfl⟩ (Nat.le_of_ble_eq_true rfl) (Nat.le_of_ble_eq_true rfl) (Nat.le_of_ble_eq_true rfl) ?_
                      rintro x706 _ rfl
                      refine vc_iload dX12_goTurn_170 rfl ?_
                      refine vc_icmp_ne dX12_goTurn_172 (fun h707 => ?_) (fun h707 => ?_)
                      · refine vc_iconst dX12_goTurn_179 rfl ?_
                        refine vc_goto dX12_goTurn_180 ?_
                        refine vc_istore dX12_goTurn_195 (by decide) rfl (show _ = [some (aR 54), none, some (aI s), some (aI x1), some (aI x639), some (aI 1), none, some (aI x682), some (aI v8), some (aI 0)] from rfl) ?_
                        refine vc_goto dX12_goTurn_197 ?_
                        exact ih120 M691 v8 0 hB699 kp700 kp701 (by omega) (by omega) (by omega) (by omega) (by omega) (by omega)
                      · refine vc_iconst dX12_goTurn_175 rfl ?_
                        refine vc_goto dX12_goTurn_176 ?_
                        refine vc_istore dX12_goTurn_195 (by decide) rfl (show _ = [some (aR 54), none, some (aI s), some (aI x1), some (aI x639), some (aI 1), none, some (aI x682), some (aI v8), some (aI 1)] from rfl) ?_
                        refine vc_goto dX12_goTurn_197 ?_
                        exact ih120 M691 v8 1 hB699 kp700 kp701 (by omega) (by omega) (by omega) (by omega) (by omega) (by omega)
                    · refine vc_iconst dX12_goTurn_132 rfl ?_
                      refine vc_zret dX12_goTurn_133 rfl (by first | decide | omega) (Nat.le_of_ble_eq_true rfl) (Nat.le_of_ble_eq_true rfl) ?_
                      exact ⟨_, rfl, hB699, kp701, kp700, by omega, by omega, by omega⟩
              refine vc_less [some (aR 54), none, some (aI s), some (aI x1), some (aI x639), some (aI 1), none, some (aI x682), some (aI 0), some (aI 0)] (lessL_keep (lessL_drop (lessL_keep (lessL_keep (lessL_keep (lessL_keep (lessL_drop (lessL_keep (lessL_keep (lessL_keep (lessL_nil))))))))))) ?_
              exact lp120 _ M 0 0 hB0 rfl rfl (by omega) (by omega) (by omega) (by omega) (by omega) (Nat.lt_succ_self _)
          · refine vc_iconst dX12_goTurn_68 rfl ?_
            refine vc_goto dX12_goTurn_69 ?_
            refine vc_icmp_ne dX12_goTurn_73 (fun h708 => ?_) (fun h708 => by exfalso; omega)
            refine vc_iconst dX12_goTurn_80 rfl ?_
            refine vc_istore dX12_goTurn_81 (by decide) rfl (show _ = [some (aR 54), some (aI t), some (aI s), some (aI x1), some (aI x639), some (aI 1), some (aI 0), none, none, none] from rfl) ?_
            refine vc_iload_n dX12_goTurn_83 rfl ?_
            refine vc_iconst dX12_goTurn_84 rfl ?_
            refine vc_icmp_ne dX12_goTurn_85 (fun h709 => ?_) (fun h709 => ?_)
            · refine vc_aload_n dX12_goTurn_95 rfl ?_
              refine vc_getI dX12_goTurn_96 flX12_324 (s_54 hB0.1.1) rfl ?_
              have k710 : 0 ≤ mI M 54 25 ∧ mI M 54 25 ≤ 3 := b54_25 (M := M) hB0.1
              refine vc_iload dX12_goTurn_99 rfl ?_
              refine vc_if_eq dX12_goTurn_101 (fun h711 => ?_) (fun h711 => by exfalso; omega)
              refine vc_iconst dX12_goTurn_108 rfl ?_
              refine vc_iaddE dX12_goTurn_109 (by omega) (by omega) ?_
              refine vc_iconst dX12_goTurn_110 rfl ?_
              refine vc_iremE dX12_goTurn_111 (by omega) (by omega) ?_
              refine vc_nameI (fun x712 ex712 => ?_)
              refine vc_istore dX12_goTurn_112 (by decide) rfl (show _ = [some (aR 54), some (aI t), some (aI s), some (aI x1), some (aI x639), some (aI 1), some (aI 0), some (aI x712), none, none] from rfl) ?_
              refine vc_iconst dX12_goTurn_114 rfl ?_
              refine vc_istore dX12_goTurn_115 (by decide) rfl (show _ = [some (aR 54), some (aI t), some (aI s), some (aI x1), some (aI x639), some (aI 1), some (aI 0), some (aI x712), some (aI 0), none] from rfl) ?_
              refine vc_iconst dX12_goTurn_117 rfl ?_
              refine vc_istore dX12_goTurn_118 (by decide) rfl (show _ = [some (aR 54), some (aI t), some (aI s), some (aI x1), some (aI x639), some (aI 1), some (aI 0), some (aI x712), some (aI 0), some (aI 0)] from rfl) ?_
              have lp120 : ∀ (n120 : Nat) (Mq120 : Mem) (v8 : Int) (v9 : Int), (BF fS M Mq120) → (mI Mq120 57 = mI M 57) → (mI Mq120 55 = mI M 55) → (0 ≤ v9) → (v9 ≤ 1) → (mI Mq120 54 32 = mI M 54 32) → (0 ≤ mI Mq120 54 27) → (mI Mq120 54 27 ≤ 40) → (40 - mI Mq120 54 27).toNat < n120 → VC l mdX12_goTurn 120 [some (aR 54), none, some (aI s), some (aI x1), some (aI x639), some (aI 1), none, some (aI x712), some (aI v8), some (aI v9)] [] Mq120 0 0 (fun q N => ∃ r : Int, q = some (aI r) ∧ BF fS M N ∧ mI N 55 = mI M 55 ∧ mI N 57 = mI M 57 ∧ 0 ≤ r ∧ r ≤ 1 ∧ mI N 54 32 = mI M 54 32) := by
                intro n120
                induction n120 with
                | zero => intro Mq120 v8 v9 hQ120 kp120_57 kp120_55 g120_9a g120_9b g120i0 g120i1 g120i2 hm120; exact absurd hm120 (Nat.not_lt_zero _)
                | succ n120 ih120 =>
                  intro Mq120 v8 v9 hQ120 kp120_57 kp120_55 g120_9a g120_9b g120i0 g120i1 g120i2 hm120
                  refine vc_iload dX12_goTurn_120 rfl ?_
                  refine vc_if_ne dX12_goTurn_122 (fun h713 => ?_) (fun h713 => ?_)
                  · refine vc_iload_n dX12_goTurn_200 rfl ?_
                    refine vc_iconst dX12_goTurn_201 rfl ?_
                    refine vc_icmp_eq dX12_goTurn_202 (fun h714 => ?_) (fun h714 => ?_)
                    · refine vc_aload_n dX12_goTurn_217 rfl ?_
                      refine vc_iload dX12_goTurn_218 rfl ?_
                      refine vc_putI dX12_goTurn_220 (plX12_324 _ rfl) (s_54 hQ120.1.1) rfl ?_
                      have kp715 : mI (sI Mq120 54 25 x712) 57 = mI M 57 := (kp_sI kp120_57 rfl)
                      have kp716 : mI (sI Mq120 54 25 x712) 55 = mI M 55 := (kp_sI kp120_55 rfl)
                      have hB717 : BF fS M (sI Mq120 54 25 x712) := BF.w54_25 hQ120 rfl (by omega) (by omega)
                      refine vc_iconst dX12_goTurn_223 rfl ?_
                      refine vc_zret dX12_goTurn_224 rfl (by first | decide | omega) (Nat.le_of_ble_eq_true rfl) (Nat.le_of_ble_eq_true rfl) ?_
                      have k718 : mI (sI Mq120 54 25 x712) 54 27 = mI Mq120 54 27 := rfl
                      have k719 : mI (sI Mq120 54 25 x712) 54 32 = mI Mq120 54 32 := rfl
                      exact ⟨_, rfl, hB717, kp716, kp715, by omega, by omega, by omega⟩
                    · refine vc_aload_n dX12_goTurn_205 rfl ?_
                      refine vc_iload dX12_goTurn_206 rfl ?_
                      refine vc_iload_n dX12_goTurn_208 rfl ?_
                      refine vc_cVI dX12_goTurn_209 (sfX12_isCounted (M := Mq120) hQ120.1  x712 s (by omega) (by omega)) rfl okX12_isCounted viX12_isCounted lkX12_352 (s_54 hQ120.1.1) cl_12 rfl (Nat.le_of_ble_eq_true rfl) ⟨rfl, rfl⟩ (Nat.le_of_ble_eq_true rfl) (Nat.le_of_ble_eq_true rfl) (Nat.le_of_ble_eq_true rfl) ?_
                      rintro x720 _ ⟨rfl, h721, h722⟩
                      refine vc_if_ne dX12_goTurn_212 (fun h723 => ?_) (fun h723 => ?_)
                      · refine vc_aload_n dX12_goTurn_217 rfl ?_
                        refine vc_iload dX12_goTurn_218 rfl ?_
                        refine vc_putI dX12_goTurn_220 (plX12_324 _ rfl) (s_54 hQ120.1.1) rfl ?_
                        have kp724 : mI (sI Mq120 54 25 x712) 57 = mI M 57 := (kp_sI kp120_57 rfl)
                        have kp725 : mI (sI Mq120 54 25 x712) 55 = mI M 55 := (kp_sI kp120_55 rfl)
                        have hB726 : BF fS M (sI Mq120 54 25 x712) := BF.w54_25 hQ120 rfl (by omega) (by omega)
                        refine vc_iconst dX12_goTurn_223 rfl ?_
                        refine vc_zret dX12_goTurn_224 rfl (by first | decide | omega) (Nat.le_of_ble_eq_true rfl) (Nat.le_of_ble_eq_true rfl) ?_
                        have k727 : mI (sI Mq120 54 25 x712) 54 27 = mI Mq120 54 27 := rfl
                        have k728 : mI (sI Mq120 54 25 x712) 54 32 = mI Mq120 54 32 := rfl
                        exact ⟨_, rfl, hB726, kp725, kp724, by omega, by omega, by omega⟩
                      · refine vc_iconst dX12_goTurn_215 rfl ?_
                        refine vc_zret dX12_goTurn_216 rfl (by first | decide | omega) (Nat.le_of_ble_eq_true rfl) (Nat.le_of_ble_eq_true rfl) ?_
                        exact ⟨_, rfl, hQ120, kp120_55, kp120_57, by omega, by omega, by omega⟩
                  · refine vc_aload_n dX12_goTurn_125 rfl ?_
                    refine vc_cVI dX12_goTurn_126 (sfX12_goOn (M := Mq120) hQ120.1   ) rfl okX12_goOn viX12_goOn lkX12_348 (s_54 hQ120.1.1) cl_12 rfl (Nat.le_of_ble_eq_true rfl) ⟨rfl, rfl⟩ (Nat.le_of_ble_eq_true rfl) (Nat.le_of_ble_eq_true rfl) (Nat.le_of_ble_eq_true rfl) ?_
                    rintro x729 M730 ⟨hB731, kp732, kp733, h734, h735, h736, h737⟩
                    have hB738 : BF fS M M730 := BF.go hQ120 hB731
                    have kp739 : mI M730 57 = mI M 57 := kp_go kp120_57 kp733
                    have kp740 : mI M730 55 = mI M 55 := kp_go kp120_55 kp732
                    have kz := b54_27 (M := M730) hB738.1
                    refine vc_if_ne dX12_goTurn_129 (fun h741 => ?_) (fun h741 => ?_)
                    · refine vc_iload dX12_goTurn_134 rfl ?_
                      refine vc_if_ne dX12_goTurn_136 (fun h742 => ?_) (fun h742 => by exfalso; omega)
                      refine vc_iload dX12_goTurn_157 rfl ?_
                      refine vc_if_eq dX12_goTurn_159 (fun h743 => by exfalso; omega) (fun h743 => ?_)
                      refine vc_aload_n dX12_goTurn_162 rfl ?_
                      refine vc_aload_n dX12_goTurn_163 rfl ?_
                      refine vc_getI dX12_goTurn_164 flX12_321 (s_54 hB738.1.1) rfl ?_
                      have k744 : 0 ≤ mI M730 54 24 ∧ mI M730 54 24 ≤ 15 := b54_24 (M := M730) hB738.1
                      refine vc_cVI dX12_goTurn_167 (sfX12_sightOf (M := M730) hB738.1  (mI M730 54 24) (by omega) (by omega)) rfl okX12_sightOf viX12_sightOf lkX12_318 (s_54 hB738.1.1) cl_12 rfl (Nat.le_of_ble_eq_true rfl) ⟨rfl, rfl⟩ (Nat.le_of_ble_eq_true rfl) (Nat.le_of_ble_eq_true rfl) (Nat.le_of_ble_eq_true rfl) ?_
                      rintro x745 _ rfl
                      refine vc_iload dX12_goTurn_170 rfl ?_
                      refine vc_icmp_ne dX12_goTurn_172 (fun h746 => ?_) (fun h746 => ?_)
                      · refine vc_iconst dX12_goTurn_179 rfl ?_
                        refine vc_goto dX12_goTurn_180 ?_
                        refine vc_istore dX12_goTurn_195 (by decide) rfl (show _ = [some (aR 54), none, some (aI s), some (aI x1), some (aI x639), some (aI 1), none, some (aI x712), some (aI v8), some (aI 0)] from rfl) ?_
                        refine vc_goto dX12_goTurn_197 ?_
                        exact ih120 M730 v8 0 hB738 kp739 kp740 (by omega) (by omega) (by omega) (by omega) (by omega) (by omega)
                      · refine vc_iconst dX12_goTurn_175 rfl ?_
                        refine vc_goto dX12_goTurn_176 ?_
                        refine vc_istore dX12_goTurn_195 (by decide) rfl (show _ = [some (aR 54), none, some (aI s), some (aI x1), some (aI x639), some (aI 1), none, some (aI x712), some (aI v8), some (aI 1)] from rfl) ?_
                        refine vc_goto dX12_goTurn_197 ?_
                        exact ih120 M730 v8 1 hB738 kp739 kp740 (by omega) (by omega) (by omega) (by omega) (by omega) (by omega)
                    · refine vc_iconst dX12_goTurn_132 rfl ?_
                      refine vc_zret dX12_goTurn_133 rfl (by first | decide | omega) (Nat.le_of_ble_eq_true rfl) (Nat.le_of_ble_eq_true rfl) ?_
                      exact ⟨_, rfl, hB738, kp740, kp739, by omega, by omega, by omega⟩
              refine vc_less [some (aR 54), none, some (aI s), some (aI x1), some (aI x639), some (aI 1), none, some (aI x712), some (aI 0), some (aI 0)] (lessL_keep (lessL_drop (lessL_keep (lessL_keep (lessL_keep (lessL_keep (lessL_drop (lessL_keep (lessL_keep (lessL_keep (lessL_nil))))))))))) ?_
              exact lp120 _ M 0 0 hB0 rfl rfl (by omega) (by omega) (by omega) (by omega) (by omega) (Nat.lt_succ_self _)
            · refine vc_aload_n dX12_goTurn_88 rfl ?_
              refine vc_getI dX12_goTurn_89 flX12_324 (s_54 hB0.1.1) rfl ?_
              have k747 : 0 ≤ mI M 54 25 ∧ mI M 54 25 ≤ 3 := b54_25 (M := M) hB0.1
              refine vc_goto dX12_goTurn_92 ?_
              refine vc_nameI (fun x748 ex748 => ?_)
              refine vc_istore dX12_goTurn_112 (by decide) rfl (show _ = [some (aR 54), some (aI t), some (aI s), some (aI x1), some (aI x639), some (aI 1), some (aI 0), some (aI x748), none, none] from rfl) ?_
              refine vc_iconst dX12_goTurn_114 rfl ?_
              refine vc_istore dX12_goTurn_115 (by decide) rfl (show _ = [some (aR 54), some (aI t), some (aI s), some (aI x1), some (aI x639), some (aI 1), some (aI 0), some (aI x748), some (aI 0), none] from rfl) ?_
              refine vc_iconst dX12_goTurn_117 rfl ?_
              refine vc_istore dX12_goTurn_118 (by decide) rfl (show _ = [some (aR 54), some (aI t), some (aI s), some (aI x1), some (aI x639), some (aI 1), some (aI 0), some (aI x748), some (aI 0), some (aI 0)] from rfl) ?_
              have lp120 : ∀ (n120 : Nat) (Mq120 : Mem) (v8 : Int) (v9 : Int), (BF fS M Mq120) → (mI Mq120 57 = mI M 57) → (mI Mq120 55 = mI M 55) → (0 ≤ v9) → (v9 ≤ 1) → (mI Mq120 54 32 = mI M 54 32) → (0 ≤ mI Mq120 54 27) → (mI Mq120 54 27 ≤ 40) → (40 - mI Mq120 54 27).toNat < n120 → VC l mdX12_goTurn 120 [some (aR 54), none, some (aI s), some (aI x1), some (aI x639), some (aI 1), none, some (aI x748), some (aI v8), some (aI v9)] [] Mq120 0 0 (fun q N => ∃ r : Int, q = some (aI r) ∧ BF fS M N ∧ mI N 55 = mI M 55 ∧ mI N 57 = mI M 57 ∧ 0 ≤ r ∧ r ≤ 1 ∧ mI N 54 32 = mI M 54 32) := by
                intro n120
                induction n120 with
                | zero => intro Mq120 v8 v9 hQ120 kp120_57 kp120_55 g120_9a g120_9b g120i0 g120i1 g120i2 hm120; exact absurd hm120 (Nat.not_lt_zero _)
                | succ n120 ih120 =>
                  intro Mq120 v8 v9 hQ120 kp120_57 kp120_55 g120_9a g120_9b g120i0 g120i1 g120i2 hm120
                  refine vc_iload dX12_goTurn_120 rfl ?_
                  refine vc_if_ne dX12_goTurn_122 (fun h749 => ?_) (fun h749 => ?_)
                  · refine vc_iload_n dX12_goTurn_200 rfl ?_
                    refine vc_iconst dX12_goTurn_201 rfl ?_
                    refine vc_icmp_eq dX12_goTurn_202 (fun h750 => ?_) (fun h750 => by exfalso; omega)
                    refine vc_aload_n dX12_goTurn_217 rfl ?_
                    refine vc_iload dX12_goTurn_218 rfl ?_
                    refine vc_putI dX12_goTurn_220 (plX12_324 _ rfl) (s_54 hQ120.1.1) rfl ?_
                    have kp751 : mI (sI Mq120 54 25 x748) 57 = mI M 57 := (kp_sI kp120_57 rfl)
                    have kp752 : mI (sI Mq120 54 25 x748) 55 = mI M 55 := (kp_sI kp120_55 rfl)
                    have hB753 : BF fS M (sI Mq120 54 25 x748) := BF.w54_25 hQ120 rfl (by omega) (by omega)
                    refine vc_iconst dX12_goTurn_223 rfl ?_
                    refine vc_zret dX12_goTurn_224 rfl (by first | decide | omega) (Nat.le_of_ble_eq_true rfl) (Nat.le_of_ble_eq_true rfl) ?_
                    have k754 : mI (sI Mq120 54 25 x748) 54 27 = mI Mq120 54 27 := rfl
                    have k755 : mI (sI Mq120 54 25 x748) 54 32 = mI Mq120 54 32 := rfl
                    exact ⟨_, rfl, hB753, kp752, kp751, by omega, by omega, by omega⟩
                  · refine vc_aload_n dX12_goTurn_125 rfl ?_
                    refine vc_cVI dX12_goTurn_126 (sfX12_goOn (M := Mq120) hQ120.1   ) rfl okX12_goOn viX12_goOn lkX12_348 (s_54 hQ120.1.1) cl_12 rfl (Nat.le_of_ble_eq_true rfl) ⟨rfl, rfl⟩ (Nat.le_of_ble_eq_true rfl) (Nat.le_of_ble_eq_true rfl) (Nat.le_of_ble_eq_true rfl) ?_
                    rintro x756 M757 ⟨hB758, kp759, kp760, h761, h762, h763, h764⟩
                    have hB765 : BF fS M M757 := BF.go hQ120 hB758
                    have kp766 : mI M757 57 = mI M 57 := kp_go kp120_57 kp760
                    have kp767 : mI M757 55 = mI M 55 := kp_go kp120_55 kp759
                    have kz := b54_27 (M := M757) hB765.1
                    refine vc_if_ne dX12_goTurn_129 (fun h768 => ?_) (fun h768 => ?_)
                    · refine vc_iload dX12_goTurn_134 rfl ?_
                      refine vc_if_ne dX12_goTurn_136 (fun h769 => ?_) (fun h769 => by exfalso; omega)
                      refine vc_iload dX12_goTurn_157 rfl ?_
                      refine vc_if_eq dX12_goTurn_159 (fun h770 => by exfalso; omega) (fun h770 => ?_)
                      refine vc_aload_n dX12_goTurn_162 rfl ?_
                      refine vc_aload_n dX12_goTurn_163 rfl ?_
                      refine vc_getI dX12_goTurn_164 flX12_321 (s_54 hB765.1.1) rfl ?_
                      have k771 : 0 ≤ mI M757 54 24 ∧ mI M757 54 24 ≤ 15 := b54_24 (M := M757) hB765.1
                      refine vc_cVI dX12_goTurn_167 (sfX12_sightOf (M := M757) hB765.1  (mI M757 54 24) (by omega) (by omega)) rfl okX12_sightOf viX12_sightOf lkX12_318 (s_54 hB765.1.1) cl_12 rfl (Nat.le_of_ble_eq_true rfl) ⟨rfl, rfl⟩ (Nat.le_of_ble_eq_true rfl) (Nat.le_of_ble_eq_true rfl) (Nat.le_of_ble_eq_true rfl) ?_
                      rintro x772 _ rfl
                      refine vc_iload dX12_goTurn_170 rfl ?_
                      refine vc_icmp_ne dX12_goTurn_172 (fun h773 => ?_) (fun h773 => ?_)
                      · refine vc_iconst dX12_goTurn_179 rfl ?_
                        refine vc_goto dX12_goTurn_180 ?_
                        refine vc_istore dX12_goTurn_195 (by decide) rfl (show _ = [some (aR 54), none, some (aI s), some (aI x1), some (aI x639), some (aI 1), none, some (aI x748), some (aI v8), some (aI 0)] from rfl) ?_
                        refine vc_goto dX12_goTurn_197 ?_
                        exact ih120 M757 v8 0 hB765 kp766 kp767 (by omega) (by omega) (by omega) (by omega) (by omega) (by omega)
                      · refine vc_iconst dX12_goTurn_175 rfl ?_
                        refine vc_goto dX12_goTurn_176 ?_
                        refine vc_istore dX12_goTurn_195 (by decide) rfl (show _ = [some (aR 54), none, some (aI s), some (aI x1), some (aI x639), some (aI 1), none, some (aI x748), some (aI v8), some (aI 1)] from rfl) ?_
                        refine vc_goto dX12_goTurn_197 ?_
                        exact ih120 M757 v8 1 hB765 kp766 kp767 (by omega) (by omega) (by omega) (by omega) (by omega) (by omega)
                    · refine vc_iconst dX12_goTurn_132 rfl ?_
                      refine vc_zret dX12_goTurn_133 rfl (by first | decide | omega) (Nat.le_of_ble_eq_true rfl) (Nat.le_of_ble_eq_true rfl) ?_
                      exact ⟨_, rfl, hB765, kp767, kp766, by omega, by omega, by omega⟩
              refine vc_less [some (aR 54), none, some (aI s), some (aI x1), some (aI x639), some (aI 1), none, some (aI x748), some (aI 0), some (aI 0)] (lessL_keep (lessL_drop (lessL_keep (lessL_keep (lessL_keep (lessL_keep (lessL_drop (lessL_keep (lessL_keep (lessL_keep (lessL_nil))))))))))) ?_
              exact lp120 _ M 0 0 hB0 rfl rfl (by omega) (by omega) (by omega) (by omega) (by omega) (Nat.lt_succ_self _)
        · refine vc_iconst dX12_goTurn_57 rfl ?_
          refine vc_goto dX12_goTurn_58 ?_
          refine vc_iload_n dX12_goTurn_62 rfl ?_
          refine vc_iconst dX12_goTurn_63 rfl ?_
          refine vc_iandM dX12_goTurn_64 2 1 rfl (by decide) rfl ?_
          refine vc_if_ne dX12_goTurn_65 (fun h774 => ?_) (fun h774 => ?_)
          · refine vc_iconst dX12_goTurn_72 rfl ?_
            refine vc_icmp_ne dX12_goTurn_73 (fun h775 => ?_) (fun h775 => by exfalso; omega)
            refine vc_iconst dX12_goTurn_80 rfl ?_
            refine vc_istore dX12_goTurn_81 (by decide) rfl (show _ = [some (aR 54), some (aI t), some (aI s), some (aI x1), some (aI x639), some (aI 1), some (aI 0), none, none, none] from rfl) ?_
            refine vc_iload_n dX12_goTurn_83 rfl ?_
            refine vc_iconst dX12_goTurn_84 rfl ?_
            refine vc_icmp_ne dX12_goTurn_85 (fun h776 => ?_) (fun h776 => by exfalso; omega)
            refine vc_aload_n dX12_goTurn_95 rfl ?_
            refine vc_getI dX12_goTurn_96 flX12_324 (s_54 hB0.1.1) rfl ?_
            have k777 : 0 ≤ mI M 54 25 ∧ mI M 54 25 ≤ 3 := b54_25 (M := M) hB0.1
            refine vc_iload dX12_goTurn_99 rfl ?_
            refine vc_if_eq dX12_goTurn_101 (fun h778 => ?_) (fun h778 => by exfalso; omega)
            refine vc_iconst dX12_goTurn_108 rfl ?_
            refine vc_iaddE dX12_goTurn_109 (by omega) (by omega) ?_
            refine vc_iconst dX12_goTurn_110 rfl ?_
            refine vc_iremE dX12_goTurn_111 (by omega) (by omega) ?_
            refine vc_nameI (fun x779 ex779 => ?_)
            refine vc_istore dX12_goTurn_112 (by decide) rfl (show _ = [some (aR 54), some (aI t), some (aI s), some (aI x1), some (aI x639), some (aI 1), some (aI 0), some (aI x779), none, none] from rfl) ?_
            refine vc_iconst dX12_goTurn_114 rfl ?_
            refine vc_istore dX12_goTurn_115 (by decide) rfl (show _ = [some (aR 54), some (aI t), some (aI s), some (aI x1), some (aI x639), some (aI 1), some (aI 0), some (aI x779), some (aI 0), none] from rfl) ?_
            refine vc_iconst dX12_goTurn_117 rfl ?_
            refine vc_istore dX12_goTurn_118 (by decide) rfl (show _ = [some (aR 54), some (aI t), some (aI s), some (aI x1), some (aI x639), some (aI 1), some (aI 0), some (aI x779), some (aI 0), some (aI 0)] from rfl) ?_
            have lp120 : ∀ (n120 : Nat) (Mq120 : Mem) (v8 : Int) (v9 : Int), (BF fS M Mq120) → (mI Mq120 57 = mI M 57) → (mI Mq120 55 = mI M 55) → (0 ≤ v9) → (v9 ≤ 1) → (mI Mq120 54 32 = mI M 54 32) → (0 ≤ mI Mq120 54 27) → (mI Mq120 54 27 ≤ 40) → (40 - mI Mq120 54 27).toNat < n120 → VC l mdX12_goTurn 120 [some (aR 54), none, some (aI s), some (aI x1), some (aI x639), some (aI 1), none, some (aI x779), some (aI v8), some (aI v9)] [] Mq120 0 0 (fun q N => ∃ r : Int, q = some (aI r) ∧ BF fS M N ∧ mI N 55 = mI M 55 ∧ mI N 57 = mI M 57 ∧ 0 ≤ r ∧ r ≤ 1 ∧ mI N 54 32 = mI M 54 32) := by
              intro n120
              induction n120 with
              | zero => intro Mq120 v8 v9 hQ120 kp120_57 kp120_55 g120_9a g120_9b g120i0 g120i1 g120i2 hm120; exact absurd hm120 (Nat.not_lt_zero _)
              | succ n120 ih120 =>
                intro Mq120 v8 v9 hQ120 kp120_57 kp120_55 g120_9a g120_9b g120i0 g120i1 g120i2 hm120
                refine vc_iload dX12_goTurn_120 rfl ?_
                refine vc_if_ne dX12_goTurn_122 (fun h780 => ?_) (fun h780 => ?_)
                · refine vc_iload_n dX12_goTurn_200 rfl ?_
                  refine vc_iconst dX12_goTurn_201 rfl ?_
                  refine vc_icmp_eq dX12_goTurn_202 (fun h781 => by exfalso; omega) (fun h781 => ?_)
                  refine vc_aload_n dX12_goTurn_205 rfl ?_
                  refine vc_iload dX12_goTurn_206 rfl ?_
                  refine vc_iload_n dX12_goTurn_208 rfl ?_
                  refine vc_cVI dX12_goTurn_209 (sfX12_isCounted (M := Mq120) hQ120.1  x779 s (by omega) (by omega)) rfl okX12_isCounted viX12_isCounted lkX12_352 (s_54 hQ120.1.1) cl_12 rfl (Nat.le_of_ble_eq_true rfl) ⟨rfl, rfl⟩ (Nat.le_of_ble_eq_true rfl) (Nat.le_of_ble_eq_true rfl) (Nat.le_of_ble_eq_true rfl) ?_
                  rintro x782 _ ⟨rfl, h783, h784⟩
                  refine vc_if_ne dX12_goTurn_212 (fun h785 => ?_) (fun h785 => ?_)
                  · refine vc_aload_n dX12_goTurn_217 rfl ?_
                    refine vc_iload dX12_goTurn_218 rfl ?_
                    refine vc_putI dX12_goTurn_220 (plX12_324 _ rfl) (s_54 hQ120.1.1) rfl ?_
                    have kp786 : mI (sI Mq120 54 25 x779) 57 = mI M 57 := (kp_sI kp120_57 rfl)
                    have kp787 : mI (sI Mq120 54 25 x779) 55 = mI M 55 := (kp_sI kp120_55 rfl)
                    have hB788 : BF fS M (sI Mq120 54 25 x779) := BF.w54_25 hQ120 rfl (by omega) (by omega)
                    refine vc_iconst dX12_goTurn_223 rfl ?_
                    refine vc_zret dX12_goTurn_224 rfl (by first | decide | omega) (Nat.le_of_ble_eq_true rfl) (Nat.le_of_ble_eq_true rfl) ?_
                    have k789 : mI (sI Mq120 54 25 x779) 54 27 = mI Mq120 54 27 := rfl
                    have k790 : mI (sI Mq120 54 25 x779) 54 32 = mI Mq120 54 32 := rfl
                    exact ⟨_, rfl, hB788, kp787, kp786, by omega, by omega, by omega⟩
                  · refine vc_iconst dX12_goTurn_215 rfl ?_
                    refine vc_zret dX12_goTurn_216 rfl (by first | decide | omega) (Nat.le_of_ble_eq_true rfl) (Nat.le_of_ble_eq_true rfl) ?_
                    exact ⟨_, rfl, hQ120, kp120_55, kp120_57, by omega, by omega, by omega⟩
                · refine vc_aload_n dX12_goTurn_125 rfl ?_
                  refine vc_cVI dX12_goTurn_126 (sfX12_goOn (M := Mq120) hQ120.1   ) rfl okX12_goOn viX12_goOn lkX12_348 (s_54 hQ120.1.1) cl_12 rfl (Nat.le_of_ble_eq_true rfl) ⟨rfl, rfl⟩ (Nat.le_of_ble_eq_true rfl) (Nat.le_of_ble_eq_true rfl) (Nat.le_of_ble_eq_true rfl) ?_
                  rintro x791 M792 ⟨hB793, kp794, kp795, h796, h797, h798, h799⟩
                  have hB800 : BF fS M M792 := BF.go hQ120 hB793
                  have kp801 : mI M792 57 = mI M 57 := kp_go kp120_57 kp795
                  have kp802 : mI M792 55 = mI M 55 := kp_go kp120_55 kp794
                  have kz := b54_27 (M := M792) hB800.1
                  refine vc_if_ne dX12_goTurn_129 (fun h803 => ?_) (fun h803 => ?_)
                  · refine vc_iload dX12_goTurn_134 rfl ?_
                    refine vc_if_ne dX12_goTurn_136 (fun h804 => ?_) (fun h804 => by exfalso; omega)
                    refine vc_iload dX12_goTurn_157 rfl ?_
                    refine vc_if_eq dX12_goTurn_159 (fun h805 => by exfalso; omega) (fun h805 => ?_)
                    refine vc_aload_n dX12_goTurn_162 rfl ?_
                    refine vc_aload_n dX12_goTurn_163 rfl ?_
                    refine vc_getI dX12_goTurn_164 flX12_321 (s_54 hB800.1.1) rfl ?_
                    have k806 : 0 ≤ mI M792 54 24 ∧ mI M792 54 24 ≤ 15 := b54_24 (M := M792) hB800.1
                    refine vc_cVI dX12_goTurn_167 (sfX12_sightOf (M := M792) hB800.1  (mI M792 54 24) (by omega) (by omega)) rfl okX12_sightOf viX12_sightOf lkX12_318 (s_54 hB800.1.1) cl_12 rfl (Nat.le_of_ble_eq_true rfl) ⟨rfl, rfl⟩ (Nat.le_of_ble_eq_true rfl) (Nat.le_of_ble_eq_true rfl) (Nat.le_of_ble_eq_true rfl) ?_
                    rintro x807 _ rfl
                    refine vc_iload dX12_goTurn_170 rfl ?_
                    refine vc_icmp_ne dX12_goTurn_172 (fun h808 => ?_) (fun h808 => ?_)
                    · refine vc_iconst dX12_goTurn_179 rfl ?_
                      refine vc_goto dX12_goTurn_180 ?_
                      refine vc_istore dX12_goTurn_195 (by decide) rfl (show _ = [some (aR 54), none, some (aI s), some (aI x1), some (aI x639), some (aI 1), none, some (aI x779), some (aI v8), some (aI 0)] from rfl) ?_
                      refine vc_goto dX12_goTurn_197 ?_
                      exact ih120 M792 v8 0 hB800 kp801 kp802 (by omega) (by omega) (by omega) (by omega) (by omega) (by omega)
                    · refine vc_iconst dX12_goTurn_175 rfl ?_
                      refine vc_goto dX12_goTurn_176 ?_
                      refine vc_istore dX12_goTurn_195 (by decide) rfl (show _ = [some (aR 54), none, some (aI s), some (aI x1), some (aI x639), some (aI 1), none, some (aI x779), some (aI v8), some (aI 1)] from rfl) ?_
                      refine vc_goto dX12_goTurn_197 ?_
                      exact ih120 M792 v8 1 hB800 kp801 kp802 (by omega) (by omega) (by omega) (by omega) (by omega) (by omega)
                  · refine vc_iconst dX12_goTurn_132 rfl ?_
                    refine vc_zret dX12_goTurn_133 rfl (by first | decide | omega) (Nat.le_of_ble_eq_true rfl) (Nat.le_of_ble_eq_true rfl) ?_
                    exact ⟨_, rfl, hB800, kp802, kp801, by omega, by omega, by omega⟩
            refine vc_less [some (aR 54), none, some (aI s), some (aI x1), some (aI x639), some (aI 1), none, some (aI x779), some (aI 0), some (aI 0)] (lessL_keep (lessL_drop (lessL_keep (lessL_keep (lessL_keep (lessL_keep (lessL_drop (lessL_keep (lessL_keep (lessL_keep (lessL_nil))))))))))) ?_
            exact lp120 _ M 0 0 hB0 rfl rfl (by omega) (by omega) (by omega) (by omega) (by omega) (Nat.lt_succ_self _)
          · refine vc_iconst dX12_goTurn_68 rfl ?_
            refine vc_goto dX12_goTurn_69 ?_
            refine vc_icmp_ne dX12_goTurn_73 (fun h809 => by exfalso; omega) (fun h809 => ?_)
            refine vc_iconst dX12_goTurn_76 rfl ?_
            refine vc_goto dX12_goTurn_77 ?_
            refine vc_istore dX12_goTurn_81 (by decide) rfl (show _ = [some (aR 54), some (aI t), some (aI s), some (aI x1), some (aI x639), some (aI 1), some (aI 1), none, none, none] from rfl) ?_
            refine vc_iload_n dX12_goTurn_83 rfl ?_
            refine vc_iconst dX12_goTurn_84 rfl ?_
            refine vc_icmp_ne dX12_goTurn_85 (fun h810 => ?_) (fun h810 => by exfalso; omega)
            refine vc_aload_n dX12_goTurn_95 rfl ?_
            refine vc_getI dX12_goTurn_96 flX12_324 (s_54 hB0.1.1) rfl ?_
            have k811 : 0 ≤ mI M 54 25 ∧ mI M 54 25 ≤ 3 := b54_25 (M := M) hB0.1
            refine vc_iload dX12_goTurn_99 rfl ?_
            refine vc_if_eq dX12_goTurn_101 (fun h812 => by exfalso; omega) (fun h812 => ?_)
            refine vc_iconst dX12_goTurn_104 rfl ?_
            refine vc_goto dX12_goTurn_105 ?_
            refine vc_iaddE dX12_goTurn_109 (by omega) (by omega) ?_
            refine vc_iconst dX12_goTurn_110 rfl ?_
            refine vc_iremE dX12_goTurn_111 (by omega) (by omega) ?_
            refine vc_nameI (fun x813 ex813 => ?_)
            refine vc_istore dX12_goTurn_112 (by decide) rfl (show _ = [some (aR 54), some (aI t), some (aI s), some (aI x1), some (aI x639), some (aI 1), some (aI 1), some (aI x813), none, none] from rfl) ?_
            refine vc_iconst dX12_goTurn_114 rfl ?_
            refine vc_istore dX12_goTurn_115 (by decide) rfl (show _ = [some (aR 54), some (aI t), some (aI s), some (aI x1), some (aI x639), some (aI 1), some (aI 1), some (aI x813), some (aI 0), none] from rfl) ?_
            refine vc_iconst dX12_goTurn_117 rfl ?_
            refine vc_istore dX12_goTurn_118 (by decide) rfl (show _ = [some (aR 54), some (aI t), some (aI s), some (aI x1), some (aI x639), some (aI 1), some (aI 1), some (aI x813), some (aI 0), some (aI 0)] from rfl) ?_
            have lp120 : ∀ (n120 : Nat) (Mq120 : Mem) (v8 : Int) (v9 : Int), (BF fS M Mq120) → (mI Mq120 57 = mI M 57) → (mI Mq120 55 = mI M 55) → (0 ≤ v9) → (v9 ≤ 1) → (mI Mq120 54 32 = mI M 54 32) → (0 ≤ mI Mq120 54 27) → (mI Mq120 54 27 ≤ 40) → (40 - mI Mq120 54 27).toNat < n120 → VC l mdX12_goTurn 120 [some (aR 54), none, some (aI s), some (aI x1), some (aI x639), some (aI 1), none, some (aI x813), some (aI v8), some (aI v9)] [] Mq120 0 0 (fun q N => ∃ r : Int, q = some (aI r) ∧ BF fS M N ∧ mI N 55 = mI M 55 ∧ mI N 57 = mI M 57 ∧ 0 ≤ r ∧ r ≤ 1 ∧ mI N 54 32 = mI M 54 32) := by
              intro n120
              induction n120 with
              | zero => intro Mq120 v8 v9 hQ120 kp120_57 kp120_55 g120_9a g120_9b g120i0 g120i1 g120i2 hm120; exact absurd hm120 (Nat.not_lt_zero _)
              | succ n120 ih120 =>
                intro Mq120 v8 v9 hQ120 kp120_57 kp120_55 g120_9a g120_9b g120i0 g120i1 g120i2 hm120
                refine vc_iload dX12_goTurn_120 rfl ?_
                refine vc_if_ne dX12_goTurn_122 (fun h814 => ?_) (fun h814 => ?_)
                · refine vc_iload_n dX12_goTurn_200 rfl ?_
                  refine vc_iconst dX12_goTurn_201 rfl ?_
                  refine vc_icmp_eq dX12_goTurn_202 (fun h815 => by exfalso; omega) (fun h815 => ?_)
                  refine vc_aload_n dX12_goTurn_205 rfl ?_
                  refine vc_iload dX12_goTurn_206 rfl ?_
                  refine vc_iload_n dX12_goTurn_208 rfl ?_
                  refine vc_cVI dX12_goTurn_209 (sfX12_isCounted (M := Mq120) hQ120.1  x813 s (by omega) (by omega)) rfl okX12_isCounted viX12_isCounted lkX12_352 (s_54 hQ120.1.1) cl_12 rfl (Nat.le_of_ble_eq_true rfl) ⟨rfl, rfl⟩ (Nat.le_of_ble_eq_true rfl) (Nat.le_of_ble_eq_true rfl) (Nat.le_of_ble_eq_true rfl) ?_
                  rintro x816 _ ⟨rfl, h817, h818⟩
                  refine vc_if_ne dX12_goTurn_212 (fun h819 => ?_) (fun h819 => ?_)
                  · refine vc_aload_n dX12_goTurn_217 rfl ?_
                    refine vc_iload dX12_goTurn_218 rfl ?_
                    refine vc_putI dX12_goTurn_220 (plX12_324 _ rfl) (s_54 hQ120.1.1) rfl ?_
                    have kp820 : mI (sI Mq120 54 25 x813) 57 = mI M 57 := (kp_sI kp120_57 rfl)
                    have kp821 : mI (sI Mq120 54 25 x813) 55 = mI M 55 := (kp_sI kp120_55 rfl)
                    have hB822 : BF fS M (sI Mq120 54 25 x813) := BF.w54_25 hQ120 rfl (by omega) (by omega)
                    refine vc_iconst dX12_goTurn_223 rfl ?_
                    refine vc_zret dX12_goTurn_224 rfl (by first | decide | omega) (Nat.le_of_ble_eq_true rfl) (Nat.le_of_ble_eq_true rfl) ?_
                    have k823 : mI (sI Mq120 54 25 x813) 54 27 = mI Mq120 54 27 := rfl
                    have k824 : mI (sI Mq120 54 25 x813) 54 32 = mI Mq120 54 32 := rfl
                    exact ⟨_, rfl, hB822, kp821, kp820, by omega, by omega, by omega⟩
                  · refine vc_iconst dX12_goTurn_215 rfl ?_
                    refine vc_zret dX12_goTurn_216 rfl (by first | decide | omega) (Nat.le_of_ble_eq_true rfl) (Nat.le_of_ble_eq_true rfl) ?_
                    exact ⟨_, rfl, hQ120, kp120_55, kp120_57, by omega, by omega, by omega⟩
                · refine vc_aload_n dX12_goTurn_125 rfl ?_
                  refine vc_cVI dX12_goTurn_126 (sfX12_goOn (M := Mq120) hQ120.1   ) rfl okX12_goOn viX12_goOn lkX12_348 (s_54 hQ120.1.1) cl_12 rfl (Nat.le_of_ble_eq_true rfl) ⟨rfl, rfl⟩ (Nat.le_of_ble_eq_true rfl) (Nat.le_of_ble_eq_true rfl) (Nat.le_of_ble_eq_true rfl) ?_
                  rintro x825 M826 ⟨hB827, kp828, kp829, h830, h831, h832, h833⟩
                  have hB834 : BF fS M M826 := BF.go hQ120 hB827
                  have kp835 : mI M826 57 = mI M 57 := kp_go kp120_57 kp829
                  have kp836 : mI M826 55 = mI M 55 := kp_go kp120_55 kp828
                  have kz := b54_27 (M := M826) hB834.1
                  refine vc_if_ne dX12_goTurn_129 (fun h837 => ?_) (fun h837 => ?_)
                  · refine vc_iload dX12_goTurn_134 rfl ?_
                    refine vc_if_ne dX12_goTurn_136 (fun h838 => ?_) (fun h838 => by exfalso; omega)
                    refine vc_iload dX12_goTurn_157 rfl ?_
                    refine vc_if_eq dX12_goTurn_159 (fun h839 => by exfalso; omega) (fun h839 => ?_)
                    refine vc_aload_n dX12_goTurn_162 rfl ?_
                    refine vc_aload_n dX12_goTurn_163 rfl ?_
                    refine vc_getI dX12_goTurn_164 flX12_321 (s_54 hB834.1.1) rfl ?_
                    have k840 : 0 ≤ mI M826 54 24 ∧ mI M826 54 24 ≤ 15 := b54_24 (M := M826) hB834.1
                    refine vc_cVI dX12_goTurn_167 (sfX12_sightOf (M := M826) hB834.1  (mI M826 54 24) (by omega) (by omega)) rfl okX12_sightOf viX12_sightOf lkX12_318 (s_54 hB834.1.1) cl_12 rfl (Nat.le_of_ble_eq_true rfl) ⟨rfl, rfl⟩ (Nat.le_of_ble_eq_true rfl) (Nat.le_of_ble_eq_true rfl) (Nat.le_of_ble_eq_true rfl) ?_
                    rintro x841 _ rfl
                    refine vc_iload dX12_goTurn_170 rfl ?_
                    refine vc_icmp_ne dX12_goTurn_172 (fun h842 => ?_) (fun h842 => ?_)
                    · refine vc_iconst dX12_goTurn_179 rfl ?_
                      refine vc_goto dX12_goTurn_180 ?_
                      refine vc_istore dX12_goTurn_195 (by decide) rfl (show _ = [some (aR 54), none, some (aI s), some (aI x1), some (aI x639), some (aI 1), none, some (aI x813), some (aI v8), some (aI 0)] from rfl) ?_
                      refine vc_goto dX12_goTurn_197 ?_
                      exact ih120 M826 v8 0 hB834 kp835 kp836 (by omega) (by omega) (by omega) (by omega) (by omega) (by omega)
                    · refine vc_iconst dX12_goTurn_175 rfl ?_
                      refine vc_goto dX12_goTurn_176 ?_
                      refine vc_istore dX12_goTurn_195 (by decide) rfl (show _ = [some (aR 54), none, some (aI s), some (aI x1), some (aI x639), some (aI 1), none, some (aI x813), some (aI v8), some (aI 1)] from rfl) ?_
                      refine vc_goto dX12_goTurn_197 ?_
                      exact ih120 M826 v8 1 hB834 kp835 kp836 (by omega) (by omega) (by omega) (by omega) (by omega) (by omega)
                  · refine vc_iconst dX12_goTurn_132 rfl ?_
                    refine vc_zret dX12_goTurn_133 rfl (by first | decide | omega) (Nat.le_of_ble_eq_true rfl) (Nat.le_of_ble_eq_true rfl) ?_
                    exact ⟨_, rfl, hB834, kp836, kp835, by omega, by omega, by omega⟩
            refine vc_less [some (aR 54), none, some (aI s), some (aI x1), some (aI x639), some (aI 1), none, some (aI x813), some (aI 0), some (aI 0)] (lessL_keep (lessL_drop (lessL_keep (lessL_keep (lessL_keep (lessL_keep (lessL_drop (lessL_keep (lessL_keep (lessL_keep (lessL_nil))))))))))) ?_
            exact lp120 _ M 0 0 hB0 rfl rfl (by omega) (by omega) (by omega) (by omega) (by omega) (Nat.lt_succ_self _)

set_option maxRecDepth 4000 in
theorem sfX12_takeTurns {l : Launch} {M : Mem} (hB : Box M)  (t : Int) (wo : Int) (p0 : 0 ≤ t) (p1 : t ≤ 7) : Call l mdX12_takeTurns [aR 54, aI t, aI wo] M (fun q N => q = none ∧ BF fS M N ∧ mI N 55 = mI M 55 ∧ mI N 57 = mI M 57 ∧ mI M 55 (((184 + (9 * t)) + 2)).toNat - 1 ≤ mI N 54 32 ∧ (0 ≤ wo ∨ mI M 55 (((184 + (9 * t)) + 2)).toNat ≤ mI N 54 32)) := by
  have hB0 : BF fS M M := BF.start hB
  refine Call.of [some (aR 54), some (aI t), some (aI wo), none] rfl (Nat.le_of_ble_eq_true rfl) rfl ?_
  refine vc_ok (fun hoM hoS hoL => ?_)
  have hr2 : -2147483648 ≤ wo ∧ wo < 2147483648 := hoL 2 _ rfl
  refine vc_aload_n dX12_takeTurns_0 rfl ?_
  refine vc_iconst dX12_takeTurns_1 rfl ?_
  refine vc_putI dX12_takeTurns_2 (plX12_355 _ rfl) (s_54 hB0.1.1) rfl ?_
  have kp1 : mI (sI M 54 32 0) 57 = mI M 57 := (kp_sI rfl rfl)
  have kp2 : mI (sI M 54 32 0) 55 = mI M 55 := (kp_sI rfl rfl)
  have hB3 : BF fS M (sI M 54 32 0) := BF.w54_32 hB0 rfl (by omega) (by omega)
  refine vc_iconst dX12_takeTurns_5 rfl ?_
  refine vc_istore_n dX12_takeTurns_6 (by decide) rfl (show _ = [some (aR 54), some (aI t), some (aI wo), some (aI 0)] from rfl) ?_
  have lp7 : ∀ (n7 : Nat) (Mq7 : Mem) (v3 : Int), (BF fS M Mq7) → (mI Mq7 57 = mI M 57) → (mI Mq7 55 = mI M 55) → (0 ≤ v3) → (v3 ≤ 6) → (((wo < 0 ∨ v3 ≤ wo) ∧ mI Mq7 54 32 = v3) ∨ (0 ≤ wo ∧ wo < v3 ∧ mI Mq7 54 32 = v3 - 1)) → (6 - v3).toNat < n7 → VC l mdX12_takeTurns 7 [some (aR 54), some (aI t), some (aI wo), some (aI v3)] [] Mq7 0 0 (fun q N => q = none ∧ BF fS M N ∧ mI N 55 = mI M 55 ∧ mI N 57 = mI M 57 ∧ mI M 55 (((184 + (9 * t)) + 2)).toNat - 1 ≤ mI N 54 32 ∧ (0 ≤ wo ∨ mI M 55 (((184 + (9 * t)) + 2)).toNat ≤ mI N 54 32)) := by
    intro n7
    induction n7 with
    | zero => intro Mq7 v3 hQ7 kp7_57 kp7_55 g7_3a g7_3b g7i0 hm7; exact absurd hm7 (Nat.not_lt_zero _)
    | succ n7 ih7 =>
      intro Mq7 v3 hQ7 kp7_57 kp7_55 g7_3a g7_3b g7i0 hm7
      refine vc_iload_n dX12_takeTurns_7 rfl ?_
      refine vc_aload_n dX12_takeTurns_8 rfl ?_
      refine vc_iload_n dX12_takeTurns_9 rfl ?_
      refine vc_cVI dX12_takeTurns_10 (sfX12_turnsOf (M := Mq7) hQ7.1  t (by omega) (by omega)) rfl okX12_turnsOf viX12_turnsOf lkX12_305 (s_54 hQ7.1.1) cl_12 rfl (Nat.le_of_ble_eq_true rfl) ⟨rfl, rfl⟩ (Nat.le_of_ble_eq_true rfl) (Nat.le_of_ble_eq_true rfl) (Nat.le_of_ble_eq_true rfl) ?_
      rintro x4 _ ⟨rfl, h5, h6, h7⟩
      have kz := h7.trans (congrFun kp7_55 _)
      refine vc_icmp_ge dX12_takeTurns_13 (fun h8 => ?_) (fun h8 => ?_)
      · refine vc_vret dX12_takeTurns_55 rfl (Nat.le_of_ble_eq_true rfl) (Nat.le_of_ble_eq_true rfl) ?_
        exact ⟨rfl, hQ7, kp7_55, kp7_57, by omega, by omega⟩
      · refine vc_iload_n dX12_takeTurns_16 rfl ?_
        refine vc_iload_n dX12_takeTurns_17 rfl ?_
        refine vc_icmp_ne dX12_takeTurns_18 (fun h9 => ?_) (fun h9 => ?_)
        · refine vc_aload_n dX12_takeTurns_24 rfl ?_
          refine vc_getR dX12_takeTurns_25 flX12_42 (s_54 hQ7.1.1) rfl (r_54_31 hQ7.1.1) ?_
          refine vc_aload_n dX12_takeTurns_28 rfl ?_
          refine vc_getI dX12_takeTurns_29 flX12_355 (s_54 hQ7.1.1) rfl ?_
          have k10 : 0 ≤ mI Mq7 54 32 ∧ mI Mq7 54 32 ≤ 6 := b54_32 (M := Mq7) hQ7.1
          refine vc_aload_n dX12_takeTurns_32 rfl ?_
          refine vc_iload_n dX12_takeTurns_33 rfl ?_
          refine vc_iload_n dX12_takeTurns_34 rfl ?_
          refine vc_cVI dX12_takeTurns_35 (sfX12_turnAt (M := Mq7) hQ7.1  t v3 (by omega) (by omega) (by omega) (by omega)) rfl okX12_turnAt viX12_turnAt lkX12_358 (s_54 hQ7.1.1) cl_12 rfl (Nat.le_of_ble_eq_true rfl) ⟨rfl, rfl⟩ (Nat.le_of_ble_eq_true rfl) (Nat.le_of_ble_eq_true rfl) (Nat.le_of_ble_eq_true rfl) ?_
          rintro x11 _ rfl
          refine vc_iastore dX12_takeTurns_38 (s_63 hQ7.1.1) (by omega) (by omega) ?_
          have kp12 : mI (sI Mq7 63 ((mI Mq7 54 32).toNat) x11) 57 = mI M 57 := (kp_sI kp7_57 rfl)
          have kp13 : mI (sI Mq7 63 ((mI Mq7 54 32).toNat) x11) 55 = mI M 55 := (kp_sI kp7_55 rfl)
          have hB14 : BF fS M (sI Mq7 63 ((mI Mq7 54 32).toNat) x11) := BF.w63 hQ7 (fun _ => rfl) _
          refine vc_aload_n dX12_takeTurns_39 rfl ?_
          refine vc_dup dX12_takeTurns_40 rfl ?_
          refine vc_getI dX12_takeTurns_41 flX12_355 (s_54 hB14.1.1) rfl ?_
          refine vc_topI (mI Mq7 54 32) rfl ?_
          have k15 : 0 ≤ mI Mq7 54 32 ∧ mI Mq7 54 32 ≤ 6 := b54_32 (M := (sI Mq7 63 ((mI Mq7 54 32).toNat) x11)) hB14.1
          refine vc_iconst dX12_takeTurns_44 rfl ?_
          refine vc_iaddE dX12_takeTurns_45 (by omega) (by omega) ?_
          refine vc_putI dX12_takeTurns_46 (plX12_355 _ rfl) (s_54 hB14.1.1) rfl ?_
          have kp16 : mI (sI (sI Mq7 63 ((mI Mq7 54 32).toNat) x11) 54 32 ((mI Mq7 54 32) + 1)) 57 = mI M 57 := (kp_sI kp12 rfl)
          have kp17 : mI (sI (sI Mq7 63 ((mI Mq7 54 32).toNat) x11) 54 32 ((mI Mq7 54 32) + 1)) 55 = mI M 55 := (kp_sI kp13 rfl)
          have hB18 : BF fS M (sI (sI Mq7 63 ((mI Mq7 54 32).toNat) x11) 54 32 ((mI Mq7 54 32) + 1)) := BF.w54_32 hB14 rfl (by omega) (by omega)
          refine vc_iincE dX12_takeTurns_49 rfl (by omega) (by omega) (by decide) rfl (show _ = [some (aR 54), some (aI t), some (aI wo), some (aI (v3 + 1))] from rfl) ?_
          refine vc_goto dX12_takeTurns_52 ?_
          have k19 : mI (sI (sI Mq7 63 ((mI Mq7 54 32).toNat) x11) 54 32 ((mI Mq7 54 32) + 1)) 54 32 = (mI Mq7 54 32) + 1 := rfl
          exact ih7 (sI (sI Mq7 63 ((mI Mq7 54 32).toNat) x11) 54 32 ((mI Mq7 54 32) + 1)) (v3 + 1) hB18 kp16 kp17 (by omega) (by omega) (by omega) (by omega)
        · refine vc_goto dX12_takeTurns_21 ?_
          refine vc_iincE dX12_takeTurns_49 rfl (by omega) (by omega) (by decide) rfl (show _ = [some (aR 54), some (aI t), some (aI wo), some (aI (v3 + 1))] from rfl) ?_
          refine vc_goto dX12_takeTurns_52 ?_
          exact ih7 Mq7 (v3 + 1) hQ7 kp7_57 kp7_55 (by omega) (by omega) (by omega) (by omega)
  have k20 : mI (sI M 54 32 0) 54 32 = 0 := rfl
  exact lp7 _ (sI M 54 32 0) 0 hB3 kp1 kp2 (by omega) (by omega) (by omega) (Nat.lt_succ_self _)
