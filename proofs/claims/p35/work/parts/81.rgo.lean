/-! CONTRACTS of the reference: goings, steps, plays (written by wip/p35/c81.py) -/
set_option maxRecDepth 4000 in
theorem sfX12_nameTeller {l : Launch} {M : Mem} (hB : Box M)  (t : Int) (p0 : 0 ≤ t) (p1 : t ≤ 5) : Call l mdX12_nameTeller [aR 54, aI t] M (fun q N => q = none ∧ BD M N ∧ mI N 54 = mI M 54 ∧ mI N 55 = mI M 55 ∧ mI N 57 = mI M 57 ∧ mI N 58 = mI M 58 ∧ mI N 63 = mI M 63 ∧ mI N 64 = mI M 64 ∧ mI N 65 = mI M 65 ∧ mI N 67 = mI M 67 ∧ mI N 68 = mI M 68 ∧ mI N 69 = mI M 69 ∧ mI N 70 = mI M 70 ∧ mI N 71 = mI M 71 ∧ mI N 72 = mI M 72 ∧ mI N 73 = mI M 73 ∧ mI N 74 = mI M 74) := by
  have hB0 := BD.start hB
  refine Call.of [some (aR 54), some (aI t)] rfl (Nat.le_of_ble_eq_true rfl) rfl ?_
  refine vc_aload_n dX12_nameTeller_0 rfl ?_
  refine vc_getR dX12_nameTeller_1 flX12_35 (s_54 hB0.1.1) rfl (r_54_22 hB0.1.1) ?_
  refine vc_iconst dX12_nameTeller_4 rfl ?_
  refine vc_iload_n dX12_nameTeller_5 rfl ?_
  refine vc_iastore dX12_nameTeller_6 (s_61 hB0.1.1) (by omega) (by omega) ?_
  refine vc_mem (sI M 61 0 t) rfl ?_
  have kp1 : mI (sI M 61 0 t) 64 = mI M 64 := (kp_sI rfl rfl)
  have kp2 : mI (sI M 61 0 t) 65 = mI M 65 := (kp_sI rfl rfl)
  have kp3 : mI (sI M 61 0 t) 67 = mI M 67 := (kp_sI rfl rfl)
  have kp4 : mI (sI M 61 0 t) 68 = mI M 68 := (kp_sI rfl rfl)
  have kp5 : mI (sI M 61 0 t) 69 = mI M 69 := (kp_sI rfl rfl)
  have kp6 : mI (sI M 61 0 t) 70 = mI M 70 := (kp_sI rfl rfl)
  have kp7 : mI (sI M 61 0 t) 71 = mI M 71 := (kp_sI rfl rfl)
  have kp8 : mI (sI M 61 0 t) 72 = mI M 72 := (kp_sI rfl rfl)
  have kp9 : mI (sI M 61 0 t) 73 = mI M 73 := (kp_sI rfl rfl)
  have kp10 : mI (sI M 61 0 t) 74 = mI M 74 := (kp_sI rfl rfl)
  have kp11 : mI (sI M 61 0 t) 54 = mI M 54 := (kp_sI rfl rfl)
  have kp12 : mI (sI M 61 0 t) 55 = mI M 55 := (kp_sI rfl rfl)
  have kp13 : mI (sI M 61 0 t) 57 = mI M 57 := (kp_sI rfl rfl)
  have kp14 : mI (sI M 61 0 t) 58 = mI M 58 := (kp_sI rfl rfl)
  have kp15 : mI (sI M 61 0 t) 63 = mI M 63 := (kp_sI rfl rfl)
  have hB16 : BD M (sI M 61 0 t) := BD.w61 hB0 _
  refine vc_aload_n dX12_nameTeller_7 rfl ?_
  refine vc_getR dX12_nameTeller_8 flX12_35 (s_54 hB16.1.1) rfl (r_54_22 hB16.1.1) ?_
  refine vc_iconst dX12_nameTeller_11 rfl ?_
  refine vc_aload_n dX12_nameTeller_12 rfl ?_
  refine vc_iload_n dX12_nameTeller_13 rfl ?_
  refine vc_cVI dX12_nameTeller_14 (sfX12_cornerOf (M := (sI M 61 0 t)) hB16.1  t (by omega) (by omega)) rfl okX12_cornerOf viX12_cornerOf lkX12_296 (s_54 hB16.1.1) cl_12 rfl (Nat.le_of_ble_eq_true rfl) ⟨rfl, rfl⟩ (Nat.le_of_ble_eq_true rfl) (Nat.le_of_ble_eq_true rfl) (Nat.le_of_ble_eq_true rfl) ?_
  rintro x17 _ ⟨rfl, h18, h19⟩
  refine vc_iastore dX12_nameTeller_17 (s_61 hB16.1.1) (by omega) (by omega) ?_
  refine vc_mem (sI (sI M 61 0 t) 61 1 x17) rfl ?_
  have kp20 : mI (sI (sI M 61 0 t) 61 1 x17) 64 = mI M 64 := (kp_sI kp1 rfl)
  have kp21 : mI (sI (sI M 61 0 t) 61 1 x17) 65 = mI M 65 := (kp_sI kp2 rfl)
  have kp22 : mI (sI (sI M 61 0 t) 61 1 x17) 67 = mI M 67 := (kp_sI kp3 rfl)
  have kp23 : mI (sI (sI M 61 0 t) 61 1 x17) 68 = mI M 68 := (kp_sI kp4 rfl)
  have kp24 : mI (sI (sI M 61 0 t) 61 1 x17) 69 = mI M 69 := (kp_sI kp5 rfl)
  have kp25 : mI (sI (sI M 61 0 t) 61 1 x17) 70 = mI M 70 := (kp_sI kp6 rfl)
  have kp26 : mI (sI (sI M 61 0 t) 61 1 x17) 71 = mI M 71 := (kp_sI kp7 rfl)
  have kp27 : mI (sI (sI M 61 0 t) 61 1 x17) 72 = mI M 72 := (kp_sI kp8 rfl)
  have kp28 : mI (sI (sI M 61 0 t) 61 1 x17) 73 = mI M 73 := (kp_sI kp9 rfl)
  have kp29 : mI (sI (sI M 61 0 t) 61 1 x17) 74 = mI M 74 := (kp_sI kp10 rfl)
  have kp30 : mI (sI (sI M 61 0 t) 61 1 x17) 54 = mI M 54 := (kp_sI kp11 rfl)
  have kp31 : mI (sI (sI M 61 0 t) 61 1 x17) 55 = mI M 55 := (kp_sI kp12 rfl)
  have kp32 : mI (sI (sI M 61 0 t) 61 1 x17) 57 = mI M 57 := (kp_sI kp13 rfl)
  have kp33 : mI (sI (sI M 61 0 t) 61 1 x17) 58 = mI M 58 := (kp_sI kp14 rfl)
  have kp34 : mI (sI (sI M 61 0 t) 61 1 x17) 63 = mI M 63 := (kp_sI kp15 rfl)
  have hB35 : BD M (sI (sI M 61 0 t) 61 1 x17) := BD.w61 hB16 _
  refine vc_aload_n dX12_nameTeller_18 rfl ?_
  refine vc_getR dX12_nameTeller_19 flX12_35 (s_54 hB35.1.1) rfl (r_54_22 hB35.1.1) ?_
  refine vc_iconst dX12_nameTeller_22 rfl ?_
  refine vc_aload_n dX12_nameTeller_23 rfl ?_
  refine vc_getR dX12_nameTeller_24 flX12_7 (s_54 hB35.1.1) rfl (r_54_0 hB35.1.1) ?_
  refine vc_sipush dX12_nameTeller_27 rfl ?_
  refine vc_iconst dX12_nameTeller_30 rfl ?_
  refine vc_iload_n dX12_nameTeller_31 rfl ?_
  refine vc_imulE dX12_nameTeller_32 (by omega) (by omega) ?_
  refine vc_iaddE dX12_nameTeller_33 (by omega) (by omega) ?_
  refine vc_iconst dX12_nameTeller_34 rfl ?_
  refine vc_iaddE dX12_nameTeller_35 (by omega) (by omega) ?_
  refine vc_iaload dX12_nameTeller_36 (s_55 hB35.1.1) (by omega) (by omega) ?_
  refine vc_topI (mI M 55 (((154 + (5 * t)) + 4).toNat)) rfl ?_
  have k36 : mI M 55 (((154 + (5 * t)) + 4).toNat) = mI M 55 (((154 + (5 * t)) + 4).toNat) := congrFun kp31 (((154 + (5 * t)) + 4).toNat)
  refine vc_iastore dX12_nameTeller_37 (s_61 hB35.1.1) (by omega) (by omega) ?_
  refine vc_mem (sI (sI (sI M 61 0 t) 61 1 x17) 61 2 (mI M 55 (((154 + (5 * t)) + 4).toNat))) rfl ?_
  have kp37 : mI (sI (sI (sI M 61 0 t) 61 1 x17) 61 2 (mI M 55 (((154 + (5 * t)) + 4).toNat))) 64 = mI M 64 := (kp_sI kp20 rfl)
  have kp38 : mI (sI (sI (sI M 61 0 t) 61 1 x17) 61 2 (mI M 55 (((154 + (5 * t)) + 4).toNat))) 65 = mI M 65 := (kp_sI kp21 rfl)
  have kp39 : mI (sI (sI (sI M 61 0 t) 61 1 x17) 61 2 (mI M 55 (((154 + (5 * t)) + 4).toNat))) 67 = mI M 67 := (kp_sI kp22 rfl)
  have kp40 : mI (sI (sI (sI M 61 0 t) 61 1 x17) 61 2 (mI M 55 (((154 + (5 * t)) + 4).toNat))) 68 = mI M 68 := (kp_sI kp23 rfl)
  have kp41 : mI (sI (sI (sI M 61 0 t) 61 1 x17) 61 2 (mI M 55 (((154 + (5 * t)) + 4).toNat))) 69 = mI M 69 := (kp_sI kp24 rfl)
  have kp42 : mI (sI (sI (sI M 61 0 t) 61 1 x17) 61 2 (mI M 55 (((154 + (5 * t)) + 4).toNat))) 70 = mI M 70 := (kp_sI kp25 rfl)
  have kp43 : mI (sI (sI (sI M 61 0 t) 61 1 x17) 61 2 (mI M 55 (((154 + (5 * t)) + 4).toNat))) 71 = mI M 71 := (kp_sI kp26 rfl)
  have kp44 : mI (sI (sI (sI M 61 0 t) 61 1 x17) 61 2 (mI M 55 (((154 + (5 * t)) + 4).toNat))) 72 = mI M 72 := (kp_sI kp27 rfl)
  have kp45 : mI (sI (sI (sI M 61 0 t) 61 1 x17) 61 2 (mI M 55 (((154 + (5 * t)) + 4).toNat))) 73 = mI M 73 := (kp_sI kp28 rfl)
  have kp46 : mI (sI (sI (sI M 61 0 t) 61 1 x17) 61 2 (mI M 55 (((154 + (5 * t)) + 4).toNat))) 74 = mI M 74 := (kp_sI kp29 rfl)
  have kp47 : mI (sI (sI (sI M 61 0 t) 61 1 x17) 61 2 (mI M 55 (((154 + (5 * t)) + 4).toNat))) 54 = mI M 54 := (kp_sI kp30 rfl)
  have kp48 : mI (sI (sI (sI M 61 0 t) 61 1 x17) 61 2 (mI M 55 (((154 + (5 * t)) + 4).toNat))) 55 = mI M 55 := (kp_sI kp31 rfl)
  have kp49 : mI (sI (sI (sI M 61 0 t) 61 1 x17) 61 2 (mI M 55 (((154 + (5 * t)) + 4).toNat))) 57 = mI M 57 := (kp_sI kp32 rfl)
  have kp50 : mI (sI (sI (sI M 61 0 t) 61 1 x17) 61 2 (mI M 55 (((154 + (5 * t)) + 4).toNat))) 58 = mI M 58 := (kp_sI kp33 rfl)
  have kp51 : mI (sI (sI (sI M 61 0 t) 61 1 x17) 61 2 (mI M 55 (((154 + (5 * t)) + 4).toNat))) 63 = mI M 63 := (kp_sI kp34 rfl)
  have hB52 : BD M (sI (sI (sI M 61 0 t) 61 1 x17) 61 2 (mI M 55 (((154 + (5 * t)) + 4).toNat))) := BD.w61 hB35 _
  refine vc_vret dX12_nameTeller_38 rfl (Nat.le_of_ble_eq_true rfl) (Nat.le_of_ble_eq_true rfl) ?_
  exact ⟨rfl, hB52, kp47, kp48, kp49, kp50, kp51, kp37, kp38, kp39, kp40, kp41, kp42, kp43, kp44, kp45, kp46⟩

set_option maxRecDepth 4000 in
theorem sfX12_slipOf {l : Launch} {M : Mem} (hB : Box M)  (t : Int) (s : Int) (p0 : 0 ≤ t) (p1 : t ≤ 7) (p2 : 0 ≤ s) (p3 : s ≤ 2) : Call l mdX12_slipOf [aR 54, aI t, aI s] M (fun q N => ∃ r : Int, q = some (aI r) ∧ BD M N ∧ mI N 54 = mI M 54 ∧ mI N 55 = mI M 55 ∧ mI N 57 = mI M 57 ∧ mI N 58 = mI M 58 ∧ mI N 63 = mI M 63 ∧ mI N 64 = mI M 64 ∧ mI N 65 = mI M 65 ∧ mI N 67 = mI M 67 ∧ mI N 68 = mI M 68 ∧ mI N 69 = mI M 69 ∧ mI N 70 = mI M 70 ∧ mI N 71 = mI M 71 ∧ mI N 72 = mI M 72 ∧ mI N 73 = mI M 73 ∧ mI N 74 = mI M 74) := by
  have hB0 := BD.start hB
  refine Call.of [some (aR 54), some (aI t), some (aI s), none] rfl (Nat.le_of_ble_eq_true rfl) rfl ?_
  refine vc_aload_n dX12_slipOf_0 rfl ?_
  refine vc_iload_n dX12_slipOf_1 rfl ?_
  refine vc_cVI dX12_slipOf_2 (sfX12_tellerOf (M := M) hB0.1  t (by omega) (by omega)) rfl okX12_tellerOf viX12_tellerOf lkX12_299 (s_54 hB0.1.1) cl_12 rfl (Nat.le_of_ble_eq_true rfl) ⟨rfl, rfl⟩ (Nat.le_of_ble_eq_true rfl) (Nat.le_of_ble_eq_true rfl) (Nat.le_of_ble_eq_true rfl) ?_
  rintro x1 _ ⟨rfl, h2, h3⟩
  refine vc_istore_n dX12_slipOf_5 (by decide) rfl (show _ = [some (aR 54), some (aI t), some (aI s), some (aI x1)] from rfl) ?_
  refine vc_aload_n dX12_slipOf_6 rfl ?_
  refine vc_iload_n dX12_slipOf_7 rfl ?_
  refine vc_cVU dX12_slipOf_8 (sfX12_nameTeller (M := M) hB0.1  x1 (by omega) (by omega)) rfl okX12_nameTeller viX12_nameTeller lkX12_302 (s_54 hB0.1.1) cl_12 rfl (Nat.le_of_ble_eq_true rfl) ⟨rfl, rfl⟩ (Nat.le_of_ble_eq_true rfl) (Nat.le_of_ble_eq_true rfl) (Nat.le_of_ble_eq_true rfl) ?_
  rintro M4 ⟨hB5, kp6, kp7, kp8, kp9, kp10, kp11, kp12, kp13, kp14, kp15, kp16, kp17, kp18, kp19, kp20⟩
  have hB21 : BD M M4 := BD.go hB0 hB5
  have kp22 : mI M4 64 = mI M 64 := kp_go rfl kp11
  have kp23 : mI M4 65 = mI M 65 := kp_go rfl kp12
  have kp24 : mI M4 67 = mI M 67 := kp_go rfl kp13
  have kp25 : mI M4 68 = mI M 68 := kp_go rfl kp14
  have kp26 : mI M4 69 = mI M 69 := kp_go rfl kp15
  have kp27 : mI M4 70 = mI M 70 := kp_go rfl kp16
  have kp28 : mI M4 71 = mI M 71 := kp_go rfl kp17
  have kp29 : mI M4 72 = mI M 72 := kp_go rfl kp18
  have kp30 : mI M4 73 = mI M 73 := kp_go rfl kp19
  have kp31 : mI M4 74 = mI M 74 := kp_go rfl kp20
  have kp32 : mI M4 54 = mI M 54 := kp_go rfl kp6
  have kp33 : mI M4 55 = mI M 55 := kp_go rfl kp7
  have kp34 : mI M4 57 = mI M 57 := kp_go rfl kp8
  have kp35 : mI M4 58 = mI M 58 := kp_go rfl kp9
  have kp36 : mI M4 63 = mI M 63 := kp_go rfl kp10
  refine vc_aload_n dX12_slipOf_11 rfl ?_
  refine vc_getR dX12_slipOf_12 flX12_35 (s_54 hB21.1.1) rfl (r_54_22 hB21.1.1) ?_
  refine vc_iconst dX12_slipOf_15 rfl ?_
  refine vc_aload_n dX12_slipOf_16 rfl ?_
  refine vc_iload_n dX12_slipOf_17 rfl ?_
  refine vc_cVI dX12_slipOf_18 (sfX12_turnsOf (M := M4) hB21.1  t (by omega) (by omega)) rfl okX12_turnsOf viX12_turnsOf lkX12_305 (s_54 hB21.1.1) cl_12 rfl (Nat.le_of_ble_eq_true rfl) ⟨rfl, rfl⟩ (Nat.le_of_ble_eq_true rfl) (Nat.le_of_ble_eq_true rfl) (Nat.le_of_ble_eq_true rfl) ?_
  rintro x37 _ ⟨rfl, h38, h39, h40⟩
  refine vc_iastore dX12_slipOf_21 (s_61 hB21.1.1) (by omega) (by omega) ?_
  refine vc_mem (sI M4 61 3 x37) rfl ?_
  have kp41 : mI (sI M4 61 3 x37) 64 = mI M 64 := (kp_sI kp22 rfl)
  have kp42 : mI (sI M4 61 3 x37) 65 = mI M 65 := (kp_sI kp23 rfl)
  have kp43 : mI (sI M4 61 3 x37) 67 = mI M 67 := (kp_sI kp24 rfl)
  have kp44 : mI (sI M4 61 3 x37) 68 = mI M 68 := (kp_sI kp25 rfl)
  have kp45 : mI (sI M4 61 3 x37) 69 = mI M 69 := (kp_sI kp26 rfl)
  have kp46 : mI (sI M4 61 3 x37) 70 = mI M 70 := (kp_sI kp27 rfl)
  have kp47 : mI (sI M4 61 3 x37) 71 = mI M 71 := (kp_sI kp28 rfl)
  have kp48 : mI (sI M4 61 3 x37) 72 = mI M 72 := (kp_sI kp29 rfl)
  have kp49 : mI (sI M4 61 3 x37) 73 = mI M 73 := (kp_sI kp30 rfl)
  have kp50 : mI (sI M4 61 3 x37) 74 = mI M 74 := (kp_sI kp31 rfl)
  have kp51 : mI (sI M4 61 3 x37) 54 = mI M 54 := (kp_sI kp32 rfl)
  have kp52 : mI (sI M4 61 3 x37) 55 = mI M 55 := (kp_sI kp33 rfl)
  have kp53 : mI (sI M4 61 3 x37) 57 = mI M 57 := (kp_sI kp34 rfl)
  have kp54 : mI (sI M4 61 3 x37) 58 = mI M 58 := (kp_sI kp35 rfl)
  have kp55 : mI (sI M4 61 3 x37) 63 = mI M 63 := (kp_sI kp36 rfl)
  have hB56 : BD M (sI M4 61 3 x37) := BD.w61 hB21 _
  refine vc_aload_n dX12_slipOf_22 rfl ?_
  refine vc_getR dX12_slipOf_23 flX12_35 (s_54 hB56.1.1) rfl (r_54_22 hB56.1.1) ?_
  refine vc_iconst dX12_slipOf_26 rfl ?_
  refine vc_aload_n dX12_slipOf_27 rfl ?_
  refine vc_iload_n dX12_slipOf_28 rfl ?_
  refine vc_cVI dX12_slipOf_29 (sfX12_facingOf (M := (sI M4 61 3 x37)) hB56.1  t (by omega) (by omega)) rfl okX12_facingOf viX12_facingOf lkX12_308 (s_54 hB56.1.1) cl_12 rfl (Nat.le_of_ble_eq_true rfl) ⟨rfl, rfl⟩ (Nat.le_of_ble_eq_true rfl) (Nat.le_of_ble_eq_true rfl) (Nat.le_of_ble_eq_true rfl) ?_
  rintro x57 _ ⟨rfl, h58, h59⟩
  refine vc_iastore dX12_slipOf_32 (s_61 hB56.1.1) (by omega) (by omega) ?_
  refine vc_mem (sI (sI M4 61 3 x37) 61 4 x57) rfl ?_
  have kp60 : mI (sI (sI M4 61 3 x37) 61 4 x57) 64 = mI M 64 := (kp_sI kp41 rfl)
  have kp61 : mI (sI (sI M4 61 3 x37) 61 4 x57) 65 = mI M 65 := (kp_sI kp42 rfl)
  have kp62 : mI (sI (sI M4 61 3 x37) 61 4 x57) 67 = mI M 67 := (kp_sI kp43 rfl)
  have kp63 : mI (sI (sI M4 61 3 x37) 61 4 x57) 68 = mI M 68 := (kp_sI kp44 rfl)
  have kp64 : mI (sI (sI M4 61 3 x37) 61 4 x57) 69 = mI M 69 := (kp_sI kp45 rfl)
  have kp65 : mI (sI (sI M4 61 3 x37) 61 4 x57) 70 = mI M 70 := (kp_sI kp46 rfl)
  have kp66 : mI (sI (sI M4 61 3 x37) 61 4 x57) 71 = mI M 71 := (kp_sI kp47 rfl)
  have kp67 : mI (sI (sI M4 61 3 x37) 61 4 x57) 72 = mI M 72 := (kp_sI kp48 rfl)
  have kp68 : mI (sI (sI M4 61 3 x37) 61 4 x57) 73 = mI M 73 := (kp_sI kp49 rfl)
  have kp69 : mI (sI (sI M4 61 3 x37) 61 4 x57) 74 = mI M 74 := (kp_sI kp50 rfl)
  have kp70 : mI (sI (sI M4 61 3 x37) 61 4 x57) 54 = mI M 54 := (kp_sI kp51 rfl)
  have kp71 : mI (sI (sI M4 61 3 x37) 61 4 x57) 55 = mI M 55 := (kp_sI kp52 rfl)
  have kp72 : mI (sI (sI M4 61 3 x37) 61 4 x57) 57 = mI M 57 := (kp_sI kp53 rfl)
  have kp73 : mI (sI (sI M4 61 3 x37) 61 4 x57) 58 = mI M 58 := (kp_sI kp54 rfl)
  have kp74 : mI (sI (sI M4 61 3 x37) 61 4 x57) 63 = mI M 63 := (kp_sI kp55 rfl)
  have hB75 : BD M (sI (sI M4 61 3 x37) 61 4 x57) := BD.w61 hB56 _
  refine vc_aload_n dX12_slipOf_33 rfl ?_
  refine vc_getR dX12_slipOf_34 flX12_35 (s_54 hB75.1.1) rfl (r_54_22 hB75.1.1) ?_
  refine vc_iconst dX12_slipOf_37 rfl ?_
  refine vc_aload_n dX12_slipOf_38 rfl ?_
  refine vc_getR dX12_slipOf_39 flX12_7 (s_54 hB75.1.1) rfl (r_54_0 hB75.1.1) ?_
  refine vc_sipush dX12_slipOf_42 rfl ?_
  refine vc_iconst dX12_slipOf_45 rfl ?_
  refine vc_iload_n dX12_slipOf_46 rfl ?_
  refine vc_imulE dX12_slipOf_47 (by omega) (by omega) ?_
  refine vc_iaddE dX12_slipOf_48 (by omega) (by omega) ?_
  refine vc_iconst dX12_slipOf_49 rfl ?_
  refine vc_iaddE dX12_slipOf_50 (by omega) (by omega) ?_
  refine vc_iload_n dX12_slipOf_51 rfl ?_
  refine vc_iaddE dX12_slipOf_52 (by omega) (by omega) ?_
  refine vc_iaload dX12_slipOf_53 (s_55 hB75.1.1) (by omega) (by omega) ?_
  refine vc_topI (mI M4 55 ((((154 + (5 * x1)) + 1) + s).toNat)) rfl ?_
  have k76 : mI M4 55 ((((154 + (5 * x1)) + 1) + s).toNat) = mI M 55 ((((154 + (5 * x1)) + 1) + s).toNat) := congrFun kp71 ((((154 + (5 * x1)) + 1) + s).toNat)
  refine vc_iastore dX12_slipOf_54 (s_61 hB75.1.1) (by omega) (by omega) ?_
  refine vc_mem (sI (sI (sI M4 61 3 x37) 61 4 x57) 61 5 (mI M4 55 ((((154 + (5 * x1)) + 1) + s).toNat))) rfl ?_
  have kp77 : mI (sI (sI (sI M4 61 3 x37) 61 4 x57) 61 5 (mI M4 55 ((((154 + (5 * x1)) + 1) + s).toNat))) 64 = mI M 64 := (kp_sI kp60 rfl)
  have kp78 : mI (sI (sI (sI M4 61 3 x37) 61 4 x57) 61 5 (mI M4 55 ((((154 + (5 * x1)) + 1) + s).toNat))) 65 = mI M 65 := (kp_sI kp61 rfl)
  have kp79 : mI (sI (sI (sI M4 61 3 x37) 61 4 x57) 61 5 (mI M4 55 ((((154 + (5 * x1)) + 1) + s).toNat))) 67 = mI M 67 := (kp_sI kp62 rfl)
  have kp80 : mI (sI (sI (sI M4 61 3 x37) 61 4 x57) 61 5 (mI M4 55 ((((154 + (5 * x1)) + 1) + s).toNat))) 68 = mI M 68 := (kp_sI kp63 rfl)
  have kp81 : mI (sI (sI (sI M4 61 3 x37) 61 4 x57) 61 5 (mI M4 55 ((((154 + (5 * x1)) + 1) + s).toNat))) 69 = mI M 69 := (kp_sI kp64 rfl)
  have kp82 : mI (sI (sI (sI M4 61 3 x37) 61 4 x57) 61 5 (mI M4 55 ((((154 + (5 * x1)) + 1) + s).toNat))) 70 = mI M 70 := (kp_sI kp65 rfl)
  have kp83 : mI (sI (sI (sI M4 61 3 x37) 61 4 x57) 61 5 (mI M4 55 ((((154 + (5 * x1)) + 1) + s).toNat))) 71 = mI M 71 := (kp_sI kp66 rfl)
  have kp84 : mI (sI (sI (sI M4 61 3 x37) 61 4 x57) 61 5 (mI M4 55 ((((154 + (5 * x1)) + 1) + s).toNat))) 72 = mI M 72 := (kp_sI kp67 rfl)
  have kp85 : mI (sI (sI (sI M4 61 3 x37) 61 4 x57) 61 5 (mI M4 55 ((((154 + (5 * x1)) + 1) + s).toNat))) 73 = mI M 73 := (kp_sI kp68 rfl)
  have kp86 : mI (sI (sI (sI M4 61 3 x37) 61 4 x57) 61 5 (mI M4 55 ((((154 + (5 * x1)) + 1) + s).toNat))) 74 = mI M 74 := (kp_sI kp69 rfl)
  have kp87 : mI (sI (sI (sI M4 61 3 x37) 61 4 x57) 61 5 (mI M4 55 ((((154 + (5 * x1)) + 1) + s).toNat))) 54 = mI M 54 := (kp_sI kp70 rfl)
  have kp88 : mI (sI (sI (sI M4 61 3 x37) 61 4 x57) 61 5 (mI M4 55 ((((154 + (5 * x1)) + 1) + s).toNat))) 55 = mI M 55 := (kp_sI kp71 rfl)
  have kp89 : mI (sI (sI (sI M4 61 3 x37) 61 4 x57) 61 5 (mI M4 55 ((((154 + (5 * x1)) + 1) + s).toNat))) 57 = mI M 57 := (kp_sI kp72 rfl)
  have kp90 : mI (sI (sI (sI M4 61 3 x37) 61 4 x57) 61 5 (mI M4 55 ((((154 + (5 * x1)) + 1) + s).toNat))) 58 = mI M 58 := (kp_sI kp73 rfl)
  have kp91 : mI (sI (sI (sI M4 61 3 x37) 61 4 x57) 61 5 (mI M4 55 ((((154 + (5 * x1)) + 1) + s).toNat))) 63 = mI M 63 := (kp_sI kp74 rfl)
  have hB92 : BD M (sI (sI (sI M4 61 3 x37) 61 4 x57) 61 5 (mI M4 55 ((((154 + (5 * x1)) + 1) + s).toNat))) := BD.w61 hB75 _
  refine vc_aload_n dX12_slipOf_55 rfl ?_
  refine vc_iconst dX12_slipOf_56 rfl ?_
  refine vc_iload_n dX12_slipOf_57 rfl ?_
  refine vc_iaddE dX12_slipOf_58 (by omega) (by omega) ?_
  refine vc_aload_n dX12_slipOf_59 rfl ?_
  refine vc_getR dX12_slipOf_60 flX12_35 (s_54 hB92.1.1) rfl (r_54_22 hB92.1.1) ?_
  refine vc_iconst dX12_slipOf_63 rfl ?_
  refine vc_iaload dX12_slipOf_64 (s_61 hB92.1.1) (by omega) (by omega) ?_
  refine vc_topI (mI M4 55 ((((154 + (5 * x1)) + 1) + s).toNat)) rfl ?_
  refine vc_iconst dX12_slipOf_65 rfl ?_
  refine vc_bipush dX12_slipOf_66 rfl ?_
  refine vc_cVI dX12_slipOf_68 (sfX12_says (M := (sI (sI (sI M4 61 3 x37) 61 4 x57) 61 5 (mI M4 55 ((((154 + (5 * x1)) + 1) + s).toNat)))) hB92.1  (0 + s) (mI M4 55 ((((154 + (5 * x1)) + 1) + s).toNat)) 0 10 (by omega) (by omega)) rfl okX12_says viX12_says lkX12_311 (s_54 hB92.1.1) cl_12 rfl (Nat.le_of_ble_eq_true rfl) ⟨rfl, rfl⟩ (Nat.le_of_ble_eq_true rfl) (Nat.le_of_ble_eq_true rfl) (Nat.le_of_ble_eq_true rfl) ?_
  rintro x93 M94 ⟨hB95, kp96, kp97, kp98, kp99, kp100, kp101, kp102, kp103, kp104, kp105, kp106, kp107, kp108, kp109, kp110, kp111⟩
  have hB112 : BD M M94 := BD.go hB92 hB95
  have kp113 : mI M94 64 = mI M 64 := kp_go kp77 kp102
  have kp114 : mI M94 65 = mI M 65 := kp_go kp78 kp103
  have kp115 : mI M94 67 = mI M 67 := kp_go kp79 kp104
  have kp116 : mI M94 68 = mI M 68 := kp_go kp80 kp105
  have kp117 : mI M94 69 = mI M 69 := kp_go kp81 kp106
  have kp118 : mI M94 70 = mI M 70 := kp_go kp82 kp107
  have kp119 : mI M94 71 = mI M 71 := kp_go kp83 kp108
  have kp120 : mI M94 72 = mI M 72 := kp_go kp84 kp109
  have kp121 : mI M94 73 = mI M 73 := kp_go kp85 kp110
  have kp122 : mI M94 74 = mI M 74 := kp_go kp86 kp111
  have kp123 : mI M94 54 = mI M 54 := kp_go kp87 kp96
  have kp124 : mI M94 55 = mI M 55 := kp_go kp88 kp97
  have kp125 : mI M94 57 = mI M 57 := kp_go kp89 kp98
  have kp126 : mI M94 58 = mI M 58 := kp_go kp90 kp99
  have kp127 : mI M94 63 = mI M 63 := kp_go kp91 kp101
  refine vc_iret dX12_slipOf_71 rfl (Nat.le_of_ble_eq_true rfl) (Nat.le_of_ble_eq_true rfl) ?_
  exact ⟨_, rfl, hB112, kp123, kp124, kp125, kp126, kp127, kp113, kp114, kp115, kp116, kp117, kp118, kp119, kp120, kp121, kp122⟩

set_option maxRecDepth 4000 in
theorem sfX12_paceOf {l : Launch} {M : Mem} (hB : Box M)  (c : Int) (d : Int) (p0 : 0 ≤ c) (p1 : c ≤ 15) (p2 : 0 ≤ d) (p3 : d ≤ 3) : Call l mdX12_paceOf [aR 54, aI c, aI d] M (fun q N => ∃ r : Int, q = some (aI r) ∧ BD M N ∧ mI N 54 = mI M 54 ∧ mI N 55 = mI M 55 ∧ mI N 57 = mI M 57 ∧ mI N 58 = mI M 58 ∧ mI N 63 = mI M 63 ∧ mI N 64 = mI M 64 ∧ mI N 65 = mI M 65 ∧ mI N 67 = mI M 67 ∧ mI N 68 = mI M 68 ∧ mI N 69 = mI M 69 ∧ mI N 70 = mI M 70 ∧ mI N 71 = mI M 71 ∧ mI N 72 = mI M 72 ∧ mI N 73 = mI M 73 ∧ mI N 74 = mI M 74) := by
  have hB0 := BD.start hB
  refine Call.of [some (aR 54), some (aI c), some (aI d)] rfl (Nat.le_of_ble_eq_true rfl) rfl ?_
  refine vc_aload_n dX12_paceOf_0 rfl ?_
  refine vc_getR dX12_paceOf_1 flX12_35 (s_54 hB0.1.1) rfl (r_54_22 hB0.1.1) ?_
  refine vc_bipush dX12_paceOf_4 rfl ?_
  refine vc_aload_n dX12_paceOf_6 rfl ?_
  refine vc_iload_n dX12_paceOf_7 rfl ?_
  refine vc_iload_n dX12_paceOf_8 rfl ?_
  refine vc_cVI dX12_paceOf_9 (sfX12_isLane (M := M) hB0.1  c d (by omega) (by omega) (by omega) (by omega)) rfl okX12_isLane viX12_isLane lkX12_315 (s_54 hB0.1.1) cl_12 rfl (Nat.le_of_ble_eq_true rfl) ⟨rfl, rfl⟩ (Nat.le_of_ble_eq_true rfl) (Nat.le_of_ble_eq_true rfl) (Nat.le_of_ble_eq_true rfl) ?_
  rintro x1 _ ⟨rfl, h2, h3⟩
  refine vc_if_eq dX12_paceOf_12 (fun h4 => ?_) (fun h4 => ?_)
  · refine vc_iconst dX12_paceOf_19 rfl ?_
    refine vc_iastore dX12_paceOf_20 (s_61 hB0.1.1) (by omega) (by omega) ?_
    refine vc_mem (sI M 61 6 0) rfl ?_
    have kp5 : mI (sI M 61 6 0) 64 = mI M 64 := (kp_sI rfl rfl)
    have kp6 : mI (sI M 61 6 0) 65 = mI M 65 := (kp_sI rfl rfl)
    have kp7 : mI (sI M 61 6 0) 67 = mI M 67 := (kp_sI rfl rfl)
    have kp8 : mI (sI M 61 6 0) 68 = mI M 68 := (kp_sI rfl rfl)
    have kp9 : mI (sI M 61 6 0) 69 = mI M 69 := (kp_sI rfl rfl)
    have kp10 : mI (sI M 61 6 0) 70 = mI M 70 := (kp_sI rfl rfl)
    have kp11 : mI (sI M 61 6 0) 71 = mI M 71 := (kp_sI rfl rfl)
    have kp12 : mI (sI M 61 6 0) 72 = mI M 72 := (kp_sI rfl rfl)
    have kp13 : mI (sI M 61 6 0) 73 = mI M 73 := (kp_sI rfl rfl)
    have kp14 : mI (sI M 61 6 0) 74 = mI M 74 := (kp_sI rfl rfl)
    have kp15 : mI (sI M 61 6 0) 54 = mI M 54 := (kp_sI rfl rfl)
    have kp16 : mI (sI M 61 6 0) 55 = mI M 55 := (kp_sI rfl rfl)
    have kp17 : mI (sI M 61 6 0) 57 = mI M 57 := (kp_sI rfl rfl)
    have kp18 : mI (sI M 61 6 0) 58 = mI M 58 := (kp_sI rfl rfl)
    have kp19 : mI (sI M 61 6 0) 63 = mI M 63 := (kp_sI rfl rfl)
    have hB20 : BD M (sI M 61 6 0) := BD.w61 hB0 _
    refine vc_aload_n dX12_paceOf_21 rfl ?_
    refine vc_getR dX12_paceOf_22 flX12_35 (s_54 hB20.1.1) rfl (r_54_22 hB20.1.1) ?_
    refine vc_bipush dX12_paceOf_25 rfl ?_
    refine vc_aload_n dX12_paceOf_27 rfl ?_
    refine vc_aload_n dX12_paceOf_28 rfl ?_
    refine vc_iload_n dX12_paceOf_29 rfl ?_
    refine vc_iload_n dX12_paceOf_30 rfl ?_
    refine vc_cVI dX12_paceOf_31 (sfX12_streetOf (M := (sI M 61 6 0)) hB20.1  c d (by omega) (by omega) (by omega) (by omega)) rfl okX12_streetOf viX12_streetOf lkX12_91 (s_54 hB20.1.1) cl_12 rfl (Nat.le_of_ble_eq_true rfl) ⟨rfl, rfl⟩ (Nat.le_of_ble_eq_true rfl) (Nat.le_of_ble_eq_true rfl) (Nat.le_of_ble_eq_true rfl) ?_
    rintro x21 _ ⟨rfl, h22, h23, h24⟩
    refine vc_cVI dX12_paceOf_34 (sfX12_sightOf (M := (sI M 61 6 0)) hB20.1  x21 (by omega) (by omega)) rfl okX12_sightOf viX12_sightOf lkX12_318 (s_54 hB20.1.1) cl_12 rfl (Nat.le_of_ble_eq_true rfl) ⟨rfl, rfl⟩ (Nat.le_of_ble_eq_true rfl) (Nat.le_of_ble_eq_true rfl) (Nat.le_of_ble_eq_true rfl) ?_
    rintro x25 _ rfl
    refine vc_iastore dX12_paceOf_37 (s_61 hB20.1.1) (by omega) (by omega) ?_
    refine vc_mem (sI (sI M 61 6 0) 61 7 x25) rfl ?_
    have kp26 : mI (sI (sI M 61 6 0) 61 7 x25) 64 = mI M 64 := (kp_sI kp5 rfl)
    have kp27 : mI (sI (sI M 61 6 0) 61 7 x25) 65 = mI M 65 := (kp_sI kp6 rfl)
    have kp28 : mI (sI (sI M 61 6 0) 61 7 x25) 67 = mI M 67 := (kp_sI kp7 rfl)
    have kp29 : mI (sI (sI M 61 6 0) 61 7 x25) 68 = mI M 68 := (kp_sI kp8 rfl)
    have kp30 : mI (sI (sI M 61 6 0) 61 7 x25) 69 = mI M 69 := (kp_sI kp9 rfl)
    have kp31 : mI (sI (sI M 61 6 0) 61 7 x25) 70 = mI M 70 := (kp_sI kp10 rfl)
    have kp32 : mI (sI (sI M 61 6 0) 61 7 x25) 71 = mI M 71 := (kp_sI kp11 rfl)
    have kp33 : mI (sI (sI M 61 6 0) 61 7 x25) 72 = mI M 72 := (kp_sI kp12 rfl)
    have kp34 : mI (sI (sI M 61 6 0) 61 7 x25) 73 = mI M 73 := (kp_sI kp13 rfl)
    have kp35 : mI (sI (sI M 61 6 0) 61 7 x25) 74 = mI M 74 := (kp_sI kp14 rfl)
    have kp36 : mI (sI (sI M 61 6 0) 61 7 x25) 54 = mI M 54 := (kp_sI kp15 rfl)
    have kp37 : mI (sI (sI M 61 6 0) 61 7 x25) 55 = mI M 55 := (kp_sI kp16 rfl)
    have kp38 : mI (sI (sI M 61 6 0) 61 7 x25) 57 = mI M 57 := (kp_sI kp17 rfl)
    have kp39 : mI (sI (sI M 61 6 0) 61 7 x25) 58 = mI M 58 := (kp_sI kp18 rfl)
    have kp40 : mI (sI (sI M 61 6 0) 61 7 x25) 63 = mI M 63 := (kp_sI kp19 rfl)
    have hB41 : BD M (sI (sI M 61 6 0) 61 7 x25) := BD.w61 hB20 _
    refine vc_aload_n dX12_paceOf_38 rfl ?_
    refine vc_getR dX12_paceOf_39 flX12_35 (s_54 hB41.1.1) rfl (r_54_22 hB41.1.1) ?_
    refine vc_bipush dX12_paceOf_42 rfl ?_
    refine vc_iload_n dX12_paceOf_44 rfl ?_
    refine vc_iastore dX12_paceOf_45 (s_61 hB41.1.1) (by omega) (by omega) ?_
    refine vc_mem (sI (sI (sI M 61 6 0) 61 7 x25) 61 8 d) rfl ?_
    have kp42 : mI (sI (sI (sI M 61 6 0) 61 7 x25) 61 8 d) 64 = mI M 64 := (kp_sI kp26 rfl)
    have kp43 : mI (sI (sI (sI M 61 6 0) 61 7 x25) 61 8 d) 65 = mI M 65 := (kp_sI kp27 rfl)
    have kp44 : mI (sI (sI (sI M 61 6 0) 61 7 x25) 61 8 d) 67 = mI M 67 := (kp_sI kp28 rfl)
    have kp45 : mI (sI (sI (sI M 61 6 0) 61 7 x25) 61 8 d) 68 = mI M 68 := (kp_sI kp29 rfl)
    have kp46 : mI (sI (sI (sI M 61 6 0) 61 7 x25) 61 8 d) 69 = mI M 69 := (kp_sI kp30 rfl)
    have kp47 : mI (sI (sI (sI M 61 6 0) 61 7 x25) 61 8 d) 70 = mI M 70 := (kp_sI kp31 rfl)
    have kp48 : mI (sI (sI (sI M 61 6 0) 61 7 x25) 61 8 d) 71 = mI M 71 := (kp_sI kp32 rfl)
    have kp49 : mI (sI (sI (sI M 61 6 0) 61 7 x25) 61 8 d) 72 = mI M 72 := (kp_sI kp33 rfl)
    have kp50 : mI (sI (sI (sI M 61 6 0) 61 7 x25) 61 8 d) 73 = mI M 73 := (kp_sI kp34 rfl)
    have kp51 : mI (sI (sI (sI M 61 6 0) 61 7 x25) 61 8 d) 74 = mI M 74 := (kp_sI kp35 rfl)
    have kp52 : mI (sI (sI (sI M 61 6 0) 61 7 x25) 61 8 d) 54 = mI M 54 := (kp_sI kp36 rfl)
    have kp53 : mI (sI (sI (sI M 61 6 0) 61 7 x25) 61 8 d) 55 = mI M 55 := (kp_sI kp37 rfl)
    have kp54 : mI (sI (sI (sI M 61 6 0) 61 7 x25) 61 8 d) 57 = mI M 57 := (kp_sI kp38 rfl)
    have kp55 : mI (sI (sI (sI M 61 6 0) 61 7 x25) 61 8 d) 58 = mI M 58 := (kp_sI kp39 rfl)
    have kp56 : mI (sI (sI (sI M 61 6 0) 61 7 x25) 61 8 d) 63 = mI M 63 := (kp_sI kp40 rfl)
    have hB57 : BD M (sI (sI (sI M 61 6 0) 61 7 x25) 61 8 d) := BD.w61 hB41 _
    refine vc_aload_n dX12_paceOf_46 rfl ?_
    refine vc_iconst dX12_paceOf_47 rfl ?_
    refine vc_bipush dX12_paceOf_48 rfl ?_
    refine vc_iconst dX12_paceOf_50 rfl ?_
    refine vc_bipush dX12_paceOf_51 rfl ?_
    refine vc_cVI dX12_paceOf_53 (sfX12_says (M := (sI (sI (sI M 61 6 0) 61 7 x25) 61 8 d)) hB57.1  3 10 1 99 (by omega) (by omega)) rfl okX12_says viX12_says lkX12_311 (s_54 hB57.1.1) cl_12 rfl (Nat.le_of_ble_eq_true rfl) ⟨rfl, rfl⟩ (Nat.le_of_ble_eq_true rfl) (Nat.le_of_ble_eq_true rfl) (Nat.le_of_ble_eq_true rfl) ?_
    rintro x58 M59 ⟨hB60, kp61, kp62, kp63, kp64, kp65, kp66, kp67, kp68, kp69, kp70, kp71, kp72, kp73, kp74, kp75, kp76⟩
    have hB77 : BD M M59 := BD.go hB57 hB60
    have kp78 : mI M59 64 = mI M 64 := kp_go kp42 kp67
    have kp79 : mI M59 65 = mI M 65 := kp_go kp43 kp68
    have kp80 : mI M59 67 = mI M 67 := kp_go kp44 kp69
    have kp81 : mI M59 68 = mI M 68 := kp_go kp45 kp70
    have kp82 : mI M59 69 = mI M 69 := kp_go kp46 kp71
    have kp83 : mI M59 70 = mI M 70 := kp_go kp47 kp72
    have kp84 : mI M59 71 = mI M 71 := kp_go kp48 kp73
    have kp85 : mI M59 72 = mI M 72 := kp_go kp49 kp74
    have kp86 : mI M59 73 = mI M 73 := kp_go kp50 kp75
    have kp87 : mI M59 74 = mI M 74 := kp_go kp51 kp76
    have kp88 : mI M59 54 = mI M 54 := kp_go kp52 kp61
    have kp89 : mI M59 55 = mI M 55 := kp_go kp53 kp62
    have kp90 : mI M59 57 = mI M 57 := kp_go kp54 kp63
    have kp91 : mI M59 58 = mI M 58 := kp_go kp55 kp64
    have kp92 : mI M59 63 = mI M 63 := kp_go kp56 kp66
    refine vc_iret dX12_paceOf_56 rfl (Nat.le_of_ble_eq_true rfl) (Nat.le_of_ble_eq_true rfl) ?_
    exact ⟨_, rfl, hB77, kp88, kp89, kp90, kp91, kp92, kp78, kp79, kp80, kp81, kp82, kp83, kp84, kp85, kp86, kp87⟩
  · refine vc_iconst dX12_paceOf_15 rfl ?_
    refine vc_goto dX12_paceOf_16 ?_
    refine vc_iastore dX12_paceOf_20 (s_61 hB0.1.1) (by omega) (by omega) ?_
    refine vc_mem (sI M 61 6 1) rfl ?_
    have kp93 : mI (sI M 61 6 1) 64 = mI M 64 := (kp_sI rfl rfl)
    have kp94 : mI (sI M 61 6 1) 65 = mI M 65 := (kp_sI rfl rfl)
    have kp95 : mI (sI M 61 6 1) 67 = mI M 67 := (kp_sI rfl rfl)
    have kp96 : mI (sI M 61 6 1) 68 = mI M 68 := (kp_sI rfl rfl)
    have kp97 : mI (sI M 61 6 1) 69 = mI M 69 := (kp_sI rfl rfl)
    have kp98 : mI (sI M 61 6 1) 70 = mI M 70 := (kp_sI rfl rfl)
    have kp99 : mI (sI M 61 6 1) 71 = mI M 71 := (kp_sI rfl rfl)
    have kp100 : mI (sI M 61 6 1) 72 = mI M 72 := (kp_sI rfl rfl)
    have kp101 : mI (sI M 61 6 1) 73 = mI M 73 := (kp_sI rfl rfl)
    have kp102 : mI (sI M 61 6 1) 74 = mI M 74 := (kp_sI rfl rfl)
    have kp103 : mI (sI M 61 6 1) 54 = mI M 54 := (kp_sI rfl rfl)
    have kp104 : mI (sI M 61 6 1) 55 = mI M 55 := (kp_sI rfl rfl)
    have kp105 : mI (sI M 61 6 1) 57 = mI M 57 := (kp_sI rfl rfl)
    have kp106 : mI (sI M 61 6 1) 58 = mI M 58 := (kp_sI rfl rfl)
    have kp107 : mI (sI M 61 6 1) 63 = mI M 63 := (kp_sI rfl rfl)
    have hB108 : BD M (sI M 61 6 1) := BD.w61 hB0 _
    refine vc_aload_n dX12_paceOf_21 rfl ?_
    refine vc_getR dX12_paceOf_22 flX12_35 (s_54 hB108.1.1) rfl (r_54_22 hB108.1.1) ?_
    refine vc_bipush dX12_paceOf_25 rfl ?_
    refine vc_aload_n dX12_paceOf_27 rfl ?_
    refine vc_aload_n dX12_paceOf_28 rfl ?_
    refine vc_iload_n dX12_paceOf_29 rfl ?_
    refine vc_iload_n dX12_paceOf_30 rfl ?_
    refine vc_cVI dX12_paceOf_31 (sfX12_streetOf (M := (sI M 61 6 1)) hB108.1  c d (by omega) (by omega) (by omega) (by omega)) rfl okX12_streetOf viX12_streetOf lkX12_91 (s_54 hB108.1.1) cl_12 rfl (Nat.le_of_ble_eq_true rfl) ⟨rfl, rfl⟩ (Nat.le_of_ble_eq_true rfl) (Nat.le_of_ble_eq_true rfl) (Nat.le_of_ble_eq_true rfl) ?_
    rintro x109 _ ⟨rfl, h110, h111, h112⟩
    refine vc_cVI dX12_paceOf_34 (sfX12_sightOf (M := (sI M 61 6 1)) hB108.1  x109 (by omega) (by omega)) rfl okX12_sightOf viX12_sightOf lkX12_318 (s_54 hB108.1.1) cl_12 rfl (Nat.le_of_ble_eq_true rfl) ⟨rfl, rfl⟩ (Nat.le_of_ble_eq_true rfl) (Nat.le_of_ble_eq_true rfl) (Nat.le_of_ble_eq_true rfl) ?_
    rintro x113 _ rfl
    refine vc_iastore dX12_paceOf_37 (s_61 hB108.1.1) (by omega) (by omega) ?_
    refine vc_mem (sI (sI M 61 6 1) 61 7 x113) rfl ?_
    have kp114 : mI (sI (sI M 61 6 1) 61 7 x113) 64 = mI M 64 := (kp_sI kp93 rfl)
    have kp115 : mI (sI (sI M 61 6 1) 61 7 x113) 65 = mI M 65 := (kp_sI kp94 rfl)
    have kp116 : mI (sI (sI M 61 6 1) 61 7 x113) 67 = mI M 67 := (kp_sI kp95 rfl)
    have kp117 : mI (sI (sI M 61 6 1) 61 7 x113) 68 = mI M 68 := (kp_sI kp96 rfl)
    have kp118 : mI (sI (sI M 61 6 1) 61 7 x113) 69 = mI M 69 := (kp_sI kp97 rfl)
    have kp119 : mI (sI (sI M 61 6 1) 61 7 x113) 70 = mI M 70 := (kp_sI kp98 rfl)
    have kp120 : mI (sI (sI M 61 6 1) 61 7 x113) 71 = mI M 71 := (kp_sI kp99 rfl)
    have kp121 : mI (sI (sI M 61 6 1) 61 7 x113) 72 = mI M 72 := (kp_sI kp100 rfl)
    have kp122 : mI (sI (sI M 61 6 1) 61 7 x113) 73 = mI M 73 := (kp_sI kp101 rfl)
    have kp123 : mI (sI (sI M 61 6 1) 61 7 x113) 74 = mI M 74 := (kp_sI kp102 rfl)
    have kp124 : mI (sI (sI M 61 6 1) 61 7 x113) 54 = mI M 54 := (kp_sI kp103 rfl)
    have kp125 : mI (sI (sI M 61 6 1) 61 7 x113) 55 = mI M 55 := (kp_sI kp104 rfl)
    have kp126 : mI (sI (sI M 61 6 1) 61 7 x113) 57 = mI M 57 := (kp_sI kp105 rfl)
    have kp127 : mI (sI (sI M 61 6 1) 61 7 x113) 58 = mI M 58 := (kp_sI kp106 rfl)
    have kp128 : mI (sI (sI M 61 6 1) 61 7 x113) 63 = mI M 63 := (kp_sI kp107 rfl)
    have hB129 : BD M (sI (sI M 61 6 1) 61 7 x113) := BD.w61 hB108 _
    refine vc_aload_n dX12_paceOf_38 rfl ?_
    refine vc_getR dX12_paceOf_39 flX12_35 (s_54 hB129.1.1) rfl (r_54_22 hB129.1.1) ?_
    refine vc_bipush dX12_paceOf_42 rfl ?_
    refine vc_iload_n dX12_paceOf_44 rfl ?_
    refine vc_iastore dX12_paceOf_45 (s_61 hB129.1.1) (by omega) (by omega) ?_
    refine vc_mem (sI (sI (sI M 61 6 1) 61 7 x113) 61 8 d) rfl ?_
    have kp130 : mI (sI (sI (sI M 61 6 1) 61 7 x113) 61 8 d) 64 = mI M 64 := (kp_sI kp114 rfl)
    have kp131 : mI (sI (sI (sI M 61 6 1) 61 7 x113) 61 8 d) 65 = mI M 65 := (kp_sI kp115 rfl)
    have kp132 : mI (sI (sI (sI M 61 6 1) 61 7 x113) 61 8 d) 67 = mI M 67 := (kp_sI kp116 rfl)
    have kp133 : mI (sI (sI (sI M 61 6 1) 61 7 x113) 61 8 d) 68 = mI M 68 := (kp_sI kp117 rfl)
    have kp134 : mI (sI (sI (sI M 61 6 1) 61 7 x113) 61 8 d) 69 = mI M 69 := (kp_sI kp118 rfl)
    have kp135 : mI (sI (sI (sI M 61 6 1) 61 7 x113) 61 8 d) 70 = mI M 70 := (kp_sI kp119 rfl)
    have kp136 : mI (sI (sI (sI M 61 6 1) 61 7 x113) 61 8 d) 71 = mI M 71 := (kp_sI kp120 rfl)
    have kp137 : mI (sI (sI (sI M 61 6 1) 61 7 x113) 61 8 d) 72 = mI M 72 := (kp_sI kp121 rfl)
    have kp138 : mI (sI (sI (sI M 61 6 1) 61 7 x113) 61 8 d) 73 = mI M 73 := (kp_sI kp122 rfl)
    have kp139 : mI (sI (sI (sI M 61 6 1) 61 7 x113) 61 8 d) 74 = mI M 74 := (kp_sI kp123 rfl)
    have kp140 : mI (sI (sI (sI M 61 6 1) 61 7 x113) 61 8 d) 54 = mI M 54 := (kp_sI kp124 rfl)
    have kp141 : mI (sI (sI (sI M 61 6 1) 61 7 x113) 61 8 d) 55 = mI M 55 := (kp_sI kp125 rfl)
    have kp142 : mI (sI (sI (sI M 61 6 1) 61 7 x113) 61 8 d) 57 = mI M 57 := (kp_sI kp126 rfl)
    have kp143 : mI (sI (sI (sI M 61 6 1) 61 7 x113) 61 8 d) 58 = mI M 58 := (kp_sI kp127 rfl)
    have kp144 : mI (sI (sI (sI M 61 6 1) 61 7 x113) 61 8 d) 63 = mI M 63 := (kp_sI kp128 rfl)
    have hB145 : BD M (sI (sI (sI M 61 6 1) 61 7 x113) 61 8 d) := BD.w61 hB129 _
    refine vc_aload_n dX12_paceOf_46 rfl ?_
    refine vc_iconst dX12_paceOf_47 rfl ?_
    refine vc_bipush dX12_paceOf_48 rfl ?_
    refine vc_iconst dX12_paceOf_50 rfl ?_
    refine vc_bipush dX12_paceOf_51 rfl ?_
    refine vc_cVI dX12_paceOf_53 (sfX12_says (M := (sI (sI (sI M 61 6 1) 61 7 x113) 61 8 d)) hB145.1  3 10 1 99 (by omega) (by omega)) rfl okX12_says viX12_says lkX12_311 (s_54 hB145.1.1) cl_12 rfl (Nat.le_of_ble_eq_true rfl) ⟨rfl, rfl⟩ (Nat.le_of_ble_eq_true rfl) (Nat.le_of_ble_eq_true rfl) (Nat.le_of_ble_eq_true rfl) ?_
    rintro x146 M147 ⟨hB148, kp149, kp150, kp151, kp152, kp153, kp154, kp155, kp156, kp157, kp158, kp159, kp160, kp161, kp162, kp163, kp164⟩
    have hB165 : BD M M147 := BD.go hB145 hB148
    have kp166 : mI M147 64 = mI M 64 := kp_go kp130 kp155
    have kp167 : mI M147 65 = mI M 65 := kp_go kp131 kp156
    have kp168 : mI M147 67 = mI M 67 := kp_go kp132 kp157
    have kp169 : mI M147 68 = mI M 68 := kp_go kp133 kp158
    have kp170 : mI M147 69 = mI M 69 := kp_go kp134 kp159
    have kp171 : mI M147 70 = mI M 70 := kp_go kp135 kp160
    have kp172 : mI M147 71 = mI M 71 := kp_go kp136 kp161
    have kp173 : mI M147 72 = mI M 72 := kp_go kp137 kp162
    have kp174 : mI M147 73 = mI M 73 := kp_go kp138 kp163
    have kp175 : mI M147 74 = mI M 74 := kp_go kp139 kp164
    have kp176 : mI M147 54 = mI M 54 := kp_go kp140 kp149
    have kp177 : mI M147 55 = mI M 55 := kp_go kp141 kp150
    have kp178 : mI M147 57 = mI M 57 := kp_go kp142 kp151
    have kp179 : mI M147 58 = mI M 58 := kp_go kp143 kp152
    have kp180 : mI M147 63 = mI M 63 := kp_go kp144 kp154
    refine vc_iret dX12_paceOf_56 rfl (Nat.le_of_ble_eq_true rfl) (Nat.le_of_ble_eq_true rfl) ?_
    exact ⟨_, rfl, hB165, kp176, kp177, kp178, kp179, kp180, kp166, kp167, kp168, kp169, kp170, kp171, kp172, kp173, kp174, kp175⟩

set_option maxRecDepth 4000 in
theorem sfX12_asksOf {l : Launch} {M : Mem} (hB : Box M)  (t : Int) (p0 : 0 ≤ t) (p1 : t ≤ 5) : Call l mdX12_asksOf [aR 54, aI t] M (fun q N => ∃ r : Int, q = some (aI r) ∧ BD M N ∧ mI N 54 = mI M 54 ∧ mI N 55 = mI M 55 ∧ mI N 57 = mI M 57 ∧ mI N 58 = mI M 58 ∧ mI N 63 = mI M 63 ∧ mI N 64 = mI M 64 ∧ mI N 65 = mI M 65 ∧ mI N 67 = mI M 67 ∧ mI N 68 = mI M 68 ∧ mI N 69 = mI M 69 ∧ mI N 70 = mI M 70 ∧ mI N 71 = mI M 71 ∧ mI N 72 = mI M 72 ∧ mI N 73 = mI M 73 ∧ mI N 74 = mI M 74) := by
  have hB0 := BD.start hB
  refine Call.of [some (aR 54), some (aI t)] rfl (Nat.le_of_ble_eq_true rfl) rfl ?_
  refine vc_aload_n dX12_asksOf_0 rfl ?_
  refine vc_iload_n dX12_asksOf_1 rfl ?_
  refine vc_cVU dX12_asksOf_2 (sfX12_nameTeller (M := M) hB0.1  t (by omega) (by omega)) rfl okX12_nameTeller viX12_nameTeller lkX12_302 (s_54 hB0.1.1) cl_12 rfl (Nat.le_of_ble_eq_true rfl) ⟨rfl, rfl⟩ (Nat.le_of_ble_eq_true rfl) (Nat.le_of_ble_eq_true rfl) (Nat.le_of_ble_eq_true rfl) ?_
  rintro M1 ⟨hB2, kp3, kp4, kp5, kp6, kp7, kp8, kp9, kp10, kp11, kp12, kp13, kp14, kp15, kp16, kp17⟩
  have hB18 : BD M M1 := BD.go hB0 hB2
  have kp19 : mI M1 64 = mI M 64 := kp_go rfl kp8
  have kp20 : mI M1 65 = mI M 65 := kp_go rfl kp9
  have kp21 : mI M1 67 = mI M 67 := kp_go rfl kp10
  have kp22 : mI M1 68 = mI M 68 := kp_go rfl kp11
  have kp23 : mI M1 69 = mI M 69 := kp_go rfl kp12
  have kp24 : mI M1 70 = mI M 70 := kp_go rfl kp13
  have kp25 : mI M1 71 = mI M 71 := kp_go rfl kp14
  have kp26 : mI M1 72 = mI M 72 := kp_go rfl kp15
  have kp27 : mI M1 73 = mI M 73 := kp_go rfl kp16
  have kp28 : mI M1 74 = mI M 74 := kp_go rfl kp17
  have kp29 : mI M1 54 = mI M 54 := kp_go rfl kp3
  have kp30 : mI M1 55 = mI M 55 := kp_go rfl kp4
  have kp31 : mI M1 57 = mI M 57 := kp_go rfl kp5
  have kp32 : mI M1 58 = mI M 58 := kp_go rfl kp6
  have kp33 : mI M1 63 = mI M 63 := kp_go rfl kp7
  refine vc_aload_n dX12_asksOf_5 rfl ?_
  refine vc_iconst dX12_asksOf_6 rfl ?_
  refine vc_bipush dX12_asksOf_7 rfl ?_
  refine vc_iconst dX12_asksOf_9 rfl ?_
  refine vc_bipush dX12_asksOf_10 rfl ?_
  refine vc_cVI dX12_asksOf_12 (sfX12_says (M := M1) hB18.1  4 20 0 99 (by omega) (by omega)) rfl okX12_says viX12_says lkX12_311 (s_54 hB18.1.1) cl_12 rfl (Nat.le_of_ble_eq_true rfl) ⟨rfl, rfl⟩ (Nat.le_of_ble_eq_true rfl) (Nat.le_of_ble_eq_true rfl) (Nat.le_of_ble_eq_true rfl) ?_
  rintro x34 M35 ⟨hB36, kp37, kp38, kp39, kp40, kp41, kp42, kp43, kp44, kp45, kp46, kp47, kp48, kp49, kp50, kp51, kp52⟩
  have hB53 : BD M M35 := BD.go hB18 hB36
  have kp54 : mI M35 64 = mI M 64 := kp_go kp19 kp43
  have kp55 : mI M35 65 = mI M 65 := kp_go kp20 kp44
  have kp56 : mI M35 67 = mI M 67 := kp_go kp21 kp45
  have kp57 : mI M35 68 = mI M 68 := kp_go kp22 kp46
  have kp58 : mI M35 69 = mI M 69 := kp_go kp23 kp47
  have kp59 : mI M35 70 = mI M 70 := kp_go kp24 kp48
  have kp60 : mI M35 71 = mI M 71 := kp_go kp25 kp49
  have kp61 : mI M35 72 = mI M 72 := kp_go kp26 kp50
  have kp62 : mI M35 73 = mI M 73 := kp_go kp27 kp51
  have kp63 : mI M35 74 = mI M 74 := kp_go kp28 kp52
  have kp64 : mI M35 54 = mI M 54 := kp_go kp29 kp37
  have kp65 : mI M35 55 = mI M 55 := kp_go kp30 kp38
  have kp66 : mI M35 57 = mI M 57 := kp_go kp31 kp39
  have kp67 : mI M35 58 = mI M 58 := kp_go kp32 kp40
  have kp68 : mI M35 63 = mI M 63 := kp_go kp33 kp42
  refine vc_iret dX12_asksOf_15 rfl (Nat.le_of_ble_eq_true rfl) (Nat.le_of_ble_eq_true rfl) ?_
  exact ⟨_, rfl, hB53, kp64, kp65, kp66, kp67, kp68, kp54, kp55, kp56, kp57, kp58, kp59, kp60, kp61, kp62, kp63⟩

set_option maxRecDepth 4000 in
theorem sfX12_ofTelling {l : Launch} {M : Mem} (hB : Box M)  (t : Int) (w : Int)  : Call l mdX12_ofTelling [aR 54, aI t, aI w] M (fun q N => ∃ r : Int, q = some (aI r) ∧ BD M N) := by
  have hB0 := BD.start hB
  refine Call.of [some (aR 54), some (aI t), some (aI w)] rfl (Nat.le_of_ble_eq_true rfl) rfl ?_
  refine vc_ok (fun hoM hoS hoL => ?_)
  have hr1 : -2147483648 ≤ t ∧ t < 2147483648 := hoL 1 _ rfl
  have hr2 : -2147483648 ≤ w ∧ w < 2147483648 := hoL 2 _ rfl
  refine vc_aload_n dX12_ofTelling_0 rfl ?_
  refine vc_iload_n dX12_ofTelling_1 rfl ?_
  refine vc_cVI dX12_ofTelling_2 (sfX12_isTelling (M := M) hB0.1  t ) rfl okX12_isTelling viX12_isTelling lkX12_400 (s_54 hB0.1.1) cl_12 rfl (Nat.le_of_ble_eq_true rfl) ⟨rfl, rfl⟩ (Nat.le_of_ble_eq_true rfl) (Nat.le_of_ble_eq_true rfl) (Nat.le_of_ble_eq_true rfl) ?_
  rintro x1 _ ⟨rfl, h2, h3, h4⟩
  refine vc_if_ne dX12_ofTelling_5 (fun h5 => ?_) (fun h5 => ?_)
  · refine vc_iload_n dX12_ofTelling_10 rfl ?_
    refine vc_bipush dX12_ofTelling_11 rfl ?_
    refine vc_bipush dX12_ofTelling_13 rfl ?_
    refine vc_aload_n dX12_ofTelling_15 rfl ?_
    refine vc_iload_n dX12_ofTelling_16 rfl ?_
    refine vc_cVI dX12_ofTelling_17 (sfX12_turnsOf (M := M) hB0.1  t (by omega) (by omega)) rfl okX12_turnsOf viX12_turnsOf lkX12_305 (s_54 hB0.1.1) cl_12 rfl (Nat.le_of_ble_eq_true rfl) ⟨rfl, rfl⟩ (Nat.le_of_ble_eq_true rfl) (Nat.le_of_ble_eq_true rfl) (Nat.le_of_ble_eq_true rfl) ?_
    rintro x6 _ ⟨rfl, h7, h8, h9⟩
    refine vc_iaddE dX12_ofTelling_20 (by omega) (by omega) ?_
    refine vc_cSI dX12_ofTelling_21 (sfX12_isIn (M := M) hB0.1  w 10 (9 + x6) ) rfl okX12_isIn stX12_isIn lkX12_83 rfl (Nat.le_of_ble_eq_true rfl) ⟨rfl, rfl⟩ (Nat.le_of_ble_eq_true rfl) (Nat.le_of_ble_eq_true rfl) (Nat.le_of_ble_eq_true rfl) ?_
    rintro x10 _ ⟨rfl, h11, h12, h13⟩
    refine vc_if_eq dX12_ofTelling_24 (fun h14 => ?_) (fun h14 => ?_)
    · refine vc_iload_n dX12_ofTelling_37 rfl ?_
      refine vc_iconst dX12_ofTelling_38 rfl ?_
      refine vc_iconst dX12_ofTelling_39 rfl ?_
      refine vc_cSI dX12_ofTelling_40 (sfX12_isIn (M := M) hB0.1  w 3 5 ) rfl okX12_isIn stX12_isIn lkX12_83 rfl (Nat.le_of_ble_eq_true rfl) ⟨rfl, rfl⟩ (Nat.le_of_ble_eq_true rfl) (Nat.le_of_ble_eq_true rfl) (Nat.le_of_ble_eq_true rfl) ?_
      rintro x15 _ ⟨rfl, h16, h17, h18⟩
      refine vc_if_eq dX12_ofTelling_43 (fun h19 => ?_) (fun h19 => ?_)
      · refine vc_iload_n dX12_ofTelling_55 rfl ?_
        refine vc_iconst dX12_ofTelling_56 rfl ?_
        refine vc_iconst dX12_ofTelling_57 rfl ?_
        refine vc_cSI dX12_ofTelling_58 (sfX12_isIn (M := M) hB0.1  w 0 2 ) rfl okX12_isIn stX12_isIn lkX12_83 rfl (Nat.le_of_ble_eq_true rfl) ⟨rfl, rfl⟩ (Nat.le_of_ble_eq_true rfl) (Nat.le_of_ble_eq_true rfl) (Nat.le_of_ble_eq_true rfl) ?_
        rintro x20 _ ⟨rfl, h21, h22, h23⟩
        refine vc_if_eq dX12_ofTelling_61 (fun h24 => ?_) (fun h24 => ?_)
        · refine vc_iconst dX12_ofTelling_82 rfl ?_
          refine vc_iret dX12_ofTelling_83 rfl (Nat.le_of_ble_eq_true rfl) (Nat.le_of_ble_eq_true rfl) ?_
          exact ⟨_, rfl, hB0⟩
        · refine vc_aload_n dX12_ofTelling_64 rfl ?_
          refine vc_getR dX12_ofTelling_65 flX12_7 (s_54 hB0.1.1) rfl (r_54_0 hB0.1.1) ?_
          refine vc_sipush dX12_ofTelling_68 rfl ?_
          refine vc_bipush dX12_ofTelling_71 rfl ?_
          refine vc_iload_n dX12_ofTelling_73 rfl ?_
          refine vc_imulE dX12_ofTelling_74 (by omega) (by omega) ?_
          refine vc_iaddE dX12_ofTelling_75 (by omega) (by omega) ?_
          refine vc_iload_n dX12_ofTelling_76 rfl ?_
          refine vc_iaddE dX12_ofTelling_77 (by omega) (by omega) ?_
          refine vc_iaload dX12_ofTelling_78 (s_55 hB0.1.1) (by omega) (by omega) ?_
          refine vc_goto dX12_ofTelling_79 ?_
          refine vc_iret dX12_ofTelling_83 rfl (Nat.le_of_ble_eq_true rfl) (Nat.le_of_ble_eq_true rfl) ?_
          exact ⟨_, rfl, hB0⟩
      · refine vc_aload_n dX12_ofTelling_46 rfl ?_
        refine vc_iload_n dX12_ofTelling_47 rfl ?_
        refine vc_iload_n dX12_ofTelling_48 rfl ?_
        refine vc_iconst dX12_ofTelling_49 rfl ?_
        refine vc_isubE dX12_ofTelling_50 (by omega) (by omega) ?_
        refine vc_cVI dX12_ofTelling_51 (sfX12_slipOf (M := M) hB0.1  t (w - 3) (by omega) (by omega) (by omega) (by omega)) rfl okX12_slipOf viX12_slipOf lkX12_446 (s_54 hB0.1.1) cl_12 rfl (Nat.le_of_ble_eq_true rfl) ⟨rfl, rfl⟩ (Nat.le_of_ble_eq_true rfl) (Nat.le_of_ble_eq_true rfl) (Nat.le_of_ble_eq_true rfl) ?_
        rintro x25 M26 ⟨hB27, kp28, kp29, kp30, kp31, kp32, kp33, kp34, kp35, kp36, kp37, kp38, kp39, kp40, kp41, kp42⟩
        have hB43 : BD M M26 := BD.go hB0 hB27
        refine vc_iret dX12_ofTelling_54 rfl (Nat.le_of_ble_eq_true rfl) (Nat.le_of_ble_eq_true rfl) ?_
        exact ⟨_, rfl, hB43⟩
    · refine vc_aload_n dX12_ofTelling_27 rfl ?_
      refine vc_iload_n dX12_ofTelling_28 rfl ?_
      refine vc_iload_n dX12_ofTelling_29 rfl ?_
      refine vc_bipush dX12_ofTelling_30 rfl ?_
      refine vc_isubE dX12_ofTelling_32 (by omega) (by omega) ?_
      refine vc_cVI dX12_ofTelling_33 (sfX12_turnAt (M := M) hB0.1  t (w - 10) (by omega) (by omega) (by omega) (by omega)) rfl okX12_turnAt viX12_turnAt lkX12_358 (s_54 hB0.1.1) cl_12 rfl (Nat.le_of_ble_eq_true rfl) ⟨rfl, rfl⟩ (Nat.le_of_ble_eq_true rfl) (Nat.le_of_ble_eq_true rfl) (Nat.le_of_ble_eq_true rfl) ?_
      rintro x44 _ rfl
      refine vc_iret dX12_ofTelling_36 rfl (Nat.le_of_ble_eq_true rfl) (Nat.le_of_ble_eq_true rfl) ?_
      exact ⟨_, rfl, hB0⟩
  · refine vc_iconst dX12_ofTelling_8 rfl ?_
    refine vc_iret dX12_ofTelling_9 rfl (Nat.le_of_ble_eq_true rfl) (Nat.le_of_ble_eq_true rfl) ?_
    exact ⟨_, rfl, hB0⟩

set_option maxRecDepth 4000 in
theorem sfX12_begin {l : Launch} {M : Mem} (hB : Box M)  (c : Int) (f : Int) (p0 : 0 ≤ c) (p1 : c ≤ 15) (p2 : 0 ≤ f) (p3 : f ≤ 3) : Call l mdX12_begin [aR 54, aI c, aI f] M (fun q N => q = none ∧ BD M N ∧ mI N 55 = mI M 55 ∧ mI N 57 = mI M 57 ∧ mI N 58 = mI M 58 ∧ mI N 63 = mI M 63 ∧ mI N 64 = mI M 64 ∧ mI N 65 = mI M 65 ∧ mI N 67 = mI M 67 ∧ mI N 68 = mI M 68 ∧ mI N 69 = mI M 69 ∧ mI N 70 = mI M 70 ∧ mI N 71 = mI M 71 ∧ mI N 72 = mI M 72 ∧ mI N 73 = mI M 73 ∧ mI N 74 = mI M 74 ∧ mI N 54 32 = mI M 54 32) := by
  have hB0 := BD.start hB
  refine Call.of [some (aR 54), some (aI c), some (aI f)] rfl (Nat.le_of_ble_eq_true rfl) rfl ?_
  refine vc_aload_n dX12_begin_0 rfl ?_
  refine vc_iload_n dX12_begin_1 rfl ?_
  refine vc_putI dX12_begin_2 (plX12_321 _ rfl) (s_54 hB0.1.1) rfl ?_
  have kp1 : mI (sI M 54 24 c) 64 = mI M 64 := (kp_sI rfl rfl)
  have kp2 : mI (sI M 54 24 c) 65 = mI M 65 := (kp_sI rfl rfl)
  have kp3 : mI (sI M 54 24 c) 67 = mI M 67 := (kp_sI rfl rfl)
  have kp4 : mI (sI M 54 24 c) 68 = mI M 68 := (kp_sI rfl rfl)
  have kp5 : mI (sI M 54 24 c) 69 = mI M 69 := (kp_sI rfl rfl)
  have kp6 : mI (sI M 54 24 c) 70 = mI M 70 := (kp_sI rfl rfl)
  have kp7 : mI (sI M 54 24 c) 71 = mI M 71 := (kp_sI rfl rfl)
  have kp8 : mI (sI M 54 24 c) 72 = mI M 72 := (kp_sI rfl rfl)
  have kp9 : mI (sI M 54 24 c) 73 = mI M 73 := (kp_sI rfl rfl)
  have kp10 : mI (sI M 54 24 c) 74 = mI M 74 := (kp_sI rfl rfl)
  have kp11 : mI (sI M 54 24 c) 55 = mI M 55 := (kp_sI rfl rfl)
  have kp12 : mI (sI M 54 24 c) 57 = mI M 57 := (kp_sI rfl rfl)
  have kp13 : mI (sI M 54 24 c) 58 = mI M 58 := (kp_sI rfl rfl)
  have kp14 : mI (sI M 54 24 c) 63 = mI M 63 := (kp_sI rfl rfl)
  have hB15 : BD M (sI M 54 24 c) := BD.w54_24 hB0 (by omega) (by omega)
  refine vc_aload_n dX12_begin_5 rfl ?_
  refine vc_iload_n dX12_begin_6 rfl ?_
  refine vc_putI dX12_begin_7 (plX12_324 _ rfl) (s_54 hB15.1.1) rfl ?_
  have kp16 : mI (sI (sI M 54 24 c) 54 25 f) 64 = mI M 64 := (kp_sI kp1 rfl)
  have kp17 : mI (sI (sI M 54 24 c) 54 25 f) 65 = mI M 65 := (kp_sI kp2 rfl)
  have kp18 : mI (sI (sI M 54 24 c) 54 25 f) 67 = mI M 67 := (kp_sI kp3 rfl)
  have kp19 : mI (sI (sI M 54 24 c) 54 25 f) 68 = mI M 68 := (kp_sI kp4 rfl)
  have kp20 : mI (sI (sI M 54 24 c) 54 25 f) 69 = mI M 69 := (kp_sI kp5 rfl)
  have kp21 : mI (sI (sI M 54 24 c) 54 25 f) 70 = mI M 70 := (kp_sI kp6 rfl)
  have kp22 : mI (sI (sI M 54 24 c) 54 25 f) 71 = mI M 71 := (kp_sI kp7 rfl)
  have kp23 : mI (sI (sI M 54 24 c) 54 25 f) 72 = mI M 72 := (kp_sI kp8 rfl)
  have kp24 : mI (sI (sI M 54 24 c) 54 25 f) 73 = mI M 73 := (kp_sI kp9 rfl)
  have kp25 : mI (sI (sI M 54 24 c) 54 25 f) 74 = mI M 74 := (kp_sI kp10 rfl)
  have kp26 : mI (sI (sI M 54 24 c) 54 25 f) 55 = mI M 55 := (kp_sI kp11 rfl)
  have kp27 : mI (sI (sI M 54 24 c) 54 25 f) 57 = mI M 57 := (kp_sI kp12 rfl)
  have kp28 : mI (sI (sI M 54 24 c) 54 25 f) 58 = mI M 58 := (kp_sI kp13 rfl)
  have kp29 : mI (sI (sI M 54 24 c) 54 25 f) 63 = mI M 63 := (kp_sI kp14 rfl)
  have hB30 : BD M (sI (sI M 54 24 c) 54 25 f) := BD.w54_25 hB15 (by omega) (by omega)
  refine vc_aload_n dX12_begin_10 rfl ?_
  refine vc_iconst dX12_begin_11 rfl ?_
  refine vc_putI dX12_begin_12 (plX12_327 _ rfl) (s_54 hB30.1.1) rfl ?_
  have kp31 : mI (sI (sI (sI M 54 24 c) 54 25 f) 54 26 0) 64 = mI M 64 := (kp_sI kp16 rfl)
  have kp32 : mI (sI (sI (sI M 54 24 c) 54 25 f) 54 26 0) 65 = mI M 65 := (kp_sI kp17 rfl)
  have kp33 : mI (sI (sI (sI M 54 24 c) 54 25 f) 54 26 0) 67 = mI M 67 := (kp_sI kp18 rfl)
  have kp34 : mI (sI (sI (sI M 54 24 c) 54 25 f) 54 26 0) 68 = mI M 68 := (kp_sI kp19 rfl)
  have kp35 : mI (sI (sI (sI M 54 24 c) 54 25 f) 54 26 0) 69 = mI M 69 := (kp_sI kp20 rfl)
  have kp36 : mI (sI (sI (sI M 54 24 c) 54 25 f) 54 26 0) 70 = mI M 70 := (kp_sI kp21 rfl)
  have kp37 : mI (sI (sI (sI M 54 24 c) 54 25 f) 54 26 0) 71 = mI M 71 := (kp_sI kp22 rfl)
  have kp38 : mI (sI (sI (sI M 54 24 c) 54 25 f) 54 26 0) 72 = mI M 72 := (kp_sI kp23 rfl)
  have kp39 : mI (sI (sI (sI M 54 24 c) 54 25 f) 54 26 0) 73 = mI M 73 := (kp_sI kp24 rfl)
  have kp40 : mI (sI (sI (sI M 54 24 c) 54 25 f) 54 26 0) 74 = mI M 74 := (kp_sI kp25 rfl)
  have kp41 : mI (sI (sI (sI M 54 24 c) 54 25 f) 54 26 0) 55 = mI M 55 := (kp_sI kp26 rfl)
  have kp42 : mI (sI (sI (sI M 54 24 c) 54 25 f) 54 26 0) 57 = mI M 57 := (kp_sI kp27 rfl)
  have kp43 : mI (sI (sI (sI M 54 24 c) 54 25 f) 54 26 0) 58 = mI M 58 := (kp_sI kp28 rfl)
  have kp44 : mI (sI (sI (sI M 54 24 c) 54 25 f) 54 26 0) 63 = mI M 63 := (kp_sI kp29 rfl)
  have hB45 : BD M (sI (sI (sI M 54 24 c) 54 25 f) 54 26 0) := BD.w54_26 hB30
  refine vc_aload_n dX12_begin_15 rfl ?_
  refine vc_iconst dX12_begin_16 rfl ?_
  refine vc_putI dX12_begin_17 (plX12_330 _ rfl) (s_54 hB45.1.1) rfl ?_
  have kp46 : mI (sI (sI (sI (sI M 54 24 c) 54 25 f) 54 26 0) 54 27 0) 64 = mI M 64 := (kp_sI kp31 rfl)
  have kp47 : mI (sI (sI (sI (sI M 54 24 c) 54 25 f) 54 26 0) 54 27 0) 65 = mI M 65 := (kp_sI kp32 rfl)
  have kp48 : mI (sI (sI (sI (sI M 54 24 c) 54 25 f) 54 26 0) 54 27 0) 67 = mI M 67 := (kp_sI kp33 rfl)
  have kp49 : mI (sI (sI (sI (sI M 54 24 c) 54 25 f) 54 26 0) 54 27 0) 68 = mI M 68 := (kp_sI kp34 rfl)
  have kp50 : mI (sI (sI (sI (sI M 54 24 c) 54 25 f) 54 26 0) 54 27 0) 69 = mI M 69 := (kp_sI kp35 rfl)
  have kp51 : mI (sI (sI (sI (sI M 54 24 c) 54 25 f) 54 26 0) 54 27 0) 70 = mI M 70 := (kp_sI kp36 rfl)
  have kp52 : mI (sI (sI (sI (sI M 54 24 c) 54 25 f) 54 26 0) 54 27 0) 71 = mI M 71 := (kp_sI kp37 rfl)
  have kp53 : mI (sI (sI (sI (sI M 54 24 c) 54 25 f) 54 26 0) 54 27 0) 72 = mI M 72 := (kp_sI kp38 rfl)
  have kp54 : mI (sI (sI (sI (sI M 54 24 c) 54 25 f) 54 26 0) 54 27 0) 73 = mI M 73 := (kp_sI kp39 rfl)
  have kp55 : mI (sI (sI (sI (sI M 54 24 c) 54 25 f) 54 26 0) 54 27 0) 74 = mI M 74 := (kp_sI kp40 rfl)
  have kp56 : mI (sI (sI (sI (sI M 54 24 c) 54 25 f) 54 26 0) 54 27 0) 55 = mI M 55 := (kp_sI kp41 rfl)
  have kp57 : mI (sI (sI (sI (sI M 54 24 c) 54 25 f) 54 26 0) 54 27 0) 57 = mI M 57 := (kp_sI kp42 rfl)
  have kp58 : mI (sI (sI (sI (sI M 54 24 c) 54 25 f) 54 26 0) 54 27 0) 58 = mI M 58 := (kp_sI kp43 rfl)
  have kp59 : mI (sI (sI (sI (sI M 54 24 c) 54 25 f) 54 26 0) 54 27 0) 63 = mI M 63 := (kp_sI kp44 rfl)
  have hB60 : BD M (sI (sI (sI (sI M 54 24 c) 54 25 f) 54 26 0) 54 27 0) := BD.w54_27 hB45 (by omega) (by omega)
  refine vc_aload_n dX12_begin_20 rfl ?_
  refine vc_iconst dX12_begin_21 rfl ?_
  refine vc_putI dX12_begin_22 (plX12_333 _ rfl) (s_54 hB60.1.1) rfl ?_
  have kp61 : mI (sI (sI (sI (sI (sI M 54 24 c) 54 25 f) 54 26 0) 54 27 0) 54 28 0) 64 = mI M 64 := (kp_sI kp46 rfl)
  have kp62 : mI (sI (sI (sI (sI (sI M 54 24 c) 54 25 f) 54 26 0) 54 27 0) 54 28 0) 65 = mI M 65 := (kp_sI kp47 rfl)
  have kp63 : mI (sI (sI (sI (sI (sI M 54 24 c) 54 25 f) 54 26 0) 54 27 0) 54 28 0) 67 = mI M 67 := (kp_sI kp48 rfl)
  have kp64 : mI (sI (sI (sI (sI (sI M 54 24 c) 54 25 f) 54 26 0) 54 27 0) 54 28 0) 68 = mI M 68 := (kp_sI kp49 rfl)
  have kp65 : mI (sI (sI (sI (sI (sI M 54 24 c) 54 25 f) 54 26 0) 54 27 0) 54 28 0) 69 = mI M 69 := (kp_sI kp50 rfl)
  have kp66 : mI (sI (sI (sI (sI (sI M 54 24 c) 54 25 f) 54 26 0) 54 27 0) 54 28 0) 70 = mI M 70 := (kp_sI kp51 rfl)
  have kp67 : mI (sI (sI (sI (sI (sI M 54 24 c) 54 25 f) 54 26 0) 54 27 0) 54 28 0) 71 = mI M 71 := (kp_sI kp52 rfl)
  have kp68 : mI (sI (sI (sI (sI (sI M 54 24 c) 54 25 f) 54 26 0) 54 27 0) 54 28 0) 72 = mI M 72 := (kp_sI kp53 rfl)
  have kp69 : mI (sI (sI (sI (sI (sI M 54 24 c) 54 25 f) 54 26 0) 54 27 0) 54 28 0) 73 = mI M 73 := (kp_sI kp54 rfl)
  have kp70 : mI (sI (sI (sI (sI (sI M 54 24 c) 54 25 f) 54 26 0) 54 27 0) 54 28 0) 74 = mI M 74 := (kp_sI kp55 rfl)
  have kp71 : mI (sI (sI (sI (sI (sI M 54 24 c) 54 25 f) 54 26 0) 54 27 0) 54 28 0) 55 = mI M 55 := (kp_sI kp56 rfl)
  have kp72 : mI (sI (sI (sI (sI (sI M 54 24 c) 54 25 f) 54 26 0) 54 27 0) 54 28 0) 57 = mI M 57 := (kp_sI kp57 rfl)
  have kp73 : mI (sI (sI (sI (sI (sI M 54 24 c) 54 25 f) 54 26 0) 54 27 0) 54 28 0) 58 = mI M 58 := (kp_sI kp58 rfl)
  have kp74 : mI (sI (sI (sI (sI (sI M 54 24 c) 54 25 f) 54 26 0) 54 27 0) 54 28 0) 63 = mI M 63 := (kp_sI kp59 rfl)
  have hB75 : BD M (sI (sI (sI (sI (sI M 54 24 c) 54 25 f) 54 26 0) 54 27 0) 54 28 0) := BD.w54_28 hB60
  refine vc_aload_n dX12_begin_25 rfl ?_
  refine vc_iconst dX12_begin_26 rfl ?_
  refine vc_putI dX12_begin_27 (plX12_336 _ rfl) (s_54 hB75.1.1) rfl ?_
  have kp76 : mI (sI (sI (sI (sI (sI (sI M 54 24 c) 54 25 f) 54 26 0) 54 27 0) 54 28 0) 54 29 0) 64 = mI M 64 := (kp_sI kp61 rfl)
  have kp77 : mI (sI (sI (sI (sI (sI (sI M 54 24 c) 54 25 f) 54 26 0) 54 27 0) 54 28 0) 54 29 0) 65 = mI M 65 := (kp_sI kp62 rfl)
  have kp78 : mI (sI (sI (sI (sI (sI (sI M 54 24 c) 54 25 f) 54 26 0) 54 27 0) 54 28 0) 54 29 0) 67 = mI M 67 := (kp_sI kp63 rfl)
  have kp79 : mI (sI (sI (sI (sI (sI (sI M 54 24 c) 54 25 f) 54 26 0) 54 27 0) 54 28 0) 54 29 0) 68 = mI M 68 := (kp_sI kp64 rfl)
  have kp80 : mI (sI (sI (sI (sI (sI (sI M 54 24 c) 54 25 f) 54 26 0) 54 27 0) 54 28 0) 54 29 0) 69 = mI M 69 := (kp_sI kp65 rfl)
  have kp81 : mI (sI (sI (sI (sI (sI (sI M 54 24 c) 54 25 f) 54 26 0) 54 27 0) 54 28 0) 54 29 0) 70 = mI M 70 := (kp_sI kp66 rfl)
  have kp82 : mI (sI (sI (sI (sI (sI (sI M 54 24 c) 54 25 f) 54 26 0) 54 27 0) 54 28 0) 54 29 0) 71 = mI M 71 := (kp_sI kp67 rfl)
  have kp83 : mI (sI (sI (sI (sI (sI (sI M 54 24 c) 54 25 f) 54 26 0) 54 27 0) 54 28 0) 54 29 0) 72 = mI M 72 := (kp_sI kp68 rfl)
  have kp84 : mI (sI (sI (sI (sI (sI (sI M 54 24 c) 54 25 f) 54 26 0) 54 27 0) 54 28 0) 54 29 0) 73 = mI M 73 := (kp_sI kp69 rfl)
  have kp85 : mI (sI (sI (sI (sI (sI (sI M 54 24 c) 54 25 f) 54 26 0) 54 27 0) 54 28 0) 54 29 0) 74 = mI M 74 := (kp_sI kp70 rfl)
  have kp86 : mI (sI (sI (sI (sI (sI (sI M 54 24 c) 54 25 f) 54 26 0) 54 27 0) 54 28 0) 54 29 0) 55 = mI M 55 := (kp_sI kp71 rfl)
  have kp87 : mI (sI (sI (sI (sI (sI (sI M 54 24 c) 54 25 f) 54 26 0) 54 27 0) 54 28 0) 54 29 0) 57 = mI M 57 := (kp_sI kp72 rfl)
  have kp88 : mI (sI (sI (sI (sI (sI (sI M 54 24 c) 54 25 f) 54 26 0) 54 27 0) 54 28 0) 54 29 0) 58 = mI M 58 := (kp_sI kp73 rfl)
  have kp89 : mI (sI (sI (sI (sI (sI (sI M 54 24 c) 54 25 f) 54 26 0) 54 27 0) 54 28 0) 54 29 0) 63 = mI M 63 := (kp_sI kp74 rfl)
  have hB90 : BD M (sI (sI (sI (sI (sI (sI M 54 24 c) 54 25 f) 54 26 0) 54 27 0) 54 28 0) 54 29 0) := BD.w54_29 hB75
  refine vc_vret dX12_begin_30 rfl (Nat.le_of_ble_eq_true rfl) (Nat.le_of_ble_eq_true rfl) ?_
  have k91 : mI (sI (sI (sI (sI (sI (sI M 54 24 c) 54 25 f) 54 26 0) 54 27 0) 54 28 0) 54 29 0) 54 32 = mI M 54 32 := rfl
  exact ⟨rfl, hB90, kp86, kp87, kp88, kp89, kp76, kp77, kp78, kp79, kp80, kp81, kp82, kp83, kp84, kp85, by omega⟩

set_option maxRecDepth 4000 in
theorem sfX12_isDoubt {l : Launch} {M : Mem} (hB : Box M)  (b : Int)  : Call l mdX12_isDoubt [aR 54, aI b] M (fun q N => ∃ r : Int, q = some (aI r) ∧ M = N ∧ 0 ≤ r ∧ r ≤ 1) := by
  have hB0 := BD.start hB
  refine Call.of [some (aR 54), some (aI b), none] rfl (Nat.le_of_ble_eq_true rfl) rfl ?_
  refine vc_ok (fun hoM hoS hoL => ?_)
  have hr1 : -2147483648 ≤ b ∧ b < 2147483648 := hoL 1 _ rfl
  refine vc_iconst dX12_isDoubt_0 rfl ?_
  refine vc_istore_n dX12_isDoubt_1 (by decide) rfl (show _ = [some (aR 54), some (aI b), some (aI 0)] from rfl) ?_
  have lp2 : ∀ (n2 : Nat) (v2 : Int), (0 ≤ v2) → (v2 ≤ 4) → (4 - v2).toNat < n2 → VC l mdX12_isDoubt 2 [some (aR 54), some (aI b), some (aI v2)] [] M 0 0 (fun q N => ∃ r : Int, q = some (aI r) ∧ M = N ∧ 0 ≤ r ∧ r ≤ 1) := by
    intro n2
    induction n2 with
    | zero => intro v2 g2_2a g2_2b hm2; exact absurd hm2 (Nat.not_lt_zero _)
    | succ n2 ih2 =>
      intro v2 g2_2a g2_2b hm2
      refine vc_iload_n dX12_isDoubt_2 rfl ?_
      refine vc_iconst dX12_isDoubt_3 rfl ?_
      refine vc_icmp_ge dX12_isDoubt_4 (fun h1 => ?_) (fun h1 => ?_)
      · refine vc_iconst dX12_isDoubt_40 rfl ?_
        refine vc_zret dX12_isDoubt_41 rfl (by first | decide | omega) (Nat.le_of_ble_eq_true rfl) (Nat.le_of_ble_eq_true rfl) ?_
        exact ⟨_, rfl, rfl, by omega, by omega⟩
      · refine vc_iload_n dX12_isDoubt_7 rfl ?_
        refine vc_aload_n dX12_isDoubt_8 rfl ?_
        refine vc_getI dX12_isDoubt_9 flX12_324 (s_54 hB0.1.1) rfl ?_
        have k2 : 0 ≤ mI M 54 25 ∧ mI M 54 25 ≤ 3 := b54_25 (M := M) hB0.1
        refine vc_icmp_eq dX12_isDoubt_12 (fun h3 => ?_) (fun h3 => ?_)
        · refine vc_iincE dX12_isDoubt_34 rfl (by omega) (by omega) (by decide) rfl (show _ = [some (aR 54), some (aI b), some (aI (v2 + 1))] from rfl) ?_
          refine vc_goto dX12_isDoubt_37 ?_
          exact ih2 (v2 + 1) (by omega) (by omega) (by omega)
        · refine vc_iload_n dX12_isDoubt_15 rfl ?_
          refine vc_iload_n dX12_isDoubt_16 rfl ?_
          refine vc_icmp_eq dX12_isDoubt_17 (fun h4 => ?_) (fun h4 => ?_)
          · refine vc_iincE dX12_isDoubt_34 rfl (by omega) (by omega) (by decide) rfl (show _ = [some (aR 54), some (aI b), some (aI (v2 + 1))] from rfl) ?_
            refine vc_goto dX12_isDoubt_37 ?_
            exact ih2 (v2 + 1) (by omega) (by omega) (by omega)
          · refine vc_aload_n dX12_isDoubt_20 rfl ?_
            refine vc_aload_n dX12_isDoubt_21 rfl ?_
            refine vc_getI dX12_isDoubt_22 flX12_321 (s_54 hB0.1.1) rfl ?_
            have k5 : 0 ≤ mI M 54 24 ∧ mI M 54 24 ≤ 15 := b54_24 (M := M) hB0.1
            refine vc_iload_n dX12_isDoubt_25 rfl ?_
            refine vc_cVI dX12_isDoubt_26 (sfX12_streetOf (M := M) hB0.1  (mI M 54 24) v2 (by omega) (by omega) (by omega) (by omega)) rfl okX12_streetOf viX12_streetOf lkX12_91 (s_54 hB0.1.1) cl_12 rfl (Nat.le_of_ble_eq_true rfl) ⟨rfl, rfl⟩ (Nat.le_of_ble_eq_true rfl) (Nat.le_of_ble_eq_true rfl) (Nat.le_of_ble_eq_true rfl) ?_
            rintro x6 _ ⟨rfl, h7, h8, h9⟩
            refine vc_if_lt dX12_isDoubt_29 (fun h10 => ?_) (fun h10 => ?_)
            · refine vc_iincE dX12_isDoubt_34 rfl (by omega) (by omega) (by decide) rfl (show _ = [some (aR 54), some (aI b), some (aI (v2 + 1))] from rfl) ?_
              refine vc_goto dX12_isDoubt_37 ?_
              exact ih2 (v2 + 1) (by omega) (by omega) (by omega)
            · refine vc_iconst dX12_isDoubt_32 rfl ?_
              refine vc_zret dX12_isDoubt_33 rfl (by first | decide | omega) (Nat.le_of_ble_eq_true rfl) (Nat.le_of_ble_eq_true rfl) ?_
              exact ⟨_, rfl, rfl, by omega, by omega⟩
  exact lp2 _ 0 (by omega) (by omega) (Nat.lt_succ_self _)

set_option maxRecDepth 4000 in
theorem sfX12_goOn {l : Launch} {M : Mem} (hB : Box M)    : Call l mdX12_goOn [aR 54] M (fun q N => ∃ r : Int, q = some (aI r) ∧ BD M N ∧ mI N 55 = mI M 55 ∧ mI N 57 = mI M 57 ∧ mI N 58 = mI M 58 ∧ mI N 63 = mI M 63 ∧ mI N 64 = mI M 64 ∧ mI N 65 = mI M 65 ∧ mI N 67 = mI M 67 ∧ mI N 68 = mI M 68 ∧ mI N 69 = mI M 69 ∧ mI N 70 = mI M 70 ∧ mI N 71 = mI M 71 ∧ mI N 72 = mI M 72 ∧ mI N 73 = mI M 73 ∧ mI N 74 = mI M 74 ∧ 0 ≤ r ∧ r ≤ 1 ∧ (r = 0 ∨ mI N 54 27 = mI M 54 27 + 1) ∧ mI N 54 32 = mI M 54 32) := by
  have hB0 := BD.start hB
  refine Call.of [some (aR 54)] rfl (Nat.le_of_ble_eq_true rfl) rfl ?_
  refine vc_aload_n dX12_goOn_0 rfl ?_
  refine vc_aload_n dX12_goOn_1 rfl ?_
  refine vc_getI dX12_goOn_2 flX12_321 (s_54 hB0.1.1) rfl ?_
  have k1 : 0 ≤ mI M 54 24 ∧ mI M 54 24 ≤ 15 := b54_24 (M := M) hB0.1
  refine vc_aload_n dX12_goOn_5 rfl ?_
  refine vc_getI dX12_goOn_6 flX12_324 (s_54 hB0.1.1) rfl ?_
  have k2 : 0 ≤ mI M 54 25 ∧ mI M 54 25 ≤ 3 := b54_25 (M := M) hB0.1
  refine vc_cVI dX12_goOn_9 (sfX12_streetOf (M := M) hB0.1  (mI M 54 24) (mI M 54 25) (by omega) (by omega) (by omega) (by omega)) rfl okX12_streetOf viX12_streetOf lkX12_91 (s_54 hB0.1.1) cl_12 rfl (Nat.le_of_ble_eq_true rfl) ⟨rfl, rfl⟩ (Nat.le_of_ble_eq_true rfl) (Nat.le_of_ble_eq_true rfl) (Nat.le_of_ble_eq_true rfl) ?_
  rintro x3 _ ⟨rfl, h4, h5, h6⟩
  refine vc_if_lt dX12_goOn_12 (fun h7 => ?_) (fun h7 => ?_)
  · refine vc_iconst dX12_goOn_24 rfl ?_
    refine vc_zret dX12_goOn_25 rfl (by first | decide | omega) (Nat.le_of_ble_eq_true rfl) (Nat.le_of_ble_eq_true rfl) ?_
    exact ⟨_, rfl, hB0, rfl, rfl, rfl, rfl, rfl, rfl, rfl, rfl, rfl, rfl, rfl, rfl, rfl, rfl, by omega, by omega, by omega, by omega⟩
  · refine vc_aload_n dX12_goOn_15 rfl ?_
    refine vc_getI dX12_goOn_16 flX12_330 (s_54 hB0.1.1) rfl ?_
    have k8 : 0 ≤ mI M 54 27 ∧ mI M 54 27 ≤ 40 := b54_27 (M := M) hB0.1
    refine vc_bipush dX12_goOn_19 rfl ?_
    refine vc_icmp_ne dX12_goOn_21 (fun h9 => ?_) (fun h9 => ?_)
    · refine vc_aload_n dX12_goOn_26 rfl ?_
      refine vc_aload_n dX12_goOn_27 rfl ?_
      refine vc_getI dX12_goOn_28 flX12_339 (s_54 hB0.1.1) rfl ?_
      refine vc_cVI dX12_goOn_31 (sfX12_isDoubt (M := M) hB0.1  (mI M 54 30) ) rfl okX12_isDoubt viX12_isDoubt lkX12_342 (s_54 hB0.1.1) cl_12 rfl (Nat.le_of_ble_eq_true rfl) ⟨rfl, rfl⟩ (Nat.le_of_ble_eq_true rfl) (Nat.le_of_ble_eq_true rfl) (Nat.le_of_ble_eq_true rfl) ?_
      rintro x10 _ ⟨rfl, h11, h12⟩
      refine vc_if_eq dX12_goOn_34 (fun h13 => ?_) (fun h13 => ?_)
      · refine vc_aload_n dX12_goOn_62 rfl ?_
        refine vc_dup dX12_goOn_63 rfl ?_
        refine vc_getI dX12_goOn_64 flX12_327 (s_54 hB0.1.1) rfl ?_
        refine vc_aload_n dX12_goOn_67 rfl ?_
        refine vc_aload_n dX12_goOn_68 rfl ?_
        refine vc_getI dX12_goOn_69 flX12_321 (s_54 hB0.1.1) rfl ?_
        refine vc_aload_n dX12_goOn_72 rfl ?_
        refine vc_getI dX12_goOn_73 flX12_324 (s_54 hB0.1.1) rfl ?_
        refine vc_cVI dX12_goOn_76 (sfX12_paceOf (M := M) hB0.1  (mI M 54 24) (mI M 54 25) (by omega) (by omega) (by omega) (by omega)) rfl okX12_paceOf viX12_paceOf lkX12_345 (s_54 hB0.1.1) cl_12 rfl (Nat.le_of_ble_eq_true rfl) ⟨rfl, rfl⟩ (Nat.le_of_ble_eq_true rfl) (Nat.le_of_ble_eq_true rfl) (Nat.le_of_ble_eq_true rfl) ?_
        rintro x14 M15 ⟨hB16, kp17, kp18, kp19, kp20, kp21, kp22, kp23, kp24, kp25, kp26, kp27, kp28, kp29, kp30, kp31⟩
        have hB32 : BD M M15 := BD.go hB0 hB16
        have kp33 : mI M15 64 = mI M 64 := kp_go rfl kp22
        have kp34 : mI M15 65 = mI M 65 := kp_go rfl kp23
        have kp35 : mI M15 67 = mI M 67 := kp_go rfl kp24
        have kp36 : mI M15 68 = mI M 68 := kp_go rfl kp25
        have kp37 : mI M15 69 = mI M 69 := kp_go rfl kp26
        have kp38 : mI M15 70 = mI M 70 := kp_go rfl kp27
        have kp39 : mI M15 71 = mI M 71 := kp_go rfl kp28
        have kp40 : mI M15 72 = mI M 72 := kp_go rfl kp29
        have kp41 : mI M15 73 = mI M 73 := kp_go rfl kp30
        have kp42 : mI M15 74 = mI M 74 := kp_go rfl kp31
        have kp43 : mI M15 55 = mI M 55 := kp_go rfl kp18
        have kp44 : mI M15 57 = mI M 57 := kp_go rfl kp19
        have kp45 : mI M15 58 = mI M 58 := kp_go rfl kp20
        have kp46 : mI M15 63 = mI M 63 := kp_go rfl kp21
        have fe47 : mI M15 54 24 = mI M 54 24 := congrFun kp17 24
        have fe48 : mI M15 54 25 = mI M 54 25 := congrFun kp17 25
        have fe49 : mI M15 54 27 = mI M 54 27 := congrFun kp17 27
        have fe50 : mI M15 54 32 = mI M 54 32 := congrFun kp17 32
        refine vc_iadd dX12_goOn_79 ?_
        refine vc_putI dX12_goOn_80 (plX12_327 _ rfl) (s_54 hB32.1.1) rfl ?_
        have kp51 : mI (sI M15 54 26 (wI ((mI M 54 26) + x14))) 64 = mI M 64 := (kp_sI kp33 rfl)
        have kp52 : mI (sI M15 54 26 (wI ((mI M 54 26) + x14))) 65 = mI M 65 := (kp_sI kp34 rfl)
        have kp53 : mI (sI M15 54 26 (wI ((mI M 54 26) + x14))) 67 = mI M 67 := (kp_sI kp35 rfl)
        have kp54 : mI (sI M15 54 26 (wI ((mI M 54 26) + x14))) 68 = mI M 68 := (kp_sI kp36 rfl)
        have kp55 : mI (sI M15 54 26 (wI ((mI M 54 26) + x14))) 69 = mI M 69 := (kp_sI kp37 rfl)
        have kp56 : mI (sI M15 54 26 (wI ((mI M 54 26) + x14))) 70 = mI M 70 := (kp_sI kp38 rfl)
        have kp57 : mI (sI M15 54 26 (wI ((mI M 54 26) + x14))) 71 = mI M 71 := (kp_sI kp39 rfl)
        have kp58 : mI (sI M15 54 26 (wI ((mI M 54 26) + x14))) 72 = mI M 72 := (kp_sI kp40 rfl)
        have kp59 : mI (sI M15 54 26 (wI ((mI M 54 26) + x14))) 73 = mI M 73 := (kp_sI kp41 rfl)
        have kp60 : mI (sI M15 54 26 (wI ((mI M 54 26) + x14))) 74 = mI M 74 := (kp_sI kp42 rfl)
        have kp61 : mI (sI M15 54 26 (wI ((mI M 54 26) + x14))) 55 = mI M 55 := (kp_sI kp43 rfl)
        have kp62 : mI (sI M15 54 26 (wI ((mI M 54 26) + x14))) 57 = mI M 57 := (kp_sI kp44 rfl)
        have kp63 : mI (sI M15 54 26 (wI ((mI M 54 26) + x14))) 58 = mI M 58 := (kp_sI kp45 rfl)
        have kp64 : mI (sI M15 54 26 (wI ((mI M 54 26) + x14))) 63 = mI M 63 := (kp_sI kp46 rfl)
        have hB65 : BD M (sI M15 54 26 (wI ((mI M 54 26) + x14))) := BD.w54_26 hB32
        refine vc_aload_n dX12_goOn_83 rfl ?_
        refine vc_aload_n dX12_goOn_84 rfl ?_
        refine vc_aload_n dX12_goOn_85 rfl ?_
        refine vc_getI dX12_goOn_86 flX12_321 (s_54 hB65.1.1) rfl ?_
        refine vc_topI (mI M15 54 24) rfl ?_
        have k66 : 0 ≤ mI M15 54 24 ∧ mI M15 54 24 ≤ 15 := b54_24 (M := (sI M15 54 26 (wI ((mI M 54 26) + x14)))) hB65.1
        refine vc_aload_n dX12_goOn_89 rfl ?_
        refine vc_getI dX12_goOn_90 flX12_324 (s_54 hB65.1.1) rfl ?_
        refine vc_topI (mI M15 54 25) rfl ?_
        have k67 : 0 ≤ mI M15 54 25 ∧ mI M15 54 25 ≤ 3 := b54_25 (M := (sI M15 54 26 (wI ((mI M 54 26) + x14)))) hB65.1
        have k68 : mI (sI M15 54 26 (wI ((mI M 54 26) + x14))) 54 24 = mI M15 54 24 := rfl
        have k69 : mI (sI M15 54 26 (wI ((mI M 54 26) + x14))) 54 25 = mI M15 54 25 := rfl
        have k70 : mI (sI M15 54 26 (wI ((mI M 54 26) + x14))) 54 27 = mI M15 54 27 := rfl
        have k71 : mI (sI M15 54 26 (wI ((mI M 54 26) + x14))) 54 32 = mI M15 54 32 := rfl
        refine vc_cVI dX12_goOn_93 (sfX12_streetOf (M := (sI M15 54 26 (wI ((mI M 54 26) + x14)))) hB65.1  (mI M15 54 24) (mI M15 54 25) (by omega) (by omega) (by omega) (by omega)) rfl okX12_streetOf viX12_streetOf lkX12_91 (s_54 hB65.1.1) cl_12 rfl (Nat.le_of_ble_eq_true rfl) ⟨rfl, rfl⟩ (Nat.le_of_ble_eq_true rfl) (Nat.le_of_ble_eq_true rfl) (Nat.le_of_ble_eq_true rfl) ?_
        rintro x72 _ ⟨rfl, h73, h74, h75⟩
        have e4 : x72 = mI M 55 ((((10 + (9 * mI M 54 24)) + 1) + mI M 54 25)).toNat := by
          rw [← fe47, ← fe48]
          exact h75.trans (congrFun kp61 _)
        have e5 : 0 ≤ x72 := by omega
        refine vc_putI dX12_goOn_96 (plX12_321 _ rfl) (s_54 hB65.1.1) rfl ?_
        have kp76 : mI (sI (sI M15 54 26 (wI ((mI M 54 26) + x14))) 54 24 x72) 64 = mI M 64 := (kp_sI kp51 rfl)
        have kp77 : mI (sI (sI M15 54 26 (wI ((mI M 54 26) + x14))) 54 24 x72) 65 = mI M 65 := (kp_sI kp52 rfl)
        have kp78 : mI (sI (sI M15 54 26 (wI ((mI M 54 26) + x14))) 54 24 x72) 67 = mI M 67 := (kp_sI kp53 rfl)
        have kp79 : mI (sI (sI M15 54 26 (wI ((mI M 54 26) + x14))) 54 24 x72) 68 = mI M 68 := (kp_sI kp54 rfl)
        have kp80 : mI (sI (sI M15 54 26 (wI ((mI M 54 26) + x14))) 54 24 x72) 69 = mI M 69 := (kp_sI kp55 rfl)
        have kp81 : mI (sI (sI M15 54 26 (wI ((mI M 54 26) + x14))) 54 24 x72) 70 = mI M 70 := (kp_sI kp56 rfl)
        have kp82 : mI (sI (sI M15 54 26 (wI ((mI M 54 26) + x14))) 54 24 x72) 71 = mI M 71 := (kp_sI kp57 rfl)
        have kp83 : mI (sI (sI M15 54 26 (wI ((mI M 54 26) + x14))) 54 24 x72) 72 = mI M 72 := (kp_sI kp58 rfl)
        have kp84 : mI (sI (sI M15 54 26 (wI ((mI M 54 26) + x14))) 54 24 x72) 73 = mI M 73 := (kp_sI kp59 rfl)
        have kp85 : mI (sI (sI M15 54 26 (wI ((mI M 54 26) + x14))) 54 24 x72) 74 = mI M 74 := (kp_sI kp60 rfl)
        have kp86 : mI (sI (sI M15 54 26 (wI ((mI M 54 26) + x14))) 54 24 x72) 55 = mI M 55 := (kp_sI kp61 rfl)
        have kp87 : mI (sI (sI M15 54 26 (wI ((mI M 54 26) + x14))) 54 24 x72) 57 = mI M 57 := (kp_sI kp62 rfl)
        have kp88 : mI (sI (sI M15 54 26 (wI ((mI M 54 26) + x14))) 54 24 x72) 58 = mI M 58 := (kp_sI kp63 rfl)
        have kp89 : mI (sI (sI M15 54 26 (wI ((mI M 54 26) + x14))) 54 24 x72) 63 = mI M 63 := (kp_sI kp64 rfl)
        have hB90 : BD M (sI (sI M15 54 26 (wI ((mI M 54 26) + x14))) 54 24 x72) := BD.w54_24 hB65 (by omega) (by omega)
        refine vc_aload_n dX12_goOn_99 rfl ?_
        refine vc_aload_n dX12_goOn_100 rfl ?_
        refine vc_getI dX12_goOn_101 flX12_324 (s_54 hB90.1.1) rfl ?_
        refine vc_topI (mI M15 54 25) rfl ?_
        have k91 : 0 ≤ mI M15 54 25 ∧ mI M15 54 25 ≤ 3 := b54_25 (M := (sI (sI M15 54 26 (wI ((mI M 54 26) + x14))) 54 24 x72)) hB90.1
        refine vc_iconst dX12_goOn_104 rfl ?_
        refine vc_iaddE dX12_goOn_105 (by omega) (by omega) ?_
        refine vc_iconst dX12_goOn_106 rfl ?_
        refine vc_iremE dX12_goOn_107 (by omega) (by omega) ?_
        refine vc_putI dX12_goOn_108 (plX12_339 _ rfl) (s_54 hB90.1.1) rfl ?_
        have kp92 : mI (sI (sI (sI M15 54 26 (wI ((mI M 54 26) + x14))) 54 24 x72) 54 30 (((mI M15 54 25) + 2) % 4)) 64 = mI M 64 := (kp_sI kp76 rfl)
        have kp93 : mI (sI (sI (sI M15 54 26 (wI ((mI M 54 26) + x14))) 54 24 x72) 54 30 (((mI M15 54 25) + 2) % 4)) 65 = mI M 65 := (kp_sI kp77 rfl)
        have kp94 : mI (sI (sI (sI M15 54 26 (wI ((mI M 54 26) + x14))) 54 24 x72) 54 30 (((mI M15 54 25) + 2) % 4)) 67 = mI M 67 := (kp_sI kp78 rfl)
        have kp95 : mI (sI (sI (sI M15 54 26 (wI ((mI M 54 26) + x14))) 54 24 x72) 54 30 (((mI M15 54 25) + 2) % 4)) 68 = mI M 68 := (kp_sI kp79 rfl)
        have kp96 : mI (sI (sI (sI M15 54 26 (wI ((mI M 54 26) + x14))) 54 24 x72) 54 30 (((mI M15 54 25) + 2) % 4)) 69 = mI M 69 := (kp_sI kp80 rfl)
        have kp97 : mI (sI (sI (sI M15 54 26 (wI ((mI M 54 26) + x14))) 54 24 x72) 54 30 (((mI M15 54 25) + 2) % 4)) 70 = mI M 70 := (kp_sI kp81 rfl)
        have kp98 : mI (sI (sI (sI M15 54 26 (wI ((mI M 54 26) + x14))) 54 24 x72) 54 30 (((mI M15 54 25) + 2) % 4)) 71 = mI M 71 := (kp_sI kp82 rfl)
        have kp99 : mI (sI (sI (sI M15 54 26 (wI ((mI M 54 26) + x14))) 54 24 x72) 54 30 (((mI M15 54 25) + 2) % 4)) 72 = mI M 72 := (kp_sI kp83 rfl)
        have kp100 : mI (sI (sI (sI M15 54 26 (wI ((mI M 54 26) + x14))) 54 24 x72) 54 30 (((mI M15 54 25) + 2) % 4)) 73 = mI M 73 := (kp_sI kp84 rfl)
        have kp101 : mI (sI (sI (sI M15 54 26 (wI ((mI M 54 26) + x14))) 54 24 x72) 54 30 (((mI M15 54 25) + 2) % 4)) 74 = mI M 74 := (kp_sI kp85 rfl)
        have kp102 : mI (sI (sI (sI M15 54 26 (wI ((mI M 54 26) + x14))) 54 24 x72) 54 30 (((mI M15 54 25) + 2) % 4)) 55 = mI M 55 := (kp_sI kp86 rfl)
        have kp103 : mI (sI (sI (sI M15 54 26 (wI ((mI M 54 26) + x14))) 54 24 x72) 54 30 (((mI M15 54 25) + 2) % 4)) 57 = mI M 57 := (kp_sI kp87 rfl)
        have kp104 : mI (sI (sI (sI M15 54 26 (wI ((mI M 54 26) + x14))) 54 24 x72) 54 30 (((mI M15 54 25) + 2) % 4)) 58 = mI M 58 := (kp_sI kp88 rfl)
        have kp105 : mI (sI (sI (sI M15 54 26 (wI ((mI M 54 26) + x14))) 54 24 x72) 54 30 (((mI M15 54 25) + 2) % 4)) 63 = mI M 63 := (kp_sI kp89 rfl)
        have hB106 : BD M (sI (sI (sI M15 54 26 (wI ((mI M 54 26) + x14))) 54 24 x72) 54 30 (((mI M15 54 25) + 2) % 4)) := BD.w54_30 hB90
        refine vc_aload_n dX12_goOn_111 rfl ?_
        refine vc_dup dX12_goOn_112 rfl ?_
        refine vc_getI dX12_goOn_113 flX12_330 (s_54 hB106.1.1) rfl ?_
        refine vc_topI (mI M15 54 27) rfl ?_
        have k107 : 0 ≤ mI M15 54 27 ∧ mI M15 54 27 ≤ 40 := b54_27 (M := (sI (sI (sI M15 54 26 (wI ((mI M 54 26) + x14))) 54 24 x72) 54 30 (((mI M15 54 25) + 2) % 4))) hB106.1
        refine vc_iconst dX12_goOn_116 rfl ?_
        refine vc_iaddE dX12_goOn_117 (by omega) (by omega) ?_
        refine vc_putI dX12_goOn_118 (plX12_330 _ rfl) (s_54 hB106.1.1) rfl ?_
        have kp108 : mI (sI (sI (sI (sI M15 54 26 (wI ((mI M 54 26) + x14))) 54 24 x72) 54 30 (((mI M15 54 25) + 2) % 4)) 54 27 ((mI M15 54 27) + 1)) 64 = mI M 64 := (kp_sI kp92 rfl)
        have kp109 : mI (sI (sI (sI (sI M15 54 26 (wI ((mI M 54 26) + x14))) 54 24 x72) 54 30 (((mI M15 54 25) + 2) % 4)) 54 27 ((mI M15 54 27) + 1)) 65 = mI M 65 := (kp_sI kp93 rfl)
        have kp110 : mI (sI (sI (sI (sI M15 54 26 (wI ((mI M 54 26) + x14))) 54 24 x72) 54 30 (((mI M15 54 25) + 2) % 4)) 54 27 ((mI M15 54 27) + 1)) 67 = mI M 67 := (kp_sI kp94 rfl)
        have kp111 : mI (sI (sI (sI (sI M15 54 26 (wI ((mI M 54 26) + x14))) 54 24 x72) 54 30 (((mI M15 54 25) + 2) % 4)) 54 27 ((mI M15 54 27) + 1)) 68 = mI M 68 := (kp_sI kp95 rfl)
        have kp112 : mI (sI (sI (sI (sI M15 54 26 (wI ((mI M 54 26) + x14))) 54 24 x72) 54 30 (((mI M15 54 25) + 2) % 4)) 54 27 ((mI M15 54 27) + 1)) 69 = mI M 69 := (kp_sI kp96 rfl)
        have kp113 : mI (sI (sI (sI (sI M15 54 26 (wI ((mI M 54 26) + x14))) 54 24 x72) 54 30 (((mI M15 54 25) + 2) % 4)) 54 27 ((mI M15 54 27) + 1)) 70 = mI M 70 := (kp_sI kp97 rfl)
        have kp114 : mI (sI (sI (sI (sI M15 54 26 (wI ((mI M 54 26) + x14))) 54 24 x72) 54 30 (((mI M15 54 25) + 2) % 4)) 54 27 ((mI M15 54 27) + 1)) 71 = mI M 71 := (kp_sI kp98 rfl)
        have kp115 : mI (sI (sI (sI (sI M15 54 26 (wI ((mI M 54 26) + x14))) 54 24 x72) 54 30 (((mI M15 54 25) + 2) % 4)) 54 27 ((mI M15 54 27) + 1)) 72 = mI M 72 := (kp_sI kp99 rfl)
        have kp116 : mI (sI (sI (sI (sI M15 54 26 (wI ((mI M 54 26) + x14))) 54 24 x72) 54 30 (((mI M15 54 25) + 2) % 4)) 54 27 ((mI M15 54 27) + 1)) 73 = mI M 73 := (kp_sI kp100 rfl)
        have kp117 : mI (sI (sI (sI (sI M15 54 26 (wI ((mI M 54 26) + x14))) 54 24 x72) 54 30 (((mI M15 54 25) + 2) % 4)) 54 27 ((mI M15 54 27) + 1)) 74 = mI M 74 := (kp_sI kp101 rfl)
        have kp118 : mI (sI (sI (sI (sI M15 54 26 (wI ((mI M 54 26) + x14))) 54 24 x72) 54 30 (((mI M15 54 25) + 2) % 4)) 54 27 ((mI M15 54 27) + 1)) 55 = mI M 55 := (kp_sI kp102 rfl)
        have kp119 : mI (sI (sI (sI (sI M15 54 26 (wI ((mI M 54 26) + x14))) 54 24 x72) 54 30 (((mI M15 54 25) + 2) % 4)) 54 27 ((mI M15 54 27) + 1)) 57 = mI M 57 := (kp_sI kp103 rfl)
        have kp120 : mI (sI (sI (sI (sI M15 54 26 (wI ((mI M 54 26) + x14))) 54 24 x72) 54 30 (((mI M15 54 25) + 2) % 4)) 54 27 ((mI M15 54 27) + 1)) 58 = mI M 58 := (kp_sI kp104 rfl)
        have kp121 : mI (sI (sI (sI (sI M15 54 26 (wI ((mI M 54 26) + x14))) 54 24 x72) 54 30 (((mI M15 54 25) + 2) % 4)) 54 27 ((mI M15 54 27) + 1)) 63 = mI M 63 := (kp_sI kp105 rfl)
        have hB122 : BD M (sI (sI (sI (sI M15 54 26 (wI ((mI M 54 26) + x14))) 54 24 x72) 54 30 (((mI M15 54 25) + 2) % 4)) 54 27 ((mI M15 54 27) + 1)) := BD.w54_27 hB106 (by omega) (by omega)
        refine vc_iconst dX12_goOn_121 rfl ?_
        refine vc_zret dX12_goOn_122 rfl (by first | decide | omega) (Nat.le_of_ble_eq_true rfl) (Nat.le_of_ble_eq_true rfl) ?_
        have k123 : mI (sI (sI (sI (sI M15 54 26 (wI ((mI M 54 26) + x14))) 54 24 x72) 54 30 (((mI M15 54 25) + 2) % 4)) 54 27 ((mI M15 54 27) + 1)) 54 24 = x72 := rfl
        have k124 : mI (sI (sI (sI (sI M15 54 26 (wI ((mI M 54 26) + x14))) 54 24 x72) 54 30 (((mI M15 54 25) + 2) % 4)) 54 27 ((mI M15 54 27) + 1)) 54 25 = mI M15 54 25 := rfl
        have k125 : mI (sI (sI (sI (sI M15 54 26 (wI ((mI M 54 26) + x14))) 54 24 x72) 54 30 (((mI M15 54 25) + 2) % 4)) 54 27 ((mI M15 54 27) + 1)) 54 27 = (mI M15 54 27) + 1 := rfl
        have k126 : mI (sI (sI (sI (sI M15 54 26 (wI ((mI M 54 26) + x14))) 54 24 x72) 54 30 (((mI M15 54 25) + 2) % 4)) 54 27 ((mI M15 54 27) + 1)) 54 32 = mI M15 54 32 := rfl
        exact ⟨_, rfl, hB122, kp118, kp119, kp120, kp121, kp108, kp109, kp110, kp111, kp112, kp113, kp114, kp115, kp116, kp117, by omega, by omega, by omega, by omega⟩
      · refine vc_aload_n dX12_goOn_37 rfl ?_
        refine vc_dup dX12_goOn_38 rfl ?_
        refine vc_getI dX12_goOn_39 flX12_333 (s_54 hB0.1.1) rfl ?_
        refine vc_iconst dX12_goOn_42 rfl ?_
        refine vc_iadd dX12_goOn_43 ?_
        refine vc_putI dX12_goOn_44 (plX12_333 _ rfl) (s_54 hB0.1.1) rfl ?_
        have kp127 : mI (sI M 54 28 (wI ((mI M 54 28) + 1))) 64 = mI M 64 := (kp_sI rfl rfl)
        have kp128 : mI (sI M 54 28 (wI ((mI M 54 28) + 1))) 65 = mI M 65 := (kp_sI rfl rfl)
        have kp129 : mI (sI M 54 28 (wI ((mI M 54 28) + 1))) 67 = mI M 67 := (kp_sI rfl rfl)
        have kp130 : mI (sI M 54 28 (wI ((mI M 54 28) + 1))) 68 = mI M 68 := (kp_sI rfl rfl)
        have kp131 : mI (sI M 54 28 (wI ((mI M 54 28) + 1))) 69 = mI M 69 := (kp_sI rfl rfl)
        have kp132 : mI (sI M 54 28 (wI ((mI M 54 28) + 1))) 70 = mI M 70 := (kp_sI rfl rfl)
        have kp133 : mI (sI M 54 28 (wI ((mI M 54 28) + 1))) 71 = mI M 71 := (kp_sI rfl rfl)
        have kp134 : mI (sI M 54 28 (wI ((mI M 54 28) + 1))) 72 = mI M 72 := (kp_sI rfl rfl)
        have kp135 : mI (sI M 54 28 (wI ((mI M 54 28) + 1))) 73 = mI M 73 := (kp_sI rfl rfl)
        have kp136 : mI (sI M 54 28 (wI ((mI M 54 28) + 1))) 74 = mI M 74 := (kp_sI rfl rfl)
        have kp137 : mI (sI M 54 28 (wI ((mI M 54 28) + 1))) 55 = mI M 55 := (kp_sI rfl rfl)
        have kp138 : mI (sI M 54 28 (wI ((mI M 54 28) + 1))) 57 = mI M 57 := (kp_sI rfl rfl)
        have kp139 : mI (sI M 54 28 (wI ((mI M 54 28) + 1))) 58 = mI M 58 := (kp_sI rfl rfl)
        have kp140 : mI (sI M 54 28 (wI ((mI M 54 28) + 1))) 63 = mI M 63 := (kp_sI rfl rfl)
        have hB141 : BD M (sI M 54 28 (wI ((mI M 54 28) + 1))) := BD.w54_28 hB0
        refine vc_aload_n dX12_goOn_47 rfl ?_
        refine vc_dup dX12_goOn_48 rfl ?_
        refine vc_getI dX12_goOn_49 flX12_336 (s_54 hB141.1.1) rfl ?_
        refine vc_topI (mI M 54 29) rfl ?_
        refine vc_iconst dX12_goOn_52 rfl ?_
        refine vc_aload_n dX12_goOn_53 rfl ?_
        refine vc_getI dX12_goOn_54 flX12_321 (s_54 hB141.1.1) rfl ?_
        refine vc_topI (mI M 54 24) rfl ?_
        have k142 : 0 ≤ mI M 54 24 ∧ mI M 54 24 ≤ 15 := b54_24 (M := (sI M 54 28 (wI ((mI M 54 28) + 1)))) hB141.1
        refine vc_ishl dX12_goOn_57 ?_
        refine vc_ior dX12_goOn_58 ?_
        refine vc_putI dX12_goOn_59 (plX12_336 _ rfl) (s_54 hB141.1.1) rfl ?_
        have kp143 : mI (sI (sI M 54 28 (wI ((mI M 54 28) + 1))) 54 29 (orI (mI M 54 29) (shlI 1 (mI M 54 24)))) 64 = mI M 64 := (kp_sI kp127 rfl)
        have kp144 : mI (sI (sI M 54 28 (wI ((mI M 54 28) + 1))) 54 29 (orI (mI M 54 29) (shlI 1 (mI M 54 24)))) 65 = mI M 65 := (kp_sI kp128 rfl)
        have kp145 : mI (sI (sI M 54 28 (wI ((mI M 54 28) + 1))) 54 29 (orI (mI M 54 29) (shlI 1 (mI M 54 24)))) 67 = mI M 67 := (kp_sI kp129 rfl)
        have kp146 : mI (sI (sI M 54 28 (wI ((mI M 54 28) + 1))) 54 29 (orI (mI M 54 29) (shlI 1 (mI M 54 24)))) 68 = mI M 68 := (kp_sI kp130 rfl)
        have kp147 : mI (sI (sI M 54 28 (wI ((mI M 54 28) + 1))) 54 29 (orI (mI M 54 29) (shlI 1 (mI M 54 24)))) 69 = mI M 69 := (kp_sI kp131 rfl)
        have kp148 : mI (sI (sI M 54 28 (wI ((mI M 54 28) + 1))) 54 29 (orI (mI M 54 29) (shlI 1 (mI M 54 24)))) 70 = mI M 70 := (kp_sI kp132 rfl)
        have kp149 : mI (sI (sI M 54 28 (wI ((mI M 54 28) + 1))) 54 29 (orI (mI M 54 29) (shlI 1 (mI M 54 24)))) 71 = mI M 71 := (kp_sI kp133 rfl)
        have kp150 : mI (sI (sI M 54 28 (wI ((mI M 54 28) + 1))) 54 29 (orI (mI M 54 29) (shlI 1 (mI M 54 24)))) 72 = mI M 72 := (kp_sI kp134 rfl)
        have kp151 : mI (sI (sI M 54 28 (wI ((mI M 54 28) + 1))) 54 29 (orI (mI M 54 29) (shlI 1 (mI M 54 24)))) 73 = mI M 73 := (kp_sI kp135 rfl)
        have kp152 : mI (sI (sI M 54 28 (wI ((mI M 54 28) + 1))) 54 29 (orI (mI M 54 29) (shlI 1 (mI M 54 24)))) 74 = mI M 74 := (kp_sI kp136 rfl)
        have kp153 : mI (sI (sI M 54 28 (wI ((mI M 54 28) + 1))) 54 29 (orI (mI M 54 29) (shlI 1 (mI M 54 24)))) 55 = mI M 55 := (kp_sI kp137 rfl)
        have kp154 : mI (sI (sI M 54 28 (wI ((mI M 54 28) + 1))) 54 29 (orI (mI M 54 29) (shlI 1 (mI M 54 24)))) 57 = mI M 57 := (kp_sI kp138 rfl)
        have kp155 : mI (sI (sI M 54 28 (wI ((mI M 54 28) + 1))) 54 29 (orI (mI M 54 29) (shlI 1 (mI M 54 24)))) 58 = mI M 58 := (kp_sI kp139 rfl)
        have kp156 : mI (sI (sI M 54 28 (wI ((mI M 54 28) + 1))) 54 29 (orI (mI M 54 29) (shlI 1 (mI M 54 24)))) 63 = mI M 63 := (kp_sI kp140 rfl)
        have hB157 : BD M (sI (sI M 54 28 (wI ((mI M 54 28) + 1))) 54 29 (orI (mI M 54 29) (shlI 1 (mI M 54 24)))) := BD.w54_29 hB141
        refine vc_aload_n dX12_goOn_62 rfl ?_
        refine vc_dup dX12_goOn_63 rfl ?_
        refine vc_getI dX12_goOn_64 flX12_327 (s_54 hB157.1.1) rfl ?_
        refine vc_topI (mI M 54 26) rfl ?_
        refine vc_aload_n dX12_goOn_67 rfl ?_
        refine vc_aload_n dX12_goOn_68 rfl ?_
        refine vc_getI dX12_goOn_69 flX12_321 (s_54 hB157.1.1) rfl ?_
        refine vc_topI (mI M 54 24) rfl ?_
        have k158 : 0 ≤ mI M 54 24 ∧ mI M 54 24 ≤ 15 := b54_24 (M := (sI (sI M 54 28 (wI ((mI M 54 28) + 1))) 54 29 (orI (mI M 54 29) (shlI 1 (mI M 54 24))))) hB157.1
        refine vc_aload_n dX12_goOn_72 rfl ?_
        refine vc_getI dX12_goOn_73 flX12_324 (s_54 hB157.1.1) rfl ?_
        refine vc_topI (mI M 54 25) rfl ?_
        have k159 : 0 ≤ mI M 54 25 ∧ mI M 54 25 ≤ 3 := b54_25 (M := (sI (sI M 54 28 (wI ((mI M 54 28) + 1))) 54 29 (orI (mI M 54 29) (shlI 1 (mI M 54 24))))) hB157.1
        have k160 : mI (sI (sI M 54 28 (wI ((mI M 54 28) + 1))) 54 29 (orI (mI M 54 29) (shlI 1 (mI M 54 24)))) 54 24 = mI M 54 24 := rfl
        have k161 : mI (sI (sI M 54 28 (wI ((mI M 54 28) + 1))) 54 29 (orI (mI M 54 29) (shlI 1 (mI M 54 24)))) 54 25 = mI M 54 25 := rfl
        have k162 : mI (sI (sI M 54 28 (wI ((mI M 54 28) + 1))) 54 29 (orI (mI M 54 29) (shlI 1 (mI M 54 24)))) 54 27 = mI M 54 27 := rfl
        have k163 : mI (sI (sI M 54 28 (wI ((mI M 54 28) + 1))) 54 29 (orI (mI M 54 29) (shlI 1 (mI M 54 24)))) 54 32 = mI M 54 32 := rfl
        refine vc_cVI dX12_goOn_76 (sfX12_paceOf (M := (sI (sI M 54 28 (wI ((mI M 54 28) + 1))) 54 29 (orI (mI M 54 29) (shlI 1 (mI M 54 24))))) hB157.1  (mI M 54 24) (mI M 54 25) (by omega) (by omega) (by omega) (by omega)) rfl okX12_paceOf viX12_paceOf lkX12_345 (s_54 hB157.1.1) cl_12 rfl (Nat.le_of_ble_eq_true rfl) ⟨rfl, rfl⟩ (Nat.le_of_ble_eq_true rfl) (Nat.le_of_ble_eq_true rfl) (Nat.le_of_ble_eq_true rfl) ?_
        rintro x164 M165 ⟨hB166, kp167, kp168, kp169, kp170, kp171, kp172, kp173, kp174, kp175, kp176, kp177, kp178, kp179, kp180, kp181⟩
        have hB182 : BD M M165 := BD.go hB157 hB166
        have kp183 : mI M165 64 = mI M 64 := kp_go kp143 kp172
        have kp184 : mI M165 65 = mI M 65 := kp_go kp144 kp173
        have kp185 : mI M165 67 = mI M 67 := kp_go kp145 kp174
        have kp186 : mI M165 68 = mI M 68 := kp_go kp146 kp175
        have kp187 : mI M165 69 = mI M 69 := kp_go kp147 kp176
        have kp188 : mI M165 70 = mI M 70 := kp_go kp148 kp177
        have kp189 : mI M165 71 = mI M 71 := kp_go kp149 kp178
        have kp190 : mI M165 72 = mI M 72 := kp_go kp150 kp179
        have kp191 : mI M165 73 = mI M 73 := kp_go kp151 kp180
        have kp192 : mI M165 74 = mI M 74 := kp_go kp152 kp181
        have kp193 : mI M165 55 = mI M 55 := kp_go kp153 kp168
        have kp194 : mI M165 57 = mI M 57 := kp_go kp154 kp169
        have kp195 : mI M165 58 = mI M 58 := kp_go kp155 kp170
        have kp196 : mI M165 63 = mI M 63 := kp_go kp156 kp171
        have fe197 : mI M165 54 24 = mI M 54 24 := congrFun kp167 24
        have fe198 : mI M165 54 25 = mI M 54 25 := congrFun kp167 25
        have fe199 : mI M165 54 27 = mI M 54 27 := congrFun kp167 27
        have fe200 : mI M165 54 32 = mI M 54 32 := congrFun kp167 32
        refine vc_iadd dX12_goOn_79 ?_
        refine vc_putI dX12_goOn_80 (plX12_327 _ rfl) (s_54 hB182.1.1) rfl ?_
        have kp201 : mI (sI M165 54 26 (wI ((mI M 54 26) + x164))) 64 = mI M 64 := (kp_sI kp183 rfl)
        have kp202 : mI (sI M165 54 26 (wI ((mI M 54 26) + x164))) 65 = mI M 65 := (kp_sI kp184 rfl)
        have kp203 : mI (sI M165 54 26 (wI ((mI M 54 26) + x164))) 67 = mI M 67 := (kp_sI kp185 rfl)
        have kp204 : mI (sI M165 54 26 (wI ((mI M 54 26) + x164))) 68 = mI M 68 := (kp_sI kp186 rfl)
        have kp205 : mI (sI M165 54 26 (wI ((mI M 54 26) + x164))) 69 = mI M 69 := (kp_sI kp187 rfl)
        have kp206 : mI (sI M165 54 26 (wI ((mI M 54 26) + x164))) 70 = mI M 70 := (kp_sI kp188 rfl)
        have kp207 : mI (sI M165 54 26 (wI ((mI M 54 26) + x164))) 71 = mI M 71 := (kp_sI kp189 rfl)
        have kp208 : mI (sI M165 54 26 (wI ((mI M 54 26) + x164))) 72 = mI M 72 := (kp_sI kp190 rfl)
        have kp209 : mI (sI M165 54 26 (wI ((mI M 54 26) + x164))) 73 = mI M 73 := (kp_sI kp191 rfl)
        have kp210 : mI (sI M165 54 26 (wI ((mI M 54 26) + x164))) 74 = mI M 74 := (kp_sI kp192 rfl)
        have kp211 : mI (sI M165 54 26 (wI ((mI M 54 26) + x164))) 55 = mI M 55 := (kp_sI kp193 rfl)
        have kp212 : mI (sI M165 54 26 (wI ((mI M 54 26) + x164))) 57 = mI M 57 := (kp_sI kp194 rfl)
        have kp213 : mI (sI M165 54 26 (wI ((mI M 54 26) + x164))) 58 = mI M 58 := (kp_sI kp195 rfl)
        have kp214 : mI (sI M165 54 26 (wI ((mI M 54 26) + x164))) 63 = mI M 63 := (kp_sI kp196 rfl)
        have hB215 : BD M (sI M165 54 26 (wI ((mI M 54 26) + x164))) := BD.w54_26 hB182
        refine vc_aload_n dX12_goOn_83 rfl ?_
        refine vc_aload_n dX12_goOn_84 rfl ?_
        refine vc_aload_n dX12_goOn_85 rfl ?_
        refine vc_getI dX12_goOn_86 flX12_321 (s_54 hB215.1.1) rfl ?_
        refine vc_topI (mI M165 54 24) rfl ?_
        have k216 : 0 ≤ mI M165 54 24 ∧ mI M165 54 24 ≤ 15 := b54_24 (M := (sI M165 54 26 (wI ((mI M 54 26) + x164)))) hB215.1
        refine vc_aload_n dX12_goOn_89 rfl ?_
        refine vc_getI dX12_goOn_90 flX12_324 (s_54 hB215.1.1) rfl ?_
        refine vc_topI (mI M165 54 25) rfl ?_
        have k217 : 0 ≤ mI M165 54 25 ∧ mI M165 54 25 ≤ 3 := b54_25 (M := (sI M165 54 26 (wI ((mI M 54 26) + x164)))) hB215.1
        have k218 : mI (sI M165 54 26 (wI ((mI M 54 26) + x164))) 54 24 = mI M165 54 24 := rfl
        have k219 : mI (sI M165 54 26 (wI ((mI M 54 26) + x164))) 54 25 = mI M165 54 25 := rfl
        have k220 : mI (sI M165 54 26 (wI ((mI M 54 26) + x164))) 54 27 = mI M165 54 27 := rfl
        have k221 : mI (sI M165 54 26 (wI ((mI M 54 26) + x164))) 54 32 = mI M165 54 32 := rfl
        refine vc_cVI dX12_goOn_93 (sfX12_streetOf (M := (sI M165 54 26 (wI ((mI M 54 26) + x164)))) hB215.1  (mI M165 54 24) (mI M165 54 25) (by omega) (by omega) (by omega) (by omega)) rfl okX12_streetOf viX12_streetOf lkX12_91 (s_54 hB215.1.1) cl_12 rfl (Nat.le_of_ble_eq_true rfl) ⟨rfl, rfl⟩ (Nat.le_of_ble_eq_true rfl) (Nat.le_of_ble_eq_true rfl) (Nat.le_of_ble_eq_true rfl) ?_
        rintro x222 _ ⟨rfl, h223, h224, h225⟩
        have e4 : x222 = mI M 55 ((((10 + (9 * mI M 54 24)) + 1) + mI M 54 25)).toNat := by
          rw [← fe197, ← fe198]
          exact h225.trans (congrFun kp211 _)
        have e5 : 0 ≤ x222 := by omega
        refine vc_putI dX12_goOn_96 (plX12_321 _ rfl) (s_54 hB215.1.1) rfl ?_
        have kp226 : mI (sI (sI M165 54 26 (wI ((mI M 54 26) + x164))) 54 24 x222) 64 = mI M 64 := (kp_sI kp201 rfl)
        have kp227 : mI (sI (sI M165 54 26 (wI ((mI M 54 26) + x164))) 54 24 x222) 65 = mI M 65 := (kp_sI kp202 rfl)
        have kp228 : mI (sI (sI M165 54 26 (wI ((mI M 54 26) + x164))) 54 24 x222) 67 = mI M 67 := (kp_sI kp203 rfl)
        have kp229 : mI (sI (sI M165 54 26 (wI ((mI M 54 26) + x164))) 54 24 x222) 68 = mI M 68 := (kp_sI kp204 rfl)
        have kp230 : mI (sI (sI M165 54 26 (wI ((mI M 54 26) + x164))) 54 24 x222) 69 = mI M 69 := (kp_sI kp205 rfl)
        have kp231 : mI (sI (sI M165 54 26 (wI ((mI M 54 26) + x164))) 54 24 x222) 70 = mI M 70 := (kp_sI kp206 rfl)
        have kp232 : mI (sI (sI M165 54 26 (wI ((mI M 54 26) + x164))) 54 24 x222) 71 = mI M 71 := (kp_sI kp207 rfl)
        have kp233 : mI (sI (sI M165 54 26 (wI ((mI M 54 26) + x164))) 54 24 x222) 72 = mI M 72 := (kp_sI kp208 rfl)
        have kp234 : mI (sI (sI M165 54 26 (wI ((mI M 54 26) + x164))) 54 24 x222) 73 = mI M 73 := (kp_sI kp209 rfl)
        have kp235 : mI (sI (sI M165 54 26 (wI ((mI M 54 26) + x164))) 54 24 x222) 74 = mI M 74 := (kp_sI kp210 rfl)
        have kp236 : mI (sI (sI M165 54 26 (wI ((mI M 54 26) + x164))) 54 24 x222) 55 = mI M 55 := (kp_sI kp211 rfl)
        have kp237 : mI (sI (sI M165 54 26 (wI ((mI M 54 26) + x164))) 54 24 x222) 57 = mI M 57 := (kp_sI kp212 rfl)
        have kp238 : mI (sI (sI M165 54 26 (wI ((mI M 54 26) + x164))) 54 24 x222) 58 = mI M 58 := (kp_sI kp213 rfl)
        have kp239 : mI (sI (sI M165 54 26 (wI ((mI M 54 26) + x164))) 54 24 x222) 63 = mI M 63 := (kp_sI kp214 rfl)
        have hB240 : BD M (sI (sI M165 54 26 (wI ((mI M 54 26) + x164))) 54 24 x222) := BD.w54_24 hB215 (by omega) (by omega)
        refine vc_aload_n dX12_goOn_99 rfl ?_
        refine vc_aload_n dX12_goOn_100 rfl ?_
        refine vc_getI dX12_goOn_101 flX12_324 (s_54 hB240.1.1) rfl ?_
        refine vc_topI (mI M165 54 25) rfl ?_
        have k241 : 0 ≤ mI M165 54 25 ∧ mI M165 54 25 ≤ 3 := b54_25 (M := (sI (sI M165 54 26 (wI ((mI M 54 26) + x164))) 54 24 x222)) hB240.1
        refine vc_iconst dX12_goOn_104 rfl ?_
        refine vc_iaddE dX12_goOn_105 (by omega) (by omega) ?_
        refine vc_iconst dX12_goOn_106 rfl ?_
        refine vc_iremE dX12_goOn_107 (by omega) (by omega) ?_
        refine vc_putI dX12_goOn_108 (plX12_339 _ rfl) (s_54 hB240.1.1) rfl ?_
        have kp242 : mI (sI (sI (sI M165 54 26 (wI ((mI M 54 26) + x164))) 54 24 x222) 54 30 (((mI M165 54 25) + 2) % 4)) 64 = mI M 64 := (kp_sI kp226 rfl)
        have kp243 : mI (sI (sI (sI M165 54 26 (wI ((mI M 54 26) + x164))) 54 24 x222) 54 30 (((mI M165 54 25) + 2) % 4)) 65 = mI M 65 := (kp_sI kp227 rfl)
        have kp244 : mI (sI (sI (sI M165 54 26 (wI ((mI M 54 26) + x164))) 54 24 x222) 54 30 (((mI M165 54 25) + 2) % 4)) 67 = mI M 67 := (kp_sI kp228 rfl)
        have kp245 : mI (sI (sI (sI M165 54 26 (wI ((mI M 54 26) + x164))) 54 24 x222) 54 30 (((mI M165 54 25) + 2) % 4)) 68 = mI M 68 := (kp_sI kp229 rfl)
        have kp246 : mI (sI (sI (sI M165 54 26 (wI ((mI M 54 26) + x164))) 54 24 x222) 54 30 (((mI M165 54 25) + 2) % 4)) 69 = mI M 69 := (kp_sI kp230 rfl)
        have kp247 : mI (sI (sI (sI M165 54 26 (wI ((mI M 54 26) + x164))) 54 24 x222) 54 30 (((mI M165 54 25) + 2) % 4)) 70 = mI M 70 := (kp_sI kp231 rfl)
        have kp248 : mI (sI (sI (sI M165 54 26 (wI ((mI M 54 26) + x164))) 54 24 x222) 54 30 (((mI M165 54 25) + 2) % 4)) 71 = mI M 71 := (kp_sI kp232 rfl)
        have kp249 : mI (sI (sI (sI M165 54 26 (wI ((mI M 54 26) + x164))) 54 24 x222) 54 30 (((mI M165 54 25) + 2) % 4)) 72 = mI M 72 := (kp_sI kp233 rfl)
        have kp250 : mI (sI (sI (sI M165 54 26 (wI ((mI M 54 26) + x164))) 54 24 x222) 54 30 (((mI M165 54 25) + 2) % 4)) 73 = mI M 73 := (kp_sI kp234 rfl)
        have kp251 : mI (sI (sI (sI M165 54 26 (wI ((mI M 54 26) + x164))) 54 24 x222) 54 30 (((mI M165 54 25) + 2) % 4)) 74 = mI M 74 := (kp_sI kp235 rfl)
        have kp252 : mI (sI (sI (sI M165 54 26 (wI ((mI M 54 26) + x164))) 54 24 x222) 54 30 (((mI M165 54 25) + 2) % 4)) 55 = mI M 55 := (kp_sI kp236 rfl)
        have kp253 : mI (sI (sI (sI M165 54 26 (wI ((mI M 54 26) + x164))) 54 24 x222) 54 30 (((mI M165 54 25) + 2) % 4)) 57 = mI M 57 := (kp_sI kp237 rfl)
        have kp254 : mI (sI (sI (sI M165 54 26 (wI ((mI M 54 26) + x164))) 54 24 x222) 54 30 (((mI M165 54 25) + 2) % 4)) 58 = mI M 58 := (kp_sI kp238 rfl)
        have kp255 : mI (sI (sI (sI M165 54 26 (wI ((mI M 54 26) + x164))) 54 24 x222) 54 30 (((mI M165 54 25) + 2) % 4)) 63 = mI M 63 := (kp_sI kp239 rfl)
        have hB256 : BD M (sI (sI (sI M165 54 26 (wI ((mI M 54 26) + x164))) 54 24 x222) 54 30 (((mI M165 54 25) + 2) % 4)) := BD.w54_30 hB240
        refine vc_aload_n dX12_goOn_111 rfl ?_
        refine vc_dup dX12_goOn_112 rfl ?_
        refine vc_getI dX12_goOn_113 flX12_330 (s_54 hB256.1.1) rfl ?_
        refine vc_topI (mI M165 54 27) rfl ?_
        have k257 : 0 ≤ mI M165 54 27 ∧ mI M165 54 27 ≤ 40 := b54_27 (M := (sI (sI (sI M165 54 26 (wI ((mI M 54 26) + x164))) 54 24 x222) 54 30 (((mI M165 54 25) + 2) % 4))) hB256.1
        refine vc_iconst dX12_goOn_116 rfl ?_
        refine vc_iaddE dX12_goOn_117 (by omega) (by omega) ?_
        refine vc_putI dX12_goOn_118 (plX12_330 _ rfl) (s_54 hB256.1.1) rfl ?_
        have kp258 : mI (sI (sI (sI (sI M165 54 26 (wI ((mI M 54 26) + x164))) 54 24 x222) 54 30 (((mI M165 54 25) + 2) % 4)) 54 27 ((mI M165 54 27) + 1)) 64 = mI M 64 := (kp_sI kp242 rfl)
        have kp259 : mI (sI (sI (sI (sI M165 54 26 (wI ((mI M 54 26) + x164))) 54 24 x222) 54 30 (((mI M165 54 25) + 2) % 4)) 54 27 ((mI M165 54 27) + 1)) 65 = mI M 65 := (kp_sI kp243 rfl)
        have kp260 : mI (sI (sI (sI (sI M165 54 26 (wI ((mI M 54 26) + x164))) 54 24 x222) 54 30 (((mI M165 54 25) + 2) % 4)) 54 27 ((mI M165 54 27) + 1)) 67 = mI M 67 := (kp_sI kp244 rfl)
        have kp261 : mI (sI (sI (sI (sI M165 54 26 (wI ((mI M 54 26) + x164))) 54 24 x222) 54 30 (((mI M165 54 25) + 2) % 4)) 54 27 ((mI M165 54 27) + 1)) 68 = mI M 68 := (kp_sI kp245 rfl)
        have kp262 : mI (sI (sI (sI (sI M165 54 26 (wI ((mI M 54 26) + x164))) 54 24 x222) 54 30 (((mI M165 54 25) + 2) % 4)) 54 27 ((mI M165 54 27) + 1)) 69 = mI M 69 := (kp_sI kp246 rfl)
        have kp263 : mI (sI (sI (sI (sI M165 54 26 (wI ((mI M 54 26) + x164))) 54 24 x222) 54 30 (((mI M165 54 25) + 2) % 4)) 54 27 ((mI M165 54 27) + 1)) 70 = mI M 70 := (kp_sI kp247 rfl)
        have kp264 : mI (sI (sI (sI (sI M165 54 26 (wI ((mI M 54 26) + x164))) 54 24 x222) 54 30 (((mI M165 54 25) + 2) % 4)) 54 27 ((mI M165 54 27) + 1)) 71 = mI M 71 := (kp_sI kp248 rfl)
        have kp265 : mI (sI (sI (sI (sI M165 54 26 (wI ((mI M 54 26) + x164))) 54 24 x222) 54 30 (((mI M165 54 25) + 2) % 4)) 54 27 ((mI M165 54 27) + 1)) 72 = mI M 72 := (kp_sI kp249 rfl)
        have kp266 : mI (sI (sI (sI (sI M165 54 26 (wI ((mI M 54 26) + x164))) 54 24 x222) 54 30 (((mI M165 54 25) + 2) % 4)) 54 27 ((mI M165 54 27) + 1)) 73 = mI M 73 := (kp_sI kp250 rfl)
        have kp267 : mI (sI (sI (sI (sI M165 54 26 (wI ((mI M 54 26) + x164))) 54 24 x222) 54 30 (((mI M165 54 25) + 2) % 4)) 54 27 ((mI M165 54 27) + 1)) 74 = mI M 74 := (kp_sI kp251 rfl)
        have kp268 : mI (sI (sI (sI (sI M165 54 26 (wI ((mI M 54 26) + x164))) 54 24 x222) 54 30 (((mI M165 54 25) + 2) % 4)) 54 27 ((mI M165 54 27) + 1)) 55 = mI M 55 := (kp_sI kp252 rfl)
        have kp269 : mI (sI (sI (sI (sI M165 54 26 (wI ((mI M 54 26) + x164))) 54 24 x222) 54 30 (((mI M165 54 25) + 2) % 4)) 54 27 ((mI M165 54 27) + 1)) 57 = mI M 57 := (kp_sI kp253 rfl)
        have kp270 : mI (sI (sI (sI (sI M165 54 26 (wI ((mI M 54 26) + x164))) 54 24 x222) 54 30 (((mI M165 54 25) + 2) % 4)) 54 27 ((mI M165 54 27) + 1)) 58 = mI M 58 := (kp_sI kp254 rfl)
        have kp271 : mI (sI (sI (sI (sI M165 54 26 (wI ((mI M 54 26) + x164))) 54 24 x222) 54 30 (((mI M165 54 25) + 2) % 4)) 54 27 ((mI M165 54 27) + 1)) 63 = mI M 63 := (kp_sI kp255 rfl)
        have hB272 : BD M (sI (sI (sI (sI M165 54 26 (wI ((mI M 54 26) + x164))) 54 24 x222) 54 30 (((mI M165 54 25) + 2) % 4)) 54 27 ((mI M165 54 27) + 1)) := BD.w54_27 hB256 (by omega) (by omega)
        refine vc_iconst dX12_goOn_121 rfl ?_
        refine vc_zret dX12_goOn_122 rfl (by first | decide | omega) (Nat.le_of_ble_eq_true rfl) (Nat.le_of_ble_eq_true rfl) ?_
        have k273 : mI (sI (sI (sI (sI M165 54 26 (wI ((mI M 54 26) + x164))) 54 24 x222) 54 30 (((mI M165 54 25) + 2) % 4)) 54 27 ((mI M165 54 27) + 1)) 54 24 = x222 := rfl
        have k274 : mI (sI (sI (sI (sI M165 54 26 (wI ((mI M 54 26) + x164))) 54 24 x222) 54 30 (((mI M165 54 25) + 2) % 4)) 54 27 ((mI M165 54 27) + 1)) 54 25 = mI M165 54 25 := rfl
        have k275 : mI (sI (sI (sI (sI M165 54 26 (wI ((mI M 54 26) + x164))) 54 24 x222) 54 30 (((mI M165 54 25) + 2) % 4)) 54 27 ((mI M165 54 27) + 1)) 54 27 = (mI M165 54 27) + 1 := rfl
        have k276 : mI (sI (sI (sI (sI M165 54 26 (wI ((mI M 54 26) + x164))) 54 24 x222) 54 30 (((mI M165 54 25) + 2) % 4)) 54 27 ((mI M165 54 27) + 1)) 54 32 = mI M165 54 32 := rfl
        exact ⟨_, rfl, hB272, kp268, kp269, kp270, kp271, kp258, kp259, kp260, kp261, kp262, kp263, kp264, kp265, kp266, kp267, by omega, by omega, by omega, by omega⟩
    · refine vc_iconst dX12_goOn_24 rfl ?_
      refine vc_zret dX12_goOn_25 rfl (by first | decide | omega) (Nat.le_of_ble_eq_true rfl) (Nat.le_of_ble_eq_true rfl) ?_
      exact ⟨_, rfl, hB0, rfl, rfl, rfl, rfl, rfl, rfl, rfl, rfl, rfl, rfl, rfl, rfl, rfl, rfl, by omega, by omega, by omega, by omega⟩

set_option maxRecDepth 4000 in
theorem sfX12_isCounted {l : Launch} {M : Mem} (hB : Box M)  (d : Int) (s : Int) (p0 : 0 ≤ d) (p1 : d ≤ 3) : Call l mdX12_isCounted [aR 54, aI d, aI s] M (fun q N => ∃ r : Int, q = some (aI r) ∧ M = N ∧ 0 ≤ r ∧ r ≤ 1) := by
  have hB0 := BD.start hB
  refine Call.of [some (aR 54), some (aI d), some (aI s)] rfl (Nat.le_of_ble_eq_true rfl) rfl ?_
  refine vc_ok (fun hoM hoS hoL => ?_)
  have hr2 : -2147483648 ≤ s ∧ s < 2147483648 := hoL 2 _ rfl
  refine vc_aload_n dX12_isCounted_0 rfl ?_
  refine vc_aload_n dX12_isCounted_1 rfl ?_
  refine vc_getI dX12_isCounted_2 flX12_321 (s_54 hB0.1.1) rfl ?_
  have k1 : 0 ≤ mI M 54 24 ∧ mI M 54 24 ≤ 15 := b54_24 (M := M) hB0.1
  refine vc_iload_n dX12_isCounted_5 rfl ?_
  refine vc_cVI dX12_isCounted_6 (sfX12_streetOf (M := M) hB0.1  (mI M 54 24) d (by omega) (by omega) (by omega) (by omega)) rfl okX12_streetOf viX12_streetOf lkX12_91 (s_54 hB0.1.1) cl_12 rfl (Nat.le_of_ble_eq_true rfl) ⟨rfl, rfl⟩ (Nat.le_of_ble_eq_true rfl) (Nat.le_of_ble_eq_true rfl) (Nat.le_of_ble_eq_true rfl) ?_
  rintro x2 _ ⟨rfl, h3, h4, h5⟩
  refine vc_if_lt dX12_isCounted_9 (fun h6 => ?_) (fun h6 => ?_)
  · refine vc_iconst dX12_isCounted_34 rfl ?_
    refine vc_zret dX12_isCounted_35 rfl (by first | decide | omega) (Nat.le_of_ble_eq_true rfl) (Nat.le_of_ble_eq_true rfl) ?_
    exact ⟨_, rfl, rfl, by omega, by omega⟩
  · refine vc_aload_n dX12_isCounted_12 rfl ?_
    refine vc_aload_n dX12_isCounted_13 rfl ?_
    refine vc_getI dX12_isCounted_14 flX12_321 (s_54 hB0.1.1) rfl ?_
    refine vc_iload_n dX12_isCounted_17 rfl ?_
    refine vc_cVI dX12_isCounted_18 (sfX12_isLane (M := M) hB0.1  (mI M 54 24) d (by omega) (by omega) (by omega) (by omega)) rfl okX12_isLane viX12_isLane lkX12_315 (s_54 hB0.1.1) cl_12 rfl (Nat.le_of_ble_eq_true rfl) ⟨rfl, rfl⟩ (Nat.le_of_ble_eq_true rfl) (Nat.le_of_ble_eq_true rfl) (Nat.le_of_ble_eq_true rfl) ?_
    rintro x7 _ ⟨rfl, h8, h9⟩
    refine vc_if_eq dX12_isCounted_21 (fun h10 => ?_) (fun h10 => ?_)
    · refine vc_iconst dX12_isCounted_30 rfl ?_
      refine vc_goto dX12_isCounted_31 ?_
      refine vc_zret dX12_isCounted_35 rfl (by first | decide | omega) (Nat.le_of_ble_eq_true rfl) (Nat.le_of_ble_eq_true rfl) ?_
      exact ⟨_, rfl, rfl, by omega, by omega⟩
    · refine vc_iload_n dX12_isCounted_24 rfl ?_
      refine vc_iconst dX12_isCounted_25 rfl ?_
      refine vc_iand dX12_isCounted_26 ?_
      refine vc_if_ne dX12_isCounted_27 (fun h11 => ?_) (fun h11 => ?_)
      · refine vc_iconst dX12_isCounted_34 rfl ?_
        refine vc_zret dX12_isCounted_35 rfl (by first | decide | omega) (Nat.le_of_ble_eq_true rfl) (Nat.le_of_ble_eq_true rfl) ?_
        exact ⟨_, rfl, rfl, by omega, by omega⟩
      · refine vc_iconst dX12_isCounted_30 rfl ?_
        refine vc_goto dX12_isCounted_31 ?_
        refine vc_zret dX12_isCounted_35 rfl (by first | decide | omega) (Nat.le_of_ble_eq_true rfl) (Nat.le_of_ble_eq_true rfl) ?_
        exact ⟨_, rfl, rfl, by omega, by omega⟩

set_option maxRecDepth 4000 in
theorem sfX12_goTurn {l : Launch} {M : Mem} (hB : Box M)  (t : Int) (s : Int)  : Call l mdX12_goTurn [aR 54, aI t, aI s] M (fun q N => ∃ r : Int, q = some (aI r) ∧ BD M N ∧ mI N 55 = mI M 55 ∧ mI N 57 = mI M 57 ∧ mI N 58 = mI M 58 ∧ mI N 63 = mI M 63 ∧ mI N 64 = mI M 64 ∧ mI N 65 = mI M 65 ∧ mI N 67 = mI M 67 ∧ mI N 68 = mI M 68 ∧ mI N 69 = mI M 69 ∧ mI N 70 = mI M 70 ∧ mI N 71 = mI M 71 ∧ mI N 72 = mI M 72 ∧ mI N 73 = mI M 73 ∧ mI N 74 = mI M 74 ∧ 0 ≤ r ∧ r ≤ 1 ∧ mI N 54 32 = mI M 54 32) := by
  have hB0 := BD.start hB
  refine Call.of [some (aR 54), some (aI t), some (aI s), none, none, none, none, none, none, none] rfl (Nat.le_of_ble_eq_true rfl) rfl ?_
  refine vc_ok (fun hoM hoS hoL => ?_)
  have hr1 : -2147483648 ≤ t ∧ t < 2147483648 := hoL 1 _ rfl
  have hr2 : -2147483648 ≤ s ∧ s < 2147483648 := hoL 2 _ rfl
  have kz := b54_27 hB
  refine vc_iload_n dX12_goTurn_0 rfl ?_
  refine vc_bipush dX12_goTurn_1 rfl ?_
  refine vc_idiv dX12_goTurn_3 (by omega) ?_
  refine vc_nameI (fun x1 ex1 => ?_)
  refine vc_istore_n dX12_goTurn_4 (by decide) rfl (show _ = [some (aR 54), some (aI t), some (aI s), some (aI x1), none, none, none, none, none, none] from rfl) ?_
  refine vc_iload_n dX12_goTurn_5 rfl ?_
  refine vc_bipush dX12_goTurn_6 rfl ?_
  refine vc_irem dX12_goTurn_8 (by omega) ?_
  refine vc_nameI (fun x2 ex2 => ?_)
  refine vc_istore dX12_goTurn_9 (by decide) rfl (show _ = [some (aR 54), some (aI t), some (aI s), some (aI x1), some (aI x2), none, none, none, none, none] from rfl) ?_
  refine vc_iload_n dX12_goTurn_11 rfl ?_
  refine vc_bipush dX12_goTurn_12 rfl ?_
  refine vc_idiv dX12_goTurn_14 (by omega) ?_
  refine vc_bipush dX12_goTurn_15 rfl ?_
  refine vc_irem dX12_goTurn_17 (by omega) ?_
  refine vc_iconst dX12_goTurn_18 rfl ?_
  refine vc_icmp_ne dX12_goTurn_19 (fun h3 => ?_) (fun h3 => ?_)
  · refine vc_iconst dX12_goTurn_26 rfl ?_
    refine vc_istore dX12_goTurn_27 (by decide) rfl (show _ = [some (aR 54), some (aI t), some (aI s), some (aI x1), some (aI x2), some (aI 0), none, none, none, none] from rfl) ?_
    refine vc_iload dX12_goTurn_29 rfl ?_
    refine vc_if_eq dX12_goTurn_31 (fun h4 => ?_) (fun h4 => by exfalso; omega)
    refine vc_iload_n dX12_goTurn_52 rfl ?_
    refine vc_iconst dX12_goTurn_53 rfl ?_
    refine vc_icmp_ne dX12_goTurn_54 (fun h5 => ?_) (fun h5 => ?_)
    · refine vc_iconst dX12_goTurn_61 rfl ?_
      refine vc_iload_n dX12_goTurn_62 rfl ?_
      refine vc_iconst dX12_goTurn_63 rfl ?_
      refine vc_iandM dX12_goTurn_64 2 1 rfl (by decide) rfl ?_
      refine vc_if_ne dX12_goTurn_65 (fun h6 => ?_) (fun h6 => ?_)
      · refine vc_iconst dX12_goTurn_72 rfl ?_
        refine vc_icmp_ne dX12_goTurn_73 (fun h7 => by exfalso; omega) (fun h7 => ?_)
        refine vc_iconst dX12_goTurn_76 rfl ?_
        refine vc_goto dX12_goTurn_77 ?_
        refine vc_istore dX12_goTurn_81 (by decide) rfl (show _ = [some (aR 54), some (aI t), some (aI s), some (aI x1), some (aI x2), some (aI 0), some (aI 1), none, none, none] from rfl) ?_
        refine vc_iload_n dX12_goTurn_83 rfl ?_
        refine vc_iconst dX12_goTurn_84 rfl ?_
        refine vc_icmp_ne dX12_goTurn_85 (fun h8 => ?_) (fun h8 => ?_)
        · refine vc_aload_n dX12_goTurn_95 rfl ?_
          refine vc_getI dX12_goTurn_96 flX12_324 (s_54 hB0.1.1) rfl ?_
          have k9 : 0 ≤ mI M 54 25 ∧ mI M 54 25 ≤ 3 := b54_25 (M := M) hB0.1
          refine vc_iload dX12_goTurn_99 rfl ?_
          refine vc_if_eq dX12_goTurn_101 (fun h10 => by exfalso; omega) (fun h10 => ?_)
          refine vc_iconst dX12_goTurn_104 rfl ?_
          refine vc_goto dX12_goTurn_105 ?_
          refine vc_iaddE dX12_goTurn_109 (by omega) (by omega) ?_
          refine vc_iconst dX12_goTurn_110 rfl ?_
          refine vc_iremE dX12_goTurn_111 (by omega) (by omega) ?_
          refine vc_nameI (fun x11 ex11 => ?_)
          refine vc_istore dX12_goTurn_112 (by decide) rfl (show _ = [some (aR 54), some (aI t), some (aI s), some (aI x1), some (aI x2), some (aI 0), some (aI 1), some (aI x11), none, none] from rfl) ?_
          refine vc_iconst dX12_goTurn_114 rfl ?_
          refine vc_istore dX12_goTurn_115 (by decide) rfl (show _ = [some (aR 54), some (aI t), some (aI s), some (aI x1), some (aI x2), some (aI 0), some (aI 1), some (aI x11), some (aI 0), none] from rfl) ?_
          refine vc_iconst dX12_goTurn_117 rfl ?_
          refine vc_istore dX12_goTurn_118 (by decide) rfl (show _ = [some (aR 54), some (aI t), some (aI s), some (aI x1), some (aI x2), some (aI 0), some (aI 1), some (aI x11), some (aI 0), some (aI 0)] from rfl) ?_
          have lp120 : ∀ (n120 : Nat) (Mq120 : Mem) (v8 : Int) (v9 : Int), (BD M Mq120) → (mI Mq120 64 = mI M 64) → (mI Mq120 65 = mI M 65) → (mI Mq120 67 = mI M 67) → (mI Mq120 68 = mI M 68) → (mI Mq120 69 = mI M 69) → (mI Mq120 70 = mI M 70) → (mI Mq120 71 = mI M 71) → (mI Mq120 72 = mI M 72) → (mI Mq120 73 = mI M 73) → (mI Mq120 74 = mI M 74) → (mI Mq120 55 = mI M 55) → (mI Mq120 57 = mI M 57) → (mI Mq120 58 = mI M 58) → (mI Mq120 63 = mI M 63) → (0 ≤ v9) → (v9 ≤ 1) → (mI Mq120 54 32 = mI M 54 32) → (0 ≤ mI Mq120 54 27) → (mI Mq120 54 27 ≤ 40) → (40 - mI Mq120 54 27).toNat < n120 → VC l mdX12_goTurn 120 [some (aR 54), none, some (aI s), some (aI x1), some (aI x2), some (aI 0), none, some (aI x11), some (aI v8), some (aI v9)] [] Mq120 0 0 (fun q N => ∃ r : Int, q = some (aI r) ∧ BD M N ∧ mI N 55 = mI M 55 ∧ mI N 57 = mI M 57 ∧ mI N 58 = mI M 58 ∧ mI N 63 = mI M 63 ∧ mI N 64 = mI M 64 ∧ mI N 65 = mI M 65 ∧ mI N 67 = mI M 67 ∧ mI N 68 = mI M 68 ∧ mI N 69 = mI M 69 ∧ mI N 70 = mI M 70 ∧ mI N 71 = mI M 71 ∧ mI N 72 = mI M 72 ∧ mI N 73 = mI M 73 ∧ mI N 74 = mI M 74 ∧ 0 ≤ r ∧ r ≤ 1 ∧ mI N 54 32 = mI M 54 32) := by
            intro n120
            induction n120 with
            | zero => intro Mq120 v8 v9 hQ120 kp120_64 kp120_65 kp120_67 kp120_68 kp120_69 kp120_70 kp120_71 kp120_72 kp120_73 kp120_74 kp120_55 kp120_57 kp120_58 kp120_63 g120_9a g120_9b g120i0 g120i1 g120i2 hm120; exact absurd hm120 (Nat.not_lt_zero _)
            | succ n120 ih120 =>
              intro Mq120 v8 v9 hQ120 kp120_64 kp120_65 kp120_67 kp120_68 kp120_69 kp120_70 kp120_71 kp120_72 kp120_73 kp120_74 kp120_55 kp120_57 kp120_58 kp120_63 g120_9a g120_9b g120i0 g120i1 g120i2 hm120
              refine vc_iload dX12_goTurn_120 rfl ?_
              refine vc_if_ne dX12_goTurn_122 (fun h12 => ?_) (fun h12 => ?_)
              · refine vc_iload_n dX12_goTurn_200 rfl ?_
                refine vc_iconst dX12_goTurn_201 rfl ?_
                refine vc_icmp_eq dX12_goTurn_202 (fun h13 => ?_) (fun h13 => ?_)
                · refine vc_aload_n dX12_goTurn_217 rfl ?_
                  refine vc_iload dX12_goTurn_218 rfl ?_
                  refine vc_putI dX12_goTurn_220 (plX12_324 _ rfl) (s_54 hQ120.1.1) rfl ?_
                  have kp14 : mI (sI Mq120 54 25 x11) 64 = mI M 64 := (kp_sI kp120_64 rfl)
                  have kp15 : mI (sI Mq120 54 25 x11) 65 = mI M 65 := (kp_sI kp120_65 rfl)
                  have kp16 : mI (sI Mq120 54 25 x11) 67 = mI M 67 := (kp_sI kp120_67 rfl)
                  have kp17 : mI (sI Mq120 54 25 x11) 68 = mI M 68 := (kp_sI kp120_68 rfl)
                  have kp18 : mI (sI Mq120 54 25 x11) 69 = mI M 69 := (kp_sI kp120_69 rfl)
                  have kp19 : mI (sI Mq120 54 25 x11) 70 = mI M 70 := (kp_sI kp120_70 rfl)
                  have kp20 : mI (sI Mq120 54 25 x11) 71 = mI M 71 := (kp_sI kp120_71 rfl)
                  have kp21 : mI (sI Mq120 54 25 x11) 72 = mI M 72 := (kp_sI kp120_72 rfl)
                  have kp22 : mI (sI Mq120 54 25 x11) 73 = mI M 73 := (kp_sI kp120_73 rfl)
                  have kp23 : mI (sI Mq120 54 25 x11) 74 = mI M 74 := (kp_sI kp120_74 rfl)
                  have kp24 : mI (sI Mq120 54 25 x11) 55 = mI M 55 := (kp_sI kp120_55 rfl)
                  have kp25 : mI (sI Mq120 54 25 x11) 57 = mI M 57 := (kp_sI kp120_57 rfl)
                  have kp26 : mI (sI Mq120 54 25 x11) 58 = mI M 58 := (kp_sI kp120_58 rfl)
                  have kp27 : mI (sI Mq120 54 25 x11) 63 = mI M 63 := (kp_sI kp120_63 rfl)
                  have hB28 : BD M (sI Mq120 54 25 x11) := BD.w54_25 hQ120 (by omega) (by omega)
                  refine vc_iconst dX12_goTurn_223 rfl ?_
                  refine vc_zret dX12_goTurn_224 rfl (by first | decide | omega) (Nat.le_of_ble_eq_true rfl) (Nat.le_of_ble_eq_true rfl) ?_
                  have k29 : mI (sI Mq120 54 25 x11) 54 27 = mI Mq120 54 27 := rfl
                  have k30 : mI (sI Mq120 54 25 x11) 54 32 = mI Mq120 54 32 := rfl
                  exact ⟨_, rfl, hB28, kp24, kp25, kp26, kp27, kp14, kp15, kp16, kp17, kp18, kp19, kp20, kp21, kp22, kp23, by omega, by omega, by omega⟩
                · refine vc_aload_n dX12_goTurn_205 rfl ?_
                  refine vc_iload dX12_goTurn_206 rfl ?_
                  refine vc_iload_n dX12_goTurn_208 rfl ?_
                  refine vc_cVI dX12_goTurn_209 (sfX12_isCounted (M := Mq120) hQ120.1  x11 s (by omega) (by omega)) rfl okX12_isCounted viX12_isCounted lkX12_352 (s_54 hQ120.1.1) cl_12 rfl (Nat.le_of_ble_eq_true rfl) ⟨rfl, rfl⟩ (Nat.le_of_ble_eq_true rfl) (Nat.le_of_ble_eq_true rfl) (Nat.le_of_ble_eq_true rfl) ?_
                  rintro x31 _ ⟨rfl, h32, h33⟩
                  refine vc_if_ne dX12_goTurn_212 (fun h34 => ?_) (fun h34 => ?_)
                  · refine vc_aload_n dX12_goTurn_217 rfl ?_
                    refine vc_iload dX12_goTurn_218 rfl ?_
                    refine vc_putI dX12_goTurn_220 (plX12_324 _ rfl) (s_54 hQ120.1.1) rfl ?_
                    have kp35 : mI (sI Mq120 54 25 x11) 64 = mI M 64 := (kp_sI kp120_64 rfl)
                    have kp36 : mI (sI Mq120 54 25 x11) 65 = mI M 65 := (kp_sI kp120_65 rfl)
                    have kp37 : mI (sI Mq120 54 25 x11) 67 = mI M 67 := (kp_sI kp120_67 rfl)
                    have kp38 : mI (sI Mq120 54 25 x11) 68 = mI M 68 := (kp_sI kp120_68 rfl)
                    have kp39 : mI (sI Mq120 54 25 x11) 69 = mI M 69 := (kp_sI kp120_69 rfl)
                    have kp40 : mI (sI Mq120 54 25 x11) 70 = mI M 70 := (kp_sI kp120_70 rfl)
                    have kp41 : mI (sI Mq120 54 25 x11) 71 = mI M 71 := (kp_sI kp120_71 rfl)
                    have kp42 : mI (sI Mq120 54 25 x11) 72 = mI M 72 := (kp_sI kp120_72 rfl)
                    have kp43 : mI (sI Mq120 54 25 x11) 73 = mI M 73 := (kp_sI kp120_73 rfl)
                    have kp44 : mI (sI Mq120 54 25 x11) 74 = mI M 74 := (kp_sI kp120_74 rfl)
                    have kp45 : mI (sI Mq120 54 25 x11) 55 = mI M 55 := (kp_sI kp120_55 rfl)
                    have kp46 : mI (sI Mq120 54 25 x11) 57 = mI M 57 := (kp_sI kp120_57 rfl)
                    have kp47 : mI (sI Mq120 54 25 x11) 58 = mI M 58 := (kp_sI kp120_58 rfl)
                    have kp48 : mI (sI Mq120 54 25 x11) 63 = mI M 63 := (kp_sI kp120_63 rfl)
                    have hB49 : BD M (sI Mq120 54 25 x11) := BD.w54_25 hQ120 (by omega) (by omega)
                    refine vc_iconst dX12_goTurn_223 rfl ?_
                    refine vc_zret dX12_goTurn_224 rfl (by first | decide | omega) (Nat.le_of_ble_eq_true rfl) (Nat.le_of_ble_eq_true rfl) ?_
                    have k50 : mI (sI Mq120 54 25 x11) 54 27 = mI Mq120 54 27 := rfl
                    have k51 : mI (sI Mq120 54 25 x11) 54 32 = mI Mq120 54 32 := rfl
                    exact ⟨_, rfl, hB49, kp45, kp46, kp47, kp48, kp35, kp36, kp37, kp38, kp39, kp40, kp41, kp42, kp43, kp44, by omega, by omega, by omega⟩
                  · refine vc_iconst dX12_goTurn_215 rfl ?_
                    refine vc_zret dX12_goTurn_216 rfl (by first | decide | omega) (Nat.le_of_ble_eq_true rfl) (Nat.le_of_ble_eq_true rfl) ?_
                    exact ⟨_, rfl, hQ120, kp120_55, kp120_57, kp120_58, kp120_63, kp120_64, kp120_65, kp120_67, kp120_68, kp120_69, kp120_70, kp120_71, kp120_72, kp120_73, kp120_74, by omega, by omega, by omega⟩
              · refine vc_aload_n dX12_goTurn_125 rfl ?_
                refine vc_cVI dX12_goTurn_126 (sfX12_goOn (M := Mq120) hQ120.1   ) rfl okX12_goOn viX12_goOn lkX12_348 (s_54 hQ120.1.1) cl_12 rfl (Nat.le_of_ble_eq_true rfl) ⟨rfl, rfl⟩ (Nat.le_of_ble_eq_true rfl) (Nat.le_of_ble_eq_true rfl) (Nat.le_of_ble_eq_true rfl) ?_
                rintro x52 M53 ⟨hB54, kp55, kp56, kp57, kp58, kp59, kp60, kp61, kp62, kp63, kp64, kp65, kp66, kp67, kp68, h69, h70, h71, h72⟩
                have hB73 : BD M M53 := BD.go hQ120 hB54
                have kp74 : mI M53 64 = mI M 64 := kp_go kp120_64 kp59
                have kp75 : mI M53 65 = mI M 65 := kp_go kp120_65 kp60
                have kp76 : mI M53 67 = mI M 67 := kp_go kp120_67 kp61
                have kp77 : mI M53 68 = mI M 68 := kp_go kp120_68 kp62
                have kp78 : mI M53 69 = mI M 69 := kp_go kp120_69 kp63
                have kp79 : mI M53 70 = mI M 70 := kp_go kp120_70 kp64
                have kp80 : mI M53 71 = mI M 71 := kp_go kp120_71 kp65
                have kp81 : mI M53 72 = mI M 72 := kp_go kp120_72 kp66
                have kp82 : mI M53 73 = mI M 73 := kp_go kp120_73 kp67
                have kp83 : mI M53 74 = mI M 74 := kp_go kp120_74 kp68
                have kp84 : mI M53 55 = mI M 55 := kp_go kp120_55 kp55
                have kp85 : mI M53 57 = mI M 57 := kp_go kp120_57 kp56
                have kp86 : mI M53 58 = mI M 58 := kp_go kp120_58 kp57
                have kp87 : mI M53 63 = mI M 63 := kp_go kp120_63 kp58
                have kz := b54_27 (M := M53) hB73.1
                refine vc_if_ne dX12_goTurn_129 (fun h88 => ?_) (fun h88 => ?_)
                · refine vc_iload dX12_goTurn_134 rfl ?_
                  refine vc_if_ne dX12_goTurn_136 (fun h89 => by exfalso; omega) (fun h89 => ?_)
                  refine vc_iload_n dX12_goTurn_139 rfl ?_
                  refine vc_iconst dX12_goTurn_140 rfl ?_
                  refine vc_icmp_eq dX12_goTurn_141 (fun h90 => ?_) (fun h90 => ?_)
                  · refine vc_iinc dX12_goTurn_154 rfl (by decide) rfl (show _ = [some (aR 54), none, some (aI s), some (aI x1), some (aI x2), some (aI 0), none, some (aI x11), some (aI (wI (v8 + 1))), some (aI v9)] from rfl) ?_
                    refine vc_iload dX12_goTurn_157 rfl ?_
                    refine vc_if_eq dX12_goTurn_159 (fun h91 => ?_) (fun h91 => by exfalso; omega)
                    refine vc_iload dX12_goTurn_183 rfl ?_
                    refine vc_iload dX12_goTurn_185 rfl ?_
                    refine vc_icmp_ne dX12_goTurn_187 (fun h92 => ?_) (fun h92 => ?_)
                    · refine vc_iconst dX12_goTurn_194 rfl ?_
                      refine vc_istore dX12_goTurn_195 (by decide) rfl (show _ = [some (aR 54), none, some (aI s), some (aI x1), some (aI x2), some (aI 0), none, some (aI x11), some (aI (wI (v8 + 1))), some (aI 0)] from rfl) ?_
                      refine vc_goto dX12_goTurn_197 ?_
                      exact ih120 M53 (wI (v8 + 1)) 0 hB73 kp74 kp75 kp76 kp77 kp78 kp79 kp80 kp81 kp82 kp83 kp84 kp85 kp86 kp87 (by omega) (by omega) (by omega) (by omega) (by omega) (by omega)
                    · refine vc_iconst dX12_goTurn_190 rfl ?_
                      refine vc_goto dX12_goTurn_191 ?_
                      refine vc_istore dX12_goTurn_195 (by decide) rfl (show _ = [some (aR 54), none, some (aI s), some (aI x1), some (aI x2), some (aI 0), none, some (aI x11), some (aI (wI (v8 + 1))), some (aI 1)] from rfl) ?_
                      refine vc_goto dX12_goTurn_197 ?_
                      exact ih120 M53 (wI (v8 + 1)) 1 hB73 kp74 kp75 kp76 kp77 kp78 kp79 kp80 kp81 kp82 kp83 kp84 kp85 kp86 kp87 (by omega) (by omega) (by omega) (by omega) (by omega) (by omega)
                  · refine vc_aload_n dX12_goTurn_144 rfl ?_
                    refine vc_iload dX12_goTurn_145 rfl ?_
                    refine vc_iload_n dX12_goTurn_147 rfl ?_
                    refine vc_cVI dX12_goTurn_148 (sfX12_isCounted (M := M53) hB73.1  x11 s (by omega) (by omega)) rfl okX12_isCounted viX12_isCounted lkX12_352 (s_54 hB73.1.1) cl_12 rfl (Nat.le_of_ble_eq_true rfl) ⟨rfl, rfl⟩ (Nat.le_of_ble_eq_true rfl) (Nat.le_of_ble_eq_true rfl) (Nat.le_of_ble_eq_true rfl) ?_
                    rintro x93 _ ⟨rfl, h94, h95⟩
                    refine vc_if_eq dX12_goTurn_151 (fun h96 => ?_) (fun h96 => ?_)
                    · refine vc_iload dX12_goTurn_157 rfl ?_
                      refine vc_if_eq dX12_goTurn_159 (fun h97 => ?_) (fun h97 => by exfalso; omega)
                      refine vc_iload dX12_goTurn_183 rfl ?_
                      refine vc_iload dX12_goTurn_185 rfl ?_
                      refine vc_icmp_ne dX12_goTurn_187 (fun h98 => ?_) (fun h98 => ?_)
                      · refine vc_iconst dX12_goTurn_194 rfl ?_
                        refine vc_istore dX12_goTurn_195 (by decide) rfl (show _ = [some (aR 54), none, some (aI s), some (aI x1), some (aI x2), some (aI 0), none, some (aI x11), some (aI v8), some (aI 0)] from rfl) ?_
                        refine vc_goto dX12_goTurn_197 ?_
                        exact ih120 M53 v8 0 hB73 kp74 kp75 kp76 kp77 kp78 kp79 kp80 kp81 kp82 kp83 kp84 kp85 kp86 kp87 (by omega) (by omega) (by omega) (by omega) (by omega) (by omega)
                      · refine vc_iconst dX12_goTurn_190 rfl ?_
                        refine vc_goto dX12_goTurn_191 ?_
                        refine vc_istore dX12_goTurn_195 (by decide) rfl (show _ = [some (aR 54), none, some (aI s), some (aI x1), some (aI x2), some (aI 0), none, some (aI x11), some (aI v8), some (aI 1)] from rfl) ?_
                        refine vc_goto dX12_goTurn_197 ?_
                        exact ih120 M53 v8 1 hB73 kp74 kp75 kp76 kp77 kp78 kp79 kp80 kp81 kp82 kp83 kp84 kp85 kp86 kp87 (by omega) (by omega) (by omega) (by omega) (by omega) (by omega)
                    · refine vc_iinc dX12_goTurn_154 rfl (by decide) rfl (show _ = [some (aR 54), none, some (aI s), some (aI x1), some (aI x2), some (aI 0), none, some (aI x11), some (aI (wI (v8 + 1))), some (aI v9)] from rfl) ?_
                      refine vc_iload dX12_goTurn_157 rfl ?_
                      refine vc_if_eq dX12_goTurn_159 (fun h99 => ?_) (fun h99 => by exfalso; omega)
                      refine vc_iload dX12_goTurn_183 rfl ?_
                      refine vc_iload dX12_goTurn_185 rfl ?_
                      refine vc_icmp_ne dX12_goTurn_187 (fun h100 => ?_) (fun h100 => ?_)
                      · refine vc_iconst dX12_goTurn_194 rfl ?_
                        refine vc_istore dX12_goTurn_195 (by decide) rfl (show _ = [some (aR 54), none, some (aI s), some (aI x1), some (aI x2), some (aI 0), none, some (aI x11), some (aI (wI (v8 + 1))), some (aI 0)] from rfl) ?_
                        refine vc_goto dX12_goTurn_197 ?_
                        exact ih120 M53 (wI (v8 + 1)) 0 hB73 kp74 kp75 kp76 kp77 kp78 kp79 kp80 kp81 kp82 kp83 kp84 kp85 kp86 kp87 (by omega) (by omega) (by omega) (by omega) (by omega) (by omega)
                      · refine vc_iconst dX12_goTurn_190 rfl ?_
                        refine vc_goto dX12_goTurn_191 ?_
                        refine vc_istore dX12_goTurn_195 (by decide) rfl (show _ = [some (aR 54), none, some (aI s), some (aI x1), some (aI x2), some (aI 0), none, some (aI x11), some (aI (wI (v8 + 1))), some (aI 1)] from rfl) ?_
                        refine vc_goto dX12_goTurn_197 ?_
                        exact ih120 M53 (wI (v8 + 1)) 1 hB73 kp74 kp75 kp76 kp77 kp78 kp79 kp80 kp81 kp82 kp83 kp84 kp85 kp86 kp87 (by omega) (by omega) (by omega) (by omega) (by omega) (by omega)
                · refine vc_iconst dX12_goTurn_132 rfl ?_
                  refine vc_zret dX12_goTurn_133 rfl (by first | decide | omega) (Nat.le_of_ble_eq_true rfl) (Nat.le_of_ble_eq_true rfl) ?_
                  exact ⟨_, rfl, hB73, kp84, kp85, kp86, kp87, kp74, kp75, kp76, kp77, kp78, kp79, kp80, kp81, kp82, kp83, by omega, by omega, by omega⟩
          refine vc_less [some (aR 54), none, some (aI s), some (aI x1), some (aI x2), some (aI 0), none, some (aI x11), some (aI 0), some (aI 0)] (lessL_keep (lessL_drop (lessL_keep (lessL_keep (lessL_keep (lessL_keep (lessL_drop (lessL_keep (lessL_keep (lessL_keep (lessL_nil))))))))))) ?_
          exact lp120 _ M 0 0 hB0 rfl rfl rfl rfl rfl rfl rfl rfl rfl rfl rfl rfl rfl rfl (by omega) (by omega) (by omega) (by omega) (by omega) (Nat.lt_succ_self _)
        · refine vc_aload_n dX12_goTurn_88 rfl ?_
          refine vc_getI dX12_goTurn_89 flX12_324 (s_54 hB0.1.1) rfl ?_
          have k101 : 0 ≤ mI M 54 25 ∧ mI M 54 25 ≤ 3 := b54_25 (M := M) hB0.1
          refine vc_goto dX12_goTurn_92 ?_
          refine vc_nameI (fun x102 ex102 => ?_)
          refine vc_istore dX12_goTurn_112 (by decide) rfl (show _ = [some (aR 54), some (aI t), some (aI s), some (aI x1), some (aI x2), some (aI 0), some (aI 1), some (aI x102), none, none] from rfl) ?_
          refine vc_iconst dX12_goTurn_114 rfl ?_
          refine vc_istore dX12_goTurn_115 (by decide) rfl (show _ = [some (aR 54), some (aI t), some (aI s), some (aI x1), some (aI x2), some (aI 0), some (aI 1), some (aI x102), some (aI 0), none] from rfl) ?_
          refine vc_iconst dX12_goTurn_117 rfl ?_
          refine vc_istore dX12_goTurn_118 (by decide) rfl (show _ = [some (aR 54), some (aI t), some (aI s), some (aI x1), some (aI x2), some (aI 0), some (aI 1), some (aI x102), some (aI 0), some (aI 0)] from rfl) ?_
          have lp120 : ∀ (n120 : Nat) (Mq120 : Mem) (v8 : Int) (v9 : Int), (BD M Mq120) → (mI Mq120 64 = mI M 64) → (mI Mq120 65 = mI M 65) → (mI Mq120 67 = mI M 67) → (mI Mq120 68 = mI M 68) → (mI Mq120 69 = mI M 69) → (mI Mq120 70 = mI M 70) → (mI Mq120 71 = mI M 71) → (mI Mq120 72 = mI M 72) → (mI Mq120 73 = mI M 73) → (mI Mq120 74 = mI M 74) → (mI Mq120 55 = mI M 55) → (mI Mq120 57 = mI M 57) → (mI Mq120 58 = mI M 58) → (mI Mq120 63 = mI M 63) → (0 ≤ v9) → (v9 ≤ 1) → (mI Mq120 54 32 = mI M 54 32) → (0 ≤ mI Mq120 54 27) → (mI Mq120 54 27 ≤ 40) → (40 - mI Mq120 54 27).toNat < n120 → VC l mdX12_goTurn 120 [some (aR 54), none, some (aI s), some (aI x1), some (aI x2), some (aI 0), none, some (aI x102), some (aI v8), some (aI v9)] [] Mq120 0 0 (fun q N => ∃ r : Int, q = some (aI r) ∧ BD M N ∧ mI N 55 = mI M 55 ∧ mI N 57 = mI M 57 ∧ mI N 58 = mI M 58 ∧ mI N 63 = mI M 63 ∧ mI N 64 = mI M 64 ∧ mI N 65 = mI M 65 ∧ mI N 67 = mI M 67 ∧ mI N 68 = mI M 68 ∧ mI N 69 = mI M 69 ∧ mI N 70 = mI M 70 ∧ mI N 71 = mI M 71 ∧ mI N 72 = mI M 72 ∧ mI N 73 = mI M 73 ∧ mI N 74 = mI M 74 ∧ 0 ≤ r ∧ r ≤ 1 ∧ mI N 54 32 = mI M 54 32) := by
            intro n120
            induction n120 with
            | zero => intro Mq120 v8 v9 hQ120 kp120_64 kp120_65 kp120_67 kp120_68 kp120_69 kp120_70 kp120_71 kp120_72 kp120_73 kp120_74 kp120_55 kp120_57 kp120_58 kp120_63 g120_9a g120_9b g120i0 g120i1 g120i2 hm120; exact absurd hm120 (Nat.not_lt_zero _)
            | succ n120 ih120 =>
              intro Mq120 v8 v9 hQ120 kp120_64 kp120_65 kp120_67 kp120_68 kp120_69 kp120_70 kp120_71 kp120_72 kp120_73 kp120_74 kp120_55 kp120_57 kp120_58 kp120_63 g120_9a g120_9b g120i0 g120i1 g120i2 hm120
              refine vc_iload dX12_goTurn_120 rfl ?_
              refine vc_if_ne dX12_goTurn_122 (fun h103 => ?_) (fun h103 => ?_)
              · refine vc_iload_n dX12_goTurn_200 rfl ?_
                refine vc_iconst dX12_goTurn_201 rfl ?_
                refine vc_icmp_eq dX12_goTurn_202 (fun h104 => ?_) (fun h104 => by exfalso; omega)
                refine vc_aload_n dX12_goTurn_217 rfl ?_
                refine vc_iload dX12_goTurn_218 rfl ?_
                refine vc_putI dX12_goTurn_220 (plX12_324 _ rfl) (s_54 hQ120.1.1) rfl ?_
                have kp105 : mI (sI Mq120 54 25 x102) 64 = mI M 64 := (kp_sI kp120_64 rfl)
                have kp106 : mI (sI Mq120 54 25 x102) 65 = mI M 65 := (kp_sI kp120_65 rfl)
                have kp107 : mI (sI Mq120 54 25 x102) 67 = mI M 67 := (kp_sI kp120_67 rfl)
                have kp108 : mI (sI Mq120 54 25 x102) 68 = mI M 68 := (kp_sI kp120_68 rfl)
                have kp109 : mI (sI Mq120 54 25 x102) 69 = mI M 69 := (kp_sI kp120_69 rfl)
                have kp110 : mI (sI Mq120 54 25 x102) 70 = mI M 70 := (kp_sI kp120_70 rfl)
                have kp111 : mI (sI Mq120 54 25 x102) 71 = mI M 71 := (kp_sI kp120_71 rfl)
                have kp112 : mI (sI Mq120 54 25 x102) 72 = mI M 72 := (kp_sI kp120_72 rfl)
                have kp113 : mI (sI Mq120 54 25 x102) 73 = mI M 73 := (kp_sI kp120_73 rfl)
                have kp114 : mI (sI Mq120 54 25 x102) 74 = mI M 74 := (kp_sI kp120_74 rfl)
                have kp115 : mI (sI Mq120 54 25 x102) 55 = mI M 55 := (kp_sI kp120_55 rfl)
                have kp116 : mI (sI Mq120 54 25 x102) 57 = mI M 57 := (kp_sI kp120_57 rfl)
                have kp117 : mI (sI Mq120 54 25 x102) 58 = mI M 58 := (kp_sI kp120_58 rfl)
                have kp118 : mI (sI Mq120 54 25 x102) 63 = mI M 63 := (kp_sI kp120_63 rfl)
                have hB119 : BD M (sI Mq120 54 25 x102) := BD.w54_25 hQ120 (by omega) (by omega)
                refine vc_iconst dX12_goTurn_223 rfl ?_
                refine vc_zret dX12_goTurn_224 rfl (by first | decide | omega) (Nat.le_of_ble_eq_true rfl) (Nat.le_of_ble_eq_true rfl) ?_
                have k120 : mI (sI Mq120 54 25 x102) 54 27 = mI Mq120 54 27 := rfl
                have k121 : mI (sI Mq120 54 25 x102) 54 32 = mI Mq120 54 32 := rfl
                exact ⟨_, rfl, hB119, kp115, kp116, kp117, kp118, kp105, kp106, kp107, kp108, kp109, kp110, kp111, kp112, kp113, kp114, by omega, by omega, by omega⟩
              · refine vc_aload_n dX12_goTurn_125 rfl ?_
                refine vc_cVI dX12_goTurn_126 (sfX12_goOn (M := Mq120) hQ120.1   ) rfl okX12_goOn viX12_goOn lkX12_348 (s_54 hQ120.1.1) cl_12 rfl (Nat.le_of_ble_eq_true rfl) ⟨rfl, rfl⟩ (Nat.le_of_ble_eq_true rfl) (Nat.le_of_ble_eq_true rfl) (Nat.le_of_ble_eq_true rfl) ?_
                rintro x122 M123 ⟨hB124, kp125, kp126, kp127, kp128, kp129, kp130, kp131, kp132, kp133, kp134, kp135, kp136, kp137, kp138, h139, h140, h141, h142⟩
                have hB143 : BD M M123 := BD.go hQ120 hB124
                have kp144 : mI M123 64 = mI M 64 := kp_go kp120_64 kp129
                have kp145 : mI M123 65 = mI M 65 := kp_go kp120_65 kp130
                have kp146 : mI M123 67 = mI M 67 := kp_go kp120_67 kp131
                have kp147 : mI M123 68 = mI M 68 := kp_go kp120_68 kp132
                have kp148 : mI M123 69 = mI M 69 := kp_go kp120_69 kp133
                have kp149 : mI M123 70 = mI M 70 := kp_go kp120_70 kp134
                have kp150 : mI M123 71 = mI M 71 := kp_go kp120_71 kp135
                have kp151 : mI M123 72 = mI M 72 := kp_go kp120_72 kp136
                have kp152 : mI M123 73 = mI M 73 := kp_go kp120_73 kp137
                have kp153 : mI M123 74 = mI M 74 := kp_go kp120_74 kp138
                have kp154 : mI M123 55 = mI M 55 := kp_go kp120_55 kp125
                have kp155 : mI M123 57 = mI M 57 := kp_go kp120_57 kp126
                have kp156 : mI M123 58 = mI M 58 := kp_go kp120_58 kp127
                have kp157 : mI M123 63 = mI M 63 := kp_go kp120_63 kp128
                have kz := b54_27 (M := M123) hB143.1
                refine vc_if_ne dX12_goTurn_129 (fun h158 => ?_) (fun h158 => ?_)
                · refine vc_iload dX12_goTurn_134 rfl ?_
                  refine vc_if_ne dX12_goTurn_136 (fun h159 => by exfalso; omega) (fun h159 => ?_)
                  refine vc_iload_n dX12_goTurn_139 rfl ?_
                  refine vc_iconst dX12_goTurn_140 rfl ?_
                  refine vc_icmp_eq dX12_goTurn_141 (fun h160 => ?_) (fun h160 => by exfalso; omega)
                  refine vc_iinc dX12_goTurn_154 rfl (by decide) rfl (show _ = [some (aR 54), none, some (aI s), some (aI x1), some (aI x2), some (aI 0), none, some (aI x102), some (aI (wI (v8 + 1))), some (aI v9)] from rfl) ?_
                  refine vc_iload dX12_goTurn_157 rfl ?_
                  refine vc_if_eq dX12_goTurn_159 (fun h161 => ?_) (fun h161 => by exfalso; omega)
                  refine vc_iload dX12_goTurn_183 rfl ?_
                  refine vc_iload dX12_goTurn_185 rfl ?_
                  refine vc_icmp_ne dX12_goTurn_187 (fun h162 => ?_) (fun h162 => ?_)
                  · refine vc_iconst dX12_goTurn_194 rfl ?_
                    refine vc_istore dX12_goTurn_195 (by decide) rfl (show _ = [some (aR 54), none, some (aI s), some (aI x1), some (aI x2), some (aI 0), none, some (aI x102), some (aI (wI (v8 + 1))), some (aI 0)] from rfl) ?_
                    refine vc_goto dX12_goTurn_197 ?_
                    exact ih120 M123 (wI (v8 + 1)) 0 hB143 kp144 kp145 kp146 kp147 kp148 kp149 kp150 kp151 kp152 kp153 kp154 kp155 kp156 kp157 (by omega) (by omega) (by omega) (by omega) (by omega) (by omega)
                  · refine vc_iconst dX12_goTurn_190 rfl ?_
                    refine vc_goto dX12_goTurn_191 ?_
                    refine vc_istore dX12_goTurn_195 (by decide) rfl (show _ = [some (aR 54), none, some (aI s), some (aI x1), some (aI x2), some (aI 0), none, some (aI x102), some (aI (wI (v8 + 1))), some (aI 1)] from rfl) ?_
                    refine vc_goto dX12_goTurn_197 ?_
                    exact ih120 M123 (wI (v8 + 1)) 1 hB143 kp144 kp145 kp146 kp147 kp148 kp149 kp150 kp151 kp152 kp153 kp154 kp155 kp156 kp157 (by omega) (by omega) (by omega) (by omega) (by omega) (by omega)
                · refine vc_iconst dX12_goTurn_132 rfl ?_
                  refine vc_zret dX12_goTurn_133 rfl (by first | decide | omega) (Nat.le_of_ble_eq_true rfl) (Nat.le_of_ble_eq_true rfl) ?_
                  exact ⟨_, rfl, hB143, kp154, kp155, kp156, kp157, kp144, kp145, kp146, kp147, kp148, kp149, kp150, kp151, kp152, kp153, by omega, by omega, by omega⟩
          refine vc_less [some (aR 54), none, some (aI s), some (aI x1), some (aI x2), some (aI 0), none, some (aI x102), some (aI 0), some (aI 0)] (lessL_keep (lessL_drop (lessL_keep (lessL_keep (lessL_keep (lessL_keep (lessL_drop (lessL_keep (lessL_keep (lessL_keep (lessL_nil))))))))))) ?_
          exact lp120 _ M 0 0 hB0 rfl rfl rfl rfl rfl rfl rfl rfl rfl rfl rfl rfl rfl rfl (by omega) (by omega) (by omega) (by omega) (by omega) (Nat.lt_succ_self _)
      · refine vc_iconst dX12_goTurn_68 rfl ?_
        refine vc_goto dX12_goTurn_69 ?_
        refine vc_icmp_ne dX12_goTurn_73 (fun h163 => ?_) (fun h163 => by exfalso; omega)
        refine vc_iconst dX12_goTurn_80 rfl ?_
        refine vc_istore dX12_goTurn_81 (by decide) rfl (show _ = [some (aR 54), some (aI t), some (aI s), some (aI x1), some (aI x2), some (aI 0), some (aI 0), none, none, none] from rfl) ?_
        refine vc_iload_n dX12_goTurn_83 rfl ?_
        refine vc_iconst dX12_goTurn_84 rfl ?_
        refine vc_icmp_ne dX12_goTurn_85 (fun h164 => ?_) (fun h164 => ?_)
        · refine vc_aload_n dX12_goTurn_95 rfl ?_
          refine vc_getI dX12_goTurn_96 flX12_324 (s_54 hB0.1.1) rfl ?_
          have k165 : 0 ≤ mI M 54 25 ∧ mI M 54 25 ≤ 3 := b54_25 (M := M) hB0.1
          refine vc_iload dX12_goTurn_99 rfl ?_
          refine vc_if_eq dX12_goTurn_101 (fun h166 => ?_) (fun h166 => by exfalso; omega)
          refine vc_iconst dX12_goTurn_108 rfl ?_
          refine vc_iaddE dX12_goTurn_109 (by omega) (by omega) ?_
          refine vc_iconst dX12_goTurn_110 rfl ?_
          refine vc_iremE dX12_goTurn_111 (by omega) (by omega) ?_
          refine vc_nameI (fun x167 ex167 => ?_)
          refine vc_istore dX12_goTurn_112 (by decide) rfl (show _ = [some (aR 54), some (aI t), some (aI s), some (aI x1), some (aI x2), some (aI 0), some (aI 0), some (aI x167), none, none] from rfl) ?_
          refine vc_iconst dX12_goTurn_114 rfl ?_
          refine vc_istore dX12_goTurn_115 (by decide) rfl (show _ = [some (aR 54), some (aI t), some (aI s), some (aI x1), some (aI x2), some (aI 0), some (aI 0), some (aI x167), some (aI 0), none] from rfl) ?_
          refine vc_iconst dX12_goTurn_117 rfl ?_
          refine vc_istore dX12_goTurn_118 (by decide) rfl (show _ = [some (aR 54), some (aI t), some (aI s), some (aI x1), some (aI x2), some (aI 0), some (aI 0), some (aI x167), some (aI 0), some (aI 0)] from rfl) ?_
          have lp120 : ∀ (n120 : Nat) (Mq120 : Mem) (v8 : Int) (v9 : Int), (BD M Mq120) → (mI Mq120 64 = mI M 64) → (mI Mq120 65 = mI M 65) → (mI Mq120 67 = mI M 67) → (mI Mq120 68 = mI M 68) → (mI Mq120 69 = mI M 69) → (mI Mq120 70 = mI M 70) → (mI Mq120 71 = mI M 71) → (mI Mq120 72 = mI M 72) → (mI Mq120 73 = mI M 73) → (mI Mq120 74 = mI M 74) → (mI Mq120 55 = mI M 55) → (mI Mq120 57 = mI M 57) → (mI Mq120 58 = mI M 58) → (mI Mq120 63 = mI M 63) → (0 ≤ v9) → (v9 ≤ 1) → (mI Mq120 54 32 = mI M 54 32) → (0 ≤ mI Mq120 54 27) → (mI Mq120 54 27 ≤ 40) → (40 - mI Mq120 54 27).toNat < n120 → VC l mdX12_goTurn 120 [some (aR 54), none, some (aI s), some (aI x1), some (aI x2), some (aI 0), none, some (aI x167), some (aI v8), some (aI v9)] [] Mq120 0 0 (fun q N => ∃ r : Int, q = some (aI r) ∧ BD M N ∧ mI N 55 = mI M 55 ∧ mI N 57 = mI M 57 ∧ mI N 58 = mI M 58 ∧ mI N 63 = mI M 63 ∧ mI N 64 = mI M 64 ∧ mI N 65 = mI M 65 ∧ mI N 67 = mI M 67 ∧ mI N 68 = mI M 68 ∧ mI N 69 = mI M 69 ∧ mI N 70 = mI M 70 ∧ mI N 71 = mI M 71 ∧ mI N 72 = mI M 72 ∧ mI N 73 = mI M 73 ∧ mI N 74 = mI M 74 ∧ 0 ≤ r ∧ r ≤ 1 ∧ mI N 54 32 = mI M 54 32) := by
            intro n120
            induction n120 with
            | zero => intro Mq120 v8 v9 hQ120 kp120_64 kp120_65 kp120_67 kp120_68 kp120_69 kp120_70 kp120_71 kp120_72 kp120_73 kp120_74 kp120_55 kp120_57 kp120_58 kp120_63 g120_9a g120_9b g120i0 g120i1 g120i2 hm120; exact absurd hm120 (Nat.not_lt_zero _)
            | succ n120 ih120 =>
              intro Mq120 v8 v9 hQ120 kp120_64 kp120_65 kp120_67 kp120_68 kp120_69 kp120_70 kp120_71 kp120_72 kp120_73 kp120_74 kp120_55 kp120_57 kp120_58 kp120_63 g120_9a g120_9b g120i0 g120i1 g120i2 hm120
              refine vc_iload dX12_goTurn_120 rfl ?_
              refine vc_if_ne dX12_goTurn_122 (fun h168 => ?_) (fun h168 => ?_)
              · refine vc_iload_n dX12_goTurn_200 rfl ?_
                refine vc_iconst dX12_goTurn_201 rfl ?_
                refine vc_icmp_eq dX12_goTurn_202 (fun h169 => ?_) (fun h169 => ?_)
                · refine vc_aload_n dX12_goTurn_217 rfl ?_
                  refine vc_iload dX12_goTurn_218 rfl ?_
                  refine vc_putI dX12_goTurn_220 (plX12_324 _ rfl) (s_54 hQ120.1.1) rfl ?_
                  have kp170 : mI (sI Mq120 54 25 x167) 64 = mI M 64 := (kp_sI kp120_64 rfl)
                  have kp171 : mI (sI Mq120 54 25 x167) 65 = mI M 65 := (kp_sI kp120_65 rfl)
                  have kp172 : mI (sI Mq120 54 25 x167) 67 = mI M 67 := (kp_sI kp120_67 rfl)
                  have kp173 : mI (sI Mq120 54 25 x167) 68 = mI M 68 := (kp_sI kp120_68 rfl)
                  have kp174 : mI (sI Mq120 54 25 x167) 69 = mI M 69 := (kp_sI kp120_69 rfl)
                  have kp175 : mI (sI Mq120 54 25 x167) 70 = mI M 70 := (kp_sI kp120_70 rfl)
                  have kp176 : mI (sI Mq120 54 25 x167) 71 = mI M 71 := (kp_sI kp120_71 rfl)
                  have kp177 : mI (sI Mq120 54 25 x167) 72 = mI M 72 := (kp_sI kp120_72 rfl)
                  have kp178 : mI (sI Mq120 54 25 x167) 73 = mI M 73 := (kp_sI kp120_73 rfl)
                  have kp179 : mI (sI Mq120 54 25 x167) 74 = mI M 74 := (kp_sI kp120_74 rfl)
                  have kp180 : mI (sI Mq120 54 25 x167) 55 = mI M 55 := (kp_sI kp120_55 rfl)
                  have kp181 : mI (sI Mq120 54 25 x167) 57 = mI M 57 := (kp_sI kp120_57 rfl)
                  have kp182 : mI (sI Mq120 54 25 x167) 58 = mI M 58 := (kp_sI kp120_58 rfl)
                  have kp183 : mI (sI Mq120 54 25 x167) 63 = mI M 63 := (kp_sI kp120_63 rfl)
                  have hB184 : BD M (sI Mq120 54 25 x167) := BD.w54_25 hQ120 (by omega) (by omega)
                  refine vc_iconst dX12_goTurn_223 rfl ?_
                  refine vc_zret dX12_goTurn_224 rfl (by first | decide | omega) (Nat.le_of_ble_eq_true rfl) (Nat.le_of_ble_eq_true rfl) ?_
                  have k185 : mI (sI Mq120 54 25 x167) 54 27 = mI Mq120 54 27 := rfl
                  have k186 : mI (sI Mq120 54 25 x167) 54 32 = mI Mq120 54 32 := rfl
                  exact ⟨_, rfl, hB184, kp180, kp181, kp182, kp183, kp170, kp171, kp172, kp173, kp174, kp175, kp176, kp177, kp178, kp179, by omega, by omega, by omega⟩
                · refine vc_aload_n dX12_goTurn_205 rfl ?_
                  refine vc_iload dX12_goTurn_206 rfl ?_
                  refine vc_iload_n dX12_goTurn_208 rfl ?_
                  refine vc_cVI dX12_goTurn_209 (sfX12_isCounted (M := Mq120) hQ120.1  x167 s (by omega) (by omega)) rfl okX12_isCounted viX12_isCounted lkX12_352 (s_54 hQ120.1.1) cl_12 rfl (Nat.le_of_ble_eq_true rfl) ⟨rfl, rfl⟩ (Nat.le_of_ble_eq_true rfl) (Nat.le_of_ble_eq_true rfl) (Nat.le_of_ble_eq_true rfl) ?_
                  rintro x187 _ ⟨rfl, h188, h189⟩
                  refine vc_if_ne dX12_goTurn_212 (fun h190 => ?_) (fun h190 => ?_)
                  · refine vc_aload_n dX12_goTurn_217 rfl ?_
                    refine vc_iload dX12_goTurn_218 rfl ?_
                    refine vc_putI dX12_goTurn_220 (plX12_324 _ rfl) (s_54 hQ120.1.1) rfl ?_
                    have kp191 : mI (sI Mq120 54 25 x167) 64 = mI M 64 := (kp_sI kp120_64 rfl)
                    have kp192 : mI (sI Mq120 54 25 x167) 65 = mI M 65 := (kp_sI kp120_65 rfl)
                    have kp193 : mI (sI Mq120 54 25 x167) 67 = mI M 67 := (kp_sI kp120_67 rfl)
                    have kp194 : mI (sI Mq120 54 25 x167) 68 = mI M 68 := (kp_sI kp120_68 rfl)
                    have kp195 : mI (sI Mq120 54 25 x167) 69 = mI M 69 := (kp_sI kp120_69 rfl)
                    have kp196 : mI (sI Mq120 54 25 x167) 70 = mI M 70 := (kp_sI kp120_70 rfl)
                    have kp197 : mI (sI Mq120 54 25 x167) 71 = mI M 71 := (kp_sI kp120_71 rfl)
                    have kp198 : mI (sI Mq120 54 25 x167) 72 = mI M 72 := (kp_sI kp120_72 rfl)
                    have kp199 : mI (sI Mq120 54 25 x167) 73 = mI M 73 := (kp_sI kp120_73 rfl)
                    have kp200 : mI (sI Mq120 54 25 x167) 74 = mI M 74 := (kp_sI kp120_74 rfl)
                    have kp201 : mI (sI Mq120 54 25 x167) 55 = mI M 55 := (kp_sI kp120_55 rfl)
                    have kp202 : mI (sI Mq120 54 25 x167) 57 = mI M 57 := (kp_sI kp120_57 rfl)
                    have kp203 : mI (sI Mq120 54 25 x167) 58 = mI M 58 := (kp_sI kp120_58 rfl)
                    have kp204 : mI (sI Mq120 54 25 x167) 63 = mI M 63 := (kp_sI kp120_63 rfl)
                    have hB205 : BD M (sI Mq120 54 25 x167) := BD.w54_25 hQ120 (by omega) (by omega)
                    refine vc_iconst dX12_goTurn_223 rfl ?_
                    refine vc_zret dX12_goTurn_224 rfl (by first | decide | omega) (Nat.le_of_ble_eq_true rfl) (Nat.le_of_ble_eq_true rfl) ?_
                    have k206 : mI (sI Mq120 54 25 x167) 54 27 = mI Mq120 54 27 := rfl
                    have k207 : mI (sI Mq120 54 25 x167) 54 32 = mI Mq120 54 32 := rfl
                    exact ⟨_, rfl, hB205, kp201, kp202, kp203, kp204, kp191, kp192, kp193, kp194, kp195, kp196, kp197, kp198, kp199, kp200, by omega, by omega, by omega⟩
                  · refine vc_iconst dX12_goTurn_215 rfl ?_
                    refine vc_zret dX12_goTurn_216 rfl (by first | decide | omega) (Nat.le_of_ble_eq_true rfl) (Nat.le_of_ble_eq_true rfl) ?_
                    exact ⟨_, rfl, hQ120, kp120_55, kp120_57, kp120_58, kp120_63, kp120_64, kp120_65, kp120_67, kp120_68, kp120_69, kp120_70, kp120_71, kp120_72, kp120_73, kp120_74, by omega, by omega, by omega⟩
              · refine vc_aload_n dX12_goTurn_125 rfl ?_
                refine vc_cVI dX12_goTurn_126 (sfX12_goOn (M := Mq120) hQ120.1   ) rfl okX12_goOn viX12_goOn lkX12_348 (s_54 hQ120.1.1) cl_12 rfl (Nat.le_of_ble_eq_true rfl) ⟨rfl, rfl⟩ (Nat.le_of_ble_eq_true rfl) (Nat.le_of_ble_eq_true rfl) (Nat.le_of_ble_eq_true rfl) ?_
                rintro x208 M209 ⟨hB210, kp211, kp212, kp213, kp214, kp215, kp216, kp217, kp218, kp219, kp220, kp221, kp222, kp223, kp224, h225, h226, h227, h228⟩
                have hB229 : BD M M209 := BD.go hQ120 hB210
                have kp230 : mI M209 64 = mI M 64 := kp_go kp120_64 kp215
                have kp231 : mI M209 65 = mI M 65 := kp_go kp120_65 kp216
                have kp232 : mI M209 67 = mI M 67 := kp_go kp120_67 kp217
                have kp233 : mI M209 68 = mI M 68 := kp_go kp120_68 kp218
                have kp234 : mI M209 69 = mI M 69 := kp_go kp120_69 kp219
                have kp235 : mI M209 70 = mI M 70 := kp_go kp120_70 kp220
                have kp236 : mI M209 71 = mI M 71 := kp_go kp120_71 kp221
                have kp237 : mI M209 72 = mI M 72 := kp_go kp120_72 kp222
                have kp238 : mI M209 73 = mI M 73 := kp_go kp120_73 kp223
                have kp239 : mI M209 74 = mI M 74 := kp_go kp120_74 kp224
                have kp240 : mI M209 55 = mI M 55 := kp_go kp120_55 kp211
                have kp241 : mI M209 57 = mI M 57 := kp_go kp120_57 kp212
                have kp242 : mI M209 58 = mI M 58 := kp_go kp120_58 kp213
                have kp243 : mI M209 63 = mI M 63 := kp_go kp120_63 kp214
                have kz := b54_27 (M := M209) hB229.1
                refine vc_if_ne dX12_goTurn_129 (fun h244 => ?_) (fun h244 => ?_)
                · refine vc_iload dX12_goTurn_134 rfl ?_
                  refine vc_if_ne dX12_goTurn_136 (fun h245 => by exfalso; omega) (fun h245 => ?_)
                  refine vc_iload_n dX12_goTurn_139 rfl ?_
                  refine vc_iconst dX12_goTurn_140 rfl ?_
                  refine vc_icmp_eq dX12_goTurn_141 (fun h246 => ?_) (fun h246 => ?_)
                  · refine vc_iinc dX12_goTurn_154 rfl (by decide) rfl (show _ = [some (aR 54), none, some (aI s), some (aI x1), some (aI x2), some (aI 0), none, some (aI x167), some (aI (wI (v8 + 1))), some (aI v9)] from rfl) ?_
                    refine vc_iload dX12_goTurn_157 rfl ?_
                    refine vc_if_eq dX12_goTurn_159 (fun h247 => ?_) (fun h247 => by exfalso; omega)
                    refine vc_iload dX12_goTurn_183 rfl ?_
                    refine vc_iload dX12_goTurn_185 rfl ?_
                    refine vc_icmp_ne dX12_goTurn_187 (fun h248 => ?_) (fun h248 => ?_)
                    · refine vc_iconst dX12_goTurn_194 rfl ?_
                      refine vc_istore dX12_goTurn_195 (by decide) rfl (show _ = [some (aR 54), none, some (aI s), some (aI x1), some (aI x2), some (aI 0), none, some (aI x167), some (aI (wI (v8 + 1))), some (aI 0)] from rfl) ?_
                      refine vc_goto dX12_goTurn_197 ?_
                      exact ih120 M209 (wI (v8 + 1)) 0 hB229 kp230 kp231 kp232 kp233 kp234 kp235 kp236 kp237 kp238 kp239 kp240 kp241 kp242 kp243 (by omega) (by omega) (by omega) (by omega) (by omega) (by omega)
                    · refine vc_iconst dX12_goTurn_190 rfl ?_
                      refine vc_goto dX12_goTurn_191 ?_
                      refine vc_istore dX12_goTurn_195 (by decide) rfl (show _ = [some (aR 54), none, some (aI s), some (aI x1), some (aI x2), some (aI 0), none, some (aI x167), some (aI (wI (v8 + 1))), some (aI 1)] from rfl) ?_
                      refine vc_goto dX12_goTurn_197 ?_
                      exact ih120 M209 (wI (v8 + 1)) 1 hB229 kp230 kp231 kp232 kp233 kp234 kp235 kp236 kp237 kp238 kp239 kp240 kp241 kp242 kp243 (by omega) (by omega) (by omega) (by omega) (by omega) (by omega)
                  · refine vc_aload_n dX12_goTurn_144 rfl ?_
                    refine vc_iload dX12_goTurn_145 rfl ?_
                    refine vc_iload_n dX12_goTurn_147 rfl ?_
                    refine vc_cVI dX12_goTurn_148 (sfX12_isCounted (M := M209) hB229.1  x167 s (by omega) (by omega)) rfl okX12_isCounted viX12_isCounted lkX12_352 (s_54 hB229.1.1) cl_12 rfl (Nat.le_of_ble_eq_true rfl) ⟨rfl, rfl⟩ (Nat.le_of_ble_eq_true rfl) (Nat.le_of_ble_eq_true rfl) (Nat.le_of_ble_eq_true rfl) ?_
                    rintro x249 _ ⟨rfl, h250, h251⟩
                    refine vc_if_eq dX12_goTurn_151 (fun h252 => ?_) (fun h252 => ?_)
                    · refine vc_iload dX12_goTurn_157 rfl ?_
                      refine vc_if_eq dX12_goTurn_159 (fun h253 => ?_) (fun h253 => by exfalso; omega)
                      refine vc_iload dX12_goTurn_183 rfl ?_
                      refine vc_iload dX12_goTurn_185 rfl ?_
                      refine vc_icmp_ne dX12_goTurn_187 (fun h254 => ?_) (fun h254 => ?_)
                      · refine vc_iconst dX12_goTurn_194 rfl ?_
                        refine vc_istore dX12_goTurn_195 (by decide) rfl (show _ = [some (aR 54), none, some (aI s), some (aI x1), some (aI x2), some (aI 0), none, some (aI x167), some (aI v8), some (aI 0)] from rfl) ?_
                        refine vc_goto dX12_goTurn_197 ?_
                        exact ih120 M209 v8 0 hB229 kp230 kp231 kp232 kp233 kp234 kp235 kp236 kp237 kp238 kp239 kp240 kp241 kp242 kp243 (by omega) (by omega) (by omega) (by omega) (by omega) (by omega)
                      · refine vc_iconst dX12_goTurn_190 rfl ?_
                        refine vc_goto dX12_goTurn_191 ?_
                        refine vc_istore dX12_goTurn_195 (by decide) rfl (show _ = [some (aR 54), none, some (aI s), some (aI x1), some (aI x2), some (aI 0), none, some (aI x167), some (aI v8), some (aI 1)] from rfl) ?_
                        refine vc_goto dX12_goTurn_197 ?_
                        exact ih120 M209 v8 1 hB229 kp230 kp231 kp232 kp233 kp234 kp235 kp236 kp237 kp238 kp239 kp240 kp241 kp242 kp243 (by omega) (by omega) (by omega) (by omega) (by omega) (by omega)
                    · refine vc_iinc dX12_goTurn_154 rfl (by decide) rfl (show _ = [some (aR 54), none, some (aI s), some (aI x1), some (aI x2), some (aI 0), none, some (aI x167), some (aI (wI (v8 + 1))), some (aI v9)] from rfl) ?_
                      refine vc_iload dX12_goTurn_157 rfl ?_
                      refine vc_if_eq dX12_goTurn_159 (fun h255 => ?_) (fun h255 => by exfalso; omega)
                      refine vc_iload dX12_goTurn_183 rfl ?_
                      refine vc_iload dX12_goTurn_185 rfl ?_
                      refine vc_icmp_ne dX12_goTurn_187 (fun h256 => ?_) (fun h256 => ?_)
                      · refine vc_iconst dX12_goTurn_194 rfl ?_
                        refine vc_istore dX12_goTurn_195 (by decide) rfl (show _ = [some (aR 54), none, some (aI s), some (aI x1), some (aI x2), some (aI 0), none, some (aI x167), some (aI (wI (v8 + 1))), some (aI 0)] from rfl) ?_
                        refine vc_goto dX12_goTurn_197 ?_
                        exact ih120 M209 (wI (v8 + 1)) 0 hB229 kp230 kp231 kp232 kp233 kp234 kp235 kp236 kp237 kp238 kp239 kp240 kp241 kp242 kp243 (by omega) (by omega) (by omega) (by omega) (by omega) (by omega)
                      · refine vc_iconst dX12_goTurn_190 rfl ?_
                        refine vc_goto dX12_goTurn_191 ?_
                        refine vc_istore dX12_goTurn_195 (by decide) rfl (show _ = [some (aR 54), none, some (aI s), some (aI x1), some (aI x2), some (aI 0), none, some (aI x167), some (aI (wI (v8 + 1))), some (aI 1)] from rfl) ?_
                        refine vc_goto dX12_goTurn_197 ?_
                        exact ih120 M209 (wI (v8 + 1)) 1 hB229 kp230 kp231 kp232 kp233 kp234 kp235 kp236 kp237 kp238 kp239 kp240 kp241 kp242 kp243 (by omega) (by omega) (by omega) (by omega) (by omega) (by omega)
                · refine vc_iconst dX12_goTurn_132 rfl ?_
                  refine vc_zret dX12_goTurn_133 rfl (by first | decide | omega) (Nat.le_of_ble_eq_true rfl) (Nat.le_of_ble_eq_true rfl) ?_
                  exact ⟨_, rfl, hB229, kp240, kp241, kp242, kp243, kp230, kp231, kp232, kp233, kp234, kp235, kp236, kp237, kp238, kp239, by omega, by omega, by omega⟩
          refine vc_less [some (aR 54), none, some (aI s), some (aI x1), some (aI x2), some (aI 0), none, some (aI x167), some (aI 0), some (aI 0)] (lessL_keep (lessL_drop (lessL_keep (lessL_keep (lessL_keep (lessL_keep (lessL_drop (lessL_keep (lessL_keep (lessL_keep (lessL_nil))))))))))) ?_
          exact lp120 _ M 0 0 hB0 rfl rfl rfl rfl rfl rfl rfl rfl rfl rfl rfl rfl rfl rfl (by omega) (by omega) (by omega) (by omega) (by omega) (Nat.lt_succ_self _)
        · refine vc_aload_n dX12_goTurn_88 rfl ?_
          refine vc_getI dX12_goTurn_89 flX12_324 (s_54 hB0.1.1) rfl ?_
          have k257 : 0 ≤ mI M 54 25 ∧ mI M 54 25 ≤ 3 := b54_25 (M := M) hB0.1
          refine vc_goto dX12_goTurn_92 ?_
          refine vc_nameI (fun x258 ex258 => ?_)
          refine vc_istore dX12_goTurn_112 (by decide) rfl (show _ = [some (aR 54), some (aI t), some (aI s), some (aI x1), some (aI x2), some (aI 0), some (aI 0), some (aI x258), none, none] from rfl) ?_
          refine vc_iconst dX12_goTurn_114 rfl ?_
          refine vc_istore dX12_goTurn_115 (by decide) rfl (show _ = [some (aR 54), some (aI t), some (aI s), some (aI x1), some (aI x2), some (aI 0), some (aI 0), some (aI x258), some (aI 0), none] from rfl) ?_
          refine vc_iconst dX12_goTurn_117 rfl ?_
          refine vc_istore dX12_goTurn_118 (by decide) rfl (show _ = [some (aR 54), some (aI t), some (aI s), some (aI x1), some (aI x2), some (aI 0), some (aI 0), some (aI x258), some (aI 0), some (aI 0)] from rfl) ?_
          have lp120 : ∀ (n120 : Nat) (Mq120 : Mem) (v8 : Int) (v9 : Int), (BD M Mq120) → (mI Mq120 64 = mI M 64) → (mI Mq120 65 = mI M 65) → (mI Mq120 67 = mI M 67) → (mI Mq120 68 = mI M 68) → (mI Mq120 69 = mI M 69) → (mI Mq120 70 = mI M 70) → (mI Mq120 71 = mI M 71) → (mI Mq120 72 = mI M 72) → (mI Mq120 73 = mI M 73) → (mI Mq120 74 = mI M 74) → (mI Mq120 55 = mI M 55) → (mI Mq120 57 = mI M 57) → (mI Mq120 58 = mI M 58) → (mI Mq120 63 = mI M 63) → (0 ≤ v9) → (v9 ≤ 1) → (mI Mq120 54 32 = mI M 54 32) → (0 ≤ mI Mq120 54 27) → (mI Mq120 54 27 ≤ 40) → (40 - mI Mq120 54 27).toNat < n120 → VC l mdX12_goTurn 120 [some (aR 54), none, some (aI s), some (aI x1), some (aI x2), some (aI 0), none, some (aI x258), some (aI v8), some (aI v9)] [] Mq120 0 0 (fun q N => ∃ r : Int, q = some (aI r) ∧ BD M N ∧ mI N 55 = mI M 55 ∧ mI N 57 = mI M 57 ∧ mI N 58 = mI M 58 ∧ mI N 63 = mI M 63 ∧ mI N 64 = mI M 64 ∧ mI N 65 = mI M 65 ∧ mI N 67 = mI M 67 ∧ mI N 68 = mI M 68 ∧ mI N 69 = mI M 69 ∧ mI N 70 = mI M 70 ∧ mI N 71 = mI M 71 ∧ mI N 72 = mI M 72 ∧ mI N 73 = mI M 73 ∧ mI N 74 = mI M 74 ∧ 0 ≤ r ∧ r ≤ 1 ∧ mI N 54 32 = mI M 54 32) := by
            intro n120
            induction n120 with
            | zero => intro Mq120 v8 v9 hQ120 kp120_64 kp120_65 kp120_67 kp120_68 kp120_69 kp120_70 kp120_71 kp120_72 kp120_73 kp120_74 kp120_55 kp120_57 kp120_58 kp120_63 g120_9a g120_9b g120i0 g120i1 g120i2 hm120; exact absurd hm120 (Nat.not_lt_zero _)
            | succ n120 ih120 =>
              intro Mq120 v8 v9 hQ120 kp120_64 kp120_65 kp120_67 kp120_68 kp120_69 kp120_70 kp120_71 kp120_72 kp120_73 kp120_74 kp120_55 kp120_57 kp120_58 kp120_63 g120_9a g120_9b g120i0 g120i1 g120i2 hm120
              refine vc_iload dX12_goTurn_120 rfl ?_
              refine vc_if_ne dX12_goTurn_122 (fun h259 => ?_) (fun h259 => ?_)
              · refine vc_iload_n dX12_goTurn_200 rfl ?_
                refine vc_iconst dX12_goTurn_201 rfl ?_
                refine vc_icmp_eq dX12_goTurn_202 (fun h260 => ?_) (fun h260 => by exfalso; omega)
                refine vc_aload_n dX12_goTurn_217 rfl ?_
                refine vc_iload dX12_goTurn_218 rfl ?_
                refine vc_putI dX12_goTurn_220 (plX12_324 _ rfl) (s_54 hQ120.1.1) rfl ?_
                have kp261 : mI (sI Mq120 54 25 x258) 64 = mI M 64 := (kp_sI kp120_64 rfl)
                have kp262 : mI (sI Mq120 54 25 x258) 65 = mI M 65 := (kp_sI kp120_65 rfl)
                have kp263 : mI (sI Mq120 54 25 x258) 67 = mI M 67 := (kp_sI kp120_67 rfl)
                have kp264 : mI (sI Mq120 54 25 x258) 68 = mI M 68 := (kp_sI kp120_68 rfl)
                have kp265 : mI (sI Mq120 54 25 x258) 69 = mI M 69 := (kp_sI kp120_69 rfl)
                have kp266 : mI (sI Mq120 54 25 x258) 70 = mI M 70 := (kp_sI kp120_70 rfl)
                have kp267 : mI (sI Mq120 54 25 x258) 71 = mI M 71 := (kp_sI kp120_71 rfl)
                have kp268 : mI (sI Mq120 54 25 x258) 72 = mI M 72 := (kp_sI kp120_72 rfl)
                have kp269 : mI (sI Mq120 54 25 x258) 73 = mI M 73 := (kp_sI kp120_73 rfl)
                have kp270 : mI (sI Mq120 54 25 x258) 74 = mI M 74 := (kp_sI kp120_74 rfl)
                have kp271 : mI (sI Mq120 54 25 x258) 55 = mI M 55 := (kp_sI kp120_55 rfl)
                have kp272 : mI (sI Mq120 54 25 x258) 57 = mI M 57 := (kp_sI kp120_57 rfl)
                have kp273 : mI (sI Mq120 54 25 x258) 58 = mI M 58 := (kp_sI kp120_58 rfl)
                have kp274 : mI (sI Mq120 54 25 x258) 63 = mI M 63 := (kp_sI kp120_63 rfl)
                have hB275 : BD M (sI Mq120 54 25 x258) := BD.w54_25 hQ120 (by omega) (by omega)
                refine vc_iconst dX12_goTurn_223 rfl ?_
                refine vc_zret dX12_goTurn_224 rfl (by first | decide | omega) (Nat.le_of_ble_eq_true rfl) (Nat.le_of_ble_eq_true rfl) ?_
                have k276 : mI (sI Mq120 54 25 x258) 54 27 = mI Mq120 54 27 := rfl
                have k277 : mI (sI Mq120 54 25 x258) 54 32 = mI Mq120 54 32 := rfl
                exact ⟨_, rfl, hB275, kp271, kp272, kp273, kp274, kp261, kp262, kp263, kp264, kp265, kp266, kp267, kp268, kp269, kp270, by omega, by omega, by omega⟩
              · refine vc_aload_n dX12_goTurn_125 rfl ?_
                refine vc_cVI dX12_goTurn_126 (sfX12_goOn (M := Mq120) hQ120.1   ) rfl okX12_goOn viX12_goOn lkX12_348 (s_54 hQ120.1.1) cl_12 rfl (Nat.le_of_ble_eq_true rfl) ⟨rfl, rfl⟩ (Nat.le_of_ble_eq_true rfl) (Nat.le_of_ble_eq_true rfl) (Nat.le_of_ble_eq_true rfl) ?_
                rintro x278 M279 ⟨hB280, kp281, kp282, kp283, kp284, kp285, kp286, kp287, kp288, kp289, kp290, kp291, kp292, kp293, kp294, h295, h296, h297, h298⟩
                have hB299 : BD M M279 := BD.go hQ120 hB280
                have kp300 : mI M279 64 = mI M 64 := kp_go kp120_64 kp285
                have kp301 : mI M279 65 = mI M 65 := kp_go kp120_65 kp286
                have kp302 : mI M279 67 = mI M 67 := kp_go kp120_67 kp287
                have kp303 : mI M279 68 = mI M 68 := kp_go kp120_68 kp288
                have kp304 : mI M279 69 = mI M 69 := kp_go kp120_69 kp289
                have kp305 : mI M279 70 = mI M 70 := kp_go kp120_70 kp290
                have kp306 : mI M279 71 = mI M 71 := kp_go kp120_71 kp291
                have kp307 : mI M279 72 = mI M 72 := kp_go kp120_72 kp292
                have kp308 : mI M279 73 = mI M 73 := kp_go kp120_73 kp293
                have kp309 : mI M279 74 = mI M 74 := kp_go kp120_74 kp294
                have kp310 : mI M279 55 = mI M 55 := kp_go kp120_55 kp281
                have kp311 : mI M279 57 = mI M 57 := kp_go kp120_57 kp282
                have kp312 : mI M279 58 = mI M 58 := kp_go kp120_58 kp283
                have kp313 : mI M279 63 = mI M 63 := kp_go kp120_63 kp284
                have kz := b54_27 (M := M279) hB299.1
                refine vc_if_ne dX12_goTurn_129 (fun h314 => ?_) (fun h314 => ?_)
                · refine vc_iload dX12_goTurn_134 rfl ?_
                  refine vc_if_ne dX12_goTurn_136 (fun h315 => by exfalso; omega) (fun h315 => ?_)
                  refine vc_iload_n dX12_goTurn_139 rfl ?_
                  refine vc_iconst dX12_goTurn_140 rfl ?_
                  refine vc_icmp_eq dX12_goTurn_141 (fun h316 => ?_) (fun h316 => by exfalso; omega)
                  refine vc_iinc dX12_goTurn_154 rfl (by decide) rfl (show _ = [some (aR 54), none, some (aI s), some (aI x1), some (aI x2), some (aI 0), none, some (aI x258), some (aI (wI (v8 + 1))), some (aI v9)] from rfl) ?_
                  refine vc_iload dX12_goTurn_157 rfl ?_
                  refine vc_if_eq dX12_goTurn_159 (fun h317 => ?_) (fun h317 => by exfalso; omega)
                  refine vc_iload dX12_goTurn_183 rfl ?_
                  refine vc_iload dX12_goTurn_185 rfl ?_
                  refine vc_icmp_ne dX12_goTurn_187 (fun h318 => ?_) (fun h318 => ?_)
                  · refine vc_iconst dX12_goTurn_194 rfl ?_
                    refine vc_istore dX12_goTurn_195 (by decide) rfl (show _ = [some (aR 54), none, some (aI s), some (aI x1), some (aI x2), some (aI 0), none, some (aI x258), some (aI (wI (v8 + 1))), some (aI 0)] from rfl) ?_
                    refine vc_goto dX12_goTurn_197 ?_
                    exact ih120 M279 (wI (v8 + 1)) 0 hB299 kp300 kp301 kp302 kp303 kp304 kp305 kp306 kp307 kp308 kp309 kp310 kp311 kp312 kp313 (by omega) (by omega) (by omega) (by omega) (by omega) (by omega)
                  · refine vc_iconst dX12_goTurn_190 rfl ?_
                    refine vc_goto dX12_goTurn_191 ?_
                    refine vc_istore dX12_goTurn_195 (by decide) rfl (show _ = [some (aR 54), none, some (aI s), some (aI x1), some (aI x2), some (aI 0), none, some (aI x258), some (aI (wI (v8 + 1))), some (aI 1)] from rfl) ?_
                    refine vc_goto dX12_goTurn_197 ?_
                    exact ih120 M279 (wI (v8 + 1)) 1 hB299 kp300 kp301 kp302 kp303 kp304 kp305 kp306 kp307 kp308 kp309 kp310 kp311 kp312 kp313 (by omega) (by omega) (by omega) (by omega) (by omega) (by omega)
                · refine vc_iconst dX12_goTurn_132 rfl ?_
                  refine vc_zret dX12_goTurn_133 rfl (by first | decide | omega) (Nat.le_of_ble_eq_true rfl) (Nat.le_of_ble_eq_true rfl) ?_
                  exact ⟨_, rfl, hB299, kp310, kp311, kp312, kp313, kp300, kp301, kp302, kp303, kp304, kp305, kp306, kp307, kp308, kp309, by omega, by omega, by omega⟩
          refine vc_less [some (aR 54), none, some (aI s), some (aI x1), some (aI x2), some (aI 0), none, some (aI x258), some (aI 0), some (aI 0)] (lessL_keep (lessL_drop (lessL_keep (lessL_keep (lessL_keep (lessL_keep (lessL_drop (lessL_keep (lessL_keep (lessL_keep (lessL_nil))))))))))) ?_
          exact lp120 _ M 0 0 hB0 rfl rfl rfl rfl rfl rfl rfl rfl rfl rfl rfl rfl rfl rfl (by omega) (by omega) (by omega) (by omega) (by omega) (Nat.lt_succ_self _)
    · refine vc_iconst dX12_goTurn_57 rfl ?_
      refine vc_goto dX12_goTurn_58 ?_
      refine vc_iload_n dX12_goTurn_62 rfl ?_
      refine vc_iconst dX12_goTurn_63 rfl ?_
      refine vc_iandM dX12_goTurn_64 2 1 rfl (by decide) rfl ?_
      refine vc_if_ne dX12_goTurn_65 (fun h319 => ?_) (fun h319 => ?_)
      · refine vc_iconst dX12_goTurn_72 rfl ?_
        refine vc_icmp_ne dX12_goTurn_73 (fun h320 => ?_) (fun h320 => by exfalso; omega)
        refine vc_iconst dX12_goTurn_80 rfl ?_
        refine vc_istore dX12_goTurn_81 (by decide) rfl (show _ = [some (aR 54), some (aI t), some (aI s), some (aI x1), some (aI x2), some (aI 0), some (aI 0), none, none, none] from rfl) ?_
        refine vc_iload_n dX12_goTurn_83 rfl ?_
        refine vc_iconst dX12_goTurn_84 rfl ?_
        refine vc_icmp_ne dX12_goTurn_85 (fun h321 => ?_) (fun h321 => by exfalso; omega)
        refine vc_aload_n dX12_goTurn_95 rfl ?_
        refine vc_getI dX12_goTurn_96 flX12_324 (s_54 hB0.1.1) rfl ?_
        have k322 : 0 ≤ mI M 54 25 ∧ mI M 54 25 ≤ 3 := b54_25 (M := M) hB0.1
        refine vc_iload dX12_goTurn_99 rfl ?_
        refine vc_if_eq dX12_goTurn_101 (fun h323 => ?_) (fun h323 => by exfalso; omega)
        refine vc_iconst dX12_goTurn_108 rfl ?_
        refine vc_iaddE dX12_goTurn_109 (by omega) (by omega) ?_
        refine vc_iconst dX12_goTurn_110 rfl ?_
        refine vc_iremE dX12_goTurn_111 (by omega) (by omega) ?_
        refine vc_nameI (fun x324 ex324 => ?_)
        refine vc_istore dX12_goTurn_112 (by decide) rfl (show _ = [some (aR 54), some (aI t), some (aI s), some (aI x1), some (aI x2), some (aI 0), some (aI 0), some (aI x324), none, none] from rfl) ?_
        refine vc_iconst dX12_goTurn_114 rfl ?_
        refine vc_istore dX12_goTurn_115 (by decide) rfl (show _ = [some (aR 54), some (aI t), some (aI s), some (aI x1), some (aI x2), some (aI 0), some (aI 0), some (aI x324), some (aI 0), none] from rfl) ?_
        refine vc_iconst dX12_goTurn_117 rfl ?_
        refine vc_istore dX12_goTurn_118 (by decide) rfl (show _ = [some (aR 54), some (aI t), some (aI s), some (aI x1), some (aI x2), some (aI 0), some (aI 0), some (aI x324), some (aI 0), some (aI 0)] from rfl) ?_
        have lp120 : ∀ (n120 : Nat) (Mq120 : Mem) (v8 : Int) (v9 : Int), (BD M Mq120) → (mI Mq120 64 = mI M 64) → (mI Mq120 65 = mI M 65) → (mI Mq120 67 = mI M 67) → (mI Mq120 68 = mI M 68) → (mI Mq120 69 = mI M 69) → (mI Mq120 70 = mI M 70) → (mI Mq120 71 = mI M 71) → (mI Mq120 72 = mI M 72) → (mI Mq120 73 = mI M 73) → (mI Mq120 74 = mI M 74) → (mI Mq120 55 = mI M 55) → (mI Mq120 57 = mI M 57) → (mI Mq120 58 = mI M 58) → (mI Mq120 63 = mI M 63) → (0 ≤ v9) → (v9 ≤ 1) → (mI Mq120 54 32 = mI M 54 32) → (0 ≤ mI Mq120 54 27) → (mI Mq120 54 27 ≤ 40) → (40 - mI Mq120 54 27).toNat < n120 → VC l mdX12_goTurn 120 [some (aR 54), none, some (aI s), some (aI x1), some (aI x2), some (aI 0), none, some (aI x324), some (aI v8), some (aI v9)] [] Mq120 0 0 (fun q N => ∃ r : Int, q = some (aI r) ∧ BD M N ∧ mI N 55 = mI M 55 ∧ mI N 57 = mI M 57 ∧ mI N 58 = mI M 58 ∧ mI N 63 = mI M 63 ∧ mI N 64 = mI M 64 ∧ mI N 65 = mI M 65 ∧ mI N 67 = mI M 67 ∧ mI N 68 = mI M 68 ∧ mI N 69 = mI M 69 ∧ mI N 70 = mI M 70 ∧ mI N 71 = mI M 71 ∧ mI N 72 = mI M 72 ∧ mI N 73 = mI M 73 ∧ mI N 74 = mI M 74 ∧ 0 ≤ r ∧ r ≤ 1 ∧ mI N 54 32 = mI M 54 32) := by
          intro n120
          induction n120 with
          | zero => intro Mq120 v8 v9 hQ120 kp120_64 kp120_65 kp120_67 kp120_68 kp120_69 kp120_70 kp120_71 kp120_72 kp120_73 kp120_74 kp120_55 kp120_57 kp120_58 kp120_63 g120_9a g120_9b g120i0 g120i1 g120i2 hm120; exact absurd hm120 (Nat.not_lt_zero _)
          | succ n120 ih120 =>
            intro Mq120 v8 v9 hQ120 kp120_64 kp120_65 kp120_67 kp120_68 kp120_69 kp120_70 kp120_71 kp120_72 kp120_73 kp120_74 kp120_55 kp120_57 kp120_58 kp120_63 g120_9a g120_9b g120i0 g120i1 g120i2 hm120
            refine vc_iload dX12_goTurn_120 rfl ?_
            refine vc_if_ne dX12_goTurn_122 (fun h325 => ?_) (fun h325 => ?_)
            · refine vc_iload_n dX12_goTurn_200 rfl ?_
              refine vc_iconst dX12_goTurn_201 rfl ?_
              refine vc_icmp_eq dX12_goTurn_202 (fun h326 => by exfalso; omega) (fun h326 => ?_)
              refine vc_aload_n dX12_goTurn_205 rfl ?_
              refine vc_iload dX12_goTurn_206 rfl ?_
              refine vc_iload_n dX12_goTurn_208 rfl ?_
              refine vc_cVI dX12_goTurn_209 (sfX12_isCounted (M := Mq120) hQ120.1  x324 s (by omega) (by omega)) rfl okX12_isCounted viX12_isCounted lkX12_352 (s_54 hQ120.1.1) cl_12 rfl (Nat.le_of_ble_eq_true rfl) ⟨rfl, rfl⟩ (Nat.le_of_ble_eq_true rfl) (Nat.le_of_ble_eq_true rfl) (Nat.le_of_ble_eq_true rfl) ?_
              rintro x327 _ ⟨rfl, h328, h329⟩
              refine vc_if_ne dX12_goTurn_212 (fun h330 => ?_) (fun h330 => ?_)
              · refine vc_aload_n dX12_goTurn_217 rfl ?_
                refine vc_iload dX12_goTurn_218 rfl ?_
                refine vc_putI dX12_goTurn_220 (plX12_324 _ rfl) (s_54 hQ120.1.1) rfl ?_
                have kp331 : mI (sI Mq120 54 25 x324) 64 = mI M 64 := (kp_sI kp120_64 rfl)
                have kp332 : mI (sI Mq120 54 25 x324) 65 = mI M 65 := (kp_sI kp120_65 rfl)
                have kp333 : mI (sI Mq120 54 25 x324) 67 = mI M 67 := (kp_sI kp120_67 rfl)
                have kp334 : mI (sI Mq120 54 25 x324) 68 = mI M 68 := (kp_sI kp120_68 rfl)
                have kp335 : mI (sI Mq120 54 25 x324) 69 = mI M 69 := (kp_sI kp120_69 rfl)
                have kp336 : mI (sI Mq120 54 25 x324) 70 = mI M 70 := (kp_sI kp120_70 rfl)
                have kp337 : mI (sI Mq120 54 25 x324) 71 = mI M 71 := (kp_sI kp120_71 rfl)
                have kp338 : mI (sI Mq120 54 25 x324) 72 = mI M 72 := (kp_sI kp120_72 rfl)
                have kp339 : mI (sI Mq120 54 25 x324) 73 = mI M 73 := (kp_sI kp120_73 rfl)
                have kp340 : mI (sI Mq120 54 25 x324) 74 = mI M 74 := (kp_sI kp120_74 rfl)
                have kp341 : mI (sI Mq120 54 25 x324) 55 = mI M 55 := (kp_sI kp120_55 rfl)
                have kp342 : mI (sI Mq120 54 25 x324) 57 = mI M 57 := (kp_sI kp120_57 rfl)
                have kp343 : mI (sI Mq120 54 25 x324) 58 = mI M 58 := (kp_sI kp120_58 rfl)
                have kp344 : mI (sI Mq120 54 25 x324) 63 = mI M 63 := (kp_sI kp120_63 rfl)
                have hB345 : BD M (sI Mq120 54 25 x324) := BD.w54_25 hQ120 (by omega) (by omega)
                refine vc_iconst dX12_goTurn_223 rfl ?_
                refine vc_zret dX12_goTurn_224 rfl (by first | decide | omega) (Nat.le_of_ble_eq_true rfl) (Nat.le_of_ble_eq_true rfl) ?_
                have k346 : mI (sI Mq120 54 25 x324) 54 27 = mI Mq120 54 27 := rfl
                have k347 : mI (sI Mq120 54 25 x324) 54 32 = mI Mq120 54 32 := rfl
                exact ⟨_, rfl, hB345, kp341, kp342, kp343, kp344, kp331, kp332, kp333, kp334, kp335, kp336, kp337, kp338, kp339, kp340, by omega, by omega, by omega⟩
              · refine vc_iconst dX12_goTurn_215 rfl ?_
                refine vc_zret dX12_goTurn_216 rfl (by first | decide | omega) (Nat.le_of_ble_eq_true rfl) (Nat.le_of_ble_eq_true rfl) ?_
                exact ⟨_, rfl, hQ120, kp120_55, kp120_57, kp120_58, kp120_63, kp120_64, kp120_65, kp120_67, kp120_68, kp120_69, kp120_70, kp120_71, kp120_72, kp120_73, kp120_74, by omega, by omega, by omega⟩
            · refine vc_aload_n dX12_goTurn_125 rfl ?_
              refine vc_cVI dX12_goTurn_126 (sfX12_goOn (M := Mq120) hQ120.1   ) rfl okX12_goOn viX12_goOn lkX12_348 (s_54 hQ120.1.1) cl_12 rfl (Nat.le_of_ble_eq_true rfl) ⟨rfl, rfl⟩ (Nat.le_of_ble_eq_true rfl) (Nat.le_of_ble_eq_true rfl) (Nat.le_of_ble_eq_true rfl) ?_
              rintro x348 M349 ⟨hB350, kp351, kp352, kp353, kp354, kp355, kp356, kp357, kp358, kp359, kp360, kp361, kp362, kp363, kp364, h365, h366, h367, h368⟩
              have hB369 : BD M M349 := BD.go hQ120 hB350
              have kp370 : mI M349 64 = mI M 64 := kp_go kp120_64 kp355
              have kp371 : mI M349 65 = mI M 65 := kp_go kp120_65 kp356
              have kp372 : mI M349 67 = mI M 67 := kp_go kp120_67 kp357
              have kp373 : mI M349 68 = mI M 68 := kp_go kp120_68 kp358
              have kp374 : mI M349 69 = mI M 69 := kp_go kp120_69 kp359
              have kp375 : mI M349 70 = mI M 70 := kp_go kp120_70 kp360
              have kp376 : mI M349 71 = mI M 71 := kp_go kp120_71 kp361
              have kp377 : mI M349 72 = mI M 72 := kp_go kp120_72 kp362
              have kp378 : mI M349 73 = mI M 73 := kp_go kp120_73 kp363
              have kp379 : mI M349 74 = mI M 74 := kp_go kp120_74 kp364
              have kp380 : mI M349 55 = mI M 55 := kp_go kp120_55 kp351
              have kp381 : mI M349 57 = mI M 57 := kp_go kp120_57 kp352
              have kp382 : mI M349 58 = mI M 58 := kp_go kp120_58 kp353
              have kp383 : mI M349 63 = mI M 63 := kp_go kp120_63 kp354
              have kz := b54_27 (M := M349) hB369.1
              refine vc_if_ne dX12_goTurn_129 (fun h384 => ?_) (fun h384 => ?_)
              · refine vc_iload dX12_goTurn_134 rfl ?_
                refine vc_if_ne dX12_goTurn_136 (fun h385 => by exfalso; omega) (fun h385 => ?_)
                refine vc_iload_n dX12_goTurn_139 rfl ?_
                refine vc_iconst dX12_goTurn_140 rfl ?_
                refine vc_icmp_eq dX12_goTurn_141 (fun h386 => by exfalso; omega) (fun h386 => ?_)
                refine vc_aload_n dX12_goTurn_144 rfl ?_
                refine vc_iload dX12_goTurn_145 rfl ?_
                refine vc_iload_n dX12_goTurn_147 rfl ?_
                refine vc_cVI dX12_goTurn_148 (sfX12_isCounted (M := M349) hB369.1  x324 s (by omega) (by omega)) rfl okX12_isCounted viX12_isCounted lkX12_352 (s_54 hB369.1.1) cl_12 rfl (Nat.le_of_ble_eq_true rfl) ⟨rfl, rfl⟩ (Nat.le_of_ble_eq_true rfl) (Nat.le_of_ble_eq_true rfl) (Nat.le_of_ble_eq_true rfl) ?_
                rintro x387 _ ⟨rfl, h388, h389⟩
                refine vc_if_eq dX12_goTurn_151 (fun h390 => ?_) (fun h390 => ?_)
                · refine vc_iload dX12_goTurn_157 rfl ?_
                  refine vc_if_eq dX12_goTurn_159 (fun h391 => ?_) (fun h391 => by exfalso; omega)
                  refine vc_iload dX12_goTurn_183 rfl ?_
                  refine vc_iload dX12_goTurn_185 rfl ?_
                  refine vc_icmp_ne dX12_goTurn_187 (fun h392 => ?_) (fun h392 => ?_)
                  · refine vc_iconst dX12_goTurn_194 rfl ?_
                    refine vc_istore dX12_goTurn_195 (by decide) rfl (show _ = [some (aR 54), none, some (aI s), some (aI x1), some (aI x2), some (aI 0), none, some (aI x324), some (aI v8), some (aI 0)] from rfl) ?_
                    refine vc_goto dX12_goTurn_197 ?_
                    exact ih120 M349 v8 0 hB369 kp370 kp371 kp372 kp373 kp374 kp375 kp376 kp377 kp378 kp379 kp380 kp381 kp382 kp383 (by omega) (by omega) (by omega) (by omega) (by omega) (by omega)
                  · refine vc_iconst dX12_goTurn_190 rfl ?_
                    refine vc_goto dX12_goTurn_191 ?_
                    refine vc_istore dX12_goTurn_195 (by decide) rfl (show _ = [some (aR 54), none, some (aI s), some (aI x1), some (aI x2), some (aI 0), none, some (aI x324), some (aI v8), some (aI 1)] from rfl) ?_
                    refine vc_goto dX12_goTurn_197 ?_
                    exact ih120 M349 v8 1 hB369 kp370 kp371 kp372 kp373 kp374 kp375 kp376 kp377 kp378 kp379 kp380 kp381 kp382 kp383 (by omega) (by omega) (by omega) (by omega) (by omega) (by omega)
                · refine vc_iinc dX12_goTurn_154 rfl (by decide) rfl (show _ = [some (aR 54), none, some (aI s), some (aI x1), some (aI x2), some (aI 0), none, some (aI x324), some (aI (wI (v8 + 1))), some (aI v9)] from rfl) ?_
                  refine vc_iload dX12_goTurn_157 rfl ?_
                  refine vc_if_eq dX12_goTurn_159 (fun h393 => ?_) (fun h393 => by exfalso; omega)
                  refine vc_iload dX12_goTurn_183 rfl ?_
                  refine vc_iload dX12_goTurn_185 rfl ?_
                  refine vc_icmp_ne dX12_goTurn_187 (fun h394 => ?_) (fun h394 => ?_)
                  · refine vc_iconst dX12_goTurn_194 rfl ?_
                    refine vc_istore dX12_goTurn_195 (by decide) rfl (show _ = [some (aR 54), none, some (aI s), some (aI x1), some (aI x2), some (aI 0), none, some (aI x324), some (aI (wI (v8 + 1))), some (aI 0)] from rfl) ?_
                    refine vc_goto dX12_goTurn_197 ?_
                    exact ih120 M349 (wI (v8 + 1)) 0 hB369 kp370 kp371 kp372 kp373 kp374 kp375 kp376 kp377 kp378 kp379 kp380 kp381 kp382 kp383 (by omega) (by omega) (by omega) (by omega) (by omega) (by omega)
                  · refine vc_iconst dX12_goTurn_190 rfl ?_
                    refine vc_goto dX12_goTurn_191 ?_
                    refine vc_istore dX12_goTurn_195 (by decide) rfl (show _ = [some (aR 54), none, some (aI s), some (aI x1), some (aI x2), some (aI 0), none, some (aI x324), some (aI (wI (v8 + 1))), some (aI 1)] from rfl) ?_
                    refine vc_goto dX12_goTurn_197 ?_
                    exact ih120 M349 (wI (v8 + 1)) 1 hB369 kp370 kp371 kp372 kp373 kp374 kp375 kp376 kp377 kp378 kp379 kp380 kp381 kp382 kp383 (by omega) (by omega) (by omega) (by omega) (by omega) (by omega)
              · refine vc_iconst dX12_goTurn_132 rfl ?_
                refine vc_zret dX12_goTurn_133 rfl (by first | decide | omega) (Nat.le_of_ble_eq_true rfl) (Nat.le_of_ble_eq_true rfl) ?_
                exact ⟨_, rfl, hB369, kp380, kp381, kp382, kp383, kp370, kp371, kp372, kp373, kp374, kp375, kp376, kp377, kp378, kp379, by omega, by omega, by omega⟩
        refine vc_less [some (aR 54), none, some (aI s), some (aI x1), some (aI x2), some (aI 0), none, some (aI x324), some (aI 0), some (aI 0)] (lessL_keep (lessL_drop (lessL_keep (lessL_keep (lessL_keep (lessL_keep (lessL_drop (lessL_keep (lessL_keep (lessL_keep (lessL_nil))))))))))) ?_
        exact lp120 _ M 0 0 hB0 rfl rfl rfl rfl rfl rfl rfl rfl rfl rfl rfl rfl rfl rfl (by omega) (by omega) (by omega) (by omega) (by omega) (Nat.lt_succ_self _)
      · refine vc_iconst dX12_goTurn_68 rfl ?_
        refine vc_goto dX12_goTurn_69 ?_
        refine vc_icmp_ne dX12_goTurn_73 (fun h395 => by exfalso; omega) (fun h395 => ?_)
        refine vc_iconst dX12_goTurn_76 rfl ?_
        refine vc_goto dX12_goTurn_77 ?_
        refine vc_istore dX12_goTurn_81 (by decide) rfl (show _ = [some (aR 54), some (aI t), some (aI s), some (aI x1), some (aI x2), some (aI 0), some (aI 1), none, none, none] from rfl) ?_
        refine vc_iload_n dX12_goTurn_83 rfl ?_
        refine vc_iconst dX12_goTurn_84 rfl ?_
        refine vc_icmp_ne dX12_goTurn_85 (fun h396 => ?_) (fun h396 => by exfalso; omega)
        refine vc_aload_n dX12_goTurn_95 rfl ?_
        refine vc_getI dX12_goTurn_96 flX12_324 (s_54 hB0.1.1) rfl ?_
        have k397 : 0 ≤ mI M 54 25 ∧ mI M 54 25 ≤ 3 := b54_25 (M := M) hB0.1
        refine vc_iload dX12_goTurn_99 rfl ?_
        refine vc_if_eq dX12_goTurn_101 (fun h398 => by exfalso; omega) (fun h398 => ?_)
        refine vc_iconst dX12_goTurn_104 rfl ?_
        refine vc_goto dX12_goTurn_105 ?_
        refine vc_iaddE dX12_goTurn_109 (by omega) (by omega) ?_
        refine vc_iconst dX12_goTurn_110 rfl ?_
        refine vc_iremE dX12_goTurn_111 (by omega) (by omega) ?_
        refine vc_nameI (fun x399 ex399 => ?_)
        refine vc_istore dX12_goTurn_112 (by decide) rfl (show _ = [some (aR 54), some (aI t), some (aI s), some (aI x1), some (aI x2), some (aI 0), some (aI 1), some (aI x399), none, none] from rfl) ?_
        refine vc_iconst dX12_goTurn_114 rfl ?_
        refine vc_istore dX12_goTurn_115 (by decide) rfl (show _ = [some (aR 54), some (aI t), some (aI s), some (aI x1), some (aI x2), some (aI 0), some (aI 1), some (aI x399), some (aI 0), none] from rfl) ?_
        refine vc_iconst dX12_goTurn_117 rfl ?_
        refine vc_istore dX12_goTurn_118 (by decide) rfl (show _ = [some (aR 54), some (aI t), some (aI s), some (aI x1), some (aI x2), some (aI 0), some (aI 1), some (aI x399), some (aI 0), some (aI 0)] from rfl) ?_
        have lp120 : ∀ (n120 : Nat) (Mq120 : Mem) (v8 : Int) (v9 : Int), (BD M Mq120) → (mI Mq120 64 = mI M 64) → (mI Mq120 65 = mI M 65) → (mI Mq120 67 = mI M 67) → (mI Mq120 68 = mI M 68) → (mI Mq120 69 = mI M 69) → (mI Mq120 70 = mI M 70) → (mI Mq120 71 = mI M 71) → (mI Mq120 72 = mI M 72) → (mI Mq120 73 = mI M 73) → (mI Mq120 74 = mI M 74) → (mI Mq120 55 = mI M 55) → (mI Mq120 57 = mI M 57) → (mI Mq120 58 = mI M 58) → (mI Mq120 63 = mI M 63) → (0 ≤ v9) → (v9 ≤ 1) → (mI Mq120 54 32 = mI M 54 32) → (0 ≤ mI Mq120 54 27) → (mI Mq120 54 27 ≤ 40) → (40 - mI Mq120 54 27).toNat < n120 → VC l mdX12_goTurn 120 [some (aR 54), none, some (aI s), some (aI x1), some (aI x2), some (aI 0), none, some (aI x399), some (aI v8), some (aI v9)] [] Mq120 0 0 (fun q N => ∃ r : Int, q = some (aI r) ∧ BD M N ∧ mI N 55 = mI M 55 ∧ mI N 57 = mI M 57 ∧ mI N 58 = mI M 58 ∧ mI N 63 = mI M 63 ∧ mI N 64 = mI M 64 ∧ mI N 65 = mI M 65 ∧ mI N 67 = mI M 67 ∧ mI N 68 = mI M 68 ∧ mI N 69 = mI M 69 ∧ mI N 70 = mI M 70 ∧ mI N 71 = mI M 71 ∧ mI N 72 = mI M 72 ∧ mI N 73 = mI M 73 ∧ mI N 74 = mI M 74 ∧ 0 ≤ r ∧ r ≤ 1 ∧ mI N 54 32 = mI M 54 32) := by
          intro n120
          induction n120 with
          | zero => intro Mq120 v8 v9 hQ120 kp120_64 kp120_65 kp120_67 kp120_68 kp120_69 kp120_70 kp120_71 kp120_72 kp120_73 kp120_74 kp120_55 kp120_57 kp120_58 kp120_63 g120_9a g120_9b g120i0 g120i1 g120i2 hm120; exact absurd hm120 (Nat.not_lt_zero _)
          | succ n120 ih120 =>
            intro Mq120 v8 v9 hQ120 kp120_64 kp120_65 kp120_67 kp120_68 kp120_69 kp120_70 kp120_71 kp120_72 kp120_73 kp120_74 kp120_55 kp120_57 kp120_58 kp120_63 g120_9a g120_9b g120i0 g120i1 g120i2 hm120
            refine vc_iload dX12_goTurn_120 rfl ?_
            refine vc_if_ne dX12_goTurn_122 (fun h400 => ?_) (fun h400 => ?_)
            · refine vc_iload_n dX12_goTurn_200 rfl ?_
              refine vc_iconst dX12_goTurn_201 rfl ?_
              refine vc_icmp_eq dX12_goTurn_202 (fun h401 => by exfalso; omega) (fun h401 => ?_)
              refine vc_aload_n dX12_goTurn_205 rfl ?_
              refine vc_iload dX12_goTurn_206 rfl ?_
              refine vc_iload_n dX12_goTurn_208 rfl ?_
              refine vc_cVI dX12_goTurn_209 (sfX12_isCounted (M := Mq120) hQ120.1  x399 s (by omega) (by omega)) rfl okX12_isCounted viX12_isCounted lkX12_352 (s_54 hQ120.1.1) cl_12 rfl (Nat.le_of_ble_eq_true rfl) ⟨rfl, rfl⟩ (Nat.le_of_ble_eq_true rfl) (Nat.le_of_ble_eq_true rfl) (Nat.le_of_ble_eq_true rfl) ?_
              rintro x402 _ ⟨rfl, h403, h404⟩
              refine vc_if_ne dX12_goTurn_212 (fun h405 => ?_) (fun h405 => ?_)
              · refine vc_aload_n dX12_goTurn_217 rfl ?_
                refine vc_iload dX12_goTurn_218 rfl ?_
                refine vc_putI dX12_goTurn_220 (plX12_324 _ rfl) (s_54 hQ120.1.1) rfl ?_
                have kp406 : mI (sI Mq120 54 25 x399) 64 = mI M 64 := (kp_sI kp120_64 rfl)
                have kp407 : mI (sI Mq120 54 25 x399) 65 = mI M 65 := (kp_sI kp120_65 rfl)
                have kp408 : mI (sI Mq120 54 25 x399) 67 = mI M 67 := (kp_sI kp120_67 rfl)
                have kp409 : mI (sI Mq120 54 25 x399) 68 = mI M 68 := (kp_sI kp120_68 rfl)
                have kp410 : mI (sI Mq120 54 25 x399) 69 = mI M 69 := (kp_sI kp120_69 rfl)
                have kp411 : mI (sI Mq120 54 25 x399) 70 = mI M 70 := (kp_sI kp120_70 rfl)
                have kp412 : mI (sI Mq120 54 25 x399) 71 = mI M 71 := (kp_sI kp120_71 rfl)
                have kp413 : mI (sI Mq120 54 25 x399) 72 = mI M 72 := (kp_sI kp120_72 rfl)
                have kp414 : mI (sI Mq120 54 25 x399) 73 = mI M 73 := (kp_sI kp120_73 rfl)
                have kp415 : mI (sI Mq120 54 25 x399) 74 = mI M 74 := (kp_sI kp120_74 rfl)
                have kp416 : mI (sI Mq120 54 25 x399) 55 = mI M 55 := (kp_sI kp120_55 rfl)
                have kp417 : mI (sI Mq120 54 25 x399) 57 = mI M 57 := (kp_sI kp120_57 rfl)
                have kp418 : mI (sI Mq120 54 25 x399) 58 = mI M 58 := (kp_sI kp120_58 rfl)
                have kp419 : mI (sI Mq120 54 25 x399) 63 = mI M 63 := (kp_sI kp120_63 rfl)
                have hB420 : BD M (sI Mq120 54 25 x399) := BD.w54_25 hQ120 (by omega) (by omega)
                refine vc_iconst dX12_goTurn_223 rfl ?_
                refine vc_zret dX12_goTurn_224 rfl (by first | decide | omega) (Nat.le_of_ble_eq_true rfl) (Nat.le_of_ble_eq_true rfl) ?_
                have k421 : mI (sI Mq120 54 25 x399) 54 27 = mI Mq120 54 27 := rfl
                have k422 : mI (sI Mq120 54 25 x399) 54 32 = mI Mq120 54 32 := rfl
                exact ⟨_, rfl, hB420, kp416, kp417, kp418, kp419, kp406, kp407, kp408, kp409, kp410, kp411, kp412, kp413, kp414, kp415, by omega, by omega, by omega⟩
              · refine vc_iconst dX12_goTurn_215 rfl ?_
                refine vc_zret dX12_goTurn_216 rfl (by first | decide | omega) (Nat.le_of_ble_eq_true rfl) (Nat.le_of_ble_eq_true rfl) ?_
                exact ⟨_, rfl, hQ120, kp120_55, kp120_57, kp120_58, kp120_63, kp120_64, kp120_65, kp120_67, kp120_68, kp120_69, kp120_70, kp120_71, kp120_72, kp120_73, kp120_74, by omega, by omega, by omega⟩
            · refine vc_aload_n dX12_goTurn_125 rfl ?_
              refine vc_cVI dX12_goTurn_126 (sfX12_goOn (M := Mq120) hQ120.1   ) rfl okX12_goOn viX12_goOn lkX12_348 (s_54 hQ120.1.1) cl_12 rfl (Nat.le_of_ble_eq_true rfl) ⟨rfl, rfl⟩ (Nat.le_of_ble_eq_true rfl) (Nat.le_of_ble_eq_true rfl) (Nat.le_of_ble_eq_true rfl) ?_
              rintro x423 M424 ⟨hB425, kp426, kp427, kp428, kp429, kp430, kp431, kp432, kp433, kp434, kp435, kp436, kp437, kp438, kp439, h440, h441, h442, h443⟩
              have hB444 : BD M M424 := BD.go hQ120 hB425
              have kp445 : mI M424 64 = mI M 64 := kp_go kp120_64 kp430
              have kp446 : mI M424 65 = mI M 65 := kp_go kp120_65 kp431
              have kp447 : mI M424 67 = mI M 67 := kp_go kp120_67 kp432
              have kp448 : mI M424 68 = mI M 68 := kp_go kp120_68 kp433
              have kp449 : mI M424 69 = mI M 69 := kp_go kp120_69 kp434
              have kp450 : mI M424 70 = mI M 70 := kp_go kp120_70 kp435
              have kp451 : mI M424 71 = mI M 71 := kp_go kp120_71 kp436
              have kp452 : mI M424 72 = mI M 72 := kp_go kp120_72 kp437
              have kp453 : mI M424 73 = mI M 73 := kp_go kp120_73 kp438
              have kp454 : mI M424 74 = mI M 74 := kp_go kp120_74 kp439
              have kp455 : mI M424 55 = mI M 55 := kp_go kp120_55 kp426
              have kp456 : mI M424 57 = mI M 57 := kp_go kp120_57 kp427
              have kp457 : mI M424 58 = mI M 58 := kp_go kp120_58 kp428
              have kp458 : mI M424 63 = mI M 63 := kp_go kp120_63 kp429
              have kz := b54_27 (M := M424) hB444.1
              refine vc_if_ne dX12_goTurn_129 (fun h459 => ?_) (fun h459 => ?_)
              · refine vc_iload dX12_goTurn_134 rfl ?_
                refine vc_if_ne dX12_goTurn_136 (fun h460 => by exfalso; omega) (fun h460 => ?_)
                refine vc_iload_n dX12_goTurn_139 rfl ?_
                refine vc_iconst dX12_goTurn_140 rfl ?_
                refine vc_icmp_eq dX12_goTurn_141 (fun h461 => by exfalso; omega) (fun h461 => ?_)
                refine vc_aload_n dX12_goTurn_144 rfl ?_
                refine vc_iload dX12_goTurn_145 rfl ?_
                refine vc_iload_n dX12_goTurn_147 rfl ?_
                refine vc_cVI dX12_goTurn_148 (sfX12_isCounted (M := M424) hB444.1  x399 s (by omega) (by omega)) rfl okX12_isCounted viX12_isCounted lkX12_352 (s_54 hB444.1.1) cl_12 rfl (Nat.le_of_ble_eq_true rfl) ⟨rfl, rfl⟩ (Nat.le_of_ble_eq_true rfl) (Nat.le_of_ble_eq_true rfl) (Nat.le_of_ble_eq_true rfl) ?_
                rintro x462 _ ⟨rfl, h463, h464⟩
                refine vc_if_eq dX12_goTurn_151 (fun h465 => ?_) (fun h465 => ?_)
                · refine vc_iload dX12_goTurn_157 rfl ?_
                  refine vc_if_eq dX12_goTurn_159 (fun h466 => ?_) (fun h466 => by exfalso; omega)
                  refine vc_iload dX12_goTurn_183 rfl ?_
                  refine vc_iload dX12_goTurn_185 rfl ?_
                  refine vc_icmp_ne dX12_goTurn_187 (fun h467 => ?_) (fun h467 => ?_)
                  · refine vc_iconst dX12_goTurn_194 rfl ?_
                    refine vc_istore dX12_goTurn_195 (by decide) rfl (show _ = [some (aR 54), none, some (aI s), some (aI x1), some (aI x2), some (aI 0), none, some (aI x399), some (aI v8), some (aI 0)] from rfl) ?_
                    refine vc_goto dX12_goTurn_197 ?_
                    exact ih120 M424 v8 0 hB444 kp445 kp446 kp447 kp448 kp449 kp450 kp451 kp452 kp453 kp454 kp455 kp456 kp457 kp458 (by omega) (by omega) (by omega) (by omega) (by omega) (by omega)
                  · refine vc_iconst dX12_goTurn_190 rfl ?_
                    refine vc_goto dX12_goTurn_191 ?_
                    refine vc_istore dX12_goTurn_195 (by decide) rfl (show _ = [some (aR 54), none, some (aI s), some (aI x1), some (aI x2), some (aI 0), none, some (aI x399), some (aI v8), some (aI 1)] from rfl) ?_
                    refine vc_goto dX12_goTurn_197 ?_
                    exact ih120 M424 v8 1 hB444 kp445 kp446 kp447 kp448 kp449 kp450 kp451 kp452 kp453 kp454 kp455 kp456 kp457 kp458 (by omega) (by omega) (by omega) (by omega) (by omega) (by omega)
                · refine vc_iinc dX12_goTurn_154 rfl (by decide) rfl (show _ = [some (aR 54), none, some (aI s), some (aI x1), some (aI x2), some (aI 0), none, some (aI x399), some (aI (wI (v8 + 1))), some (aI v9)] from rfl) ?_
                  refine vc_iload dX12_goTurn_157 rfl ?_
                  refine vc_if_eq dX12_goTurn_159 (fun h468 => ?_) (fun h468 => by exfalso; omega)
                  refine vc_iload dX12_goTurn_183 rfl ?_
                  refine vc_iload dX12_goTurn_185 rfl ?_
                  refine vc_icmp_ne dX12_goTurn_187 (fun h469 => ?_) (fun h469 => ?_)
                  · refine vc_iconst dX12_goTurn_194 rfl ?_
                    refine vc_istore dX12_goTurn_195 (by decide) rfl (show _ = [some (aR 54), none, some (aI s), some (aI x1), some (aI x2), some (aI 0), none, some (aI x399), some (aI (wI (v8 + 1))), some (aI 0)] from rfl) ?_
                    refine vc_goto dX12_goTurn_197 ?_
                    exact ih120 M424 (wI (v8 + 1)) 0 hB444 kp445 kp446 kp447 kp448 kp449 kp450 kp451 kp452 kp453 kp454 kp455 kp456 kp457 kp458 (by omega) (by omega) (by omega) (by omega) (by omega) (by omega)
                  · refine vc_iconst dX12_goTurn_190 rfl ?_
                    refine vc_goto dX12_goTurn_191 ?_
                    refine vc_istore dX12_goTurn_195 (by decide) rfl (show _ = [some (aR 54), none, some (aI s), some (aI x1), some (aI x2), some (aI 0), none, some (aI x399), some (aI (wI (v8 + 1))), some (aI 1)] from rfl) ?_
                    refine vc_goto dX12_goTurn_197 ?_
                    exact ih120 M424 (wI (v8 + 1)) 1 hB444 kp445 kp446 kp447 kp448 kp449 kp450 kp451 kp452 kp453 kp454 kp455 kp456 kp457 kp458 (by omega) (by omega) (by omega) (by omega) (by omega) (by omega)
              · refine vc_iconst dX12_goTurn_132 rfl ?_
                refine vc_zret dX12_goTurn_133 rfl (by first | decide | omega) (Nat.le_of_ble_eq_true rfl) (Nat.le_of_ble_eq_true rfl) ?_
                exact ⟨_, rfl, hB444, kp455, kp456, kp457, kp458, kp445, kp446, kp447, kp448, kp449, kp450, kp451, kp452, kp453, kp454, by omega, by omega, by omega⟩
        refine vc_less [some (aR 54), none, some (aI s), some (aI x1), some (aI x2), some (aI 0), none, some (aI x399), some (aI 0), some (aI 0)] (lessL_keep (lessL_drop (lessL_keep (lessL_keep (lessL_keep (lessL_keep (lessL_drop (lessL_keep (lessL_keep (lessL_keep (lessL_nil))))))))))) ?_
        exact lp120 _ M 0 0 hB0 rfl rfl rfl rfl rfl rfl rfl rfl rfl rfl rfl rfl rfl rfl (by omega) (by omega) (by omega) (by omega) (by omega) (Nat.lt_succ_self _)
  · refine vc_iconst dX12_goTurn_22 rfl ?_
    refine vc_goto dX12_goTurn_23 ?_
    refine vc_istore dX12_goTurn_27 (by decide) rfl (show _ = [some (aR 54), some (aI t), some (aI s), some (aI x1), some (aI x2), some (aI 1), none, none, none, none] from rfl) ?_
    refine vc_iload dX12_goTurn_29 rfl ?_
    refine vc_if_eq dX12_goTurn_31 (fun h470 => by exfalso; omega) (fun h470 => ?_)
    refine vc_iload_n dX12_goTurn_34 rfl ?_
    refine vc_iconst dX12_goTurn_35 rfl ?_
    refine vc_iand dX12_goTurn_36 ?_
    refine vc_if_eq dX12_goTurn_37 (fun h471 => ?_) (fun h471 => ?_)
    · refine vc_iload_n dX12_goTurn_52 rfl ?_
      refine vc_iconst dX12_goTurn_53 rfl ?_
      refine vc_icmp_ne dX12_goTurn_54 (fun h472 => ?_) (fun h472 => ?_)
      · refine vc_iconst dX12_goTurn_61 rfl ?_
        refine vc_iload_n dX12_goTurn_62 rfl ?_
        refine vc_iconst dX12_goTurn_63 rfl ?_
        refine vc_iandM dX12_goTurn_64 2 1 rfl (by decide) rfl ?_
        refine vc_if_ne dX12_goTurn_65 (fun h473 => ?_) (fun h473 => ?_)
        · refine vc_iconst dX12_goTurn_72 rfl ?_
          refine vc_icmp_ne dX12_goTurn_73 (fun h474 => by exfalso; omega) (fun h474 => ?_)
          refine vc_iconst dX12_goTurn_76 rfl ?_
          refine vc_goto dX12_goTurn_77 ?_
          refine vc_istore dX12_goTurn_81 (by decide) rfl (show _ = [some (aR 54), some (aI t), some (aI s), some (aI x1), some (aI x2), some (aI 1), some (aI 1), none, none, none] from rfl) ?_
          refine vc_iload_n dX12_goTurn_83 rfl ?_
          refine vc_iconst dX12_goTurn_84 rfl ?_
          refine vc_icmp_ne dX12_goTurn_85 (fun h475 => ?_) (fun h475 => ?_)
          · refine vc_aload_n dX12_goTurn_95 rfl ?_
            refine vc_getI dX12_goTurn_96 flX12_324 (s_54 hB0.1.1) rfl ?_
            have k476 : 0 ≤ mI M 54 25 ∧ mI M 54 25 ≤ 3 := b54_25 (M := M) hB0.1
            refine vc_iload dX12_goTurn_99 rfl ?_
            refine vc_if_eq dX12_goTurn_101 (fun h477 => by exfalso; omega) (fun h477 => ?_)
            refine vc_iconst dX12_goTurn_104 rfl ?_
            refine vc_goto dX12_goTurn_105 ?_
            refine vc_iaddE dX12_goTurn_109 (by omega) (by omega) ?_
            refine vc_iconst dX12_goTurn_110 rfl ?_
            refine vc_iremE dX12_goTurn_111 (by omega) (by omega) ?_
            refine vc_nameI (fun x478 ex478 => ?_)
            refine vc_istore dX12_goTurn_112 (by decide) rfl (show _ = [some (aR 54), some (aI t), some (aI s), some (aI x1), some (aI x2), some (aI 1), some (aI 1), some (aI x478), none, none] from rfl) ?_
            refine vc_iconst dX12_goTurn_114 rfl ?_
            refine vc_istore dX12_goTurn_115 (by decide) rfl (show _ = [some (aR 54), some (aI t), some (aI s), some (aI x1), some (aI x2), some (aI 1), some (aI 1), some (aI x478), some (aI 0), none] from rfl) ?_
            refine vc_iconst dX12_goTurn_117 rfl ?_
            refine vc_istore dX12_goTurn_118 (by decide) rfl (show _ = [some (aR 54), some (aI t), some (aI s), some (aI x1), some (aI x2), some (aI 1), some (aI 1), some (aI x478), some (aI 0), some (aI 0)] from rfl) ?_
            have lp120 : ∀ (n120 : Nat) (Mq120 : Mem) (v8 : Int) (v9 : Int), (BD M Mq120) → (mI Mq120 64 = mI M 64) → (mI Mq120 65 = mI M 65) → (mI Mq120 67 = mI M 67) → (mI Mq120 68 = mI M 68) → (mI Mq120 69 = mI M 69) → (mI Mq120 70 = mI M 70) → (mI Mq120 71 = mI M 71) → (mI Mq120 72 = mI M 72) → (mI Mq120 73 = mI M 73) → (mI Mq120 74 = mI M 74) → (mI Mq120 55 = mI M 55) → (mI Mq120 57 = mI M 57) → (mI Mq120 58 = mI M 58) → (mI Mq120 63 = mI M 63) → (0 ≤ v9) → (v9 ≤ 1) → (mI Mq120 54 32 = mI M 54 32) → (0 ≤ mI Mq120 54 27) → (mI Mq120 54 27 ≤ 40) → (40 - mI Mq120 54 27).toNat < n120 → VC l mdX12_goTurn 120 [some (aR 54), none, some (aI s), some (aI x1), some (aI x2), some (aI 1), none, some (aI x478), some (aI v8), some (aI v9)] [] Mq120 0 0 (fun q N => ∃ r : Int, q = some (aI r) ∧ BD M N ∧ mI N 55 = mI M 55 ∧ mI N 57 = mI M 57 ∧ mI N 58 = mI M 58 ∧ mI N 63 = mI M 63 ∧ mI N 64 = mI M 64 ∧ mI N 65 = mI M 65 ∧ mI N 67 = mI M 67 ∧ mI N 68 = mI M 68 ∧ mI N 69 = mI M 69 ∧ mI N 70 = mI M 70 ∧ mI N 71 = mI M 71 ∧ mI N 72 = mI M 72 ∧ mI N 73 = mI M 73 ∧ mI N 74 = mI M 74 ∧ 0 ≤ r ∧ r ≤ 1 ∧ mI N 54 32 = mI M 54 32) := by
              intro n120
              induction n120 with
              | zero => intro Mq120 v8 v9 hQ120 kp120_64 kp120_65 kp120_67 kp120_68 kp120_69 kp120_70 kp120_71 kp120_72 kp120_73 kp120_74 kp120_55 kp120_57 kp120_58 kp120_63 g120_9a g120_9b g120i0 g120i1 g120i2 hm120; exact absurd hm120 (Nat.not_lt_zero _)
              | succ n120 ih120 =>
                intro Mq120 v8 v9 hQ120 kp120_64 kp120_65 kp120_67 kp120_68 kp120_69 kp120_70 kp120_71 kp120_72 kp120_73 kp120_74 kp120_55 kp120_57 kp120_58 kp120_63 g120_9a g120_9b g120i0 g120i1 g120i2 hm120
                refine vc_iload dX12_goTurn_120 rfl ?_
                refine vc_if_ne dX12_goTurn_122 (fun h479 => ?_) (fun h479 => ?_)
                · refine vc_iload_n dX12_goTurn_200 rfl ?_
                  refine vc_iconst dX12_goTurn_201 rfl ?_
                  refine vc_icmp_eq dX12_goTurn_202 (fun h480 => ?_) (fun h480 => ?_)
                  · refine vc_aload_n dX12_goTurn_217 rfl ?_
                    refine vc_iload dX12_goTurn_218 rfl ?_
                    refine vc_putI dX12_goTurn_220 (plX12_324 _ rfl) (s_54 hQ120.1.1) rfl ?_
                    have kp481 : mI (sI Mq120 54 25 x478) 64 = mI M 64 := (kp_sI kp120_64 rfl)
                    have kp482 : mI (sI Mq120 54 25 x478) 65 = mI M 65 := (kp_sI kp120_65 rfl)
                    have kp483 : mI (sI Mq120 54 25 x478) 67 = mI M 67 := (kp_sI kp120_67 rfl)
                    have kp484 : mI (sI Mq120 54 25 x478) 68 = mI M 68 := (kp_sI kp120_68 rfl)
                    have kp485 : mI (sI Mq120 54 25 x478) 69 = mI M 69 := (kp_sI kp120_69 rfl)
                    have kp486 : mI (sI Mq120 54 25 x478) 70 = mI M 70 := (kp_sI kp120_70 rfl)
                    have kp487 : mI (sI Mq120 54 25 x478) 71 = mI M 71 := (kp_sI kp120_71 rfl)
                    have kp488 : mI (sI Mq120 54 25 x478) 72 = mI M 72 := (kp_sI kp120_72 rfl)
                    have kp489 : mI (sI Mq120 54 25 x478) 73 = mI M 73 := (kp_sI kp120_73 rfl)
                    have kp490 : mI (sI Mq120 54 25 x478) 74 = mI M 74 := (kp_sI kp120_74 rfl)
                    have kp491 : mI (sI Mq120 54 25 x478) 55 = mI M 55 := (kp_sI kp120_55 rfl)
                    have kp492 : mI (sI Mq120 54 25 x478) 57 = mI M 57 := (kp_sI kp120_57 rfl)
                    have kp493 : mI (sI Mq120 54 25 x478) 58 = mI M 58 := (kp_sI kp120_58 rfl)
                    have kp494 : mI (sI Mq120 54 25 x478) 63 = mI M 63 := (kp_sI kp120_63 rfl)
                    have hB495 : BD M (sI Mq120 54 25 x478) := BD.w54_25 hQ120 (by omega) (by omega)
                    refine vc_iconst dX12_goTurn_223 rfl ?_
                    refine vc_zret dX12_goTurn_224 rfl (by first | decide | omega) (Nat.le_of_ble_eq_true rfl) (Nat.le_of_ble_eq_true rfl) ?_
                    have k496 : mI (sI Mq120 54 25 x478) 54 27 = mI Mq120 54 27 := rfl
                    have k497 : mI (sI Mq120 54 25 x478) 54 32 = mI Mq120 54 32 := rfl
                    exact ⟨_, rfl, hB495, kp491, kp492, kp493, kp494, kp481, kp482, kp483, kp484, kp485, kp486, kp487, kp488, kp489, kp490, by omega, by omega, by omega⟩
                  · refine vc_aload_n dX12_goTurn_205 rfl ?_
                    refine vc_iload dX12_goTurn_206 rfl ?_
                    refine vc_iload_n dX12_goTurn_208 rfl ?_
                    refine vc_cVI dX12_goTurn_209 (sfX12_isCounted (M := Mq120) hQ120.1  x478 s (by omega) (by omega)) rfl okX12_isCounted viX12_isCounted lkX12_352 (s_54 hQ120.1.1) cl_12 rfl (Nat.le_of_ble_eq_true rfl) ⟨rfl, rfl⟩ (Nat.le_of_ble_eq_true rfl) (Nat.le_of_ble_eq_true rfl) (Nat.le_of_ble_eq_true rfl) ?_
                    rintro x498 _ ⟨rfl, h499, h500⟩
                    refine vc_if_ne dX12_goTurn_212 (fun h501 => ?_) (fun h501 => ?_)
                    · refine vc_aload_n dX12_goTurn_217 rfl ?_
                      refine vc_iload dX12_goTurn_218 rfl ?_
                      refine vc_putI dX12_goTurn_220 (plX12_324 _ rfl) (s_54 hQ120.1.1) rfl ?_
                      have kp502 : mI (sI Mq120 54 25 x478) 64 = mI M 64 := (kp_sI kp120_64 rfl)
                      have kp503 : mI (sI Mq120 54 25 x478) 65 = mI M 65 := (kp_sI kp120_65 rfl)
                      have kp504 : mI (sI Mq120 54 25 x478) 67 = mI M 67 := (kp_sI kp120_67 rfl)
                      have kp505 : mI (sI Mq120 54 25 x478) 68 = mI M 68 := (kp_sI kp120_68 rfl)
                      have kp506 : mI (sI Mq120 54 25 x478) 69 = mI M 69 := (kp_sI kp120_69 rfl)
                      have kp507 : mI (sI Mq120 54 25 x478) 70 = mI M 70 := (kp_sI kp120_70 rfl)
                      have kp508 : mI (sI Mq120 54 25 x478) 71 = mI M 71 := (kp_sI kp120_71 rfl)
                      have kp509 : mI (sI Mq120 54 25 x478) 72 = mI M 72 := (kp_sI kp120_72 rfl)
                      have kp510 : mI (sI Mq120 54 25 x478) 73 = mI M 73 := (kp_sI kp120_73 rfl)
                      have kp511 : mI (sI Mq120 54 25 x478) 74 = mI M 74 := (kp_sI kp120_74 rfl)
                      have kp512 : mI (sI Mq120 54 25 x478) 55 = mI M 55 := (kp_sI kp120_55 rfl)
                      have kp513 : mI (sI Mq120 54 25 x478) 57 = mI M 57 := (kp_sI kp120_57 rfl)
                      have kp514 : mI (sI Mq120 54 25 x478) 58 = mI M 58 := (kp_sI kp120_58 rfl)
                      have kp515 : mI (sI Mq120 54 25 x478) 63 = mI M 63 := (kp_sI kp120_63 rfl)
                      have hB516 : BD M (sI Mq120 54 25 x478) := BD.w54_25 hQ120 (by omega) (by omega)
                      refine vc_iconst dX12_goTurn_223 rfl ?_
                      refine vc_zret dX12_goTurn_224 rfl (by first | decide | omega) (Nat.le_of_ble_eq_true rfl) (Nat.le_of_ble_eq_true rfl) ?_
                      have k517 : mI (sI Mq120 54 25 x478) 54 27 = mI Mq120 54 27 := rfl
                      have k518 : mI (sI Mq120 54 25 x478) 54 32 = mI Mq120 54 32 := rfl
                      exact ⟨_, rfl, hB516, kp512, kp513, kp514, kp515, kp502, kp503, kp504, kp505, kp506, kp507, kp508, kp509, kp510, kp511, by omega, by omega, by omega⟩
                    · refine vc_iconst dX12_goTurn_215 rfl ?_
                      refine vc_zret dX12_goTurn_216 rfl (by first | decide | omega) (Nat.le_of_ble_eq_true rfl) (Nat.le_of_ble_eq_true rfl) ?_
                      exact ⟨_, rfl, hQ120, kp120_55, kp120_57, kp120_58, kp120_63, kp120_64, kp120_65, kp120_67, kp120_68, kp120_69, kp120_70, kp120_71, kp120_72, kp120_73, kp120_74, by omega, by omega, by omega⟩
                · refine vc_aload_n dX12_goTurn_125 rfl ?_
                  refine vc_cVI dX12_goTurn_126 (sfX12_goOn (M := Mq120) hQ120.1   ) rfl okX12_goOn viX12_goOn lkX12_348 (s_54 hQ120.1.1) cl_12 rfl (Nat.le_of_ble_eq_true rfl) ⟨rfl, rfl⟩ (Nat.le_of_ble_eq_true rfl) (Nat.le_of_ble_eq_true rfl) (Nat.le_of_ble_eq_true rfl) ?_
                  rintro x519 M520 ⟨hB521, kp522, kp523, kp524, kp525, kp526, kp527, kp528, kp529, kp530, kp531, kp532, kp533, kp534, kp535, h536, h537, h538, h539⟩
                  have hB540 : BD M M520 := BD.go hQ120 hB521
                  have kp541 : mI M520 64 = mI M 64 := kp_go kp120_64 kp526
                  have kp542 : mI M520 65 = mI M 65 := kp_go kp120_65 kp527
                  have kp543 : mI M520 67 = mI M 67 := kp_go kp120_67 kp528
                  have kp544 : mI M520 68 = mI M 68 := kp_go kp120_68 kp529
                  have kp545 : mI M520 69 = mI M 69 := kp_go kp120_69 kp530
                  have kp546 : mI M520 70 = mI M 70 := kp_go kp120_70 kp531
                  have kp547 : mI M520 71 = mI M 71 := kp_go kp120_71 kp532
                  have kp548 : mI M520 72 = mI M 72 := kp_go kp120_72 kp533
                  have kp549 : mI M520 73 = mI M 73 := kp_go kp120_73 kp534
                  have kp550 : mI M520 74 = mI M 74 := kp_go kp120_74 kp535
                  have kp551 : mI M520 55 = mI M 55 := kp_go kp120_55 kp522
                  have kp552 : mI M520 57 = mI M 57 := kp_go kp120_57 kp523
                  have kp553 : mI M520 58 = mI M 58 := kp_go kp120_58 kp524
                  have kp554 : mI M520 63 = mI M 63 := kp_go kp120_63 kp525
                  have kz := b54_27 (M := M520) hB540.1
                  refine vc_if_ne dX12_goTurn_129 (fun h555 => ?_) (fun h555 => ?_)
                  · refine vc_iload dX12_goTurn_134 rfl ?_
                    refine vc_if_ne dX12_goTurn_136 (fun h556 => ?_) (fun h556 => by exfalso; omega)
                    refine vc_iload dX12_goTurn_157 rfl ?_
                    refine vc_if_eq dX12_goTurn_159 (fun h557 => by exfalso; omega) (fun h557 => ?_)
                    refine vc_aload_n dX12_goTurn_162 rfl ?_
                    refine vc_aload_n dX12_goTurn_163 rfl ?_
                    refine vc_getI dX12_goTurn_164 flX12_321 (s_54 hB540.1.1) rfl ?_
                    have k558 : 0 ≤ mI M520 54 24 ∧ mI M520 54 24 ≤ 15 := b54_24 (M := M520) hB540.1
                    refine vc_cVI dX12_goTurn_167 (sfX12_sightOf (M := M520) hB540.1  (mI M520 54 24) (by omega) (by omega)) rfl okX12_sightOf viX12_sightOf lkX12_318 (s_54 hB540.1.1) cl_12 rfl (Nat.le_of_ble_eq_true rfl) ⟨rfl, rfl⟩ (Nat.le_of_ble_eq_true rfl) (Nat.le_of_ble_eq_true rfl) (Nat.le_of_ble_eq_true rfl) ?_
                    rintro x559 _ rfl
                    refine vc_iload dX12_goTurn_170 rfl ?_
                    refine vc_icmp_ne dX12_goTurn_172 (fun h560 => ?_) (fun h560 => ?_)
                    · refine vc_iconst dX12_goTurn_179 rfl ?_
                      refine vc_goto dX12_goTurn_180 ?_
                      refine vc_istore dX12_goTurn_195 (by decide) rfl (show _ = [some (aR 54), none, some (aI s), some (aI x1), some (aI x2), some (aI 1), none, some (aI x478), some (aI v8), some (aI 0)] from rfl) ?_
                      refine vc_goto dX12_goTurn_197 ?_
                      exact ih120 M520 v8 0 hB540 kp541 kp542 kp543 kp544 kp545 kp546 kp547 kp548 kp549 kp550 kp551 kp552 kp553 kp554 (by omega) (by omega) (by omega) (by omega) (by omega) (by omega)
                    · refine vc_iconst dX12_goTurn_175 rfl ?_
                      refine vc_goto dX12_goTurn_176 ?_
                      refine vc_istore dX12_goTurn_195 (by decide) rfl (show _ = [some (aR 54), none, some (aI s), some (aI x1), some (aI x2), some (aI 1), none, some (aI x478), some (aI v8), some (aI 1)] from rfl) ?_
                      refine vc_goto dX12_goTurn_197 ?_
                      exact ih120 M520 v8 1 hB540 kp541 kp542 kp543 kp544 kp545 kp546 kp547 kp548 kp549 kp550 kp551 kp552 kp553 kp554 (by omega) (by omega) (by omega) (by omega) (by omega) (by omega)
                  · refine vc_iconst dX12_goTurn_132 rfl ?_
                    refine vc_zret dX12_goTurn_133 rfl (by first | decide | omega) (Nat.le_of_ble_eq_true rfl) (Nat.le_of_ble_eq_true rfl) ?_
                    exact ⟨_, rfl, hB540, kp551, kp552, kp553, kp554, kp541, kp542, kp543, kp544, kp545, kp546, kp547, kp548, kp549, kp550, by omega, by omega, by omega⟩
            refine vc_less [some (aR 54), none, some (aI s), some (aI x1), some (aI x2), some (aI 1), none, some (aI x478), some (aI 0), some (aI 0)] (lessL_keep (lessL_drop (lessL_keep (lessL_keep (lessL_keep (lessL_keep (lessL_drop (lessL_keep (lessL_keep (lessL_keep (lessL_nil))))))))))) ?_
            exact lp120 _ M 0 0 hB0 rfl rfl rfl rfl rfl rfl rfl rfl rfl rfl rfl rfl rfl rfl (by omega) (by omega) (by omega) (by omega) (by omega) (Nat.lt_succ_self _)
          · refine vc_aload_n dX12_goTurn_88 rfl ?_
            refine vc_getI dX12_goTurn_89 flX12_324 (s_54 hB0.1.1) rfl ?_
            have k561 : 0 ≤ mI M 54 25 ∧ mI M 54 25 ≤ 3 := b54_25 (M := M) hB0.1
            refine vc_goto dX12_goTurn_92 ?_
            refine vc_nameI (fun x562 ex562 => ?_)
            refine vc_istore dX12_goTurn_112 (by decide) rfl (show _ = [some (aR 54), some (aI t), some (aI s), some (aI x1), some (aI x2), some (aI 1), some (aI 1), some (aI x562), none, none] from rfl) ?_
            refine vc_iconst dX12_goTurn_114 rfl ?_
            refine vc_istore dX12_goTurn_115 (by decide) rfl (show _ = [some (aR 54), some (aI t), some (aI s), some (aI x1), some (aI x2), some (aI 1), some (aI 1), some (aI x562), some (aI 0), none] from rfl) ?_
            refine vc_iconst dX12_goTurn_117 rfl ?_
            refine vc_istore dX12_goTurn_118 (by decide) rfl (show _ = [some (aR 54), some (aI t), some (aI s), some (aI x1), some (aI x2), some (aI 1), some (aI 1), some (aI x562), some (aI 0), some (aI 0)] from rfl) ?_
            have lp120 : ∀ (n120 : Nat) (Mq120 : Mem) (v8 : Int) (v9 : Int), (BD M Mq120) → (mI Mq120 64 = mI M 64) → (mI Mq120 65 = mI M 65) → (mI Mq120 67 = mI M 67) → (mI Mq120 68 = mI M 68) → (mI Mq120 69 = mI M 69) → (mI Mq120 70 = mI M 70) → (mI Mq120 71 = mI M 71) → (mI Mq120 72 = mI M 72) → (mI Mq120 73 = mI M 73) → (mI Mq120 74 = mI M 74) → (mI Mq120 55 = mI M 55) → (mI Mq120 57 = mI M 57) → (mI Mq120 58 = mI M 58) → (mI Mq120 63 = mI M 63) → (0 ≤ v9) → (v9 ≤ 1) → (mI Mq120 54 32 = mI M 54 32) → (0 ≤ mI Mq120 54 27) → (mI Mq120 54 27 ≤ 40) → (40 - mI Mq120 54 27).toNat < n120 → VC l mdX12_goTurn 120 [some (aR 54), none, some (aI s), some (aI x1), some (aI x2), some (aI 1), none, some (aI x562), some (aI v8), some (aI v9)] [] Mq120 0 0 (fun q N => ∃ r : Int, q = some (aI r) ∧ BD M N ∧ mI N 55 = mI M 55 ∧ mI N 57 = mI M 57 ∧ mI N 58 = mI M 58 ∧ mI N 63 = mI M 63 ∧ mI N 64 = mI M 64 ∧ mI N 65 = mI M 65 ∧ mI N 67 = mI M 67 ∧ mI N 68 = mI M 68 ∧ mI N 69 = mI M 69 ∧ mI N 70 = mI M 70 ∧ mI N 71 = mI M 71 ∧ mI N 72 = mI M 72 ∧ mI N 73 = mI M 73 ∧ mI N 74 = mI M 74 ∧ 0 ≤ r ∧ r ≤ 1 ∧ mI N 54 32 = mI M 54 32) := by
              intro n120
              induction n120 with
              | zero => intro Mq120 v8 v9 hQ120 kp120_64 kp120_65 kp120_67 kp120_68 kp120_69 kp120_70 kp120_71 kp120_72 kp120_73 kp120_74 kp120_55 kp120_57 kp120_58 kp120_63 g120_9a g120_9b g120i0 g120i1 g120i2 hm120; exact absurd hm120 (Nat.not_lt_zero _)
              | succ n120 ih120 =>
                intro Mq120 v8 v9 hQ120 kp120_64 kp120_65 kp120_67 kp120_68 kp120_69 kp120_70 kp120_71 kp120_72 kp120_73 kp120_74 kp120_55 kp120_57 kp120_58 kp120_63 g120_9a g120_9b g120i0 g120i1 g120i2 hm120
                refine vc_iload dX12_goTurn_120 rfl ?_
                refine vc_if_ne dX12_goTurn_122 (fun h563 => ?_) (fun h563 => ?_)
                · refine vc_iload_n dX12_goTurn_200 rfl ?_
                  refine vc_iconst dX12_goTurn_201 rfl ?_
                  refine vc_icmp_eq dX12_goTurn_202 (fun h564 => ?_) (fun h564 => by exfalso; omega)
                  refine vc_aload_n dX12_goTurn_217 rfl ?_
                  refine vc_iload dX12_goTurn_218 rfl ?_
                  refine vc_putI dX12_goTurn_220 (plX12_324 _ rfl) (s_54 hQ120.1.1) rfl ?_
                  have kp565 : mI (sI Mq120 54 25 x562) 64 = mI M 64 := (kp_sI kp120_64 rfl)
                  have kp566 : mI (sI Mq120 54 25 x562) 65 = mI M 65 := (kp_sI kp120_65 rfl)
                  have kp567 : mI (sI Mq120 54 25 x562) 67 = mI M 67 := (kp_sI kp120_67 rfl)
                  have kp568 : mI (sI Mq120 54 25 x562) 68 = mI M 68 := (kp_sI kp120_68 rfl)
                  have kp569 : mI (sI Mq120 54 25 x562) 69 = mI M 69 := (kp_sI kp120_69 rfl)
                  have kp570 : mI (sI Mq120 54 25 x562) 70 = mI M 70 := (kp_sI kp120_70 rfl)
                  have kp571 : mI (sI Mq120 54 25 x562) 71 = mI M 71 := (kp_sI kp120_71 rfl)
                  have kp572 : mI (sI Mq120 54 25 x562) 72 = mI M 72 := (kp_sI kp120_72 rfl)
                  have kp573 : mI (sI Mq120 54 25 x562) 73 = mI M 73 := (kp_sI kp120_73 rfl)
                  have kp574 : mI (sI Mq120 54 25 x562) 74 = mI M 74 := (kp_sI kp120_74 rfl)
                  have kp575 : mI (sI Mq120 54 25 x562) 55 = mI M 55 := (kp_sI kp120_55 rfl)
                  have kp576 : mI (sI Mq120 54 25 x562) 57 = mI M 57 := (kp_sI kp120_57 rfl)
                  have kp577 : mI (sI Mq120 54 25 x562) 58 = mI M 58 := (kp_sI kp120_58 rfl)
                  have kp578 : mI (sI Mq120 54 25 x562) 63 = mI M 63 := (kp_sI kp120_63 rfl)
                  have hB579 : BD M (sI Mq120 54 25 x562) := BD.w54_25 hQ120 (by omega) (by omega)
                  refine vc_iconst dX12_goTurn_223 rfl ?_
                  refine vc_zret dX12_goTurn_224 rfl (by first | decide | omega) (Nat.le_of_ble_eq_true rfl) (Nat.le_of_ble_eq_true rfl) ?_
                  have k580 : mI (sI Mq120 54 25 x562) 54 27 = mI Mq120 54 27 := rfl
                  have k581 : mI (sI Mq120 54 25 x562) 54 32 = mI Mq120 54 32 := rfl
                  exact ⟨_, rfl, hB579, kp575, kp576, kp577, kp578, kp565, kp566, kp567, kp568, kp569, kp570, kp571, kp572, kp573, kp574, by omega, by omega, by omega⟩
                · refine vc_aload_n dX12_goTurn_125 rfl ?_
                  refine vc_cVI dX12_goTurn_126 (sfX12_goOn (M := Mq120) hQ120.1   ) rfl okX12_goOn viX12_goOn lkX12_348 (s_54 hQ120.1.1) cl_12 rfl (Nat.le_of_ble_eq_true rfl) ⟨rfl, rfl⟩ (Nat.le_of_ble_eq_true rfl) (Nat.le_of_ble_eq_true rfl) (Nat.le_of_ble_eq_true rfl) ?_
                  rintro x582 M583 ⟨hB584, kp585, kp586, kp587, kp588, kp589, kp590, kp591, kp592, kp593, kp594, kp595, kp596, kp597, kp598, h599, h600, h601, h602⟩
                  have hB603 : BD M M583 := BD.go hQ120 hB584
                  have kp604 : mI M583 64 = mI M 64 := kp_go kp120_64 kp589
                  have kp605 : mI M583 65 = mI M 65 := kp_go kp120_65 kp590
                  have kp606 : mI M583 67 = mI M 67 := kp_go kp120_67 kp591
                  have kp607 : mI M583 68 = mI M 68 := kp_go kp120_68 kp592
                  have kp608 : mI M583 69 = mI M 69 := kp_go kp120_69 kp593
                  have kp609 : mI M583 70 = mI M 70 := kp_go kp120_70 kp594
                  have kp610 : mI M583 71 = mI M 71 := kp_go kp120_71 kp595
                  have kp611 : mI M583 72 = mI M 72 := kp_go kp120_72 kp596
                  have kp612 : mI M583 73 = mI M 73 := kp_go kp120_73 kp597
                  have kp613 : mI M583 74 = mI M 74 := kp_go kp120_74 kp598
                  have kp614 : mI M583 55 = mI M 55 := kp_go kp120_55 kp585
                  have kp615 : mI M583 57 = mI M 57 := kp_go kp120_57 kp586
                  have kp616 : mI M583 58 = mI M 58 := kp_go kp120_58 kp587
                  have kp617 : mI M583 63 = mI M 63 := kp_go kp120_63 kp588
                  have kz := b54_27 (M := M583) hB603.1
                  refine vc_if_ne dX12_goTurn_129 (fun h618 => ?_) (fun h618 => ?_)
                  · refine vc_iload dX12_goTurn_134 rfl ?_
                    refine vc_if_ne dX12_goTurn_136 (fun h619 => ?_) (fun h619 => by exfalso; omega)
                    refine vc_iload dX12_goTurn_157 rfl ?_
                    refine vc_if_eq dX12_goTurn_159 (fun h620 => by exfalso; omega) (fun h620 => ?_)
                    refine vc_aload_n dX12_goTurn_162 rfl ?_
                    refine vc_aload_n dX12_goTurn_163 rfl ?_
                    refine vc_getI dX12_goTurn_164 flX12_321 (s_54 hB603.1.1) rfl ?_
                    have k621 : 0 ≤ mI M583 54 24 ∧ mI M583 54 24 ≤ 15 := b54_24 (M := M583) hB603.1
                    refine vc_cVI dX12_goTurn_167 (sfX12_sightOf (M := M583) hB603.1  (mI M583 54 24) (by omega) (by omega)) rfl okX12_sightOf viX12_sightOf lkX12_318 (s_54 hB603.1.1) cl_12 rfl (Nat.le_of_ble_eq_true rfl) ⟨rfl, rfl⟩ (Nat.le_of_ble_eq_true rfl) (Nat.le_of_ble_eq_true rfl) (Nat.le_of_ble_eq_true rfl) ?_
                    rintro x622 _ rfl
                    refine vc_iload dX12_goTurn_170 rfl ?_
                    refine vc_icmp_ne dX12_goTurn_172 (fun h623 => ?_) (fun h623 => ?_)
                    · refine vc_iconst dX12_goTurn_179 rfl ?_
                      refine vc_goto dX12_goTurn_180 ?_
                      refine vc_istore dX12_goTurn_195 (by decide) rfl (show _ = [some (aR 54), none, some (aI s), some (aI x1), some (aI x2), some (aI 1), none, some (aI x562), some (aI v8), some (aI 0)] from rfl) ?_
                      refine vc_goto dX12_goTurn_197 ?_
                      exact ih120 M583 v8 0 hB603 kp604 kp605 kp606 kp607 kp608 kp609 kp610 kp611 kp612 kp613 kp614 kp615 kp616 kp617 (by omega) (by omega) (by omega) (by omega) (by omega) (by omega)
                    · refine vc_iconst dX12_goTurn_175 rfl ?_
                      refine vc_goto dX12_goTurn_176 ?_
                      refine vc_istore dX12_goTurn_195 (by decide) rfl (show _ = [some (aR 54), none, some (aI s), some (aI x1), some (aI x2), some (aI 1), none, some (aI x562), some (aI v8), some (aI 1)] from rfl) ?_
                      refine vc_goto dX12_goTurn_197 ?_
                      exact ih120 M583 v8 1 hB603 kp604 kp605 kp606 kp607 kp608 kp609 kp610 kp611 kp612 kp613 kp614 kp615 kp616 kp617 (by omega) (by omega) (by omega) (by omega) (by omega) (by omega)
                  · refine vc_iconst dX12_goTurn_132 rfl ?_
                    refine vc_zret dX12_goTurn_133 rfl (by first | decide | omega) (Nat.le_of_ble_eq_true rfl) (Nat.le_of_ble_eq_true rfl) ?_
                    exact ⟨_, rfl, hB603, kp614, kp615, kp616, kp617, kp604, kp605, kp606, kp607, kp608, kp609, kp610, kp611, kp612, kp613, by omega, by omega, by omega⟩
            refine vc_less [some (aR 54), none, some (aI s), some (aI x1), some (aI x2), some (aI 1), none, some (aI x562), some (aI 0), some (aI 0)] (lessL_keep (lessL_drop (lessL_keep (lessL_keep (lessL_keep (lessL_keep (lessL_drop (lessL_keep (lessL_keep (lessL_keep (lessL_nil))))))))))) ?_
            exact lp120 _ M 0 0 hB0 rfl rfl rfl rfl rfl rfl rfl rfl rfl rfl rfl rfl rfl rfl (by omega) (by omega) (by omega) (by omega) (by omega) (Nat.lt_succ_self _)
        · refine vc_iconst dX12_goTurn_68 rfl ?_
          refine vc_goto dX12_goTurn_69 ?_
          refine vc_icmp_ne dX12_goTurn_73 (fun h624 => ?_) (fun h624 => by exfalso; omega)
          refine vc_iconst dX12_goTurn_80 rfl ?_
          refine vc_istore dX12_goTurn_81 (by decide) rfl (show _ = [some (aR 54), some (aI t), some (aI s), some (aI x1), some (aI x2), some (aI 1), some (aI 0), none, none, none] from rfl) ?_
          refine vc_iload_n dX12_goTurn_83 rfl ?_
          refine vc_iconst dX12_goTurn_84 rfl ?_
          refine vc_icmp_ne dX12_goTurn_85 (fun h625 => ?_) (fun h625 => ?_)
          · refine vc_aload_n dX12_goTurn_95 rfl ?_
            refine vc_getI dX12_goTurn_96 flX12_324 (s_54 hB0.1.1) rfl ?_
            have k626 : 0 ≤ mI M 54 25 ∧ mI M 54 25 ≤ 3 := b54_25 (M := M) hB0.1
            refine vc_iload dX12_goTurn_99 rfl ?_
            refine vc_if_eq dX12_goTurn_101 (fun h627 => ?_) (fun h627 => by exfalso; omega)
            refine vc_iconst dX12_goTurn_108 rfl ?_
            refine vc_iaddE dX12_goTurn_109 (by omega) (by omega) ?_
            refine vc_iconst dX12_goTurn_110 rfl ?_
            refine vc_iremE dX12_goTurn_111 (by omega) (by omega) ?_
            refine vc_nameI (fun x628 ex628 => ?_)
            refine vc_istore dX12_goTurn_112 (by decide) rfl (show _ = [some (aR 54), some (aI t), some (aI s), some (aI x1), some (aI x2), some (aI 1), some (aI 0), some (aI x628), none, none] from rfl) ?_
            refine vc_iconst dX12_goTurn_114 rfl ?_
            refine vc_istore dX12_goTurn_115 (by decide) rfl (show _ = [some (aR 54), some (aI t), some (aI s), some (aI x1), some (aI x2), some (aI 1), some (aI 0), some (aI x628), some (aI 0), none] from rfl) ?_
            refine vc_iconst dX12_goTurn_117 rfl ?_
            refine vc_istore dX12_goTurn_118 (by decide) rfl (show _ = [some (aR 54), some (aI t), some (aI s), some (aI x1), some (aI x2), some (aI 1), some (aI 0), some (aI x628), some (aI 0), some (aI 0)] from rfl) ?_
            have lp120 : ∀ (n120 : Nat) (Mq120 : Mem) (v8 : Int) (v9 : Int), (BD M Mq120) → (mI Mq120 64 = mI M 64) → (mI Mq120 65 = mI M 65) → (mI Mq120 67 = mI M 67) → (mI Mq120 68 = mI M 68) → (mI Mq120 69 = mI M 69) → (mI Mq120 70 = mI M 70) → (mI Mq120 71 = mI M 71) → (mI Mq120 72 = mI M 72) → (mI Mq120 73 = mI M 73) → (mI Mq120 74 = mI M 74) → (mI Mq120 55 = mI M 55) → (mI Mq120 57 = mI M 57) → (mI Mq120 58 = mI M 58) → (mI Mq120 63 = mI M 63) → (0 ≤ v9) → (v9 ≤ 1) → (mI Mq120 54 32 = mI M 54 32) → (0 ≤ mI Mq120 54 27) → (mI Mq120 54 27 ≤ 40) → (40 - mI Mq120 54 27).toNat < n120 → VC l mdX12_goTurn 120 [some (aR 54), none, some (aI s), some (aI x1), some (aI x2), some (aI 1), none, some (aI x628), some (aI v8), some (aI v9)] [] Mq120 0 0 (fun q N => ∃ r : Int, q = some (aI r) ∧ BD M N ∧ mI N 55 = mI M 55 ∧ mI N 57 = mI M 57 ∧ mI N 58 = mI M 58 ∧ mI N 63 = mI M 63 ∧ mI N 64 = mI M 64 ∧ mI N 65 = mI M 65 ∧ mI N 67 = mI M 67 ∧ mI N 68 = mI M 68 ∧ mI N 69 = mI M 69 ∧ mI N 70 = mI M 70 ∧ mI N 71 = mI M 71 ∧ mI N 72 = mI M 72 ∧ mI N 73 = mI M 73 ∧ mI N 74 = mI M 74 ∧ 0 ≤ r ∧ r ≤ 1 ∧ mI N 54 32 = mI M 54 32) := by
              intro n120
              induction n120 with
              | zero => intro Mq120 v8 v9 hQ120 kp120_64 kp120_65 kp120_67 kp120_68 kp120_69 kp120_70 kp120_71 kp120_72 kp120_73 kp120_74 kp120_55 kp120_57 kp120_58 kp120_63 g120_9a g120_9b g120i0 g120i1 g120i2 hm120; exact absurd hm120 (Nat.not_lt_zero _)
              | succ n120 ih120 =>
                intro Mq120 v8 v9 hQ120 kp120_64 kp120_65 kp120_67 kp120_68 kp120_69 kp120_70 kp120_71 kp120_72 kp120_73 kp120_74 kp120_55 kp120_57 kp120_58 kp120_63 g120_9a g120_9b g120i0 g120i1 g120i2 hm120
                refine vc_iload dX12_goTurn_120 rfl ?_
                refine vc_if_ne dX12_goTurn_122 (fun h629 => ?_) (fun h629 => ?_)
                · refine vc_iload_n dX12_goTurn_200 rfl ?_
                  refine vc_iconst dX12_goTurn_201 rfl ?_
                  refine vc_icmp_eq dX12_goTurn_202 (fun h630 => ?_) (fun h630 => ?_)
                  · refine vc_aload_n dX12_goTurn_217 rfl ?_
                    refine vc_iload dX12_goTurn_218 rfl ?_
                    refine vc_putI dX12_goTurn_220 (plX12_324 _ rfl) (s_54 hQ120.1.1) rfl ?_
                    have kp631 : mI (sI Mq120 54 25 x628) 64 = mI M 64 := (kp_sI kp120_64 rfl)
                    have kp632 : mI (sI Mq120 54 25 x628) 65 = mI M 65 := (kp_sI kp120_65 rfl)
                    have kp633 : mI (sI Mq120 54 25 x628) 67 = mI M 67 := (kp_sI kp120_67 rfl)
                    have kp634 : mI (sI Mq120 54 25 x628) 68 = mI M 68 := (kp_sI kp120_68 rfl)
                    have kp635 : mI (sI Mq120 54 25 x628) 69 = mI M 69 := (kp_sI kp120_69 rfl)
                    have kp636 : mI (sI Mq120 54 25 x628) 70 = mI M 70 := (kp_sI kp120_70 rfl)
                    have kp637 : mI (sI Mq120 54 25 x628) 71 = mI M 71 := (kp_sI kp120_71 rfl)
                    have kp638 : mI (sI Mq120 54 25 x628) 72 = mI M 72 := (kp_sI kp120_72 rfl)
                    have kp639 : mI (sI Mq120 54 25 x628) 73 = mI M 73 := (kp_sI kp120_73 rfl)
                    have kp640 : mI (sI Mq120 54 25 x628) 74 = mI M 74 := (kp_sI kp120_74 rfl)
                    have kp641 : mI (sI Mq120 54 25 x628) 55 = mI M 55 := (kp_sI kp120_55 rfl)
                    have kp642 : mI (sI Mq120 54 25 x628) 57 = mI M 57 := (kp_sI kp120_57 rfl)
                    have kp643 : mI (sI Mq120 54 25 x628) 58 = mI M 58 := (kp_sI kp120_58 rfl)
                    have kp644 : mI (sI Mq120 54 25 x628) 63 = mI M 63 := (kp_sI kp120_63 rfl)
                    have hB645 : BD M (sI Mq120 54 25 x628) := BD.w54_25 hQ120 (by omega) (by omega)
                    refine vc_iconst dX12_goTurn_223 rfl ?_
                    refine vc_zret dX12_goTurn_224 rfl (by first | decide | omega) (Nat.le_of_ble_eq_true rfl) (Nat.le_of_ble_eq_true rfl) ?_
                    have k646 : mI (sI Mq120 54 25 x628) 54 27 = mI Mq120 54 27 := rfl
                    have k647 : mI (sI Mq120 54 25 x628) 54 32 = mI Mq120 54 32 := rfl
                    exact ⟨_, rfl, hB645, kp641, kp642, kp643, kp644, kp631, kp632, kp633, kp634, kp635, kp636, kp637, kp638, kp639, kp640, by omega, by omega, by omega⟩
                  · refine vc_aload_n dX12_goTurn_205 rfl ?_
                    refine vc_iload dX12_goTurn_206 rfl ?_
                    refine vc_iload_n dX12_goTurn_208 rfl ?_
                    refine vc_cVI dX12_goTurn_209 (sfX12_isCounted (M := Mq120) hQ120.1  x628 s (by omega) (by omega)) rfl okX12_isCounted viX12_isCounted lkX12_352 (s_54 hQ120.1.1) cl_12 rfl (Nat.le_of_ble_eq_true rfl) ⟨rfl, rfl⟩ (Nat.le_of_ble_eq_true rfl) (Nat.le_of_ble_eq_true rfl) (Nat.le_of_ble_eq_true rfl) ?_
                    rintro x648 _ ⟨rfl, h649, h650⟩
                    refine vc_if_ne dX12_goTurn_212 (fun h651 => ?_) (fun h651 => ?_)
                    · refine vc_aload_n dX12_goTurn_217 rfl ?_
                      refine vc_iload dX12_goTurn_218 rfl ?_
                      refine vc_putI dX12_goTurn_220 (plX12_324 _ rfl) (s_54 hQ120.1.1) rfl ?_
                      have kp652 : mI (sI Mq120 54 25 x628) 64 = mI M 64 := (kp_sI kp120_64 rfl)
                      have kp653 : mI (sI Mq120 54 25 x628) 65 = mI M 65 := (kp_sI kp120_65 rfl)
                      have kp654 : mI (sI Mq120 54 25 x628) 67 = mI M 67 := (kp_sI kp120_67 rfl)
                      have kp655 : mI (sI Mq120 54 25 x628) 68 = mI M 68 := (kp_sI kp120_68 rfl)
                      have kp656 : mI (sI Mq120 54 25 x628) 69 = mI M 69 := (kp_sI kp120_69 rfl)
                      have kp657 : mI (sI Mq120 54 25 x628) 70 = mI M 70 := (kp_sI kp120_70 rfl)
                      have kp658 : mI (sI Mq120 54 25 x628) 71 = mI M 71 := (kp_sI kp120_71 rfl)
                      have kp659 : mI (sI Mq120 54 25 x628) 72 = mI M 72 := (kp_sI kp120_72 rfl)
                      have kp660 : mI (sI Mq120 54 25 x628) 73 = mI M 73 := (kp_sI kp120_73 rfl)
                      have kp661 : mI (sI Mq120 54 25 x628) 74 = mI M 74 := (kp_sI kp120_74 rfl)
                      have kp662 : mI (sI Mq120 54 25 x628) 55 = mI M 55 := (kp_sI kp120_55 rfl)
                      have kp663 : mI (sI Mq120 54 25 x628) 57 = mI M 57 := (kp_sI kp120_57 rfl)
                      have kp664 : mI (sI Mq120 54 25 x628) 58 = mI M 58 := (kp_sI kp120_58 rfl)
                      have kp665 : mI (sI Mq120 54 25 x628) 63 = mI M 63 := (kp_sI kp120_63 rfl)
                      have hB666 : BD M (sI Mq120 54 25 x628) := BD.w54_25 hQ120 (by omega) (by omega)
                      refine vc_iconst dX12_goTurn_223 rfl ?_
                      refine vc_zret dX12_goTurn_224 rfl (by first | decide | omega) (Nat.le_of_ble_eq_true rfl) (Nat.le_of_ble_eq_true rfl) ?_
                      have k667 : mI (sI Mq120 54 25 x628) 54 27 = mI Mq120 54 27 := rfl
                      have k668 : mI (sI Mq120 54 25 x628) 54 32 = mI Mq120 54 32 := rfl
                      exact ⟨_, rfl, hB666, kp662, kp663, kp664, kp665, kp652, kp653, kp654, kp655, kp656, kp657, kp658, kp659, kp660, kp661, by omega, by omega, by omega⟩
                    · refine vc_iconst dX12_goTurn_215 rfl ?_
                      refine vc_zret dX12_goTurn_216 rfl (by first | decide | omega) (Nat.le_of_ble_eq_true rfl) (Nat.le_of_ble_eq_true rfl) ?_
                      exact ⟨_, rfl, hQ120, kp120_55, kp120_57, kp120_58, kp120_63, kp120_64, kp120_65, kp120_67, kp120_68, kp120_69, kp120_70, kp120_71, kp120_72, kp120_73, kp120_74, by omega, by omega, by omega⟩
                · refine vc_aload_n dX12_goTurn_125 rfl ?_
                  refine vc_cVI dX12_goTurn_126 (sfX12_goOn (M := Mq120) hQ120.1   ) rfl okX12_goOn viX12_goOn lkX12_348 (s_54 hQ120.1.1) cl_12 rfl (Nat.le_of_ble_eq_true rfl) ⟨rfl, rfl⟩ (Nat.le_of_ble_eq_true rfl) (Nat.le_of_ble_eq_true rfl) (Nat.le_of_ble_eq_true rfl) ?_
                  rintro x669 M670 ⟨hB671, kp672, kp673, kp674, kp675, kp676, kp677, kp678, kp679, kp680, kp681, kp682, kp683, kp684, kp685, h686, h687, h688, h689⟩
                  have hB690 : BD M M670 := BD.go hQ120 hB671
                  have kp691 : mI M670 64 = mI M 64 := kp_go kp120_64 kp676
                  have kp692 : mI M670 65 = mI M 65 := kp_go kp120_65 kp677
                  have kp693 : mI M670 67 = mI M 67 := kp_go kp120_67 kp678
                  have kp694 : mI M670 68 = mI M 68 := kp_go kp120_68 kp679
                  have kp695 : mI M670 69 = mI M 69 := kp_go kp120_69 kp680
                  have kp696 : mI M670 70 = mI M 70 := kp_go kp120_70 kp681
                  have kp697 : mI M670 71 = mI M 71 := kp_go kp120_71 kp682
                  have kp698 : mI M670 72 = mI M 72 := kp_go kp120_72 kp683
                  have kp699 : mI M670 73 = mI M 73 := kp_go kp120_73 kp684
                  have kp700 : mI M670 74 = mI M 74 := kp_go kp120_74 kp685
                  have kp701 : mI M670 55 = mI M 55 := kp_go kp120_55 kp672
                  have kp702 : mI M670 57 = mI M 57 := kp_go kp120_57 kp673
                  have kp703 : mI M670 58 = mI M 58 := kp_go kp120_58 kp674
                  have kp704 : mI M670 63 = mI M 63 := kp_go kp120_63 kp675
                  have kz := b54_27 (M := M670) hB690.1
                  refine vc_if_ne dX12_goTurn_129 (fun h705 => ?_) (fun h705 => ?_)
                  · refine vc_iload dX12_goTurn_134 rfl ?_
                    refine vc_if_ne dX12_goTurn_136 (fun h706 => ?_) (fun h706 => by exfalso; omega)
                    refine vc_iload dX12_goTurn_157 rfl ?_
                    refine vc_if_eq dX12_goTurn_159 (fun h707 => by exfalso; omega) (fun h707 => ?_)
                    refine vc_aload_n dX12_goTurn_162 rfl ?_
                    refine vc_aload_n dX12_goTurn_163 rfl ?_
                    refine vc_getI dX12_goTurn_164 flX12_321 (s_54 hB690.1.1) rfl ?_
                    have k708 : 0 ≤ mI M670 54 24 ∧ mI M670 54 24 ≤ 15 := b54_24 (M := M670) hB690.1
                    refine vc_cVI dX12_goTurn_167 (sfX12_sightOf (M := M670) hB690.1  (mI M670 54 24) (by omega) (by omega)) rfl okX12_sightOf viX12_sightOf lkX12_318 (s_54 hB690.1.1) cl_12 rfl (Nat.le_of_ble_eq_true rfl) ⟨rfl, rfl⟩ (Nat.le_of_ble_eq_true rfl) (Nat.le_of_ble_eq_true rfl) (Nat.le_of_ble_eq_true rfl) ?_
                    rintro x709 _ rfl
                    refine vc_iload dX12_goTurn_170 rfl ?_
                    refine vc_icmp_ne dX12_goTurn_172 (fun h710 => ?_) (fun h710 => ?_)
                    · refine vc_iconst dX12_goTurn_179 rfl ?_
                      refine vc_goto dX12_goTurn_180 ?_
                      refine vc_istore dX12_goTurn_195 (by decide) rfl (show _ = [some (aR 54), none, some (aI s), some (aI x1), some (aI x2), some (aI 1), none, some (aI x628), some (aI v8), some (aI 0)] from rfl) ?_
                      refine vc_goto dX12_goTurn_197 ?_
                      exact ih120 M670 v8 0 hB690 kp691 kp692 kp693 kp694 kp695 kp696 kp697 kp698 kp699 kp700 kp701 kp702 kp703 kp704 (by omega) (by omega) (by omega) (by omega) (by omega) (by omega)
                    · refine vc_iconst dX12_goTurn_175 rfl ?_
                      refine vc_goto dX12_goTurn_176 ?_
                      refine vc_istore dX12_goTurn_195 (by decide) rfl (show _ = [some (aR 54), none, some (aI s), some (aI x1), some (aI x2), some (aI 1), none, some (aI x628), some (aI v8), some (aI 1)] from rfl) ?_
                      refine vc_goto dX12_goTurn_197 ?_
                      exact ih120 M670 v8 1 hB690 kp691 kp692 kp693 kp694 kp695 kp696 kp697 kp698 kp699 kp700 kp701 kp702 kp703 kp704 (by omega) (by omega) (by omega) (by omega) (by omega) (by omega)
                  · refine vc_iconst dX12_goTurn_132 rfl ?_
                    refine vc_zret dX12_goTurn_133 rfl (by first | decide | omega) (Nat.le_of_ble_eq_true rfl) (Nat.le_of_ble_eq_true rfl) ?_
                    exact ⟨_, rfl, hB690, kp701, kp702, kp703, kp704, kp691, kp692, kp693, kp694, kp695, kp696, kp697, kp698, kp699, kp700, by omega, by omega, by omega⟩
            refine vc_less [some (aR 54), none, some (aI s), some (aI x1), some (aI x2), some (aI 1), none, some (aI x628), some (aI 0), some (aI 0)] (lessL_keep (lessL_drop (lessL_keep (lessL_keep (lessL_keep (lessL_keep (lessL_drop (lessL_keep (lessL_keep (lessL_keep (lessL_nil))))))))))) ?_
            exact lp120 _ M 0 0 hB0 rfl rfl rfl rfl rfl rfl rfl rfl rfl rfl rfl rfl rfl rfl (by omega) (by omega) (by omega) (by omega) (by omega) (Nat.lt_succ_self _)
          · refine vc_aload_n dX12_goTurn_88 rfl ?_
            refine vc_getI dX12_goTurn_89 flX12_324 (s_54 hB0.1.1) rfl ?_
            have k711 : 0 ≤ mI M 54 25 ∧ mI M 54 25 ≤ 3 := b54_25 (M := M) hB0.1
            refine vc_goto dX12_goTurn_92 ?_
            refine vc_nameI (fun x712 ex712 => ?_)
            refine vc_istore dX12_goTurn_112 (by decide) rfl (show _ = [some (aR 54), some (aI t), some (aI s), some (aI x1), some (aI x2), some (aI 1), some (aI 0), some (aI x712), none, none] from rfl) ?_
            refine vc_iconst dX12_goTurn_114 rfl ?_
            refine vc_istore dX12_goTurn_115 (by decide) rfl (show _ = [some (aR 54), some (aI t), some (aI s), some (aI x1), some (aI x2), some (aI 1), some (aI 0), some (aI x712), some (aI 0), none] from rfl) ?_
            refine vc_iconst dX12_goTurn_117 rfl ?_
            refine vc_istore dX12_goTurn_118 (by decide) rfl (show _ = [some (aR 54), some (aI t), some (aI s), some (aI x1), some (aI x2), some (aI 1), some (aI 0), some (aI x712), some (aI 0), some (aI 0)] from rfl) ?_
            have lp120 : ∀ (n120 : Nat) (Mq120 : Mem) (v8 : Int) (v9 : Int), (BD M Mq120) → (mI Mq120 64 = mI M 64) → (mI Mq120 65 = mI M 65) → (mI Mq120 67 = mI M 67) → (mI Mq120 68 = mI M 68) → (mI Mq120 69 = mI M 69) → (mI Mq120 70 = mI M 70) → (mI Mq120 71 = mI M 71) → (mI Mq120 72 = mI M 72) → (mI Mq120 73 = mI M 73) → (mI Mq120 74 = mI M 74) → (mI Mq120 55 = mI M 55) → (mI Mq120 57 = mI M 57) → (mI Mq120 58 = mI M 58) → (mI Mq120 63 = mI M 63) → (0 ≤ v9) → (v9 ≤ 1) → (mI Mq120 54 32 = mI M 54 32) → (0 ≤ mI Mq120 54 27) → (mI Mq120 54 27 ≤ 40) → (40 - mI Mq120 54 27).toNat < n120 → VC l mdX12_goTurn 120 [some (aR 54), none, some (aI s), some (aI x1), some (aI x2), some (aI 1), none, some (aI x712), some (aI v8), some (aI v9)] [] Mq120 0 0 (fun q N => ∃ r : Int, q = some (aI r) ∧ BD M N ∧ mI N 55 = mI M 55 ∧ mI N 57 = mI M 57 ∧ mI N 58 = mI M 58 ∧ mI N 63 = mI M 63 ∧ mI N 64 = mI M 64 ∧ mI N 65 = mI M 65 ∧ mI N 67 = mI M 67 ∧ mI N 68 = mI M 68 ∧ mI N 69 = mI M 69 ∧ mI N 70 = mI M 70 ∧ mI N 71 = mI M 71 ∧ mI N 72 = mI M 72 ∧ mI N 73 = mI M 73 ∧ mI N 74 = mI M 74 ∧ 0 ≤ r ∧ r ≤ 1 ∧ mI N 54 32 = mI M 54 32) := by
              intro n120
              induction n120 with
              | zero => intro Mq120 v8 v9 hQ120 kp120_64 kp120_65 kp120_67 kp120_68 kp120_69 kp120_70 kp120_71 kp120_72 kp120_73 kp120_74 kp120_55 kp120_57 kp120_58 kp120_63 g120_9a g120_9b g120i0 g120i1 g120i2 hm120; exact absurd hm120 (Nat.not_lt_zero _)
              | succ n120 ih120 =>
                intro Mq120 v8 v9 hQ120 kp120_64 kp120_65 kp120_67 kp120_68 kp120_69 kp120_70 kp120_71 kp120_72 kp120_73 kp120_74 kp120_55 kp120_57 kp120_58 kp120_63 g120_9a g120_9b g120i0 g120i1 g120i2 hm120
                refine vc_iload dX12_goTurn_120 rfl ?_
                refine vc_if_ne dX12_goTurn_122 (fun h713 => ?_) (fun h713 => ?_)
                · refine vc_iload_n dX12_goTurn_200 rfl ?_
                  refine vc_iconst dX12_goTurn_201 rfl ?_
                  refine vc_icmp_eq dX12_goTurn_202 (fun h714 => ?_) (fun h714 => by exfalso; omega)
                  refine vc_aload_n dX12_goTurn_217 rfl ?_
                  refine vc_iload dX12_goTurn_218 rfl ?_
                  refine vc_putI dX12_goTurn_220 (plX12_324 _ rfl) (s_54 hQ120.1.1) rfl ?_
                  have kp715 : mI (sI Mq120 54 25 x712) 64 = mI M 64 := (kp_sI kp120_64 rfl)
                  have kp716 : mI (sI Mq120 54 25 x712) 65 = mI M 65 := (kp_sI kp120_65 rfl)
                  have kp717 : mI (sI Mq120 54 25 x712) 67 = mI M 67 := (kp_sI kp120_67 rfl)
                  have kp718 : mI (sI Mq120 54 25 x712) 68 = mI M 68 := (kp_sI kp120_68 rfl)
                  have kp719 : mI (sI Mq120 54 25 x712) 69 = mI M 69 := (kp_sI kp120_69 rfl)
                  have kp720 : mI (sI Mq120 54 25 x712) 70 = mI M 70 := (kp_sI kp120_70 rfl)
                  have kp721 : mI (sI Mq120 54 25 x712) 71 = mI M 71 := (kp_sI kp120_71 rfl)
                  have kp722 : mI (sI Mq120 54 25 x712) 72 = mI M 72 := (kp_sI kp120_72 rfl)
                  have kp723 : mI (sI Mq120 54 25 x712) 73 = mI M 73 := (kp_sI kp120_73 rfl)
                  have kp724 : mI (sI Mq120 54 25 x712) 74 = mI M 74 := (kp_sI kp120_74 rfl)
                  have kp725 : mI (sI Mq120 54 25 x712) 55 = mI M 55 := (kp_sI kp120_55 rfl)
                  have kp726 : mI (sI Mq120 54 25 x712) 57 = mI M 57 := (kp_sI kp120_57 rfl)
                  have kp727 : mI (sI Mq120 54 25 x712) 58 = mI M 58 := (kp_sI kp120_58 rfl)
                  have kp728 : mI (sI Mq120 54 25 x712) 63 = mI M 63 := (kp_sI kp120_63 rfl)
                  have hB729 : BD M (sI Mq120 54 25 x712) := BD.w54_25 hQ120 (by omega) (by omega)
                  refine vc_iconst dX12_goTurn_223 rfl ?_
                  refine vc_zret dX12_goTurn_224 rfl (by first | decide | omega) (Nat.le_of_ble_eq_true rfl) (Nat.le_of_ble_eq_true rfl) ?_
                  have k730 : mI (sI Mq120 54 25 x712) 54 27 = mI Mq120 54 27 := rfl
                  have k731 : mI (sI Mq120 54 25 x712) 54 32 = mI Mq120 54 32 := rfl
                  exact ⟨_, rfl, hB729, kp725, kp726, kp727, kp728, kp715, kp716, kp717, kp718, kp719, kp720, kp721, kp722, kp723, kp724, by omega, by omega, by omega⟩
                · refine vc_aload_n dX12_goTurn_125 rfl ?_
                  refine vc_cVI dX12_goTurn_126 (sfX12_goOn (M := Mq120) hQ120.1   ) rfl okX12_goOn viX12_goOn lkX12_348 (s_54 hQ120.1.1) cl_12 rfl (Nat.le_of_ble_eq_true rfl) ⟨rfl, rfl⟩ (Nat.le_of_ble_eq_true rfl) (Nat.le_of_ble_eq_true rfl) (Nat.le_of_ble_eq_true rfl) ?_
                  rintro x732 M733 ⟨hB734, kp735, kp736, kp737, kp738, kp739, kp740, kp741, kp742, kp743, kp744, kp745, kp746, kp747, kp748, h749, h750, h751, h752⟩
                  have hB753 : BD M M733 := BD.go hQ120 hB734
                  have kp754 : mI M733 64 = mI M 64 := kp_go kp120_64 kp739
                  have kp755 : mI M733 65 = mI M 65 := kp_go kp120_65 kp740
                  have kp756 : mI M733 67 = mI M 67 := kp_go kp120_67 kp741
                  have kp757 : mI M733 68 = mI M 68 := kp_go kp120_68 kp742
                  have kp758 : mI M733 69 = mI M 69 := kp_go kp120_69 kp743
                  have kp759 : mI M733 70 = mI M 70 := kp_go kp120_70 kp744
                  have kp760 : mI M733 71 = mI M 71 := kp_go kp120_71 kp745
                  have kp761 : mI M733 72 = mI M 72 := kp_go kp120_72 kp746
                  have kp762 : mI M733 73 = mI M 73 := kp_go kp120_73 kp747
                  have kp763 : mI M733 74 = mI M 74 := kp_go kp120_74 kp748
                  have kp764 : mI M733 55 = mI M 55 := kp_go kp120_55 kp735
                  have kp765 : mI M733 57 = mI M 57 := kp_go kp120_57 kp736
                  have kp766 : mI M733 58 = mI M 58 := kp_go kp120_58 kp737
                  have kp767 : mI M733 63 = mI M 63 := kp_go kp120_63 kp738
                  have kz := b54_27 (M := M733) hB753.1
                  refine vc_if_ne dX12_goTurn_129 (fun h768 => ?_) (fun h768 => ?_)
                  · refine vc_iload dX12_goTurn_134 rfl ?_
                    refine vc_if_ne dX12_goTurn_136 (fun h769 => ?_) (fun h769 => by exfalso; omega)
                    refine vc_iload dX12_goTurn_157 rfl ?_
                    refine vc_if_eq dX12_goTurn_159 (fun h770 => by exfalso; omega) (fun h770 => ?_)
                    refine vc_aload_n dX12_goTurn_162 rfl ?_
                    refine vc_aload_n dX12_goTurn_163 rfl ?_
                    refine vc_getI dX12_goTurn_164 flX12_321 (s_54 hB753.1.1) rfl ?_
                    have k771 : 0 ≤ mI M733 54 24 ∧ mI M733 54 24 ≤ 15 := b54_24 (M := M733) hB753.1
                    refine vc_cVI dX12_goTurn_167 (sfX12_sightOf (M := M733) hB753.1  (mI M733 54 24) (by omega) (by omega)) rfl okX12_sightOf viX12_sightOf lkX12_318 (s_54 hB753.1.1) cl_12 rfl (Nat.le_of_ble_eq_true rfl) ⟨rfl, rfl⟩ (Nat.le_of_ble_eq_true rfl) (Nat.le_of_ble_eq_true rfl) (Nat.le_of_ble_eq_true rfl) ?_
                    rintro x772 _ rfl
                    refine vc_iload dX12_goTurn_170 rfl ?_
                    refine vc_icmp_ne dX12_goTurn_172 (fun h773 => ?_) (fun h773 => ?_)
                    · refine vc_iconst dX12_goTurn_179 rfl ?_
                      refine vc_goto dX12_goTurn_180 ?_
                      refine vc_istore dX12_goTurn_195 (by decide) rfl (show _ = [some (aR 54), none, some (aI s), some (aI x1), some (aI x2), some (aI 1), none, some (aI x712), some (aI v8), some (aI 0)] from rfl) ?_
                      refine vc_goto dX12_goTurn_197 ?_
                      exact ih120 M733 v8 0 hB753 kp754 kp755 kp756 kp757 kp758 kp759 kp760 kp761 kp762 kp763 kp764 kp765 kp766 kp767 (by omega) (by omega) (by omega) (by omega) (by omega) (by omega)
                    · refine vc_iconst dX12_goTurn_175 rfl ?_
                      refine vc_goto dX12_goTurn_176 ?_
                      refine vc_istore dX12_goTurn_195 (by decide) rfl (show _ = [some (aR 54), none, some (aI s), some (aI x1), some (aI x2), some (aI 1), none, some (aI x712), some (aI v8), some (aI 1)] from rfl) ?_
                      refine vc_goto dX12_goTurn_197 ?_
                      exact ih120 M733 v8 1 hB753 kp754 kp755 kp756 kp757 kp758 kp759 kp760 kp761 kp762 kp763 kp764 kp765 kp766 kp767 (by omega) (by omega) (by omega) (by omega) (by omega) (by omega)
                  · refine vc_iconst dX12_goTurn_132 rfl ?_
                    refine vc_zret dX12_goTurn_133 rfl (by first | decide | omega) (Nat.le_of_ble_eq_true rfl) (Nat.le_of_ble_eq_true rfl) ?_
                    exact ⟨_, rfl, hB753, kp764, kp765, kp766, kp767, kp754, kp755, kp756, kp757, kp758, kp759, kp760, kp761, kp762, kp763, by omega, by omega, by omega⟩
            refine vc_less [some (aR 54), none, some (aI s), some (aI x1), some (aI x2), some (aI 1), none, some (aI x712), some (aI 0), some (aI 0)] (lessL_keep (lessL_drop (lessL_keep (lessL_keep (lessL_keep (lessL_keep (lessL_drop (lessL_keep (lessL_keep (lessL_keep (lessL_nil))))))))))) ?_
            exact lp120 _ M 0 0 hB0 rfl rfl rfl rfl rfl rfl rfl rfl rfl rfl rfl rfl rfl rfl (by omega) (by omega) (by omega) (by omega) (by omega) (Nat.lt_succ_self _)
      · refine vc_iconst dX12_goTurn_57 rfl ?_
        refine vc_goto dX12_goTurn_58 ?_
        refine vc_iload_n dX12_goTurn_62 rfl ?_
        refine vc_iconst dX12_goTurn_63 rfl ?_
        refine vc_iandM dX12_goTurn_64 2 1 rfl (by decide) rfl ?_
        refine vc_if_ne dX12_goTurn_65 (fun h774 => ?_) (fun h774 => ?_)
        · refine vc_iconst dX12_goTurn_72 rfl ?_
          refine vc_icmp_ne dX12_goTurn_73 (fun h775 => ?_) (fun h775 => by exfalso; omega)
          refine vc_iconst dX12_goTurn_80 rfl ?_
          refine vc_istore dX12_goTurn_81 (by decide) rfl (show _ = [some (aR 54), some (aI t), some (aI s), some (aI x1), some (aI x2), some (aI 1), some (aI 0), none, none, none] from rfl) ?_
          refine vc_iload_n dX12_goTurn_83 rfl ?_
          refine vc_iconst dX12_goTurn_84 rfl ?_
          refine vc_icmp_ne dX12_goTurn_85 (fun h776 => ?_) (fun h776 => by exfalso; omega)
          refine vc_aload_n dX12_goTurn_95 rfl ?_
          refine vc_getI dX12_goTurn_96 flX12_324 (s_54 hB0.1.1) rfl ?_
          have k777 : 0 ≤ mI M 54 25 ∧ mI M 54 25 ≤ 3 := b54_25 (M := M) hB0.1
          refine vc_iload dX12_goTurn_99 rfl ?_
          refine vc_if_eq dX12_goTurn_101 (fun h778 => ?_) (fun h778 => by exfalso; omega)
          refine vc_iconst dX12_goTurn_108 rfl ?_
          refine vc_iaddE dX12_goTurn_109 (by omega) (by omega) ?_
          refine vc_iconst dX12_goTurn_110 rfl ?_
          refine vc_iremE dX12_goTurn_111 (by omega) (by omega) ?_
          refine vc_nameI (fun x779 ex779 => ?_)
          refine vc_istore dX12_goTurn_112 (by decide) rfl (show _ = [some (aR 54), some (aI t), some (aI s), some (aI x1), some (aI x2), some (aI 1), some (aI 0), some (aI x779), none, none] from rfl) ?_
          refine vc_iconst dX12_goTurn_114 rfl ?_
          refine vc_istore dX12_goTurn_115 (by decide) rfl (show _ = [some (aR 54), some (aI t), some (aI s), some (aI x1), some (aI x2), some (aI 1), some (aI 0), some (aI x779), some (aI 0), none] from rfl) ?_
          refine vc_iconst dX12_goTurn_117 rfl ?_
          refine vc_istore dX12_goTurn_118 (by decide) rfl (show _ = [some (aR 54), some (aI t), some (aI s), some (aI x1), some (aI x2), some (aI 1), some (aI 0), some (aI x779), some (aI 0), some (aI 0)] from rfl) ?_
          have lp120 : ∀ (n120 : Nat) (Mq120 : Mem) (v8 : Int) (v9 : Int), (BD M Mq120) → (mI Mq120 64 = mI M 64) → (mI Mq120 65 = mI M 65) → (mI Mq120 67 = mI M 67) → (mI Mq120 68 = mI M 68) → (mI Mq120 69 = mI M 69) → (mI Mq120 70 = mI M 70) → (mI Mq120 71 = mI M 71) → (mI Mq120 72 = mI M 72) → (mI Mq120 73 = mI M 73) → (mI Mq120 74 = mI M 74) → (mI Mq120 55 = mI M 55) → (mI Mq120 57 = mI M 57) → (mI Mq120 58 = mI M 58) → (mI Mq120 63 = mI M 63) → (0 ≤ v9) → (v9 ≤ 1) → (mI Mq120 54 32 = mI M 54 32) → (0 ≤ mI Mq120 54 27) → (mI Mq120 54 27 ≤ 40) → (40 - mI Mq120 54 27).toNat < n120 → VC l mdX12_goTurn 120 [some (aR 54), none, some (aI s), some (aI x1), some (aI x2), some (aI 1), none, some (aI x779), some (aI v8), some (aI v9)] [] Mq120 0 0 (fun q N => ∃ r : Int, q = some (aI r) ∧ BD M N ∧ mI N 55 = mI M 55 ∧ mI N 57 = mI M 57 ∧ mI N 58 = mI M 58 ∧ mI N 63 = mI M 63 ∧ mI N 64 = mI M 64 ∧ mI N 65 = mI M 65 ∧ mI N 67 = mI M 67 ∧ mI N 68 = mI M 68 ∧ mI N 69 = mI M 69 ∧ mI N 70 = mI M 70 ∧ mI N 71 = mI M 71 ∧ mI N 72 = mI M 72 ∧ mI N 73 = mI M 73 ∧ mI N 74 = mI M 74 ∧ 0 ≤ r ∧ r ≤ 1 ∧ mI N 54 32 = mI M 54 32) := by
            intro n120
            induction n120 with
            | zero => intro Mq120 v8 v9 hQ120 kp120_64 kp120_65 kp120_67 kp120_68 kp120_69 kp120_70 kp120_71 kp120_72 kp120_73 kp120_74 kp120_55 kp120_57 kp120_58 kp120_63 g120_9a g120_9b g120i0 g120i1 g120i2 hm120; exact absurd hm120 (Nat.not_lt_zero _)
            | succ n120 ih120 =>
              intro Mq120 v8 v9 hQ120 kp120_64 kp120_65 kp120_67 kp120_68 kp120_69 kp120_70 kp120_71 kp120_72 kp120_73 kp120_74 kp120_55 kp120_57 kp120_58 kp120_63 g120_9a g120_9b g120i0 g120i1 g120i2 hm120
              refine vc_iload dX12_goTurn_120 rfl ?_
              refine vc_if_ne dX12_goTurn_122 (fun h780 => ?_) (fun h780 => ?_)
              · refine vc_iload_n dX12_goTurn_200 rfl ?_
                refine vc_iconst dX12_goTurn_201 rfl ?_
                refine vc_icmp_eq dX12_goTurn_202 (fun h781 => by exfalso; omega) (fun h781 => ?_)
                refine vc_aload_n dX12_goTurn_205 rfl ?_
                refine vc_iload dX12_goTurn_206 rfl ?_
                refine vc_iload_n dX12_goTurn_208 rfl ?_
                refine vc_cVI dX12_goTurn_209 (sfX12_isCounted (M := Mq120) hQ120.1  x779 s (by omega) (by omega)) rfl okX12_isCounted viX12_isCounted lkX12_352 (s_54 hQ120.1.1) cl_12 rfl (Nat.le_of_ble_eq_true rfl) ⟨rfl, rfl⟩ (Nat.le_of_ble_eq_true rfl) (Nat.le_of_ble_eq_true rfl) (Nat.le_of_ble_eq_true rfl) ?_
                rintro x782 _ ⟨rfl, h783, h784⟩
                refine vc_if_ne dX12_goTurn_212 (fun h785 => ?_) (fun h785 => ?_)
                · refine vc_aload_n dX12_goTurn_217 rfl ?_
                  refine vc_iload dX12_goTurn_218 rfl ?_
                  refine vc_putI dX12_goTurn_220 (plX12_324 _ rfl) (s_54 hQ120.1.1) rfl ?_
                  have kp786 : mI (sI Mq120 54 25 x779) 64 = mI M 64 := (kp_sI kp120_64 rfl)
                  have kp787 : mI (sI Mq120 54 25 x779) 65 = mI M 65 := (kp_sI kp120_65 rfl)
                  have kp788 : mI (sI Mq120 54 25 x779) 67 = mI M 67 := (kp_sI kp120_67 rfl)
                  have kp789 : mI (sI Mq120 54 25 x779) 68 = mI M 68 := (kp_sI kp120_68 rfl)
                  have kp790 : mI (sI Mq120 54 25 x779) 69 = mI M 69 := (kp_sI kp120_69 rfl)
                  have kp791 : mI (sI Mq120 54 25 x779) 70 = mI M 70 := (kp_sI kp120_70 rfl)
                  have kp792 : mI (sI Mq120 54 25 x779) 71 = mI M 71 := (kp_sI kp120_71 rfl)
                  have kp793 : mI (sI Mq120 54 25 x779) 72 = mI M 72 := (kp_sI kp120_72 rfl)
                  have kp794 : mI (sI Mq120 54 25 x779) 73 = mI M 73 := (kp_sI kp120_73 rfl)
                  have kp795 : mI (sI Mq120 54 25 x779) 74 = mI M 74 := (kp_sI kp120_74 rfl)
                  have kp796 : mI (sI Mq120 54 25 x779) 55 = mI M 55 := (kp_sI kp120_55 rfl)
                  have kp797 : mI (sI Mq120 54 25 x779) 57 = mI M 57 := (kp_sI kp120_57 rfl)
                  have kp798 : mI (sI Mq120 54 25 x779) 58 = mI M 58 := (kp_sI kp120_58 rfl)
                  have kp799 : mI (sI Mq120 54 25 x779) 63 = mI M 63 := (kp_sI kp120_63 rfl)
                  have hB800 : BD M (sI Mq120 54 25 x779) := BD.w54_25 hQ120 (by omega) (by omega)
                  refine vc_iconst dX12_goTurn_223 rfl ?_
                  refine vc_zret dX12_goTurn_224 rfl (by first | decide | omega) (Nat.le_of_ble_eq_true rfl) (Nat.le_of_ble_eq_true rfl) ?_
                  have k801 : mI (sI Mq120 54 25 x779) 54 27 = mI Mq120 54 27 := rfl
                  have k802 : mI (sI Mq120 54 25 x779) 54 32 = mI Mq120 54 32 := rfl
                  exact ⟨_, rfl, hB800, kp796, kp797, kp798, kp799, kp786, kp787, kp788, kp789, kp790, kp791, kp792, kp793, kp794, kp795, by omega, by omega, by omega⟩
                · refine vc_iconst dX12_goTurn_215 rfl ?_
                  refine vc_zret dX12_goTurn_216 rfl (by first | decide | omega) (Nat.le_of_ble_eq_true rfl) (Nat.le_of_ble_eq_true rfl) ?_
                  exact ⟨_, rfl, hQ120, kp120_55, kp120_57, kp120_58, kp120_63, kp120_64, kp120_65, kp120_67, kp120_68, kp120_69, kp120_70, kp120_71, kp120_72, kp120_73, kp120_74, by omega, by omega, by omega⟩
              · refine vc_aload_n dX12_goTurn_125 rfl ?_
                refine vc_cVI dX12_goTurn_126 (sfX12_goOn (M := Mq120) hQ120.1   ) rfl okX12_goOn viX12_goOn lkX12_348 (s_54 hQ120.1.1) cl_12 rfl (Nat.le_of_ble_eq_true rfl) ⟨rfl, rfl⟩ (Nat.le_of_ble_eq_true rfl) (Nat.le_of_ble_eq_true rfl) (Nat.le_of_ble_eq_true rfl) ?_
                rintro x803 M804 ⟨hB805, kp806, kp807, kp808, kp809, kp810, kp811, kp812, kp813, kp814, kp815, kp816, kp817, kp818, kp819, h820, h821, h822, h823⟩
                have hB824 : BD M M804 := BD.go hQ120 hB805
                have kp825 : mI M804 64 = mI M 64 := kp_go kp120_64 kp810
                have kp826 : mI M804 65 = mI M 65 := kp_go kp120_65 kp811
                have kp827 : mI M804 67 = mI M 67 := kp_go kp120_67 kp812
                have kp828 : mI M804 68 = mI M 68 := kp_go kp120_68 kp813
                have kp829 : mI M804 69 = mI M 69 := kp_go kp120_69 kp814
                have kp830 : mI M804 70 = mI M 70 := kp_go kp120_70 kp815
                have kp831 : mI M804 71 = mI M 71 := kp_go kp120_71 kp816
                have kp832 : mI M804 72 = mI M 72 := kp_go kp120_72 kp817
                have kp833 : mI M804 73 = mI M 73 := kp_go kp120_73 kp818
                have kp834 : mI M804 74 = mI M 74 := kp_go kp120_74 kp819
                have kp835 : mI M804 55 = mI M 55 := kp_go kp120_55 kp806
                have kp836 : mI M804 57 = mI M 57 := kp_go kp120_57 kp807
                have kp837 : mI M804 58 = mI M 58 := kp_go kp120_58 kp808
                have kp838 : mI M804 63 = mI M 63 := kp_go kp120_63 kp809
                have kz := b54_27 (M := M804) hB824.1
                refine vc_if_ne dX12_goTurn_129 (fun h839 => ?_) (fun h839 => ?_)
                · refine vc_iload dX12_goTurn_134 rfl ?_
                  refine vc_if_ne dX12_goTurn_136 (fun h840 => ?_) (fun h840 => by exfalso; omega)
                  refine vc_iload dX12_goTurn_157 rfl ?_
                  refine vc_if_eq dX12_goTurn_159 (fun h841 => by exfalso; omega) (fun h841 => ?_)
                  refine vc_aload_n dX12_goTurn_162 rfl ?_
                  refine vc_aload_n dX12_goTurn_163 rfl ?_
                  refine vc_getI dX12_goTurn_164 flX12_321 (s_54 hB824.1.1) rfl ?_
                  have k842 : 0 ≤ mI M804 54 24 ∧ mI M804 54 24 ≤ 15 := b54_24 (M := M804) hB824.1
                  refine vc_cVI dX12_goTurn_167 (sfX12_sightOf (M := M804) hB824.1  (mI M804 54 24) (by omega) (by omega)) rfl okX12_sightOf viX12_sightOf lkX12_318 (s_54 hB824.1.1) cl_12 rfl (Nat.le_of_ble_eq_true rfl) ⟨rfl, rfl⟩ (Nat.le_of_ble_eq_true rfl) (Nat.le_of_ble_eq_true rfl) (Nat.le_of_ble_eq_true rfl) ?_
                  rintro x843 _ rfl
                  refine vc_iload dX12_goTurn_170 rfl ?_
                  refine vc_icmp_ne dX12_goTurn_172 (fun h844 => ?_) (fun h844 => ?_)
                  · refine vc_iconst dX12_goTurn_179 rfl ?_
                    refine vc_goto dX12_goTurn_180 ?_
                    refine vc_istore dX12_goTurn_195 (by decide) rfl (show _ = [some (aR 54), none, some (aI s), some (aI x1), some (aI x2), some (aI 1), none, some (aI x779), some (aI v8), some (aI 0)] from rfl) ?_
                    refine vc_goto dX12_goTurn_197 ?_
                    exact ih120 M804 v8 0 hB824 kp825 kp826 kp827 kp828 kp829 kp830 kp831 kp832 kp833 kp834 kp835 kp836 kp837 kp838 (by omega) (by omega) (by omega) (by omega) (by omega) (by omega)
                  · refine vc_iconst dX12_goTurn_175 rfl ?_
                    refine vc_goto dX12_goTurn_176 ?_
                    refine vc_istore dX12_goTurn_195 (by decide) rfl (show _ = [some (aR 54), none, some (aI s), some (aI x1), some (aI x2), some (aI 1), none, some (aI x779), some (aI v8), some (aI 1)] from rfl) ?_
                    refine vc_goto dX12_goTurn_197 ?_
                    exact ih120 M804 v8 1 hB824 kp825 kp826 kp827 kp828 kp829 kp830 kp831 kp832 kp833 kp834 kp835 kp836 kp837 kp838 (by omega) (by omega) (by omega) (by omega) (by omega) (by omega)
                · refine vc_iconst dX12_goTurn_132 rfl ?_
                  refine vc_zret dX12_goTurn_133 rfl (by first | decide | omega) (Nat.le_of_ble_eq_true rfl) (Nat.le_of_ble_eq_true rfl) ?_
                  exact ⟨_, rfl, hB824, kp835, kp836, kp837, kp838, kp825, kp826, kp827, kp828, kp829, kp830, kp831, kp832, kp833, kp834, by omega, by omega, by omega⟩
          refine vc_less [some (aR 54), none, some (aI s), some (aI x1), some (aI x2), some (aI 1), none, some (aI x779), some (aI 0), some (aI 0)] (lessL_keep (lessL_drop (lessL_keep (lessL_keep (lessL_keep (lessL_keep (lessL_drop (lessL_keep (lessL_keep (lessL_keep (lessL_nil))))))))))) ?_
          exact lp120 _ M 0 0 hB0 rfl rfl rfl rfl rfl rfl rfl rfl rfl rfl rfl rfl rfl rfl (by omega) (by omega) (by omega) (by omega) (by omega) (Nat.lt_succ_self _)
        · refine vc_iconst dX12_goTurn_68 rfl ?_
          refine vc_goto dX12_goTurn_69 ?_
          refine vc_icmp_ne dX12_goTurn_73 (fun h845 => by exfalso; omega) (fun h845 => ?_)
          refine vc_iconst dX12_goTurn_76 rfl ?_
          refine vc_goto dX12_goTurn_77 ?_
          refine vc_istore dX12_goTurn_81 (by decide) rfl (show _ = [some (aR 54), some (aI t), some (aI s), some (aI x1), some (aI x2), some (aI 1), some (aI 1), none, none, none] from rfl) ?_
          refine vc_iload_n dX12_goTurn_83 rfl ?_
          refine vc_iconst dX12_goTurn_84 rfl ?_
          refine vc_icmp_ne dX12_goTurn_85 (fun h846 => ?_) (fun h846 => by exfalso; omega)
          refine vc_aload_n dX12_goTurn_95 rfl ?_
          refine vc_getI dX12_goTurn_96 flX12_324 (s_54 hB0.1.1) rfl ?_
          have k847 : 0 ≤ mI M 54 25 ∧ mI M 54 25 ≤ 3 := b54_25 (M := M) hB0.1
          refine vc_iload dX12_goTurn_99 rfl ?_
          refine vc_if_eq dX12_goTurn_101 (fun h848 => by exfalso; omega) (fun h848 => ?_)
          refine vc_iconst dX12_goTurn_104 rfl ?_
          refine vc_goto dX12_goTurn_105 ?_
          refine vc_iaddE dX12_goTurn_109 (by omega) (by omega) ?_
          refine vc_iconst dX12_goTurn_110 rfl ?_
          refine vc_iremE dX12_goTurn_111 (by omega) (by omega) ?_
          refine vc_nameI (fun x849 ex849 => ?_)
          refine vc_istore dX12_goTurn_112 (by decide) rfl (show _ = [some (aR 54), some (aI t), some (aI s), some (aI x1), some (aI x2), some (aI 1), some (aI 1), some (aI x849), none, none] from rfl) ?_
          refine vc_iconst dX12_goTurn_114 rfl ?_
          refine vc_istore dX12_goTurn_115 (by decide) rfl (show _ = [some (aR 54), some (aI t), some (aI s), some (aI x1), some (aI x2), some (aI 1), some (aI 1), some (aI x849), some (aI 0), none] from rfl) ?_
          refine vc_iconst dX12_goTurn_117 rfl ?_
          refine vc_istore dX12_goTurn_118 (by decide) rfl (show _ = [some (aR 54), some (aI t), some (aI s), some (aI x1), some (aI x2), some (aI 1), some (aI 1), some (aI x849), some (aI 0), some (aI 0)] from rfl) ?_
          have lp120 : ∀ (n120 : Nat) (Mq120 : Mem) (v8 : Int) (v9 : Int), (BD M Mq120) → (mI Mq120 64 = mI M 64) → (mI Mq120 65 = mI M 65) → (mI Mq120 67 = mI M 67) → (mI Mq120 68 = mI M 68) → (mI Mq120 69 = mI M 69) → (mI Mq120 70 = mI M 70) → (mI Mq120 71 = mI M 71) → (mI Mq120 72 = mI M 72) → (mI Mq120 73 = mI M 73) → (mI Mq120 74 = mI M 74) → (mI Mq120 55 = mI M 55) → (mI Mq120 57 = mI M 57) → (mI Mq120 58 = mI M 58) → (mI Mq120 63 = mI M 63) → (0 ≤ v9) → (v9 ≤ 1) → (mI Mq120 54 32 = mI M 54 32) → (0 ≤ mI Mq120 54 27) → (mI Mq120 54 27 ≤ 40) → (40 - mI Mq120 54 27).toNat < n120 → VC l mdX12_goTurn 120 [some (aR 54), none, some (aI s), some (aI x1), some (aI x2), some (aI 1), none, some (aI x849), some (aI v8), some (aI v9)] [] Mq120 0 0 (fun q N => ∃ r : Int, q = some (aI r) ∧ BD M N ∧ mI N 55 = mI M 55 ∧ mI N 57 = mI M 57 ∧ mI N 58 = mI M 58 ∧ mI N 63 = mI M 63 ∧ mI N 64 = mI M 64 ∧ mI N 65 = mI M 65 ∧ mI N 67 = mI M 67 ∧ mI N 68 = mI M 68 ∧ mI N 69 = mI M 69 ∧ mI N 70 = mI M 70 ∧ mI N 71 = mI M 71 ∧ mI N 72 = mI M 72 ∧ mI N 73 = mI M 73 ∧ mI N 74 = mI M 74 ∧ 0 ≤ r ∧ r ≤ 1 ∧ mI N 54 32 = mI M 54 32) := by
            intro n120
            induction n120 with
            | zero => intro Mq120 v8 v9 hQ120 kp120_64 kp120_65 kp120_67 kp120_68 kp120_69 kp120_70 kp120_71 kp120_72 kp120_73 kp120_74 kp120_55 kp120_57 kp120_58 kp120_63 g120_9a g120_9b g120i0 g120i1 g120i2 hm120; exact absurd hm120 (Nat.not_lt_zero _)
            | succ n120 ih120 =>
              intro Mq120 v8 v9 hQ120 kp120_64 kp120_65 kp120_67 kp120_68 kp120_69 kp120_70 kp120_71 kp120_72 kp120_73 kp120_74 kp120_55 kp120_57 kp120_58 kp120_63 g120_9a g120_9b g120i0 g120i1 g120i2 hm120
              refine vc_iload dX12_goTurn_120 rfl ?_
              refine vc_if_ne dX12_goTurn_122 (fun h850 => ?_) (fun h850 => ?_)
              · refine vc_iload_n dX12_goTurn_200 rfl ?_
                refine vc_iconst dX12_goTurn_201 rfl ?_
                refine vc_icmp_eq dX12_goTurn_202 (fun h851 => by exfalso; omega) (fun h851 => ?_)
                refine vc_aload_n dX12_goTurn_205 rfl ?_
                refine vc_iload dX12_goTurn_206 rfl ?_
                refine vc_iload_n dX12_goTurn_208 rfl ?_
                refine vc_cVI dX12_goTurn_209 (sfX12_isCounted (M := Mq120) hQ120.1  x849 s (by omega) (by omega)) rfl okX12_isCounted viX12_isCounted lkX12_352 (s_54 hQ120.1.1) cl_12 rfl (Nat.le_of_ble_eq_true rfl) ⟨rfl, rfl⟩ (Nat.le_of_ble_eq_true rfl) (Nat.le_of_ble_eq_true rfl) (Nat.le_of_ble_eq_true rfl) ?_
                rintro x852 _ ⟨rfl, h853, h854⟩
                refine vc_if_ne dX12_goTurn_212 (fun h855 => ?_) (fun h855 => ?_)
                · refine vc_aload_n dX12_goTurn_217 rfl ?_
                  refine vc_iload dX12_goTurn_218 rfl ?_
                  refine vc_putI dX12_goTurn_220 (plX12_324 _ rfl) (s_54 hQ120.1.1) rfl ?_
                  have kp856 : mI (sI Mq120 54 25 x849) 64 = mI M 64 := (kp_sI kp120_64 rfl)
                  have kp857 : mI (sI Mq120 54 25 x849) 65 = mI M 65 := (kp_sI kp120_65 rfl)
                  have kp858 : mI (sI Mq120 54 25 x849) 67 = mI M 67 := (kp_sI kp120_67 rfl)
                  have kp859 : mI (sI Mq120 54 25 x849) 68 = mI M 68 := (kp_sI kp120_68 rfl)
                  have kp860 : mI (sI Mq120 54 25 x849) 69 = mI M 69 := (kp_sI kp120_69 rfl)
                  have kp861 : mI (sI Mq120 54 25 x849) 70 = mI M 70 := (kp_sI kp120_70 rfl)
                  have kp862 : mI (sI Mq120 54 25 x849) 71 = mI M 71 := (kp_sI kp120_71 rfl)
                  have kp863 : mI (sI Mq120 54 25 x849) 72 = mI M 72 := (kp_sI kp120_72 rfl)
                  have kp864 : mI (sI Mq120 54 25 x849) 73 = mI M 73 := (kp_sI kp120_73 rfl)
                  have kp865 : mI (sI Mq120 54 25 x849) 74 = mI M 74 := (kp_sI kp120_74 rfl)
                  have kp866 : mI (sI Mq120 54 25 x849) 55 = mI M 55 := (kp_sI kp120_55 rfl)
                  have kp867 : mI (sI Mq120 54 25 x849) 57 = mI M 57 := (kp_sI kp120_57 rfl)
                  have kp868 : mI (sI Mq120 54 25 x849) 58 = mI M 58 := (kp_sI kp120_58 rfl)
                  have kp869 : mI (sI Mq120 54 25 x849) 63 = mI M 63 := (kp_sI kp120_63 rfl)
                  have hB870 : BD M (sI Mq120 54 25 x849) := BD.w54_25 hQ120 (by omega) (by omega)
                  refine vc_iconst dX12_goTurn_223 rfl ?_
                  refine vc_zret dX12_goTurn_224 rfl (by first | decide | omega) (Nat.le_of_ble_eq_true rfl) (Nat.le_of_ble_eq_true rfl) ?_
                  have k871 : mI (sI Mq120 54 25 x849) 54 27 = mI Mq120 54 27 := rfl
                  have k872 : mI (sI Mq120 54 25 x849) 54 32 = mI Mq120 54 32 := rfl
                  exact ⟨_, rfl, hB870, kp866, kp867, kp868, kp869, kp856, kp857, kp858, kp859, kp860, kp861, kp862, kp863, kp864, kp865, by omega, by omega, by omega⟩
                · refine vc_iconst dX12_goTurn_215 rfl ?_
                  refine vc_zret dX12_goTurn_216 rfl (by first | decide | omega) (Nat.le_of_ble_eq_true rfl) (Nat.le_of_ble_eq_true rfl) ?_
                  exact ⟨_, rfl, hQ120, kp120_55, kp120_57, kp120_58, kp120_63, kp120_64, kp120_65, kp120_67, kp120_68, kp120_69, kp120_70, kp120_71, kp120_72, kp120_73, kp120_74, by omega, by omega, by omega⟩
              · refine vc_aload_n dX12_goTurn_125 rfl ?_
                refine vc_cVI dX12_goTurn_126 (sfX12_goOn (M := Mq120) hQ120.1   ) rfl okX12_goOn viX12_goOn lkX12_348 (s_54 hQ120.1.1) cl_12 rfl (Nat.le_of_ble_eq_true rfl) ⟨rfl, rfl⟩ (Nat.le_of_ble_eq_true rfl) (Nat.le_of_ble_eq_true rfl) (Nat.le_of_ble_eq_true rfl) ?_
                rintro x873 M874 ⟨hB875, kp876, kp877, kp878, kp879, kp880, kp881, kp882, kp883, kp884, kp885, kp886, kp887, kp888, kp889, h890, h891, h892, h893⟩
                have hB894 : BD M M874 := BD.go hQ120 hB875
                have kp895 : mI M874 64 = mI M 64 := kp_go kp120_64 kp880
                have kp896 : mI M874 65 = mI M 65 := kp_go kp120_65 kp881
                have kp897 : mI M874 67 = mI M 67 := kp_go kp120_67 kp882
                have kp898 : mI M874 68 = mI M 68 := kp_go kp120_68 kp883
                have kp899 : mI M874 69 = mI M 69 := kp_go kp120_69 kp884
                have kp900 : mI M874 70 = mI M 70 := kp_go kp120_70 kp885
                have kp901 : mI M874 71 = mI M 71 := kp_go kp120_71 kp886
                have kp902 : mI M874 72 = mI M 72 := kp_go kp120_72 kp887
                have kp903 : mI M874 73 = mI M 73 := kp_go kp120_73 kp888
                have kp904 : mI M874 74 = mI M 74 := kp_go kp120_74 kp889
                have kp905 : mI M874 55 = mI M 55 := kp_go kp120_55 kp876
                have kp906 : mI M874 57 = mI M 57 := kp_go kp120_57 kp877
                have kp907 : mI M874 58 = mI M 58 := kp_go kp120_58 kp878
                have kp908 : mI M874 63 = mI M 63 := kp_go kp120_63 kp879
                have kz := b54_27 (M := M874) hB894.1
                refine vc_if_ne dX12_goTurn_129 (fun h909 => ?_) (fun h909 => ?_)
                · refine vc_iload dX12_goTurn_134 rfl ?_
                  refine vc_if_ne dX12_goTurn_136 (fun h910 => ?_) (fun h910 => by exfalso; omega)
                  refine vc_iload dX12_goTurn_157 rfl ?_
                  refine vc_if_eq dX12_goTurn_159 (fun h911 => by exfalso; omega) (fun h911 => ?_)
                  refine vc_aload_n dX12_goTurn_162 rfl ?_
                  refine vc_aload_n dX12_goTurn_163 rfl ?_
                  refine vc_getI dX12_goTurn_164 flX12_321 (s_54 hB894.1.1) rfl ?_
                  have k912 : 0 ≤ mI M874 54 24 ∧ mI M874 54 24 ≤ 15 := b54_24 (M := M874) hB894.1
                  refine vc_cVI dX12_goTurn_167 (sfX12_sightOf (M := M874) hB894.1  (mI M874 54 24) (by omega) (by omega)) rfl okX12_sightOf viX12_sightOf lkX12_318 (s_54 hB894.1.1) cl_12 rfl (Nat.le_of_ble_eq_true rfl) ⟨rfl, rfl⟩ (Nat.le_of_ble_eq_true rfl) (Nat.le_of_ble_eq_true rfl) (Nat.le_of_ble_eq_true rfl) ?_
                  rintro x913 _ rfl
                  refine vc_iload dX12_goTurn_170 rfl ?_
                  refine vc_icmp_ne dX12_goTurn_172 (fun h914 => ?_) (fun h914 => ?_)
                  · refine vc_iconst dX12_goTurn_179 rfl ?_
                    refine vc_goto dX12_goTurn_180 ?_
                    refine vc_istore dX12_goTurn_195 (by decide) rfl (show _ = [some (aR 54), none, some (aI s), some (aI x1), some (aI x2), some (aI 1), none, some (aI x849), some (aI v8), some (aI 0)] from rfl) ?_
                    refine vc_goto dX12_goTurn_197 ?_
                    exact ih120 M874 v8 0 hB894 kp895 kp896 kp897 kp898 kp899 kp900 kp901 kp902 kp903 kp904 kp905 kp906 kp907 kp908 (by omega) (by omega) (by omega) (by omega) (by omega) (by omega)
                  · refine vc_iconst dX12_goTurn_175 rfl ?_
                    refine vc_goto dX12_goTurn_176 ?_
                    refine vc_istore dX12_goTurn_195 (by decide) rfl (show _ = [some (aR 54), none, some (aI s), some (aI x1), some (aI x2), some (aI 1), none, some (aI x849), some (aI v8), some (aI 1)] from rfl) ?_
                    refine vc_goto dX12_goTurn_197 ?_
                    exact ih120 M874 v8 1 hB894 kp895 kp896 kp897 kp898 kp899 kp900 kp901 kp902 kp903 kp904 kp905 kp906 kp907 kp908 (by omega) (by omega) (by omega) (by omega) (by omega) (by omega)
                · refine vc_iconst dX12_goTurn_132 rfl ?_
                  refine vc_zret dX12_goTurn_133 rfl (by first | decide | omega) (Nat.le_of_ble_eq_true rfl) (Nat.le_of_ble_eq_true rfl) ?_
                  exact ⟨_, rfl, hB894, kp905, kp906, kp907, kp908, kp895, kp896, kp897, kp898, kp899, kp900, kp901, kp902, kp903, kp904, by omega, by omega, by omega⟩
          refine vc_less [some (aR 54), none, some (aI s), some (aI x1), some (aI x2), some (aI 1), none, some (aI x849), some (aI 0), some (aI 0)] (lessL_keep (lessL_drop (lessL_keep (lessL_keep (lessL_keep (lessL_keep (lessL_drop (lessL_keep (lessL_keep (lessL_keep (lessL_nil))))))))))) ?_
          exact lp120 _ M 0 0 hB0 rfl rfl rfl rfl rfl rfl rfl rfl rfl rfl rfl rfl rfl rfl (by omega) (by omega) (by omega) (by omega) (by omega) (Nat.lt_succ_self _)
    · refine vc_iload dX12_goTurn_40 rfl ?_
      refine vc_iconst dX12_goTurn_42 rfl ?_
      refine vc_icmp_ge dX12_goTurn_43 (fun h915 => ?_) (fun h915 => ?_)
      · refine vc_iload_n dX12_goTurn_52 rfl ?_
        refine vc_iconst dX12_goTurn_53 rfl ?_
        refine vc_icmp_ne dX12_goTurn_54 (fun h916 => ?_) (fun h916 => ?_)
        · refine vc_iconst dX12_goTurn_61 rfl ?_
          refine vc_iload_n dX12_goTurn_62 rfl ?_
          refine vc_iconst dX12_goTurn_63 rfl ?_
          refine vc_iandM dX12_goTurn_64 2 1 rfl (by decide) rfl ?_
          refine vc_if_ne dX12_goTurn_65 (fun h917 => ?_) (fun h917 => ?_)
          · refine vc_iconst dX12_goTurn_72 rfl ?_
            refine vc_icmp_ne dX12_goTurn_73 (fun h918 => by exfalso; omega) (fun h918 => ?_)
            refine vc_iconst dX12_goTurn_76 rfl ?_
            refine vc_goto dX12_goTurn_77 ?_
            refine vc_istore dX12_goTurn_81 (by decide) rfl (show _ = [some (aR 54), some (aI t), some (aI s), some (aI x1), some (aI x2), some (aI 1), some (aI 1), none, none, none] from rfl) ?_
            refine vc_iload_n dX12_goTurn_83 rfl ?_
            refine vc_iconst dX12_goTurn_84 rfl ?_
            refine vc_icmp_ne dX12_goTurn_85 (fun h919 => ?_) (fun h919 => ?_)
            · refine vc_aload_n dX12_goTurn_95 rfl ?_
              refine vc_getI dX12_goTurn_96 flX12_324 (s_54 hB0.1.1) rfl ?_
              have k920 : 0 ≤ mI M 54 25 ∧ mI M 54 25 ≤ 3 := b54_25 (M := M) hB0.1
              refine vc_iload dX12_goTurn_99 rfl ?_
              refine vc_if_eq dX12_goTurn_101 (fun h921 => by exfalso; omega) (fun h921 => ?_)
              refine vc_iconst dX12_goTurn_104 rfl ?_
              refine vc_goto dX12_goTurn_105 ?_
              refine vc_iaddE dX12_goTurn_109 (by omega) (by omega) ?_
              refine vc_iconst dX12_goTurn_110 rfl ?_
              refine vc_iremE dX12_goTurn_111 (by omega) (by omega) ?_
              refine vc_nameI (fun x922 ex922 => ?_)
              refine vc_istore dX12_goTurn_112 (by decide) rfl (show _ = [some (aR 54), some (aI t), some (aI s), some (aI x1), some (aI x2), some (aI 1), some (aI 1), some (aI x922), none, none] from rfl) ?_
              refine vc_iconst dX12_goTurn_114 rfl ?_
              refine vc_istore dX12_goTurn_115 (by decide) rfl (show _ = [some (aR 54), some (aI t), some (aI s), some (aI x1), some (aI x2), some (aI 1), some (aI 1), some (aI x922), some (aI 0), none] from rfl) ?_
              refine vc_iconst dX12_goTurn_117 rfl ?_
              refine vc_istore dX12_goTurn_118 (by decide) rfl (show _ = [some (aR 54), some (aI t), some (aI s), some (aI x1), some (aI x2), some (aI 1), some (aI 1), some (aI x922), some (aI 0), some (aI 0)] from rfl) ?_
              have lp120 : ∀ (n120 : Nat) (Mq120 : Mem) (v8 : Int) (v9 : Int), (BD M Mq120) → (mI Mq120 64 = mI M 64) → (mI Mq120 65 = mI M 65) → (mI Mq120 67 = mI M 67) → (mI Mq120 68 = mI M 68) → (mI Mq120 69 = mI M 69) → (mI Mq120 70 = mI M 70) → (mI Mq120 71 = mI M 71) → (mI Mq120 72 = mI M 72) → (mI Mq120 73 = mI M 73) → (mI Mq120 74 = mI M 74) → (mI Mq120 55 = mI M 55) → (mI Mq120 57 = mI M 57) → (mI Mq120 58 = mI M 58) → (mI Mq120 63 = mI M 63) → (0 ≤ v9) → (v9 ≤ 1) → (mI Mq120 54 32 = mI M 54 32) → (0 ≤ mI Mq120 54 27) → (mI Mq120 54 27 ≤ 40) → (40 - mI Mq120 54 27).toNat < n120 → VC l mdX12_goTurn 120 [some (aR 54), none, some (aI s), some (aI x1), some (aI x2), some (aI 1), none, some (aI x922), some (aI v8), some (aI v9)] [] Mq120 0 0 (fun q N => ∃ r : Int, q = some (aI r) ∧ BD M N ∧ mI N 55 = mI M 55 ∧ mI N 57 = mI M 57 ∧ mI N 58 = mI M 58 ∧ mI N 63 = mI M 63 ∧ mI N 64 = mI M 64 ∧ mI N 65 = mI M 65 ∧ mI N 67 = mI M 67 ∧ mI N 68 = mI M 68 ∧ mI N 69 = mI M 69 ∧ mI N 70 = mI M 70 ∧ mI N 71 = mI M 71 ∧ mI N 72 = mI M 72 ∧ mI N 73 = mI M 73 ∧ mI N 74 = mI M 74 ∧ 0 ≤ r ∧ r ≤ 1 ∧ mI N 54 32 = mI M 54 32) := by
                intro n120
                induction n120 with
                | zero => intro Mq120 v8 v9 hQ120 kp120_64 kp120_65 kp120_67 kp120_68 kp120_69 kp120_70 kp120_71 kp120_72 kp120_73 kp120_74 kp120_55 kp120_57 kp120_58 kp120_63 g120_9a g120_9b g120i0 g120i1 g120i2 hm120; exact absurd hm120 (Nat.not_lt_zero _)
                | succ n120 ih120 =>
                  intro Mq120 v8 v9 hQ120 kp120_64 kp120_65 kp120_67 kp120_68 kp120_69 kp120_70 kp120_71 kp120_72 kp120_73 kp120_74 kp120_55 kp120_57 kp120_58 kp120_63 g120_9a g120_9b g120i0 g120i1 g120i2 hm120
                  refine vc_iload dX12_goTurn_120 rfl ?_
                  refine vc_if_ne dX12_goTurn_122 (fun h923 => ?_) (fun h923 => ?_)
                  · refine vc_iload_n dX12_goTurn_200 rfl ?_
                    refine vc_iconst dX12_goTurn_201 rfl ?_
                    refine vc_icmp_eq dX12_goTurn_202 (fun h924 => ?_) (fun h924 => ?_)
                    · refine vc_aload_n dX12_goTurn_217 rfl ?_
                      refine vc_iload dX12_goTurn_218 rfl ?_
                      refine vc_putI dX12_goTurn_220 (plX12_324 _ rfl) (s_54 hQ120.1.1) rfl ?_
                      have kp925 : mI (sI Mq120 54 25 x922) 64 = mI M 64 := (kp_sI kp120_64 rfl)
                      have kp926 : mI (sI Mq120 54 25 x922) 65 = mI M 65 := (kp_sI kp120_65 rfl)
                      have kp927 : mI (sI Mq120 54 25 x922) 67 = mI M 67 := (kp_sI kp120_67 rfl)
                      have kp928 : mI (sI Mq120 54 25 x922) 68 = mI M 68 := (kp_sI kp120_68 rfl)
                      have kp929 : mI (sI Mq120 54 25 x922) 69 = mI M 69 := (kp_sI kp120_69 rfl)
                      have kp930 : mI (sI Mq120 54 25 x922) 70 = mI M 70 := (kp_sI kp120_70 rfl)
                      have kp931 : mI (sI Mq120 54 25 x922) 71 = mI M 71 := (kp_sI kp120_71 rfl)
                      have kp932 : mI (sI Mq120 54 25 x922) 72 = mI M 72 := (kp_sI kp120_72 rfl)
                      have kp933 : mI (sI Mq120 54 25 x922) 73 = mI M 73 := (kp_sI kp120_73 rfl)
                      have kp934 : mI (sI Mq120 54 25 x922) 74 = mI M 74 := (kp_sI kp120_74 rfl)
                      have kp935 : mI (sI Mq120 54 25 x922) 55 = mI M 55 := (kp_sI kp120_55 rfl)
                      have kp936 : mI (sI Mq120 54 25 x922) 57 = mI M 57 := (kp_sI kp120_57 rfl)
                      have kp937 : mI (sI Mq120 54 25 x922) 58 = mI M 58 := (kp_sI kp120_58 rfl)
                      have kp938 : mI (sI Mq120 54 25 x922) 63 = mI M 63 := (kp_sI kp120_63 rfl)
                      have hB939 : BD M (sI Mq120 54 25 x922) := BD.w54_25 hQ120 (by omega) (by omega)
                      refine vc_iconst dX12_goTurn_223 rfl ?_
                      refine vc_zret dX12_goTurn_224 rfl (by first | decide | omega) (Nat.le_of_ble_eq_true rfl) (Nat.le_of_ble_eq_true rfl) ?_
                      have k940 : mI (sI Mq120 54 25 x922) 54 27 = mI Mq120 54 27 := rfl
                      have k941 : mI (sI Mq120 54 25 x922) 54 32 = mI Mq120 54 32 := rfl
                      exact ⟨_, rfl, hB939, kp935, kp936, kp937, kp938, kp925, kp926, kp927, kp928, kp929, kp930, kp931, kp932, kp933, kp934, by omega, by omega, by omega⟩
                    · refine vc_aload_n dX12_goTurn_205 rfl ?_
                      refine vc_iload dX12_goTurn_206 rfl ?_
                      refine vc_iload_n dX12_goTurn_208 rfl ?_
                      refine vc_cVI dX12_goTurn_209 (sfX12_isCounted (M := Mq120) hQ120.1  x922 s (by omega) (by omega)) rfl okX12_isCounted viX12_isCounted lkX12_352 (s_54 hQ120.1.1) cl_12 rfl (Nat.le_of_ble_eq_true rfl) ⟨rfl, rfl⟩ (Nat.le_of_ble_eq_true rfl) (Nat.le_of_ble_eq_true rfl) (Nat.le_of_ble_eq_true rfl) ?_
                      rintro x942 _ ⟨rfl, h943, h944⟩
                      refine vc_if_ne dX12_goTurn_212 (fun h945 => ?_) (fun h945 => ?_)
                      · refine vc_aload_n dX12_goTurn_217 rfl ?_
                        refine vc_iload dX12_goTurn_218 rfl ?_
                        refine vc_putI dX12_goTurn_220 (plX12_324 _ rfl) (s_54 hQ120.1.1) rfl ?_
                        have kp946 : mI (sI Mq120 54 25 x922) 64 = mI M 64 := (kp_sI kp120_64 rfl)
                        have kp947 : mI (sI Mq120 54 25 x922) 65 = mI M 65 := (kp_sI kp120_65 rfl)
                        have kp948 : mI (sI Mq120 54 25 x922) 67 = mI M 67 := (kp_sI kp120_67 rfl)
                        have kp949 : mI (sI Mq120 54 25 x922) 68 = mI M 68 := (kp_sI kp120_68 rfl)
                        have kp950 : mI (sI Mq120 54 25 x922) 69 = mI M 69 := (kp_sI kp120_69 rfl)
                        have kp951 : mI (sI Mq120 54 25 x922) 70 = mI M 70 := (kp_sI kp120_70 rfl)
                        have kp952 : mI (sI Mq120 54 25 x922) 71 = mI M 71 := (kp_sI kp120_71 rfl)
                        have kp953 : mI (sI Mq120 54 25 x922) 72 = mI M 72 := (kp_sI kp120_72 rfl)
                        have kp954 : mI (sI Mq120 54 25 x922) 73 = mI M 73 := (kp_sI kp120_73 rfl)
                        have kp955 : mI (sI Mq120 54 25 x922) 74 = mI M 74 := (kp_sI kp120_74 rfl)
                        have kp956 : mI (sI Mq120 54 25 x922) 55 = mI M 55 := (kp_sI kp120_55 rfl)
                        have kp957 : mI (sI Mq120 54 25 x922) 57 = mI M 57 := (kp_sI kp120_57 rfl)
                        have kp958 : mI (sI Mq120 54 25 x922) 58 = mI M 58 := (kp_sI kp120_58 rfl)
                        have kp959 : mI (sI Mq120 54 25 x922) 63 = mI M 63 := (kp_sI kp120_63 rfl)
                        have hB960 : BD M (sI Mq120 54 25 x922) := BD.w54_25 hQ120 (by omega) (by omega)
                        refine vc_iconst dX12_goTurn_223 rfl ?_
                        refine vc_zret dX12_goTurn_224 rfl (by first | decide | omega) (Nat.le_of_ble_eq_true rfl) (Nat.le_of_ble_eq_true rfl) ?_
                        have k961 : mI (sI Mq120 54 25 x922) 54 27 = mI Mq120 54 27 := rfl
                        have k962 : mI (sI Mq120 54 25 x922) 54 32 = mI Mq120 54 32 := rfl
                        exact ⟨_, rfl, hB960, kp956, kp957, kp958, kp959, kp946, kp947, kp948, kp949, kp950, kp951, kp952, kp953, kp954, kp955, by omega, by omega, by omega⟩
                      · refine vc_iconst dX12_goTurn_215 rfl ?_
                        refine vc_zret dX12_goTurn_216 rfl (by first | decide | omega) (Nat.le_of_ble_eq_true rfl) (Nat.le_of_ble_eq_true rfl) ?_
                        exact ⟨_, rfl, hQ120, kp120_55, kp120_57, kp120_58, kp120_63, kp120_64, kp120_65, kp120_67, kp120_68, kp120_69, kp120_70, kp120_71, kp120_72, kp120_73, kp120_74, by omega, by omega, by omega⟩
                  · refine vc_aload_n dX12_goTurn_125 rfl ?_
                    refine vc_cVI dX12_goTurn_126 (sfX12_goOn (M := Mq120) hQ120.1   ) rfl okX12_goOn viX12_goOn lkX12_348 (s_54 hQ120.1.1) cl_12 rfl (Nat.le_of_ble_eq_true rfl) ⟨rfl, rfl⟩ (Nat.le_of_ble_eq_true rfl) (Nat.le_of_ble_eq_true rfl) (Nat.le_of_ble_eq_true rfl) ?_
                    rintro x963 M964 ⟨hB965, kp966, kp967, kp968, kp969, kp970, kp971, kp972, kp973, kp974, kp975, kp976, kp977, kp978, kp979, h980, h981, h982, h983⟩
                    have hB984 : BD M M964 := BD.go hQ120 hB965
                    have kp985 : mI M964 64 = mI M 64 := kp_go kp120_64 kp970
                    have kp986 : mI M964 65 = mI M 65 := kp_go kp120_65 kp971
                    have kp987 : mI M964 67 = mI M 67 := kp_go kp120_67 kp972
                    have kp988 : mI M964 68 = mI M 68 := kp_go kp120_68 kp973
                    have kp989 : mI M964 69 = mI M 69 := kp_go kp120_69 kp974
                    have kp990 : mI M964 70 = mI M 70 := kp_go kp120_70 kp975
                    have kp991 : mI M964 71 = mI M 71 := kp_go kp120_71 kp976
                    have kp992 : mI M964 72 = mI M 72 := kp_go kp120_72 kp977
                    have kp993 : mI M964 73 = mI M 73 := kp_go kp120_73 kp978
                    have kp994 : mI M964 74 = mI M 74 := kp_go kp120_74 kp979
                    have kp995 : mI M964 55 = mI M 55 := kp_go kp120_55 kp966
                    have kp996 : mI M964 57 = mI M 57 := kp_go kp120_57 kp967
                    have kp997 : mI M964 58 = mI M 58 := kp_go kp120_58 kp968
                    have kp998 : mI M964 63 = mI M 63 := kp_go kp120_63 kp969
                    have kz := b54_27 (M := M964) hB984.1
                    refine vc_if_ne dX12_goTurn_129 (fun h999 => ?_) (fun h999 => ?_)
                    · refine vc_iload dX12_goTurn_134 rfl ?_
                      refine vc_if_ne dX12_goTurn_136 (fun h1000 => ?_) (fun h1000 => by exfalso; omega)
                      refine vc_iload dX12_goTurn_157 rfl ?_
                      refine vc_if_eq dX12_goTurn_159 (fun h1001 => by exfalso; omega) (fun h1001 => ?_)
                      refine vc_aload_n dX12_goTurn_162 rfl ?_
                      refine vc_aload_n dX12_goTurn_163 rfl ?_
                      refine vc_getI dX12_goTurn_164 flX12_321 (s_54 hB984.1.1) rfl ?_
                      have k1002 : 0 ≤ mI M964 54 24 ∧ mI M964 54 24 ≤ 15 := b54_24 (M := M964) hB984.1
                      refine vc_cVI dX12_goTurn_167 (sfX12_sightOf (M := M964) hB984.1  (mI M964 54 24) (by omega) (by omega)) rfl okX12_sightOf viX12_sightOf lkX12_318 (s_54 hB984.1.1) cl_12 rfl (Nat.le_of_ble_eq_true rfl) ⟨rfl, rfl⟩ (Nat.le_of_ble_eq_true rfl) (Nat.le_of_ble_eq_true rfl) (Nat.le_of_ble_eq_true rfl) ?_
                      rintro x1003 _ rfl
                      refine vc_iload dX12_goTurn_170 rfl ?_
                      refine vc_icmp_ne dX12_goTurn_172 (fun h1004 => ?_) (fun h1004 => ?_)
                      · refine vc_iconst dX12_goTurn_179 rfl ?_
                        refine vc_goto dX12_goTurn_180 ?_
                        refine vc_istore dX12_goTurn_195 (by decide) rfl (show _ = [some (aR 54), none, some (aI s), some (aI x1), some (aI x2), some (aI 1), none, some (aI x922), some (aI v8), some (aI 0)] from rfl) ?_
                        refine vc_goto dX12_goTurn_197 ?_
                        exact ih120 M964 v8 0 hB984 kp985 kp986 kp987 kp988 kp989 kp990 kp991 kp992 kp993 kp994 kp995 kp996 kp997 kp998 (by omega) (by omega) (by omega) (by omega) (by omega) (by omega)
                      · refine vc_iconst dX12_goTurn_175 rfl ?_
                        refine vc_goto dX12_goTurn_176 ?_
                        refine vc_istore dX12_goTurn_195 (by decide) rfl (show _ = [some (aR 54), none, some (aI s), some (aI x1), some (aI x2), some (aI 1), none, some (aI x922), some (aI v8), some (aI 1)] from rfl) ?_
                        refine vc_goto dX12_goTurn_197 ?_
                        exact ih120 M964 v8 1 hB984 kp985 kp986 kp987 kp988 kp989 kp990 kp991 kp992 kp993 kp994 kp995 kp996 kp997 kp998 (by omega) (by omega) (by omega) (by omega) (by omega) (by omega)
                    · refine vc_iconst dX12_goTurn_132 rfl ?_
                      refine vc_zret dX12_goTurn_133 rfl (by first | decide | omega) (Nat.le_of_ble_eq_true rfl) (Nat.le_of_ble_eq_true rfl) ?_
                      exact ⟨_, rfl, hB984, kp995, kp996, kp997, kp998, kp985, kp986, kp987, kp988, kp989, kp990, kp991, kp992, kp993, kp994, by omega, by omega, by omega⟩
              refine vc_less [some (aR 54), none, some (aI s), some (aI x1), some (aI x2), some (aI 1), none, some (aI x922), some (aI 0), some (aI 0)] (lessL_keep (lessL_drop (lessL_keep (lessL_keep (lessL_keep (lessL_keep (lessL_drop (lessL_keep (lessL_keep (lessL_keep (lessL_nil))))))))))) ?_
              exact lp120 _ M 0 0 hB0 rfl rfl rfl rfl rfl rfl rfl rfl rfl rfl rfl rfl rfl rfl (by omega) (by omega) (by omega) (by omega) (by omega) (Nat.lt_succ_self _)
            · refine vc_aload_n dX12_goTurn_88 rfl ?_
              refine vc_getI dX12_goTurn_89 flX12_324 (s_54 hB0.1.1) rfl ?_
              have k1005 : 0 ≤ mI M 54 25 ∧ mI M 54 25 ≤ 3 := b54_25 (M := M) hB0.1
              refine vc_goto dX12_goTurn_92 ?_
              refine vc_nameI (fun x1006 ex1006 => ?_)
              refine vc_istore dX12_goTurn_112 (by decide) rfl (show _ = [some (aR 54), some (aI t), some (aI s), some (aI x1), some (aI x2), some (aI 1), some (aI 1), some (aI x1006), none, none] from rfl) ?_
              refine vc_iconst dX12_goTurn_114 rfl ?_
              refine vc_istore dX12_goTurn_115 (by decide) rfl (show _ = [some (aR 54), some (aI t), some (aI s), some (aI x1), some (aI x2), some (aI 1), some (aI 1), some (aI x1006), some (aI 0), none] from rfl) ?_
              refine vc_iconst dX12_goTurn_117 rfl ?_
              refine vc_istore dX12_goTurn_118 (by decide) rfl (show _ = [some (aR 54), some (aI t), some (aI s), some (aI x1), some (aI x2), some (aI 1), some (aI 1), some (aI x1006), some (aI 0), some (aI 0)] from rfl) ?_
              have lp120 : ∀ (n120 : Nat) (Mq120 : Mem) (v8 : Int) (v9 : Int), (BD M Mq120) → (mI Mq120 64 = mI M 64) → (mI Mq120 65 = mI M 65) → (mI Mq120 67 = mI M 67) → (mI Mq120 68 = mI M 68) → (mI Mq120 69 = mI M 69) → (mI Mq120 70 = mI M 70) → (mI Mq120 71 = mI M 71) → (mI Mq120 72 = mI M 72) → (mI Mq120 73 = mI M 73) → (mI Mq120 74 = mI M 74) → (mI Mq120 55 = mI M 55) → (mI Mq120 57 = mI M 57) → (mI Mq120 58 = mI M 58) → (mI Mq120 63 = mI M 63) → (0 ≤ v9) → (v9 ≤ 1) → (mI Mq120 54 32 = mI M 54 32) → (0 ≤ mI Mq120 54 27) → (mI Mq120 54 27 ≤ 40) → (40 - mI Mq120 54 27).toNat < n120 → VC l mdX12_goTurn 120 [some (aR 54), none, some (aI s), some (aI x1), some (aI x2), some (aI 1), none, some (aI x1006), some (aI v8), some (aI v9)] [] Mq120 0 0 (fun q N => ∃ r : Int, q = some (aI r) ∧ BD M N ∧ mI N 55 = mI M 55 ∧ mI N 57 = mI M 57 ∧ mI N 58 = mI M 58 ∧ mI N 63 = mI M 63 ∧ mI N 64 = mI M 64 ∧ mI N 65 = mI M 65 ∧ mI N 67 = mI M 67 ∧ mI N 68 = mI M 68 ∧ mI N 69 = mI M 69 ∧ mI N 70 = mI M 70 ∧ mI N 71 = mI M 71 ∧ mI N 72 = mI M 72 ∧ mI N 73 = mI M 73 ∧ mI N 74 = mI M 74 ∧ 0 ≤ r ∧ r ≤ 1 ∧ mI N 54 32 = mI M 54 32) := by
                intro n120
                induction n120 with
                | zero => intro Mq120 v8 v9 hQ120 kp120_64 kp120_65 kp120_67 kp120_68 kp120_69 kp120_70 kp120_71 kp120_72 kp120_73 kp120_74 kp120_55 kp120_57 kp120_58 kp120_63 g120_9a g120_9b g120i0 g120i1 g120i2 hm120; exact absurd hm120 (Nat.not_lt_zero _)
                | succ n120 ih120 =>
                  intro Mq120 v8 v9 hQ120 kp120_64 kp120_65 kp120_67 kp120_68 kp120_69 kp120_70 kp120_71 kp120_72 kp120_73 kp120_74 kp120_55 kp120_57 kp120_58 kp120_63 g120_9a g120_9b g120i0 g120i1 g120i2 hm120
                  refine vc_iload dX12_goTurn_120 rfl ?_
                  refine vc_if_ne dX12_goTurn_122 (fun h1007 => ?_) (fun h1007 => ?_)
                  · refine vc_iload_n dX12_goTurn_200 rfl ?_
                    refine vc_iconst dX12_goTurn_201 rfl ?_
                    refine vc_icmp_eq dX12_goTurn_202 (fun h1008 => ?_) (fun h1008 => by exfalso; omega)
                    refine vc_aload_n dX12_goTurn_217 rfl ?_
                    refine vc_iload dX12_goTurn_218 rfl ?_
                    refine vc_putI dX12_goTurn_220 (plX12_324 _ rfl) (s_54 hQ120.1.1) rfl ?_
                    have kp1009 : mI (sI Mq120 54 25 x1006) 64 = mI M 64 := (kp_sI kp120_64 rfl)
                    have kp1010 : mI (sI Mq120 54 25 x1006) 65 = mI M 65 := (kp_sI kp120_65 rfl)
                    have kp1011 : mI (sI Mq120 54 25 x1006) 67 = mI M 67 := (kp_sI kp120_67 rfl)
                    have kp1012 : mI (sI Mq120 54 25 x1006) 68 = mI M 68 := (kp_sI kp120_68 rfl)
                    have kp1013 : mI (sI Mq120 54 25 x1006) 69 = mI M 69 := (kp_sI kp120_69 rfl)
                    have kp1014 : mI (sI Mq120 54 25 x1006) 70 = mI M 70 := (kp_sI kp120_70 rfl)
                    have kp1015 : mI (sI Mq120 54 25 x1006) 71 = mI M 71 := (kp_sI kp120_71 rfl)
                    have kp1016 : mI (sI Mq120 54 25 x1006) 72 = mI M 72 := (kp_sI kp120_72 rfl)
                    have kp1017 : mI (sI Mq120 54 25 x1006) 73 = mI M 73 := (kp_sI kp120_73 rfl)
                    have kp1018 : mI (sI Mq120 54 25 x1006) 74 = mI M 74 := (kp_sI kp120_74 rfl)
                    have kp1019 : mI (sI Mq120 54 25 x1006) 55 = mI M 55 := (kp_sI kp120_55 rfl)
                    have kp1020 : mI (sI Mq120 54 25 x1006) 57 = mI M 57 := (kp_sI kp120_57 rfl)
                    have kp1021 : mI (sI Mq120 54 25 x1006) 58 = mI M 58 := (kp_sI kp120_58 rfl)
                    have kp1022 : mI (sI Mq120 54 25 x1006) 63 = mI M 63 := (kp_sI kp120_63 rfl)
                    have hB1023 : BD M (sI Mq120 54 25 x1006) := BD.w54_25 hQ120 (by omega) (by omega)
                    refine vc_iconst dX12_goTurn_223 rfl ?_
                    refine vc_zret dX12_goTurn_224 rfl (by first | decide | omega) (Nat.le_of_ble_eq_true rfl) (Nat.le_of_ble_eq_true rfl) ?_
                    have k1024 : mI (sI Mq120 54 25 x1006) 54 27 = mI Mq120 54 27 := rfl
                    have k1025 : mI (sI Mq120 54 25 x1006) 54 32 = mI Mq120 54 32 := rfl
                    exact ⟨_, rfl, hB1023, kp1019, kp1020, kp1021, kp1022, kp1009, kp1010, kp1011, kp1012, kp1013, kp1014, kp1015, kp1016, kp1017, kp1018, by omega, by omega, by omega⟩
                  · refine vc_aload_n dX12_goTurn_125 rfl ?_
                    refine vc_cVI dX12_goTurn_126 (sfX12_goOn (M := Mq120) hQ120.1   ) rfl okX12_goOn viX12_goOn lkX12_348 (s_54 hQ120.1.1) cl_12 rfl (Nat.le_of_ble_eq_true rfl) ⟨rfl, rfl⟩ (Nat.le_of_ble_eq_true rfl) (Nat.le_of_ble_eq_true rfl) (Nat.le_of_ble_eq_true rfl) ?_
                    rintro x1026 M1027 ⟨hB1028, kp1029, kp1030, kp1031, kp1032, kp1033, kp1034, kp1035, kp1036, kp1037, kp1038, kp1039, kp1040, kp1041, kp1042, h1043, h1044, h1045, h1046⟩
                    have hB1047 : BD M M1027 := BD.go hQ120 hB1028
                    have kp1048 : mI M1027 64 = mI M 64 := kp_go kp120_64 kp1033
                    have kp1049 : mI M1027 65 = mI M 65 := kp_go kp120_65 kp1034
                    have kp1050 : mI M1027 67 = mI M 67 := kp_go kp120_67 kp1035
                    have kp1051 : mI M1027 68 = mI M 68 := kp_go kp120_68 kp1036
                    have kp1052 : mI M1027 69 = mI M 69 := kp_go kp120_69 kp1037
                    have kp1053 : mI M1027 70 = mI M 70 := kp_go kp120_70 kp1038
                    have kp1054 : mI M1027 71 = mI M 71 := kp_go kp120_71 kp1039
                    have kp1055 : mI M1027 72 = mI M 72 := kp_go kp120_72 kp1040
                    have kp1056 : mI M1027 73 = mI M 73 := kp_go kp120_73 kp1041
                    have kp1057 : mI M1027 74 = mI M 74 := kp_go kp120_74 kp1042
                    have kp1058 : mI M1027 55 = mI M 55 := kp_go kp120_55 kp1029
                    have kp1059 : mI M1027 57 = mI M 57 := kp_go kp120_57 kp1030
                    have kp1060 : mI M1027 58 = mI M 58 := kp_go kp120_58 kp1031
                    have kp1061 : mI M1027 63 = mI M 63 := kp_go kp120_63 kp1032
                    have kz := b54_27 (M := M1027) hB1047.1
                    refine vc_if_ne dX12_goTurn_129 (fun h1062 => ?_) (fun h1062 => ?_)
                    · refine vc_iload dX12_goTurn_134 rfl ?_
                      refine vc_if_ne dX12_goTurn_136 (fun h1063 => ?_) (fun h1063 => by exfalso; omega)
                      refine vc_iload dX12_goTurn_157 rfl ?_
                      refine vc_if_eq dX12_goTurn_159 (fun h1064 => by exfalso; omega) (fun h1064 => ?_)
                      refine vc_aload_n dX12_goTurn_162 rfl ?_
                      refine vc_aload_n dX12_goTurn_163 rfl ?_
                      refine vc_getI dX12_goTurn_164 flX12_321 (s_54 hB1047.1.1) rfl ?_
                      have k1065 : 0 ≤ mI M1027 54 24 ∧ mI M1027 54 24 ≤ 15 := b54_24 (M := M1027) hB1047.1
                      refine vc_cVI dX12_goTurn_167 (sfX12_sightOf (M := M1027) hB1047.1  (mI M1027 54 24) (by omega) (by omega)) rfl okX12_sightOf viX12_sightOf lkX12_318 (s_54 hB1047.1.1) cl_12 rfl (Nat.le_of_ble_eq_true rfl) ⟨rfl, rfl⟩ (Nat.le_of_ble_eq_true rfl) (Nat.le_of_ble_eq_true rfl) (Nat.le_of_ble_eq_true rfl) ?_
                      rintro x1066 _ rfl
                      refine vc_iload dX12_goTurn_170 rfl ?_
                      refine vc_icmp_ne dX12_goTurn_172 (fun h1067 => ?_) (fun h1067 => ?_)
                      · refine vc_iconst dX12_goTurn_179 rfl ?_
                        refine vc_goto dX12_goTurn_180 ?_
                        refine vc_istore dX12_goTurn_195 (by decide) rfl (show _ = [some (aR 54), none, some (aI s), some (aI x1), some (aI x2), some (aI 1), none, some (aI x1006), some (aI v8), some (aI 0)] from rfl) ?_
                        refine vc_goto dX12_goTurn_197 ?_
                        exact ih120 M1027 v8 0 hB1047 kp1048 kp1049 kp1050 kp1051 kp1052 kp1053 kp1054 kp1055 kp1056 kp1057 kp1058 kp1059 kp1060 kp1061 (by omega) (by omega) (by omega) (by omega) (by omega) (by omega)
                      · refine vc_iconst dX12_goTurn_175 rfl ?_
                        refine vc_goto dX12_goTurn_176 ?_
                        refine vc_istore dX12_goTurn_195 (by decide) rfl (show _ = [some (aR 54), none, some (aI s), some (aI x1), some (aI x2), some (aI 1), none, some (aI x1006), some (aI v8), some (aI 1)] from rfl) ?_
                        refine vc_goto dX12_goTurn_197 ?_
                        exact ih120 M1027 v8 1 hB1047 kp1048 kp1049 kp1050 kp1051 kp1052 kp1053 kp1054 kp1055 kp1056 kp1057 kp1058 kp1059 kp1060 kp1061 (by omega) (by omega) (by omega) (by omega) (by omega) (by omega)
                    · refine vc_iconst dX12_goTurn_132 rfl ?_
                      refine vc_zret dX12_goTurn_133 rfl (by first | decide | omega) (Nat.le_of_ble_eq_true rfl) (Nat.le_of_ble_eq_true rfl) ?_
                      exact ⟨_, rfl, hB1047, kp1058, kp1059, kp1060, kp1061, kp1048, kp1049, kp1050, kp1051, kp1052, kp1053, kp1054, kp1055, kp1056, kp1057, by omega, by omega, by omega⟩
              refine vc_less [some (aR 54), none, some (aI s), some (aI x1), some (aI x2), some (aI 1), none, some (aI x1006), some (aI 0), some (aI 0)] (lessL_keep (lessL_drop (lessL_keep (lessL_keep (lessL_keep (lessL_keep (lessL_drop (lessL_keep (lessL_keep (lessL_keep (lessL_nil))))))))))) ?_
              exact lp120 _ M 0 0 hB0 rfl rfl rfl rfl rfl rfl rfl rfl rfl rfl rfl rfl rfl rfl (by omega) (by omega) (by omega) (by omega) (by omega) (Nat.lt_succ_self _)
          · refine vc_iconst dX12_goTurn_68 rfl ?_
            refine vc_goto dX12_goTurn_69 ?_
            refine vc_icmp_ne dX12_goTurn_73 (fun h1068 => ?_) (fun h1068 => by exfalso; omega)
            refine vc_iconst dX12_goTurn_80 rfl ?_
            refine vc_istore dX12_goTurn_81 (by decide) rfl (show _ = [some (aR 54), some (aI t), some (aI s), some (aI x1), some (aI x2), some (aI 1), some (aI 0), none, none, none] from rfl) ?_
            refine vc_iload_n dX12_goTurn_83 rfl ?_
            refine vc_iconst dX12_goTurn_84 rfl ?_
            refine vc_icmp_ne dX12_goTurn_85 (fun h1069 => ?_) (fun h1069 => ?_)
            · refine vc_aload_n dX12_goTurn_95 rfl ?_
              refine vc_getI dX12_goTurn_96 flX12_324 (s_54 hB0.1.1) rfl ?_
              have k1070 : 0 ≤ mI M 54 25 ∧ mI M 54 25 ≤ 3 := b54_25 (M := M) hB0.1
              refine vc_iload dX12_goTurn_99 rfl ?_
              refine vc_if_eq dX12_goTurn_101 (fun h1071 => ?_) (fun h1071 => by exfalso; omega)
              refine vc_iconst dX12_goTurn_108 rfl ?_
              refine vc_iaddE dX12_goTurn_109 (by omega) (by omega) ?_
              refine vc_iconst dX12_goTurn_110 rfl ?_
              refine vc_iremE dX12_goTurn_111 (by omega) (by omega) ?_
              refine vc_nameI (fun x1072 ex1072 => ?_)
              refine vc_istore dX12_goTurn_112 (by decide) rfl (show _ = [some (aR 54), some (aI t), some (aI s), some (aI x1), some (aI x2), some (aI 1), some (aI 0), some (aI x1072), none, none] from rfl) ?_
              refine vc_iconst dX12_goTurn_114 rfl ?_
              refine vc_istore dX12_goTurn_115 (by decide) rfl (show _ = [some (aR 54), some (aI t), some (aI s), some (aI x1), some (aI x2), some (aI 1), some (aI 0), some (aI x1072), some (aI 0), none] from rfl) ?_
              refine vc_iconst dX12_goTurn_117 rfl ?_
              refine vc_istore dX12_goTurn_118 (by decide) rfl (show _ = [some (aR 54), some (aI t), some (aI s), some (aI x1), some (aI x2), some (aI 1), some (aI 0), some (aI x1072), some (aI 0), some (aI 0)] from rfl) ?_
              have lp120 : ∀ (n120 : Nat) (Mq120 : Mem) (v8 : Int) (v9 : Int), (BD M Mq120) → (mI Mq120 64 = mI M 64) → (mI Mq120 65 = mI M 65) → (mI Mq120 67 = mI M 67) → (mI Mq120 68 = mI M 68) → (mI Mq120 69 = mI M 69) → (mI Mq120 70 = mI M 70) → (mI Mq120 71 = mI M 71) → (mI Mq120 72 = mI M 72) → (mI Mq120 73 = mI M 73) → (mI Mq120 74 = mI M 74) → (mI Mq120 55 = mI M 55) → (mI Mq120 57 = mI M 57) → (mI Mq120 58 = mI M 58) → (mI Mq120 63 = mI M 63) → (0 ≤ v9) → (v9 ≤ 1) → (mI Mq120 54 32 = mI M 54 32) → (0 ≤ mI Mq120 54 27) → (mI Mq120 54 27 ≤ 40) → (40 - mI Mq120 54 27).toNat < n120 → VC l mdX12_goTurn 120 [some (aR 54), none, some (aI s), some (aI x1), some (aI x2), some (aI 1), none, some (aI x1072), some (aI v8), some (aI v9)] [] Mq120 0 0 (fun q N => ∃ r : Int, q = some (aI r) ∧ BD M N ∧ mI N 55 = mI M 55 ∧ mI N 57 = mI M 57 ∧ mI N 58 = mI M 58 ∧ mI N 63 = mI M 63 ∧ mI N 64 = mI M 64 ∧ mI N 65 = mI M 65 ∧ mI N 67 = mI M 67 ∧ mI N 68 = mI M 68 ∧ mI N 69 = mI M 69 ∧ mI N 70 = mI M 70 ∧ mI N 71 = mI M 71 ∧ mI N 72 = mI M 72 ∧ mI N 73 = mI M 73 ∧ mI N 74 = mI M 74 ∧ 0 ≤ r ∧ r ≤ 1 ∧ mI N 54 32 = mI M 54 32) := by
                intro n120
                induction n120 with
                | zero => intro Mq120 v8 v9 hQ120 kp120_64 kp120_65 kp120_67 kp120_68 kp120_69 kp120_70 kp120_71 kp120_72 kp120_73 kp120_74 kp120_55 kp120_57 kp120_58 kp120_63 g120_9a g120_9b g120i0 g120i1 g120i2 hm120; exact absurd hm120 (Nat.not_lt_zero _)
                | succ n120 ih120 =>
                  intro Mq120 v8 v9 hQ120 kp120_64 kp120_65 kp120_67 kp120_68 kp120_69 kp120_70 kp120_71 kp120_72 kp120_73 kp120_74 kp120_55 kp120_57 kp120_58 kp120_63 g120_9a g120_9b g120i0 g120i1 g120i2 hm120
                  refine vc_iload dX12_goTurn_120 rfl ?_
                  refine vc_if_ne dX12_goTurn_122 (fun h1073 => ?_) (fun h1073 => ?_)
                  · refine vc_iload_n dX12_goTurn_200 rfl ?_
                    refine vc_iconst dX12_goTurn_201 rfl ?_
                    refine vc_icmp_eq dX12_goTurn_202 (fun h1074 => ?_) (fun h1074 => ?_)
                    · refine vc_aload_n dX12_goTurn_217 rfl ?_
                      refine vc_iload dX12_goTurn_218 rfl ?_
                      refine vc_putI dX12_goTurn_220 (plX12_324 _ rfl) (s_54 hQ120.1.1) rfl ?_
                      have kp1075 : mI (sI Mq120 54 25 x1072) 64 = mI M 64 := (kp_sI kp120_64 rfl)
                      have kp1076 : mI (sI Mq120 54 25 x1072) 65 = mI M 65 := (kp_sI kp120_65 rfl)
                      have kp1077 : mI (sI Mq120 54 25 x1072) 67 = mI M 67 := (kp_sI kp120_67 rfl)
                      have kp1078 : mI (sI Mq120 54 25 x1072) 68 = mI M 68 := (kp_sI kp120_68 rfl)
                      have kp1079 : mI (sI Mq120 54 25 x1072) 69 = mI M 69 := (kp_sI kp120_69 rfl)
                      have kp1080 : mI (sI Mq120 54 25 x1072) 70 = mI M 70 := (kp_sI kp120_70 rfl)
                      have kp1081 : mI (sI Mq120 54 25 x1072) 71 = mI M 71 := (kp_sI kp120_71 rfl)
                      have kp1082 : mI (sI Mq120 54 25 x1072) 72 = mI M 72 := (kp_sI kp120_72 rfl)
                      have kp1083 : mI (sI Mq120 54 25 x1072) 73 = mI M 73 := (kp_sI kp120_73 rfl)
                      have kp1084 : mI (sI Mq120 54 25 x1072) 74 = mI M 74 := (kp_sI kp120_74 rfl)
                      have kp1085 : mI (sI Mq120 54 25 x1072) 55 = mI M 55 := (kp_sI kp120_55 rfl)
                      have kp1086 : mI (sI Mq120 54 25 x1072) 57 = mI M 57 := (kp_sI kp120_57 rfl)
                      have kp1087 : mI (sI Mq120 54 25 x1072) 58 = mI M 58 := (kp_sI kp120_58 rfl)
                      have kp1088 : mI (sI Mq120 54 25 x1072) 63 = mI M 63 := (kp_sI kp120_63 rfl)
                      have hB1089 : BD M (sI Mq120 54 25 x1072) := BD.w54_25 hQ120 (by omega) (by omega)
                      refine vc_iconst dX12_goTurn_223 rfl ?_
                      refine vc_zret dX12_goTurn_224 rfl (by first | decide | omega) (Nat.le_of_ble_eq_true rfl) (Nat.le_of_ble_eq_true rfl) ?_
                      have k1090 : mI (sI Mq120 54 25 x1072) 54 27 = mI Mq120 54 27 := rfl
                      have k1091 : mI (sI Mq120 54 25 x1072) 54 32 = mI Mq120 54 32 := rfl
                      exact ⟨_, rfl, hB1089, kp1085, kp1086, kp1087, kp1088, kp1075, kp1076, kp1077, kp1078, kp1079, kp1080, kp1081, kp1082, kp1083, kp1084, by omega, by omega, by omega⟩
                    · refine vc_aload_n dX12_goTurn_205 rfl ?_
                      refine vc_iload dX12_goTurn_206 rfl ?_
                      refine vc_iload_n dX12_goTurn_208 rfl ?_
                      refine vc_cVI dX12_goTurn_209 (sfX12_isCounted (M := Mq120) hQ120.1  x1072 s (by omega) (by omega)) rfl okX12_isCounted viX12_isCounted lkX12_352 (s_54 hQ120.1.1) cl_12 rfl (Nat.le_of_ble_eq_true rfl) ⟨rfl, rfl⟩ (Nat.le_of_ble_eq_true rfl) (Nat.le_of_ble_eq_true rfl) (Nat.le_of_ble_eq_true rfl) ?_
                      rintro x1092 _ ⟨rfl, h1093, h1094⟩
                      refine vc_if_ne dX12_goTurn_212 (fun h1095 => ?_) (fun h1095 => ?_)
                      · refine vc_aload_n dX12_goTurn_217 rfl ?_
                        refine vc_iload dX12_goTurn_218 rfl ?_
                        refine vc_putI dX12_goTurn_220 (plX12_324 _ rfl) (s_54 hQ120.1.1) rfl ?_
                        have kp1096 : mI (sI Mq120 54 25 x1072) 64 = mI M 64 := (kp_sI kp120_64 rfl)
                        have kp1097 : mI (sI Mq120 54 25 x1072) 65 = mI M 65 := (kp_sI kp120_65 rfl)
                        have kp1098 : mI (sI Mq120 54 25 x1072) 67 = mI M 67 := (kp_sI kp120_67 rfl)
                        have kp1099 : mI (sI Mq120 54 25 x1072) 68 = mI M 68 := (kp_sI kp120_68 rfl)
                        have kp1100 : mI (sI Mq120 54 25 x1072) 69 = mI M 69 := (kp_sI kp120_69 rfl)
                        have kp1101 : mI (sI Mq120 54 25 x1072) 70 = mI M 70 := (kp_sI kp120_70 rfl)
                        have kp1102 : mI (sI Mq120 54 25 x1072) 71 = mI M 71 := (kp_sI kp120_71 rfl)
                        have kp1103 : mI (sI Mq120 54 25 x1072) 72 = mI M 72 := (kp_sI kp120_72 rfl)
                        have kp1104 : mI (sI Mq120 54 25 x1072) 73 = mI M 73 := (kp_sI kp120_73 rfl)
                        have kp1105 : mI (sI Mq120 54 25 x1072) 74 = mI M 74 := (kp_sI kp120_74 rfl)
                        have kp1106 : mI (sI Mq120 54 25 x1072) 55 = mI M 55 := (kp_sI kp120_55 rfl)
                        have kp1107 : mI (sI Mq120 54 25 x1072) 57 = mI M 57 := (kp_sI kp120_57 rfl)
                        have kp1108 : mI (sI Mq120 54 25 x1072) 58 = mI M 58 := (kp_sI kp120_58 rfl)
                        have kp1109 : mI (sI Mq120 54 25 x1072) 63 = mI M 63 := (kp_sI kp120_63 rfl)
                        have hB1110 : BD M (sI Mq120 54 25 x1072) := BD.w54_25 hQ120 (by omega) (by omega)
                        refine vc_iconst dX12_goTurn_223 rfl ?_
                        refine vc_zret dX12_goTurn_224 rfl (by first | decide | omega) (Nat.le_of_ble_eq_true rfl) (Nat.le_of_ble_eq_true rfl) ?_
                        have k1111 : mI (sI Mq120 54 25 x1072) 54 27 = mI Mq120 54 27 := rfl
                        have k1112 : mI (sI Mq120 54 25 x1072) 54 32 = mI Mq120 54 32 := rfl
                        exact ⟨_, rfl, hB1110, kp1106, kp1107, kp1108, kp1109, kp1096, kp1097, kp1098, kp1099, kp1100, kp1101, kp1102, kp1103, kp1104, kp1105, by omega, by omega, by omega⟩
                      · refine vc_iconst dX12_goTurn_215 rfl ?_
                        refine vc_zret dX12_goTurn_216 rfl (by first | decide | omega) (Nat.le_of_ble_eq_true rfl) (Nat.le_of_ble_eq_true rfl) ?_
                        exact ⟨_, rfl, hQ120, kp120_55, kp120_57, kp120_58, kp120_63, kp120_64, kp120_65, kp120_67, kp120_68, kp120_69, kp120_70, kp120_71, kp120_72, kp120_73, kp120_74, by omega, by omega, by omega⟩
                  · refine vc_aload_n dX12_goTurn_125 rfl ?_
                    refine vc_cVI dX12_goTurn_126 (sfX12_goOn (M := Mq120) hQ120.1   ) rfl okX12_goOn viX12_goOn lkX12_348 (s_54 hQ120.1.1) cl_12 rfl (Nat.le_of_ble_eq_true rfl) ⟨rfl, rfl⟩ (Nat.le_of_ble_eq_true rfl) (Nat.le_of_ble_eq_true rfl) (Nat.le_of_ble_eq_true rfl) ?_
                    rintro x1113 M1114 ⟨hB1115, kp1116, kp1117, kp1118, kp1119, kp1120, kp1121, kp1122, kp1123, kp1124, kp1125, kp1126, kp1127, kp1128, kp1129, h1130, h1131, h1132, h1133⟩
                    have hB1134 : BD M M1114 := BD.go hQ120 hB1115
                    have kp1135 : mI M1114 64 = mI M 64 := kp_go kp120_64 kp1120
                    have kp1136 : mI M1114 65 = mI M 65 := kp_go kp120_65 kp1121
                    have kp1137 : mI M1114 67 = mI M 67 := kp_go kp120_67 kp1122
                    have kp1138 : mI M1114 68 = mI M 68 := kp_go kp120_68 kp1123
                    have kp1139 : mI M1114 69 = mI M 69 := kp_go kp120_69 kp1124
                    have kp1140 : mI M1114 70 = mI M 70 := kp_go kp120_70 kp1125
                    have kp1141 : mI M1114 71 = mI M 71 := kp_go kp120_71 kp1126
                    have kp1142 : mI M1114 72 = mI M 72 := kp_go kp120_72 kp1127
                    have kp1143 : mI M1114 73 = mI M 73 := kp_go kp120_73 kp1128
                    have kp1144 : mI M1114 74 = mI M 74 := kp_go kp120_74 kp1129
                    have kp1145 : mI M1114 55 = mI M 55 := kp_go kp120_55 kp1116
                    have kp1146 : mI M1114 57 = mI M 57 := kp_go kp120_57 kp1117
                    have kp1147 : mI M1114 58 = mI M 58 := kp_go kp120_58 kp1118
                    have kp1148 : mI M1114 63 = mI M 63 := kp_go kp120_63 kp1119
                    have kz := b54_27 (M := M1114) hB1134.1
                    refine vc_if_ne dX12_goTurn_129 (fun h1149 => ?_) (fun h1149 => ?_)
                    · refine vc_iload dX12_goTurn_134 rfl ?_
                      refine vc_if_ne dX12_goTurn_136 (fun h1150 => ?_) (fun h1150 => by exfalso; omega)
                      refine vc_iload dX12_goTurn_157 rfl ?_
                      refine vc_if_eq dX12_goTurn_159 (fun h1151 => by exfalso; omega) (fun h1151 => ?_)
                      refine vc_aload_n dX12_goTurn_162 rfl ?_
                      refine vc_aload_n dX12_goTurn_163 rfl ?_
                      refine vc_getI dX12_goTurn_164 flX12_321 (s_54 hB1134.1.1) rfl ?_
                      have k1152 : 0 ≤ mI M1114 54 24 ∧ mI M1114 54 24 ≤ 15 := b54_24 (M := M1114) hB1134.1
                      refine vc_cVI dX12_goTurn_167 (sfX12_sightOf (M := M1114) hB1134.1  (mI M1114 54 24) (by omega) (by omega)) rfl okX12_sightOf viX12_sightOf lkX12_318 (s_54 hB1134.1.1) cl_12 rfl (Nat.le_of_ble_eq_true rfl) ⟨rfl, rfl⟩ (Nat.le_of_ble_eq_true rfl) (Nat.le_of_ble_eq_true rfl) (Nat.le_of_ble_eq_true rfl) ?_
                      rintro x1153 _ rfl
                      refine vc_iload dX12_goTurn_170 rfl ?_
                      refine vc_icmp_ne dX12_goTurn_172 (fun h1154 => ?_) (fun h1154 => ?_)
                      · refine vc_iconst dX12_goTurn_179 rfl ?_
                        refine vc_goto dX12_goTurn_180 ?_
                        refine vc_istore dX12_goTurn_195 (by decide) rfl (show _ = [some (aR 54), none, some (aI s), some (aI x1), some (aI x2), some (aI 1), none, some (aI x1072), some (aI v8), some (aI 0)] from rfl) ?_
                        refine vc_goto dX12_goTurn_197 ?_
                        exact ih120 M1114 v8 0 hB1134 kp1135 kp1136 kp1137 kp1138 kp1139 kp1140 kp1141 kp1142 kp1143 kp1144 kp1145 kp1146 kp1147 kp1148 (by omega) (by omega) (by omega) (by omega) (by omega) (by omega)
                      · refine vc_iconst dX12_goTurn_175 rfl ?_
                        refine vc_goto dX12_goTurn_176 ?_
                        refine vc_istore dX12_goTurn_195 (by decide) rfl (show _ = [some (aR 54), none, some (aI s), some (aI x1), some (aI x2), some (aI 1), none, some (aI x1072), some (aI v8), some (aI 1)] from rfl) ?_
                        refine vc_goto dX12_goTurn_197 ?_
                        exact ih120 M1114 v8 1 hB1134 kp1135 kp1136 kp1137 kp1138 kp1139 kp1140 kp1141 kp1142 kp1143 kp1144 kp1145 kp1146 kp1147 kp1148 (by omega) (by omega) (by omega) (by omega) (by omega) (by omega)
                    · refine vc_iconst dX12_goTurn_132 rfl ?_
                      refine vc_zret dX12_goTurn_133 rfl (by first | decide | omega) (Nat.le_of_ble_eq_true rfl) (Nat.le_of_ble_eq_true rfl) ?_
                      exact ⟨_, rfl, hB1134, kp1145, kp1146, kp1147, kp1148, kp1135, kp1136, kp1137, kp1138, kp1139, kp1140, kp1141, kp1142, kp1143, kp1144, by omega, by omega, by omega⟩
              refine vc_less [some (aR 54), none, some (aI s), some (aI x1), some (aI x2), some (aI 1), none, some (aI x1072), some (aI 0), some (aI 0)] (lessL_keep (lessL_drop (lessL_keep (lessL_keep (lessL_keep (lessL_keep (lessL_drop (lessL_keep (lessL_keep (lessL_keep (lessL_nil))))))))))) ?_
              exact lp120 _ M 0 0 hB0 rfl rfl rfl rfl rfl rfl rfl rfl rfl rfl rfl rfl rfl rfl (by omega) (by omega) (by omega) (by omega) (by omega) (Nat.lt_succ_self _)
            · refine vc_aload_n dX12_goTurn_88 rfl ?_
              refine vc_getI dX12_goTurn_89 flX12_324 (s_54 hB0.1.1) rfl ?_
              have k1155 : 0 ≤ mI M 54 25 ∧ mI M 54 25 ≤ 3 := b54_25 (M := M) hB0.1
              refine vc_goto dX12_goTurn_92 ?_
              refine vc_nameI (fun x1156 ex1156 => ?_)
              refine vc_istore dX12_goTurn_112 (by decide) rfl (show _ = [some (aR 54), some (aI t), some (aI s), some (aI x1), some (aI x2), some (aI 1), some (aI 0), some (aI x1156), none, none] from rfl) ?_
              refine vc_iconst dX12_goTurn_114 rfl ?_
              refine vc_istore dX12_goTurn_115 (by decide) rfl (show _ = [some (aR 54), some (aI t), some (aI s), some (aI x1), some (aI x2), some (aI 1), some (aI 0), some (aI x1156), some (aI 0), none] from rfl) ?_
              refine vc_iconst dX12_goTurn_117 rfl ?_
              refine vc_istore dX12_goTurn_118 (by decide) rfl (show _ = [some (aR 54), some (aI t), some (aI s), some (aI x1), some (aI x2), some (aI 1), some (aI 0), some (aI x1156), some (aI 0), some (aI 0)] from rfl) ?_
              have lp120 : ∀ (n120 : Nat) (Mq120 : Mem) (v8 : Int) (v9 : Int), (BD M Mq120) → (mI Mq120 64 = mI M 64) → (mI Mq120 65 = mI M 65) → (mI Mq120 67 = mI M 67) → (mI Mq120 68 = mI M 68) → (mI Mq120 69 = mI M 69) → (mI Mq120 70 = mI M 70) → (mI Mq120 71 = mI M 71) → (mI Mq120 72 = mI M 72) → (mI Mq120 73 = mI M 73) → (mI Mq120 74 = mI M 74) → (mI Mq120 55 = mI M 55) → (mI Mq120 57 = mI M 57) → (mI Mq120 58 = mI M 58) → (mI Mq120 63 = mI M 63) → (0 ≤ v9) → (v9 ≤ 1) → (mI Mq120 54 32 = mI M 54 32) → (0 ≤ mI Mq120 54 27) → (mI Mq120 54 27 ≤ 40) → (40 - mI Mq120 54 27).toNat < n120 → VC l mdX12_goTurn 120 [some (aR 54), none, some (aI s), some (aI x1), some (aI x2), some (aI 1), none, some (aI x1156), some (aI v8), some (aI v9)] [] Mq120 0 0 (fun q N => ∃ r : Int, q = some (aI r) ∧ BD M N ∧ mI N 55 = mI M 55 ∧ mI N 57 = mI M 57 ∧ mI N 58 = mI M 58 ∧ mI N 63 = mI M 63 ∧ mI N 64 = mI M 64 ∧ mI N 65 = mI M 65 ∧ mI N 67 = mI M 67 ∧ mI N 68 = mI M 68 ∧ mI N 69 = mI M 69 ∧ mI N 70 = mI M 70 ∧ mI N 71 = mI M 71 ∧ mI N 72 = mI M 72 ∧ mI N 73 = mI M 73 ∧ mI N 74 = mI M 74 ∧ 0 ≤ r ∧ r ≤ 1 ∧ mI N 54 32 = mI M 54 32) := by
                intro n120
                induction n120 with
                | zero => intro Mq120 v8 v9 hQ120 kp120_64 kp120_65 kp120_67 kp120_68 kp120_69 kp120_70 kp120_71 kp120_72 kp120_73 kp120_74 kp120_55 kp120_57 kp120_58 kp120_63 g120_9a g120_9b g120i0 g120i1 g120i2 hm120; exact absurd hm120 (Nat.not_lt_zero _)
                | succ n120 ih120 =>
                  intro Mq120 v8 v9 hQ120 kp120_64 kp120_65 kp120_67 kp120_68 kp120_69 kp120_70 kp120_71 kp120_72 kp120_73 kp120_74 kp120_55 kp120_57 kp120_58 kp120_63 g120_9a g120_9b g120i0 g120i1 g120i2 hm120
                  refine vc_iload dX12_goTurn_120 rfl ?_
                  refine vc_if_ne dX12_goTurn_122 (fun h1157 => ?_) (fun h1157 => ?_)
                  · refine vc_iload_n dX12_goTurn_200 rfl ?_
                    refine vc_iconst dX12_goTurn_201 rfl ?_
                    refine vc_icmp_eq dX12_goTurn_202 (fun h1158 => ?_) (fun h1158 => by exfalso; omega)
                    refine vc_aload_n dX12_goTurn_217 rfl ?_
                    refine vc_iload dX12_goTurn_218 rfl ?_
                    refine vc_putI dX12_goTurn_220 (plX12_324 _ rfl) (s_54 hQ120.1.1) rfl ?_
                    have kp1159 : mI (sI Mq120 54 25 x1156) 64 = mI M 64 := (kp_sI kp120_64 rfl)
                    have kp1160 : mI (sI Mq120 54 25 x1156) 65 = mI M 65 := (kp_sI kp120_65 rfl)
                    have kp1161 : mI (sI Mq120 54 25 x1156) 67 = mI M 67 := (kp_sI kp120_67 rfl)
                    have kp1162 : mI (sI Mq120 54 25 x1156) 68 = mI M 68 := (kp_sI kp120_68 rfl)
                    have kp1163 : mI (sI Mq120 54 25 x1156) 69 = mI M 69 := (kp_sI kp120_69 rfl)
                    have kp1164 : mI (sI Mq120 54 25 x1156) 70 = mI M 70 := (kp_sI kp120_70 rfl)
                    have kp1165 : mI (sI Mq120 54 25 x1156) 71 = mI M 71 := (kp_sI kp120_71 rfl)
                    have kp1166 : mI (sI Mq120 54 25 x1156) 72 = mI M 72 := (kp_sI kp120_72 rfl)
                    have kp1167 : mI (sI Mq120 54 25 x1156) 73 = mI M 73 := (kp_sI kp120_73 rfl)
                    have kp1168 : mI (sI Mq120 54 25 x1156) 74 = mI M 74 := (kp_sI kp120_74 rfl)
                    have kp1169 : mI (sI Mq120 54 25 x1156) 55 = mI M 55 := (kp_sI kp120_55 rfl)
                    have kp1170 : mI (sI Mq120 54 25 x1156) 57 = mI M 57 := (kp_sI kp120_57 rfl)
                    have kp1171 : mI (sI Mq120 54 25 x1156) 58 = mI M 58 := (kp_sI kp120_58 rfl)
                    have kp1172 : mI (sI Mq120 54 25 x1156) 63 = mI M 63 := (kp_sI kp120_63 rfl)
                    have hB1173 : BD M (sI Mq120 54 25 x1156) := BD.w54_25 hQ120 (by omega) (by omega)
                    refine vc_iconst dX12_goTurn_223 rfl ?_
                    refine vc_zret dX12_goTurn_224 rfl (by first | decide | omega) (Nat.le_of_ble_eq_true rfl) (Nat.le_of_ble_eq_true rfl) ?_
                    have k1174 : mI (sI Mq120 54 25 x1156) 54 27 = mI Mq120 54 27 := rfl
                    have k1175 : mI (sI Mq120 54 25 x1156) 54 32 = mI Mq120 54 32 := rfl
                    exact ⟨_, rfl, hB1173, kp1169, kp1170, kp1171, kp1172, kp1159, kp1160, kp1161, kp1162, kp1163, kp1164, kp1165, kp1166, kp1167, kp1168, by omega, by omega, by omega⟩
                  · refine vc_aload_n dX12_goTurn_125 rfl ?_
                    refine vc_cVI dX12_goTurn_126 (sfX12_goOn (M := Mq120) hQ120.1   ) rfl okX12_goOn viX12_goOn lkX12_348 (s_54 hQ120.1.1) cl_12 rfl (Nat.le_of_ble_eq_true rfl) ⟨rfl, rfl⟩ (Nat.le_of_ble_eq_true rfl) (Nat.le_of_ble_eq_true rfl) (Nat.le_of_ble_eq_true rfl) ?_
                    rintro x1176 M1177 ⟨hB1178, kp1179, kp1180, kp1181, kp1182, kp1183, kp1184, kp1185, kp1186, kp1187, kp1188, kp1189, kp1190, kp1191, kp1192, h1193, h1194, h1195, h1196⟩
                    have hB1197 : BD M M1177 := BD.go hQ120 hB1178
                    have kp1198 : mI M1177 64 = mI M 64 := kp_go kp120_64 kp1183
                    have kp1199 : mI M1177 65 = mI M 65 := kp_go kp120_65 kp1184
                    have kp1200 : mI M1177 67 = mI M 67 := kp_go kp120_67 kp1185
                    have kp1201 : mI M1177 68 = mI M 68 := kp_go kp120_68 kp1186
                    have kp1202 : mI M1177 69 = mI M 69 := kp_go kp120_69 kp1187
                    have kp1203 : mI M1177 70 = mI M 70 := kp_go kp120_70 kp1188
                    have kp1204 : mI M1177 71 = mI M 71 := kp_go kp120_71 kp1189
                    have kp1205 : mI M1177 72 = mI M 72 := kp_go kp120_72 kp1190
                    have kp1206 : mI M1177 73 = mI M 73 := kp_go kp120_73 kp1191
                    have kp1207 : mI M1177 74 = mI M 74 := kp_go kp120_74 kp1192
                    have kp1208 : mI M1177 55 = mI M 55 := kp_go kp120_55 kp1179
                    have kp1209 : mI M1177 57 = mI M 57 := kp_go kp120_57 kp1180
                    have kp1210 : mI M1177 58 = mI M 58 := kp_go kp120_58 kp1181
                    have kp1211 : mI M1177 63 = mI M 63 := kp_go kp120_63 kp1182
                    have kz := b54_27 (M := M1177) hB1197.1
                    refine vc_if_ne dX12_goTurn_129 (fun h1212 => ?_) (fun h1212 => ?_)
                    · refine vc_iload dX12_goTurn_134 rfl ?_
                      refine vc_if_ne dX12_goTurn_136 (fun h1213 => ?_) (fun h1213 => by exfalso; omega)
                      refine vc_iload dX12_goTurn_157 rfl ?_
                      refine vc_if_eq dX12_goTurn_159 (fun h1214 => by exfalso; omega) (fun h1214 => ?_)
                      refine vc_aload_n dX12_goTurn_162 rfl ?_
                      refine vc_aload_n dX12_goTurn_163 rfl ?_
                      refine vc_getI dX12_goTurn_164 flX12_321 (s_54 hB1197.1.1) rfl ?_
                      have k1215 : 0 ≤ mI M1177 54 24 ∧ mI M1177 54 24 ≤ 15 := b54_24 (M := M1177) hB1197.1
                      refine vc_cVI dX12_goTurn_167 (sfX12_sightOf (M := M1177) hB1197.1  (mI M1177 54 24) (by omega) (by omega)) rfl okX12_sightOf viX12_sightOf lkX12_318 (s_54 hB1197.1.1) cl_12 rfl (Nat.le_of_ble_eq_true rfl) ⟨rfl, rfl⟩ (Nat.le_of_ble_eq_true rfl) (Nat.le_of_ble_eq_true rfl) (Nat.le_of_ble_eq_true rfl) ?_
                      rintro x1216 _ rfl
                      refine vc_iload dX12_goTurn_170 rfl ?_
                      refine vc_icmp_ne dX12_goTurn_172 (fun h1217 => ?_) (fun h1217 => ?_)
                      · refine vc_iconst dX12_goTurn_179 rfl ?_
                        refine vc_goto dX12_goTurn_180 ?_
                        refine vc_istore dX12_goTurn_195 (by decide) rfl (show _ = [some (aR 54), none, some (aI s), some (aI x1), some (aI x2), some (aI 1), none, some (aI x1156), some (aI v8), some (aI 0)] from rfl) ?_
                        refine vc_goto dX12_goTurn_197 ?_
                        exact ih120 M1177 v8 0 hB1197 kp1198 kp1199 kp1200 kp1201 kp1202 kp1203 kp1204 kp1205 kp1206 kp1207 kp1208 kp1209 kp1210 kp1211 (by omega) (by omega) (by omega) (by omega) (by omega) (by omega)
                      · refine vc_iconst dX12_goTurn_175 rfl ?_
                        refine vc_goto dX12_goTurn_176 ?_
                        refine vc_istore dX12_goTurn_195 (by decide) rfl (show _ = [some (aR 54), none, some (aI s), some (aI x1), some (aI x2), some (aI 1), none, some (aI x1156), some (aI v8), some (aI 1)] from rfl) ?_
                        refine vc_goto dX12_goTurn_197 ?_
                        exact ih120 M1177 v8 1 hB1197 kp1198 kp1199 kp1200 kp1201 kp1202 kp1203 kp1204 kp1205 kp1206 kp1207 kp1208 kp1209 kp1210 kp1211 (by omega) (by omega) (by omega) (by omega) (by omega) (by omega)
                    · refine vc_iconst dX12_goTurn_132 rfl ?_
                      refine vc_zret dX12_goTurn_133 rfl (by first | decide | omega) (Nat.le_of_ble_eq_true rfl) (Nat.le_of_ble_eq_true rfl) ?_
                      exact ⟨_, rfl, hB1197, kp1208, kp1209, kp1210, kp1211, kp1198, kp1199, kp1200, kp1201, kp1202, kp1203, kp1204, kp1205, kp1206, kp1207, by omega, by omega, by omega⟩
              refine vc_less [some (aR 54), none, some (aI s), some (aI x1), some (aI x2), some (aI 1), none, some (aI x1156), some (aI 0), some (aI 0)] (lessL_keep (lessL_drop (lessL_keep (lessL_keep (lessL_keep (lessL_keep (lessL_drop (lessL_keep (lessL_keep (lessL_keep (lessL_nil))))))))))) ?_
              exact lp120 _ M 0 0 hB0 rfl rfl rfl rfl rfl rfl rfl rfl rfl rfl rfl rfl rfl rfl (by omega) (by omega) (by omega) (by omega) (by omega) (Nat.lt_succ_self _)
        · refine vc_iconst dX12_goTurn_57 rfl ?_
          refine vc_goto dX12_goTurn_58 ?_
          refine vc_iload_n dX12_goTurn_62 rfl ?_
          refine vc_iconst dX12_goTurn_63 rfl ?_
          refine vc_iandM dX12_goTurn_64 2 1 rfl (by decide) rfl ?_
          refine vc_if_ne dX12_goTurn_65 (fun h1218 => ?_) (fun h1218 => ?_)
          · refine vc_iconst dX12_goTurn_72 rfl ?_
            refine vc_icmp_ne dX12_goTurn_73 (fun h1219 => ?_) (fun h1219 => by exfalso; omega)
            refine vc_iconst dX12_goTurn_80 rfl ?_
            refine vc_istore dX12_goTurn_81 (by decide) rfl (show _ = [some (aR 54), some (aI t), some (aI s), some (aI x1), some (aI x2), some (aI 1), some (aI 0), none, none, none] from rfl) ?_
            refine vc_iload_n dX12_goTurn_83 rfl ?_
            refine vc_iconst dX12_goTurn_84 rfl ?_
            refine vc_icmp_ne dX12_goTurn_85 (fun h1220 => ?_) (fun h1220 => by exfalso; omega)
            refine vc_aload_n dX12_goTurn_95 rfl ?_
            refine vc_getI dX12_goTurn_96 flX12_324 (s_54 hB0.1.1) rfl ?_
            have k1221 : 0 ≤ mI M 54 25 ∧ mI M 54 25 ≤ 3 := b54_25 (M := M) hB0.1
            refine vc_iload dX12_goTurn_99 rfl ?_
            refine vc_if_eq dX12_goTurn_101 (fun h1222 => ?_) (fun h1222 => by exfalso; omega)
            refine vc_iconst dX12_goTurn_108 rfl ?_
            refine vc_iaddE dX12_goTurn_109 (by omega) (by omega) ?_
            refine vc_iconst dX12_goTurn_110 rfl ?_
            refine vc_iremE dX12_goTurn_111 (by omega) (by omega) ?_
            refine vc_nameI (fun x1223 ex1223 => ?_)
            refine vc_istore dX12_goTurn_112 (by decide) rfl (show _ = [some (aR 54), some (aI t), some (aI s), some (aI x1), some (aI x2), some (aI 1), some (aI 0), some (aI x1223), none, none] from rfl) ?_
            refine vc_iconst dX12_goTurn_114 rfl ?_
            refine vc_istore dX12_goTurn_115 (by decide) rfl (show _ = [some (aR 54), some (aI t), some (aI s), some (aI x1), some (aI x2), some (aI 1), some (aI 0), some (aI x1223), some (aI 0), none] from rfl) ?_
            refine vc_iconst dX12_goTurn_117 rfl ?_
            refine vc_istore dX12_goTurn_118 (by decide) rfl (show _ = [some (aR 54), some (aI t), some (aI s), some (aI x1), some (aI x2), some (aI 1), some (aI 0), some (aI x1223), some (aI 0), some (aI 0)] from rfl) ?_
            have lp120 : ∀ (n120 : Nat) (Mq120 : Mem) (v8 : Int) (v9 : Int), (BD M Mq120) → (mI Mq120 64 = mI M 64) → (mI Mq120 65 = mI M 65) → (mI Mq120 67 = mI M 67) → (mI Mq120 68 = mI M 68) → (mI Mq120 69 = mI M 69) → (mI Mq120 70 = mI M 70) → (mI Mq120 71 = mI M 71) → (mI Mq120 72 = mI M 72) → (mI Mq120 73 = mI M 73) → (mI Mq120 74 = mI M 74) → (mI Mq120 55 = mI M 55) → (mI Mq120 57 = mI M 57) → (mI Mq120 58 = mI M 58) → (mI Mq120 63 = mI M 63) → (0 ≤ v9) → (v9 ≤ 1) → (mI Mq120 54 32 = mI M 54 32) → (0 ≤ mI Mq120 54 27) → (mI Mq120 54 27 ≤ 40) → (40 - mI Mq120 54 27).toNat < n120 → VC l mdX12_goTurn 120 [some (aR 54), none, some (aI s), some (aI x1), some (aI x2), some (aI 1), none, some (aI x1223), some (aI v8), some (aI v9)] [] Mq120 0 0 (fun q N => ∃ r : Int, q = some (aI r) ∧ BD M N ∧ mI N 55 = mI M 55 ∧ mI N 57 = mI M 57 ∧ mI N 58 = mI M 58 ∧ mI N 63 = mI M 63 ∧ mI N 64 = mI M 64 ∧ mI N 65 = mI M 65 ∧ mI N 67 = mI M 67 ∧ mI N 68 = mI M 68 ∧ mI N 69 = mI M 69 ∧ mI N 70 = mI M 70 ∧ mI N 71 = mI M 71 ∧ mI N 72 = mI M 72 ∧ mI N 73 = mI M 73 ∧ mI N 74 = mI M 74 ∧ 0 ≤ r ∧ r ≤ 1 ∧ mI N 54 32 = mI M 54 32) := by
              intro n120
              induction n120 with
              | zero => intro Mq120 v8 v9 hQ120 kp120_64 kp120_65 kp120_67 kp120_68 kp120_69 kp120_70 kp120_71 kp120_72 kp120_73 kp120_74 kp120_55 kp120_57 kp120_58 kp120_63 g120_9a g120_9b g120i0 g120i1 g120i2 hm120; exact absurd hm120 (Nat.not_lt_zero _)
              | succ n120 ih120 =>
                intro Mq120 v8 v9 hQ120 kp120_64 kp120_65 kp120_67 kp120_68 kp120_69 kp120_70 kp120_71 kp120_72 kp120_73 kp120_74 kp120_55 kp120_57 kp120_58 kp120_63 g120_9a g120_9b g120i0 g120i1 g120i2 hm120
                refine vc_iload dX12_goTurn_120 rfl ?_
                refine vc_if_ne dX12_goTurn_122 (fun h1224 => ?_) (fun h1224 => ?_)
                · refine vc_iload_n dX12_goTurn_200 rfl ?_
                  refine vc_iconst dX12_goTurn_201 rfl ?_
                  refine vc_icmp_eq dX12_goTurn_202 (fun h1225 => by exfalso; omega) (fun h1225 => ?_)
                  refine vc_aload_n dX12_goTurn_205 rfl ?_
                  refine vc_iload dX12_goTurn_206 rfl ?_
                  refine vc_iload_n dX12_goTurn_208 rfl ?_
                  refine vc_cVI dX12_goTurn_209 (sfX12_isCounted (M := Mq120) hQ120.1  x1223 s (by omega) (by omega)) rfl okX12_isCounted viX12_isCounted lkX12_352 (s_54 hQ120.1.1) cl_12 rfl (Nat.le_of_ble_eq_true rfl) ⟨rfl, rfl⟩ (Nat.le_of_ble_eq_true rfl) (Nat.le_of_ble_eq_true rfl) (Nat.le_of_ble_eq_true rfl) ?_
                  rintro x1226 _ ⟨rfl, h1227, h1228⟩
                  refine vc_if_ne dX12_goTurn_212 (fun h1229 => ?_) (fun h1229 => ?_)
                  · refine vc_aload_n dX12_goTurn_217 rfl ?_
                    refine vc_iload dX12_goTurn_218 rfl ?_
                    refine vc_putI dX12_goTurn_220 (plX12_324 _ rfl) (s_54 hQ120.1.1) rfl ?_
                    have kp1230 : mI (sI Mq120 54 25 x1223) 64 = mI M 64 := (kp_sI kp120_64 rfl)
                    have kp1231 : mI (sI Mq120 54 25 x1223) 65 = mI M 65 := (kp_sI kp120_65 rfl)
                    have kp1232 : mI (sI Mq120 54 25 x1223) 67 = mI M 67 := (kp_sI kp120_67 rfl)
                    have kp1233 : mI (sI Mq120 54 25 x1223) 68 = mI M 68 := (kp_sI kp120_68 rfl)
                    have kp1234 : mI (sI Mq120 54 25 x1223) 69 = mI M 69 := (kp_sI kp120_69 rfl)
                    have kp1235 : mI (sI Mq120 54 25 x1223) 70 = mI M 70 := (kp_sI kp120_70 rfl)
                    have kp1236 : mI (sI Mq120 54 25 x1223) 71 = mI M 71 := (kp_sI kp120_71 rfl)
                    have kp1237 : mI (sI Mq120 54 25 x1223) 72 = mI M 72 := (kp_sI kp120_72 rfl)
                    have kp1238 : mI (sI Mq120 54 25 x1223) 73 = mI M 73 := (kp_sI kp120_73 rfl)
                    have kp1239 : mI (sI Mq120 54 25 x1223) 74 = mI M 74 := (kp_sI kp120_74 rfl)
                    have kp1240 : mI (sI Mq120 54 25 x1223) 55 = mI M 55 := (kp_sI kp120_55 rfl)
                    have kp1241 : mI (sI Mq120 54 25 x1223) 57 = mI M 57 := (kp_sI kp120_57 rfl)
                    have kp1242 : mI (sI Mq120 54 25 x1223) 58 = mI M 58 := (kp_sI kp120_58 rfl)
                    have kp1243 : mI (sI Mq120 54 25 x1223) 63 = mI M 63 := (kp_sI kp120_63 rfl)
                    have hB1244 : BD M (sI Mq120 54 25 x1223) := BD.w54_25 hQ120 (by omega) (by omega)
                    refine vc_iconst dX12_goTurn_223 rfl ?_
                    refine vc_zret dX12_goTurn_224 rfl (by first | decide | omega) (Nat.le_of_ble_eq_true rfl) (Nat.le_of_ble_eq_true rfl) ?_
                    have k1245 : mI (sI Mq120 54 25 x1223) 54 27 = mI Mq120 54 27 := rfl
                    have k1246 : mI (sI Mq120 54 25 x1223) 54 32 = mI Mq120 54 32 := rfl
                    exact ⟨_, rfl, hB1244, kp1240, kp1241, kp1242, kp1243, kp1230, kp1231, kp1232, kp1233, kp1234, kp1235, kp1236, kp1237, kp1238, kp1239, by omega, by omega, by omega⟩
                  · refine vc_iconst dX12_goTurn_215 rfl ?_
                    refine vc_zret dX12_goTurn_216 rfl (by first | decide | omega) (Nat.le_of_ble_eq_true rfl) (Nat.le_of_ble_eq_true rfl) ?_
                    exact ⟨_, rfl, hQ120, kp120_55, kp120_57, kp120_58, kp120_63, kp120_64, kp120_65, kp120_67, kp120_68, kp120_69, kp120_70, kp120_71, kp120_72, kp120_73, kp120_74, by omega, by omega, by omega⟩
                · refine vc_aload_n dX12_goTurn_125 rfl ?_
                  refine vc_cVI dX12_goTurn_126 (sfX12_goOn (M := Mq120) hQ120.1   ) rfl okX12_goOn viX12_goOn lkX12_348 (s_54 hQ120.1.1) cl_12 rfl (Nat.le_of_ble_eq_true rfl) ⟨rfl, rfl⟩ (Nat.le_of_ble_eq_true rfl) (Nat.le_of_ble_eq_true rfl) (Nat.le_of_ble_eq_true rfl) ?_
                  rintro x1247 M1248 ⟨hB1249, kp1250, kp1251, kp1252, kp1253, kp1254, kp1255, kp1256, kp1257, kp1258, kp1259, kp1260, kp1261, kp1262, kp1263, h1264, h1265, h1266, h1267⟩
                  have hB1268 : BD M M1248 := BD.go hQ120 hB1249
                  have kp1269 : mI M1248 64 = mI M 64 := kp_go kp120_64 kp1254
                  have kp1270 : mI M1248 65 = mI M 65 := kp_go kp120_65 kp1255
                  have kp1271 : mI M1248 67 = mI M 67 := kp_go kp120_67 kp1256
                  have kp1272 : mI M1248 68 = mI M 68 := kp_go kp120_68 kp1257
                  have kp1273 : mI M1248 69 = mI M 69 := kp_go kp120_69 kp1258
                  have kp1274 : mI M1248 70 = mI M 70 := kp_go kp120_70 kp1259
                  have kp1275 : mI M1248 71 = mI M 71 := kp_go kp120_71 kp1260
                  have kp1276 : mI M1248 72 = mI M 72 := kp_go kp120_72 kp1261
                  have kp1277 : mI M1248 73 = mI M 73 := kp_go kp120_73 kp1262
                  have kp1278 : mI M1248 74 = mI M 74 := kp_go kp120_74 kp1263
                  have kp1279 : mI M1248 55 = mI M 55 := kp_go kp120_55 kp1250
                  have kp1280 : mI M1248 57 = mI M 57 := kp_go kp120_57 kp1251
                  have kp1281 : mI M1248 58 = mI M 58 := kp_go kp120_58 kp1252
                  have kp1282 : mI M1248 63 = mI M 63 := kp_go kp120_63 kp1253
                  have kz := b54_27 (M := M1248) hB1268.1
                  refine vc_if_ne dX12_goTurn_129 (fun h1283 => ?_) (fun h1283 => ?_)
                  · refine vc_iload dX12_goTurn_134 rfl ?_
                    refine vc_if_ne dX12_goTurn_136 (fun h1284 => ?_) (fun h1284 => by exfalso; omega)
                    refine vc_iload dX12_goTurn_157 rfl ?_
                    refine vc_if_eq dX12_goTurn_159 (fun h1285 => by exfalso; omega) (fun h1285 => ?_)
                    refine vc_aload_n dX12_goTurn_162 rfl ?_
                    refine vc_aload_n dX12_goTurn_163 rfl ?_
                    refine vc_getI dX12_goTurn_164 flX12_321 (s_54 hB1268.1.1) rfl ?_
                    have k1286 : 0 ≤ mI M1248 54 24 ∧ mI M1248 54 24 ≤ 15 := b54_24 (M := M1248) hB1268.1
                    refine vc_cVI dX12_goTurn_167 (sfX12_sightOf (M := M1248) hB1268.1  (mI M1248 54 24) (by omega) (by omega)) rfl okX12_sightOf viX12_sightOf lkX12_318 (s_54 hB1268.1.1) cl_12 rfl (Nat.le_of_ble_eq_true rfl) ⟨rfl, rfl⟩ (Nat.le_of_ble_eq_true rfl) (Nat.le_of_ble_eq_true rfl) (Nat.le_of_ble_eq_true rfl) ?_
                    rintro x1287 _ rfl
                    refine vc_iload dX12_goTurn_170 rfl ?_
                    refine vc_icmp_ne dX12_goTurn_172 (fun h1288 => ?_) (fun h1288 => ?_)
                    · refine vc_iconst dX12_goTurn_179 rfl ?_
                      refine vc_goto dX12_goTurn_180 ?_
                      refine vc_istore dX12_goTurn_195 (by decide) rfl (show _ = [some (aR 54), none, some (aI s), some (aI x1), some (aI x2), some (aI 1), none, some (aI x1223), some (aI v8), some (aI 0)] from rfl) ?_
                      refine vc_goto dX12_goTurn_197 ?_
                      exact ih120 M1248 v8 0 hB1268 kp1269 kp1270 kp1271 kp1272 kp1273 kp1274 kp1275 kp1276 kp1277 kp1278 kp1279 kp1280 kp1281 kp1282 (by omega) (by omega) (by omega) (by omega) (by omega) (by omega)
                    · refine vc_iconst dX12_goTurn_175 rfl ?_
                      refine vc_goto dX12_goTurn_176 ?_
                      refine vc_istore dX12_goTurn_195 (by decide) rfl (show _ = [some (aR 54), none, some (aI s), some (aI x1), some (aI x2), some (aI 1), none, some (aI x1223), some (aI v8), some (aI 1)] from rfl) ?_
                      refine vc_goto dX12_goTurn_197 ?_
                      exact ih120 M1248 v8 1 hB1268 kp1269 kp1270 kp1271 kp1272 kp1273 kp1274 kp1275 kp1276 kp1277 kp1278 kp1279 kp1280 kp1281 kp1282 (by omega) (by omega) (by omega) (by omega) (by omega) (by omega)
                  · refine vc_iconst dX12_goTurn_132 rfl ?_
                    refine vc_zret dX12_goTurn_133 rfl (by first | decide | omega) (Nat.le_of_ble_eq_true rfl) (Nat.le_of_ble_eq_true rfl) ?_
                    exact ⟨_, rfl, hB1268, kp1279, kp1280, kp1281, kp1282, kp1269, kp1270, kp1271, kp1272, kp1273, kp1274, kp1275, kp1276, kp1277, kp1278, by omega, by omega, by omega⟩
            refine vc_less [some (aR 54), none, some (aI s), some (aI x1), some (aI x2), some (aI 1), none, some (aI x1223), some (aI 0), some (aI 0)] (lessL_keep (lessL_drop (lessL_keep (lessL_keep (lessL_keep (lessL_keep (lessL_drop (lessL_keep (lessL_keep (lessL_keep (lessL_nil))))))))))) ?_
            exact lp120 _ M 0 0 hB0 rfl rfl rfl rfl rfl rfl rfl rfl rfl rfl rfl rfl rfl rfl (by omega) (by omega) (by omega) (by omega) (by omega) (Nat.lt_succ_self _)
          · refine vc_iconst dX12_goTurn_68 rfl ?_
            refine vc_goto dX12_goTurn_69 ?_
            refine vc_icmp_ne dX12_goTurn_73 (fun h1289 => by exfalso; omega) (fun h1289 => ?_)
            refine vc_iconst dX12_goTurn_76 rfl ?_
            refine vc_goto dX12_goTurn_77 ?_
            refine vc_istore dX12_goTurn_81 (by decide) rfl (show _ = [some (aR 54), some (aI t), some (aI s), some (aI x1), some (aI x2), some (aI 1), some (aI 1), none, none, none] from rfl) ?_
            refine vc_iload_n dX12_goTurn_83 rfl ?_
            refine vc_iconst dX12_goTurn_84 rfl ?_
            refine vc_icmp_ne dX12_goTurn_85 (fun h1290 => ?_) (fun h1290 => by exfalso; omega)
            refine vc_aload_n dX12_goTurn_95 rfl ?_
            refine vc_getI dX12_goTurn_96 flX12_324 (s_54 hB0.1.1) rfl ?_
            have k1291 : 0 ≤ mI M 54 25 ∧ mI M 54 25 ≤ 3 := b54_25 (M := M) hB0.1
            refine vc_iload dX12_goTurn_99 rfl ?_
            refine vc_if_eq dX12_goTurn_101 (fun h1292 => by exfalso; omega) (fun h1292 => ?_)
            refine vc_iconst dX12_goTurn_104 rfl ?_
            refine vc_goto dX12_goTurn_105 ?_
            refine vc_iaddE dX12_goTurn_109 (by omega) (by omega) ?_
            refine vc_iconst dX12_goTurn_110 rfl ?_
            refine vc_iremE dX12_goTurn_111 (by omega) (by omega) ?_
            refine vc_nameI (fun x1293 ex1293 => ?_)
            refine vc_istore dX12_goTurn_112 (by decide) rfl (show _ = [some (aR 54), some (aI t), some (aI s), some (aI x1), some (aI x2), some (aI 1), some (aI 1), some (aI x1293), none, none] from rfl) ?_
            refine vc_iconst dX12_goTurn_114 rfl ?_
            refine vc_istore dX12_goTurn_115 (by decide) rfl (show _ = [some (aR 54), some (aI t), some (aI s), some (aI x1), some (aI x2), some (aI 1), some (aI 1), some (aI x1293), some (aI 0), none] from rfl) ?_
            refine vc_iconst dX12_goTurn_117 rfl ?_
            refine vc_istore dX12_goTurn_118 (by decide) rfl (show _ = [some (aR 54), some (aI t), some (aI s), some (aI x1), some (aI x2), some (aI 1), some (aI 1), some (aI x1293), some (aI 0), some (aI 0)] from rfl) ?_
            have lp120 : ∀ (n120 : Nat) (Mq120 : Mem) (v8 : Int) (v9 : Int), (BD M Mq120) → (mI Mq120 64 = mI M 64) → (mI Mq120 65 = mI M 65) → (mI Mq120 67 = mI M 67) → (mI Mq120 68 = mI M 68) → (mI Mq120 69 = mI M 69) → (mI Mq120 70 = mI M 70) → (mI Mq120 71 = mI M 71) → (mI Mq120 72 = mI M 72) → (mI Mq120 73 = mI M 73) → (mI Mq120 74 = mI M 74) → (mI Mq120 55 = mI M 55) → (mI Mq120 57 = mI M 57) → (mI Mq120 58 = mI M 58) → (mI Mq120 63 = mI M 63) → (0 ≤ v9) → (v9 ≤ 1) → (mI Mq120 54 32 = mI M 54 32) → (0 ≤ mI Mq120 54 27) → (mI Mq120 54 27 ≤ 40) → (40 - mI Mq120 54 27).toNat < n120 → VC l mdX12_goTurn 120 [some (aR 54), none, some (aI s), some (aI x1), some (aI x2), some (aI 1), none, some (aI x1293), some (aI v8), some (aI v9)] [] Mq120 0 0 (fun q N => ∃ r : Int, q = some (aI r) ∧ BD M N ∧ mI N 55 = mI M 55 ∧ mI N 57 = mI M 57 ∧ mI N 58 = mI M 58 ∧ mI N 63 = mI M 63 ∧ mI N 64 = mI M 64 ∧ mI N 65 = mI M 65 ∧ mI N 67 = mI M 67 ∧ mI N 68 = mI M 68 ∧ mI N 69 = mI M 69 ∧ mI N 70 = mI M 70 ∧ mI N 71 = mI M 71 ∧ mI N 72 = mI M 72 ∧ mI N 73 = mI M 73 ∧ mI N 74 = mI M 74 ∧ 0 ≤ r ∧ r ≤ 1 ∧ mI N 54 32 = mI M 54 32) := by
              intro n120
              induction n120 with
              | zero => intro Mq120 v8 v9 hQ120 kp120_64 kp120_65 kp120_67 kp120_68 kp120_69 kp120_70 kp120_71 kp120_72 kp120_73 kp120_74 kp120_55 kp120_57 kp120_58 kp120_63 g120_9a g120_9b g120i0 g120i1 g120i2 hm120; exact absurd hm120 (Nat.not_lt_zero _)
              | succ n120 ih120 =>
                intro Mq120 v8 v9 hQ120 kp120_64 kp120_65 kp120_67 kp120_68 kp120_69 kp120_70 kp120_71 kp120_72 kp120_73 kp120_74 kp120_55 kp120_57 kp120_58 kp120_63 g120_9a g120_9b g120i0 g120i1 g120i2 hm120
                refine vc_iload dX12_goTurn_120 rfl ?_
                refine vc_if_ne dX12_goTurn_122 (fun h1294 => ?_) (fun h1294 => ?_)
                · refine vc_iload_n dX12_goTurn_200 rfl ?_
                  refine vc_iconst dX12_goTurn_201 rfl ?_
                  refine vc_icmp_eq dX12_goTurn_202 (fun h1295 => by exfalso; omega) (fun h1295 => ?_)
                  refine vc_aload_n dX12_goTurn_205 rfl ?_
                  refine vc_iload dX12_goTurn_206 rfl ?_
                  refine vc_iload_n dX12_goTurn_208 rfl ?_
                  refine vc_cVI dX12_goTurn_209 (sfX12_isCounted (M := Mq120) hQ120.1  x1293 s (by omega) (by omega)) rfl okX12_isCounted viX12_isCounted lkX12_352 (s_54 hQ120.1.1) cl_12 rfl (Nat.le_of_ble_eq_true rfl) ⟨rfl, rfl⟩ (Nat.le_of_ble_eq_true rfl) (Nat.le_of_ble_eq_true rfl) (Nat.le_of_ble_eq_true rfl) ?_
                  rintro x1296 _ ⟨rfl, h1297, h1298⟩
                  refine vc_if_ne dX12_goTurn_212 (fun h1299 => ?_) (fun h1299 => ?_)
                  · refine vc_aload_n dX12_goTurn_217 rfl ?_
                    refine vc_iload dX12_goTurn_218 rfl ?_
                    refine vc_putI dX12_goTurn_220 (plX12_324 _ rfl) (s_54 hQ120.1.1) rfl ?_
                    have kp1300 : mI (sI Mq120 54 25 x1293) 64 = mI M 64 := (kp_sI kp120_64 rfl)
                    have kp1301 : mI (sI Mq120 54 25 x1293) 65 = mI M 65 := (kp_sI kp120_65 rfl)
                    have kp1302 : mI (sI Mq120 54 25 x1293) 67 = mI M 67 := (kp_sI kp120_67 rfl)
                    have kp1303 : mI (sI Mq120 54 25 x1293) 68 = mI M 68 := (kp_sI kp120_68 rfl)
                    have kp1304 : mI (sI Mq120 54 25 x1293) 69 = mI M 69 := (kp_sI kp120_69 rfl)
                    have kp1305 : mI (sI Mq120 54 25 x1293) 70 = mI M 70 := (kp_sI kp120_70 rfl)
                    have kp1306 : mI (sI Mq120 54 25 x1293) 71 = mI M 71 := (kp_sI kp120_71 rfl)
                    have kp1307 : mI (sI Mq120 54 25 x1293) 72 = mI M 72 := (kp_sI kp120_72 rfl)
                    have kp1308 : mI (sI Mq120 54 25 x1293) 73 = mI M 73 := (kp_sI kp120_73 rfl)
                    have kp1309 : mI (sI Mq120 54 25 x1293) 74 = mI M 74 := (kp_sI kp120_74 rfl)
                    have kp1310 : mI (sI Mq120 54 25 x1293) 55 = mI M 55 := (kp_sI kp120_55 rfl)
                    have kp1311 : mI (sI Mq120 54 25 x1293) 57 = mI M 57 := (kp_sI kp120_57 rfl)
                    have kp1312 : mI (sI Mq120 54 25 x1293) 58 = mI M 58 := (kp_sI kp120_58 rfl)
                    have kp1313 : mI (sI Mq120 54 25 x1293) 63 = mI M 63 := (kp_sI kp120_63 rfl)
                    have hB1314 : BD M (sI Mq120 54 25 x1293) := BD.w54_25 hQ120 (by omega) (by omega)
                    refine vc_iconst dX12_goTurn_223 rfl ?_
                    refine vc_zret dX12_goTurn_224 rfl (by first | decide | omega) (Nat.le_of_ble_eq_true rfl) (Nat.le_of_ble_eq_true rfl) ?_
                    have k1315 : mI (sI Mq120 54 25 x1293) 54 27 = mI Mq120 54 27 := rfl
                    have k1316 : mI (sI Mq120 54 25 x1293) 54 32 = mI Mq120 54 32 := rfl
                    exact ⟨_, rfl, hB1314, kp1310, kp1311, kp1312, kp1313, kp1300, kp1301, kp1302, kp1303, kp1304, kp1305, kp1306, kp1307, kp1308, kp1309, by omega, by omega, by omega⟩
                  · refine vc_iconst dX12_goTurn_215 rfl ?_
                    refine vc_zret dX12_goTurn_216 rfl (by first | decide | omega) (Nat.le_of_ble_eq_true rfl) (Nat.le_of_ble_eq_true rfl) ?_
                    exact ⟨_, rfl, hQ120, kp120_55, kp120_57, kp120_58, kp120_63, kp120_64, kp120_65, kp120_67, kp120_68, kp120_69, kp120_70, kp120_71, kp120_72, kp120_73, kp120_74, by omega, by omega, by omega⟩
                · refine vc_aload_n dX12_goTurn_125 rfl ?_
                  refine vc_cVI dX12_goTurn_126 (sfX12_goOn (M := Mq120) hQ120.1   ) rfl okX12_goOn viX12_goOn lkX12_348 (s_54 hQ120.1.1) cl_12 rfl (Nat.le_of_ble_eq_true rfl) ⟨rfl, rfl⟩ (Nat.le_of_ble_eq_true rfl) (Nat.le_of_ble_eq_true rfl) (Nat.le_of_ble_eq_true rfl) ?_
                  rintro x1317 M1318 ⟨hB1319, kp1320, kp1321, kp1322, kp1323, kp1324, kp1325, kp1326, kp1327, kp1328, kp1329, kp1330, kp1331, kp1332, kp1333, h1334, h1335, h1336, h1337⟩
                  have hB1338 : BD M M1318 := BD.go hQ120 hB1319
                  have kp1339 : mI M1318 64 = mI M 64 := kp_go kp120_64 kp1324
                  have kp1340 : mI M1318 65 = mI M 65 := kp_go kp120_65 kp1325
                  have kp1341 : mI M1318 67 = mI M 67 := kp_go kp120_67 kp1326
                  have kp1342 : mI M1318 68 = mI M 68 := kp_go kp120_68 kp1327
                  have kp1343 : mI M1318 69 = mI M 69 := kp_go kp120_69 kp1328
                  have kp1344 : mI M1318 70 = mI M 70 := kp_go kp120_70 kp1329
                  have kp1345 : mI M1318 71 = mI M 71 := kp_go kp120_71 kp1330
                  have kp1346 : mI M1318 72 = mI M 72 := kp_go kp120_72 kp1331
                  have kp1347 : mI M1318 73 = mI M 73 := kp_go kp120_73 kp1332
                  have kp1348 : mI M1318 74 = mI M 74 := kp_go kp120_74 kp1333
                  have kp1349 : mI M1318 55 = mI M 55 := kp_go kp120_55 kp1320
                  have kp1350 : mI M1318 57 = mI M 57 := kp_go kp120_57 kp1321
                  have kp1351 : mI M1318 58 = mI M 58 := kp_go kp120_58 kp1322
                  have kp1352 : mI M1318 63 = mI M 63 := kp_go kp120_63 kp1323
                  have kz := b54_27 (M := M1318) hB1338.1
                  refine vc_if_ne dX12_goTurn_129 (fun h1353 => ?_) (fun h1353 => ?_)
                  · refine vc_iload dX12_goTurn_134 rfl ?_
                    refine vc_if_ne dX12_goTurn_136 (fun h1354 => ?_) (fun h1354 => by exfalso; omega)
                    refine vc_iload dX12_goTurn_157 rfl ?_
                    refine vc_if_eq dX12_goTurn_159 (fun h1355 => by exfalso; omega) (fun h1355 => ?_)
                    refine vc_aload_n dX12_goTurn_162 rfl ?_
                    refine vc_aload_n dX12_goTurn_163 rfl ?_
                    refine vc_getI dX12_goTurn_164 flX12_321 (s_54 hB1338.1.1) rfl ?_
                    have k1356 : 0 ≤ mI M1318 54 24 ∧ mI M1318 54 24 ≤ 15 := b54_24 (M := M1318) hB1338.1
                    refine vc_cVI dX12_goTurn_167 (sfX12_sightOf (M := M1318) hB1338.1  (mI M1318 54 24) (by omega) (by omega)) rfl okX12_sightOf viX12_sightOf lkX12_318 (s_54 hB1338.1.1) cl_12 rfl (Nat.le_of_ble_eq_true rfl) ⟨rfl, rfl⟩ (Nat.le_of_ble_eq_true rfl) (Nat.le_of_ble_eq_true rfl) (Nat.le_of_ble_eq_true rfl) ?_
                    rintro x1357 _ rfl
                    refine vc_iload dX12_goTurn_170 rfl ?_
                    refine vc_icmp_ne dX12_goTurn_172 (fun h1358 => ?_) (fun h1358 => ?_)
                    · refine vc_iconst dX12_goTurn_179 rfl ?_
                      refine vc_goto dX12_goTurn_180 ?_
                      refine vc_istore dX12_goTurn_195 (by decide) rfl (show _ = [some (aR 54), none, some (aI s), some (aI x1), some (aI x2), some (aI 1), none, some (aI x1293), some (aI v8), some (aI 0)] from rfl) ?_
                      refine vc_goto dX12_goTurn_197 ?_
                      exact ih120 M1318 v8 0 hB1338 kp1339 kp1340 kp1341 kp1342 kp1343 kp1344 kp1345 kp1346 kp1347 kp1348 kp1349 kp1350 kp1351 kp1352 (by omega) (by omega) (by omega) (by omega) (by omega) (by omega)
                    · refine vc_iconst dX12_goTurn_175 rfl ?_
                      refine vc_goto dX12_goTurn_176 ?_
                      refine vc_istore dX12_goTurn_195 (by decide) rfl (show _ = [some (aR 54), none, some (aI s), some (aI x1), some (aI x2), some (aI 1), none, some (aI x1293), some (aI v8), some (aI 1)] from rfl) ?_
                      refine vc_goto dX12_goTurn_197 ?_
                      exact ih120 M1318 v8 1 hB1338 kp1339 kp1340 kp1341 kp1342 kp1343 kp1344 kp1345 kp1346 kp1347 kp1348 kp1349 kp1350 kp1351 kp1352 (by omega) (by omega) (by omega) (by omega) (by omega) (by omega)
                  · refine vc_iconst dX12_goTurn_132 rfl ?_
                    refine vc_zret dX12_goTurn_133 rfl (by first | decide | omega) (Nat.le_of_ble_eq_true rfl) (Nat.le_of_ble_eq_true rfl) ?_
                    exact ⟨_, rfl, hB1338, kp1349, kp1350, kp1351, kp1352, kp1339, kp1340, kp1341, kp1342, kp1343, kp1344, kp1345, kp1346, kp1347, kp1348, by omega, by omega, by omega⟩
            refine vc_less [some (aR 54), none, some (aI s), some (aI x1), some (aI x2), some (aI 1), none, some (aI x1293), some (aI 0), some (aI 0)] (lessL_keep (lessL_drop (lessL_keep (lessL_keep (lessL_keep (lessL_keep (lessL_drop (lessL_keep (lessL_keep (lessL_keep (lessL_nil))))))))))) ?_
            exact lp120 _ M 0 0 hB0 rfl rfl rfl rfl rfl rfl rfl rfl rfl rfl rfl rfl rfl rfl (by omega) (by omega) (by omega) (by omega) (by omega) (Nat.lt_succ_self _)
      · refine vc_iconst dX12_goTurn_46 rfl ?_
        refine vc_iload dX12_goTurn_47 rfl ?_
        refine vc_isub dX12_goTurn_49 ?_
        refine vc_nameI (fun x1359 ex1359 => ?_)
        refine vc_istore dX12_goTurn_50 (by decide) rfl (show _ = [some (aR 54), some (aI t), some (aI s), some (aI x1), some (aI x1359), some (aI 1), none, none, none, none] from rfl) ?_
        refine vc_iload_n dX12_goTurn_52 rfl ?_
        refine vc_iconst dX12_goTurn_53 rfl ?_
        refine vc_icmp_ne dX12_goTurn_54 (fun h1360 => ?_) (fun h1360 => ?_)
        · refine vc_iconst dX12_goTurn_61 rfl ?_
          refine vc_iload_n dX12_goTurn_62 rfl ?_
          refine vc_iconst dX12_goTurn_63 rfl ?_
          refine vc_iandM dX12_goTurn_64 2 1 rfl (by decide) rfl ?_
          refine vc_if_ne dX12_goTurn_65 (fun h1361 => ?_) (fun h1361 => ?_)
          · refine vc_iconst dX12_goTurn_72 rfl ?_
            refine vc_icmp_ne dX12_goTurn_73 (fun h1362 => by exfalso; omega) (fun h1362 => ?_)
            refine vc_iconst dX12_goTurn_76 rfl ?_
            refine vc_goto dX12_goTurn_77 ?_
            refine vc_istore dX12_goTurn_81 (by decide) rfl (show _ = [some (aR 54), some (aI t), some (aI s), some (aI x1), some (aI x1359), some (aI 1), some (aI 1), none, none, none] from rfl) ?_
            refine vc_iload_n dX12_goTurn_83 rfl ?_
            refine vc_iconst dX12_goTurn_84 rfl ?_
            refine vc_icmp_ne dX12_goTurn_85 (fun h1363 => ?_) (fun h1363 => ?_)
            · refine vc_aload_n dX12_goTurn_95 rfl ?_
              refine vc_getI dX12_goTurn_96 flX12_324 (s_54 hB0.1.1) rfl ?_
              have k1364 : 0 ≤ mI M 54 25 ∧ mI M 54 25 ≤ 3 := b54_25 (M := M) hB0.1
              refine vc_iload dX12_goTurn_99 rfl ?_
              refine vc_if_eq dX12_goTurn_101 (fun h1365 => by exfalso; omega) (fun h1365 => ?_)
              refine vc_iconst dX12_goTurn_104 rfl ?_
              refine vc_goto dX12_goTurn_105 ?_
              refine vc_iaddE dX12_goTurn_109 (by omega) (by omega) ?_
              refine vc_iconst dX12_goTurn_110 rfl ?_
              refine vc_iremE dX12_goTurn_111 (by omega) (by omega) ?_
              refine vc_nameI (fun x1366 ex1366 => ?_)
              refine vc_istore dX12_goTurn_112 (by decide) rfl (show _ = [some (aR 54), some (aI t), some (aI s), some (aI x1), some (aI x1359), some (aI 1), some (aI 1), some (aI x1366), none, none] from rfl) ?_
              refine vc_iconst dX12_goTurn_114 rfl ?_
              refine vc_istore dX12_goTurn_115 (by decide) rfl (show _ = [some (aR 54), some (aI t), some (aI s), some (aI x1), some (aI x1359), some (aI 1), some (aI 1), some (aI x1366), some (aI 0), none] from rfl) ?_
              refine vc_iconst dX12_goTurn_117 rfl ?_
              refine vc_istore dX12_goTurn_118 (by decide) rfl (show _ = [some (aR 54), some (aI t), some (aI s), some (aI x1), some (aI x1359), some (aI 1), some (aI 1), some (aI x1366), some (aI 0), some (aI 0)] from rfl) ?_
              have lp120 : ∀ (n120 : Nat) (Mq120 : Mem) (v8 : Int) (v9 : Int), (BD M Mq120) → (mI Mq120 64 = mI M 64) → (mI Mq120 65 = mI M 65) → (mI Mq120 67 = mI M 67) → (mI Mq120 68 = mI M 68) → (mI Mq120 69 = mI M 69) → (mI Mq120 70 = mI M 70) → (mI Mq120 71 = mI M 71) → (mI Mq120 72 = mI M 72) → (mI Mq120 73 = mI M 73) → (mI Mq120 74 = mI M 74) → (mI Mq120 55 = mI M 55) → (mI Mq120 57 = mI M 57) → (mI Mq120 58 = mI M 58) → (mI Mq120 63 = mI M 63) → (0 ≤ v9) → (v9 ≤ 1) → (mI Mq120 54 32 = mI M 54 32) → (0 ≤ mI Mq120 54 27) → (mI Mq120 54 27 ≤ 40) → (40 - mI Mq120 54 27).toNat < n120 → VC l mdX12_goTurn 120 [some (aR 54), none, some (aI s), some (aI x1), some (aI x1359), some (aI 1), none, some (aI x1366), some (aI v8), some (aI v9)] [] Mq120 0 0 (fun q N => ∃ r : Int, q = some (aI r) ∧ BD M N ∧ mI N 55 = mI M 55 ∧ mI N 57 = mI M 57 ∧ mI N 58 = mI M 58 ∧ mI N 63 = mI M 63 ∧ mI N 64 = mI M 64 ∧ mI N 65 = mI M 65 ∧ mI N 67 = mI M 67 ∧ mI N 68 = mI M 68 ∧ mI N 69 = mI M 69 ∧ mI N 70 = mI M 70 ∧ mI N 71 = mI M 71 ∧ mI N 72 = mI M 72 ∧ mI N 73 = mI M 73 ∧ mI N 74 = mI M 74 ∧ 0 ≤ r ∧ r ≤ 1 ∧ mI N 54 32 = mI M 54 32) := by
                intro n120
                induction n120 with
                | zero => intro Mq120 v8 v9 hQ120 kp120_64 kp120_65 kp120_67 kp120_68 kp120_69 kp120_70 kp120_71 kp120_72 kp120_73 kp120_74 kp120_55 kp120_57 kp120_58 kp120_63 g120_9a g120_9b g120i0 g120i1 g120i2 hm120; exact absurd hm120 (Nat.not_lt_zero _)
                | succ n120 ih120 =>
                  intro Mq120 v8 v9 hQ120 kp120_64 kp120_65 kp120_67 kp120_68 kp120_69 kp120_70 kp120_71 kp120_72 kp120_73 kp120_74 kp120_55 kp120_57 kp120_58 kp120_63 g120_9a g120_9b g120i0 g120i1 g120i2 hm120
                  refine vc_iload dX12_goTurn_120 rfl ?_
                  refine vc_if_ne dX12_goTurn_122 (fun h1367 => ?_) (fun h1367 => ?_)
                  · refine vc_iload_n dX12_goTurn_200 rfl ?_
                    refine vc_iconst dX12_goTurn_201 rfl ?_
                    refine vc_icmp_eq dX12_goTurn_202 (fun h1368 => ?_) (fun h1368 => ?_)
                    · refine vc_aload_n dX12_goTurn_217 rfl ?_
                      refine vc_iload dX12_goTurn_218 rfl ?_
                      refine vc_putI dX12_goTurn_220 (plX12_324 _ rfl) (s_54 hQ120.1.1) rfl ?_
                      have kp1369 : mI (sI Mq120 54 25 x1366) 64 = mI M 64 := (kp_sI kp120_64 rfl)
                      have kp1370 : mI (sI Mq120 54 25 x1366) 65 = mI M 65 := (kp_sI kp120_65 rfl)
                      have kp1371 : mI (sI Mq120 54 25 x1366) 67 = mI M 67 := (kp_sI kp120_67 rfl)
                      have kp1372 : mI (sI Mq120 54 25 x1366) 68 = mI M 68 := (kp_sI kp120_68 rfl)
                      have kp1373 : mI (sI Mq120 54 25 x1366) 69 = mI M 69 := (kp_sI kp120_69 rfl)
                      have kp1374 : mI (sI Mq120 54 25 x1366) 70 = mI M 70 := (kp_sI kp120_70 rfl)
                      have kp1375 : mI (sI Mq120 54 25 x1366) 71 = mI M 71 := (kp_sI kp120_71 rfl)
                      have kp1376 : mI (sI Mq120 54 25 x1366) 72 = mI M 72 := (kp_sI kp120_72 rfl)
                      have kp1377 : mI (sI Mq120 54 25 x1366) 73 = mI M 73 := (kp_sI kp120_73 rfl)
                      have kp1378 : mI (sI Mq120 54 25 x1366) 74 = mI M 74 := (kp_sI kp120_74 rfl)
                      have kp1379 : mI (sI Mq120 54 25 x1366) 55 = mI M 55 := (kp_sI kp120_55 rfl)
                      have kp1380 : mI (sI Mq120 54 25 x1366) 57 = mI M 57 := (kp_sI kp120_57 rfl)
                      have kp1381 : mI (sI Mq120 54 25 x1366) 58 = mI M 58 := (kp_sI kp120_58 rfl)
                      have kp1382 : mI (sI Mq120 54 25 x1366) 63 = mI M 63 := (kp_sI kp120_63 rfl)
                      have hB1383 : BD M (sI Mq120 54 25 x1366) := BD.w54_25 hQ120 (by omega) (by omega)
                      refine vc_iconst dX12_goTurn_223 rfl ?_
                      refine vc_zret dX12_goTurn_224 rfl (by first | decide | omega) (Nat.le_of_ble_eq_true rfl) (Nat.le_of_ble_eq_true rfl) ?_
                      have k1384 : mI (sI Mq120 54 25 x1366) 54 27 = mI Mq120 54 27 := rfl
                      have k1385 : mI (sI Mq120 54 25 x1366) 54 32 = mI Mq120 54 32 := rfl
                      exact ⟨_, rfl, hB1383, kp1379, kp1380, kp1381, kp1382, kp1369, kp1370, kp1371, kp1372, kp1373, kp1374, kp1375, kp1376, kp1377, kp1378, by omega, by omega, by omega⟩
                    · refine vc_aload_n dX12_goTurn_205 rfl ?_
                      refine vc_iload dX12_goTurn_206 rfl ?_
                      refine vc_iload_n dX12_goTurn_208 rfl ?_
                      refine vc_cVI dX12_goTurn_209 (sfX12_isCounted (M := Mq120) hQ120.1  x1366 s (by omega) (by omega)) rfl okX12_isCounted viX12_isCounted lkX12_352 (s_54 hQ120.1.1) cl_12 rfl (Nat.le_of_ble_eq_true rfl) ⟨rfl, rfl⟩ (Nat.le_of_ble_eq_true rfl) (Nat.le_of_ble_eq_true rfl) (Nat.le_of_ble_eq_true rfl) ?_
                      rintro x1386 _ ⟨rfl, h1387, h1388⟩
                      refine vc_if_ne dX12_goTurn_212 (fun h1389 => ?_) (fun h1389 => ?_)
                      · refine vc_aload_n dX12_goTurn_217 rfl ?_
                        refine vc_iload dX12_goTurn_218 rfl ?_
                        refine vc_putI dX12_goTurn_220 (plX12_324 _ rfl) (s_54 hQ120.1.1) rfl ?_
                        have kp1390 : mI (sI Mq120 54 25 x1366) 64 = mI M 64 := (kp_sI kp120_64 rfl)
                        have kp1391 : mI (sI Mq120 54 25 x1366) 65 = mI M 65 := (kp_sI kp120_65 rfl)
                        have kp1392 : mI (sI Mq120 54 25 x1366) 67 = mI M 67 := (kp_sI kp120_67 rfl)
                        have kp1393 : mI (sI Mq120 54 25 x1366) 68 = mI M 68 := (kp_sI kp120_68 rfl)
                        have kp1394 : mI (sI Mq120 54 25 x1366) 69 = mI M 69 := (kp_sI kp120_69 rfl)
                        have kp1395 : mI (sI Mq120 54 25 x1366) 70 = mI M 70 := (kp_sI kp120_70 rfl)
                        have kp1396 : mI (sI Mq120 54 25 x1366) 71 = mI M 71 := (kp_sI kp120_71 rfl)
                        have kp1397 : mI (sI Mq120 54 25 x1366) 72 = mI M 72 := (kp_sI kp120_72 rfl)
                        have kp1398 : mI (sI Mq120 54 25 x1366) 73 = mI M 73 := (kp_sI kp120_73 rfl)
                        have kp1399 : mI (sI Mq120 54 25 x1366) 74 = mI M 74 := (kp_sI kp120_74 rfl)
                        have kp1400 : mI (sI Mq120 54 25 x1366) 55 = mI M 55 := (kp_sI kp120_55 rfl)
                        have kp1401 : mI (sI Mq120 54 25 x1366) 57 = mI M 57 := (kp_sI kp120_57 rfl)
                        have kp1402 : mI (sI Mq120 54 25 x1366) 58 = mI M 58 := (kp_sI kp120_58 rfl)
                        have kp1403 : mI (sI Mq120 54 25 x1366) 63 = mI M 63 := (kp_sI kp120_63 rfl)
                        have hB1404 : BD M (sI Mq120 54 25 x1366) := BD.w54_25 hQ120 (by omega) (by omega)
                        refine vc_iconst dX12_goTurn_223 rfl ?_
                        refine vc_zret dX12_goTurn_224 rfl (by first | decide | omega) (Nat.le_of_ble_eq_true rfl) (Nat.le_of_ble_eq_true rfl) ?_
                        have k1405 : mI (sI Mq120 54 25 x1366) 54 27 = mI Mq120 54 27 := rfl
                        have k1406 : mI (sI Mq120 54 25 x1366) 54 32 = mI Mq120 54 32 := rfl
                        exact ⟨_, rfl, hB1404, kp1400, kp1401, kp1402, kp1403, kp1390, kp1391, kp1392, kp1393, kp1394, kp1395, kp1396, kp1397, kp1398, kp1399, by omega, by omega, by omega⟩
                      · refine vc_iconst dX12_goTurn_215 rfl ?_
                        refine vc_zret dX12_goTurn_216 rfl (by first | decide | omega) (Nat.le_of_ble_eq_true rfl) (Nat.le_of_ble_eq_true rfl) ?_
                        exact ⟨_, rfl, hQ120, kp120_55, kp120_57, kp120_58, kp120_63, kp120_64, kp120_65, kp120_67, kp120_68, kp120_69, kp120_70, kp120_71, kp120_72, kp120_73, kp120_74, by omega, by omega, by omega⟩
                  · refine vc_aload_n dX12_goTurn_125 rfl ?_
                    refine vc_cVI dX12_goTurn_126 (sfX12_goOn (M := Mq120) hQ120.1   ) rfl okX12_goOn viX12_goOn lkX12_348 (s_54 hQ120.1.1) cl_12 rfl (Nat.le_of_ble_eq_true rfl) ⟨rfl, rfl⟩ (Nat.le_of_ble_eq_true rfl) (Nat.le_of_ble_eq_true rfl) (Nat.le_of_ble_eq_true rfl) ?_
                    rintro x1407 M1408 ⟨hB1409, kp1410, kp1411, kp1412, kp1413, kp1414, kp1415, kp1416, kp1417, kp1418, kp1419, kp1420, kp1421, kp1422, kp1423, h1424, h1425, h1426, h1427⟩
                    have hB1428 : BD M M1408 := BD.go hQ120 hB1409
                    have kp1429 : mI M1408 64 = mI M 64 := kp_go kp120_64 kp1414
                    have kp1430 : mI M1408 65 = mI M 65 := kp_go kp120_65 kp1415
                    have kp1431 : mI M1408 67 = mI M 67 := kp_go kp120_67 kp1416
                    have kp1432 : mI M1408 68 = mI M 68 := kp_go kp120_68 kp1417
                    have kp1433 : mI M1408 69 = mI M 69 := kp_go kp120_69 kp1418
                    have kp1434 : mI M1408 70 = mI M 70 := kp_go kp120_70 kp1419
                    have kp1435 : mI M1408 71 = mI M 71 := kp_go kp120_71 kp1420
                    have kp1436 : mI M1408 72 = mI M 72 := kp_go kp120_72 kp1421
                    have kp1437 : mI M1408 73 = mI M 73 := kp_go kp120_73 kp1422
                    have kp1438 : mI M1408 74 = mI M 74 := kp_go kp120_74 kp1423
                    have kp1439 : mI M1408 55 = mI M 55 := kp_go kp120_55 kp1410
                    have kp1440 : mI M1408 57 = mI M 57 := kp_go kp120_57 kp1411
                    have kp1441 : mI M1408 58 = mI M 58 := kp_go kp120_58 kp1412
                    have kp1442 : mI M1408 63 = mI M 63 := kp_go kp120_63 kp1413
                    have kz := b54_27 (M := M1408) hB1428.1
                    refine vc_if_ne dX12_goTurn_129 (fun h1443 => ?_) (fun h1443 => ?_)
                    · refine vc_iload dX12_goTurn_134 rfl ?_
                      refine vc_if_ne dX12_goTurn_136 (fun h1444 => ?_) (fun h1444 => by exfalso; omega)
                      refine vc_iload dX12_goTurn_157 rfl ?_
                      refine vc_if_eq dX12_goTurn_159 (fun h1445 => by exfalso; omega) (fun h1445 => ?_)
                      refine vc_aload_n dX12_goTurn_162 rfl ?_
                      refine vc_aload_n dX12_goTurn_163 rfl ?_
                      refine vc_getI dX12_goTurn_164 flX12_321 (s_54 hB1428.1.1) rfl ?_
                      have k1446 : 0 ≤ mI M1408 54 24 ∧ mI M1408 54 24 ≤ 15 := b54_24 (M := M1408) hB1428.1
                      refine vc_cVI dX12_goTurn_167 (sfX12_sightOf (M := M1408) hB1428.1  (mI M1408 54 24) (by omega) (by omega)) rfl okX12_sightOf viX12_sightOf lkX12_318 (s_54 hB1428.1.1) cl_12 rfl (Nat.le_of_ble_eq_true rfl) ⟨rfl, rfl⟩ (Nat.le_of_ble_eq_true rfl) (Nat.le_of_ble_eq_true rfl) (Nat.le_of_ble_eq_true rfl) ?_
                      rintro x1447 _ rfl
                      refine vc_iload dX12_goTurn_170 rfl ?_
                      refine vc_icmp_ne dX12_goTurn_172 (fun h1448 => ?_) (fun h1448 => ?_)
                      · refine vc_iconst dX12_goTurn_179 rfl ?_
                        refine vc_goto dX12_goTurn_180 ?_
                        refine vc_istore dX12_goTurn_195 (by decide) rfl (show _ = [some (aR 54), none, some (aI s), some (aI x1), some (aI x1359), some (aI 1), none, some (aI x1366), some (aI v8), some (aI 0)] from rfl) ?_
                        refine vc_goto dX12_goTurn_197 ?_
                        exact ih120 M1408 v8 0 hB1428 kp1429 kp1430 kp1431 kp1432 kp1433 kp1434 kp1435 kp1436 kp1437 kp1438 kp1439 kp1440 kp1441 kp1442 (by omega) (by omega) (by omega) (by omega) (by omega) (by omega)
                      · refine vc_iconst dX12_goTurn_175 rfl ?_
                        refine vc_goto dX12_goTurn_176 ?_
                        refine vc_istore dX12_goTurn_195 (by decide) rfl (show _ = [some (aR 54), none, some (aI s), some (aI x1), some (aI x1359), some (aI 1), none, some (aI x1366), some (aI v8), some (aI 1)] from rfl) ?_
                        refine vc_goto dX12_goTurn_197 ?_
                        exact ih120 M1408 v8 1 hB1428 kp1429 kp1430 kp1431 kp1432 kp1433 kp1434 kp1435 kp1436 kp1437 kp1438 kp1439 kp1440 kp1441 kp1442 (by omega) (by omega) (by omega) (by omega) (by omega) (by omega)
                    · refine vc_iconst dX12_goTurn_132 rfl ?_
                      refine vc_zret dX12_goTurn_133 rfl (by first | decide | omega) (Nat.le_of_ble_eq_true rfl) (Nat.le_of_ble_eq_true rfl) ?_
                      exact ⟨_, rfl, hB1428, kp1439, kp1440, kp1441, kp1442, kp1429, kp1430, kp1431, kp1432, kp1433, kp1434, kp1435, kp1436, kp1437, kp1438, by omega, by omega, by omega⟩
              refine vc_less [some (aR 54), none, some (aI s), some (aI x1), some (aI x1359), some (aI 1), none, some (aI x1366), some (aI 0), some (aI 0)] (lessL_keep (lessL_drop (lessL_keep (lessL_keep (lessL_keep (lessL_keep (lessL_drop (lessL_keep (lessL_keep (lessL_keep (lessL_nil))))))))))) ?_
              exact lp120 _ M 0 0 hB0 rfl rfl rfl rfl rfl rfl rfl rfl rfl rfl rfl rfl rfl rfl (by omega) (by omega) (by omega) (by omega) (by omega) (Nat.lt_succ_self _)
            · refine vc_aload_n dX12_goTurn_88 rfl ?_
              refine vc_getI dX12_goTurn_89 flX12_324 (s_54 hB0.1.1) rfl ?_
              have k1449 : 0 ≤ mI M 54 25 ∧ mI M 54 25 ≤ 3 := b54_25 (M := M) hB0.1
              refine vc_goto dX12_goTurn_92 ?_
              refine vc_nameI (fun x1450 ex1450 => ?_)
              refine vc_istore dX12_goTurn_112 (by decide) rfl (show _ = [some (aR 54), some (aI t), some (aI s), some (aI x1), some (aI x1359), some (aI 1), some (aI 1), some (aI x1450), none, none] from rfl) ?_
              refine vc_iconst dX12_goTurn_114 rfl ?_
              refine vc_istore dX12_goTurn_115 (by decide) rfl (show _ = [some (aR 54), some (aI t), some (aI s), some (aI x1), some (aI x1359), some (aI 1), some (aI 1), some (aI x1450), some (aI 0), none] from rfl) ?_
              refine vc_iconst dX12_goTurn_117 rfl ?_
              refine vc_istore dX12_goTurn_118 (by decide) rfl (show _ = [some (aR 54), some (aI t), some (aI s), some (aI x1), some (aI x1359), some (aI 1), some (aI 1), some (aI x1450), some (aI 0), some (aI 0)] from rfl) ?_
              have lp120 : ∀ (n120 : Nat) (Mq120 : Mem) (v8 : Int) (v9 : Int), (BD M Mq120) → (mI Mq120 64 = mI M 64) → (mI Mq120 65 = mI M 65) → (mI Mq120 67 = mI M 67) → (mI Mq120 68 = mI M 68) → (mI Mq120 69 = mI M 69) → (mI Mq120 70 = mI M 70) → (mI Mq120 71 = mI M 71) → (mI Mq120 72 = mI M 72) → (mI Mq120 73 = mI M 73) → (mI Mq120 74 = mI M 74) → (mI Mq120 55 = mI M 55) → (mI Mq120 57 = mI M 57) → (mI Mq120 58 = mI M 58) → (mI Mq120 63 = mI M 63) → (0 ≤ v9) → (v9 ≤ 1) → (mI Mq120 54 32 = mI M 54 32) → (0 ≤ mI Mq120 54 27) → (mI Mq120 54 27 ≤ 40) → (40 - mI Mq120 54 27).toNat < n120 → VC l mdX12_goTurn 120 [some (aR 54), none, some (aI s), some (aI x1), some (aI x1359), some (aI 1), none, some (aI x1450), some (aI v8), some (aI v9)] [] Mq120 0 0 (fun q N => ∃ r : Int, q = some (aI r) ∧ BD M N ∧ mI N 55 = mI M 55 ∧ mI N 57 = mI M 57 ∧ mI N 58 = mI M 58 ∧ mI N 63 = mI M 63 ∧ mI N 64 = mI M 64 ∧ mI N 65 = mI M 65 ∧ mI N 67 = mI M 67 ∧ mI N 68 = mI M 68 ∧ mI N 69 = mI M 69 ∧ mI N 70 = mI M 70 ∧ mI N 71 = mI M 71 ∧ mI N 72 = mI M 72 ∧ mI N 73 = mI M 73 ∧ mI N 74 = mI M 74 ∧ 0 ≤ r ∧ r ≤ 1 ∧ mI N 54 32 = mI M 54 32) := by
                intro n120
                induction n120 with
                | zero => intro Mq120 v8 v9 hQ120 kp120_64 kp120_65 kp120_67 kp120_68 kp120_69 kp120_70 kp120_71 kp120_72 kp120_73 kp120_74 kp120_55 kp120_57 kp120_58 kp120_63 g120_9a g120_9b g120i0 g120i1 g120i2 hm120; exact absurd hm120 (Nat.not_lt_zero _)
                | succ n120 ih120 =>
                  intro Mq120 v8 v9 hQ120 kp120_64 kp120_65 kp120_67 kp120_68 kp120_69 kp120_70 kp120_71 kp120_72 kp120_73 kp120_74 kp120_55 kp120_57 kp120_58 kp120_63 g120_9a g120_9b g120i0 g120i1 g120i2 hm120
                  refine vc_iload dX12_goTurn_120 rfl ?_
                  refine vc_if_ne dX12_goTurn_122 (fun h1451 => ?_) (fun h1451 => ?_)
                  · refine vc_iload_n dX12_goTurn_200 rfl ?_
                    refine vc_iconst dX12_goTurn_201 rfl ?_
                    refine vc_icmp_eq dX12_goTurn_202 (fun h1452 => ?_) (fun h1452 => by exfalso; omega)
                    refine vc_aload_n dX12_goTurn_217 rfl ?_
                    refine vc_iload dX12_goTurn_218 rfl ?_
                    refine vc_putI dX12_goTurn_220 (plX12_324 _ rfl) (s_54 hQ120.1.1) rfl ?_
                    have kp1453 : mI (sI Mq120 54 25 x1450) 64 = mI M 64 := (kp_sI kp120_64 rfl)
                    have kp1454 : mI (sI Mq120 54 25 x1450) 65 = mI M 65 := (kp_sI kp120_65 rfl)
                    have kp1455 : mI (sI Mq120 54 25 x1450) 67 = mI M 67 := (kp_sI kp120_67 rfl)
                    have kp1456 : mI (sI Mq120 54 25 x1450) 68 = mI M 68 := (kp_sI kp120_68 rfl)
                    have kp1457 : mI (sI Mq120 54 25 x1450) 69 = mI M 69 := (kp_sI kp120_69 rfl)
                    have kp1458 : mI (sI Mq120 54 25 x1450) 70 = mI M 70 := (kp_sI kp120_70 rfl)
                    have kp1459 : mI (sI Mq120 54 25 x1450) 71 = mI M 71 := (kp_sI kp120_71 rfl)
                    have kp1460 : mI (sI Mq120 54 25 x1450) 72 = mI M 72 := (kp_sI kp120_72 rfl)
                    have kp1461 : mI (sI Mq120 54 25 x1450) 73 = mI M 73 := (kp_sI kp120_73 rfl)
                    have kp1462 : mI (sI Mq120 54 25 x1450) 74 = mI M 74 := (kp_sI kp120_74 rfl)
                    have kp1463 : mI (sI Mq120 54 25 x1450) 55 = mI M 55 := (kp_sI kp120_55 rfl)
                    have kp1464 : mI (sI Mq120 54 25 x1450) 57 = mI M 57 := (kp_sI kp120_57 rfl)
                    have kp1465 : mI (sI Mq120 54 25 x1450) 58 = mI M 58 := (kp_sI kp120_58 rfl)
                    have kp1466 : mI (sI Mq120 54 25 x1450) 63 = mI M 63 := (kp_sI kp120_63 rfl)
                    have hB1467 : BD M (sI Mq120 54 25 x1450) := BD.w54_25 hQ120 (by omega) (by omega)
                    refine vc_iconst dX12_goTurn_223 rfl ?_
                    refine vc_zret dX12_goTurn_224 rfl (by first | decide | omega) (Nat.le_of_ble_eq_true rfl) (Nat.le_of_ble_eq_true rfl) ?_
                    have k1468 : mI (sI Mq120 54 25 x1450) 54 27 = mI Mq120 54 27 := rfl
                    have k1469 : mI (sI Mq120 54 25 x1450) 54 32 = mI Mq120 54 32 := rfl
                    exact ⟨_, rfl, hB1467, kp1463, kp1464, kp1465, kp1466, kp1453, kp1454, kp1455, kp1456, kp1457, kp1458, kp1459, kp1460, kp1461, kp1462, by omega, by omega, by omega⟩
                  · refine vc_aload_n dX12_goTurn_125 rfl ?_
                    refine vc_cVI dX12_goTurn_126 (sfX12_goOn (M := Mq120) hQ120.1   ) rfl okX12_goOn viX12_goOn lkX12_348 (s_54 hQ120.1.1) cl_12 rfl (Nat.le_of_ble_eq_true rfl) ⟨rfl, rfl⟩ (Nat.le_of_ble_eq_true rfl) (Nat.le_of_ble_eq_true rfl) (Nat.le_of_ble_eq_true rfl) ?_
                    rintro x1470 M1471 ⟨hB1472, kp1473, kp1474, kp1475, kp1476, kp1477, kp1478, kp1479, kp1480, kp1481, kp1482, kp1483, kp1484, kp1485, kp1486, h1487, h1488, h1489, h1490⟩
                    have hB1491 : BD M M1471 := BD.go hQ120 hB1472
                    have kp1492 : mI M1471 64 = mI M 64 := kp_go kp120_64 kp1477
                    have kp1493 : mI M1471 65 = mI M 65 := kp_go kp120_65 kp1478
                    have kp1494 : mI M1471 67 = mI M 67 := kp_go kp120_67 kp1479
                    have kp1495 : mI M1471 68 = mI M 68 := kp_go kp120_68 kp1480
                    have kp1496 : mI M1471 69 = mI M 69 := kp_go kp120_69 kp1481
                    have kp1497 : mI M1471 70 = mI M 70 := kp_go kp120_70 kp1482
                    have kp1498 : mI M1471 71 = mI M 71 := kp_go kp120_71 kp1483
                    have kp1499 : mI M1471 72 = mI M 72 := kp_go kp120_72 kp1484
                    have kp1500 : mI M1471 73 = mI M 73 := kp_go kp120_73 kp1485
                    have kp1501 : mI M1471 74 = mI M 74 := kp_go kp120_74 kp1486
                    have kp1502 : mI M1471 55 = mI M 55 := kp_go kp120_55 kp1473
                    have kp1503 : mI M1471 57 = mI M 57 := kp_go kp120_57 kp1474
                    have kp1504 : mI M1471 58 = mI M 58 := kp_go kp120_58 kp1475
                    have kp1505 : mI M1471 63 = mI M 63 := kp_go kp120_63 kp1476
                    have kz := b54_27 (M := M1471) hB1491.1
                    refine vc_if_ne dX12_goTurn_129 (fun h1506 => ?_) (fun h1506 => ?_)
                    · refine vc_iload dX12_goTurn_134 rfl ?_
                      refine vc_if_ne dX12_goTurn_136 (fun h1507 => ?_) (fun h1507 => by exfalso; omega)
                      refine vc_iload dX12_goTurn_157 rfl ?_
                      refine vc_if_eq dX12_goTurn_159 (fun h1508 => by exfalso; omega) (fun h1508 => ?_)
                      refine vc_aload_n dX12_goTurn_162 rfl ?_
                      refine vc_aload_n dX12_goTurn_163 rfl ?_
                      refine vc_getI dX12_goTurn_164 flX12_321 (s_54 hB1491.1.1) rfl ?_
                      have k1509 : 0 ≤ mI M1471 54 24 ∧ mI M1471 54 24 ≤ 15 := b54_24 (M := M1471) hB1491.1
                      refine vc_cVI dX12_goTurn_167 (sfX12_sightOf (M := M1471) hB1491.1  (mI M1471 54 24) (by omega) (by omega)) rfl okX12_sightOf viX12_sightOf lkX12_318 (s_54 hB1491.1.1) cl_12 rfl (Nat.le_of_ble_eq_true rfl) ⟨rfl, rfl⟩ (Nat.le_of_ble_eq_true rfl) (Nat.le_of_ble_eq_true rfl) (Nat.le_of_ble_eq_true rfl) ?_
                      rintro x1510 _ rfl
                      refine vc_iload dX12_goTurn_170 rfl ?_
                      refine vc_icmp_ne dX12_goTurn_172 (fun h1511 => ?_) (fun h1511 => ?_)
                      · refine vc_iconst dX12_goTurn_179 rfl ?_
                        refine vc_goto dX12_goTurn_180 ?_
                        refine vc_istore dX12_goTurn_195 (by decide) rfl (show _ = [some (aR 54), none, some (aI s), some (aI x1), some (aI x1359), some (aI 1), none, some (aI x1450), some (aI v8), some (aI 0)] from rfl) ?_
                        refine vc_goto dX12_goTurn_197 ?_
                        exact ih120 M1471 v8 0 hB1491 kp1492 kp1493 kp1494 kp1495 kp1496 kp1497 kp1498 kp1499 kp1500 kp1501 kp1502 kp1503 kp1504 kp1505 (by omega) (by omega) (by omega) (by omega) (by omega) (by omega)
                      · refine vc_iconst dX12_goTurn_175 rfl ?_
                        refine vc_goto dX12_goTurn_176 ?_
                        refine vc_istore dX12_goTurn_195 (by decide) rfl (show _ = [some (aR 54), none, some (aI s), some (aI x1), some (aI x1359), some (aI 1), none, some (aI x1450), some (aI v8), some (aI 1)] from rfl) ?_
                        refine vc_goto dX12_goTurn_197 ?_
                        exact ih120 M1471 v8 1 hB1491 kp1492 kp1493 kp1494 kp1495 kp1496 kp1497 kp1498 kp1499 kp1500 kp1501 kp1502 kp1503 kp1504 kp1505 (by omega) (by omega) (by omega) (by omega) (by omega) (by omega)
                    · refine vc_iconst dX12_goTurn_132 rfl ?_
                      refine vc_zret dX12_goTurn_133 rfl (by first | decide | omega) (Nat.le_of_ble_eq_true rfl) (Nat.le_of_ble_eq_true rfl) ?_
                      exact ⟨_, rfl, hB1491, kp1502, kp1503, kp1504, kp1505, kp1492, kp1493, kp1494, kp1495, kp1496, kp1497, kp1498, kp1499, kp1500, kp1501, by omega, by omega, by omega⟩
              refine vc_less [some (aR 54), none, some (aI s), some (aI x1), some (aI x1359), some (aI 1), none, some (aI x1450), some (aI 0), some (aI 0)] (lessL_keep (lessL_drop (lessL_keep (lessL_keep (lessL_keep (lessL_keep (lessL_drop (lessL_keep (lessL_keep (lessL_keep (lessL_nil))))))))))) ?_
              exact lp120 _ M 0 0 hB0 rfl rfl rfl rfl rfl rfl rfl rfl rfl rfl rfl rfl rfl rfl (by omega) (by omega) (by omega) (by omega) (by omega) (Nat.lt_succ_self _)
          · refine vc_iconst dX12_goTurn_68 rfl ?_
            refine vc_goto dX12_goTurn_69 ?_
            refine vc_icmp_ne dX12_goTurn_73 (fun h1512 => ?_) (fun h1512 => by exfalso; omega)
            refine vc_iconst dX12_goTurn_80 rfl ?_
            refine vc_istore dX12_goTurn_81 (by decide) rfl (show _ = [some (aR 54), some (aI t), some (aI s), some (aI x1), some (aI x1359), some (aI 1), some (aI 0), none, none, none] from rfl) ?_
            refine vc_iload_n dX12_goTurn_83 rfl ?_
            refine vc_iconst dX12_goTurn_84 rfl ?_
            refine vc_icmp_ne dX12_goTurn_85 (fun h1513 => ?_) (fun h1513 => ?_)
            · refine vc_aload_n dX12_goTurn_95 rfl ?_
              refine vc_getI dX12_goTurn_96 flX12_324 (s_54 hB0.1.1) rfl ?_
              have k1514 : 0 ≤ mI M 54 25 ∧ mI M 54 25 ≤ 3 := b54_25 (M := M) hB0.1
              refine vc_iload dX12_goTurn_99 rfl ?_
              refine vc_if_eq dX12_goTurn_101 (fun h1515 => ?_) (fun h1515 => by exfalso; omega)
              refine vc_iconst dX12_goTurn_108 rfl ?_
              refine vc_iaddE dX12_goTurn_109 (by omega) (by omega) ?_
              refine vc_iconst dX12_goTurn_110 rfl ?_
              refine vc_iremE dX12_goTurn_111 (by omega) (by omega) ?_
              refine vc_nameI (fun x1516 ex1516 => ?_)
              refine vc_istore dX12_goTurn_112 (by decide) rfl (show _ = [some (aR 54), some (aI t), some (aI s), some (aI x1), some (aI x1359), some (aI 1), some (aI 0), some (aI x1516), none, none] from rfl) ?_
              refine vc_iconst dX12_goTurn_114 rfl ?_
              refine vc_istore dX12_goTurn_115 (by decide) rfl (show _ = [some (aR 54), some (aI t), some (aI s), some (aI x1), some (aI x1359), some (aI 1), some (aI 0), some (aI x1516), some (aI 0), none] from rfl) ?_
              refine vc_iconst dX12_goTurn_117 rfl ?_
              refine vc_istore dX12_goTurn_118 (by decide) rfl (show _ = [some (aR 54), some (aI t), some (aI s), some (aI x1), some (aI x1359), some (aI 1), some (aI 0), some (aI x1516), some (aI 0), some (aI 0)] from rfl) ?_
              have lp120 : ∀ (n120 : Nat) (Mq120 : Mem) (v8 : Int) (v9 : Int), (BD M Mq120) → (mI Mq120 64 = mI M 64) → (mI Mq120 65 = mI M 65) → (mI Mq120 67 = mI M 67) → (mI Mq120 68 = mI M 68) → (mI Mq120 69 = mI M 69) → (mI Mq120 70 = mI M 70) → (mI Mq120 71 = mI M 71) → (mI Mq120 72 = mI M 72) → (mI Mq120 73 = mI M 73) → (mI Mq120 74 = mI M 74) → (mI Mq120 55 = mI M 55) → (mI Mq120 57 = mI M 57) → (mI Mq120 58 = mI M 58) → (mI Mq120 63 = mI M 63) → (0 ≤ v9) → (v9 ≤ 1) → (mI Mq120 54 32 = mI M 54 32) → (0 ≤ mI Mq120 54 27) → (mI Mq120 54 27 ≤ 40) → (40 - mI Mq120 54 27).toNat < n120 → VC l mdX12_goTurn 120 [some (aR 54), none, some (aI s), some (aI x1), some (aI x1359), some (aI 1), none, some (aI x1516), some (aI v8), some (aI v9)] [] Mq120 0 0 (fun q N => ∃ r : Int, q = some (aI r) ∧ BD M N ∧ mI N 55 = mI M 55 ∧ mI N 57 = mI M 57 ∧ mI N 58 = mI M 58 ∧ mI N 63 = mI M 63 ∧ mI N 64 = mI M 64 ∧ mI N 65 = mI M 65 ∧ mI N 67 = mI M 67 ∧ mI N 68 = mI M 68 ∧ mI N 69 = mI M 69 ∧ mI N 70 = mI M 70 ∧ mI N 71 = mI M 71 ∧ mI N 72 = mI M 72 ∧ mI N 73 = mI M 73 ∧ mI N 74 = mI M 74 ∧ 0 ≤ r ∧ r ≤ 1 ∧ mI N 54 32 = mI M 54 32) := by
                intro n120
                induction n120 with
                | zero => intro Mq120 v8 v9 hQ120 kp120_64 kp120_65 kp120_67 kp120_68 kp120_69 kp120_70 kp120_71 kp120_72 kp120_73 kp120_74 kp120_55 kp120_57 kp120_58 kp120_63 g120_9a g120_9b g120i0 g120i1 g120i2 hm120; exact absurd hm120 (Nat.not_lt_zero _)
                | succ n120 ih120 =>
                  intro Mq120 v8 v9 hQ120 kp120_64 kp120_65 kp120_67 kp120_68 kp120_69 kp120_70 kp120_71 kp120_72 kp120_73 kp120_74 kp120_55 kp120_57 kp120_58 kp120_63 g120_9a g120_9b g120i0 g120i1 g120i2 hm120
                  refine vc_iload dX12_goTurn_120 rfl ?_
                  refine vc_if_ne dX12_goTurn_122 (fun h1517 => ?_) (fun h1517 => ?_)
                  · refine vc_iload_n dX12_goTurn_200 rfl ?_
                    refine vc_iconst dX12_goTurn_201 rfl ?_
                    refine vc_icmp_eq dX12_goTurn_202 (fun h1518 => ?_) (fun h1518 => ?_)
                    · refine vc_aload_n dX12_goTurn_217 rfl ?_
                      refine vc_iload dX12_goTurn_218 rfl ?_
                      refine vc_putI dX12_goTurn_220 (plX12_324 _ rfl) (s_54 hQ120.1.1) rfl ?_
                      have kp1519 : mI (sI Mq120 54 25 x1516) 64 = mI M 64 := (kp_sI kp120_64 rfl)
                      have kp1520 : mI (sI Mq120 54 25 x1516) 65 = mI M 65 := (kp_sI kp120_65 rfl)
                      have kp1521 : mI (sI Mq120 54 25 x1516) 67 = mI M 67 := (kp_sI kp120_67 rfl)
                      have kp1522 : mI (sI Mq120 54 25 x1516) 68 = mI M 68 := (kp_sI kp120_68 rfl)
                      have kp1523 : mI (sI Mq120 54 25 x1516) 69 = mI M 69 := (kp_sI kp120_69 rfl)
                      have kp1524 : mI (sI Mq120 54 25 x1516) 70 = mI M 70 := (kp_sI kp120_70 rfl)
                      have kp1525 : mI (sI Mq120 54 25 x1516) 71 = mI M 71 := (kp_sI kp120_71 rfl)
                      have kp1526 : mI (sI Mq120 54 25 x1516) 72 = mI M 72 := (kp_sI kp120_72 rfl)
                      have kp1527 : mI (sI Mq120 54 25 x1516) 73 = mI M 73 := (kp_sI kp120_73 rfl)
                      have kp1528 : mI (sI Mq120 54 25 x1516) 74 = mI M 74 := (kp_sI kp120_74 rfl)
                      have kp1529 : mI (sI Mq120 54 25 x1516) 55 = mI M 55 := (kp_sI kp120_55 rfl)
                      have kp1530 : mI (sI Mq120 54 25 x1516) 57 = mI M 57 := (kp_sI kp120_57 rfl)
                      have kp1531 : mI (sI Mq120 54 25 x1516) 58 = mI M 58 := (kp_sI kp120_58 rfl)
                      have kp1532 : mI (sI Mq120 54 25 x1516) 63 = mI M 63 := (kp_sI kp120_63 rfl)
                      have hB1533 : BD M (sI Mq120 54 25 x1516) := BD.w54_25 hQ120 (by omega) (by omega)
                      refine vc_iconst dX12_goTurn_223 rfl ?_
                      refine vc_zret dX12_goTurn_224 rfl (by first | decide | omega) (Nat.le_of_ble_eq_true rfl) (Nat.le_of_ble_eq_true rfl) ?_
                      have k1534 : mI (sI Mq120 54 25 x1516) 54 27 = mI Mq120 54 27 := rfl
                      have k1535 : mI (sI Mq120 54 25 x1516) 54 32 = mI Mq120 54 32 := rfl
                      exact ⟨_, rfl, hB1533, kp1529, kp1530, kp1531, kp1532, kp1519, kp1520, kp1521, kp1522, kp1523, kp1524, kp1525, kp1526, kp1527, kp1528, by omega, by omega, by omega⟩
                    · refine vc_aload_n dX12_goTurn_205 rfl ?_
                      refine vc_iload dX12_goTurn_206 rfl ?_
                      refine vc_iload_n dX12_goTurn_208 rfl ?_
                      refine vc_cVI dX12_goTurn_209 (sfX12_isCounted (M := Mq120) hQ120.1  x1516 s (by omega) (by omega)) rfl okX12_isCounted viX12_isCounted lkX12_352 (s_54 hQ120.1.1) cl_12 rfl (Nat.le_of_ble_eq_true rfl) ⟨rfl, rfl⟩ (Nat.le_of_ble_eq_true rfl) (Nat.le_of_ble_eq_true rfl) (Nat.le_of_ble_eq_true rfl) ?_
                      rintro x1536 _ ⟨rfl, h1537, h1538⟩
                      refine vc_if_ne dX12_goTurn_212 (fun h1539 => ?_) (fun h1539 => ?_)
                      · refine vc_aload_n dX12_goTurn_217 rfl ?_
                        refine vc_iload dX12_goTurn_218 rfl ?_
                        refine vc_putI dX12_goTurn_220 (plX12_324 _ rfl) (s_54 hQ120.1.1) rfl ?_
                        have kp1540 : mI (sI Mq120 54 25 x1516) 64 = mI M 64 := (kp_sI kp120_64 rfl)
                        have kp1541 : mI (sI Mq120 54 25 x1516) 65 = mI M 65 := (kp_sI kp120_65 rfl)
                        have kp1542 : mI (sI Mq120 54 25 x1516) 67 = mI M 67 := (kp_sI kp120_67 rfl)
                        have kp1543 : mI (sI Mq120 54 25 x1516) 68 = mI M 68 := (kp_sI kp120_68 rfl)
                        have kp1544 : mI (sI Mq120 54 25 x1516) 69 = mI M 69 := (kp_sI kp120_69 rfl)
                        have kp1545 : mI (sI Mq120 54 25 x1516) 70 = mI M 70 := (kp_sI kp120_70 rfl)
                        have kp1546 : mI (sI Mq120 54 25 x1516) 71 = mI M 71 := (kp_sI kp120_71 rfl)
                        have kp1547 : mI (sI Mq120 54 25 x1516) 72 = mI M 72 := (kp_sI kp120_72 rfl)
                        have kp1548 : mI (sI Mq120 54 25 x1516) 73 = mI M 73 := (kp_sI kp120_73 rfl)
                        have kp1549 : mI (sI Mq120 54 25 x1516) 74 = mI M 74 := (kp_sI kp120_74 rfl)
                        have kp1550 : mI (sI Mq120 54 25 x1516) 55 = mI M 55 := (kp_sI kp120_55 rfl)
                        have kp1551 : mI (sI Mq120 54 25 x1516) 57 = mI M 57 := (kp_sI kp120_57 rfl)
                        have kp1552 : mI (sI Mq120 54 25 x1516) 58 = mI M 58 := (kp_sI kp120_58 rfl)
                        have kp1553 : mI (sI Mq120 54 25 x1516) 63 = mI M 63 := (kp_sI kp120_63 rfl)
                        have hB1554 : BD M (sI Mq120 54 25 x1516) := BD.w54_25 hQ120 (by omega) (by omega)
                        refine vc_iconst dX12_goTurn_223 rfl ?_
                        refine vc_zret dX12_goTurn_224 rfl (by first | decide | omega) (Nat.le_of_ble_eq_true rfl) (Nat.le_of_ble_eq_true rfl) ?_
                        have k1555 : mI (sI Mq120 54 25 x1516) 54 27 = mI Mq120 54 27 := rfl
                        have k1556 : mI (sI Mq120 54 25 x1516) 54 32 = mI Mq120 54 32 := rfl
                        exact ⟨_, rfl, hB1554, kp1550, kp1551, kp1552, kp1553, kp1540, kp1541, kp1542, kp1543, kp1544, kp1545, kp1546, kp1547, kp1548, kp1549, by omega, by omega, by omega⟩
                      · refine vc_iconst dX12_goTurn_215 rfl ?_
                        refine vc_zret dX12_goTurn_216 rfl (by first | decide | omega) (Nat.le_of_ble_eq_true rfl) (Nat.le_of_ble_eq_true rfl) ?_
                        exact ⟨_, rfl, hQ120, kp120_55, kp120_57, kp120_58, kp120_63, kp120_64, kp120_65, kp120_67, kp120_68, kp120_69, kp120_70, kp120_71, kp120_72, kp120_73, kp120_74, by omega, by omega, by omega⟩
                  · refine vc_aload_n dX12_goTurn_125 rfl ?_
                    refine vc_cVI dX12_goTurn_126 (sfX12_goOn (M := Mq120) hQ120.1   ) rfl okX12_goOn viX12_goOn lkX12_348 (s_54 hQ120.1.1) cl_12 rfl (Nat.le_of_ble_eq_true rfl) ⟨rfl, rfl⟩ (Nat.le_of_ble_eq_true rfl) (Nat.le_of_ble_eq_true rfl) (Nat.le_of_ble_eq_true rfl) ?_
                    rintro x1557 M1558 ⟨hB1559, kp1560, kp1561, kp1562, kp1563, kp1564, kp1565, kp1566, kp1567, kp1568, kp1569, kp1570, kp1571, kp1572, kp1573, h1574, h1575, h1576, h1577⟩
                    have hB1578 : BD M M1558 := BD.go hQ120 hB1559
                    have kp1579 : mI M1558 64 = mI M 64 := kp_go kp120_64 kp1564
                    have kp1580 : mI M1558 65 = mI M 65 := kp_go kp120_65 kp1565
                    have kp1581 : mI M1558 67 = mI M 67 := kp_go kp120_67 kp1566
                    have kp1582 : mI M1558 68 = mI M 68 := kp_go kp120_68 kp1567
                    have kp1583 : mI M1558 69 = mI M 69 := kp_go kp120_69 kp1568
                    have kp1584 : mI M1558 70 = mI M 70 := kp_go kp120_70 kp1569
                    have kp1585 : mI M1558 71 = mI M 71 := kp_go kp120_71 kp1570
                    have kp1586 : mI M1558 72 = mI M 72 := kp_go kp120_72 kp1571
                    have kp1587 : mI M1558 73 = mI M 73 := kp_go kp120_73 kp1572
                    have kp1588 : mI M1558 74 = mI M 74 := kp_go kp120_74 kp1573
                    have kp1589 : mI M1558 55 = mI M 55 := kp_go kp120_55 kp1560
                    have kp1590 : mI M1558 57 = mI M 57 := kp_go kp120_57 kp1561
                    have kp1591 : mI M1558 58 = mI M 58 := kp_go kp120_58 kp1562
                    have kp1592 : mI M1558 63 = mI M 63 := kp_go kp120_63 kp1563
                    have kz := b54_27 (M := M1558) hB1578.1
                    refine vc_if_ne dX12_goTurn_129 (fun h1593 => ?_) (fun h1593 => ?_)
                    · refine vc_iload dX12_goTurn_134 rfl ?_
                      refine vc_if_ne dX12_goTurn_136 (fun h1594 => ?_) (fun h1594 => by exfalso; omega)
                      refine vc_iload dX12_goTurn_157 rfl ?_
                      refine vc_if_eq dX12_goTurn_159 (fun h1595 => by exfalso; omega) (fun h1595 => ?_)
                      refine vc_aload_n dX12_goTurn_162 rfl ?_
                      refine vc_aload_n dX12_goTurn_163 rfl ?_
                      refine vc_getI dX12_goTurn_164 flX12_321 (s_54 hB1578.1.1) rfl ?_
                      have k1596 : 0 ≤ mI M1558 54 24 ∧ mI M1558 54 24 ≤ 15 := b54_24 (M := M1558) hB1578.1
                      refine vc_cVI dX12_goTurn_167 (sfX12_sightOf (M := M1558) hB1578.1  (mI M1558 54 24) (by omega) (by omega)) rfl okX12_sightOf viX12_sightOf lkX12_318 (s_54 hB1578.1.1) cl_12 rfl (Nat.le_of_ble_eq_true rfl) ⟨rfl, rfl⟩ (Nat.le_of_ble_eq_true rfl) (Nat.le_of_ble_eq_true rfl) (Nat.le_of_ble_eq_true rfl) ?_
                      rintro x1597 _ rfl
                      refine vc_iload dX12_goTurn_170 rfl ?_
                      refine vc_icmp_ne dX12_goTurn_172 (fun h1598 => ?_) (fun h1598 => ?_)
                      · refine vc_iconst dX12_goTurn_179 rfl ?_
                        refine vc_goto dX12_goTurn_180 ?_
                        refine vc_istore dX12_goTurn_195 (by decide) rfl (show _ = [some (aR 54), none, some (aI s), some (aI x1), some (aI x1359), some (aI 1), none, some (aI x1516), some (aI v8), some (aI 0)] from rfl) ?_
                        refine vc_goto dX12_goTurn_197 ?_
                        exact ih120 M1558 v8 0 hB1578 kp1579 kp1580 kp1581 kp1582 kp1583 kp1584 kp1585 kp1586 kp1587 kp1588 kp1589 kp1590 kp1591 kp1592 (by omega) (by omega) (by omega) (by omega) (by omega) (by omega)
                      · refine vc_iconst dX12_goTurn_175 rfl ?_
                        refine vc_goto dX12_goTurn_176 ?_
                        refine vc_istore dX12_goTurn_195 (by decide) rfl (show _ = [some (aR 54), none, some (aI s), some (aI x1), some (aI x1359), some (aI 1), none, some (aI x1516), some (aI v8), some (aI 1)] from rfl) ?_
                        refine vc_goto dX12_goTurn_197 ?_
                        exact ih120 M1558 v8 1 hB1578 kp1579 kp1580 kp1581 kp1582 kp1583 kp1584 kp1585 kp1586 kp1587 kp1588 kp1589 kp1590 kp1591 kp1592 (by omega) (by omega) (by omega) (by omega) (by omega) (by omega)
                    · refine vc_iconst dX12_goTurn_132 rfl ?_
                      refine vc_zret dX12_goTurn_133 rfl (by first | decide | omega) (Nat.le_of_ble_eq_true rfl) (Nat.le_of_ble_eq_true rfl) ?_
                      exact ⟨_, rfl, hB1578, kp1589, kp1590, kp1591, kp1592, kp1579, kp1580, kp1581, kp1582, kp1583, kp1584, kp1585, kp1586, kp1587, kp1588, by omega, by omega, by omega⟩
              refine vc_less [some (aR 54), none, some (aI s), some (aI x1), some (aI x1359), some (aI 1), none, some (aI x1516), some (aI 0), some (aI 0)] (lessL_keep (lessL_drop (lessL_keep (lessL_keep (lessL_keep (lessL_keep (lessL_drop (lessL_keep (lessL_keep (lessL_keep (lessL_nil))))))))))) ?_
              exact lp120 _ M 0 0 hB0 rfl rfl rfl rfl rfl rfl rfl rfl rfl rfl rfl rfl rfl rfl (by omega) (by omega) (by omega) (by omega) (by omega) (Nat.lt_succ_self _)
            · refine vc_aload_n dX12_goTurn_88 rfl ?_
              refine vc_getI dX12_goTurn_89 flX12_324 (s_54 hB0.1.1) rfl ?_
              have k1599 : 0 ≤ mI M 54 25 ∧ mI M 54 25 ≤ 3 := b54_25 (M := M) hB0.1
              refine vc_goto dX12_goTurn_92 ?_
              refine vc_nameI (fun x1600 ex1600 => ?_)
              refine vc_istore dX12_goTurn_112 (by decide) rfl (show _ = [some (aR 54), some (aI t), some (aI s), some (aI x1), some (aI x1359), some (aI 1), some (aI 0), some (aI x1600), none, none] from rfl) ?_
              refine vc_iconst dX12_goTurn_114 rfl ?_
              refine vc_istore dX12_goTurn_115 (by decide) rfl (show _ = [some (aR 54), some (aI t), some (aI s), some (aI x1), some (aI x1359), some (aI 1), some (aI 0), some (aI x1600), some (aI 0), none] from rfl) ?_
              refine vc_iconst dX12_goTurn_117 rfl ?_
              refine vc_istore dX12_goTurn_118 (by decide) rfl (show _ = [some (aR 54), some (aI t), some (aI s), some (aI x1), some (aI x1359), some (aI 1), some (aI 0), some (aI x1600), some (aI 0), some (aI 0)] from rfl) ?_
              have lp120 : ∀ (n120 : Nat) (Mq120 : Mem) (v8 : Int) (v9 : Int), (BD M Mq120) → (mI Mq120 64 = mI M 64) → (mI Mq120 65 = mI M 65) → (mI Mq120 67 = mI M 67) → (mI Mq120 68 = mI M 68) → (mI Mq120 69 = mI M 69) → (mI Mq120 70 = mI M 70) → (mI Mq120 71 = mI M 71) → (mI Mq120 72 = mI M 72) → (mI Mq120 73 = mI M 73) → (mI Mq120 74 = mI M 74) → (mI Mq120 55 = mI M 55) → (mI Mq120 57 = mI M 57) → (mI Mq120 58 = mI M 58) → (mI Mq120 63 = mI M 63) → (0 ≤ v9) → (v9 ≤ 1) → (mI Mq120 54 32 = mI M 54 32) → (0 ≤ mI Mq120 54 27) → (mI Mq120 54 27 ≤ 40) → (40 - mI Mq120 54 27).toNat < n120 → VC l mdX12_goTurn 120 [some (aR 54), none, some (aI s), some (aI x1), some (aI x1359), some (aI 1), none, some (aI x1600), some (aI v8), some (aI v9)] [] Mq120 0 0 (fun q N => ∃ r : Int, q = some (aI r) ∧ BD M N ∧ mI N 55 = mI M 55 ∧ mI N 57 = mI M 57 ∧ mI N 58 = mI M 58 ∧ mI N 63 = mI M 63 ∧ mI N 64 = mI M 64 ∧ mI N 65 = mI M 65 ∧ mI N 67 = mI M 67 ∧ mI N 68 = mI M 68 ∧ mI N 69 = mI M 69 ∧ mI N 70 = mI M 70 ∧ mI N 71 = mI M 71 ∧ mI N 72 = mI M 72 ∧ mI N 73 = mI M 73 ∧ mI N 74 = mI M 74 ∧ 0 ≤ r ∧ r ≤ 1 ∧ mI N 54 32 = mI M 54 32) := by
                intro n120
                induction n120 with
                | zero => intro Mq120 v8 v9 hQ120 kp120_64 kp120_65 kp120_67 kp120_68 kp120_69 kp120_70 kp120_71 kp120_72 kp120_73 kp120_74 kp120_55 kp120_57 kp120_58 kp120_63 g120_9a g120_9b g120i0 g120i1 g120i2 hm120; exact absurd hm120 (Nat.not_lt_zero _)
                | succ n120 ih120 =>
                  intro Mq120 v8 v9 hQ120 kp120_64 kp120_65 kp120_67 kp120_68 kp120_69 kp120_70 kp120_71 kp120_72 kp120_73 kp120_74 kp120_55 kp120_57 kp120_58 kp120_63 g120_9a g120_9b g120i0 g120i1 g120i2 hm120
                  refine vc_iload dX12_goTurn_120 rfl ?_
                  refine vc_if_ne dX12_goTurn_122 (fun h1601 => ?_) (fun h1601 => ?_)
                  · refine vc_iload_n dX12_goTurn_200 rfl ?_
                    refine vc_iconst dX12_goTurn_201 rfl ?_
                    refine vc_icmp_eq dX12_goTurn_202 (fun h1602 => ?_) (fun h1602 => by exfalso; omega)
                    refine vc_aload_n dX12_goTurn_217 rfl ?_
                    refine vc_iload dX12_goTurn_218 rfl ?_
                    refine vc_putI dX12_goTurn_220 (plX12_324 _ rfl) (s_54 hQ120.1.1) rfl ?_
                    have kp1603 : mI (sI Mq120 54 25 x1600) 64 = mI M 64 := (kp_sI kp120_64 rfl)
                    have kp1604 : mI (sI Mq120 54 25 x1600) 65 = mI M 65 := (kp_sI kp120_65 rfl)
                    have kp1605 : mI (sI Mq120 54 25 x1600) 67 = mI M 67 := (kp_sI kp120_67 rfl)
                    have kp1606 : mI (sI Mq120 54 25 x1600) 68 = mI M 68 := (kp_sI kp120_68 rfl)
                    have kp1607 : mI (sI Mq120 54 25 x1600) 69 = mI M 69 := (kp_sI kp120_69 rfl)
                    have kp1608 : mI (sI Mq120 54 25 x1600) 70 = mI M 70 := (kp_sI kp120_70 rfl)
                    have kp1609 : mI (sI Mq120 54 25 x1600) 71 = mI M 71 := (kp_sI kp120_71 rfl)
                    have kp1610 : mI (sI Mq120 54 25 x1600) 72 = mI M 72 := (kp_sI kp120_72 rfl)
                    have kp1611 : mI (sI Mq120 54 25 x1600) 73 = mI M 73 := (kp_sI kp120_73 rfl)
                    have kp1612 : mI (sI Mq120 54 25 x1600) 74 = mI M 74 := (kp_sI kp120_74 rfl)
                    have kp1613 : mI (sI Mq120 54 25 x1600) 55 = mI M 55 := (kp_sI kp120_55 rfl)
                    have kp1614 : mI (sI Mq120 54 25 x1600) 57 = mI M 57 := (kp_sI kp120_57 rfl)
                    have kp1615 : mI (sI Mq120 54 25 x1600) 58 = mI M 58 := (kp_sI kp120_58 rfl)
                    have kp1616 : mI (sI Mq120 54 25 x1600) 63 = mI M 63 := (kp_sI kp120_63 rfl)
                    have hB1617 : BD M (sI Mq120 54 25 x1600) := BD.w54_25 hQ120 (by omega) (by omega)
                    refine vc_iconst dX12_goTurn_223 rfl ?_
                    refine vc_zret dX12_goTurn_224 rfl (by first | decide | omega) (Nat.le_of_ble_eq_true rfl) (Nat.le_of_ble_eq_true rfl) ?_
                    have k1618 : mI (sI Mq120 54 25 x1600) 54 27 = mI Mq120 54 27 := rfl
                    have k1619 : mI (sI Mq120 54 25 x1600) 54 32 = mI Mq120 54 32 := rfl
                    exact ⟨_, rfl, hB1617, kp1613, kp1614, kp1615, kp1616, kp1603, kp1604, kp1605, kp1606, kp1607, kp1608, kp1609, kp1610, kp1611, kp1612, by omega, by omega, by omega⟩
                  · refine vc_aload_n dX12_goTurn_125 rfl ?_
                    refine vc_cVI dX12_goTurn_126 (sfX12_goOn (M := Mq120) hQ120.1   ) rfl okX12_goOn viX12_goOn lkX12_348 (s_54 hQ120.1.1) cl_12 rfl (Nat.le_of_ble_eq_true rfl) ⟨rfl, rfl⟩ (Nat.le_of_ble_eq_true rfl) (Nat.le_of_ble_eq_true rfl) (Nat.le_of_ble_eq_true rfl) ?_
                    rintro x1620 M1621 ⟨hB1622, kp1623, kp1624, kp1625, kp1626, kp1627, kp1628, kp1629, kp1630, kp1631, kp1632, kp1633, kp1634, kp1635, kp1636, h1637, h1638, h1639, h1640⟩
                    have hB1641 : BD M M1621 := BD.go hQ120 hB1622
                    have kp1642 : mI M1621 64 = mI M 64 := kp_go kp120_64 kp1627
                    have kp1643 : mI M1621 65 = mI M 65 := kp_go kp120_65 kp1628
                    have kp1644 : mI M1621 67 = mI M 67 := kp_go kp120_67 kp1629
                    have kp1645 : mI M1621 68 = mI M 68 := kp_go kp120_68 kp1630
                    have kp1646 : mI M1621 69 = mI M 69 := kp_go kp120_69 kp1631
                    have kp1647 : mI M1621 70 = mI M 70 := kp_go kp120_70 kp1632
                    have kp1648 : mI M1621 71 = mI M 71 := kp_go kp120_71 kp1633
                    have kp1649 : mI M1621 72 = mI M 72 := kp_go kp120_72 kp1634
                    have kp1650 : mI M1621 73 = mI M 73 := kp_go kp120_73 kp1635
                    have kp1651 : mI M1621 74 = mI M 74 := kp_go kp120_74 kp1636
                    have kp1652 : mI M1621 55 = mI M 55 := kp_go kp120_55 kp1623
                    have kp1653 : mI M1621 57 = mI M 57 := kp_go kp120_57 kp1624
                    have kp1654 : mI M1621 58 = mI M 58 := kp_go kp120_58 kp1625
                    have kp1655 : mI M1621 63 = mI M 63 := kp_go kp120_63 kp1626
                    have kz := b54_27 (M := M1621) hB1641.1
                    refine vc_if_ne dX12_goTurn_129 (fun h1656 => ?_) (fun h1656 => ?_)
                    · refine vc_iload dX12_goTurn_134 rfl ?_
                      refine vc_if_ne dX12_goTurn_136 (fun h1657 => ?_) (fun h1657 => by exfalso; omega)
                      refine vc_iload dX12_goTurn_157 rfl ?_
                      refine vc_if_eq dX12_goTurn_159 (fun h1658 => by exfalso; omega) (fun h1658 => ?_)
                      refine vc_aload_n dX12_goTurn_162 rfl ?_
                      refine vc_aload_n dX12_goTurn_163 rfl ?_
                      refine vc_getI dX12_goTurn_164 flX12_321 (s_54 hB1641.1.1) rfl ?_
                      have k1659 : 0 ≤ mI M1621 54 24 ∧ mI M1621 54 24 ≤ 15 := b54_24 (M := M1621) hB1641.1
                      refine vc_cVI dX12_goTurn_167 (sfX12_sightOf (M := M1621) hB1641.1  (mI M1621 54 24) (by omega) (by omega)) rfl okX12_sightOf viX12_sightOf lkX12_318 (s_54 hB1641.1.1) cl_12 rfl (Nat.le_of_ble_eq_true rfl) ⟨rfl, rfl⟩ (Nat.le_of_ble_eq_true rfl) (Nat.le_of_ble_eq_true rfl) (Nat.le_of_ble_eq_true rfl) ?_
                      rintro x1660 _ rfl
                      refine vc_iload dX12_goTurn_170 rfl ?_
                      refine vc_icmp_ne dX12_goTurn_172 (fun h1661 => ?_) (fun h1661 => ?_)
                      · refine vc_iconst dX12_goTurn_179 rfl ?_
                        refine vc_goto dX12_goTurn_180 ?_
                        refine vc_istore dX12_goTurn_195 (by decide) rfl (show _ = [some (aR 54), none, some (aI s), some (aI x1), some (aI x1359), some (aI 1), none, some (aI x1600), some (aI v8), some (aI 0)] from rfl) ?_
                        refine vc_goto dX12_goTurn_197 ?_
                        exact ih120 M1621 v8 0 hB1641 kp1642 kp1643 kp1644 kp1645 kp1646 kp1647 kp1648 kp1649 kp1650 kp1651 kp1652 kp1653 kp1654 kp1655 (by omega) (by omega) (by omega) (by omega) (by omega) (by omega)
                      · refine vc_iconst dX12_goTurn_175 rfl ?_
                        refine vc_goto dX12_goTurn_176 ?_
                        refine vc_istore dX12_goTurn_195 (by decide) rfl (show _ = [some (aR 54), none, some (aI s), some (aI x1), some (aI x1359), some (aI 1), none, some (aI x1600), some (aI v8), some (aI 1)] from rfl) ?_
                        refine vc_goto dX12_goTurn_197 ?_
                        exact ih120 M1621 v8 1 hB1641 kp1642 kp1643 kp1644 kp1645 kp1646 kp1647 kp1648 kp1649 kp1650 kp1651 kp1652 kp1653 kp1654 kp1655 (by omega) (by omega) (by omega) (by omega) (by omega) (by omega)
                    · refine vc_iconst dX12_goTurn_132 rfl ?_
                      refine vc_zret dX12_goTurn_133 rfl (by first | decide | omega) (Nat.le_of_ble_eq_true rfl) (Nat.le_of_ble_eq_true rfl) ?_
                      exact ⟨_, rfl, hB1641, kp1652, kp1653, kp1654, kp1655, kp1642, kp1643, kp1644, kp1645, kp1646, kp1647, kp1648, kp1649, kp1650, kp1651, by omega, by omega, by omega⟩
              refine vc_less [some (aR 54), none, some (aI s), some (aI x1), some (aI x1359), some (aI 1), none, some (aI x1600), some (aI 0), some (aI 0)] (lessL_keep (lessL_drop (lessL_keep (lessL_keep (lessL_keep (lessL_keep (lessL_drop (lessL_keep (lessL_keep (lessL_keep (lessL_nil))))))))))) ?_
              exact lp120 _ M 0 0 hB0 rfl rfl rfl rfl rfl rfl rfl rfl rfl rfl rfl rfl rfl rfl (by omega) (by omega) (by omega) (by omega) (by omega) (Nat.lt_succ_self _)
        · refine vc_iconst dX12_goTurn_57 rfl ?_
          refine vc_goto dX12_goTurn_58 ?_
          refine vc_iload_n dX12_goTurn_62 rfl ?_
          refine vc_iconst dX12_goTurn_63 rfl ?_
          refine vc_iandM dX12_goTurn_64 2 1 rfl (by decide) rfl ?_
          refine vc_if_ne dX12_goTurn_65 (fun h1662 => ?_) (fun h1662 => ?_)
          · refine vc_iconst dX12_goTurn_72 rfl ?_
            refine vc_icmp_ne dX12_goTurn_73 (fun h1663 => ?_) (fun h1663 => by exfalso; omega)
            refine vc_iconst dX12_goTurn_80 rfl ?_
            refine vc_istore dX12_goTurn_81 (by decide) rfl (show _ = [some (aR 54), some (aI t), some (aI s), some (aI x1), some (aI x1359), some (aI 1), some (aI 0), none, none, none] from rfl) ?_
            refine vc_iload_n dX12_goTurn_83 rfl ?_
            refine vc_iconst dX12_goTurn_84 rfl ?_
            refine vc_icmp_ne dX12_goTurn_85 (fun h1664 => ?_) (fun h1664 => by exfalso; omega)
            refine vc_aload_n dX12_goTurn_95 rfl ?_
            refine vc_getI dX12_goTurn_96 flX12_324 (s_54 hB0.1.1) rfl ?_
            have k1665 : 0 ≤ mI M 54 25 ∧ mI M 54 25 ≤ 3 := b54_25 (M := M) hB0.1
            refine vc_iload dX12_goTurn_99 rfl ?_
            refine vc_if_eq dX12_goTurn_101 (fun h1666 => ?_) (fun h1666 => by exfalso; omega)
            refine vc_iconst dX12_goTurn_108 rfl ?_
            refine vc_iaddE dX12_goTurn_109 (by omega) (by omega) ?_
            refine vc_iconst dX12_goTurn_110 rfl ?_
            refine vc_iremE dX12_goTurn_111 (by omega) (by omega) ?_
            refine vc_nameI (fun x1667 ex1667 => ?_)
            refine vc_istore dX12_goTurn_112 (by decide) rfl (show _ = [some (aR 54), some (aI t), some (aI s), some (aI x1), some (aI x1359), some (aI 1), some (aI 0), some (aI x1667), none, none] from rfl) ?_
            refine vc_iconst dX12_goTurn_114 rfl ?_
            refine vc_istore dX12_goTurn_115 (by decide) rfl (show _ = [some (aR 54), some (aI t), some (aI s), some (aI x1), some (aI x1359), some (aI 1), some (aI 0), some (aI x1667), some (aI 0), none] from rfl) ?_
            refine vc_iconst dX12_goTurn_117 rfl ?_
            refine vc_istore dX12_goTurn_118 (by decide) rfl (show _ = [some (aR 54), some (aI t), some (aI s), some (aI x1), some (aI x1359), some (aI 1), some (aI 0), some (aI x1667), some (aI 0), some (aI 0)] from rfl) ?_
            have lp120 : ∀ (n120 : Nat) (Mq120 : Mem) (v8 : Int) (v9 : Int), (BD M Mq120) → (mI Mq120 64 = mI M 64) → (mI Mq120 65 = mI M 65) → (mI Mq120 67 = mI M 67) → (mI Mq120 68 = mI M 68) → (mI Mq120 69 = mI M 69) → (mI Mq120 70 = mI M 70) → (mI Mq120 71 = mI M 71) → (mI Mq120 72 = mI M 72) → (mI Mq120 73 = mI M 73) → (mI Mq120 74 = mI M 74) → (mI Mq120 55 = mI M 55) → (mI Mq120 57 = mI M 57) → (mI Mq120 58 = mI M 58) → (mI Mq120 63 = mI M 63) → (0 ≤ v9) → (v9 ≤ 1) → (mI Mq120 54 32 = mI M 54 32) → (0 ≤ mI Mq120 54 27) → (mI Mq120 54 27 ≤ 40) → (40 - mI Mq120 54 27).toNat < n120 → VC l mdX12_goTurn 120 [some (aR 54), none, some (aI s), some (aI x1), some (aI x1359), some (aI 1), none, some (aI x1667), some (aI v8), some (aI v9)] [] Mq120 0 0 (fun q N => ∃ r : Int, q = some (aI r) ∧ BD M N ∧ mI N 55 = mI M 55 ∧ mI N 57 = mI M 57 ∧ mI N 58 = mI M 58 ∧ mI N 63 = mI M 63 ∧ mI N 64 = mI M 64 ∧ mI N 65 = mI M 65 ∧ mI N 67 = mI M 67 ∧ mI N 68 = mI M 68 ∧ mI N 69 = mI M 69 ∧ mI N 70 = mI M 70 ∧ mI N 71 = mI M 71 ∧ mI N 72 = mI M 72 ∧ mI N 73 = mI M 73 ∧ mI N 74 = mI M 74 ∧ 0 ≤ r ∧ r ≤ 1 ∧ mI N 54 32 = mI M 54 32) := by
              intro n120
              induction n120 with
              | zero => intro Mq120 v8 v9 hQ120 kp120_64 kp120_65 kp120_67 kp120_68 kp120_69 kp120_70 kp120_71 kp120_72 kp120_73 kp120_74 kp120_55 kp120_57 kp120_58 kp120_63 g120_9a g120_9b g120i0 g120i1 g120i2 hm120; exact absurd hm120 (Nat.not_lt_zero _)
              | succ n120 ih120 =>
                intro Mq120 v8 v9 hQ120 kp120_64 kp120_65 kp120_67 kp120_68 kp120_69 kp120_70 kp120_71 kp120_72 kp120_73 kp120_74 kp120_55 kp120_57 kp120_58 kp120_63 g120_9a g120_9b g120i0 g120i1 g120i2 hm120
                refine vc_iload dX12_goTurn_120 rfl ?_
                refine vc_if_ne dX12_goTurn_122 (fun h1668 => ?_) (fun h1668 => ?_)
                · refine vc_iload_n dX12_goTurn_200 rfl ?_
                  refine vc_iconst dX12_goTurn_201 rfl ?_
                  refine vc_icmp_eq dX12_goTurn_202 (fun h1669 => by exfalso; omega) (fun h1669 => ?_)
                  refine vc_aload_n dX12_goTurn_205 rfl ?_
                  refine vc_iload dX12_goTurn_206 rfl ?_
                  refine vc_iload_n dX12_goTurn_208 rfl ?_
                  refine vc_cVI dX12_goTurn_209 (sfX12_isCounted (M := Mq120) hQ120.1  x1667 s (by omega) (by omega)) rfl okX12_isCounted viX12_isCounted lkX12_352 (s_54 hQ120.1.1) cl_12 rfl (Nat.le_of_ble_eq_true rfl) ⟨rfl, rfl⟩ (Nat.le_of_ble_eq_true rfl) (Nat.le_of_ble_eq_true rfl) (Nat.le_of_ble_eq_true rfl) ?_
                  rintro x1670 _ ⟨rfl, h1671, h1672⟩
                  refine vc_if_ne dX12_goTurn_212 (fun h1673 => ?_) (fun h1673 => ?_)
                  · refine vc_aload_n dX12_goTurn_217 rfl ?_
                    refine vc_iload dX12_goTurn_218 rfl ?_
                    refine vc_putI dX12_goTurn_220 (plX12_324 _ rfl) (s_54 hQ120.1.1) rfl ?_
                    have kp1674 : mI (sI Mq120 54 25 x1667) 64 = mI M 64 := (kp_sI kp120_64 rfl)
                    have kp1675 : mI (sI Mq120 54 25 x1667) 65 = mI M 65 := (kp_sI kp120_65 rfl)
                    have kp1676 : mI (sI Mq120 54 25 x1667) 67 = mI M 67 := (kp_sI kp120_67 rfl)
                    have kp1677 : mI (sI Mq120 54 25 x1667) 68 = mI M 68 := (kp_sI kp120_68 rfl)
                    have kp1678 : mI (sI Mq120 54 25 x1667) 69 = mI M 69 := (kp_sI kp120_69 rfl)
                    have kp1679 : mI (sI Mq120 54 25 x1667) 70 = mI M 70 := (kp_sI kp120_70 rfl)
                    have kp1680 : mI (sI Mq120 54 25 x1667) 71 = mI M 71 := (kp_sI kp120_71 rfl)
                    have kp1681 : mI (sI Mq120 54 25 x1667) 72 = mI M 72 := (kp_sI kp120_72 rfl)
                    have kp1682 : mI (sI Mq120 54 25 x1667) 73 = mI M 73 := (kp_sI kp120_73 rfl)
                    have kp1683 : mI (sI Mq120 54 25 x1667) 74 = mI M 74 := (kp_sI kp120_74 rfl)
                    have kp1684 : mI (sI Mq120 54 25 x1667) 55 = mI M 55 := (kp_sI kp120_55 rfl)
                    have kp1685 : mI (sI Mq120 54 25 x1667) 57 = mI M 57 := (kp_sI kp120_57 rfl)
                    have kp1686 : mI (sI Mq120 54 25 x1667) 58 = mI M 58 := (kp_sI kp120_58 rfl)
                    have kp1687 : mI (sI Mq120 54 25 x1667) 63 = mI M 63 := (kp_sI kp120_63 rfl)
                    have hB1688 : BD M (sI Mq120 54 25 x1667) := BD.w54_25 hQ120 (by omega) (by omega)
                    refine vc_iconst dX12_goTurn_223 rfl ?_
                    refine vc_zret dX12_goTurn_224 rfl (by first | decide | omega) (Nat.le_of_ble_eq_true rfl) (Nat.le_of_ble_eq_true rfl) ?_
                    have k1689 : mI (sI Mq120 54 25 x1667) 54 27 = mI Mq120 54 27 := rfl
                    have k1690 : mI (sI Mq120 54 25 x1667) 54 32 = mI Mq120 54 32 := rfl
                    exact ⟨_, rfl, hB1688, kp1684, kp1685, kp1686, kp1687, kp1674, kp1675, kp1676, kp1677, kp1678, kp1679, kp1680, kp1681, kp1682, kp1683, by omega, by omega, by omega⟩
                  · refine vc_iconst dX12_goTurn_215 rfl ?_
                    refine vc_zret dX12_goTurn_216 rfl (by first | decide | omega) (Nat.le_of_ble_eq_true rfl) (Nat.le_of_ble_eq_true rfl) ?_
                    exact ⟨_, rfl, hQ120, kp120_55, kp120_57, kp120_58, kp120_63, kp120_64, kp120_65, kp120_67, kp120_68, kp120_69, kp120_70, kp120_71, kp120_72, kp120_73, kp120_74, by omega, by omega, by omega⟩
                · refine vc_aload_n dX12_goTurn_125 rfl ?_
                  refine vc_cVI dX12_goTurn_126 (sfX12_goOn (M := Mq120) hQ120.1   ) rfl okX12_goOn viX12_goOn lkX12_348 (s_54 hQ120.1.1) cl_12 rfl (Nat.le_of_ble_eq_true rfl) ⟨rfl, rfl⟩ (Nat.le_of_ble_eq_true rfl) (Nat.le_of_ble_eq_true rfl) (Nat.le_of_ble_eq_true rfl) ?_
                  rintro x1691 M1692 ⟨hB1693, kp1694, kp1695, kp1696, kp1697, kp1698, kp1699, kp1700, kp1701, kp1702, kp1703, kp1704, kp1705, kp1706, kp1707, h1708, h1709, h1710, h1711⟩
                  have hB1712 : BD M M1692 := BD.go hQ120 hB1693
                  have kp1713 : mI M1692 64 = mI M 64 := kp_go kp120_64 kp1698
                  have kp1714 : mI M1692 65 = mI M 65 := kp_go kp120_65 kp1699
                  have kp1715 : mI M1692 67 = mI M 67 := kp_go kp120_67 kp1700
                  have kp1716 : mI M1692 68 = mI M 68 := kp_go kp120_68 kp1701
                  have kp1717 : mI M1692 69 = mI M 69 := kp_go kp120_69 kp1702
                  have kp1718 : mI M1692 70 = mI M 70 := kp_go kp120_70 kp1703
                  have kp1719 : mI M1692 71 = mI M 71 := kp_go kp120_71 kp1704
                  have kp1720 : mI M1692 72 = mI M 72 := kp_go kp120_72 kp1705
                  have kp1721 : mI M1692 73 = mI M 73 := kp_go kp120_73 kp1706
                  have kp1722 : mI M1692 74 = mI M 74 := kp_go kp120_74 kp1707
                  have kp1723 : mI M1692 55 = mI M 55 := kp_go kp120_55 kp1694
                  have kp1724 : mI M1692 57 = mI M 57 := kp_go kp120_57 kp1695
                  have kp1725 : mI M1692 58 = mI M 58 := kp_go kp120_58 kp1696
                  have kp1726 : mI M1692 63 = mI M 63 := kp_go kp120_63 kp1697
                  have kz := b54_27 (M := M1692) hB1712.1
                  refine vc_if_ne dX12_goTurn_129 (fun h1727 => ?_) (fun h1727 => ?_)
                  · refine vc_iload dX12_goTurn_134 rfl ?_
                    refine vc_if_ne dX12_goTurn_136 (fun h1728 => ?_) (fun h1728 => by exfalso; omega)
                    refine vc_iload dX12_goTurn_157 rfl ?_
                    refine vc_if_eq dX12_goTurn_159 (fun h1729 => by exfalso; omega) (fun h1729 => ?_)
                    refine vc_aload_n dX12_goTurn_162 rfl ?_
                    refine vc_aload_n dX12_goTurn_163 rfl ?_
                    refine vc_getI dX12_goTurn_164 flX12_321 (s_54 hB1712.1.1) rfl ?_
                    have k1730 : 0 ≤ mI M1692 54 24 ∧ mI M1692 54 24 ≤ 15 := b54_24 (M := M1692) hB1712.1
                    refine vc_cVI dX12_goTurn_167 (sfX12_sightOf (M := M1692) hB1712.1  (mI M1692 54 24) (by omega) (by omega)) rfl okX12_sightOf viX12_sightOf lkX12_318 (s_54 hB1712.1.1) cl_12 rfl (Nat.le_of_ble_eq_true rfl) ⟨rfl, rfl⟩ (Nat.le_of_ble_eq_true rfl) (Nat.le_of_ble_eq_true rfl) (Nat.le_of_ble_eq_true rfl) ?_
                    rintro x1731 _ rfl
                    refine vc_iload dX12_goTurn_170 rfl ?_
                    refine vc_icmp_ne dX12_goTurn_172 (fun h1732 => ?_) (fun h1732 => ?_)
                    · refine vc_iconst dX12_goTurn_179 rfl ?_
                      refine vc_goto dX12_goTurn_180 ?_
                      refine vc_istore dX12_goTurn_195 (by decide) rfl (show _ = [some (aR 54), none, some (aI s), some (aI x1), some (aI x1359), some (aI 1), none, some (aI x1667), some (aI v8), some (aI 0)] from rfl) ?_
                      refine vc_goto dX12_goTurn_197 ?_
                      exact ih120 M1692 v8 0 hB1712 kp1713 kp1714 kp1715 kp1716 kp1717 kp1718 kp1719 kp1720 kp1721 kp1722 kp1723 kp1724 kp1725 kp1726 (by omega) (by omega) (by omega) (by omega) (by omega) (by omega)
                    · refine vc_iconst dX12_goTurn_175 rfl ?_
                      refine vc_goto dX12_goTurn_176 ?_
                      refine vc_istore dX12_goTurn_195 (by decide) rfl (show _ = [some (aR 54), none, some (aI s), some (aI x1), some (aI x1359), some (aI 1), none, some (aI x1667), some (aI v8), some (aI 1)] from rfl) ?_
                      refine vc_goto dX12_goTurn_197 ?_
                      exact ih120 M1692 v8 1 hB1712 kp1713 kp1714 kp1715 kp1716 kp1717 kp1718 kp1719 kp1720 kp1721 kp1722 kp1723 kp1724 kp1725 kp1726 (by omega) (by omega) (by omega) (by omega) (by omega) (by omega)
                  · refine vc_iconst dX12_goTurn_132 rfl ?_
                    refine vc_zret dX12_goTurn_133 rfl (by first | decide | omega) (Nat.le_of_ble_eq_true rfl) (Nat.le_of_ble_eq_true rfl) ?_
                    exact ⟨_, rfl, hB1712, kp1723, kp1724, kp1725, kp1726, kp1713, kp1714, kp1715, kp1716, kp1717, kp1718, kp1719, kp1720, kp1721, kp1722, by omega, by omega, by omega⟩
            refine vc_less [some (aR 54), none, some (aI s), some (aI x1), some (aI x1359), some (aI 1), none, some (aI x1667), some (aI 0), some (aI 0)] (lessL_keep (lessL_drop (lessL_keep (lessL_keep (lessL_keep (lessL_keep (lessL_drop (lessL_keep (lessL_keep (lessL_keep (lessL_nil))))))))))) ?_
            exact lp120 _ M 0 0 hB0 rfl rfl rfl rfl rfl rfl rfl rfl rfl rfl rfl rfl rfl rfl (by omega) (by omega) (by omega) (by omega) (by omega) (Nat.lt_succ_self _)
          · refine vc_iconst dX12_goTurn_68 rfl ?_
            refine vc_goto dX12_goTurn_69 ?_
            refine vc_icmp_ne dX12_goTurn_73 (fun h1733 => by exfalso; omega) (fun h1733 => ?_)
            refine vc_iconst dX12_goTurn_76 rfl ?_
            refine vc_goto dX12_goTurn_77 ?_
            refine vc_istore dX12_goTurn_81 (by decide) rfl (show _ = [some (aR 54), some (aI t), some (aI s), some (aI x1), some (aI x1359), some (aI 1), some (aI 1), none, none, none] from rfl) ?_
            refine vc_iload_n dX12_goTurn_83 rfl ?_
            refine vc_iconst dX12_goTurn_84 rfl ?_
            refine vc_icmp_ne dX12_goTurn_85 (fun h1734 => ?_) (fun h1734 => by exfalso; omega)
            refine vc_aload_n dX12_goTurn_95 rfl ?_
            refine vc_getI dX12_goTurn_96 flX12_324 (s_54 hB0.1.1) rfl ?_
            have k1735 : 0 ≤ mI M 54 25 ∧ mI M 54 25 ≤ 3 := b54_25 (M := M) hB0.1
            refine vc_iload dX12_goTurn_99 rfl ?_
            refine vc_if_eq dX12_goTurn_101 (fun h1736 => by exfalso; omega) (fun h1736 => ?_)
            refine vc_iconst dX12_goTurn_104 rfl ?_
            refine vc_goto dX12_goTurn_105 ?_
            refine vc_iaddE dX12_goTurn_109 (by omega) (by omega) ?_
            refine vc_iconst dX12_goTurn_110 rfl ?_
            refine vc_iremE dX12_goTurn_111 (by omega) (by omega) ?_
            refine vc_nameI (fun x1737 ex1737 => ?_)
            refine vc_istore dX12_goTurn_112 (by decide) rfl (show _ = [some (aR 54), some (aI t), some (aI s), some (aI x1), some (aI x1359), some (aI 1), some (aI 1), some (aI x1737), none, none] from rfl) ?_
            refine vc_iconst dX12_goTurn_114 rfl ?_
            refine vc_istore dX12_goTurn_115 (by decide) rfl (show _ = [some (aR 54), some (aI t), some (aI s), some (aI x1), some (aI x1359), some (aI 1), some (aI 1), some (aI x1737), some (aI 0), none] from rfl) ?_
            refine vc_iconst dX12_goTurn_117 rfl ?_
            refine vc_istore dX12_goTurn_118 (by decide) rfl (show _ = [some (aR 54), some (aI t), some (aI s), some (aI x1), some (aI x1359), some (aI 1), some (aI 1), some (aI x1737), some (aI 0), some (aI 0)] from rfl) ?_
            have lp120 : ∀ (n120 : Nat) (Mq120 : Mem) (v8 : Int) (v9 : Int), (BD M Mq120) → (mI Mq120 64 = mI M 64) → (mI Mq120 65 = mI M 65) → (mI Mq120 67 = mI M 67) → (mI Mq120 68 = mI M 68) → (mI Mq120 69 = mI M 69) → (mI Mq120 70 = mI M 70) → (mI Mq120 71 = mI M 71) → (mI Mq120 72 = mI M 72) → (mI Mq120 73 = mI M 73) → (mI Mq120 74 = mI M 74) → (mI Mq120 55 = mI M 55) → (mI Mq120 57 = mI M 57) → (mI Mq120 58 = mI M 58) → (mI Mq120 63 = mI M 63) → (0 ≤ v9) → (v9 ≤ 1) → (mI Mq120 54 32 = mI M 54 32) → (0 ≤ mI Mq120 54 27) → (mI Mq120 54 27 ≤ 40) → (40 - mI Mq120 54 27).toNat < n120 → VC l mdX12_goTurn 120 [some (aR 54), none, some (aI s), some (aI x1), some (aI x1359), some (aI 1), none, some (aI x1737), some (aI v8), some (aI v9)] [] Mq120 0 0 (fun q N => ∃ r : Int, q = some (aI r) ∧ BD M N ∧ mI N 55 = mI M 55 ∧ mI N 57 = mI M 57 ∧ mI N 58 = mI M 58 ∧ mI N 63 = mI M 63 ∧ mI N 64 = mI M 64 ∧ mI N 65 = mI M 65 ∧ mI N 67 = mI M 67 ∧ mI N 68 = mI M 68 ∧ mI N 69 = mI M 69 ∧ mI N 70 = mI M 70 ∧ mI N 71 = mI M 71 ∧ mI N 72 = mI M 72 ∧ mI N 73 = mI M 73 ∧ mI N 74 = mI M 74 ∧ 0 ≤ r ∧ r ≤ 1 ∧ mI N 54 32 = mI M 54 32) := by
              intro n120
              induction n120 with
              | zero => intro Mq120 v8 v9 hQ120 kp120_64 kp120_65 kp120_67 kp120_68 kp120_69 kp120_70 kp120_71 kp120_72 kp120_73 kp120_74 kp120_55 kp120_57 kp120_58 kp120_63 g120_9a g120_9b g120i0 g120i1 g120i2 hm120; exact absurd hm120 (Nat.not_lt_zero _)
              | succ n120 ih120 =>
                intro Mq120 v8 v9 hQ120 kp120_64 kp120_65 kp120_67 kp120_68 kp120_69 kp120_70 kp120_71 kp120_72 kp120_73 kp120_74 kp120_55 kp120_57 kp120_58 kp120_63 g120_9a g120_9b g120i0 g120i1 g120i2 hm120
                refine vc_iload dX12_goTurn_120 rfl ?_
                refine vc_if_ne dX12_goTurn_122 (fun h1738 => ?_) (fun h1738 => ?_)
                · refine vc_iload_n dX12_goTurn_200 rfl ?_
                  refine vc_iconst dX12_goTurn_201 rfl ?_
                  refine vc_icmp_eq dX12_goTurn_202 (fun h1739 => by exfalso; omega) (fun h1739 => ?_)
                  refine vc_aload_n dX12_goTurn_205 rfl ?_
                  refine vc_iload dX12_goTurn_206 rfl ?_
                  refine vc_iload_n dX12_goTurn_208 rfl ?_
                  refine vc_cVI dX12_goTurn_209 (sfX12_isCounted (M := Mq120) hQ120.1  x1737 s (by omega) (by omega)) rfl okX12_isCounted viX12_isCounted lkX12_352 (s_54 hQ120.1.1) cl_12 rfl (Nat.le_of_ble_eq_true rfl) ⟨rfl, rfl⟩ (Nat.le_of_ble_eq_true rfl) (Nat.le_of_ble_eq_true rfl) (Nat.le_of_ble_eq_true rfl) ?_
                  rintro x1740 _ ⟨rfl, h1741, h1742⟩
                  refine vc_if_ne dX12_goTurn_212 (fun h1743 => ?_) (fun h1743 => ?_)
                  · refine vc_aload_n dX12_goTurn_217 rfl ?_
                    refine vc_iload dX12_goTurn_218 rfl ?_
                    refine vc_putI dX12_goTurn_220 (plX12_324 _ rfl) (s_54 hQ120.1.1) rfl ?_
                    have kp1744 : mI (sI Mq120 54 25 x1737) 64 = mI M 64 := (kp_sI kp120_64 rfl)
                    have kp1745 : mI (sI Mq120 54 25 x1737) 65 = mI M 65 := (kp_sI kp120_65 rfl)
                    have kp1746 : mI (sI Mq120 54 25 x1737) 67 = mI M 67 := (kp_sI kp120_67 rfl)
                    have kp1747 : mI (sI Mq120 54 25 x1737) 68 = mI M 68 := (kp_sI kp120_68 rfl)
                    have kp1748 : mI (sI Mq120 54 25 x1737) 69 = mI M 69 := (kp_sI kp120_69 rfl)
                    have kp1749 : mI (sI Mq120 54 25 x1737) 70 = mI M 70 := (kp_sI kp120_70 rfl)
                    have kp1750 : mI (sI Mq120 54 25 x1737) 71 = mI M 71 := (kp_sI kp120_71 rfl)
                    have kp1751 : mI (sI Mq120 54 25 x1737) 72 = mI M 72 := (kp_sI kp120_72 rfl)
                    have kp1752 : mI (sI Mq120 54 25 x1737) 73 = mI M 73 := (kp_sI kp120_73 rfl)
                    have kp1753 : mI (sI Mq120 54 25 x1737) 74 = mI M 74 := (kp_sI kp120_74 rfl)
                    have kp1754 : mI (sI Mq120 54 25 x1737) 55 = mI M 55 := (kp_sI kp120_55 rfl)
                    have kp1755 : mI (sI Mq120 54 25 x1737) 57 = mI M 57 := (kp_sI kp120_57 rfl)
                    have kp1756 : mI (sI Mq120 54 25 x1737) 58 = mI M 58 := (kp_sI kp120_58 rfl)
                    have kp1757 : mI (sI Mq120 54 25 x1737) 63 = mI M 63 := (kp_sI kp120_63 rfl)
                    have hB1758 : BD M (sI Mq120 54 25 x1737) := BD.w54_25 hQ120 (by omega) (by omega)
                    refine vc_iconst dX12_goTurn_223 rfl ?_
                    refine vc_zret dX12_goTurn_224 rfl (by first | decide | omega) (Nat.le_of_ble_eq_true rfl) (Nat.le_of_ble_eq_true rfl) ?_
                    have k1759 : mI (sI Mq120 54 25 x1737) 54 27 = mI Mq120 54 27 := rfl
                    have k1760 : mI (sI Mq120 54 25 x1737) 54 32 = mI Mq120 54 32 := rfl
                    exact ⟨_, rfl, hB1758, kp1754, kp1755, kp1756, kp1757, kp1744, kp1745, kp1746, kp1747, kp1748, kp1749, kp1750, kp1751, kp1752, kp1753, by omega, by omega, by omega⟩
                  · refine vc_iconst dX12_goTurn_215 rfl ?_
                    refine vc_zret dX12_goTurn_216 rfl (by first | decide | omega) (Nat.le_of_ble_eq_true rfl) (Nat.le_of_ble_eq_true rfl) ?_
                    exact ⟨_, rfl, hQ120, kp120_55, kp120_57, kp120_58, kp120_63, kp120_64, kp120_65, kp120_67, kp120_68, kp120_69, kp120_70, kp120_71, kp120_72, kp120_73, kp120_74, by omega, by omega, by omega⟩
                · refine vc_aload_n dX12_goTurn_125 rfl ?_
                  refine vc_cVI dX12_goTurn_126 (sfX12_goOn (M := Mq120) hQ120.1   ) rfl okX12_goOn viX12_goOn lkX12_348 (s_54 hQ120.1.1) cl_12 rfl (Nat.le_of_ble_eq_true rfl) ⟨rfl, rfl⟩ (Nat.le_of_ble_eq_true rfl) (Nat.le_of_ble_eq_true rfl) (Nat.le_of_ble_eq_true rfl) ?_
                  rintro x1761 M1762 ⟨hB1763, kp1764, kp1765, kp1766, kp1767, kp1768, kp1769, kp1770, kp1771, kp1772, kp1773, kp1774, kp1775, kp1776, kp1777, h1778, h1779, h1780, h1781⟩
                  have hB1782 : BD M M1762 := BD.go hQ120 hB1763
                  have kp1783 : mI M1762 64 = mI M 64 := kp_go kp120_64 kp1768
                  have kp1784 : mI M1762 65 = mI M 65 := kp_go kp120_65 kp1769
                  have kp1785 : mI M1762 67 = mI M 67 := kp_go kp120_67 kp1770
                  have kp1786 : mI M1762 68 = mI M 68 := kp_go kp120_68 kp1771
                  have kp1787 : mI M1762 69 = mI M 69 := kp_go kp120_69 kp1772
                  have kp1788 : mI M1762 70 = mI M 70 := kp_go kp120_70 kp1773
                  have kp1789 : mI M1762 71 = mI M 71 := kp_go kp120_71 kp1774
                  have kp1790 : mI M1762 72 = mI M 72 := kp_go kp120_72 kp1775
                  have kp1791 : mI M1762 73 = mI M 73 := kp_go kp120_73 kp1776
                  have kp1792 : mI M1762 74 = mI M 74 := kp_go kp120_74 kp1777
                  have kp1793 : mI M1762 55 = mI M 55 := kp_go kp120_55 kp1764
                  have kp1794 : mI M1762 57 = mI M 57 := kp_go kp120_57 kp1765
                  have kp1795 : mI M1762 58 = mI M 58 := kp_go kp120_58 kp1766
                  have kp1796 : mI M1762 63 = mI M 63 := kp_go kp120_63 kp1767
                  have kz := b54_27 (M := M1762) hB1782.1
                  refine vc_if_ne dX12_goTurn_129 (fun h1797 => ?_) (fun h1797 => ?_)
                  · refine vc_iload dX12_goTurn_134 rfl ?_
                    refine vc_if_ne dX12_goTurn_136 (fun h1798 => ?_) (fun h1798 => by exfalso; omega)
                    refine vc_iload dX12_goTurn_157 rfl ?_
                    refine vc_if_eq dX12_goTurn_159 (fun h1799 => by exfalso; omega) (fun h1799 => ?_)
                    refine vc_aload_n dX12_goTurn_162 rfl ?_
                    refine vc_aload_n dX12_goTurn_163 rfl ?_
                    refine vc_getI dX12_goTurn_164 flX12_321 (s_54 hB1782.1.1) rfl ?_
                    have k1800 : 0 ≤ mI M1762 54 24 ∧ mI M1762 54 24 ≤ 15 := b54_24 (M := M1762) hB1782.1
                    refine vc_cVI dX12_goTurn_167 (sfX12_sightOf (M := M1762) hB1782.1  (mI M1762 54 24) (by omega) (by omega)) rfl okX12_sightOf viX12_sightOf lkX12_318 (s_54 hB1782.1.1) cl_12 rfl (Nat.le_of_ble_eq_true rfl) ⟨rfl, rfl⟩ (Nat.le_of_ble_eq_true rfl) (Nat.le_of_ble_eq_true rfl) (Nat.le_of_ble_eq_true rfl) ?_
                    rintro x1801 _ rfl
                    refine vc_iload dX12_goTurn_170 rfl ?_
                    refine vc_icmp_ne dX12_goTurn_172 (fun h1802 => ?_) (fun h1802 => ?_)
                    · refine vc_iconst dX12_goTurn_179 rfl ?_
                      refine vc_goto dX12_goTurn_180 ?_
                      refine vc_istore dX12_goTurn_195 (by decide) rfl (show _ = [some (aR 54), none, some (aI s), some (aI x1), some (aI x1359), some (aI 1), none, some (aI x1737), some (aI v8), some (aI 0)] from rfl) ?_
                      refine vc_goto dX12_goTurn_197 ?_
                      exact ih120 M1762 v8 0 hB1782 kp1783 kp1784 kp1785 kp1786 kp1787 kp1788 kp1789 kp1790 kp1791 kp1792 kp1793 kp1794 kp1795 kp1796 (by omega) (by omega) (by omega) (by omega) (by omega) (by omega)
                    · refine vc_iconst dX12_goTurn_175 rfl ?_
                      refine vc_goto dX12_goTurn_176 ?_
                      refine vc_istore dX12_goTurn_195 (by decide) rfl (show _ = [some (aR 54), none, some (aI s), some (aI x1), some (aI x1359), some (aI 1), none, some (aI x1737), some (aI v8), some (aI 1)] from rfl) ?_
                      refine vc_goto dX12_goTurn_197 ?_
                      exact ih120 M1762 v8 1 hB1782 kp1783 kp1784 kp1785 kp1786 kp1787 kp1788 kp1789 kp1790 kp1791 kp1792 kp1793 kp1794 kp1795 kp1796 (by omega) (by omega) (by omega) (by omega) (by omega) (by omega)
                  · refine vc_iconst dX12_goTurn_132 rfl ?_
                    refine vc_zret dX12_goTurn_133 rfl (by first | decide | omega) (Nat.le_of_ble_eq_true rfl) (Nat.le_of_ble_eq_true rfl) ?_
                    exact ⟨_, rfl, hB1782, kp1793, kp1794, kp1795, kp1796, kp1783, kp1784, kp1785, kp1786, kp1787, kp1788, kp1789, kp1790, kp1791, kp1792, by omega, by omega, by omega⟩
            refine vc_less [some (aR 54), none, some (aI s), some (aI x1), some (aI x1359), some (aI 1), none, some (aI x1737), some (aI 0), some (aI 0)] (lessL_keep (lessL_drop (lessL_keep (lessL_keep (lessL_keep (lessL_keep (lessL_drop (lessL_keep (lessL_keep (lessL_keep (lessL_nil))))))))))) ?_
            exact lp120 _ M 0 0 hB0 rfl rfl rfl rfl rfl rfl rfl rfl rfl rfl rfl rfl rfl rfl (by omega) (by omega) (by omega) (by omega) (by omega) (Nat.lt_succ_self _)

set_option maxRecDepth 4000 in
theorem sfX12_takeTurns {l : Launch} {M : Mem} (hB : Box M)  (t : Int) (wo : Int) (p0 : 0 ≤ t) (p1 : t ≤ 7) : Call l mdX12_takeTurns [aR 54, aI t, aI wo] M (fun q N => q = none ∧ BD M N ∧ mI N 55 = mI M 55 ∧ mI N 57 = mI M 57 ∧ mI N 58 = mI M 58 ∧ mI N 64 = mI M 64 ∧ mI N 65 = mI M 65 ∧ mI N 67 = mI M 67 ∧ mI N 68 = mI M 68 ∧ mI N 69 = mI M 69 ∧ mI N 70 = mI M 70 ∧ mI N 71 = mI M 71 ∧ mI N 72 = mI M 72 ∧ mI N 73 = mI M 73 ∧ mI N 74 = mI M 74 ∧ mI M 55 (((184 + (9 * t)) + 2)).toNat - 1 ≤ mI N 54 32 ∧ (0 ≤ wo ∨ mI M 55 (((184 + (9 * t)) + 2)).toNat ≤ mI N 54 32)) := by
  have hB0 := BD.start hB
  refine Call.of [some (aR 54), some (aI t), some (aI wo), none] rfl (Nat.le_of_ble_eq_true rfl) rfl ?_
  refine vc_ok (fun hoM hoS hoL => ?_)
  have hr2 : -2147483648 ≤ wo ∧ wo < 2147483648 := hoL 2 _ rfl
  refine vc_aload_n dX12_takeTurns_0 rfl ?_
  refine vc_iconst dX12_takeTurns_1 rfl ?_
  refine vc_putI dX12_takeTurns_2 (plX12_355 _ rfl) (s_54 hB0.1.1) rfl ?_
  have kp1 : mI (sI M 54 32 0) 64 = mI M 64 := (kp_sI rfl rfl)
  have kp2 : mI (sI M 54 32 0) 65 = mI M 65 := (kp_sI rfl rfl)
  have kp3 : mI (sI M 54 32 0) 67 = mI M 67 := (kp_sI rfl rfl)
  have kp4 : mI (sI M 54 32 0) 68 = mI M 68 := (kp_sI rfl rfl)
  have kp5 : mI (sI M 54 32 0) 69 = mI M 69 := (kp_sI rfl rfl)
  have kp6 : mI (sI M 54 32 0) 70 = mI M 70 := (kp_sI rfl rfl)
  have kp7 : mI (sI M 54 32 0) 71 = mI M 71 := (kp_sI rfl rfl)
  have kp8 : mI (sI M 54 32 0) 72 = mI M 72 := (kp_sI rfl rfl)
  have kp9 : mI (sI M 54 32 0) 73 = mI M 73 := (kp_sI rfl rfl)
  have kp10 : mI (sI M 54 32 0) 74 = mI M 74 := (kp_sI rfl rfl)
  have kp11 : mI (sI M 54 32 0) 55 = mI M 55 := (kp_sI rfl rfl)
  have kp12 : mI (sI M 54 32 0) 57 = mI M 57 := (kp_sI rfl rfl)
  have kp13 : mI (sI M 54 32 0) 58 = mI M 58 := (kp_sI rfl rfl)
  have hB14 : BD M (sI M 54 32 0) := BD.w54_32 hB0 (by omega) (by omega)
  refine vc_iconst dX12_takeTurns_5 rfl ?_
  refine vc_istore_n dX12_takeTurns_6 (by decide) rfl (show _ = [some (aR 54), some (aI t), some (aI wo), some (aI 0)] from rfl) ?_
  have lp7 : ∀ (n7 : Nat) (Mq7 : Mem) (v3 : Int), (BD M Mq7) → (mI Mq7 64 = mI M 64) → (mI Mq7 65 = mI M 65) → (mI Mq7 67 = mI M 67) → (mI Mq7 68 = mI M 68) → (mI Mq7 69 = mI M 69) → (mI Mq7 70 = mI M 70) → (mI Mq7 71 = mI M 71) → (mI Mq7 72 = mI M 72) → (mI Mq7 73 = mI M 73) → (mI Mq7 74 = mI M 74) → (mI Mq7 55 = mI M 55) → (mI Mq7 57 = mI M 57) → (mI Mq7 58 = mI M 58) → (0 ≤ v3) → (v3 ≤ 6) → (((wo < 0 ∨ v3 ≤ wo) ∧ mI Mq7 54 32 = v3) ∨ (0 ≤ wo ∧ wo < v3 ∧ mI Mq7 54 32 = v3 - 1)) → (6 - v3).toNat < n7 → VC l mdX12_takeTurns 7 [some (aR 54), some (aI t), some (aI wo), some (aI v3)] [] Mq7 0 0 (fun q N => q = none ∧ BD M N ∧ mI N 55 = mI M 55 ∧ mI N 57 = mI M 57 ∧ mI N 58 = mI M 58 ∧ mI N 64 = mI M 64 ∧ mI N 65 = mI M 65 ∧ mI N 67 = mI M 67 ∧ mI N 68 = mI M 68 ∧ mI N 69 = mI M 69 ∧ mI N 70 = mI M 70 ∧ mI N 71 = mI M 71 ∧ mI N 72 = mI M 72 ∧ mI N 73 = mI M 73 ∧ mI N 74 = mI M 74 ∧ mI M 55 (((184 + (9 * t)) + 2)).toNat - 1 ≤ mI N 54 32 ∧ (0 ≤ wo ∨ mI M 55 (((184 + (9 * t)) + 2)).toNat ≤ mI N 54 32)) := by
    intro n7
    induction n7 with
    | zero => intro Mq7 v3 hQ7 kp7_64 kp7_65 kp7_67 kp7_68 kp7_69 kp7_70 kp7_71 kp7_72 kp7_73 kp7_74 kp7_55 kp7_57 kp7_58 g7_3a g7_3b g7i0 hm7; exact absurd hm7 (Nat.not_lt_zero _)
    | succ n7 ih7 =>
      intro Mq7 v3 hQ7 kp7_64 kp7_65 kp7_67 kp7_68 kp7_69 kp7_70 kp7_71 kp7_72 kp7_73 kp7_74 kp7_55 kp7_57 kp7_58 g7_3a g7_3b g7i0 hm7
      refine vc_iload_n dX12_takeTurns_7 rfl ?_
      refine vc_aload_n dX12_takeTurns_8 rfl ?_
      refine vc_iload_n dX12_takeTurns_9 rfl ?_
      refine vc_cVI dX12_takeTurns_10 (sfX12_turnsOf (M := Mq7) hQ7.1  t (by omega) (by omega)) rfl okX12_turnsOf viX12_turnsOf lkX12_305 (s_54 hQ7.1.1) cl_12 rfl (Nat.le_of_ble_eq_true rfl) ⟨rfl, rfl⟩ (Nat.le_of_ble_eq_true rfl) (Nat.le_of_ble_eq_true rfl) (Nat.le_of_ble_eq_true rfl) ?_
      rintro x15 _ ⟨rfl, h16, h17, h18⟩
      have kz := h18.trans (congrFun kp7_55 _)
      refine vc_icmp_ge dX12_takeTurns_13 (fun h19 => ?_) (fun h19 => ?_)
      · refine vc_vret dX12_takeTurns_55 rfl (Nat.le_of_ble_eq_true rfl) (Nat.le_of_ble_eq_true rfl) ?_
        exact ⟨rfl, hQ7, kp7_55, kp7_57, kp7_58, kp7_64, kp7_65, kp7_67, kp7_68, kp7_69, kp7_70, kp7_71, kp7_72, kp7_73, kp7_74, by omega, by omega⟩
      · refine vc_iload_n dX12_takeTurns_16 rfl ?_
        refine vc_iload_n dX12_takeTurns_17 rfl ?_
        refine vc_icmp_ne dX12_takeTurns_18 (fun h20 => ?_) (fun h20 => ?_)
        · refine vc_aload_n dX12_takeTurns_24 rfl ?_
          refine vc_getR dX12_takeTurns_25 flX12_42 (s_54 hQ7.1.1) rfl (r_54_31 hQ7.1.1) ?_
          refine vc_aload_n dX12_takeTurns_28 rfl ?_
          refine vc_getI dX12_takeTurns_29 flX12_355 (s_54 hQ7.1.1) rfl ?_
          have k21 : 0 ≤ mI Mq7 54 32 ∧ mI Mq7 54 32 ≤ 6 := b54_32 (M := Mq7) hQ7.1
          refine vc_aload_n dX12_takeTurns_32 rfl ?_
          refine vc_iload_n dX12_takeTurns_33 rfl ?_
          refine vc_iload_n dX12_takeTurns_34 rfl ?_
          refine vc_cVI dX12_takeTurns_35 (sfX12_turnAt (M := Mq7) hQ7.1  t v3 (by omega) (by omega) (by omega) (by omega)) rfl okX12_turnAt viX12_turnAt lkX12_358 (s_54 hQ7.1.1) cl_12 rfl (Nat.le_of_ble_eq_true rfl) ⟨rfl, rfl⟩ (Nat.le_of_ble_eq_true rfl) (Nat.le_of_ble_eq_true rfl) (Nat.le_of_ble_eq_true rfl) ?_
          rintro x22 _ rfl
          refine vc_iastore dX12_takeTurns_38 (s_63 hQ7.1.1) (by omega) (by omega) ?_
          have kp23 : mI (sI Mq7 63 ((mI Mq7 54 32).toNat) x22) 64 = mI M 64 := (kp_sI kp7_64 rfl)
          have kp24 : mI (sI Mq7 63 ((mI Mq7 54 32).toNat) x22) 65 = mI M 65 := (kp_sI kp7_65 rfl)
          have kp25 : mI (sI Mq7 63 ((mI Mq7 54 32).toNat) x22) 67 = mI M 67 := (kp_sI kp7_67 rfl)
          have kp26 : mI (sI Mq7 63 ((mI Mq7 54 32).toNat) x22) 68 = mI M 68 := (kp_sI kp7_68 rfl)
          have kp27 : mI (sI Mq7 63 ((mI Mq7 54 32).toNat) x22) 69 = mI M 69 := (kp_sI kp7_69 rfl)
          have kp28 : mI (sI Mq7 63 ((mI Mq7 54 32).toNat) x22) 70 = mI M 70 := (kp_sI kp7_70 rfl)
          have kp29 : mI (sI Mq7 63 ((mI Mq7 54 32).toNat) x22) 71 = mI M 71 := (kp_sI kp7_71 rfl)
          have kp30 : mI (sI Mq7 63 ((mI Mq7 54 32).toNat) x22) 72 = mI M 72 := (kp_sI kp7_72 rfl)
          have kp31 : mI (sI Mq7 63 ((mI Mq7 54 32).toNat) x22) 73 = mI M 73 := (kp_sI kp7_73 rfl)
          have kp32 : mI (sI Mq7 63 ((mI Mq7 54 32).toNat) x22) 74 = mI M 74 := (kp_sI kp7_74 rfl)
          have kp33 : mI (sI Mq7 63 ((mI Mq7 54 32).toNat) x22) 55 = mI M 55 := (kp_sI kp7_55 rfl)
          have kp34 : mI (sI Mq7 63 ((mI Mq7 54 32).toNat) x22) 57 = mI M 57 := (kp_sI kp7_57 rfl)
          have kp35 : mI (sI Mq7 63 ((mI Mq7 54 32).toNat) x22) 58 = mI M 58 := (kp_sI kp7_58 rfl)
          have hB36 : BD M (sI Mq7 63 ((mI Mq7 54 32).toNat) x22) := BD.w63 hQ7 _
          refine vc_aload_n dX12_takeTurns_39 rfl ?_
          refine vc_dup dX12_takeTurns_40 rfl ?_
          refine vc_getI dX12_takeTurns_41 flX12_355 (s_54 hB36.1.1) rfl ?_
          refine vc_topI (mI Mq7 54 32) rfl ?_
          have k37 : 0 ≤ mI Mq7 54 32 ∧ mI Mq7 54 32 ≤ 6 := b54_32 (M := (sI Mq7 63 ((mI Mq7 54 32).toNat) x22)) hB36.1
          refine vc_iconst dX12_takeTurns_44 rfl ?_
          refine vc_iaddE dX12_takeTurns_45 (by omega) (by omega) ?_
          refine vc_putI dX12_takeTurns_46 (plX12_355 _ rfl) (s_54 hB36.1.1) rfl ?_
          have kp38 : mI (sI (sI Mq7 63 ((mI Mq7 54 32).toNat) x22) 54 32 ((mI Mq7 54 32) + 1)) 64 = mI M 64 := (kp_sI kp23 rfl)
          have kp39 : mI (sI (sI Mq7 63 ((mI Mq7 54 32).toNat) x22) 54 32 ((mI Mq7 54 32) + 1)) 65 = mI M 65 := (kp_sI kp24 rfl)
          have kp40 : mI (sI (sI Mq7 63 ((mI Mq7 54 32).toNat) x22) 54 32 ((mI Mq7 54 32) + 1)) 67 = mI M 67 := (kp_sI kp25 rfl)
          have kp41 : mI (sI (sI Mq7 63 ((mI Mq7 54 32).toNat) x22) 54 32 ((mI Mq7 54 32) + 1)) 68 = mI M 68 := (kp_sI kp26 rfl)
          have kp42 : mI (sI (sI Mq7 63 ((mI Mq7 54 32).toNat) x22) 54 32 ((mI Mq7 54 32) + 1)) 69 = mI M 69 := (kp_sI kp27 rfl)
          have kp43 : mI (sI (sI Mq7 63 ((mI Mq7 54 32).toNat) x22) 54 32 ((mI Mq7 54 32) + 1)) 70 = mI M 70 := (kp_sI kp28 rfl)
          have kp44 : mI (sI (sI Mq7 63 ((mI Mq7 54 32).toNat) x22) 54 32 ((mI Mq7 54 32) + 1)) 71 = mI M 71 := (kp_sI kp29 rfl)
          have kp45 : mI (sI (sI Mq7 63 ((mI Mq7 54 32).toNat) x22) 54 32 ((mI Mq7 54 32) + 1)) 72 = mI M 72 := (kp_sI kp30 rfl)
          have kp46 : mI (sI (sI Mq7 63 ((mI Mq7 54 32).toNat) x22) 54 32 ((mI Mq7 54 32) + 1)) 73 = mI M 73 := (kp_sI kp31 rfl)
          have kp47 : mI (sI (sI Mq7 63 ((mI Mq7 54 32).toNat) x22) 54 32 ((mI Mq7 54 32) + 1)) 74 = mI M 74 := (kp_sI kp32 rfl)
          have kp48 : mI (sI (sI Mq7 63 ((mI Mq7 54 32).toNat) x22) 54 32 ((mI Mq7 54 32) + 1)) 55 = mI M 55 := (kp_sI kp33 rfl)
          have kp49 : mI (sI (sI Mq7 63 ((mI Mq7 54 32).toNat) x22) 54 32 ((mI Mq7 54 32) + 1)) 57 = mI M 57 := (kp_sI kp34 rfl)
          have kp50 : mI (sI (sI Mq7 63 ((mI Mq7 54 32).toNat) x22) 54 32 ((mI Mq7 54 32) + 1)) 58 = mI M 58 := (kp_sI kp35 rfl)
          have hB51 : BD M (sI (sI Mq7 63 ((mI Mq7 54 32).toNat) x22) 54 32 ((mI Mq7 54 32) + 1)) := BD.w54_32 hB36 (by omega) (by omega)
          refine vc_iincE dX12_takeTurns_49 rfl (by omega) (by omega) (by decide) rfl (show _ = [some (aR 54), some (aI t), some (aI wo), some (aI (v3 + 1))] from rfl) ?_
          refine vc_goto dX12_takeTurns_52 ?_
          have k52 : mI (sI (sI Mq7 63 ((mI Mq7 54 32).toNat) x22) 54 32 ((mI Mq7 54 32) + 1)) 54 32 = (mI Mq7 54 32) + 1 := rfl
          exact ih7 (sI (sI Mq7 63 ((mI Mq7 54 32).toNat) x22) 54 32 ((mI Mq7 54 32) + 1)) (v3 + 1) hB51 kp38 kp39 kp40 kp41 kp42 kp43 kp44 kp45 kp46 kp47 kp48 kp49 kp50 (by omega) (by omega) (by omega) (by omega)
        · refine vc_goto dX12_takeTurns_21 ?_
          refine vc_iincE dX12_takeTurns_49 rfl (by omega) (by omega) (by decide) rfl (show _ = [some (aR 54), some (aI t), some (aI wo), some (aI (v3 + 1))] from rfl) ?_
          refine vc_goto dX12_takeTurns_52 ?_
          exact ih7 Mq7 (v3 + 1) hQ7 kp7_64 kp7_65 kp7_67 kp7_68 kp7_69 kp7_70 kp7_71 kp7_72 kp7_73 kp7_74 kp7_55 kp7_57 kp7_58 (by omega) (by omega) (by omega) (by omega)
  have k53 : mI (sI M 54 32 0) 54 32 = 0 := rfl
  exact lp7 _ (sI M 54 32 0) 0 hB14 kp1 kp2 kp3 kp4 kp5 kp6 kp7 kp8 kp9 kp10 kp11 kp12 kp13 (by omega) (by omega) (by omega) (Nat.lt_succ_self _)
