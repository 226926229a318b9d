/-! how often a telling slips, by the reference (written by wip/laws2/e3.py) -/
set_option maxRecDepth 4000 in
theorem sfX12_slipOfF {l : Launch} {M : Mem} (hB : Box M) (S : Sw) (t : Int) (s : Int) (p0 : 0 ≤ t) (p1 : t ≤ 7) (p2 : 0 ≤ s) (p3 : s ≤ 2) (p4 : TA (mI M 55) S) (p5 : t < S 1 9) (p6 : aAs (mI M 55) S) (p7 : LwS S (mI M 57)) (p8 : asB S 1000000) (p9 : nmT S) : Call l mdX12_slipOf [aR 54, aI t, aI s] M (fun q N => ∃ r : Int, q = some (aI r) ∧ BF fS M N ∧ mI N 54 = mI M 54 ∧ mI N 55 = mI M 55 ∧ mI N 57 = mI M 57 ∧ mI N 63 = mI M 63 ∧ mI N 69 = mI M 69 ∧ mI N 71 = mI M 71 ∧ r = slS S t s) := by
  have hB0 : BF fS M M := BF.start hB
  refine Call.of [some (aR 54), some (aI t), some (aI s), none] rfl (Nat.le_of_ble_eq_true rfl) rfl ?_
  refine vc_aload_n dX12_slipOf_0 rfl ?_
  refine vc_iload_n dX12_slipOf_1 rfl ?_
  refine vc_cVI dX12_slipOf_2 (sfX12_tellerOfF (M := M) hB0.1  t (by omega) (by omega)) rfl okX12_tellerOf viX12_tellerOf lkX12_299 (s_54 hB0.1.1) cl_12 rfl (Nat.le_of_ble_eq_true rfl) ⟨rfl, rfl⟩ (Nat.le_of_ble_eq_true rfl) (Nat.le_of_ble_eq_true rfl) (Nat.le_of_ble_eq_true rfl) ?_
  rintro x1 _ ⟨rfl, h2, h3, h4⟩
  have htg := p4.tg (t := t) (by omega) (by omega)
  have htl : x1 = S 6 (9 * t).toNat := h4.trans htg.1.1
  have h88 := p4.2.2.2.2.2.2.2.1
  have h89 := p4.2.2.2.2.2.2.2.2.1
  refine vc_istore_n dX12_slipOf_5 (by decide) rfl (show _ = [some (aR 54), some (aI t), some (aI s), some (aI x1)] from rfl) ?_
  refine vc_aload_n dX12_slipOf_6 rfl ?_
  refine vc_iload_n dX12_slipOf_7 rfl ?_
  refine vc_cVU dX12_slipOf_8 (sfX12_nameTellerF (M := M) hB0.1  x1 (by omega) (by omega)) rfl okX12_nameTeller viX12_nameTeller lkX12_302 (s_54 hB0.1.1) cl_12 rfl (Nat.le_of_ble_eq_true rfl) ⟨rfl, rfl⟩ (Nat.le_of_ble_eq_true rfl) (Nat.le_of_ble_eq_true rfl) (Nat.le_of_ble_eq_true rfl) ?_
  rintro M5 ⟨hB6, kp7, kp8, kp9, kp10, kp11, kp12, h13, h14, h15⟩
  have hB16 : BF fS M M5 := BF.go hB0 hB6
  have kp17 : mI M5 69 = mI M 69 := kp_go rfl kp11
  have kp18 : mI M5 71 = mI M 71 := kp_go rfl kp12
  have kp19 : mI M5 54 = mI M 54 := kp_go rfl kp7
  have kp20 : mI M5 55 = mI M 55 := kp_go rfl kp8
  have kp21 : mI M5 57 = mI M 57 := kp_go rfl kp9
  have kp22 : mI M5 63 = mI M 63 := kp_go rfl kp10
  have n0 := h13
  have n1 := h14
  have n2 := h15
  refine vc_aload_n dX12_slipOf_11 rfl ?_
  refine vc_getR dX12_slipOf_12 flX12_35 (s_54 hB16.1.1) rfl (r_54_22 hB16.1.1) ?_
  refine vc_iconst dX12_slipOf_15 rfl ?_
  refine vc_aload_n dX12_slipOf_16 rfl ?_
  refine vc_iload_n dX12_slipOf_17 rfl ?_
  refine vc_cVI dX12_slipOf_18 (sfX12_turnsOfF (M := M5) hB16.1  t (by omega) (by omega)) rfl okX12_turnsOf viX12_turnsOf lkX12_305 (s_54 hB16.1.1) cl_12 rfl (Nat.le_of_ble_eq_true rfl) ⟨rfl, rfl⟩ (Nat.le_of_ble_eq_true rfl) (Nat.le_of_ble_eq_true rfl) (Nat.le_of_ble_eq_true rfl) ?_
  rintro x23 _ ⟨rfl, h24, h25, h26⟩
  have q3 : x23 = S 6 (9 * t + 2).toNat := h26.trans ((congrFun kp20 _).trans htg.1.2.2)
  refine vc_iastore dX12_slipOf_21 (s_61 hB16.1.1) (by omega) (by omega) ?_
  refine vc_mem (sI M5 61 3 x23) rfl ?_
  have kp27 : mI (sI M5 61 3 x23) 69 = mI M 69 := (kp_sI kp17 rfl)
  have kp28 : mI (sI M5 61 3 x23) 71 = mI M 71 := (kp_sI kp18 rfl)
  have kp29 : mI (sI M5 61 3 x23) 54 = mI M 54 := (kp_sI kp19 rfl)
  have kp30 : mI (sI M5 61 3 x23) 55 = mI M 55 := (kp_sI kp20 rfl)
  have kp31 : mI (sI M5 61 3 x23) 57 = mI M 57 := (kp_sI kp21 rfl)
  have kp32 : mI (sI M5 61 3 x23) 63 = mI M 63 := (kp_sI kp22 rfl)
  have hB33 : BF fS M (sI M5 61 3 x23) := BF.w61 hB16 (fun _ => rfl) _
  refine vc_aload_n dX12_slipOf_22 rfl ?_
  refine vc_getR dX12_slipOf_23 flX12_35 (s_54 hB33.1.1) rfl (r_54_22 hB33.1.1) ?_
  refine vc_iconst dX12_slipOf_26 rfl ?_
  refine vc_aload_n dX12_slipOf_27 rfl ?_
  refine vc_iload_n dX12_slipOf_28 rfl ?_
  refine vc_cVI dX12_slipOf_29 (sfX12_facingOfF (M := (sI M5 61 3 x23)) hB33.1  t (by omega) (by omega)) rfl okX12_facingOf viX12_facingOf lkX12_308 (s_54 hB33.1.1) cl_12 rfl (Nat.le_of_ble_eq_true rfl) ⟨rfl, rfl⟩ (Nat.le_of_ble_eq_true rfl) (Nat.le_of_ble_eq_true rfl) (Nat.le_of_ble_eq_true rfl) ?_
  rintro x34 _ ⟨rfl, h35, h36, h37⟩
  have q4 : x34 = S 6 (9 * t + 1).toNat := h37.trans ((congrFun kp30 _).trans htg.1.2.1)
  refine vc_iastore dX12_slipOf_32 (s_61 hB33.1.1) (by omega) (by omega) ?_
  refine vc_mem (sI (sI M5 61 3 x23) 61 4 x34) rfl ?_
  have kp38 : mI (sI (sI M5 61 3 x23) 61 4 x34) 69 = mI M 69 := (kp_sI kp27 rfl)
  have kp39 : mI (sI (sI M5 61 3 x23) 61 4 x34) 71 = mI M 71 := (kp_sI kp28 rfl)
  have kp40 : mI (sI (sI M5 61 3 x23) 61 4 x34) 54 = mI M 54 := (kp_sI kp29 rfl)
  have kp41 : mI (sI (sI M5 61 3 x23) 61 4 x34) 55 = mI M 55 := (kp_sI kp30 rfl)
  have kp42 : mI (sI (sI M5 61 3 x23) 61 4 x34) 57 = mI M 57 := (kp_sI kp31 rfl)
  have kp43 : mI (sI (sI M5 61 3 x23) 61 4 x34) 63 = mI M 63 := (kp_sI kp32 rfl)
  have hB44 : BF fS M (sI (sI M5 61 3 x23) 61 4 x34) := BF.w61 hB33 (fun _ => rfl) _
  refine vc_aload_n dX12_slipOf_33 rfl ?_
  refine vc_getR dX12_slipOf_34 flX12_35 (s_54 hB44.1.1) rfl (r_54_22 hB44.1.1) ?_
  refine vc_iconst dX12_slipOf_37 rfl ?_
  refine vc_aload_n dX12_slipOf_38 rfl ?_
  refine vc_getR dX12_slipOf_39 flX12_7 (s_54 hB44.1.1) rfl (r_54_0 hB44.1.1) ?_
  refine vc_sipush dX12_slipOf_42 rfl ?_
  refine vc_iconst dX12_slipOf_45 rfl ?_
  refine vc_iload_n dX12_slipOf_46 rfl ?_
  refine vc_imulE dX12_slipOf_47 (by omega) (by omega) ?_
  refine vc_iaddE dX12_slipOf_48 (by omega) (by omega) ?_
  refine vc_iconst dX12_slipOf_49 rfl ?_
  refine vc_iaddE dX12_slipOf_50 (by omega) (by omega) ?_
  refine vc_iload_n dX12_slipOf_51 rfl ?_
  refine vc_iaddE dX12_slipOf_52 (by omega) (by omega) ?_
  refine vc_iaload dX12_slipOf_53 (s_55 hB44.1.1) (by omega) (by omega) ?_
  refine vc_topI (mI M5 55 ((((154 + (5 * x1)) + 1) + s).toNat)) rfl ?_
  have k45 : mI M5 55 ((((154 + (5 * x1)) + 1) + s).toNat) = mI M 55 ((((154 + (5 * x1)) + 1) + s).toNat) := congrFun kp41 ((((154 + (5 * x1)) + 1) + s).toNat)
  refine vc_iastore dX12_slipOf_54 (s_61 hB44.1.1) (by omega) (by omega) ?_
  refine vc_mem (sI (sI (sI M5 61 3 x23) 61 4 x34) 61 5 (mI M5 55 ((((154 + (5 * x1)) + 1) + s).toNat))) rfl ?_
  have kp46 : mI (sI (sI (sI M5 61 3 x23) 61 4 x34) 61 5 (mI M5 55 ((((154 + (5 * x1)) + 1) + s).toNat))) 69 = mI M 69 := (kp_sI kp38 rfl)
  have kp47 : mI (sI (sI (sI M5 61 3 x23) 61 4 x34) 61 5 (mI M5 55 ((((154 + (5 * x1)) + 1) + s).toNat))) 71 = mI M 71 := (kp_sI kp39 rfl)
  have kp48 : mI (sI (sI (sI M5 61 3 x23) 61 4 x34) 61 5 (mI M5 55 ((((154 + (5 * x1)) + 1) + s).toNat))) 54 = mI M 54 := (kp_sI kp40 rfl)
  have kp49 : mI (sI (sI (sI M5 61 3 x23) 61 4 x34) 61 5 (mI M5 55 ((((154 + (5 * x1)) + 1) + s).toNat))) 55 = mI M 55 := (kp_sI kp41 rfl)
  have kp50 : mI (sI (sI (sI M5 61 3 x23) 61 4 x34) 61 5 (mI M5 55 ((((154 + (5 * x1)) + 1) + s).toNat))) 57 = mI M 57 := (kp_sI kp42 rfl)
  have kp51 : mI (sI (sI (sI M5 61 3 x23) 61 4 x34) 61 5 (mI M5 55 ((((154 + (5 * x1)) + 1) + s).toNat))) 63 = mI M 63 := (kp_sI kp43 rfl)
  have hB52 : BF fS M (sI (sI (sI M5 61 3 x23) 61 4 x34) 61 5 (mI M5 55 ((((154 + (5 * x1)) + 1) + s).toNat))) := BF.w61 hB44 (fun _ => rfl) _
  refine vc_aload_n dX12_slipOf_55 rfl ?_
  refine vc_iconst dX12_slipOf_56 rfl ?_
  refine vc_iload_n dX12_slipOf_57 rfl ?_
  refine vc_iaddE dX12_slipOf_58 (by omega) (by omega) ?_
  refine vc_aload_n dX12_slipOf_59 rfl ?_
  refine vc_getR dX12_slipOf_60 flX12_35 (s_54 hB52.1.1) rfl (r_54_22 hB52.1.1) ?_
  refine vc_iconst dX12_slipOf_63 rfl ?_
  refine vc_iaload dX12_slipOf_64 (s_61 hB52.1.1) (by omega) (by omega) ?_
  refine vc_topI (mI M5 55 ((((154 + (5 * x1)) + 1) + s).toNat)) rfl ?_
  refine vc_iconst dX12_slipOf_65 rfl ?_
  refine vc_bipush dX12_slipOf_66 rfl ?_
  have n3 : mI (sI (sI (sI M5 61 3 x23) 61 4 x34) 61 5 (mI M5 55 ((((154 + (5 * x1)) + 1) + s).toNat))) 61 3 = x23 := by (repeat rw [mI_sI, if_neg (by decide)]); exact mI_same
  have n4 : mI (sI (sI (sI M5 61 3 x23) 61 4 x34) 61 5 (mI M5 55 ((((154 + (5 * x1)) + 1) + s).toNat))) 61 4 = x34 := by (repeat rw [mI_sI, if_neg (by decide)]); exact mI_same
  have n5 : mI (sI (sI (sI M5 61 3 x23) 61 4 x34) 61 5 (mI M5 55 ((((154 + (5 * x1)) + 1) + s).toNat))) 61 5 = mI M5 55 ((((154 + (5 * x1)) + 1) + s).toNat) := by (repeat rw [mI_sI, if_neg (by decide)]); exact mI_same
  have m0 := (show mI (sI (sI (sI M5 61 3 x23) 61 4 x34) 61 5 (mI M5 55 ((((154 + (5 * x1)) + 1) + s).toNat))) 61 0 = mI _ 61 0 by (repeat rw [mI_sI, if_neg (by decide)])).trans n0
  have m1 := (show mI (sI (sI (sI M5 61 3 x23) 61 4 x34) 61 5 (mI M5 55 ((((154 + (5 * x1)) + 1) + s).toNat))) 61 1 = mI _ 61 1 by (repeat rw [mI_sI, if_neg (by decide)])).trans n1
  have m2 := (show mI (sI (sI (sI M5 61 3 x23) 61 4 x34) 61 5 (mI M5 55 ((((154 + (5 * x1)) + 1) + s).toNat))) 61 2 = mI _ 61 2 by (repeat rw [mI_sI, if_neg (by decide)])).trans n2
  have ht1 : mI M 55 (154 + 5 * x1).toNat = S 5 (4 * x1).toNat := (p4.te (t := x1) (by omega) (by omega)).1
  have ht2 : mI M 55 (154 + 5 * x1 + 4).toNat = S 16 (4 + x1).toNat := by have z := p6 (x1).toNat (by omega); rw [show 154 + 5 * (x1).toNat + 4 = (154 + 5 * x1 + 4).toNat by omega, show 4 + (x1).toNat = (4 + x1).toNat by omega] at z; exact z
  have hd5 : mI M5 55 ((((154 + (5 * x1)) + 1) + s).toNat) = S 5 (4 * S 6 (9 * t).toNat + (1 + s)).toNat := by
    have z := p4.2.2.1 (x1).toNat (by omega) (1 + s).toNat (by omega)
    rw [show 154 + 5 * (x1).toNat + (1 + s).toNat = ((((154 + (5 * x1)) + 1) + s).toNat) by omega, show 4 * (x1).toNat + (1 + s).toNat = (4 * x1 + (1 + s)).toNat by omega] at z
    rw [← htl, ← z]; first | exact congrFun kp49 _ | omega
  have hb5 : 0 ≤ mI M5 55 ((((154 + (5 * x1)) + 1) + s).toNat) ∧ mI M5 55 ((((154 + (5 * x1)) + 1) + s).toNat) ≤ 10 := by have z := p9.2 (x1).toNat (by omega) (1 + s).toNat (by omega) (by omega); rw [show 4 * (x1).toNat + (1 + s).toNat = (4 * x1 + (1 + s)).toNat by omega] at z; rw [hd5, ← htl]; exact z
  have hb2 : 0 ≤ S 16 (4 + x1).toNat ∧ S 16 (4 + x1).toNat ≤ 1000000 := by have z := p8.1 (x1).toNat (by omega); rw [show 4 + (x1).toNat = (4 + x1).toNat by omega] at z; exact z
  have hb1 := p4.te (t := x1) (by omega) (by omega)
  have hnm : ∀ v, 0 ≤ v → v ≤ 8 → okLw s v → nmR (sI (sI (sI M5 61 3 x23) 61 4 x34) 61 5 (mI M5 55 ((((154 + (5 * x1)) + 1) + s).toNat))) v = snS S t s v := fun v v0 v8 ho => by
    have h6 : v ≤ 5 := by unfold okLw okN at ho; omega
    unfold snS nmR
    rcases (by omega : v = 0 ∨ v = 1 ∨ v = 2 ∨ v = 3 ∨ v = 4 ∨ v = 5) with rfl | rfl | rfl | rfl | rfl | rfl
    · rw [if_neg (by decide), if_neg (by decide), if_neg (by decide)]; unfold anS; rw [if_pos rfl]; exact m0.trans htl
    · rw [if_neg (by decide), if_neg (by decide), if_neg (by decide)]; unfold anS; rw [if_neg (by decide), if_pos rfl, ← htl]; exact m1.trans ht1
    · rw [if_neg (by decide), if_neg (by decide), if_neg (by decide)]; unfold anS; rw [if_neg (by decide), if_neg (by decide), ← htl]; exact m2.trans ht2
    · rw [if_pos rfl]; exact n3.trans q3
    · rw [if_neg (by decide), if_pos rfl]; exact n4.trans q4
    · rw [if_neg (by decide), if_neg (by decide), if_pos rfl]; exact n5.trans hd5
  have hbd : bdN (0 + s) (nmR (sI (sI (sI M5 61 3 x23) 61 4 x34) 61 5 (mI M5 55 ((((154 + (5 * x1)) + 1) + s).toNat)))) := fun v v0 v8 ho => by
    have h6 : v ≤ 5 := by unfold okLw okN at ho; omega
    unfold nmR
    rcases (by omega : v = 0 ∨ v = 1 ∨ v = 2 ∨ v = 3 ∨ v = 4 ∨ v = 5) with rfl | rfl | rfl | rfl | rfl | rfl
    · show -1000000 ≤ mI _ 61 0 ∧ mI _ 61 0 ≤ 1000000; rw [m0]; omega
    · show -1000000 ≤ mI _ 61 1 ∧ mI _ 61 1 ≤ 1000000; rw [m1, ht1]; omega
    · show -1000000 ≤ mI _ 61 2 ∧ mI _ 61 2 ≤ 1000000; rw [m2, ht2]; omega
    · show -1000000 ≤ mI _ 61 3 ∧ mI _ 61 3 ≤ 1000000; rw [n3]; omega
    · show -1000000 ≤ mI _ 61 4 ∧ mI _ 61 4 ≤ 1000000; rw [n4]; omega
    · show -1000000 ≤ mI _ 61 5 ∧ mI _ 61 5 ≤ 1000000; rw [n5]; omega
  have hL9 : LwS S (mI (sI (sI (sI M5 61 3 x23) 61 4 x34) 61 5 (mI M5 55 ((((154 + (5 * x1)) + 1) + s).toNat))) 57) := by rw [kp50]; exact p7
  have k6 : mI (sI (sI (sI M5 61 3 x23) 61 4 x34) 61 5 (mI M5 55 ((((154 + (5 * x1)) + 1) + s).toNat))) 55 6 = S 1 11 := (congrFun kp49 6).trans p4.1.2.2.2.2.2
  have k5 : mI (sI (sI (sI M5 61 3 x23) 61 4 x34) 61 5 (mI M5 55 ((((154 + (5 * x1)) + 1) + s).toNat))) 55 5 = S 1 10 := (congrFun kp49 5).trans p4.1.2.2.2.2.1
  refine vc_cVI dX12_slipOf_68 (sfX12_saysF (M := (sI (sI (sI M5 61 3 x23) 61 4 x34) 61 5 (mI M5 55 ((((154 + (5 * x1)) + 1) + s).toNat)))) hB52.1 S (0 + s) (mI M5 55 ((((154 + (5 * x1)) + 1) + s).toNat)) 0 10 (by omega) (by omega) (by exact k6) (by exact k5) (by exact hL9) (by exact hbd) (by omega)) rfl okX12_says viX12_says lkX12_311 (s_54 hB52.1.1) cl_12 rfl (Nat.le_of_ble_eq_true rfl) ⟨rfl, rfl⟩ (Nat.le_of_ble_eq_true rfl) (Nat.le_of_ble_eq_true rfl) (Nat.le_of_ble_eq_true rfl) ?_
  rintro x53 M54 ⟨hB55, kp56, kp57, kp58, kp59, kp60, kp61, kp62, h63⟩
  have hB64 : BF fS M M54 := BF.go hB52 hB55
  have kp65 : mI M54 69 = mI M 69 := kp_go kp46 kp61
  have kp66 : mI M54 71 = mI M 71 := kp_go kp47 kp62
  have kp67 : mI M54 54 = mI M 54 := kp_go kp48 kp56
  have kp68 : mI M54 55 = mI M 55 := kp_go kp49 kp57
  have kp69 : mI M54 57 = mI M 57 := kp_go kp50 kp58
  have kp70 : mI M54 63 = mI M 63 := kp_go kp51 kp60
  refine vc_iret dX12_slipOf_71 rfl (Nat.le_of_ble_eq_true rfl) (Nat.le_of_ble_eq_true rfl) ?_
  exact ⟨_, rfl, hB64, kp67, kp68, kp69, kp70, kp65, kp66, by unfold slS; rw [h63, Int.zero_add, ← hd5]; exact hL9.nm (by omega) (by omega) hnm⟩

