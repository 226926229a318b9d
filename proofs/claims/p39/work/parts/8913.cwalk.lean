/-! THE DEEDS of the class: the walk (written by wip/laws2/c10a.py) -/
set_option maxRecDepth 4000 in
theorem sfX8_keepStepF {l : Launch} {M : Mem} (hB : Box M)    : Call l mdX8_keepStep [aR 15] M (fun q N => q = none ∧ BF fC M N ∧ mI N 1 = mI M 1 ∧ cS N = fKp (cS M)) := by
  have hB0 : BF fC M M := BF.start hB
  refine Call.of [some (aR 15)] rfl (Nat.le_of_ble_eq_true rfl) rfl ?_
  refine vc_aload_n dX8_keepStep_0 rfl ?_
  refine vc_getR dX8_keepStep_1 flX8_9 (s_15 hB0.1.1) rfl (r_15_0 hB0.1.1) ?_
  refine vc_iconst dX8_keepStep_4 rfl ?_
  refine vc_aload_n dX8_keepStep_5 rfl ?_
  refine vc_getR dX8_keepStep_6 flX8_15 (s_15 hB0.1.1) rfl (r_15_1 hB0.1.1) ?_
  refine vc_bipush dX8_keepStep_9 rfl ?_
  refine vc_aload_n dX8_keepStep_11 rfl ?_
  refine vc_getI dX8_keepStep_12 flX8_28 (s_15 hB0.1.1) rfl ?_
  have k1 : 0 ≤ mI M 15 3 ∧ mI M 15 3 ≤ 29 := b15_3 (M := M) hB0.1
  refine vc_imulE dX8_keepStep_15 (by omega) (by omega) ?_
  refine vc_bipush dX8_keepStep_16 rfl ?_
  refine vc_acopy dX8_keepStep_18 acX8_18 (s_16 hB0.1.1) (s_17 hB0.1.1) (by omega) (by omega) (by omega) (by omega) (by omega) (Nat.le_of_ble_eq_true rfl) ?_
  refine vc_mem (cpI M 17 16 (10 * (mI M 15 3)).toNat 0 10) rfl ?_
  have kp2 : mI (cpI M 17 16 (10 * (mI M 15 3)).toNat 0 10) 1 = mI M 1 := (kp_cp rfl rfl)
  have hB3 : BF fC M (cpI M 17 16 (10 * (mI M 15 3)).toNat 0 10) := BF.C17 hB0 (fun _ => rfl) _ _ _ _
  refine vc_aload_n dX8_keepStep_21 rfl ?_
  refine vc_aload_n dX8_keepStep_22 rfl ?_
  refine vc_getI dX8_keepStep_23 flX8_28 (s_15 hB3.1.1) rfl ?_
  have k4 : 0 ≤ mI (cpI M 17 16 (10 * (mI M 15 3)).toNat 0 10) 15 3 ∧ mI (cpI M 17 16 (10 * (mI M 15 3)).toNat 0 10) 15 3 ≤ 29 := b15_3 (M := (cpI M 17 16 (10 * (mI M 15 3)).toNat 0 10)) hB3.1
  refine vc_iconst dX8_keepStep_26 rfl ?_
  refine vc_iaddE dX8_keepStep_27 (by omega) (by omega) ?_
  refine vc_bipush dX8_keepStep_28 rfl ?_
  refine vc_iremE dX8_keepStep_30 (by omega) (by omega) ?_
  refine vc_nameI (fun x5 ex5 => ?_)
  refine vc_putI dX8_keepStep_31 (plX8_28 _ rfl) (s_15 hB3.1.1) rfl ?_
  have kp6 : mI (sI (cpI M 17 16 (10 * (mI M 15 3)).toNat 0 10) 15 3 x5) 1 = mI M 1 := (kp_sI kp2 rfl)
  have hB7 : BF fC M (sI (cpI M 17 16 (10 * (mI M 15 3)).toNat 0 10) 15 3 x5) := BF.w15_3 hB3 rfl (by omega) (by omega)
  refine vc_aload_n dX8_keepStep_34 rfl ?_
  refine vc_bipush dX8_keepStep_35 rfl ?_
  refine vc_aload_n dX8_keepStep_37 rfl ?_
  refine vc_getI dX8_keepStep_38 flX8_24 (s_15 hB7.1.1) rfl ?_
  have k8 : 0 ≤ mI (sI (cpI M 17 16 (10 * (mI M 15 3)).toNat 0 10) 15 3 x5) 15 2 ∧ mI (sI (cpI M 17 16 (10 * (mI M 15 3)).toNat 0 10) 15 3 x5) 15 2 ≤ 30 := b15_2 (M := (sI (cpI M 17 16 (10 * (mI M 15 3)).toNat 0 10) 15 3 x5)) hB7.1
  refine vc_iconst dX8_keepStep_41 rfl ?_
  refine vc_iaddE dX8_keepStep_42 (by omega) (by omega) ?_
  refine vc_mminI dX8_keepStep_43 lkX8_31 (Nat.le_of_ble_eq_true rfl) (Nat.le_of_ble_eq_true rfl) (Nat.le_of_ble_eq_true rfl) ?_
  have k9 := minZ_bd 30 ((mI (sI (cpI M 17 16 (10 * (mI M 15 3)).toNat 0 10) 15 3 x5) 15 2) + 1)
  refine vc_nameI (fun x10 ex10 => ?_)
  refine vc_putI dX8_keepStep_46 (plX8_24 _ rfl) (s_15 hB7.1.1) rfl ?_
  have kp11 : mI (sI (sI (cpI M 17 16 (10 * (mI M 15 3)).toNat 0 10) 15 3 x5) 15 2 x10) 1 = mI M 1 := (kp_sI kp6 rfl)
  have hB12 : BF fC M (sI (sI (cpI M 17 16 (10 * (mI M 15 3)).toNat 0 10) 15 3 x5) 15 2 x10) := BF.w15_2 hB7 rfl (by omega) (by omega)
  refine vc_vret dX8_keepStep_49 rfl (Nat.le_of_ble_eq_true rfl) (Nat.le_of_ble_eq_true rfl) ?_
  subst_vars
  exact ⟨rfl, hB12, kp11, by unfold fKp; rw [cS_w rfl, cS_w rfl, cS_K (by omega)]; rfl⟩

set_option maxRecDepth 4000 in
theorem sfX8_takeBackF {l : Launch} {M : Mem} (hB : Box M)    : Call l mdX8_takeBack [aR 15] M (fun q N => ∃ r : Int, q = some (aI r) ∧ BF fC M N ∧ UndoS (cS M) (cS N) r) := by
  have hB0 : BF fC M M := BF.start hB
  refine Call.of [some (aR 15)] rfl (Nat.le_of_ble_eq_true rfl) rfl ?_
  have e152 : cS M 15 2 = mI M 15 2 := rfl
  refine vc_aload_n dX8_takeBack_0 rfl ?_
  refine vc_getI dX8_takeBack_1 flX8_24 (s_15 hB0.1.1) rfl ?_
  have k1 : 0 ≤ mI M 15 2 ∧ mI M 15 2 ≤ 30 := b15_2 (M := M) hB0.1
  refine vc_if_ne dX8_takeBack_4 (fun h2 => ?_) (fun h2 => ?_)
  · refine vc_aload_n dX8_takeBack_9 rfl ?_
    refine vc_aload_n dX8_takeBack_10 rfl ?_
    refine vc_getI dX8_takeBack_11 flX8_28 (s_15 hB0.1.1) rfl ?_
    have k3 : 0 ≤ mI M 15 3 ∧ mI M 15 3 ≤ 29 := b15_3 (M := M) hB0.1
    refine vc_bipush dX8_takeBack_14 rfl ?_
    refine vc_iaddE dX8_takeBack_16 (by omega) (by omega) ?_
    refine vc_iconst dX8_takeBack_17 rfl ?_
    refine vc_isubE dX8_takeBack_18 (by omega) (by omega) ?_
    refine vc_bipush dX8_takeBack_19 rfl ?_
    refine vc_iremE dX8_takeBack_21 (by omega) (by omega) ?_
    refine vc_putI dX8_takeBack_22 (plX8_28 _ rfl) (s_15 hB0.1.1) rfl ?_
    have hB4 : BF fC M (sI M 15 3 ((((mI M 15 3) + 30) - 1) % 30)) := BF.w15_3 hB0 rfl (by omega) (by omega)
    refine vc_aload_n dX8_takeBack_25 rfl ?_
    refine vc_dup dX8_takeBack_26 rfl ?_
    refine vc_getI dX8_takeBack_27 flX8_24 (s_15 hB4.1.1) rfl ?_
    refine vc_topI (mI M 15 2) rfl ?_
    have k5 : 0 ≤ mI M 15 2 ∧ mI M 15 2 ≤ 30 := b15_2 (M := (sI M 15 3 ((((mI M 15 3) + 30) - 1) % 30))) hB4.1
    refine vc_iconst dX8_takeBack_30 rfl ?_
    refine vc_isubE dX8_takeBack_31 (by omega) (by omega) ?_
    refine vc_putI dX8_takeBack_32 (plX8_24 _ rfl) (s_15 hB4.1.1) rfl ?_
    have hB6 : BF fC M (sI (sI M 15 3 ((((mI M 15 3) + 30) - 1) % 30)) 15 2 ((mI M 15 2) - 1)) := BF.w15_2 hB4 rfl (by omega) (by omega)
    refine vc_aload_n dX8_takeBack_35 rfl ?_
    refine vc_getR dX8_takeBack_36 flX8_15 (s_15 hB6.1.1) rfl (r_15_1 hB6.1.1) ?_
    refine vc_bipush dX8_takeBack_39 rfl ?_
    refine vc_aload_n dX8_takeBack_41 rfl ?_
    refine vc_getI dX8_takeBack_42 flX8_28 (s_15 hB6.1.1) rfl ?_
    refine vc_topI ((((mI M 15 3) + 30) - 1) % 30) rfl ?_
    refine vc_imulE dX8_takeBack_45 (by omega) (by omega) ?_
    refine vc_aload_n dX8_takeBack_46 rfl ?_
    refine vc_getR dX8_takeBack_47 flX8_9 (s_15 hB6.1.1) rfl (r_15_0 hB6.1.1) ?_
    refine vc_iconst dX8_takeBack_50 rfl ?_
    refine vc_bipush dX8_takeBack_51 rfl ?_
    refine vc_acopy dX8_takeBack_53 acX8_18 (s_17 hB6.1.1) (s_16 hB6.1.1) (by omega) (by omega) (by omega) (by omega) (by omega) (Nat.le_of_ble_eq_true rfl) ?_
    refine vc_mem (cpI (sI (sI M 15 3 ((((mI M 15 3) + 30) - 1) % 30)) 15 2 ((mI M 15 2) - 1)) 16 17 0 (10 * ((((mI M 15 3) + 30) - 1) % 30)).toNat 10) rfl ?_
    have hB7 : BF fC M (cpI (sI (sI M 15 3 ((((mI M 15 3) + 30) - 1) % 30)) 15 2 ((mI M 15 2) - 1)) 16 17 0 (10 * ((((mI M 15 3) + 30) - 1) % 30)).toNat 10) := BF.C16 hB6 (fun _ => rfl) _ _ _ _
    refine vc_aload_n dX8_takeBack_56 rfl ?_
    refine vc_getI dX8_takeBack_57 flX8_24 (s_15 hB7.1.1) rfl ?_
    have k8 : 0 ≤ mI (cpI (sI (sI M 15 3 ((((mI M 15 3) + 30) - 1) % 30)) 15 2 ((mI M 15 2) - 1)) 16 17 0 (10 * ((((mI M 15 3) + 30) - 1) % 30)).toNat 10) 15 2 ∧ mI (cpI (sI (sI M 15 3 ((((mI M 15 3) + 30) - 1) % 30)) 15 2 ((mI M 15 2) - 1)) 16 17 0 (10 * ((((mI M 15 3) + 30) - 1) % 30)).toNat 10) 15 2 ≤ 30 := b15_2 (M := (cpI (sI (sI M 15 3 ((((mI M 15 3) + 30) - 1) % 30)) 15 2 ((mI M 15 2) - 1)) 16 17 0 (10 * ((((mI M 15 3) + 30) - 1) % 30)).toNat 10)) hB7.1
    refine vc_iret dX8_takeBack_60 rfl (Nat.le_of_ble_eq_true rfl) (Nat.le_of_ble_eq_true rfl) ?_
    exact ⟨_, rfl, hB7, Or.inr ⟨by omega, by first | omega | rfl, by unfold fBk; rw [cS_B (by omega), cS_w rfl, cS_w rfl]; rfl⟩⟩
  · refine vc_iconst dX8_takeBack_7 rfl ?_
    refine vc_iret dX8_takeBack_8 rfl (Nat.le_of_ble_eq_true rfl) (Nat.le_of_ble_eq_true rfl) ?_
    exact ⟨_, rfl, hB0, Or.inl ⟨by omega, rfl, rfl⟩⟩

set_option maxRecDepth 4000 in
theorem sfX9_placeF {l : Launch} {M : Mem} (hB : Box M)  (c : Int) (f : Int) (s : Int)  : Call l mdX9_place [aR 34, aI c, aI f, aI s] M (fun q N => q = none ∧ BF fC M N ∧ cS N = sc s (fPl c f (cS M))) := by
  have hB0 : BF fC M M := BF.start hB
  refine Call.of [some (aR 34), some (aI c), some (aI f), some (aI s)] rfl (Nat.le_of_ble_eq_true rfl) rfl ?_
  refine vc_ok (fun hoM hoS hoL => ?_)
  have hr1 : -2147483648 ≤ c ∧ c < 2147483648 := hoL 1 _ rfl
  have hr2 : -2147483648 ≤ f ∧ f < 2147483648 := hoL 2 _ rfl
  have hr3 : -2147483648 ≤ s ∧ s < 2147483648 := hoL 3 _ rfl
  refine vc_aload_n dX9_place_0 rfl ?_
  refine vc_getR dX9_place_1 flX9_15 (s_34 hB0.1.1) rfl (r_34_1 hB0.1.1) ?_
  refine vc_getR dX9_place_4 flX9_27 (s_15 hB0.1.1) rfl (r_15_0 hB0.1.1) ?_
  refine vc_iconst dX9_place_7 rfl ?_
  refine vc_iload_n dX9_place_8 rfl ?_
  refine vc_iastore dX9_place_9 (s_16 hB0.1.1) (by omega) (by omega) ?_
  refine vc_mem (sI M 16 0 c) rfl ?_
  have hB1 : BF fC M (sI M 16 0 c) := BF.w16 hB0 (fun _ => rfl) _
  refine vc_aload_n dX9_place_10 rfl ?_
  refine vc_getR dX9_place_11 flX9_15 (s_34 hB1.1.1) rfl (r_34_1 hB1.1.1) ?_
  refine vc_getR dX9_place_14 flX9_27 (s_15 hB1.1.1) rfl (r_15_0 hB1.1.1) ?_
  refine vc_iconst dX9_place_17 rfl ?_
  refine vc_iload_n dX9_place_18 rfl ?_
  refine vc_iastore dX9_place_19 (s_16 hB1.1.1) (by omega) (by omega) ?_
  refine vc_mem (sI (sI M 16 0 c) 16 1 f) rfl ?_
  have hB2 : BF fC M (sI (sI M 16 0 c) 16 1 f) := BF.w16 hB1 (fun _ => rfl) _
  refine vc_aload_n dX9_place_20 rfl ?_
  refine vc_getR dX9_place_21 flX9_15 (s_34 hB2.1.1) rfl (r_34_1 hB2.1.1) ?_
  refine vc_getR dX9_place_24 flX9_27 (s_15 hB2.1.1) rfl (r_15_0 hB2.1.1) ?_
  refine vc_iconst dX9_place_27 rfl ?_
  refine vc_iload_n dX9_place_28 rfl ?_
  refine vc_iastore dX9_place_29 (s_16 hB2.1.1) (by omega) (by omega) ?_
  refine vc_mem (sI (sI (sI M 16 0 c) 16 1 f) 16 2 s) rfl ?_
  have hB3 : BF fC M (sI (sI (sI M 16 0 c) 16 1 f) 16 2 s) := BF.w16 hB2 (fun _ => rfl) _
  refine vc_vret dX9_place_30 rfl (Nat.le_of_ble_eq_true rfl) (Nat.le_of_ble_eq_true rfl) ?_
  exact ⟨rfl, hB3, by unfold sc fPl; rw [cS_w rfl, cS_w rfl, cS_w rfl]⟩

set_option maxRecDepth 4000 in
theorem sfX9_isThereF {l : Launch} {M : Mem} (hB : Box M)    : Call l mdX9_isThere [aR 34] M (fun q N => ∃ r : Int, q = some (aI r) ∧ M = N ∧ 0 ≤ r ∧ r ≤ 1 ∧ ((r = 1 ∧ mI M 16 0 ≠ -1) ∨ (r = 0 ∧ ¬ (mI M 16 0 ≠ -1)))) := by
  have hB0 : BF fQ M M := BF.start hB
  refine Call.of [some (aR 34)] rfl (Nat.le_of_ble_eq_true rfl) rfl ?_
  refine vc_aload_n dX9_isThere_0 rfl ?_
  refine vc_getR dX9_isThere_1 flX9_15 (s_34 hB0.1.1) rfl (r_34_1 hB0.1.1) ?_
  refine vc_getR dX9_isThere_4 flX9_27 (s_15 hB0.1.1) rfl (r_15_0 hB0.1.1) ?_
  refine vc_iconst dX9_isThere_7 rfl ?_
  refine vc_iaload dX9_isThere_8 (s_16 hB0.1.1) (by omega) (by omega) ?_
  refine vc_topI (mI M 16 0) rfl ?_
  refine vc_iconst dX9_isThere_9 rfl ?_
  refine vc_icmp_eq dX9_isThere_10 (fun h1 => ?_) (fun h1 => ?_)
  · refine vc_iconst dX9_isThere_17 rfl ?_
    refine vc_zret dX9_isThere_18 rfl (by first | decide | omega) (Nat.le_of_ble_eq_true rfl) (Nat.le_of_ble_eq_true rfl) ?_
    exact ⟨_, rfl, rfl, by omega, by omega, by omega⟩
  · refine vc_iconst dX9_isThere_13 rfl ?_
    refine vc_goto dX9_isThere_14 ?_
    refine vc_zret dX9_isThere_18 rfl (by first | decide | omega) (Nat.le_of_ble_eq_true rfl) (Nat.le_of_ble_eq_true rfl) ?_
    exact ⟨_, rfl, rfl, by omega, by omega, by omega⟩

set_option maxRecDepth 4000 in
theorem sfX9_beginsF {l : Launch} {M : Mem} (hB : Box M)  (c : Int) (f : Int)  : Call l mdX9_begins [aR 34, aI c, aI f] M (fun q N => ∃ r : Int, q = some (aI r) ∧ BF fC M N ∧ 0 ≤ r ∧ r ≤ 1 ∧ StartS c f (cS M) (cS N) r) := by
  have hB0 : BF fC M M := BF.start hB
  refine Call.of [some (aR 34), some (aI c), some (aI f)] rfl (Nat.le_of_ble_eq_true rfl) rfl ?_
  refine vc_ok (fun hoM hoS hoL => ?_)
  have hr1 : -2147483648 ≤ c ∧ c < 2147483648 := hoL 1 _ rfl
  have hr2 : -2147483648 ≤ f ∧ f < 2147483648 := hoL 2 _ rfl
  have e16 : cS M 1 6 = mI M 1 6 := rfl
  refine vc_aload_n dX9_begins_0 rfl ?_
  refine vc_getR dX9_begins_1 flX9_9 (s_34 hB0.1.1) rfl (r_34_0 hB0.1.1) ?_
  refine vc_iload_n dX9_begins_4 rfl ?_
  refine vc_cVI dX9_begins_5 (sfX6_hasCornerF (M := M) hB0.1  c ) rfl okX6_hasCorner viX6_hasCorner lkX9_33 (s_1 hB0.1.1) cl_6 rfl (Nat.le_of_ble_eq_true rfl) ⟨rfl, rfl⟩ (Nat.le_of_ble_eq_true rfl) (Nat.le_of_ble_eq_true rfl) (Nat.le_of_ble_eq_true rfl) ?_
  rintro x1 _ ⟨rfl, h2, h3, h4, h5⟩
  refine vc_if_eq dX9_begins_8 (fun h6 => ?_) (fun h6 => ?_)
  · refine vc_iconst dX9_begins_18 rfl ?_
    refine vc_zret dX9_begins_19 rfl (by first | decide | omega) (Nat.le_of_ble_eq_true rfl) (Nat.le_of_ble_eq_true rfl) ?_
    exact ⟨_, rfl, hB0, by omega, by omega, Or.inr ⟨by omega, rfl, rfl⟩⟩
  · refine vc_iload_n dX9_begins_11 rfl ?_
    refine vc_cNI dX9_begins_12 (sfX11_isDirectionF (M := M) hB0.1  f ) rfl okX11_isDirection stX11_isDirection nkX9_39 rfl (Nat.le_of_ble_eq_true rfl) ⟨rfl, rfl⟩ (Nat.le_of_ble_eq_true rfl) (Nat.le_of_ble_eq_true rfl) (Nat.le_of_ble_eq_true rfl) ?_
    rintro x7 _ ⟨rfl, h8, h9, h10⟩
    refine vc_if_ne dX9_begins_15 (fun h11 => ?_) (fun h11 => ?_)
    · refine vc_aload_n dX9_begins_20 rfl ?_
      refine vc_getR dX9_begins_21 flX9_15 (s_34 hB0.1.1) rfl (r_34_1 hB0.1.1) ?_
      refine vc_cVU dX9_begins_24 (sfX8_keepStepF (M := M) hB0.1   ) rfl okX8_keepStep viX8_keepStep lkX9_42 (s_15 hB0.1.1) cl_8 rfl (Nat.le_of_ble_eq_true rfl) ⟨rfl, rfl⟩ (Nat.le_of_ble_eq_true rfl) (Nat.le_of_ble_eq_true rfl) (Nat.le_of_ble_eq_true rfl) ?_
      rintro M12 ⟨hB13, kp14, h15⟩
      have hB16 : BF fC M M12 := BF.go hB0 hB13
      have hc17 : cS M12 = fKp (cS M) := h15
      refine vc_aload_n dX9_begins_27 rfl ?_
      refine vc_iload_n dX9_begins_28 rfl ?_
      refine vc_iload_n dX9_begins_29 rfl ?_
      refine vc_iconst dX9_begins_30 rfl ?_
      refine vc_cVU dX9_begins_31 (sfX9_placeF (M := M12) hB16.1  c f 0 ) rfl okX9_place viX9_place lkX9_45 (s_34 hB16.1.1) cl_9 rfl (Nat.le_of_ble_eq_true rfl) ⟨rfl, rfl⟩ (Nat.le_of_ble_eq_true rfl) (Nat.le_of_ble_eq_true rfl) (Nat.le_of_ble_eq_true rfl) ?_
      rintro M18 ⟨hB19, h20⟩
      have hB21 : BF fC M M18 := BF.go hB16 hB19
      have hc22 : cS M18 = sc 0 (fPl c f (fKp (cS M))) := by rw [h20, hc17]
      refine vc_iconst dX9_begins_34 rfl ?_
      refine vc_zret dX9_begins_35 rfl (by first | decide | omega) (Nat.le_of_ble_eq_true rfl) (Nat.le_of_ble_eq_true rfl) ?_
      exact ⟨_, rfl, hB21, by omega, by omega, Or.inl ⟨by omega, rfl, hc22⟩⟩
    · refine vc_iconst dX9_begins_18 rfl ?_
      refine vc_zret dX9_begins_19 rfl (by first | decide | omega) (Nat.le_of_ble_eq_true rfl) (Nat.le_of_ble_eq_true rfl) ?_
      exact ⟨_, rfl, hB0, by omega, by omega, Or.inr ⟨by omega, rfl, rfl⟩⟩

theorem wkS_no {S : Sw} {f : Int} : ∀ n : Nat, wkS S f n (-1) = -1
  | 0 => rfl
  | _ + 1 => if_pos rfl
theorem wkS_s {S : Sw} {f c : Int} {n : Nat} (h : c ≠ -1) : wkS S f (n + 1) c = wkS S f n (ahS S c f) := if_neg h
set_option maxRecDepth 4000 in
theorem sfX9_canGoF {l : Launch} {M : Mem} (hB : Box M)  (n : Int)  : Call l mdX9_canGo [aR 34, aI n] M (fun q N => ∃ r : Int, q = some (aI r) ∧ M = N ∧ 0 ≤ r ∧ r ≤ 1 ∧ ((r = 1 ∧ wkS (cS M) (mI M 16 1) n.toNat (mI M 16 0) ≠ -1) ∨ (r = 0 ∧ wkS (cS M) (mI M 16 1) n.toNat (mI M 16 0) = -1))) := by
  have hB0 : BF fQ M M := BF.start hB
  refine Call.of [some (aR 34), some (aI n), none, none] rfl (Nat.le_of_ble_eq_true rfl) rfl ?_
  refine vc_ok (fun hoM hoS hoL => ?_)
  have hr1 : -2147483648 ≤ n ∧ n < 2147483648 := hoL 1 _ rfl
  refine vc_aload_n dX9_canGo_0 rfl ?_
  refine vc_getR dX9_canGo_1 flX9_15 (s_34 hB0.1.1) rfl (r_34_1 hB0.1.1) ?_
  refine vc_getR dX9_canGo_4 flX9_27 (s_15 hB0.1.1) rfl (r_15_0 hB0.1.1) ?_
  refine vc_iconst dX9_canGo_7 rfl ?_
  refine vc_iaload dX9_canGo_8 (s_16 hB0.1.1) (by omega) (by omega) ?_
  refine vc_topI (mI M 16 0) rfl ?_
  refine vc_nameI (fun x1 ex1 => ?_)
  refine vc_istore_n dX9_canGo_9 (by decide) rfl (show _ = [some (aR 34), some (aI n), some (aI x1), none] from rfl) ?_
  refine vc_iconst dX9_canGo_10 rfl ?_
  refine vc_istore_n dX9_canGo_11 (by decide) rfl (show _ = [some (aR 34), some (aI n), some (aI x1), some (aI 0)] from rfl) ?_
  have lp12 : ∀ (n12 : Nat) (v2 : Int) (v3 : Int), (0 ≤ v3) → (wkS (cS M) (mI M 16 1) n.toNat (mI M 16 0) = wkS (cS M) (mI M 16 1) (n - v3).toNat v2) → (n - v3).toNat < n12 → VC l mdX9_canGo 12 [some (aR 34), some (aI n), some (aI v2), some (aI v3)] [] M 0 0 (fun q N => ∃ r : Int, q = some (aI r) ∧ M = N ∧ 0 ≤ r ∧ r ≤ 1 ∧ ((r = 1 ∧ wkS (cS M) (mI M 16 1) n.toNat (mI M 16 0) ≠ -1) ∨ (r = 0 ∧ wkS (cS M) (mI M 16 1) n.toNat (mI M 16 0) = -1))) := by
    intro n12
    induction n12 with
    | zero => intro v2 v3 g12_3a g12i0 hm12; exact absurd hm12 (Nat.not_lt_zero _)
    | succ n12 ih12 =>
      intro v2 v3 g12_3a g12i0 hm12
      refine vc_iload_n dX9_canGo_12 rfl ?_
      refine vc_iload_n dX9_canGo_13 rfl ?_
      refine vc_icmp_ge dX9_canGo_14 (fun h2 => ?_) (fun h2 => ?_)
      · refine vc_iload_n dX9_canGo_46 rfl ?_
        refine vc_iconst dX9_canGo_47 rfl ?_
        refine vc_icmp_eq dX9_canGo_48 (fun h3 => ?_) (fun h3 => ?_)
        · refine vc_iconst dX9_canGo_55 rfl ?_
          refine vc_zret dX9_canGo_56 rfl (by first | decide | omega) (Nat.le_of_ble_eq_true rfl) (Nat.le_of_ble_eq_true rfl) ?_
          have hw : wkS (cS M) (mI M 16 1) n.toNat (mI M 16 0) = v2 := by
            rw [g12i0]
            by_cases e : v2 = -1
            · rw [e]; exact wkS_no _
            · rw [show (n - v3).toNat = 0 by omega]; rfl
          exact ⟨_, rfl, rfl, by omega, by omega, by rw [hw]; omega⟩
        · refine vc_iconst dX9_canGo_51 rfl ?_
          refine vc_goto dX9_canGo_52 ?_
          refine vc_zret dX9_canGo_56 rfl (by first | decide | omega) (Nat.le_of_ble_eq_true rfl) (Nat.le_of_ble_eq_true rfl) ?_
          have hw : wkS (cS M) (mI M 16 1) n.toNat (mI M 16 0) = v2 := by
            rw [g12i0]
            by_cases e : v2 = -1
            · rw [e]; exact wkS_no _
            · rw [show (n - v3).toNat = 0 by omega]; rfl
          exact ⟨_, rfl, rfl, by omega, by omega, by rw [hw]; omega⟩
      · refine vc_iload_n dX9_canGo_17 rfl ?_
        refine vc_iconst dX9_canGo_18 rfl ?_
        refine vc_icmp_eq dX9_canGo_19 (fun h4 => ?_) (fun h4 => ?_)
        · refine vc_iload_n dX9_canGo_46 rfl ?_
          refine vc_iconst dX9_canGo_47 rfl ?_
          refine vc_icmp_eq dX9_canGo_48 (fun h5 => ?_) (fun h5 => by exfalso; omega)
          refine vc_iconst dX9_canGo_55 rfl ?_
          refine vc_zret dX9_canGo_56 rfl (by first | decide | omega) (Nat.le_of_ble_eq_true rfl) (Nat.le_of_ble_eq_true rfl) ?_
          have hw : wkS (cS M) (mI M 16 1) n.toNat (mI M 16 0) = v2 := by
            rw [g12i0]
            by_cases e : v2 = -1
            · rw [e]; exact wkS_no _
            · rw [show (n - v3).toNat = 0 by omega]; rfl
          exact ⟨_, rfl, rfl, by omega, by omega, by rw [hw]; omega⟩
        · refine vc_aload_n dX9_canGo_22 rfl ?_
          refine vc_getR dX9_canGo_23 flX9_9 (s_34 hB0.1.1) rfl (r_34_0 hB0.1.1) ?_
          refine vc_iload_n dX9_canGo_26 rfl ?_
          refine vc_aload_n dX9_canGo_27 rfl ?_
          refine vc_getR dX9_canGo_28 flX9_15 (s_34 hB0.1.1) rfl (r_34_1 hB0.1.1) ?_
          refine vc_getR dX9_canGo_31 flX9_27 (s_15 hB0.1.1) rfl (r_15_0 hB0.1.1) ?_
          refine vc_iconst dX9_canGo_34 rfl ?_
          refine vc_iaload dX9_canGo_35 (s_16 hB0.1.1) (by omega) (by omega) ?_
          refine vc_topI (mI M 16 1) rfl ?_
          refine vc_cVI dX9_canGo_36 (sfX6_aheadF (M := M) hB0.1  v2 (mI M 16 1) ) rfl okX6_ahead viX6_ahead lkX9_49 (s_1 hB0.1.1) cl_6 rfl (Nat.le_of_ble_eq_true rfl) ⟨rfl, rfl⟩ (Nat.le_of_ble_eq_true rfl) (Nat.le_of_ble_eq_true rfl) (Nat.le_of_ble_eq_true rfl) ?_
          rintro x6 _ ⟨rfl, h7, h8, h9⟩
          have hah : x6 = ahS (cS M) v2 (mI M 16 1) := h9
          refine vc_istore_n dX9_canGo_39 (by decide) rfl (show _ = [some (aR 34), some (aI n), some (aI x6), some (aI v3)] from rfl) ?_
          refine vc_iincE dX9_canGo_40 rfl (by omega) (by omega) (by decide) rfl (show _ = [some (aR 34), some (aI n), some (aI x6), some (aI (v3 + 1))] from rfl) ?_
          refine vc_goto dX9_canGo_43 ?_
          exact ih12 x6 (v3 + 1) (by omega) (by first | (rw [Int.sub_zero]; done) | (subst_vars; rw [Int.sub_zero]) | (rw [g12i0, show (n - v3).toNat = (n - (v3 + 1)).toNat + 1 by omega, wkS_s (by omega), hah])) (by omega)
  exact lp12 _ x1 0 (by omega) (by first | (rw [Int.sub_zero]; done) | (subst_vars; rw [Int.sub_zero]) | (rw [g12i0, show (n - v3).toNat = (n - (v3 + 1)).toNat + 1 by omega, wkS_s (by omega), hah])) (Nat.lt_succ_self _)

set_option maxRecDepth 4000 in
theorem sfX9_goAheadF {l : Launch} {M : Mem} (hB : Box M)   (p0 : wfL (cS M)) : Call l mdX9_goAhead [aR 34] M (fun q N => q = none ∧ BF fC M N ∧ cS N = fAh (cS M)) := by
  have hB0 : BF fC M M := BF.start hB
  refine Call.of [some (aR 34), none, none] rfl (Nat.le_of_ble_eq_true rfl) rfl ?_
  refine vc_aload_n dX9_goAhead_0 rfl ?_
  refine vc_getR dX9_goAhead_1 flX9_15 (s_34 hB0.1.1) rfl (r_34_1 hB0.1.1) ?_
  refine vc_getR dX9_goAhead_4 flX9_27 (s_15 hB0.1.1) rfl (r_15_0 hB0.1.1) ?_
  refine vc_iconst dX9_goAhead_7 rfl ?_
  refine vc_iaload dX9_goAhead_8 (s_16 hB0.1.1) (by omega) (by omega) ?_
  refine vc_topI (mI M 16 0) rfl ?_
  refine vc_nameI (fun x1 ex1 => ?_)
  refine vc_istore_n dX9_goAhead_9 (by decide) rfl (show _ = [some (aR 34), some (aI x1), none] from rfl) ?_
  refine vc_aload_n dX9_goAhead_10 rfl ?_
  refine vc_getR dX9_goAhead_11 flX9_15 (s_34 hB0.1.1) rfl (r_34_1 hB0.1.1) ?_
  refine vc_getR dX9_goAhead_14 flX9_27 (s_15 hB0.1.1) rfl (r_15_0 hB0.1.1) ?_
  refine vc_iconst dX9_goAhead_17 rfl ?_
  refine vc_iaload dX9_goAhead_18 (s_16 hB0.1.1) (by omega) (by omega) ?_
  refine vc_topI (mI M 16 1) rfl ?_
  refine vc_nameI (fun x2 ex2 => ?_)
  refine vc_istore_n dX9_goAhead_19 (by decide) rfl (show _ = [some (aR 34), some (aI x1), some (aI x2)] from rfl) ?_
  refine vc_aload_n dX9_goAhead_20 rfl ?_
  refine vc_aload_n dX9_goAhead_21 rfl ?_
  refine vc_getR dX9_goAhead_22 flX9_9 (s_34 hB0.1.1) rfl (r_34_0 hB0.1.1) ?_
  refine vc_iload_n dX9_goAhead_25 rfl ?_
  refine vc_iload_n dX9_goAhead_26 rfl ?_
  refine vc_cVI dX9_goAhead_27 (sfX6_aheadF (M := M) hB0.1  x1 x2 ) rfl okX6_ahead viX6_ahead lkX9_49 (s_1 hB0.1.1) cl_6 rfl (Nat.le_of_ble_eq_true rfl) ⟨rfl, rfl⟩ (Nat.le_of_ble_eq_true rfl) (Nat.le_of_ble_eq_true rfl) (Nat.le_of_ble_eq_true rfl) ?_
  rintro x3 _ ⟨rfl, h4, h5, h6⟩
  refine vc_iload_n dX9_goAhead_30 rfl ?_
  refine vc_aload_n dX9_goAhead_31 rfl ?_
  refine vc_getR dX9_goAhead_32 flX9_15 (s_34 hB0.1.1) rfl (r_34_1 hB0.1.1) ?_
  refine vc_getR dX9_goAhead_35 flX9_27 (s_15 hB0.1.1) rfl (r_15_0 hB0.1.1) ?_
  refine vc_iconst dX9_goAhead_38 rfl ?_
  refine vc_iaload dX9_goAhead_39 (s_16 hB0.1.1) (by omega) (by omega) ?_
  refine vc_topI (mI M 16 2) rfl ?_
  refine vc_aload_n dX9_goAhead_40 rfl ?_
  refine vc_getR dX9_goAhead_41 flX9_19 (s_34 hB0.1.1) rfl (r_34_2 hB0.1.1) ?_
  refine vc_iload_n dX9_goAhead_44 rfl ?_
  refine vc_iload_n dX9_goAhead_45 rfl ?_
  refine vc_cVI dX9_goAhead_46 (sfX2_paceF (M := M) hB0.1  x1 x2 (by exact p0)) rfl okX2_pace viX2_pace lkX9_59 (s_29 hB0.1.1) cl_2 rfl (Nat.le_of_ble_eq_true rfl) ⟨rfl, rfl⟩ (Nat.le_of_ble_eq_true rfl) (Nat.le_of_ble_eq_true rfl) (Nat.le_of_ble_eq_true rfl) ?_
  rintro x7 M8 ⟨hB9, kp10, kp11, h12⟩
  have hB13 : BF fC M M8 := BF.go hB0 hB9.sq.c
  have hc14 : cS M8 = cS M := (cS_bf hB0.1 hB9)
  have hpa := h12
  refine vc_iadd dX9_goAhead_49 ?_
  refine vc_cVU dX9_goAhead_50 (sfX9_placeF (M := M8) hB13.1  x3 x2 (wI ((mI M 16 2) + x7)) ) rfl okX9_place viX9_place lkX9_45 (s_34 hB13.1.1) cl_9 rfl (Nat.le_of_ble_eq_true rfl) ⟨rfl, rfl⟩ (Nat.le_of_ble_eq_true rfl) (Nat.le_of_ble_eq_true rfl) (Nat.le_of_ble_eq_true rfl) ?_
  rintro M15 ⟨hB16, h17⟩
  have hB18 : BF fC M M15 := BF.go hB13 hB16
  have hc19 : cS M15 = sc (wI ((mI M 16 2) + x7)) (fPl x3 x2 (cS M)) := by rw [h17, hc14]
  refine vc_vret dX9_goAhead_53 rfl (Nat.le_of_ble_eq_true rfl) (Nat.le_of_ble_eq_true rfl) ?_
  subst_vars
  exact ⟨rfl, hB18, by rw [hc19]; rfl⟩

set_option maxRecDepth 4000 in
theorem sfX9_goesF {l : Launch} {M : Mem} (hB : Box M)  (n : Int) (p0 : wfL (cS M)) : Call l mdX9_goes [aR 34, aI n] M (fun q N => ∃ r : Int, q = some (aI r) ∧ BF fC M N ∧ 0 ≤ r ∧ r ≤ 1 ∧ cS N = (goS n.toNat (cS M)).1 ∧ r = (goS n.toNat (cS M)).2) := by
  have hB0 : BF fC M M := BF.start hB
  refine Call.of [some (aR 34), some (aI n), none] rfl (Nat.le_of_ble_eq_true rfl) rfl ?_
  refine vc_ok (fun hoM hoS hoL => ?_)
  have hr1 : -2147483648 ≤ n ∧ n < 2147483648 := hoL 1 _ rfl
  refine vc_iconst dX9_goes_0 rfl ?_
  refine vc_istore_n dX9_goes_1 (by decide) rfl (show _ = [some (aR 34), some (aI n), some (aI 0)] from rfl) ?_
  have lp2 : ∀ (n2 : Nat) (Mq2 : Mem) (v2 : Int), (BF fC M Mq2) → (0 ≤ v2) → (goS n.toNat (cS M) = goS (n - v2).toNat (cS Mq2)) → (wfL (cS Mq2)) → (n - v2).toNat < n2 → VC l mdX9_goes 2 [some (aR 34), some (aI n), some (aI v2)] [] Mq2 0 0 (fun q N => ∃ r : Int, q = some (aI r) ∧ BF fC M N ∧ 0 ≤ r ∧ r ≤ 1 ∧ cS N = (goS n.toNat (cS M)).1 ∧ r = (goS n.toNat (cS M)).2) := by
    intro n2
    induction n2 with
    | zero => intro Mq2 v2 hQ2 g2_2a g2i0 g2i1 hm2; exact absurd hm2 (Nat.not_lt_zero _)
    | succ n2 ih2 =>
      intro Mq2 v2 hQ2 g2_2a g2i0 g2i1 hm2
      refine vc_iload_n dX9_goes_2 rfl ?_
      refine vc_iload_n dX9_goes_3 rfl ?_
      refine vc_icmp_ge dX9_goes_4 (fun h1 => ?_) (fun h1 => ?_)
      · refine vc_iconst dX9_goes_34 rfl ?_
        refine vc_zret dX9_goes_35 rfl (by first | decide | omega) (Nat.le_of_ble_eq_true rfl) (Nat.le_of_ble_eq_true rfl) ?_
        have hg : goS n.toNat (cS M) = (cS Mq2, 1) := by rw [g2i0, show (n - v2).toNat = 0 by omega]; rfl
        exact ⟨_, rfl, hQ2, by omega, by omega, by rw [hg], by rw [hg]⟩
      · refine vc_aload_n dX9_goes_7 rfl ?_
        refine vc_iconst dX9_goes_8 rfl ?_
        refine vc_cVI dX9_goes_9 (sfX9_canGoF (M := Mq2) hQ2.1  1 ) rfl okX9_canGo viX9_canGo lkX9_53 (s_34 hQ2.1.1) cl_9 rfl (Nat.le_of_ble_eq_true rfl) ⟨rfl, rfl⟩ (Nat.le_of_ble_eq_true rfl) (Nat.le_of_ble_eq_true rfl) (Nat.le_of_ble_eq_true rfl) ?_
        rintro x2 _ ⟨rfl, h3, h4, h5⟩
        have hcn := h5
        refine vc_if_ne dX9_goes_12 (fun h6 => ?_) (fun h6 => ?_)
        · refine vc_aload_n dX9_goes_17 rfl ?_
          refine vc_getR dX9_goes_18 flX9_15 (s_34 hQ2.1.1) rfl (r_34_1 hQ2.1.1) ?_
          refine vc_cVU dX9_goes_21 (sfX8_keepStepF (M := Mq2) hQ2.1   ) rfl okX8_keepStep viX8_keepStep lkX9_42 (s_15 hQ2.1.1) cl_8 rfl (Nat.le_of_ble_eq_true rfl) ⟨rfl, rfl⟩ (Nat.le_of_ble_eq_true rfl) (Nat.le_of_ble_eq_true rfl) (Nat.le_of_ble_eq_true rfl) ?_
          rintro M7 ⟨hB8, kp9, h10⟩
          have hB11 : BF fC M M7 := BF.go hQ2 hB8
          have hc12 : cS M7 = fKp (cS Mq2) := h10
          refine vc_aload_n dX9_goes_24 rfl ?_
          have hwk : wfL (cS M7) := by rw [hc12]; exact g2i1.lk Lk.kp
          refine vc_cVU dX9_goes_25 (sfX9_goAheadF (M := M7) hB11.1   (by exact hwk)) rfl okX9_goAhead viX9_goAhead lkX9_56 (s_34 hB11.1.1) cl_9 rfl (Nat.le_of_ble_eq_true rfl) ⟨rfl, rfl⟩ (Nat.le_of_ble_eq_true rfl) (Nat.le_of_ble_eq_true rfl) (Nat.le_of_ble_eq_true rfl) ?_
          rintro M13 ⟨hB14, h15⟩
          have hB16 : BF fC M M13 := BF.go hB11 hB14
          have hc17 : cS M13 = fAh (fKp (cS Mq2)) := by rw [h15, hc12]
          refine vc_iincE dX9_goes_28 rfl (by omega) (by omega) (by decide) rfl (show _ = [some (aR 34), some (aI n), some (aI (v2 + 1))] from rfl) ?_
          refine vc_goto dX9_goes_31 ?_
          exact ih2 M13 (v2 + 1) hB16 (by omega) (by first | (rw [Int.sub_zero]; done) | (rw [g2i0, show (n - v2).toNat = (n - (v2 + 1)).toNat + 1 by omega, hc17]; exact if_neg (by rcases hcn with h | h; (exact h.2); (exfalso; omega)))) (by first | exact p0 | (rw [hc17]; exact g2i1.lk (Lk.kp.trans Lk.ah))) (by omega)
        · refine vc_iconst dX9_goes_15 rfl ?_
          refine vc_zret dX9_goes_16 rfl (by first | decide | omega) (Nat.le_of_ble_eq_true rfl) (Nat.le_of_ble_eq_true rfl) ?_
          have hwn : wkS (cS Mq2) (cS Mq2 16 1) 1 (cS Mq2 16 0) = -1 := by rcases hcn with h | h; (exfalso; omega); (exact h.2)
          have hg : goS n.toNat (cS M) = (cS Mq2, 0) := by rw [g2i0, show (n - v2).toNat = (n - v2 - 1).toNat + 1 by omega]; exact if_pos hwn
          exact ⟨_, rfl, hQ2, by omega, by omega, by rw [hg], by rw [hg]⟩
  exact lp2 _ M 0 hB0 (by omega) (by first | (rw [Int.sub_zero]; done) | (rw [g2i0, show (n - v2).toNat = (n - (v2 + 1)).toNat + 1 by omega, hc17]; exact if_neg (by rcases hcn with h | h; (exact h.2); (exfalso; omega)))) (by first | exact p0 | (rw [hc17]; exact g2i1.lk (Lk.kp.trans Lk.ah))) (Nat.lt_succ_self _)

set_option maxRecDepth 4000 in
theorem sfX9_faceToF {l : Launch} {M : Mem} (hB : Box M)  (s : Int)  : Call l mdX9_faceTo [aR 34, aI s] M (fun q N => q = none ∧ BF fC M N ∧ cS N = fFa s (cS M)) := by
  have hB0 : BF fC M M := BF.start hB
  refine Call.of [some (aR 34), some (aI s), none] rfl (Nat.le_of_ble_eq_true rfl) rfl ?_
  refine vc_ok (fun hoM hoS hoL => ?_)
  have hr1 : -2147483648 ≤ s ∧ s < 2147483648 := hoL 1 _ rfl
  refine vc_aload_n dX9_faceTo_0 rfl ?_
  refine vc_getR dX9_faceTo_1 flX9_15 (s_34 hB0.1.1) rfl (r_34_1 hB0.1.1) ?_
  refine vc_getR dX9_faceTo_4 flX9_27 (s_15 hB0.1.1) rfl (r_15_0 hB0.1.1) ?_
  refine vc_iconst dX9_faceTo_7 rfl ?_
  refine vc_iaload dX9_faceTo_8 (s_16 hB0.1.1) (by omega) (by omega) ?_
  refine vc_topI (mI M 16 1) rfl ?_
  refine vc_nameI (fun x1 ex1 => ?_)
  refine vc_istore_n dX9_faceTo_9 (by decide) rfl (show _ = [some (aR 34), some (aI s), some (aI x1)] from rfl) ?_
  refine vc_aload_n dX9_faceTo_10 rfl ?_
  refine vc_getR dX9_faceTo_11 flX9_15 (s_34 hB0.1.1) rfl (r_34_1 hB0.1.1) ?_
  refine vc_getR dX9_faceTo_14 flX9_27 (s_15 hB0.1.1) rfl (r_15_0 hB0.1.1) ?_
  refine vc_iconst dX9_faceTo_17 rfl ?_
  refine vc_iload_n dX9_faceTo_18 rfl ?_
  refine vc_iconst dX9_faceTo_19 rfl ?_
  refine vc_icmp_ne dX9_faceTo_20 (fun h2 => ?_) (fun h2 => ?_)
  · refine vc_iload_n dX9_faceTo_31 rfl ?_
    refine vc_iload_n dX9_faceTo_32 rfl ?_
    refine vc_cSI dX9_faceTo_33 (sfX1_sideOfF (M := M) hB0.1  x1 s ) rfl okX1_sideOf stX1_sideOf lkX9_72 rfl (Nat.le_of_ble_eq_true rfl) ⟨rfl, rfl⟩ (Nat.le_of_ble_eq_true rfl) (Nat.le_of_ble_eq_true rfl) (Nat.le_of_ble_eq_true rfl) ?_
    rintro x3 _ ⟨rfl, h4⟩
    refine vc_iastore dX9_faceTo_36 (s_16 hB0.1.1) (by omega) (by omega) ?_
    refine vc_mem (sI M 16 1 x3) rfl ?_
    have hB5 : BF fC M (sI M 16 1 x3) := BF.w16 hB0 (fun _ => rfl) _
    refine vc_vret dX9_faceTo_37 rfl (Nat.le_of_ble_eq_true rfl) (Nat.le_of_ble_eq_true rfl) ?_
    subst_vars
    exact ⟨rfl, hB5, by unfold fFa; first | (rw [if_pos (by omega)]; rw [cS_w rfl]; first | done | rfl) | (rw [if_neg (by omega)]; rw [cS_w rfl]; first | done | rfl)⟩
  · refine vc_iload_n dX9_faceTo_23 rfl ?_
    refine vc_iconst dX9_faceTo_24 rfl ?_
    refine vc_iadd dX9_faceTo_25 ?_
    refine vc_iconst dX9_faceTo_26 rfl ?_
    refine vc_iandW dX9_faceTo_27 4 2 rfl (by decide) rfl ?_
    refine vc_goto dX9_faceTo_28 ?_
    refine vc_iastore dX9_faceTo_36 (s_16 hB0.1.1) (by omega) (by omega) ?_
    refine vc_mem (sI M 16 1 ((x1 + 2) % 4)) rfl ?_
    have hB6 : BF fC M (sI M 16 1 ((x1 + 2) % 4)) := BF.w16 hB0 (fun _ => rfl) _
    refine vc_vret dX9_faceTo_37 rfl (Nat.le_of_ble_eq_true rfl) (Nat.le_of_ble_eq_true rfl) ?_
    subst_vars
    exact ⟨rfl, hB6, by unfold fFa; first | (rw [if_pos (by omega)]; rw [cS_w rfl]; first | done | rfl) | (rw [if_neg (by omega)]; rw [cS_w rfl]; first | done | rfl)⟩

set_option maxRecDepth 4000 in
theorem sfX9_turnsF {l : Launch} {M : Mem} (hB : Box M)  (s : Int)  : Call l mdX9_turns [aR 34, aI s] M (fun q N => ∃ r : Int, q = some (aI r) ∧ BF fC M N ∧ TurnS s (cS M) (cS N) r) := by
  have hB0 : BF fC M M := BF.start hB
  refine Call.of [some (aR 34), some (aI s)] rfl (Nat.le_of_ble_eq_true rfl) rfl ?_
  refine vc_ok (fun hoM hoS hoL => ?_)
  have hr1 : -2147483648 ≤ s ∧ s < 2147483648 := hoL 1 _ rfl
  have e160 : cS M 16 0 = mI M 16 0 := rfl
  refine vc_aload_n dX9_turns_0 rfl ?_
  refine vc_cVI dX9_turns_1 (sfX9_isThereF (M := M) hB0.1   ) rfl okX9_isThere viX9_isThere lkX9_64 (s_34 hB0.1.1) cl_9 rfl (Nat.le_of_ble_eq_true rfl) ⟨rfl, rfl⟩ (Nat.le_of_ble_eq_true rfl) (Nat.le_of_ble_eq_true rfl) (Nat.le_of_ble_eq_true rfl) ?_
  rintro x1 _ ⟨rfl, h2, h3, h4⟩
  refine vc_if_eq dX9_turns_4 (fun h5 => ?_) (fun h5 => ?_)
  · refine vc_iconst dX9_turns_17 rfl ?_
    refine vc_iret dX9_turns_18 rfl (Nat.le_of_ble_eq_true rfl) (Nat.le_of_ble_eq_true rfl) ?_
    exact ⟨_, rfl, hB0, Or.inr ⟨by omega, rfl, rfl⟩⟩
  · refine vc_iload_n dX9_turns_7 rfl ?_
    refine vc_iconst dX9_turns_8 rfl ?_
    refine vc_icmp_lt dX9_turns_9 (fun h6 => ?_) (fun h6 => ?_)
    · refine vc_iconst dX9_turns_17 rfl ?_
      refine vc_iret dX9_turns_18 rfl (Nat.le_of_ble_eq_true rfl) (Nat.le_of_ble_eq_true rfl) ?_
      exact ⟨_, rfl, hB0, Or.inr ⟨by omega, rfl, rfl⟩⟩
    · refine vc_iload_n dX9_turns_12 rfl ?_
      refine vc_iconst dX9_turns_13 rfl ?_
      refine vc_icmp_le dX9_turns_14 (fun h7 => ?_) (fun h7 => ?_)
      · refine vc_aload_n dX9_turns_19 rfl ?_
        refine vc_getR dX9_turns_20 flX9_15 (s_34 hB0.1.1) rfl (r_34_1 hB0.1.1) ?_
        refine vc_cVU dX9_turns_23 (sfX8_keepStepF (M := M) hB0.1   ) rfl okX8_keepStep viX8_keepStep lkX9_42 (s_15 hB0.1.1) cl_8 rfl (Nat.le_of_ble_eq_true rfl) ⟨rfl, rfl⟩ (Nat.le_of_ble_eq_true rfl) (Nat.le_of_ble_eq_true rfl) (Nat.le_of_ble_eq_true rfl) ?_
        rintro M8 ⟨hB9, kp10, h11⟩
        have hB12 : BF fC M M8 := BF.go hB0 hB9
        have hc13 : cS M8 = fKp (cS M) := h11
        refine vc_aload_n dX9_turns_26 rfl ?_
        refine vc_iload_n dX9_turns_27 rfl ?_
        refine vc_cVU dX9_turns_28 (sfX9_faceToF (M := M8) hB12.1  s ) rfl okX9_faceTo viX9_faceTo lkX9_68 (s_34 hB12.1.1) cl_9 rfl (Nat.le_of_ble_eq_true rfl) ⟨rfl, rfl⟩ (Nat.le_of_ble_eq_true rfl) (Nat.le_of_ble_eq_true rfl) (Nat.le_of_ble_eq_true rfl) ?_
        rintro M14 ⟨hB15, h16⟩
        have hB17 : BF fC M M14 := BF.go hB12 hB15
        have hc18 : cS M14 = fFa s (fKp (cS M)) := by rw [h16, hc13]
        refine vc_aload_n dX9_turns_31 rfl ?_
        refine vc_getR dX9_turns_32 flX9_15 (s_34 hB17.1.1) rfl (r_34_1 hB17.1.1) ?_
        refine vc_getR dX9_turns_35 flX9_27 (s_15 hB17.1.1) rfl (r_15_0 hB17.1.1) ?_
        refine vc_iconst dX9_turns_38 rfl ?_
        refine vc_iaload dX9_turns_39 (s_16 hB17.1.1) (by omega) (by omega) ?_
        refine vc_topI (mI M14 16 1) rfl ?_
        refine vc_iret dX9_turns_40 rfl (Nat.le_of_ble_eq_true rfl) (Nat.le_of_ble_eq_true rfl) ?_
        exact ⟨_, rfl, hB17, Or.inl ⟨by omega, hc18, rfl⟩⟩
      · refine vc_iconst dX9_turns_17 rfl ?_
        refine vc_iret dX9_turns_18 rfl (Nat.le_of_ble_eq_true rfl) (Nat.le_of_ble_eq_true rfl) ?_
        exact ⟨_, rfl, hB0, Or.inr ⟨by omega, rfl, rfl⟩⟩

theorem ck_16t {t : Int} (h : 0 ≤ t) : ck 16 (4 + t).toNat = true := ck_16 _
theorem cS_16t {M : Mem} {t : Int} (h : 0 ≤ t) : cS M 16 (4 + t).toNat = mI M 16 (4 + t).toNat := cS_in (ck_16t h)
set_option maxRecDepth 4000 in
theorem sfX9_hearF {l : Launch} {M : Mem} (hB : Box M)  (t : Int) (p0 : 0 ≤ t) (p1 : t ≤ 5) (p2 : t < mI M 1 8) (p3 : wfL (cS M)) : Call l mdX9_hear [aR 34, aI t] M (fun q N => q = none ∧ BF fC M N ∧ cS N = fHe t (cS M)) := by
  have hB0 : BF fC M M := BF.start hB
  refine Call.of [some (aR 34), some (aI t)] rfl (Nat.le_of_ble_eq_true rfl) rfl ?_
  refine vc_aload_n dX9_hear_0 rfl ?_
  refine vc_getR dX9_hear_1 flX9_15 (s_34 hB0.1.1) rfl (r_34_1 hB0.1.1) ?_
  refine vc_getR dX9_hear_4 flX9_27 (s_15 hB0.1.1) rfl (r_15_0 hB0.1.1) ?_
  refine vc_iconst dX9_hear_7 rfl ?_
  refine vc_dup2 dX9_hear_8 rfl rfl ?_
  refine vc_iaload dX9_hear_9 (s_16 hB0.1.1) (by omega) (by omega) ?_
  refine vc_topI (mI M 16 2) rfl ?_
  refine vc_aload_n dX9_hear_10 rfl ?_
  refine vc_getR dX9_hear_11 flX9_19 (s_34 hB0.1.1) rfl (r_34_2 hB0.1.1) ?_
  refine vc_iload_n dX9_hear_14 rfl ?_
  refine vc_cVI dX9_hear_15 (sfX2_askingF (M := M) hB0.1  t (by exact p0) (by exact p2) (by exact p3)) rfl okX2_asking viX2_asking lkX9_86 (s_29 hB0.1.1) cl_2 rfl (Nat.le_of_ble_eq_true rfl) ⟨rfl, rfl⟩ (Nat.le_of_ble_eq_true rfl) (Nat.le_of_ble_eq_true rfl) (Nat.le_of_ble_eq_true rfl) ?_
  rintro x1 M2 ⟨hB3, kp4, kp5, h6⟩
  have hB7 : BF fC M M2 := BF.go hB0 hB3.sq.c
  have hc8 : cS M2 = cS M := (cS_bf hB0.1 hB3)
  have hak := h6
  refine vc_iadd dX9_hear_18 ?_
  refine vc_iastore dX9_hear_19 (s_16 hB7.1.1) (by omega) (by omega) ?_
  refine vc_mem (sI M2 16 2 (wI ((mI M 16 2) + x1))) rfl ?_
  have hB9 : BF fC M (sI M2 16 2 (wI ((mI M 16 2) + x1))) := BF.w16 hB7 (fun _ => rfl) _
  refine vc_aload_n dX9_hear_20 rfl ?_
  refine vc_getR dX9_hear_21 flX9_15 (s_34 hB9.1.1) rfl (r_34_1 hB9.1.1) ?_
  refine vc_getR dX9_hear_24 flX9_27 (s_15 hB9.1.1) rfl (r_15_0 hB9.1.1) ?_
  refine vc_iconst dX9_hear_27 rfl ?_
  refine vc_iload_n dX9_hear_28 rfl ?_
  refine vc_iaddE dX9_hear_29 (by omega) (by omega) ?_
  refine vc_dup2 dX9_hear_30 rfl rfl ?_
  refine vc_iaload dX9_hear_31 (s_16 hB9.1.1) (by omega) (by omega) ?_
  refine vc_iconst dX9_hear_32 rfl ?_
  refine vc_iadd dX9_hear_33 ?_
  refine vc_iastore dX9_hear_34 (s_16 hB9.1.1) (by omega) (by omega) ?_
  have hB10 : BF fC M (sI (sI M2 16 2 (wI ((mI M 16 2) + x1))) 16 ((4 + t).toNat) (wI ((mI (sI M2 16 2 (wI ((mI M 16 2) + x1))) 16 ((4 + t).toNat)) + 1))) := BF.w16 hB9 (fun _ => rfl) _
  refine vc_vret dX9_hear_35 rfl (Nat.le_of_ble_eq_true rfl) (Nat.le_of_ble_eq_true rfl) ?_
  have hm : mI M2 16 (4 + t).toNat = cS M 16 (4 + t).toNat := (cS_16t p0).symm.trans (congrFun (congrFun hc8 16) _)
  refine ⟨rfl, hB10, ?_⟩
  unfold fHe sc
  rw [cS_w (ck_16t p0), cS_w rfl, hc8, ← hm, ← hak, mI_sI, if_neg (by omega)]
  first | done | rfl

