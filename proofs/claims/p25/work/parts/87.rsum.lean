/-! CONTRACTS of the reference: its reader, sums (written by wip/p35/c87.py) -/
set_option maxRecDepth 4000 in
theorem sfX12_opened {l : Launch} {M : Mem} (hB : Box M) (S : Int) (o : Int) (p0 : PI M S) (p1 : mI M 54 14 = 873 * mI M 55 5) (p2 : mI M 54 10 ≤ mI M 54 9) (p3 : mI M 54 11 = 0 ∨ mI M 54 10 < mI M 54 9) (p4 : mI M 54 20 = 0) (p5 : mI M 54 11 ≠ 0) (p6 : o = 2 ∨ o = 40 ∨ o = 41 ∨ o = 43) : Call l mdX12_opened [aR 54, aI o] M (fun q N => ∃ r : Int, q = some (aI r) ∧ BF fT M N ∧ mI N 55 = mI M 55 ∧ 0 ≤ r ∧ r ≤ 3 ∧ (r = 0 → PI N S) ∧ (r ≠ 0 ∨ mI M 54 10 < mI N 54 10) ∧ mI N 54 10 ≤ mI N 54 9 ∧ (mI N 54 11 = 0 ∨ mI N 54 10 < mI N 54 9) ∧ mI N 54 14 = mI M 54 14 ∧ mI N 54 16 = mI M 54 16 ∧ mI N 54 21 = mI M 54 21 ∧ (∀ j : Nat, (j : Int) < mI M 54 14 + 265 + 2 * S → mI N 57 j = mI M 57 j) ∧ mI M 54 10 ≤ mI N 54 10 ∧ mI N 54 20 = 0) := by
  have hB0 : BF fT M M := BF.start hB
  refine Call.of [some (aR 54), some (aI o)] rfl (Nat.le_of_ble_eq_true rfl) rfl ?_
  refine vc_ok (fun hoM hoS hoL => ?_)
  have hr1 : -2147483648 ≤ o ∧ o < 2147483648 := hoL 1 _ rfl
  have hle := p0.len
  have hk9 := b54_9 hB
  have hk5 := b55_5 hB
  refine vc_aload_n dX12_opened_0 rfl ?_
  refine vc_getI dX12_opened_1 flX12_190 (s_54 hB0.1.1) rfl ?_
  refine vc_bipush dX12_opened_4 rfl ?_
  refine vc_icmp_ne dX12_opened_6 (fun h1 => ?_) (fun h1 => ?_)
  · refine vc_aload_n dX12_opened_11 rfl ?_
    refine vc_dup dX12_opened_12 rfl ?_
    refine vc_getI dX12_opened_13 flX12_190 (s_54 hB0.1.1) rfl ?_
    refine vc_iconst dX12_opened_16 rfl ?_
    refine vc_iaddE dX12_opened_17 (by omega) (by omega) ?_
    refine vc_putI dX12_opened_18 (plX12_190 _ rfl) (s_54 hB0.1.1) rfl ?_
    have kp2 : mI (sI M 54 19 ((mI M 54 19) + 1)) 55 = mI M 55 := (kp_sI rfl rfl)
    have hB3 : BF fT M (sI M 54 19 ((mI M 54 19) + 1)) := BF.w54_19 hB0 rfl
    refine vc_aload_n dX12_opened_21 rfl ?_
    refine vc_getR dX12_opened_22 flX12_32 (s_54 hB3.1.1) rfl (r_54_17 hB3.1.1) ?_
    refine vc_aload_n dX12_opened_25 rfl ?_
    refine vc_getI dX12_opened_26 flX12_180 (s_54 hB3.1.1) rfl ?_
    refine vc_topI (mI M 54 18) rfl ?_
    have k4 : 0 ≤ mI M 54 18 ∧ mI M 54 18 ≤ 160 := b54_18 (M := (sI M 54 19 ((mI M 54 19) + 1))) hB3.1
    refine vc_iload_n dX12_opened_29 rfl ?_
    refine vc_iastore dX12_opened_30 (s_60 hB3.1.1) (by omega) (by omega) ?_
    have kp5 : mI (sI (sI M 54 19 ((mI M 54 19) + 1)) 60 ((mI M 54 18).toNat) o) 55 = mI M 55 := (kp_sI kp2 rfl)
    have hB6 : BF fT M (sI (sI M 54 19 ((mI M 54 19) + 1)) 60 ((mI M 54 18).toNat) o) := BF.w60 hB3 (fun _ => rfl) _
    refine vc_aload_n dX12_opened_31 rfl ?_
    refine vc_dup dX12_opened_32 rfl ?_
    refine vc_getI dX12_opened_33 flX12_180 (s_54 hB6.1.1) rfl ?_
    refine vc_topI (mI M 54 18) rfl ?_
    have k7 : 0 ≤ mI M 54 18 ∧ mI M 54 18 ≤ 160 := b54_18 (M := (sI (sI M 54 19 ((mI M 54 19) + 1)) 60 ((mI M 54 18).toNat) o)) hB6.1
    refine vc_iconst dX12_opened_36 rfl ?_
    refine vc_iaddE dX12_opened_37 (by omega) (by omega) ?_
    refine vc_putI dX12_opened_38 (plX12_180 _ rfl) (s_54 hB6.1.1) rfl ?_
    have kp8 : mI (sI (sI (sI M 54 19 ((mI M 54 19) + 1)) 60 ((mI M 54 18).toNat) o) 54 18 ((mI M 54 18) + 1)) 55 = mI M 55 := (kp_sI kp5 rfl)
    have hB9 : BF fT M (sI (sI (sI M 54 19 ((mI M 54 19) + 1)) 60 ((mI M 54 18).toNat) o) 54 18 ((mI M 54 18) + 1)) := BF.w54_18 hB6 rfl (by omega) (by omega)
    refine vc_aload_n dX12_opened_41 rfl ?_
    have k10 : mI (sI (sI (sI M 54 19 ((mI M 54 19) + 1)) 60 ((mI M 54 18).toNat) o) 54 18 ((mI M 54 18) + 1)) 54 9 = mI M 54 9 := rfl
    have k11 : mI (sI (sI (sI M 54 19 ((mI M 54 19) + 1)) 60 ((mI M 54 18).toNat) o) 54 18 ((mI M 54 18) + 1)) 54 10 = mI M 54 10 := rfl
    have k12 : mI (sI (sI (sI M 54 19 ((mI M 54 19) + 1)) 60 ((mI M 54 18).toNat) o) 54 18 ((mI M 54 18) + 1)) 54 11 = mI M 54 11 := rfl
    have k13 : mI (sI (sI (sI M 54 19 ((mI M 54 19) + 1)) 60 ((mI M 54 18).toNat) o) 54 18 ((mI M 54 18) + 1)) 54 14 = mI M 54 14 := rfl
    have k14 : mI (sI (sI (sI M 54 19 ((mI M 54 19) + 1)) 60 ((mI M 54 18).toNat) o) 54 18 ((mI M 54 18) + 1)) 54 15 = mI M 54 15 := rfl
    have k15 : mI (sI (sI (sI M 54 19 ((mI M 54 19) + 1)) 60 ((mI M 54 18).toNat) o) 54 18 ((mI M 54 18) + 1)) 54 16 = mI M 54 16 := rfl
    have k16 : mI (sI (sI (sI M 54 19 ((mI M 54 19) + 1)) 60 ((mI M 54 18).toNat) o) 54 18 ((mI M 54 18) + 1)) 54 18 = (mI M 54 18) + 1 := rfl
    have k17 : mI (sI (sI (sI M 54 19 ((mI M 54 19) + 1)) 60 ((mI M 54 18).toNat) o) 54 18 ((mI M 54 18) + 1)) 54 19 = (mI M 54 19) + 1 := rfl
    have k18 : mI (sI (sI (sI M 54 19 ((mI M 54 19) + 1)) 60 ((mI M 54 18).toNat) o) 54 18 ((mI M 54 18) + 1)) 54 20 = mI M 54 20 := rfl
    have k19 : mI (sI (sI (sI M 54 19 ((mI M 54 19) + 1)) 60 ((mI M 54 18).toNat) o) 54 18 ((mI M 54 18) + 1)) 54 21 = mI M 54 21 := rfl
    refine vc_cVU dX12_opened_42 (sfX12_nextToken (M := (sI (sI (sI M 54 19 ((mI M 54 19) + 1)) 60 ((mI M 54 18).toNat) o) 54 18 ((mI M 54 18) + 1))) hB9.1   ) rfl okX12_nextToken viX12_nextToken lkX12_193 (s_54 hB9.1.1) cl_12 rfl (Nat.le_of_ble_eq_true rfl) ⟨rfl, rfl⟩ (Nat.le_of_ble_eq_true rfl) (Nat.le_of_ble_eq_true rfl) (Nat.le_of_ble_eq_true rfl) ?_
    rintro M20 ⟨hB21, kp22, kp23, kp24, h25, h26, h27, h28, h29, h30, h31, h32, h33, h34⟩
    have hB35 : BF fT M M20 := BF.go hB9 hB21.t
    have kp36 : mI M20 55 = mI M 55 := kp_go kp8 kp22
    have fr37 : ∀ j : Nat, (j : Int) < mI M 54 14 + 265 + 2 * S → mI M20 57 j = mI M 57 j := fun j hj => (congrFun kp23 j).trans ((fun _ _ => rfl) j hj)
    have hbx := b54_10 (M := M20) hB35.1
    have hPI38 : PI M20 S := PI.opn (M := M) (o := o) p0 (by omega) p6 (by omega) kp23 (by first | exact kp24 | (rw [kp24]; funext b; rfl)) (by omega) (by omega) (by omega) (by omega) (by omega) (by omega) (by omega)
    refine vc_iload_n dX12_opened_45 rfl ?_
    refine vc_bipush dX12_opened_46 rfl ?_
    refine vc_icmp_ge dX12_opened_48 (fun h39 => ?_) (fun h39 => ?_)
    · refine vc_aload_n dX12_opened_53 rfl ?_
      refine vc_bipush dX12_opened_54 rfl ?_
      refine vc_bipush dX12_opened_56 rfl ?_
      refine vc_cSL dX12_opened_58 (sfX12_w2 (M := M20) hB35.1  111 102 ) rfl okX12_w2 stX12_w2 lkX12_151 rfl (Nat.le_of_ble_eq_true rfl) ⟨rfl, rfl⟩ (Nat.le_of_ble_eq_true rfl) (Nat.le_of_ble_eq_true rfl) (Nat.le_of_ble_eq_true rfl) ?_
      rintro x40 _ rfl
      refine vc_cVI dX12_opened_61 (sfX12_isWord (M := M20) hB35.1  x40 ) rfl okX12_isWord viX12_isWord lkX12_196 (s_54 hB35.1.1) cl_12 rfl (Nat.le_of_ble_eq_true rfl) ⟨rfl, rfl⟩ (Nat.le_of_ble_eq_true rfl) (Nat.le_of_ble_eq_true rfl) (Nat.le_of_ble_eq_true rfl) ?_
      rintro x41 _ ⟨rfl, h42, h43, h44⟩
      refine vc_if_ne dX12_opened_64 (fun h45 => ?_) (fun h45 => ?_)
      · refine vc_aload_n dX12_opened_69 rfl ?_
        refine vc_cVU dX12_opened_70 (sfX12_nextToken (M := M20) hB35.1   ) rfl okX12_nextToken viX12_nextToken lkX12_193 (s_54 hB35.1.1) cl_12 rfl (Nat.le_of_ble_eq_true rfl) ⟨rfl, rfl⟩ (Nat.le_of_ble_eq_true rfl) (Nat.le_of_ble_eq_true rfl) (Nat.le_of_ble_eq_true rfl) ?_
        rintro M46 ⟨hB47, kp48, kp49, kp50, h51, h52, h53, h54, h55, h56, h57, h58, h59, h60⟩
        have hB61 : BF fT M M46 := BF.go hB35 hB47.t
        have kp62 : mI M46 55 = mI M 55 := kp_go kp36 kp48
        have fr63 : ∀ j : Nat, (j : Int) < mI M 54 14 + 265 + 2 * S → mI M46 57 j = mI M 57 j := fun j hj => (congrFun kp49 j).trans (fr37 j hj)
        have hbx := b54_10 (M := M46) hB61.1
        have hPI64 : PI M46 S := PI.tok (M := M20) hPI38 kp49 kp50 (by omega) (by omega) (by omega) (by omega) (by omega) (by omega) (by omega)
        refine vc_iconst dX12_opened_73 rfl ?_
        refine vc_iret dX12_opened_74 rfl (Nat.le_of_ble_eq_true rfl) (Nat.le_of_ble_eq_true rfl) ?_
        exact ⟨_, rfl, hB61, kp62, by omega, by omega, fun _ => hPI64, by omega, by omega, by omega, by omega, by omega, by omega, fr63, by omega, by omega⟩
      · refine vc_iconst dX12_opened_67 rfl ?_
        refine vc_iret dX12_opened_68 rfl (Nat.le_of_ble_eq_true rfl) (Nat.le_of_ble_eq_true rfl) ?_
        exact ⟨_, rfl, hB35, kp36, by omega, by omega, fun h => absurd h (by decide), by omega, by omega, by omega, by omega, by omega, by omega, fr37, by omega, by omega⟩
    · refine vc_iconst dX12_opened_51 rfl ?_
      refine vc_iret dX12_opened_52 rfl (Nat.le_of_ble_eq_true rfl) (Nat.le_of_ble_eq_true rfl) ?_
      exact ⟨_, rfl, hB35, kp36, by omega, by omega, fun _ => hPI38, by omega, by omega, by omega, by omega, by omega, by omega, fr37, by omega, by omega⟩
  · refine vc_iconst dX12_opened_9 rfl ?_
    refine vc_iret dX12_opened_10 rfl (Nat.le_of_ble_eq_true rfl) (Nat.le_of_ble_eq_true rfl) ?_
    exact ⟨_, rfl, hB0, rfl, by omega, by omega, fun h => absurd h (by decide), by omega, by omega, by omega, by omega, by omega, by omega, (fun _ _ => rfl), by omega, by omega⟩

set_option maxRecDepth 4000 in
theorem sfX12_beginOne {l : Launch} {M : Mem} (hB : Box M) (S : Int)  (p0 : PI M S) (p1 : mI M 54 14 = 873 * mI M 55 5) (p2 : mI M 54 10 ≤ mI M 54 9) (p3 : mI M 54 11 = 0 ∨ mI M 54 10 < mI M 54 9) (p4 : mI M 54 20 = 0) : Call l mdX12_beginOne [aR 54] M (fun q N => ∃ r : Int, q = some (aI r) ∧ BF fT M N ∧ mI N 55 = mI M 55 ∧ 0 ≤ r ∧ r ≤ 5 ∧ (r = 0 → PI N S) ∧ (r ≠ 0 ∨ mI M 54 10 < mI N 54 10) ∧ mI N 54 10 ≤ mI N 54 9 ∧ (mI N 54 11 = 0 ∨ mI N 54 10 < mI N 54 9) ∧ mI N 54 14 = mI M 54 14 ∧ mI N 54 16 = mI M 54 16 ∧ mI N 54 21 = mI M 54 21 ∧ (∀ j : Nat, (j : Int) < mI M 54 14 + 265 + 2 * S → mI N 57 j = mI M 57 j) ∧ mI M 54 10 ≤ mI N 54 10) := by
  have hB0 : BF fT M M := BF.start hB
  refine Call.of [some (aR 54), none] rfl (Nat.le_of_ble_eq_true rfl) rfl ?_
  have hle := p0.len
  have hk9 := b54_9 hB
  have hk5 := b55_5 hB
  refine vc_aload_n dX12_beginOne_0 rfl ?_
  refine vc_getI dX12_beginOne_1 flX12_129 (s_54 hB0.1.1) rfl ?_
  refine vc_iconst dX12_beginOne_4 rfl ?_
  refine vc_icmp_ne dX12_beginOne_5 (fun h1 => ?_) (fun h1 => ?_)
  · refine vc_aload_n dX12_beginOne_20 rfl ?_
    refine vc_cVI dX12_beginOne_21 (sfX12_nameOf (M := M) hB0.1   ) rfl okX12_nameOf viX12_nameOf lkX12_200 (s_54 hB0.1.1) cl_12 rfl (Nat.le_of_ble_eq_true rfl) ⟨rfl, rfl⟩ (Nat.le_of_ble_eq_true rfl) (Nat.le_of_ble_eq_true rfl) (Nat.le_of_ble_eq_true rfl) ?_
    rintro x2 _ ⟨rfl, h3, h4, h5⟩
    refine vc_istore_n dX12_beginOne_24 (by decide) rfl (show _ = [some (aR 54), some (aI x2)] from rfl) ?_
    refine vc_iload_n dX12_beginOne_25 rfl ?_
    refine vc_if_lt dX12_beginOne_26 (fun h6 => ?_) (fun h6 => ?_)
    · refine vc_aload_n dX12_beginOne_39 rfl ?_
      refine vc_getI dX12_beginOne_40 flX12_129 (s_54 hB0.1.1) rfl ?_
      refine vc_iconst dX12_beginOne_43 rfl ?_
      refine vc_icmp_eq dX12_beginOne_44 (fun h7 => ?_) (fun h7 => ?_)
      · refine vc_aload_n dX12_beginOne_51 rfl ?_
        refine vc_aload_n dX12_beginOne_52 rfl ?_
        refine vc_getI dX12_beginOne_53 flX12_129 (s_54 hB0.1.1) rfl ?_
        refine vc_iconst dX12_beginOne_56 rfl ?_
        refine vc_icmp_ne dX12_beginOne_57 (fun h8 => by exfalso; omega) (fun h8 => ?_)
        refine vc_iconst dX12_beginOne_60 rfl ?_
        refine vc_goto dX12_beginOne_61 ?_
        refine vc_aload_n dX12_beginOne_65 rfl ?_
        refine vc_getI dX12_beginOne_66 flX12_129 (s_54 hB0.1.1) rfl ?_
        refine vc_iconst dX12_beginOne_69 rfl ?_
        refine vc_icmp_ne dX12_beginOne_70 (fun h9 => by exfalso; omega) (fun h9 => ?_)
        refine vc_aload_n dX12_beginOne_73 rfl ?_
        refine vc_getI dX12_beginOne_74 flX12_135 (s_54 hB0.1.1) rfl ?_
        refine vc_goto dX12_beginOne_77 ?_
        refine vc_cVU dX12_beginOne_81 (sfX12_emit (M := M) hB0.1  0 (mI M 54 12) (by omega) (by omega)) rfl okX12_emit viX12_emit lkX12_186 (s_54 hB0.1.1) cl_12 rfl (Nat.le_of_ble_eq_true rfl) ⟨rfl, rfl⟩ (Nat.le_of_ble_eq_true rfl) (Nat.le_of_ble_eq_true rfl) (Nat.le_of_ble_eq_true rfl) ?_
        rintro M10 ⟨hB11, kp12, kp13, h14, h15, h16, h17, h18, h19, h20, h21, h22, h23, h24⟩
        have hB25 : BF fT M M10 := BF.go hB0 hB11
        have kp26 : mI M10 55 = mI M 55 := kp_go rfl kp12
        have h57 := h15
        have h60 := kp13
        have fr27 := fr_emit (A := M) (B := M) (t := mI M 54 14 + 265 + 2 * S) (by omega) (by omega) h57 (fun _ _ => rfl)
        refine vc_aload_n dX12_beginOne_84 rfl ?_
        refine vc_cVU dX12_beginOne_85 (sfX12_nextToken (M := M10) hB25.1   ) rfl okX12_nextToken viX12_nextToken lkX12_193 (s_54 hB25.1.1) cl_12 rfl (Nat.le_of_ble_eq_true rfl) ⟨rfl, rfl⟩ (Nat.le_of_ble_eq_true rfl) (Nat.le_of_ble_eq_true rfl) (Nat.le_of_ble_eq_true rfl) ?_
        rintro M28 ⟨hB29, kp30, kp31, kp32, h33, h34, h35, h36, h37, h38, h39, h40, h41, h42⟩
        have hB43 : BF fT M M28 := BF.go hB25 hB29.t
        have kp44 : mI M28 55 = mI M 55 := kp_go kp26 kp30
        have fr45 : ∀ j : Nat, (j : Int) < mI M 54 14 + 265 + 2 * S → mI M28 57 j = mI M 57 j := fun j hj => (congrFun kp31 j).trans (fr27 j hj)
        have hbx := b54_10 (M := M28) hB43.1
        refine vc_aload_n dX12_beginOne_88 rfl ?_
        refine vc_iconst dX12_beginOne_89 rfl ?_
        refine vc_putZ dX12_beginOne_90 (plX12_207 _ rfl) (s_54 hB43.1.1) rfl (by first | decide | omega) ?_
        have kp46 : mI (sI M28 54 20 1) 55 = mI M 55 := (kp_sI kp44 rfl)
        have hB47 : BF fT M (sI M28 54 20 1) := BF.w54_20 hB43 rfl
        refine vc_aload_n dX12_beginOne_93 rfl ?_
        refine vc_iconst dX12_beginOne_94 rfl ?_
        have k48 : mI (sI M28 54 20 1) 54 9 = mI M28 54 9 := rfl
        have k49 : mI (sI M28 54 20 1) 54 10 = mI M28 54 10 := rfl
        have k50 : mI (sI M28 54 20 1) 54 11 = mI M28 54 11 := rfl
        have k51 : mI (sI M28 54 20 1) 54 14 = mI M28 54 14 := rfl
        have k52 : mI (sI M28 54 20 1) 54 15 = mI M28 54 15 := rfl
        have k53 : mI (sI M28 54 20 1) 54 16 = mI M28 54 16 := rfl
        have k54 : mI (sI M28 54 20 1) 54 18 = mI M28 54 18 := rfl
        have k55 : mI (sI M28 54 20 1) 54 19 = mI M28 54 19 := rfl
        have k56 : mI (sI M28 54 20 1) 54 20 = 1 := rfl
        have k57 : mI (sI M28 54 20 1) 54 21 = mI M28 54 21 := rfl
        have hz5 := congrFun kp46 5
        have hPI58 : PI (sI M28 54 20 1) S := PI.num (M := M) (o := 0) (v := (mI M 54 12)) p0 (by omega) (by omega) (fun h => absurd h (by decide)) (kp31.trans h57) (kp32.trans h60) (by omega) (by omega) (by omega) (by omega) (by omega) (by omega) (by omega)
        refine vc_cVU dX12_beginOne_95 (sfX12_settlePile (M := (sI M28 54 20 1)) hB47.1  S 3 (by omega) (by omega) (by assumption) (by omega) (by omega)) rfl okX12_settlePile viX12_settlePile lkX12_211 (s_54 hB47.1.1) cl_12 rfl (Nat.le_of_ble_eq_true rfl) ⟨rfl, rfl⟩ (Nat.le_of_ble_eq_true rfl) (Nat.le_of_ble_eq_true rfl) (Nat.le_of_ble_eq_true rfl) ?_
        rintro M59 ⟨hB60, kp61, kp62, h63, h64, h65, h66, h67, h68, h69, h70, h71, h72, h73, h74⟩
        have hB75 : BF fT M M59 := BF.go hB47 hB60
        have kp76 : mI M59 55 = mI M 55 := kp_go kp46 kp61
        have fr77 : ∀ j : Nat, (j : Int) < mI M 54 14 + 265 + 2 * S → mI M59 57 j = mI M 57 j := fun j hj => (h72 j (by omega)).trans (fr45 j hj)
        have hl2 := h63.len
        refine vc_iconst dX12_beginOne_98 rfl ?_
        refine vc_iret dX12_beginOne_99 rfl (Nat.le_of_ble_eq_true rfl) (Nat.le_of_ble_eq_true rfl) ?_
        exact ⟨_, rfl, hB75, kp76, by omega, by omega, fun _ => h63, by omega, by omega, by omega, by omega, by omega, by omega, fr77, by omega⟩
      · refine vc_iload_n dX12_beginOne_47 rfl ?_
        refine vc_if_lt dX12_beginOne_48 (fun h78 => ?_) (fun h78 => by exfalso; omega)
        refine vc_aload_n dX12_beginOne_100 rfl ?_
        refine vc_bipush dX12_beginOne_101 rfl ?_
        refine vc_bipush dX12_beginOne_103 rfl ?_
        refine vc_bipush dX12_beginOne_105 rfl ?_
        refine vc_bipush dX12_beginOne_107 rfl ?_
        refine vc_bipush dX12_beginOne_109 rfl ?_
        refine vc_cSL dX12_beginOne_111 (sfX12_w5 (M := M) hB0.1  108 101 97 115 116 ) rfl okX12_w5 stX12_w5 lkX12_163 rfl (Nat.le_of_ble_eq_true rfl) ⟨rfl, rfl⟩ (Nat.le_of_ble_eq_true rfl) (Nat.le_of_ble_eq_true rfl) (Nat.le_of_ble_eq_true rfl) ?_
        rintro x79 _ rfl
        refine vc_cVI dX12_beginOne_114 (sfX12_isWord (M := M) hB0.1  x79 ) rfl okX12_isWord viX12_isWord lkX12_196 (s_54 hB0.1.1) cl_12 rfl (Nat.le_of_ble_eq_true rfl) ⟨rfl, rfl⟩ (Nat.le_of_ble_eq_true rfl) (Nat.le_of_ble_eq_true rfl) (Nat.le_of_ble_eq_true rfl) ?_
        rintro x80 _ ⟨rfl, h81, h82, h83⟩
        refine vc_if_eq dX12_beginOne_117 (fun h84 => ?_) (fun h84 => ?_)
        · refine vc_aload_n dX12_beginOne_127 rfl ?_
          refine vc_bipush dX12_beginOne_128 rfl ?_
          refine vc_bipush dX12_beginOne_130 rfl ?_
          refine vc_bipush dX12_beginOne_132 rfl ?_
          refine vc_bipush dX12_beginOne_134 rfl ?_
          refine vc_cSL dX12_beginOne_136 (sfX12_w4 (M := M) hB0.1  109 111 115 116 ) rfl okX12_w4 stX12_w4 lkX12_159 rfl (Nat.le_of_ble_eq_true rfl) ⟨rfl, rfl⟩ (Nat.le_of_ble_eq_true rfl) (Nat.le_of_ble_eq_true rfl) (Nat.le_of_ble_eq_true rfl) ?_
          rintro x85 _ rfl
          refine vc_cVI dX12_beginOne_139 (sfX12_isWord (M := M) hB0.1  x85 ) rfl okX12_isWord viX12_isWord lkX12_196 (s_54 hB0.1.1) cl_12 rfl (Nat.le_of_ble_eq_true rfl) ⟨rfl, rfl⟩ (Nat.le_of_ble_eq_true rfl) (Nat.le_of_ble_eq_true rfl) (Nat.le_of_ble_eq_true rfl) ?_
          rintro x86 _ ⟨rfl, h87, h88, h89⟩
          refine vc_if_eq dX12_beginOne_142 (fun h90 => ?_) (fun h90 => ?_)
          · refine vc_aload_n dX12_beginOne_152 rfl ?_
            refine vc_getI dX12_beginOne_153 flX12_129 (s_54 hB0.1.1) rfl ?_
            refine vc_bipush dX12_beginOne_156 rfl ?_
            refine vc_icmp_ne dX12_beginOne_158 (fun h91 => ?_) (fun h91 => ?_)
            · refine vc_aload_n dX12_beginOne_170 rfl ?_
              refine vc_getI dX12_beginOne_171 flX12_129 (s_54 hB0.1.1) rfl ?_
              refine vc_bipush dX12_beginOne_174 rfl ?_
              refine vc_icmp_ne dX12_beginOne_176 (fun h92 => ?_) (fun h92 => ?_)
              · refine vc_iconst dX12_beginOne_187 rfl ?_
                refine vc_iret dX12_beginOne_188 rfl (Nat.le_of_ble_eq_true rfl) (Nat.le_of_ble_eq_true rfl) ?_
                exact ⟨_, rfl, hB0, rfl, by omega, by omega, fun h => absurd h (by decide), by omega, by omega, by omega, by omega, by omega, by omega, (fun _ _ => rfl), by omega⟩
              · refine vc_aload_n dX12_beginOne_179 rfl ?_
                refine vc_iconst dX12_beginOne_180 rfl ?_
                refine vc_cVI dX12_beginOne_181 (sfX12_opened (M := M) hB0.1  S 2 (by exact p0) (by omega) (by omega) (by omega) (by omega) (by omega) (by omega)) rfl okX12_opened viX12_opened lkX12_214 (s_54 hB0.1.1) cl_12 rfl (Nat.le_of_ble_eq_true rfl) ⟨rfl, rfl⟩ (Nat.le_of_ble_eq_true rfl) (Nat.le_of_ble_eq_true rfl) (Nat.le_of_ble_eq_true rfl) ?_
                rintro x93 M94 ⟨hB95, kp96, h97, h98, h99, h100, h101, h102, h103, h104, h105, h106, h107, h108⟩
                have hB109 : BF fT M M94 := BF.go hB0 hB95
                have kp110 : mI M94 55 = mI M 55 := kp_go rfl kp96
                refine vc_goto dX12_beginOne_184 ?_
                refine vc_iret dX12_beginOne_188 rfl (Nat.le_of_ble_eq_true rfl) (Nat.le_of_ble_eq_true rfl) ?_
                exact ⟨_, rfl, hB109, kp110, by omega, by omega, h99, by omega, by omega, by omega, by omega, by omega, by omega, h106, by omega⟩
            · refine vc_aload_n dX12_beginOne_161 rfl ?_
              refine vc_bipush dX12_beginOne_162 rfl ?_
              refine vc_cVI dX12_beginOne_164 (sfX12_opened (M := M) hB0.1  S 40 (by exact p0) (by omega) (by omega) (by omega) (by omega) (by omega) (by omega)) rfl okX12_opened viX12_opened lkX12_214 (s_54 hB0.1.1) cl_12 rfl (Nat.le_of_ble_eq_true rfl) ⟨rfl, rfl⟩ (Nat.le_of_ble_eq_true rfl) (Nat.le_of_ble_eq_true rfl) (Nat.le_of_ble_eq_true rfl) ?_
              rintro x111 M112 ⟨hB113, kp114, h115, h116, h117, h118, h119, h120, h121, h122, h123, h124, h125, h126⟩
              have hB127 : BF fT M M112 := BF.go hB0 hB113
              have kp128 : mI M112 55 = mI M 55 := kp_go rfl kp114
              refine vc_goto dX12_beginOne_167 ?_
              refine vc_iret dX12_beginOne_188 rfl (Nat.le_of_ble_eq_true rfl) (Nat.le_of_ble_eq_true rfl) ?_
              exact ⟨_, rfl, hB127, kp128, by omega, by omega, h117, by omega, by omega, by omega, by omega, by omega, by omega, h124, by omega⟩
          · refine vc_aload_n dX12_beginOne_145 rfl ?_
            refine vc_bipush dX12_beginOne_146 rfl ?_
            refine vc_cVI dX12_beginOne_148 (sfX12_opened (M := M) hB0.1  S 43 (by exact p0) (by omega) (by omega) (by omega) (by omega) (by omega) (by omega)) rfl okX12_opened viX12_opened lkX12_214 (s_54 hB0.1.1) cl_12 rfl (Nat.le_of_ble_eq_true rfl) ⟨rfl, rfl⟩ (Nat.le_of_ble_eq_true rfl) (Nat.le_of_ble_eq_true rfl) (Nat.le_of_ble_eq_true rfl) ?_
            rintro x129 M130 ⟨hB131, kp132, h133, h134, h135, h136, h137, h138, h139, h140, h141, h142, h143, h144⟩
            have hB145 : BF fT M M130 := BF.go hB0 hB131
            have kp146 : mI M130 55 = mI M 55 := kp_go rfl kp132
            refine vc_iret dX12_beginOne_151 rfl (Nat.le_of_ble_eq_true rfl) (Nat.le_of_ble_eq_true rfl) ?_
            exact ⟨_, rfl, hB145, kp146, by omega, by omega, h135, by omega, by omega, by omega, by omega, by omega, by omega, h142, by omega⟩
        · refine vc_aload_n dX12_beginOne_120 rfl ?_
          refine vc_bipush dX12_beginOne_121 rfl ?_
          refine vc_cVI dX12_beginOne_123 (sfX12_opened (M := M) hB0.1  S 41 (by exact p0) (by omega) (by omega) (by omega) (by omega) (by omega) (by omega)) rfl okX12_opened viX12_opened lkX12_214 (s_54 hB0.1.1) cl_12 rfl (Nat.le_of_ble_eq_true rfl) ⟨rfl, rfl⟩ (Nat.le_of_ble_eq_true rfl) (Nat.le_of_ble_eq_true rfl) (Nat.le_of_ble_eq_true rfl) ?_
          rintro x147 M148 ⟨hB149, kp150, h151, h152, h153, h154, h155, h156, h157, h158, h159, h160, h161, h162⟩
          have hB163 : BF fT M M148 := BF.go hB0 hB149
          have kp164 : mI M148 55 = mI M 55 := kp_go rfl kp150
          refine vc_iret dX12_beginOne_126 rfl (Nat.le_of_ble_eq_true rfl) (Nat.le_of_ble_eq_true rfl) ?_
          exact ⟨_, rfl, hB163, kp164, by omega, by omega, h153, by omega, by omega, by omega, by omega, by omega, by omega, h160, by omega⟩
    · refine vc_aload_n dX12_beginOne_29 rfl ?_
      refine vc_iload_n dX12_beginOne_30 rfl ?_
      refine vc_cVI dX12_beginOne_31 (sfX12_isOf (M := M) hB0.1  x2 ) rfl okX12_isOf viX12_isOf lkX12_204 (s_54 hB0.1.1) cl_12 rfl (Nat.le_of_ble_eq_true rfl) ⟨rfl, rfl⟩ (Nat.le_of_ble_eq_true rfl) (Nat.le_of_ble_eq_true rfl) (Nat.le_of_ble_eq_true rfl) ?_
      rintro x165 _ ⟨rfl, h166, h167⟩
      refine vc_if_ne dX12_beginOne_34 (fun h168 => ?_) (fun h168 => ?_)
      · refine vc_aload_n dX12_beginOne_39 rfl ?_
        refine vc_getI dX12_beginOne_40 flX12_129 (s_54 hB0.1.1) rfl ?_
        refine vc_iconst dX12_beginOne_43 rfl ?_
        refine vc_icmp_eq dX12_beginOne_44 (fun h169 => ?_) (fun h169 => ?_)
        · refine vc_aload_n dX12_beginOne_51 rfl ?_
          refine vc_aload_n dX12_beginOne_52 rfl ?_
          refine vc_getI dX12_beginOne_53 flX12_129 (s_54 hB0.1.1) rfl ?_
          refine vc_iconst dX12_beginOne_56 rfl ?_
          refine vc_icmp_ne dX12_beginOne_57 (fun h170 => by exfalso; omega) (fun h170 => ?_)
          refine vc_iconst dX12_beginOne_60 rfl ?_
          refine vc_goto dX12_beginOne_61 ?_
          refine vc_aload_n dX12_beginOne_65 rfl ?_
          refine vc_getI dX12_beginOne_66 flX12_129 (s_54 hB0.1.1) rfl ?_
          refine vc_iconst dX12_beginOne_69 rfl ?_
          refine vc_icmp_ne dX12_beginOne_70 (fun h171 => by exfalso; omega) (fun h171 => ?_)
          refine vc_aload_n dX12_beginOne_73 rfl ?_
          refine vc_getI dX12_beginOne_74 flX12_135 (s_54 hB0.1.1) rfl ?_
          refine vc_goto dX12_beginOne_77 ?_
          refine vc_cVU dX12_beginOne_81 (sfX12_emit (M := M) hB0.1  0 (mI M 54 12) (by omega) (by omega)) rfl okX12_emit viX12_emit lkX12_186 (s_54 hB0.1.1) cl_12 rfl (Nat.le_of_ble_eq_true rfl) ⟨rfl, rfl⟩ (Nat.le_of_ble_eq_true rfl) (Nat.le_of_ble_eq_true rfl) (Nat.le_of_ble_eq_true rfl) ?_
          rintro M172 ⟨hB173, kp174, kp175, h176, h177, h178, h179, h180, h181, h182, h183, h184, h185, h186⟩
          have hB187 : BF fT M M172 := BF.go hB0 hB173
          have kp188 : mI M172 55 = mI M 55 := kp_go rfl kp174
          have h57 := h177
          have h60 := kp175
          have fr189 := fr_emit (A := M) (B := M) (t := mI M 54 14 + 265 + 2 * S) (by omega) (by omega) h57 (fun _ _ => rfl)
          refine vc_aload_n dX12_beginOne_84 rfl ?_
          refine vc_cVU dX12_beginOne_85 (sfX12_nextToken (M := M172) hB187.1   ) rfl okX12_nextToken viX12_nextToken lkX12_193 (s_54 hB187.1.1) cl_12 rfl (Nat.le_of_ble_eq_true rfl) ⟨rfl, rfl⟩ (Nat.le_of_ble_eq_true rfl) (Nat.le_of_ble_eq_true rfl) (Nat.le_of_ble_eq_true rfl) ?_
          rintro M190 ⟨hB191, kp192, kp193, kp194, h195, h196, h197, h198, h199, h200, h201, h202, h203, h204⟩
          have hB205 : BF fT M M190 := BF.go hB187 hB191.t
          have kp206 : mI M190 55 = mI M 55 := kp_go kp188 kp192
          have fr207 : ∀ j : Nat, (j : Int) < mI M 54 14 + 265 + 2 * S → mI M190 57 j = mI M 57 j := fun j hj => (congrFun kp193 j).trans (fr189 j hj)
          have hbx := b54_10 (M := M190) hB205.1
          refine vc_aload_n dX12_beginOne_88 rfl ?_
          refine vc_iconst dX12_beginOne_89 rfl ?_
          refine vc_putZ dX12_beginOne_90 (plX12_207 _ rfl) (s_54 hB205.1.1) rfl (by first | decide | omega) ?_
          have kp208 : mI (sI M190 54 20 1) 55 = mI M 55 := (kp_sI kp206 rfl)
          have hB209 : BF fT M (sI M190 54 20 1) := BF.w54_20 hB205 rfl
          refine vc_aload_n dX12_beginOne_93 rfl ?_
          refine vc_iconst dX12_beginOne_94 rfl ?_
          have k210 : mI (sI M190 54 20 1) 54 9 = mI M190 54 9 := rfl
          have k211 : mI (sI M190 54 20 1) 54 10 = mI M190 54 10 := rfl
          have k212 : mI (sI M190 54 20 1) 54 11 = mI M190 54 11 := rfl
          have k213 : mI (sI M190 54 20 1) 54 14 = mI M190 54 14 := rfl
          have k214 : mI (sI M190 54 20 1) 54 15 = mI M190 54 15 := rfl
          have k215 : mI (sI M190 54 20 1) 54 16 = mI M190 54 16 := rfl
          have k216 : mI (sI M190 54 20 1) 54 18 = mI M190 54 18 := rfl
          have k217 : mI (sI M190 54 20 1) 54 19 = mI M190 54 19 := rfl
          have k218 : mI (sI M190 54 20 1) 54 20 = 1 := rfl
          have k219 : mI (sI M190 54 20 1) 54 21 = mI M190 54 21 := rfl
          have hz5 := congrFun kp208 5
          have hPI220 : PI (sI M190 54 20 1) S := PI.num (M := M) (o := 0) (v := (mI M 54 12)) p0 (by omega) (by omega) (fun h => absurd h (by decide)) (kp193.trans h57) (kp194.trans h60) (by omega) (by omega) (by omega) (by omega) (by omega) (by omega) (by omega)
          refine vc_cVU dX12_beginOne_95 (sfX12_settlePile (M := (sI M190 54 20 1)) hB209.1  S 3 (by omega) (by omega) (by assumption) (by omega) (by omega)) rfl okX12_settlePile viX12_settlePile lkX12_211 (s_54 hB209.1.1) cl_12 rfl (Nat.le_of_ble_eq_true rfl) ⟨rfl, rfl⟩ (Nat.le_of_ble_eq_true rfl) (Nat.le_of_ble_eq_true rfl) (Nat.le_of_ble_eq_true rfl) ?_
          rintro M221 ⟨hB222, kp223, kp224, h225, h226, h227, h228, h229, h230, h231, h232, h233, h234, h235, h236⟩
          have hB237 : BF fT M M221 := BF.go hB209 hB222
          have kp238 : mI M221 55 = mI M 55 := kp_go kp208 kp223
          have fr239 : ∀ j : Nat, (j : Int) < mI M 54 14 + 265 + 2 * S → mI M221 57 j = mI M 57 j := fun j hj => (h234 j (by omega)).trans (fr207 j hj)
          have hl2 := h225.len
          refine vc_iconst dX12_beginOne_98 rfl ?_
          refine vc_iret dX12_beginOne_99 rfl (Nat.le_of_ble_eq_true rfl) (Nat.le_of_ble_eq_true rfl) ?_
          exact ⟨_, rfl, hB237, kp238, by omega, by omega, fun _ => h225, by omega, by omega, by omega, by omega, by omega, by omega, fr239, by omega⟩
        · refine vc_iload_n dX12_beginOne_47 rfl ?_
          refine vc_if_lt dX12_beginOne_48 (fun h240 => by exfalso; omega) (fun h240 => ?_)
          refine vc_aload_n dX12_beginOne_51 rfl ?_
          refine vc_aload_n dX12_beginOne_52 rfl ?_
          refine vc_getI dX12_beginOne_53 flX12_129 (s_54 hB0.1.1) rfl ?_
          refine vc_iconst dX12_beginOne_56 rfl ?_
          refine vc_icmp_ne dX12_beginOne_57 (fun h241 => ?_) (fun h241 => ?_)
          · refine vc_iconst dX12_beginOne_64 rfl ?_
            refine vc_aload_n dX12_beginOne_65 rfl ?_
            refine vc_getI dX12_beginOne_66 flX12_129 (s_54 hB0.1.1) rfl ?_
            refine vc_iconst dX12_beginOne_69 rfl ?_
            refine vc_icmp_ne dX12_beginOne_70 (fun h242 => ?_) (fun h242 => ?_)
            · refine vc_iload_n dX12_beginOne_80 rfl ?_
              refine vc_cVU dX12_beginOne_81 (sfX12_emit (M := M) hB0.1  1 x2 (by omega) (by omega)) rfl okX12_emit viX12_emit lkX12_186 (s_54 hB0.1.1) cl_12 rfl (Nat.le_of_ble_eq_true rfl) ⟨rfl, rfl⟩ (Nat.le_of_ble_eq_true rfl) (Nat.le_of_ble_eq_true rfl) (Nat.le_of_ble_eq_true rfl) ?_
              rintro M243 ⟨hB244, kp245, kp246, h247, h248, h249, h250, h251, h252, h253, h254, h255, h256, h257⟩
              have hB258 : BF fT M M243 := BF.go hB0 hB244
              have kp259 : mI M243 55 = mI M 55 := kp_go rfl kp245
              have h57 := h248
              have h60 := kp246
              have fr260 := fr_emit (A := M) (B := M) (t := mI M 54 14 + 265 + 2 * S) (by omega) (by omega) h57 (fun _ _ => rfl)
              refine vc_aload_n dX12_beginOne_84 rfl ?_
              refine vc_cVU dX12_beginOne_85 (sfX12_nextToken (M := M243) hB258.1   ) rfl okX12_nextToken viX12_nextToken lkX12_193 (s_54 hB258.1.1) cl_12 rfl (Nat.le_of_ble_eq_true rfl) ⟨rfl, rfl⟩ (Nat.le_of_ble_eq_true rfl) (Nat.le_of_ble_eq_true rfl) (Nat.le_of_ble_eq_true rfl) ?_
              rintro M261 ⟨hB262, kp263, kp264, kp265, h266, h267, h268, h269, h270, h271, h272, h273, h274, h275⟩
              have hB276 : BF fT M M261 := BF.go hB258 hB262.t
              have kp277 : mI M261 55 = mI M 55 := kp_go kp259 kp263
              have fr278 : ∀ j : Nat, (j : Int) < mI M 54 14 + 265 + 2 * S → mI M261 57 j = mI M 57 j := fun j hj => (congrFun kp264 j).trans (fr260 j hj)
              have hbx := b54_10 (M := M261) hB276.1
              refine vc_aload_n dX12_beginOne_88 rfl ?_
              refine vc_iconst dX12_beginOne_89 rfl ?_
              refine vc_putZ dX12_beginOne_90 (plX12_207 _ rfl) (s_54 hB276.1.1) rfl (by first | decide | omega) ?_
              have kp279 : mI (sI M261 54 20 1) 55 = mI M 55 := (kp_sI kp277 rfl)
              have hB280 : BF fT M (sI M261 54 20 1) := BF.w54_20 hB276 rfl
              refine vc_aload_n dX12_beginOne_93 rfl ?_
              refine vc_iconst dX12_beginOne_94 rfl ?_
              have k281 : mI (sI M261 54 20 1) 54 9 = mI M261 54 9 := rfl
              have k282 : mI (sI M261 54 20 1) 54 10 = mI M261 54 10 := rfl
              have k283 : mI (sI M261 54 20 1) 54 11 = mI M261 54 11 := rfl
              have k284 : mI (sI M261 54 20 1) 54 14 = mI M261 54 14 := rfl
              have k285 : mI (sI M261 54 20 1) 54 15 = mI M261 54 15 := rfl
              have k286 : mI (sI M261 54 20 1) 54 16 = mI M261 54 16 := rfl
              have k287 : mI (sI M261 54 20 1) 54 18 = mI M261 54 18 := rfl
              have k288 : mI (sI M261 54 20 1) 54 19 = mI M261 54 19 := rfl
              have k289 : mI (sI M261 54 20 1) 54 20 = 1 := rfl
              have k290 : mI (sI M261 54 20 1) 54 21 = mI M261 54 21 := rfl
              have hz5 := congrFun kp279 5
              have hPI291 : PI (sI M261 54 20 1) S := PI.num (M := M) (o := 1) (v := x2) p0 (by omega) (by omega) (fun _ => ⟨by omega, by omega⟩) (kp264.trans h57) (kp265.trans h60) (by omega) (by omega) (by omega) (by omega) (by omega) (by omega) (by omega)
              refine vc_cVU dX12_beginOne_95 (sfX12_settlePile (M := (sI M261 54 20 1)) hB280.1  S 3 (by omega) (by omega) (by assumption) (by omega) (by omega)) rfl okX12_settlePile viX12_settlePile lkX12_211 (s_54 hB280.1.1) cl_12 rfl (Nat.le_of_ble_eq_true rfl) ⟨rfl, rfl⟩ (Nat.le_of_ble_eq_true rfl) (Nat.le_of_ble_eq_true rfl) (Nat.le_of_ble_eq_true rfl) ?_
              rintro M292 ⟨hB293, kp294, kp295, h296, h297, h298, h299, h300, h301, h302, h303, h304, h305, h306, h307⟩
              have hB308 : BF fT M M292 := BF.go hB280 hB293
              have kp309 : mI M292 55 = mI M 55 := kp_go kp279 kp294
              have fr310 : ∀ j : Nat, (j : Int) < mI M 54 14 + 265 + 2 * S → mI M292 57 j = mI M 57 j := fun j hj => (h305 j (by omega)).trans (fr278 j hj)
              have hl2 := h296.len
              refine vc_iconst dX12_beginOne_98 rfl ?_
              refine vc_iret dX12_beginOne_99 rfl (Nat.le_of_ble_eq_true rfl) (Nat.le_of_ble_eq_true rfl) ?_
              exact ⟨_, rfl, hB308, kp309, by omega, by omega, fun _ => h296, by omega, by omega, by omega, by omega, by omega, by omega, fr310, by omega⟩
            · refine vc_aload_n dX12_beginOne_73 rfl ?_
              refine vc_getI dX12_beginOne_74 flX12_135 (s_54 hB0.1.1) rfl ?_
              refine vc_goto dX12_beginOne_77 ?_
              refine vc_cVU dX12_beginOne_81 (sfX12_emit (M := M) hB0.1  1 (mI M 54 12) (by omega) (by omega)) rfl okX12_emit viX12_emit lkX12_186 (s_54 hB0.1.1) cl_12 rfl (Nat.le_of_ble_eq_true rfl) ⟨rfl, rfl⟩ (Nat.le_of_ble_eq_true rfl) (Nat.le_of_ble_eq_true rfl) (Nat.le_of_ble_eq_true rfl) ?_
              rintro M311 ⟨hB312, kp313, kp314, h315, h316, h317, h318, h319, h320, h321, h322, h323, h324, h325⟩
              have hB326 : BF fT M M311 := BF.go hB0 hB312
              have kp327 : mI M311 55 = mI M 55 := kp_go rfl kp313
              have h57 := h316
              have h60 := kp314
              have fr328 := fr_emit (A := M) (B := M) (t := mI M 54 14 + 265 + 2 * S) (by omega) (by omega) h57 (fun _ _ => rfl)
              refine vc_aload_n dX12_beginOne_84 rfl ?_
              refine vc_cVU dX12_beginOne_85 (sfX12_nextToken (M := M311) hB326.1   ) rfl okX12_nextToken viX12_nextToken lkX12_193 (s_54 hB326.1.1) cl_12 rfl (Nat.le_of_ble_eq_true rfl) ⟨rfl, rfl⟩ (Nat.le_of_ble_eq_true rfl) (Nat.le_of_ble_eq_true rfl) (Nat.le_of_ble_eq_true rfl) ?_
              rintro M329 ⟨hB330, kp331, kp332, kp333, h334, h335, h336, h337, h338, h339, h340, h341, h342, h343⟩
              have hB344 : BF fT M M329 := BF.go hB326 hB330.t
              have kp345 : mI M329 55 = mI M 55 := kp_go kp327 kp331
              have fr346 : ∀ j : Nat, (j : Int) < mI M 54 14 + 265 + 2 * S → mI M329 57 j = mI M 57 j := fun j hj => (congrFun kp332 j).trans (fr328 j hj)
              have hbx := b54_10 (M := M329) hB344.1
              refine vc_aload_n dX12_beginOne_88 rfl ?_
              refine vc_iconst dX12_beginOne_89 rfl ?_
              refine vc_putZ dX12_beginOne_90 (plX12_207 _ rfl) (s_54 hB344.1.1) rfl (by first | decide | omega) ?_
              have kp347 : mI (sI M329 54 20 1) 55 = mI M 55 := (kp_sI kp345 rfl)
              have hB348 : BF fT M (sI M329 54 20 1) := BF.w54_20 hB344 rfl
              refine vc_aload_n dX12_beginOne_93 rfl ?_
              refine vc_iconst dX12_beginOne_94 rfl ?_
              have k349 : mI (sI M329 54 20 1) 54 9 = mI M329 54 9 := rfl
              have k350 : mI (sI M329 54 20 1) 54 10 = mI M329 54 10 := rfl
              have k351 : mI (sI M329 54 20 1) 54 11 = mI M329 54 11 := rfl
              have k352 : mI (sI M329 54 20 1) 54 14 = mI M329 54 14 := rfl
              have k353 : mI (sI M329 54 20 1) 54 15 = mI M329 54 15 := rfl
              have k354 : mI (sI M329 54 20 1) 54 16 = mI M329 54 16 := rfl
              have k355 : mI (sI M329 54 20 1) 54 18 = mI M329 54 18 := rfl
              have k356 : mI (sI M329 54 20 1) 54 19 = mI M329 54 19 := rfl
              have k357 : mI (sI M329 54 20 1) 54 20 = 1 := rfl
              have k358 : mI (sI M329 54 20 1) 54 21 = mI M329 54 21 := rfl
              have hz5 := congrFun kp347 5
              have hPI359 : PI (sI M329 54 20 1) S := PI.num (M := M) (o := 1) (v := (mI M 54 12)) p0 (by omega) (by omega) (fun _ => ⟨by omega, by omega⟩) (kp332.trans h57) (kp333.trans h60) (by omega) (by omega) (by omega) (by omega) (by omega) (by omega) (by omega)
              refine vc_cVU dX12_beginOne_95 (sfX12_settlePile (M := (sI M329 54 20 1)) hB348.1  S 3 (by omega) (by omega) (by assumption) (by omega) (by omega)) rfl okX12_settlePile viX12_settlePile lkX12_211 (s_54 hB348.1.1) cl_12 rfl (Nat.le_of_ble_eq_true rfl) ⟨rfl, rfl⟩ (Nat.le_of_ble_eq_true rfl) (Nat.le_of_ble_eq_true rfl) (Nat.le_of_ble_eq_true rfl) ?_
              rintro M360 ⟨hB361, kp362, kp363, h364, h365, h366, h367, h368, h369, h370, h371, h372, h373, h374, h375⟩
              have hB376 : BF fT M M360 := BF.go hB348 hB361
              have kp377 : mI M360 55 = mI M 55 := kp_go kp347 kp362
              have fr378 : ∀ j : Nat, (j : Int) < mI M 54 14 + 265 + 2 * S → mI M360 57 j = mI M 57 j := fun j hj => (h373 j (by omega)).trans (fr346 j hj)
              have hl2 := h364.len
              refine vc_iconst dX12_beginOne_98 rfl ?_
              refine vc_iret dX12_beginOne_99 rfl (Nat.le_of_ble_eq_true rfl) (Nat.le_of_ble_eq_true rfl) ?_
              exact ⟨_, rfl, hB376, kp377, by omega, by omega, fun _ => h364, by omega, by omega, by omega, by omega, by omega, by omega, fr378, by omega⟩
          · refine vc_iconst dX12_beginOne_60 rfl ?_
            refine vc_goto dX12_beginOne_61 ?_
            refine vc_aload_n dX12_beginOne_65 rfl ?_
            refine vc_getI dX12_beginOne_66 flX12_129 (s_54 hB0.1.1) rfl ?_
            refine vc_iconst dX12_beginOne_69 rfl ?_
            refine vc_icmp_ne dX12_beginOne_70 (fun h379 => by exfalso; omega) (fun h379 => ?_)
            refine vc_aload_n dX12_beginOne_73 rfl ?_
            refine vc_getI dX12_beginOne_74 flX12_135 (s_54 hB0.1.1) rfl ?_
            refine vc_goto dX12_beginOne_77 ?_
            refine vc_cVU dX12_beginOne_81 (sfX12_emit (M := M) hB0.1  0 (mI M 54 12) (by omega) (by omega)) rfl okX12_emit viX12_emit lkX12_186 (s_54 hB0.1.1) cl_12 rfl (Nat.le_of_ble_eq_true rfl) ⟨rfl, rfl⟩ (Nat.le_of_ble_eq_true rfl) (Nat.le_of_ble_eq_true rfl) (Nat.le_of_ble_eq_true rfl) ?_
            rintro M380 ⟨hB381, kp382, kp383, h384, h385, h386, h387, h388, h389, h390, h391, h392, h393, h394⟩
            have hB395 : BF fT M M380 := BF.go hB0 hB381
            have kp396 : mI M380 55 = mI M 55 := kp_go rfl kp382
            have h57 := h385
            have h60 := kp383
            have fr397 := fr_emit (A := M) (B := M) (t := mI M 54 14 + 265 + 2 * S) (by omega) (by omega) h57 (fun _ _ => rfl)
            refine vc_aload_n dX12_beginOne_84 rfl ?_
            refine vc_cVU dX12_beginOne_85 (sfX12_nextToken (M := M380) hB395.1   ) rfl okX12_nextToken viX12_nextToken lkX12_193 (s_54 hB395.1.1) cl_12 rfl (Nat.le_of_ble_eq_true rfl) ⟨rfl, rfl⟩ (Nat.le_of_ble_eq_true rfl) (Nat.le_of_ble_eq_true rfl) (Nat.le_of_ble_eq_true rfl) ?_
            rintro M398 ⟨hB399, kp400, kp401, kp402, h403, h404, h405, h406, h407, h408, h409, h410, h411, h412⟩
            have hB413 : BF fT M M398 := BF.go hB395 hB399.t
            have kp414 : mI M398 55 = mI M 55 := kp_go kp396 kp400
            have fr415 : ∀ j : Nat, (j : Int) < mI M 54 14 + 265 + 2 * S → mI M398 57 j = mI M 57 j := fun j hj => (congrFun kp401 j).trans (fr397 j hj)
            have hbx := b54_10 (M := M398) hB413.1
            refine vc_aload_n dX12_beginOne_88 rfl ?_
            refine vc_iconst dX12_beginOne_89 rfl ?_
            refine vc_putZ dX12_beginOne_90 (plX12_207 _ rfl) (s_54 hB413.1.1) rfl (by first | decide | omega) ?_
            have kp416 : mI (sI M398 54 20 1) 55 = mI M 55 := (kp_sI kp414 rfl)
            have hB417 : BF fT M (sI M398 54 20 1) := BF.w54_20 hB413 rfl
            refine vc_aload_n dX12_beginOne_93 rfl ?_
            refine vc_iconst dX12_beginOne_94 rfl ?_
            have k418 : mI (sI M398 54 20 1) 54 9 = mI M398 54 9 := rfl
            have k419 : mI (sI M398 54 20 1) 54 10 = mI M398 54 10 := rfl
            have k420 : mI (sI M398 54 20 1) 54 11 = mI M398 54 11 := rfl
            have k421 : mI (sI M398 54 20 1) 54 14 = mI M398 54 14 := rfl
            have k422 : mI (sI M398 54 20 1) 54 15 = mI M398 54 15 := rfl
            have k423 : mI (sI M398 54 20 1) 54 16 = mI M398 54 16 := rfl
            have k424 : mI (sI M398 54 20 1) 54 18 = mI M398 54 18 := rfl
            have k425 : mI (sI M398 54 20 1) 54 19 = mI M398 54 19 := rfl
            have k426 : mI (sI M398 54 20 1) 54 20 = 1 := rfl
            have k427 : mI (sI M398 54 20 1) 54 21 = mI M398 54 21 := rfl
            have hz5 := congrFun kp416 5
            have hPI428 : PI (sI M398 54 20 1) S := PI.num (M := M) (o := 0) (v := (mI M 54 12)) p0 (by omega) (by omega) (fun h => absurd h (by decide)) (kp401.trans h57) (kp402.trans h60) (by omega) (by omega) (by omega) (by omega) (by omega) (by omega) (by omega)
            refine vc_cVU dX12_beginOne_95 (sfX12_settlePile (M := (sI M398 54 20 1)) hB417.1  S 3 (by omega) (by omega) (by assumption) (by omega) (by omega)) rfl okX12_settlePile viX12_settlePile lkX12_211 (s_54 hB417.1.1) cl_12 rfl (Nat.le_of_ble_eq_true rfl) ⟨rfl, rfl⟩ (Nat.le_of_ble_eq_true rfl) (Nat.le_of_ble_eq_true rfl) (Nat.le_of_ble_eq_true rfl) ?_
            rintro M429 ⟨hB430, kp431, kp432, h433, h434, h435, h436, h437, h438, h439, h440, h441, h442, h443, h444⟩
            have hB445 : BF fT M M429 := BF.go hB417 hB430
            have kp446 : mI M429 55 = mI M 55 := kp_go kp416 kp431
            have fr447 : ∀ j : Nat, (j : Int) < mI M 54 14 + 265 + 2 * S → mI M429 57 j = mI M 57 j := fun j hj => (h442 j (by omega)).trans (fr415 j hj)
            have hl2 := h433.len
            refine vc_iconst dX12_beginOne_98 rfl ?_
            refine vc_iret dX12_beginOne_99 rfl (Nat.le_of_ble_eq_true rfl) (Nat.le_of_ble_eq_true rfl) ?_
            exact ⟨_, rfl, hB445, kp446, by omega, by omega, fun _ => h433, by omega, by omega, by omega, by omega, by omega, by omega, fr447, by omega⟩
      · refine vc_iconst dX12_beginOne_37 rfl ?_
        refine vc_iret dX12_beginOne_38 rfl (Nat.le_of_ble_eq_true rfl) (Nat.le_of_ble_eq_true rfl) ?_
        exact ⟨_, rfl, hB0, rfl, by omega, by omega, fun h => absurd h (by decide), by omega, by omega, by omega, by omega, by omega, by omega, (fun _ _ => rfl), by omega⟩
  · refine vc_aload_n dX12_beginOne_8 rfl ?_
    refine vc_getI dX12_beginOne_9 flX12_135 (s_54 hB0.1.1) rfl ?_
    refine vc_sipush dX12_beginOne_12 rfl ?_
    refine vc_icmp_le dX12_beginOne_15 (fun h448 => ?_) (fun h448 => ?_)
    · refine vc_aload_n dX12_beginOne_20 rfl ?_
      refine vc_cVI dX12_beginOne_21 (sfX12_nameOf (M := M) hB0.1   ) rfl okX12_nameOf viX12_nameOf lkX12_200 (s_54 hB0.1.1) cl_12 rfl (Nat.le_of_ble_eq_true rfl) ⟨rfl, rfl⟩ (Nat.le_of_ble_eq_true rfl) (Nat.le_of_ble_eq_true rfl) (Nat.le_of_ble_eq_true rfl) ?_
      rintro x449 _ ⟨rfl, h450, h451, h452⟩
      refine vc_istore_n dX12_beginOne_24 (by decide) rfl (show _ = [some (aR 54), some (aI x449)] from rfl) ?_
      refine vc_iload_n dX12_beginOne_25 rfl ?_
      refine vc_if_lt dX12_beginOne_26 (fun h453 => ?_) (fun h453 => ?_)
      · refine vc_aload_n dX12_beginOne_39 rfl ?_
        refine vc_getI dX12_beginOne_40 flX12_129 (s_54 hB0.1.1) rfl ?_
        refine vc_iconst dX12_beginOne_43 rfl ?_
        refine vc_icmp_eq dX12_beginOne_44 (fun h454 => ?_) (fun h454 => by exfalso; omega)
        refine vc_aload_n dX12_beginOne_51 rfl ?_
        refine vc_aload_n dX12_beginOne_52 rfl ?_
        refine vc_getI dX12_beginOne_53 flX12_129 (s_54 hB0.1.1) rfl ?_
        refine vc_iconst dX12_beginOne_56 rfl ?_
        refine vc_icmp_ne dX12_beginOne_57 (fun h455 => by exfalso; omega) (fun h455 => ?_)
        refine vc_iconst dX12_beginOne_60 rfl ?_
        refine vc_goto dX12_beginOne_61 ?_
        refine vc_aload_n dX12_beginOne_65 rfl ?_
        refine vc_getI dX12_beginOne_66 flX12_129 (s_54 hB0.1.1) rfl ?_
        refine vc_iconst dX12_beginOne_69 rfl ?_
        refine vc_icmp_ne dX12_beginOne_70 (fun h456 => by exfalso; omega) (fun h456 => ?_)
        refine vc_aload_n dX12_beginOne_73 rfl ?_
        refine vc_getI dX12_beginOne_74 flX12_135 (s_54 hB0.1.1) rfl ?_
        refine vc_goto dX12_beginOne_77 ?_
        refine vc_cVU dX12_beginOne_81 (sfX12_emit (M := M) hB0.1  0 (mI M 54 12) (by omega) (by omega)) rfl okX12_emit viX12_emit lkX12_186 (s_54 hB0.1.1) cl_12 rfl (Nat.le_of_ble_eq_true rfl) ⟨rfl, rfl⟩ (Nat.le_of_ble_eq_true rfl) (Nat.le_of_ble_eq_true rfl) (Nat.le_of_ble_eq_true rfl) ?_
        rintro M457 ⟨hB458, kp459, kp460, h461, h462, h463, h464, h465, h466, h467, h468, h469, h470, h471⟩
        have hB472 : BF fT M M457 := BF.go hB0 hB458
        have kp473 : mI M457 55 = mI M 55 := kp_go rfl kp459
        have h57 := h462
        have h60 := kp460
        have fr474 := fr_emit (A := M) (B := M) (t := mI M 54 14 + 265 + 2 * S) (by omega) (by omega) h57 (fun _ _ => rfl)
        refine vc_aload_n dX12_beginOne_84 rfl ?_
        refine vc_cVU dX12_beginOne_85 (sfX12_nextToken (M := M457) hB472.1   ) rfl okX12_nextToken viX12_nextToken lkX12_193 (s_54 hB472.1.1) cl_12 rfl (Nat.le_of_ble_eq_true rfl) ⟨rfl, rfl⟩ (Nat.le_of_ble_eq_true rfl) (Nat.le_of_ble_eq_true rfl) (Nat.le_of_ble_eq_true rfl) ?_
        rintro M475 ⟨hB476, kp477, kp478, kp479, h480, h481, h482, h483, h484, h485, h486, h487, h488, h489⟩
        have hB490 : BF fT M M475 := BF.go hB472 hB476.t
        have kp491 : mI M475 55 = mI M 55 := kp_go kp473 kp477
        have fr492 : ∀ j : Nat, (j : Int) < mI M 54 14 + 265 + 2 * S → mI M475 57 j = mI M 57 j := fun j hj => (congrFun kp478 j).trans (fr474 j hj)
        have hbx := b54_10 (M := M475) hB490.1
        refine vc_aload_n dX12_beginOne_88 rfl ?_
        refine vc_iconst dX12_beginOne_89 rfl ?_
        refine vc_putZ dX12_beginOne_90 (plX12_207 _ rfl) (s_54 hB490.1.1) rfl (by first | decide | omega) ?_
        have kp493 : mI (sI M475 54 20 1) 55 = mI M 55 := (kp_sI kp491 rfl)
        have hB494 : BF fT M (sI M475 54 20 1) := BF.w54_20 hB490 rfl
        refine vc_aload_n dX12_beginOne_93 rfl ?_
        refine vc_iconst dX12_beginOne_94 rfl ?_
        have k495 : mI (sI M475 54 20 1) 54 9 = mI M475 54 9 := rfl
        have k496 : mI (sI M475 54 20 1) 54 10 = mI M475 54 10 := rfl
        have k497 : mI (sI M475 54 20 1) 54 11 = mI M475 54 11 := rfl
        have k498 : mI (sI M475 54 20 1) 54 14 = mI M475 54 14 := rfl
        have k499 : mI (sI M475 54 20 1) 54 15 = mI M475 54 15 := rfl
        have k500 : mI (sI M475 54 20 1) 54 16 = mI M475 54 16 := rfl
        have k501 : mI (sI M475 54 20 1) 54 18 = mI M475 54 18 := rfl
        have k502 : mI (sI M475 54 20 1) 54 19 = mI M475 54 19 := rfl
        have k503 : mI (sI M475 54 20 1) 54 20 = 1 := rfl
        have k504 : mI (sI M475 54 20 1) 54 21 = mI M475 54 21 := rfl
        have hz5 := congrFun kp493 5
        have hPI505 : PI (sI M475 54 20 1) S := PI.num (M := M) (o := 0) (v := (mI M 54 12)) p0 (by omega) (by omega) (fun h => absurd h (by decide)) (kp478.trans h57) (kp479.trans h60) (by omega) (by omega) (by omega) (by omega) (by omega) (by omega) (by omega)
        refine vc_cVU dX12_beginOne_95 (sfX12_settlePile (M := (sI M475 54 20 1)) hB494.1  S 3 (by omega) (by omega) (by assumption) (by omega) (by omega)) rfl okX12_settlePile viX12_settlePile lkX12_211 (s_54 hB494.1.1) cl_12 rfl (Nat.le_of_ble_eq_true rfl) ⟨rfl, rfl⟩ (Nat.le_of_ble_eq_true rfl) (Nat.le_of_ble_eq_true rfl) (Nat.le_of_ble_eq_true rfl) ?_
        rintro M506 ⟨hB507, kp508, kp509, h510, h511, h512, h513, h514, h515, h516, h517, h518, h519, h520, h521⟩
        have hB522 : BF fT M M506 := BF.go hB494 hB507
        have kp523 : mI M506 55 = mI M 55 := kp_go kp493 kp508
        have fr524 : ∀ j : Nat, (j : Int) < mI M 54 14 + 265 + 2 * S → mI M506 57 j = mI M 57 j := fun j hj => (h519 j (by omega)).trans (fr492 j hj)
        have hl2 := h510.len
        refine vc_iconst dX12_beginOne_98 rfl ?_
        refine vc_iret dX12_beginOne_99 rfl (Nat.le_of_ble_eq_true rfl) (Nat.le_of_ble_eq_true rfl) ?_
        exact ⟨_, rfl, hB522, kp523, by omega, by omega, fun _ => h510, by omega, by omega, by omega, by omega, by omega, by omega, fr524, by omega⟩
      · refine vc_aload_n dX12_beginOne_29 rfl ?_
        refine vc_iload_n dX12_beginOne_30 rfl ?_
        refine vc_cVI dX12_beginOne_31 (sfX12_isOf (M := M) hB0.1  x449 ) rfl okX12_isOf viX12_isOf lkX12_204 (s_54 hB0.1.1) cl_12 rfl (Nat.le_of_ble_eq_true rfl) ⟨rfl, rfl⟩ (Nat.le_of_ble_eq_true rfl) (Nat.le_of_ble_eq_true rfl) (Nat.le_of_ble_eq_true rfl) ?_
        rintro x525 _ ⟨rfl, h526, h527⟩
        refine vc_if_ne dX12_beginOne_34 (fun h528 => ?_) (fun h528 => ?_)
        · refine vc_aload_n dX12_beginOne_39 rfl ?_
          refine vc_getI dX12_beginOne_40 flX12_129 (s_54 hB0.1.1) rfl ?_
          refine vc_iconst dX12_beginOne_43 rfl ?_
          refine vc_icmp_eq dX12_beginOne_44 (fun h529 => ?_) (fun h529 => by exfalso; omega)
          refine vc_aload_n dX12_beginOne_51 rfl ?_
          refine vc_aload_n dX12_beginOne_52 rfl ?_
          refine vc_getI dX12_beginOne_53 flX12_129 (s_54 hB0.1.1) rfl ?_
          refine vc_iconst dX12_beginOne_56 rfl ?_
          refine vc_icmp_ne dX12_beginOne_57 (fun h530 => by exfalso; omega) (fun h530 => ?_)
          refine vc_iconst dX12_beginOne_60 rfl ?_
          refine vc_goto dX12_beginOne_61 ?_
          refine vc_aload_n dX12_beginOne_65 rfl ?_
          refine vc_getI dX12_beginOne_66 flX12_129 (s_54 hB0.1.1) rfl ?_
          refine vc_iconst dX12_beginOne_69 rfl ?_
          refine vc_icmp_ne dX12_beginOne_70 (fun h531 => by exfalso; omega) (fun h531 => ?_)
          refine vc_aload_n dX12_beginOne_73 rfl ?_
          refine vc_getI dX12_beginOne_74 flX12_135 (s_54 hB0.1.1) rfl ?_
          refine vc_goto dX12_beginOne_77 ?_
          refine vc_cVU dX12_beginOne_81 (sfX12_emit (M := M) hB0.1  0 (mI M 54 12) (by omega) (by omega)) rfl okX12_emit viX12_emit lkX12_186 (s_54 hB0.1.1) cl_12 rfl (Nat.le_of_ble_eq_true rfl) ⟨rfl, rfl⟩ (Nat.le_of_ble_eq_true rfl) (Nat.le_of_ble_eq_true rfl) (Nat.le_of_ble_eq_true rfl) ?_
          rintro M532 ⟨hB533, kp534, kp535, h536, h537, h538, h539, h540, h541, h542, h543, h544, h545, h546⟩
          have hB547 : BF fT M M532 := BF.go hB0 hB533
          have kp548 : mI M532 55 = mI M 55 := kp_go rfl kp534
          have h57 := h537
          have h60 := kp535
          have fr549 := fr_emit (A := M) (B := M) (t := mI M 54 14 + 265 + 2 * S) (by omega) (by omega) h57 (fun _ _ => rfl)
          refine vc_aload_n dX12_beginOne_84 rfl ?_
          refine vc_cVU dX12_beginOne_85 (sfX12_nextToken (M := M532) hB547.1   ) rfl okX12_nextToken viX12_nextToken lkX12_193 (s_54 hB547.1.1) cl_12 rfl (Nat.le_of_ble_eq_true rfl) ⟨rfl, rfl⟩ (Nat.le_of_ble_eq_true rfl) (Nat.le_of_ble_eq_true rfl) (Nat.le_of_ble_eq_true rfl) ?_
          rintro M550 ⟨hB551, kp552, kp553, kp554, h555, h556, h557, h558, h559, h560, h561, h562, h563, h564⟩
          have hB565 : BF fT M M550 := BF.go hB547 hB551.t
          have kp566 : mI M550 55 = mI M 55 := kp_go kp548 kp552
          have fr567 : ∀ j : Nat, (j : Int) < mI M 54 14 + 265 + 2 * S → mI M550 57 j = mI M 57 j := fun j hj => (congrFun kp553 j).trans (fr549 j hj)
          have hbx := b54_10 (M := M550) hB565.1
          refine vc_aload_n dX12_beginOne_88 rfl ?_
          refine vc_iconst dX12_beginOne_89 rfl ?_
          refine vc_putZ dX12_beginOne_90 (plX12_207 _ rfl) (s_54 hB565.1.1) rfl (by first | decide | omega) ?_
          have kp568 : mI (sI M550 54 20 1) 55 = mI M 55 := (kp_sI kp566 rfl)
          have hB569 : BF fT M (sI M550 54 20 1) := BF.w54_20 hB565 rfl
          refine vc_aload_n dX12_beginOne_93 rfl ?_
          refine vc_iconst dX12_beginOne_94 rfl ?_
          have k570 : mI (sI M550 54 20 1) 54 9 = mI M550 54 9 := rfl
          have k571 : mI (sI M550 54 20 1) 54 10 = mI M550 54 10 := rfl
          have k572 : mI (sI M550 54 20 1) 54 11 = mI M550 54 11 := rfl
          have k573 : mI (sI M550 54 20 1) 54 14 = mI M550 54 14 := rfl
          have k574 : mI (sI M550 54 20 1) 54 15 = mI M550 54 15 := rfl
          have k575 : mI (sI M550 54 20 1) 54 16 = mI M550 54 16 := rfl
          have k576 : mI (sI M550 54 20 1) 54 18 = mI M550 54 18 := rfl
          have k577 : mI (sI M550 54 20 1) 54 19 = mI M550 54 19 := rfl
          have k578 : mI (sI M550 54 20 1) 54 20 = 1 := rfl
          have k579 : mI (sI M550 54 20 1) 54 21 = mI M550 54 21 := rfl
          have hz5 := congrFun kp568 5
          have hPI580 : PI (sI M550 54 20 1) S := PI.num (M := M) (o := 0) (v := (mI M 54 12)) p0 (by omega) (by omega) (fun h => absurd h (by decide)) (kp553.trans h57) (kp554.trans h60) (by omega) (by omega) (by omega) (by omega) (by omega) (by omega) (by omega)
          refine vc_cVU dX12_beginOne_95 (sfX12_settlePile (M := (sI M550 54 20 1)) hB569.1  S 3 (by omega) (by omega) (by assumption) (by omega) (by omega)) rfl okX12_settlePile viX12_settlePile lkX12_211 (s_54 hB569.1.1) cl_12 rfl (Nat.le_of_ble_eq_true rfl) ⟨rfl, rfl⟩ (Nat.le_of_ble_eq_true rfl) (Nat.le_of_ble_eq_true rfl) (Nat.le_of_ble_eq_true rfl) ?_
          rintro M581 ⟨hB582, kp583, kp584, h585, h586, h587, h588, h589, h590, h591, h592, h593, h594, h595, h596⟩
          have hB597 : BF fT M M581 := BF.go hB569 hB582
          have kp598 : mI M581 55 = mI M 55 := kp_go kp568 kp583
          have fr599 : ∀ j : Nat, (j : Int) < mI M 54 14 + 265 + 2 * S → mI M581 57 j = mI M 57 j := fun j hj => (h594 j (by omega)).trans (fr567 j hj)
          have hl2 := h585.len
          refine vc_iconst dX12_beginOne_98 rfl ?_
          refine vc_iret dX12_beginOne_99 rfl (Nat.le_of_ble_eq_true rfl) (Nat.le_of_ble_eq_true rfl) ?_
          exact ⟨_, rfl, hB597, kp598, by omega, by omega, fun _ => h585, by omega, by omega, by omega, by omega, by omega, by omega, fr599, by omega⟩
        · refine vc_iconst dX12_beginOne_37 rfl ?_
          refine vc_iret dX12_beginOne_38 rfl (Nat.le_of_ble_eq_true rfl) (Nat.le_of_ble_eq_true rfl) ?_
          exact ⟨_, rfl, hB0, rfl, by omega, by omega, fun h => absurd h (by decide), by omega, by omega, by omega, by omega, by omega, by omega, (fun _ _ => rfl), by omega⟩
    · refine vc_iconst dX12_beginOne_18 rfl ?_
      refine vc_iret dX12_beginOne_19 rfl (Nat.le_of_ble_eq_true rfl) (Nat.le_of_ble_eq_true rfl) ?_
      exact ⟨_, rfl, hB0, rfl, by omega, by omega, fun h => absurd h (by decide), by omega, by omega, by omega, by omega, by omega, by omega, (fun _ _ => rfl), by omega⟩

set_option maxRecDepth 4000 in
theorem sfX12_openAt {l : Launch} {M : Mem} (hB : Box M)   (p0 : mI M 54 18 ≤ 26) : Call l mdX12_openAt [aR 54] M (fun q N => ∃ r : Int, q = some (aI r) ∧ M = N ∧ (-1) ≤ r ∧ r ≤ 25 ∧ (r = -1 ∨ (r < mI M 54 18 ∧ 40 ≤ mI M 60 r.toNat)) ∧ (∀ q : Nat, r < q → (q : Int) < mI M 54 18 → mI M 60 q < 40)) := by
  have hB0 : BF fQ M M := BF.start hB
  refine Call.of [some (aR 54), none] rfl (Nat.le_of_ble_eq_true rfl) rfl ?_
  refine vc_aload_n dX12_openAt_0 rfl ?_
  refine vc_getI dX12_openAt_1 flX12_180 (s_54 hB0.1.1) rfl ?_
  have k1 : 0 ≤ mI M 54 18 ∧ mI M 54 18 ≤ 160 := b54_18 (M := M) hB0.1
  refine vc_iconst dX12_openAt_4 rfl ?_
  refine vc_isubE dX12_openAt_5 (by omega) (by omega) ?_
  refine vc_nameI (fun x2 ex2 => ?_)
  refine vc_istore_n dX12_openAt_6 (by decide) rfl (show _ = [some (aR 54), some (aI x2)] from rfl) ?_
  have lp7 : ∀ (n7 : Nat) (v1 : Int), ((-1) ≤ v1) → (v1 ≤ 25) → (v1 < mI M 54 18) → (∀ q : Nat, v1 < q → (q : Int) < mI M 54 18 → mI M 60 q < 40) → (v1 + 1).toNat < n7 → VC l mdX12_openAt 7 [some (aR 54), some (aI v1)] [] M 0 0 (fun q N => ∃ r : Int, q = some (aI r) ∧ M = N ∧ (-1) ≤ r ∧ r ≤ 25 ∧ (r = -1 ∨ (r < mI M 54 18 ∧ 40 ≤ mI M 60 r.toNat)) ∧ (∀ q : Nat, r < q → (q : Int) < mI M 54 18 → mI M 60 q < 40)) := by
    intro n7
    induction n7 with
    | zero => intro v1 g7_1a g7_1b g7i0 g7i1 hm7; exact absurd hm7 (Nat.not_lt_zero _)
    | succ n7 ih7 =>
      intro v1 g7_1a g7_1b g7i0 g7i1 hm7
      refine vc_iload_n dX12_openAt_7 rfl ?_
      refine vc_if_lt dX12_openAt_8 (fun h3 => ?_) (fun h3 => ?_)
      · refine vc_iload_n dX12_openAt_28 rfl ?_
        refine vc_iret dX12_openAt_29 rfl (Nat.le_of_ble_eq_true rfl) (Nat.le_of_ble_eq_true rfl) ?_
        exact ⟨_, rfl, rfl, by omega, by omega, by omega, by exact g7i1⟩
      · refine vc_aload_n dX12_openAt_11 rfl ?_
        refine vc_getR dX12_openAt_12 flX12_32 (s_54 hB0.1.1) rfl (r_54_17 hB0.1.1) ?_
        refine vc_iload_n dX12_openAt_15 rfl ?_
        refine vc_iaload dX12_openAt_16 (s_60 hB0.1.1) (by omega) (by omega) ?_
        refine vc_bipush dX12_openAt_17 rfl ?_
        refine vc_icmp_ge dX12_openAt_19 (fun h4 => ?_) (fun h4 => ?_)
        · refine vc_iload_n dX12_openAt_28 rfl ?_
          refine vc_iret dX12_openAt_29 rfl (Nat.le_of_ble_eq_true rfl) (Nat.le_of_ble_eq_true rfl) ?_
          exact ⟨_, rfl, rfl, by omega, by omega, by omega, by exact g7i1⟩
        · refine vc_iincE dX12_openAt_22 rfl (by omega) (by omega) (by decide) rfl (show _ = [some (aR 54), some (aI (v1 + (-1)))] from rfl) ?_
          refine vc_goto dX12_openAt_25 ?_
          exact ih7 (v1 + (-1)) (by omega) (by omega) (by omega) (by first | (intro q a b; exfalso; omega) | (intro q a b; by_cases e : (q : Int) = v1; (rw [show q = v1.toNat by omega]; omega); (exact g7i1 q (by omega) b))) (by omega)
  exact lp7 _ x2 (by omega) (by omega) (by omega) (by first | (intro q a b; exfalso; omega) | (intro q a b; by_cases e : (q : Int) = v1; (rw [show q = v1.toNat by omega]; omega); (exact g7i1 q (by omega) b))) (Nat.lt_succ_self _)

theorem rk_lt {o : Int} (h : o < 40) : 1 ≤ rkI o := by unfold rkI; rw [if_neg (by omega)]; split; decide; split <;> decide
theorem rk_40 {o : Int} (h : 40 ≤ o) : rkI o = 0 := by unfold rkI; rw [if_pos h]
/-- behind settlePile(1) the open one is the top -/
theorem top_at {M N : Mem} {k : Nat} (h60 : mI N 60 = mI M 60) (hle : mI N 54 18 ≤ mI M 54 18) (h0 : 0 ≤ mI N 54 18) (ht : mI N 54 18 = 0 ∨ rkI (mI N 60 (mI N 54 18 - 1).toNat) < 1) (hp : ∀ q : Nat, mI N 54 18 ≤ q → (q : Int) < mI M 54 18 → 1 ≤ rkI (mI M 60 q)) (hk : (k : Int) < mI M 54 18) (h40 : 40 ≤ mI M 60 k) (hq : ∀ q : Nat, k < q → (q : Int) < mI M 54 18 → mI M 60 q < 40) : mI N 54 18 = (k : Int) + 1 := by
  have a : (k : Int) < mI N 54 18 := by
    by_cases e : mI N 54 18 ≤ k
    · have := hp k e hk
      rw [rk_40 h40] at this
      omega
    · omega
  rcases ht with e | e
  · omega
  · by_cases e2 : mI N 54 18 = (k : Int) + 1
    · exact e2
    · exfalso
      have q := hq (mI N 54 18 - 1).toNat (by omega) (by omega)
      rw [h60] at e
      have := rk_lt q
      omega
theorem top_no {M N : Mem} (h60 : mI N 60 = mI M 60) (hle : mI N 54 18 ≤ mI M 54 18) (h0 : 0 ≤ mI N 54 18) (ht : mI N 54 18 = 0 ∨ rkI (mI N 60 (mI N 54 18 - 1).toNat) < 1) (hq : ∀ q : Nat, (q : Int) < mI M 54 18 → mI M 60 q < 40) : mI N 54 18 = 0 := by
  rcases ht with e | e
  · exact e
  · by_cases e2 : mI N 54 18 = 0
    · exact e2
    · exfalso
      have q := hq (mI N 54 18 - 1).toNat (by omega)
      rw [h60] at e
      have := rk_lt q
      omega
set_option maxRecDepth 4000 in
theorem sfX12_shut {l : Launch} {M : Mem} (hB : Box M) (S : Int) (o : Int) (p0 : PI M S) (p1 : mI M 54 14 = 873 * mI M 55 5) (p2 : mI M 54 10 ≤ mI M 54 9) (p3 : mI M 54 11 = 0 ∨ mI M 54 10 < mI M 54 9) (p4 : mI M 54 20 = 1) (p5 : mI M 54 11 ≠ 0) (p6 : ∃ k : Nat, (k : Int) < mI M 54 18 ∧ mI M 60 k = o ∧ ∀ q : Nat, k < q → (q : Int) < mI M 54 18 → mI M 60 q < 40) (p7 : o = 40 ∨ o = 42 ∨ o = 44) : Call l mdX12_shut [aR 54, aI o] M (fun q N => q = none ∧ BF fT M N ∧ mI N 55 = mI M 55 ∧ PI N S ∧ mI M 54 10 < mI N 54 10 ∧ mI N 54 10 ≤ mI N 54 9 ∧ (mI N 54 11 = 0 ∨ mI N 54 10 < mI N 54 9) ∧ mI N 54 14 = mI M 54 14 ∧ mI N 54 16 = mI M 54 16 ∧ mI N 54 21 = mI M 54 21 ∧ (∀ j : Nat, (j : Int) < mI M 54 14 + 265 + 2 * S → mI N 57 j = mI M 57 j)) := by
  have hB0 : BF fT M M := BF.start hB
  refine Call.of [some (aR 54), some (aI o)] rfl (Nat.le_of_ble_eq_true rfl) rfl ?_
  refine vc_ok (fun hoM hoS hoL => ?_)
  have hr1 : -2147483648 ≤ o ∧ o < 2147483648 := hoL 1 _ rfl
  have hle := p0.len
  have hk9 := b54_9 hB
  have hk5 := b55_5 hB
  refine vc_aload_n dX12_shut_0 rfl ?_
  refine vc_iconst dX12_shut_1 rfl ?_
  refine vc_cVU dX12_shut_2 (sfX12_settlePile (M := M) hB0.1  S 1 (by omega) (by omega) (by exact p0) (by omega) (by omega)) rfl okX12_settlePile viX12_settlePile lkX12_211 (s_54 hB0.1.1) cl_12 rfl (Nat.le_of_ble_eq_true rfl) ⟨rfl, rfl⟩ (Nat.le_of_ble_eq_true rfl) (Nat.le_of_ble_eq_true rfl) (Nat.le_of_ble_eq_true rfl) ?_
  rintro M1 ⟨hB2, kp3, kp4, h5, h6, h7, h8, h9, h10, h11, h12, h13, h14, h15, h16⟩
  have hB17 : BF fT M M1 := BF.go hB0 hB2
  have kp18 : mI M1 55 = mI M 55 := kp_go rfl kp3
  have fr19 : ∀ j : Nat, (j : Int) < mI M 54 14 + 265 + 2 * S → mI M1 57 j = mI M 57 j := fun j hj => (h14 j (by omega)).trans ((fun _ _ => rfl) j hj)
  have hl2 := h5.len
  obtain ⟨k, k1, k2, k3⟩ := id p6
  have htop := top_at (M := M) (N := M1) kp4 (by omega) (by omega) h15 h16 k1 (by omega) k3
  have htk : mI M1 60 (mI M1 54 18 - 1).toNat = o := by rw [htop, kp4, show ((k : Int) + 1 - 1).toNat = k by omega]; exact k2
  refine vc_aload_n dX12_shut_5 rfl ?_
  refine vc_dup dX12_shut_6 rfl ?_
  refine vc_getI dX12_shut_7 flX12_180 (s_54 hB17.1.1) rfl ?_
  have k20 : 0 ≤ mI M1 54 18 ∧ mI M1 54 18 ≤ 160 := b54_18 (M := M1) hB17.1
  refine vc_iconst dX12_shut_10 rfl ?_
  refine vc_isubE dX12_shut_11 (by omega) (by omega) ?_
  refine vc_putI dX12_shut_12 (plX12_180 _ rfl) (s_54 hB17.1.1) rfl ?_
  have kp21 : mI (sI M1 54 18 ((mI M1 54 18) - 1)) 55 = mI M 55 := (kp_sI kp18 rfl)
  have hB22 : BF fT M (sI M1 54 18 ((mI M1 54 18) - 1)) := BF.w54_18 hB17 rfl (by omega) (by omega)
  refine vc_aload_n dX12_shut_15 rfl ?_
  refine vc_dup dX12_shut_16 rfl ?_
  refine vc_getI dX12_shut_17 flX12_190 (s_54 hB22.1.1) rfl ?_
  refine vc_topI (mI M1 54 19) rfl ?_
  refine vc_iconst dX12_shut_20 rfl ?_
  refine vc_isubE dX12_shut_21 (by omega) (by omega) ?_
  refine vc_putI dX12_shut_22 (plX12_190 _ rfl) (s_54 hB22.1.1) rfl ?_
  have kp23 : mI (sI (sI M1 54 18 ((mI M1 54 18) - 1)) 54 19 ((mI M1 54 19) - 1)) 55 = mI M 55 := (kp_sI kp21 rfl)
  have hB24 : BF fT M (sI (sI M1 54 18 ((mI M1 54 18) - 1)) 54 19 ((mI M1 54 19) - 1)) := BF.w54_19 hB22 rfl
  refine vc_iload_n dX12_shut_25 rfl ?_
  refine vc_bipush dX12_shut_26 rfl ?_
  refine vc_icmp_eq dX12_shut_28 (fun h25 => ?_) (fun h25 => ?_)
  · refine vc_aload_n dX12_shut_49 rfl ?_
    have k26 : mI (sI (sI M1 54 18 ((mI M1 54 18) - 1)) 54 19 ((mI M1 54 19) - 1)) 54 9 = mI M1 54 9 := rfl
    have k27 : mI (sI (sI M1 54 18 ((mI M1 54 18) - 1)) 54 19 ((mI M1 54 19) - 1)) 54 10 = mI M1 54 10 := rfl
    have k28 : mI (sI (sI M1 54 18 ((mI M1 54 18) - 1)) 54 19 ((mI M1 54 19) - 1)) 54 11 = mI M1 54 11 := rfl
    have k29 : mI (sI (sI M1 54 18 ((mI M1 54 18) - 1)) 54 19 ((mI M1 54 19) - 1)) 54 14 = mI M1 54 14 := rfl
    have k30 : mI (sI (sI M1 54 18 ((mI M1 54 18) - 1)) 54 19 ((mI M1 54 19) - 1)) 54 15 = mI M1 54 15 := rfl
    have k31 : mI (sI (sI M1 54 18 ((mI M1 54 18) - 1)) 54 19 ((mI M1 54 19) - 1)) 54 16 = mI M1 54 16 := rfl
    have k32 : mI (sI (sI M1 54 18 ((mI M1 54 18) - 1)) 54 19 ((mI M1 54 19) - 1)) 54 18 = (mI M1 54 18) - 1 := rfl
    have k33 : mI (sI (sI M1 54 18 ((mI M1 54 18) - 1)) 54 19 ((mI M1 54 19) - 1)) 54 19 = (mI M1 54 19) - 1 := rfl
    have k34 : mI (sI (sI M1 54 18 ((mI M1 54 18) - 1)) 54 19 ((mI M1 54 19) - 1)) 54 20 = mI M1 54 20 := rfl
    have k35 : mI (sI (sI M1 54 18 ((mI M1 54 18) - 1)) 54 19 ((mI M1 54 19) - 1)) 54 21 = mI M1 54 21 := rfl
    refine vc_cVU dX12_shut_50 (sfX12_nextToken (M := (sI (sI M1 54 18 ((mI M1 54 18) - 1)) 54 19 ((mI M1 54 19) - 1))) hB24.1   ) rfl okX12_nextToken viX12_nextToken lkX12_193 (s_54 hB24.1.1) cl_12 rfl (Nat.le_of_ble_eq_true rfl) ⟨rfl, rfl⟩ (Nat.le_of_ble_eq_true rfl) (Nat.le_of_ble_eq_true rfl) (Nat.le_of_ble_eq_true rfl) ?_
    rintro M36 ⟨hB37, kp38, kp39, kp40, h41, h42, h43, h44, h45, h46, h47, h48, h49, h50⟩
    have hB51 : BF fT M M36 := BF.go hB24 hB37.t
    have kp52 : mI M36 55 = mI M 55 := kp_go kp23 kp38
    have fr53 : ∀ j : Nat, (j : Int) < mI M 54 14 + 265 + 2 * S → mI M36 57 j = mI M 57 j := fun j hj => (congrFun kp39 j).trans (fr19 j hj)
    have hbx := b54_10 (M := M36) hB51.1
    have hPI54 : PI M36 S := PI.par (M := M1) h5 (by omega) (by omega) (htk.trans (by omega)) kp39 kp40 (by omega) (by omega) (by omega) (by omega) (by omega) (by omega) (by omega)
    refine vc_aload_n dX12_shut_53 rfl ?_
    refine vc_iconst dX12_shut_54 rfl ?_
    have hz6 := congrFun kp52 5
    refine vc_cVU dX12_shut_55 (sfX12_settlePile (M := M36) hB51.1  S 3 (by omega) (by omega) (by assumption) (by omega) (by omega)) rfl okX12_settlePile viX12_settlePile lkX12_211 (s_54 hB51.1.1) cl_12 rfl (Nat.le_of_ble_eq_true rfl) ⟨rfl, rfl⟩ (Nat.le_of_ble_eq_true rfl) (Nat.le_of_ble_eq_true rfl) (Nat.le_of_ble_eq_true rfl) ?_
    rintro M55 ⟨hB56, kp57, kp58, h59, h60, h61, h62, h63, h64, h65, h66, h67, h68, h69, h70⟩
    have hB71 : BF fT M M55 := BF.go hB51 hB56
    have kp72 : mI M55 55 = mI M 55 := kp_go kp52 kp57
    have fr73 : ∀ j : Nat, (j : Int) < mI M 54 14 + 265 + 2 * S → mI M55 57 j = mI M 57 j := fun j hj => (h68 j (by omega)).trans (fr53 j hj)
    have hl2 := h59.len
    refine vc_vret dX12_shut_58 rfl (Nat.le_of_ble_eq_true rfl) (Nat.le_of_ble_eq_true rfl) ?_
    exact ⟨rfl, hB71, kp72, h59, by omega, by omega, by omega, by omega, by omega, by omega, fr73⟩
  · refine vc_aload_n dX12_shut_31 rfl ?_
    refine vc_iload_n dX12_shut_32 rfl ?_
    refine vc_bipush dX12_shut_33 rfl ?_
    refine vc_icmp_ne dX12_shut_35 (fun h74 => ?_) (fun h74 => ?_)
    · refine vc_bipush dX12_shut_43 rfl ?_
      refine vc_iconst dX12_shut_45 rfl ?_
      have k75 : mI (sI (sI M1 54 18 ((mI M1 54 18) - 1)) 54 19 ((mI M1 54 19) - 1)) 54 9 = mI M1 54 9 := rfl
      have k76 : mI (sI (sI M1 54 18 ((mI M1 54 18) - 1)) 54 19 ((mI M1 54 19) - 1)) 54 10 = mI M1 54 10 := rfl
      have k77 : mI (sI (sI M1 54 18 ((mI M1 54 18) - 1)) 54 19 ((mI M1 54 19) - 1)) 54 11 = mI M1 54 11 := rfl
      have k78 : mI (sI (sI M1 54 18 ((mI M1 54 18) - 1)) 54 19 ((mI M1 54 19) - 1)) 54 14 = mI M1 54 14 := rfl
      have k79 : mI (sI (sI M1 54 18 ((mI M1 54 18) - 1)) 54 19 ((mI M1 54 19) - 1)) 54 15 = mI M1 54 15 := rfl
      have k80 : mI (sI (sI M1 54 18 ((mI M1 54 18) - 1)) 54 19 ((mI M1 54 19) - 1)) 54 16 = mI M1 54 16 := rfl
      have k81 : mI (sI (sI M1 54 18 ((mI M1 54 18) - 1)) 54 19 ((mI M1 54 19) - 1)) 54 18 = (mI M1 54 18) - 1 := rfl
      have k82 : mI (sI (sI M1 54 18 ((mI M1 54 18) - 1)) 54 19 ((mI M1 54 19) - 1)) 54 19 = (mI M1 54 19) - 1 := rfl
      have k83 : mI (sI (sI M1 54 18 ((mI M1 54 18) - 1)) 54 19 ((mI M1 54 19) - 1)) 54 20 = mI M1 54 20 := rfl
      have k84 : mI (sI (sI M1 54 18 ((mI M1 54 18) - 1)) 54 19 ((mI M1 54 19) - 1)) 54 21 = mI M1 54 21 := rfl
      have hz5 := congrFun kp23 5
      refine vc_cVU dX12_shut_46 (sfX12_emit (M := (sI (sI M1 54 18 ((mI M1 54 18) - 1)) 54 19 ((mI M1 54 19) - 1))) hB24.1  8 0 (by omega) (by omega)) rfl okX12_emit viX12_emit lkX12_186 (s_54 hB24.1.1) cl_12 rfl (Nat.le_of_ble_eq_true rfl) ⟨rfl, rfl⟩ (Nat.le_of_ble_eq_true rfl) (Nat.le_of_ble_eq_true rfl) (Nat.le_of_ble_eq_true rfl) ?_
      rintro M85 ⟨hB86, kp87, kp88, h89, h90, h91, h92, h93, h94, h95, h96, h97, h98, h99⟩
      have hB100 : BF fT M M85 := BF.go hB24 hB86
      have kp101 : mI M85 55 = mI M 55 := kp_go kp23 kp87
      have h57 := h90
      have h60 := kp88
      have fr102 := fr_emit (A := M) (B := M1) (t := mI M 54 14 + 265 + 2 * S) (by omega) (by omega) h57 fr19
      refine vc_aload_n dX12_shut_49 rfl ?_
      refine vc_cVU dX12_shut_50 (sfX12_nextToken (M := M85) hB100.1   ) rfl okX12_nextToken viX12_nextToken lkX12_193 (s_54 hB100.1.1) cl_12 rfl (Nat.le_of_ble_eq_true rfl) ⟨rfl, rfl⟩ (Nat.le_of_ble_eq_true rfl) (Nat.le_of_ble_eq_true rfl) (Nat.le_of_ble_eq_true rfl) ?_
      rintro M103 ⟨hB104, kp105, kp106, kp107, h108, h109, h110, h111, h112, h113, h114, h115, h116, h117⟩
      have hB118 : BF fT M M103 := BF.go hB100 hB104.t
      have kp119 : mI M103 55 = mI M 55 := kp_go kp101 kp105
      have fr120 : ∀ j : Nat, (j : Int) < mI M 54 14 + 265 + 2 * S → mI M103 57 j = mI M 57 j := fun j hj => (congrFun kp106 j).trans (fr102 j hj)
      have hbx := b54_10 (M := M103) hB118.1
      have hPI121 : PI M103 S := PI.end (M := M1) (o := o) (o2 := 8) h5 (by omega) (by omega) htk (by omega) (by omega) (kp106.trans h57) (kp107.trans h60) (by omega) (by omega) (by omega) (by omega) (by omega) (by omega) (by omega)
      refine vc_aload_n dX12_shut_53 rfl ?_
      refine vc_iconst dX12_shut_54 rfl ?_
      have hz6 := congrFun kp119 5
      refine vc_cVU dX12_shut_55 (sfX12_settlePile (M := M103) hB118.1  S 3 (by omega) (by omega) (by assumption) (by omega) (by omega)) rfl okX12_settlePile viX12_settlePile lkX12_211 (s_54 hB118.1.1) cl_12 rfl (Nat.le_of_ble_eq_true rfl) ⟨rfl, rfl⟩ (Nat.le_of_ble_eq_true rfl) (Nat.le_of_ble_eq_true rfl) (Nat.le_of_ble_eq_true rfl) ?_
      rintro M122 ⟨hB123, kp124, kp125, h126, h127, h128, h129, h130, h131, h132, h133, h134, h135, h136, h137⟩
      have hB138 : BF fT M M122 := BF.go hB118 hB123
      have kp139 : mI M122 55 = mI M 55 := kp_go kp119 kp124
      have fr140 : ∀ j : Nat, (j : Int) < mI M 54 14 + 265 + 2 * S → mI M122 57 j = mI M 57 j := fun j hj => (h135 j (by omega)).trans (fr120 j hj)
      have hl2 := h126.len
      refine vc_vret dX12_shut_58 rfl (Nat.le_of_ble_eq_true rfl) (Nat.le_of_ble_eq_true rfl) ?_
      exact ⟨rfl, hB138, kp139, h126, by omega, by omega, by omega, by omega, by omega, by omega, fr140⟩
    · refine vc_bipush dX12_shut_38 rfl ?_
      refine vc_goto dX12_shut_40 ?_
      refine vc_iconst dX12_shut_45 rfl ?_
      have k141 : mI (sI (sI M1 54 18 ((mI M1 54 18) - 1)) 54 19 ((mI M1 54 19) - 1)) 54 9 = mI M1 54 9 := rfl
      have k142 : mI (sI (sI M1 54 18 ((mI M1 54 18) - 1)) 54 19 ((mI M1 54 19) - 1)) 54 10 = mI M1 54 10 := rfl
      have k143 : mI (sI (sI M1 54 18 ((mI M1 54 18) - 1)) 54 19 ((mI M1 54 19) - 1)) 54 11 = mI M1 54 11 := rfl
      have k144 : mI (sI (sI M1 54 18 ((mI M1 54 18) - 1)) 54 19 ((mI M1 54 19) - 1)) 54 14 = mI M1 54 14 := rfl
      have k145 : mI (sI (sI M1 54 18 ((mI M1 54 18) - 1)) 54 19 ((mI M1 54 19) - 1)) 54 15 = mI M1 54 15 := rfl
      have k146 : mI (sI (sI M1 54 18 ((mI M1 54 18) - 1)) 54 19 ((mI M1 54 19) - 1)) 54 16 = mI M1 54 16 := rfl
      have k147 : mI (sI (sI M1 54 18 ((mI M1 54 18) - 1)) 54 19 ((mI M1 54 19) - 1)) 54 18 = (mI M1 54 18) - 1 := rfl
      have k148 : mI (sI (sI M1 54 18 ((mI M1 54 18) - 1)) 54 19 ((mI M1 54 19) - 1)) 54 19 = (mI M1 54 19) - 1 := rfl
      have k149 : mI (sI (sI M1 54 18 ((mI M1 54 18) - 1)) 54 19 ((mI M1 54 19) - 1)) 54 20 = mI M1 54 20 := rfl
      have k150 : mI (sI (sI M1 54 18 ((mI M1 54 18) - 1)) 54 19 ((mI M1 54 19) - 1)) 54 21 = mI M1 54 21 := rfl
      have hz5 := congrFun kp23 5
      refine vc_cVU dX12_shut_46 (sfX12_emit (M := (sI (sI M1 54 18 ((mI M1 54 18) - 1)) 54 19 ((mI M1 54 19) - 1))) hB24.1  7 0 (by omega) (by omega)) rfl okX12_emit viX12_emit lkX12_186 (s_54 hB24.1.1) cl_12 rfl (Nat.le_of_ble_eq_true rfl) ⟨rfl, rfl⟩ (Nat.le_of_ble_eq_true rfl) (Nat.le_of_ble_eq_true rfl) (Nat.le_of_ble_eq_true rfl) ?_
      rintro M151 ⟨hB152, kp153, kp154, h155, h156, h157, h158, h159, h160, h161, h162, h163, h164, h165⟩
      have hB166 : BF fT M M151 := BF.go hB24 hB152
      have kp167 : mI M151 55 = mI M 55 := kp_go kp23 kp153
      have h57 := h156
      have h60 := kp154
      have fr168 := fr_emit (A := M) (B := M1) (t := mI M 54 14 + 265 + 2 * S) (by omega) (by omega) h57 fr19
      refine vc_aload_n dX12_shut_49 rfl ?_
      refine vc_cVU dX12_shut_50 (sfX12_nextToken (M := M151) hB166.1   ) rfl okX12_nextToken viX12_nextToken lkX12_193 (s_54 hB166.1.1) cl_12 rfl (Nat.le_of_ble_eq_true rfl) ⟨rfl, rfl⟩ (Nat.le_of_ble_eq_true rfl) (Nat.le_of_ble_eq_true rfl) (Nat.le_of_ble_eq_true rfl) ?_
      rintro M169 ⟨hB170, kp171, kp172, kp173, h174, h175, h176, h177, h178, h179, h180, h181, h182, h183⟩
      have hB184 : BF fT M M169 := BF.go hB166 hB170.t
      have kp185 : mI M169 55 = mI M 55 := kp_go kp167 kp171
      have fr186 : ∀ j : Nat, (j : Int) < mI M 54 14 + 265 + 2 * S → mI M169 57 j = mI M 57 j := fun j hj => (congrFun kp172 j).trans (fr168 j hj)
      have hbx := b54_10 (M := M169) hB184.1
      have hPI187 : PI M169 S := PI.end (M := M1) (o := o) (o2 := 7) h5 (by omega) (by omega) htk (by omega) (by omega) (kp172.trans h57) (kp173.trans h60) (by omega) (by omega) (by omega) (by omega) (by omega) (by omega) (by omega)
      refine vc_aload_n dX12_shut_53 rfl ?_
      refine vc_iconst dX12_shut_54 rfl ?_
      have hz6 := congrFun kp185 5
      refine vc_cVU dX12_shut_55 (sfX12_settlePile (M := M169) hB184.1  S 3 (by omega) (by omega) (by assumption) (by omega) (by omega)) rfl okX12_settlePile viX12_settlePile lkX12_211 (s_54 hB184.1.1) cl_12 rfl (Nat.le_of_ble_eq_true rfl) ⟨rfl, rfl⟩ (Nat.le_of_ble_eq_true rfl) (Nat.le_of_ble_eq_true rfl) (Nat.le_of_ble_eq_true rfl) ?_
      rintro M188 ⟨hB189, kp190, kp191, h192, h193, h194, h195, h196, h197, h198, h199, h200, h201, h202, h203⟩
      have hB204 : BF fT M M188 := BF.go hB184 hB189
      have kp205 : mI M188 55 = mI M 55 := kp_go kp185 kp190
      have fr206 : ∀ j : Nat, (j : Int) < mI M 54 14 + 265 + 2 * S → mI M188 57 j = mI M 57 j := fun j hj => (h201 j (by omega)).trans (fr186 j hj)
      have hl2 := h192.len
      refine vc_vret dX12_shut_58 rfl (Nat.le_of_ble_eq_true rfl) (Nat.le_of_ble_eq_true rfl) ?_
      exact ⟨rfl, hB204, kp205, h192, by omega, by omega, by omega, by omega, by omega, by omega, fr206⟩

set_option maxRecDepth 4000 in
theorem sfX12_behindOne {l : Launch} {M : Mem} (hB : Box M) (S : Int)  (p0 : PI M S) (p1 : mI M 54 14 = 873 * mI M 55 5) (p2 : mI M 54 10 ≤ mI M 54 9) (p3 : mI M 54 11 = 0 ∨ mI M 54 10 < mI M 54 9) (p4 : mI M 54 20 = 1) : Call l mdX12_behindOne [aR 54] M (fun q N => ∃ r : Int, q = some (aI r) ∧ BF fT M N ∧ mI N 55 = mI M 55 ∧ 0 ≤ r ∧ r ≤ 1 ∧ PI N S ∧ (r ≠ 0 ∨ mI M 54 10 < mI N 54 10) ∧ mI N 54 10 ≤ mI N 54 9 ∧ (mI N 54 11 = 0 ∨ mI N 54 10 < mI N 54 9) ∧ mI N 54 14 = mI M 54 14 ∧ mI N 54 16 = mI M 54 16 ∧ mI N 54 21 = mI M 54 21 ∧ (∀ j : Nat, (j : Int) < mI M 54 14 + 265 + 2 * S → mI N 57 j = mI M 57 j) ∧ mI M 54 10 ≤ mI N 54 10 ∧ (r = 0 ∨ mI N 54 20 = 1)) := by
  have hB0 : BF fT M M := BF.start hB
  refine Call.of [some (aR 54), none, none, none, none] rfl (Nat.le_of_ble_eq_true rfl) rfl ?_
  have hle := p0.len
  have hk9 := b54_9 hB
  have hk5 := b55_5 hB
  refine vc_aload_n dX12_behindOne_0 rfl ?_
  refine vc_getI dX12_behindOne_1 flX12_129 (s_54 hB0.1.1) rfl ?_
  refine vc_bipush dX12_behindOne_4 rfl ?_
  refine vc_icmp_ne dX12_behindOne_6 (fun h1 => ?_) (fun h1 => ?_)
  · refine vc_aload_n dX12_behindOne_13 rfl ?_
    refine vc_getI dX12_behindOne_14 flX12_129 (s_54 hB0.1.1) rfl ?_
    refine vc_bipush dX12_behindOne_17 rfl ?_
    refine vc_icmp_ne dX12_behindOne_19 (fun h2 => ?_) (fun h2 => ?_)
    · refine vc_aload_n dX12_behindOne_26 rfl ?_
      refine vc_getI dX12_behindOne_27 flX12_129 (s_54 hB0.1.1) rfl ?_
      refine vc_bipush dX12_behindOne_30 rfl ?_
      refine vc_icmp_ne dX12_behindOne_32 (fun h3 => ?_) (fun h3 => ?_)
      · refine vc_aload_n dX12_behindOne_39 rfl ?_
        refine vc_getI dX12_behindOne_40 flX12_129 (s_54 hB0.1.1) rfl ?_
        refine vc_bipush dX12_behindOne_43 rfl ?_
        refine vc_icmp_ne dX12_behindOne_45 (fun h4 => ?_) (fun h4 => ?_)
        · refine vc_iconst dX12_behindOne_53 rfl ?_
          refine vc_istore_n dX12_behindOne_54 (by decide) rfl (show _ = [some (aR 54), some (aI (-1)), none, none, none] from rfl) ?_
          refine vc_iload_n dX12_behindOne_55 rfl ?_
          refine vc_if_lt dX12_behindOne_56 (fun h5 => ?_) (fun h5 => by exfalso; omega)
          refine vc_aload_n dX12_behindOne_98 rfl ?_
          refine vc_cVI dX12_behindOne_99 (sfX12_openAt (M := M) hB0.1   (by omega)) rfl okX12_openAt viX12_openAt lkX12_217 (s_54 hB0.1.1) cl_12 rfl (Nat.le_of_ble_eq_true rfl) ⟨rfl, rfl⟩ (Nat.le_of_ble_eq_true rfl) (Nat.le_of_ble_eq_true rfl) (Nat.le_of_ble_eq_true rfl) ?_
          rintro x6 _ ⟨rfl, h7, h8, h9, h10⟩
          have hq1 := h9
          have hq2 := h10
          refine vc_istore_n dX12_behindOne_102 (by decide) rfl (show _ = [some (aR 54), some (aI (-1)), some (aI x6), none, none] from rfl) ?_
          refine vc_iload_n dX12_behindOne_103 rfl ?_
          refine vc_if_ge dX12_behindOne_104 (fun h11 => ?_) (fun h11 => ?_)
          · refine vc_aload_n dX12_behindOne_111 rfl ?_
            refine vc_getR dX12_behindOne_112 flX12_32 (s_54 hB0.1.1) rfl (r_54_17 hB0.1.1) ?_
            refine vc_iload_n dX12_behindOne_115 rfl ?_
            refine vc_iaload dX12_behindOne_116 (s_60 hB0.1.1) (by omega) (by omega) ?_
            refine vc_nameI (fun x12 ex12 => ?_)
            refine vc_istore_n dX12_behindOne_117 (by decide) rfl (show _ = [some (aR 54), some (aI (-1)), some (aI x6), some (aI x12), none] from rfl) ?_
            refine vc_aload_n dX12_behindOne_118 rfl ?_
            refine vc_getI dX12_behindOne_119 flX12_129 (s_54 hB0.1.1) rfl ?_
            refine vc_bipush dX12_behindOne_122 rfl ?_
            refine vc_icmp_ne dX12_behindOne_124 (fun h13 => ?_) (fun h13 => ?_)
            · refine vc_iload_n dX12_behindOne_165 rfl ?_
              refine vc_bipush dX12_behindOne_166 rfl ?_
              refine vc_icmp_ne dX12_behindOne_168 (fun h14 => ?_) (fun h14 => ?_)
              · refine vc_iload_n dX12_behindOne_188 rfl ?_
                refine vc_bipush dX12_behindOne_189 rfl ?_
                refine vc_icmp_eq dX12_behindOne_191 (fun h15 => ?_) (fun h15 => ?_)
                · refine vc_aload_n dX12_behindOne_200 rfl ?_
                  refine vc_bipush dX12_behindOne_201 rfl ?_
                  refine vc_bipush dX12_behindOne_203 rfl ?_
                  refine vc_bipush dX12_behindOne_205 rfl ?_
                  refine vc_cSL dX12_behindOne_207 (sfX12_w3 (M := M) hB0.1  101 110 100 ) rfl okX12_w3 stX12_w3 lkX12_155 rfl (Nat.le_of_ble_eq_true rfl) ⟨rfl, rfl⟩ (Nat.le_of_ble_eq_true rfl) (Nat.le_of_ble_eq_true rfl) (Nat.le_of_ble_eq_true rfl) ?_
                  rintro x16 _ rfl
                  refine vc_cVI dX12_behindOne_210 (sfX12_isWord (M := M) hB0.1  x16 ) rfl okX12_isWord viX12_isWord lkX12_196 (s_54 hB0.1.1) cl_12 rfl (Nat.le_of_ble_eq_true rfl) ⟨rfl, rfl⟩ (Nat.le_of_ble_eq_true rfl) (Nat.le_of_ble_eq_true rfl) (Nat.le_of_ble_eq_true rfl) ?_
                  rintro x17 _ ⟨rfl, h18, h19, h20⟩
                  refine vc_if_eq dX12_behindOne_213 (fun h21 => ?_) (fun h21 => ?_)
                  · refine vc_iconst dX12_behindOne_220 rfl ?_
                    refine vc_istore dX12_behindOne_221 (by decide) rfl (show _ = [some (aR 54), some (aI (-1)), some (aI x6), some (aI x12), some (aI 0)] from rfl) ?_
                    refine vc_iload dX12_behindOne_223 rfl ?_
                    refine vc_if_ne dX12_behindOne_225 (fun h22 => by exfalso; omega) (fun h22 => ?_)
                    refine vc_iconst dX12_behindOne_228 rfl ?_
                    refine vc_iret dX12_behindOne_229 rfl (Nat.le_of_ble_eq_true rfl) (Nat.le_of_ble_eq_true rfl) ?_
                    exact ⟨_, rfl, hB0, rfl, by omega, by omega, p0, by omega, by omega, by omega, by omega, by omega, by omega, (fun _ _ => rfl), by omega, by omega⟩
                  · refine vc_iconst dX12_behindOne_216 rfl ?_
                    refine vc_goto dX12_behindOne_217 ?_
                    refine vc_istore dX12_behindOne_221 (by decide) rfl (show _ = [some (aR 54), some (aI (-1)), some (aI x6), some (aI x12), some (aI 1)] from rfl) ?_
                    refine vc_iload dX12_behindOne_223 rfl ?_
                    refine vc_if_ne dX12_behindOne_225 (fun h23 => ?_) (fun h23 => by exfalso; omega)
                    refine vc_aload_n dX12_behindOne_230 rfl ?_
                    refine vc_iload_n dX12_behindOne_231 rfl ?_
                    have hsh : ∃ k : Nat, (k : Int) < mI M 54 18 ∧ mI M 60 k = x12 ∧ ∀ q : Nat, k < q → (q : Int) < mI M 54 18 → mI M 60 q < 40 := ⟨x6.toNat, by omega, by omega, fun q a b => hq2 q (by omega) b⟩
                    refine vc_cVU dX12_behindOne_232 (sfX12_shut (M := M) hB0.1  S x12 (by exact p0) (by omega) (by omega) (by omega) (by omega) (by omega) (by exact hsh) (by omega)) rfl okX12_shut viX12_shut lkX12_220 (s_54 hB0.1.1) cl_12 rfl (Nat.le_of_ble_eq_true rfl) ⟨rfl, rfl⟩ (Nat.le_of_ble_eq_true rfl) (Nat.le_of_ble_eq_true rfl) (Nat.le_of_ble_eq_true rfl) ?_
                    rintro M24 ⟨hB25, kp26, h27, h28, h29, h30, h31, h32, h33, h34⟩
                    have hB35 : BF fT M M24 := BF.go hB0 hB25
                    have kp36 : mI M24 55 = mI M 55 := kp_go rfl kp26
                    refine vc_iconst dX12_behindOne_235 rfl ?_
                    refine vc_iret dX12_behindOne_236 rfl (Nat.le_of_ble_eq_true rfl) (Nat.le_of_ble_eq_true rfl) ?_
                    exact ⟨_, rfl, hB35, kp36, by omega, by omega, h27, by omega, by omega, by omega, by omega, by omega, by omega, h34, by omega, by omega⟩
                · refine vc_iload_n dX12_behindOne_194 rfl ?_
                  refine vc_bipush dX12_behindOne_195 rfl ?_
                  refine vc_icmp_ne dX12_behindOne_197 (fun h37 => ?_) (fun h37 => ?_)
                  · refine vc_iconst dX12_behindOne_220 rfl ?_
                    refine vc_istore dX12_behindOne_221 (by decide) rfl (show _ = [some (aR 54), some (aI (-1)), some (aI x6), some (aI x12), some (aI 0)] from rfl) ?_
                    refine vc_iload dX12_behindOne_223 rfl ?_
                    refine vc_if_ne dX12_behindOne_225 (fun h38 => by exfalso; omega) (fun h38 => ?_)
                    refine vc_iconst dX12_behindOne_228 rfl ?_
                    refine vc_iret dX12_behindOne_229 rfl (Nat.le_of_ble_eq_true rfl) (Nat.le_of_ble_eq_true rfl) ?_
                    exact ⟨_, rfl, hB0, rfl, by omega, by omega, p0, by omega, by omega, by omega, by omega, by omega, by omega, (fun _ _ => rfl), by omega, by omega⟩
                  · refine vc_aload_n dX12_behindOne_200 rfl ?_
                    refine vc_bipush dX12_behindOne_201 rfl ?_
                    refine vc_bipush dX12_behindOne_203 rfl ?_
                    refine vc_bipush dX12_behindOne_205 rfl ?_
                    refine vc_cSL dX12_behindOne_207 (sfX12_w3 (M := M) hB0.1  101 110 100 ) rfl okX12_w3 stX12_w3 lkX12_155 rfl (Nat.le_of_ble_eq_true rfl) ⟨rfl, rfl⟩ (Nat.le_of_ble_eq_true rfl) (Nat.le_of_ble_eq_true rfl) (Nat.le_of_ble_eq_true rfl) ?_
                    rintro x39 _ rfl
                    refine vc_cVI dX12_behindOne_210 (sfX12_isWord (M := M) hB0.1  x39 ) rfl okX12_isWord viX12_isWord lkX12_196 (s_54 hB0.1.1) cl_12 rfl (Nat.le_of_ble_eq_true rfl) ⟨rfl, rfl⟩ (Nat.le_of_ble_eq_true rfl) (Nat.le_of_ble_eq_true rfl) (Nat.le_of_ble_eq_true rfl) ?_
                    rintro x40 _ ⟨rfl, h41, h42, h43⟩
                    refine vc_if_eq dX12_behindOne_213 (fun h44 => ?_) (fun h44 => ?_)
                    · refine vc_iconst dX12_behindOne_220 rfl ?_
                      refine vc_istore dX12_behindOne_221 (by decide) rfl (show _ = [some (aR 54), some (aI (-1)), some (aI x6), some (aI x12), some (aI 0)] from rfl) ?_
                      refine vc_iload dX12_behindOne_223 rfl ?_
                      refine vc_if_ne dX12_behindOne_225 (fun h45 => by exfalso; omega) (fun h45 => ?_)
                      refine vc_iconst dX12_behindOne_228 rfl ?_
                      refine vc_iret dX12_behindOne_229 rfl (Nat.le_of_ble_eq_true rfl) (Nat.le_of_ble_eq_true rfl) ?_
                      exact ⟨_, rfl, hB0, rfl, by omega, by omega, p0, by omega, by omega, by omega, by omega, by omega, by omega, (fun _ _ => rfl), by omega, by omega⟩
                    · refine vc_iconst dX12_behindOne_216 rfl ?_
                      refine vc_goto dX12_behindOne_217 ?_
                      refine vc_istore dX12_behindOne_221 (by decide) rfl (show _ = [some (aR 54), some (aI (-1)), some (aI x6), some (aI x12), some (aI 1)] from rfl) ?_
                      refine vc_iload dX12_behindOne_223 rfl ?_
                      refine vc_if_ne dX12_behindOne_225 (fun h46 => ?_) (fun h46 => by exfalso; omega)
                      refine vc_aload_n dX12_behindOne_230 rfl ?_
                      refine vc_iload_n dX12_behindOne_231 rfl ?_
                      have hsh : ∃ k : Nat, (k : Int) < mI M 54 18 ∧ mI M 60 k = x12 ∧ ∀ q : Nat, k < q → (q : Int) < mI M 54 18 → mI M 60 q < 40 := ⟨x6.toNat, by omega, by omega, fun q a b => hq2 q (by omega) b⟩
                      refine vc_cVU dX12_behindOne_232 (sfX12_shut (M := M) hB0.1  S x12 (by exact p0) (by omega) (by omega) (by omega) (by omega) (by omega) (by exact hsh) (by omega)) rfl okX12_shut viX12_shut lkX12_220 (s_54 hB0.1.1) cl_12 rfl (Nat.le_of_ble_eq_true rfl) ⟨rfl, rfl⟩ (Nat.le_of_ble_eq_true rfl) (Nat.le_of_ble_eq_true rfl) (Nat.le_of_ble_eq_true rfl) ?_
                      rintro M47 ⟨hB48, kp49, h50, h51, h52, h53, h54, h55, h56, h57⟩
                      have hB58 : BF fT M M47 := BF.go hB0 hB48
                      have kp59 : mI M47 55 = mI M 55 := kp_go rfl kp49
                      refine vc_iconst dX12_behindOne_235 rfl ?_
                      refine vc_iret dX12_behindOne_236 rfl (Nat.le_of_ble_eq_true rfl) (Nat.le_of_ble_eq_true rfl) ?_
                      exact ⟨_, rfl, hB58, kp59, by omega, by omega, h50, by omega, by omega, by omega, by omega, by omega, by omega, h57, by omega, by omega⟩
              · refine vc_aload_n dX12_behindOne_171 rfl ?_
                refine vc_getI dX12_behindOne_172 flX12_129 (s_54 hB0.1.1) rfl ?_
                refine vc_bipush dX12_behindOne_175 rfl ?_
                refine vc_icmp_ne dX12_behindOne_177 (fun h60 => ?_) (fun h60 => ?_)
                · refine vc_iconst dX12_behindOne_184 rfl ?_
                  refine vc_goto dX12_behindOne_185 ?_
                  refine vc_istore dX12_behindOne_221 (by decide) rfl (show _ = [some (aR 54), some (aI (-1)), some (aI x6), some (aI x12), some (aI 0)] from rfl) ?_
                  refine vc_iload dX12_behindOne_223 rfl ?_
                  refine vc_if_ne dX12_behindOne_225 (fun h61 => by exfalso; omega) (fun h61 => ?_)
                  refine vc_iconst dX12_behindOne_228 rfl ?_
                  refine vc_iret dX12_behindOne_229 rfl (Nat.le_of_ble_eq_true rfl) (Nat.le_of_ble_eq_true rfl) ?_
                  exact ⟨_, rfl, hB0, rfl, by omega, by omega, p0, by omega, by omega, by omega, by omega, by omega, by omega, (fun _ _ => rfl), by omega, by omega⟩
                · refine vc_iconst dX12_behindOne_180 rfl ?_
                  refine vc_goto dX12_behindOne_181 ?_
                  refine vc_istore dX12_behindOne_221 (by decide) rfl (show _ = [some (aR 54), some (aI (-1)), some (aI x6), some (aI x12), some (aI 1)] from rfl) ?_
                  refine vc_iload dX12_behindOne_223 rfl ?_
                  refine vc_if_ne dX12_behindOne_225 (fun h62 => ?_) (fun h62 => by exfalso; omega)
                  refine vc_aload_n dX12_behindOne_230 rfl ?_
                  refine vc_iload_n dX12_behindOne_231 rfl ?_
                  have hsh : ∃ k : Nat, (k : Int) < mI M 54 18 ∧ mI M 60 k = x12 ∧ ∀ q : Nat, k < q → (q : Int) < mI M 54 18 → mI M 60 q < 40 := ⟨x6.toNat, by omega, by omega, fun q a b => hq2 q (by omega) b⟩
                  refine vc_cVU dX12_behindOne_232 (sfX12_shut (M := M) hB0.1  S x12 (by exact p0) (by omega) (by omega) (by omega) (by omega) (by omega) (by exact hsh) (by omega)) rfl okX12_shut viX12_shut lkX12_220 (s_54 hB0.1.1) cl_12 rfl (Nat.le_of_ble_eq_true rfl) ⟨rfl, rfl⟩ (Nat.le_of_ble_eq_true rfl) (Nat.le_of_ble_eq_true rfl) (Nat.le_of_ble_eq_true rfl) ?_
                  rintro M63 ⟨hB64, kp65, h66, h67, h68, h69, h70, h71, h72, h73⟩
                  have hB74 : BF fT M M63 := BF.go hB0 hB64
                  have kp75 : mI M63 55 = mI M 55 := kp_go rfl kp65
                  refine vc_iconst dX12_behindOne_235 rfl ?_
                  refine vc_iret dX12_behindOne_236 rfl (Nat.le_of_ble_eq_true rfl) (Nat.le_of_ble_eq_true rfl) ?_
                  exact ⟨_, rfl, hB74, kp75, by omega, by omega, h66, by omega, by omega, by omega, by omega, by omega, by omega, h73, by omega, by omega⟩
            · refine vc_iload_n dX12_behindOne_127 rfl ?_
              refine vc_bipush dX12_behindOne_128 rfl ?_
              refine vc_icmp_eq dX12_behindOne_130 (fun h76 => ?_) (fun h76 => ?_)
              · refine vc_aload_n dX12_behindOne_139 rfl ?_
                refine vc_iconst dX12_behindOne_140 rfl ?_
                refine vc_cVU dX12_behindOne_141 (sfX12_settlePile (M := M) hB0.1  S 1 (by omega) (by omega) (by exact p0) (by omega) (by omega)) rfl okX12_settlePile viX12_settlePile lkX12_211 (s_54 hB0.1.1) cl_12 rfl (Nat.le_of_ble_eq_true rfl) ⟨rfl, rfl⟩ (Nat.le_of_ble_eq_true rfl) (Nat.le_of_ble_eq_true rfl) (Nat.le_of_ble_eq_true rfl) ?_
                rintro M77 ⟨hB78, kp79, kp80, h81, h82, h83, h84, h85, h86, h87, h88, h89, h90, h91, h92⟩
                have hB93 : BF fT M M77 := BF.go hB0 hB78
                have kp94 : mI M77 55 = mI M 55 := kp_go rfl kp79
                have fr95 : ∀ j : Nat, (j : Int) < mI M 54 14 + 265 + 2 * S → mI M77 57 j = mI M 57 j := fun j hj => (h90 j (by omega)).trans ((fun _ _ => rfl) j hj)
                have hl2 := h81.len
                have htop := top_at (M := M) (N := M77) (k := x6.toNat) kp80 (by omega) (by omega) h91 h92 (by omega) (by omega) (fun q a b => hq2 q (by omega) b)
                have htk : mI M77 60 (mI M77 54 18 - 1).toNat = x12 := by rw [htop, kp80, show ((x6.toNat : Int) + 1 - 1).toNat = x6.toNat by omega]; omega
                have hix : (x6).toNat = (mI M77 54 18 - 1).toNat := by omega
                have htk2 : mI M77 60 (x6).toNat = x12 := by rw [hix]; exact htk
                refine vc_aload_n dX12_behindOne_144 rfl ?_
                refine vc_getR dX12_behindOne_145 flX12_32 (s_54 hB93.1.1) rfl (r_54_17 hB93.1.1) ?_
                refine vc_iload_n dX12_behindOne_148 rfl ?_
                refine vc_dup2 dX12_behindOne_149 rfl rfl ?_
                refine vc_iaload dX12_behindOne_150 (s_60 hB93.1.1) (by omega) (by omega) ?_
                refine vc_iconst dX12_behindOne_151 rfl ?_
                refine vc_iaddE dX12_behindOne_152 (by omega) (by omega) ?_
                refine vc_iastore dX12_behindOne_153 (s_60 hB93.1.1) (by omega) (by omega) ?_
                have kp96 : mI (sI M77 60 x6.toNat ((mI M77 60 x6.toNat) + 1)) 55 = mI M 55 := (kp_sI kp94 rfl)
                have hB97 : BF fT M (sI M77 60 x6.toNat ((mI M77 60 x6.toNat) + 1)) := BF.w60 hB93 (fun _ => rfl) _
                refine vc_aload_n dX12_behindOne_154 rfl ?_
                refine vc_iconst dX12_behindOne_155 rfl ?_
                refine vc_putZ dX12_behindOne_156 (plX12_207 _ rfl) (s_54 hB97.1.1) rfl (by first | decide | omega) ?_
                have kp98 : mI (sI (sI M77 60 x6.toNat ((mI M77 60 x6.toNat) + 1)) 54 20 0) 55 = mI M 55 := (kp_sI kp96 rfl)
                have hB99 : BF fT M (sI (sI M77 60 x6.toNat ((mI M77 60 x6.toNat) + 1)) 54 20 0) := BF.w54_20 hB97 rfl
                refine vc_aload_n dX12_behindOne_159 rfl ?_
                have k100 : mI (sI (sI M77 60 x6.toNat ((mI M77 60 x6.toNat) + 1)) 54 20 0) 54 9 = mI M77 54 9 := rfl
                have k101 : mI (sI (sI M77 60 x6.toNat ((mI M77 60 x6.toNat) + 1)) 54 20 0) 54 10 = mI M77 54 10 := rfl
                have k102 : mI (sI (sI M77 60 x6.toNat ((mI M77 60 x6.toNat) + 1)) 54 20 0) 54 11 = mI M77 54 11 := rfl
                have k103 : mI (sI (sI M77 60 x6.toNat ((mI M77 60 x6.toNat) + 1)) 54 20 0) 54 14 = mI M77 54 14 := rfl
                have k104 : mI (sI (sI M77 60 x6.toNat ((mI M77 60 x6.toNat) + 1)) 54 20 0) 54 15 = mI M77 54 15 := rfl
                have k105 : mI (sI (sI M77 60 x6.toNat ((mI M77 60 x6.toNat) + 1)) 54 20 0) 54 16 = mI M77 54 16 := rfl
                have k106 : mI (sI (sI M77 60 x6.toNat ((mI M77 60 x6.toNat) + 1)) 54 20 0) 54 18 = mI M77 54 18 := rfl
                have k107 : mI (sI (sI M77 60 x6.toNat ((mI M77 60 x6.toNat) + 1)) 54 20 0) 54 19 = mI M77 54 19 := rfl
                have k108 : mI (sI (sI M77 60 x6.toNat ((mI M77 60 x6.toNat) + 1)) 54 20 0) 54 20 = 0 := rfl
                have k109 : mI (sI (sI M77 60 x6.toNat ((mI M77 60 x6.toNat) + 1)) 54 20 0) 54 21 = mI M77 54 21 := rfl
                refine vc_cVU dX12_behindOne_160 (sfX12_nextToken (M := (sI (sI M77 60 x6.toNat ((mI M77 60 x6.toNat) + 1)) 54 20 0)) hB99.1   ) rfl okX12_nextToken viX12_nextToken lkX12_193 (s_54 hB99.1.1) cl_12 rfl (Nat.le_of_ble_eq_true rfl) ⟨rfl, rfl⟩ (Nat.le_of_ble_eq_true rfl) (Nat.le_of_ble_eq_true rfl) (Nat.le_of_ble_eq_true rfl) ?_
                rintro M110 ⟨hB111, kp112, kp113, kp114, h115, h116, h117, h118, h119, h120, h121, h122, h123, h124⟩
                have hB125 : BF fT M M110 := BF.go hB99 hB111.t
                have kp126 : mI M110 55 = mI M 55 := kp_go kp98 kp112
                have fr127 : ∀ j : Nat, (j : Int) < mI M 54 14 + 265 + 2 * S → mI M110 57 j = mI M 57 j := fun j hj => (congrFun kp113 j).trans (fr95 j hj)
                have hbx := b54_10 (M := M110) hB125.1
                have hPI128 : PI M110 S := PI.two (M := M77) (o := x12) h81 (by omega) (by omega) htk (by omega) kp113 (by rw [← hix]; first | exact kp114 | (rw [kp114]; funext b; rw [← htk, ← hix]; rfl)) (by omega) (by omega) (by omega) (by omega) (by omega) (by omega) (by omega)
                refine vc_iconst dX12_behindOne_163 rfl ?_
                refine vc_iret dX12_behindOne_164 rfl (Nat.le_of_ble_eq_true rfl) (Nat.le_of_ble_eq_true rfl) ?_
                exact ⟨_, rfl, hB125, kp126, by omega, by omega, hPI128, by omega, by omega, by omega, by omega, by omega, by omega, fr127, by omega, by omega⟩
              · refine vc_iload_n dX12_behindOne_133 rfl ?_
                refine vc_bipush dX12_behindOne_134 rfl ?_
                refine vc_icmp_ne dX12_behindOne_136 (fun h129 => ?_) (fun h129 => ?_)
                · refine vc_iload_n dX12_behindOne_165 rfl ?_
                  refine vc_bipush dX12_behindOne_166 rfl ?_
                  refine vc_icmp_ne dX12_behindOne_168 (fun h130 => ?_) (fun h130 => ?_)
                  · refine vc_iload_n dX12_behindOne_188 rfl ?_
                    refine vc_bipush dX12_behindOne_189 rfl ?_
                    refine vc_icmp_eq dX12_behindOne_191 (fun h131 => ?_) (fun h131 => ?_)
                    · refine vc_aload_n dX12_behindOne_200 rfl ?_
                      refine vc_bipush dX12_behindOne_201 rfl ?_
                      refine vc_bipush dX12_behindOne_203 rfl ?_
                      refine vc_bipush dX12_behindOne_205 rfl ?_
                      refine vc_cSL dX12_behindOne_207 (sfX12_w3 (M := M) hB0.1  101 110 100 ) rfl okX12_w3 stX12_w3 lkX12_155 rfl (Nat.le_of_ble_eq_true rfl) ⟨rfl, rfl⟩ (Nat.le_of_ble_eq_true rfl) (Nat.le_of_ble_eq_true rfl) (Nat.le_of_ble_eq_true rfl) ?_
                      rintro x132 _ rfl
                      refine vc_cVI dX12_behindOne_210 (sfX12_isWord (M := M) hB0.1  x132 ) rfl okX12_isWord viX12_isWord lkX12_196 (s_54 hB0.1.1) cl_12 rfl (Nat.le_of_ble_eq_true rfl) ⟨rfl, rfl⟩ (Nat.le_of_ble_eq_true rfl) (Nat.le_of_ble_eq_true rfl) (Nat.le_of_ble_eq_true rfl) ?_
                      rintro x133 _ ⟨rfl, h134, h135, h136⟩
                      refine vc_if_eq dX12_behindOne_213 (fun h137 => ?_) (fun h137 => ?_)
                      · refine vc_iconst dX12_behindOne_220 rfl ?_
                        refine vc_istore dX12_behindOne_221 (by decide) rfl (show _ = [some (aR 54), some (aI (-1)), some (aI x6), some (aI x12), some (aI 0)] from rfl) ?_
                        refine vc_iload dX12_behindOne_223 rfl ?_
                        refine vc_if_ne dX12_behindOne_225 (fun h138 => by exfalso; omega) (fun h138 => ?_)
                        refine vc_iconst dX12_behindOne_228 rfl ?_
                        refine vc_iret dX12_behindOne_229 rfl (Nat.le_of_ble_eq_true rfl) (Nat.le_of_ble_eq_true rfl) ?_
                        exact ⟨_, rfl, hB0, rfl, by omega, by omega, p0, by omega, by omega, by omega, by omega, by omega, by omega, (fun _ _ => rfl), by omega, by omega⟩
                      · refine vc_iconst dX12_behindOne_216 rfl ?_
                        refine vc_goto dX12_behindOne_217 ?_
                        refine vc_istore dX12_behindOne_221 (by decide) rfl (show _ = [some (aR 54), some (aI (-1)), some (aI x6), some (aI x12), some (aI 1)] from rfl) ?_
                        refine vc_iload dX12_behindOne_223 rfl ?_
                        refine vc_if_ne dX12_behindOne_225 (fun h139 => ?_) (fun h139 => by exfalso; omega)
                        refine vc_aload_n dX12_behindOne_230 rfl ?_
                        refine vc_iload_n dX12_behindOne_231 rfl ?_
                        have hsh : ∃ k : Nat, (k : Int) < mI M 54 18 ∧ mI M 60 k = x12 ∧ ∀ q : Nat, k < q → (q : Int) < mI M 54 18 → mI M 60 q < 40 := ⟨x6.toNat, by omega, by omega, fun q a b => hq2 q (by omega) b⟩
                        refine vc_cVU dX12_behindOne_232 (sfX12_shut (M := M) hB0.1  S x12 (by exact p0) (by omega) (by omega) (by omega) (by omega) (by omega) (by exact hsh) (by omega)) rfl okX12_shut viX12_shut lkX12_220 (s_54 hB0.1.1) cl_12 rfl (Nat.le_of_ble_eq_true rfl) ⟨rfl, rfl⟩ (Nat.le_of_ble_eq_true rfl) (Nat.le_of_ble_eq_true rfl) (Nat.le_of_ble_eq_true rfl) ?_
                        rintro M140 ⟨hB141, kp142, h143, h144, h145, h146, h147, h148, h149, h150⟩
                        have hB151 : BF fT M M140 := BF.go hB0 hB141
                        have kp152 : mI M140 55 = mI M 55 := kp_go rfl kp142
                        refine vc_iconst dX12_behindOne_235 rfl ?_
                        refine vc_iret dX12_behindOne_236 rfl (Nat.le_of_ble_eq_true rfl) (Nat.le_of_ble_eq_true rfl) ?_
                        exact ⟨_, rfl, hB151, kp152, by omega, by omega, h143, by omega, by omega, by omega, by omega, by omega, by omega, h150, by omega, by omega⟩
                    · refine vc_iload_n dX12_behindOne_194 rfl ?_
                      refine vc_bipush dX12_behindOne_195 rfl ?_
                      refine vc_icmp_ne dX12_behindOne_197 (fun h153 => ?_) (fun h153 => ?_)
                      · refine vc_iconst dX12_behindOne_220 rfl ?_
                        refine vc_istore dX12_behindOne_221 (by decide) rfl (show _ = [some (aR 54), some (aI (-1)), some (aI x6), some (aI x12), some (aI 0)] from rfl) ?_
                        refine vc_iload dX12_behindOne_223 rfl ?_
                        refine vc_if_ne dX12_behindOne_225 (fun h154 => by exfalso; omega) (fun h154 => ?_)
                        refine vc_iconst dX12_behindOne_228 rfl ?_
                        refine vc_iret dX12_behindOne_229 rfl (Nat.le_of_ble_eq_true rfl) (Nat.le_of_ble_eq_true rfl) ?_
                        exact ⟨_, rfl, hB0, rfl, by omega, by omega, p0, by omega, by omega, by omega, by omega, by omega, by omega, (fun _ _ => rfl), by omega, by omega⟩
                      · refine vc_aload_n dX12_behindOne_200 rfl ?_
                        refine vc_bipush dX12_behindOne_201 rfl ?_
                        refine vc_bipush dX12_behindOne_203 rfl ?_
                        refine vc_bipush dX12_behindOne_205 rfl ?_
                        refine vc_cSL dX12_behindOne_207 (sfX12_w3 (M := M) hB0.1  101 110 100 ) rfl okX12_w3 stX12_w3 lkX12_155 rfl (Nat.le_of_ble_eq_true rfl) ⟨rfl, rfl⟩ (Nat.le_of_ble_eq_true rfl) (Nat.le_of_ble_eq_true rfl) (Nat.le_of_ble_eq_true rfl) ?_
                        rintro x155 _ rfl
                        refine vc_cVI dX12_behindOne_210 (sfX12_isWord (M := M) hB0.1  x155 ) rfl okX12_isWord viX12_isWord lkX12_196 (s_54 hB0.1.1) cl_12 rfl (Nat.le_of_ble_eq_true rfl) ⟨rfl, rfl⟩ (Nat.le_of_ble_eq_true rfl) (Nat.le_of_ble_eq_true rfl) (Nat.le_of_ble_eq_true rfl) ?_
                        rintro x156 _ ⟨rfl, h157, h158, h159⟩
                        refine vc_if_eq dX12_behindOne_213 (fun h160 => ?_) (fun h160 => ?_)
                        · refine vc_iconst dX12_behindOne_220 rfl ?_
                          refine vc_istore dX12_behindOne_221 (by decide) rfl (show _ = [some (aR 54), some (aI (-1)), some (aI x6), some (aI x12), some (aI 0)] from rfl) ?_
                          refine vc_iload dX12_behindOne_223 rfl ?_
                          refine vc_if_ne dX12_behindOne_225 (fun h161 => by exfalso; omega) (fun h161 => ?_)
                          refine vc_iconst dX12_behindOne_228 rfl ?_
                          refine vc_iret dX12_behindOne_229 rfl (Nat.le_of_ble_eq_true rfl) (Nat.le_of_ble_eq_true rfl) ?_
                          exact ⟨_, rfl, hB0, rfl, by omega, by omega, p0, by omega, by omega, by omega, by omega, by omega, by omega, (fun _ _ => rfl), by omega, by omega⟩
                        · refine vc_iconst dX12_behindOne_216 rfl ?_
                          refine vc_goto dX12_behindOne_217 ?_
                          refine vc_istore dX12_behindOne_221 (by decide) rfl (show _ = [some (aR 54), some (aI (-1)), some (aI x6), some (aI x12), some (aI 1)] from rfl) ?_
                          refine vc_iload dX12_behindOne_223 rfl ?_
                          refine vc_if_ne dX12_behindOne_225 (fun h162 => ?_) (fun h162 => by exfalso; omega)
                          refine vc_aload_n dX12_behindOne_230 rfl ?_
                          refine vc_iload_n dX12_behindOne_231 rfl ?_
                          have hsh : ∃ k : Nat, (k : Int) < mI M 54 18 ∧ mI M 60 k = x12 ∧ ∀ q : Nat, k < q → (q : Int) < mI M 54 18 → mI M 60 q < 40 := ⟨x6.toNat, by omega, by omega, fun q a b => hq2 q (by omega) b⟩
                          refine vc_cVU dX12_behindOne_232 (sfX12_shut (M := M) hB0.1  S x12 (by exact p0) (by omega) (by omega) (by omega) (by omega) (by omega) (by exact hsh) (by omega)) rfl okX12_shut viX12_shut lkX12_220 (s_54 hB0.1.1) cl_12 rfl (Nat.le_of_ble_eq_true rfl) ⟨rfl, rfl⟩ (Nat.le_of_ble_eq_true rfl) (Nat.le_of_ble_eq_true rfl) (Nat.le_of_ble_eq_true rfl) ?_
                          rintro M163 ⟨hB164, kp165, h166, h167, h168, h169, h170, h171, h172, h173⟩
                          have hB174 : BF fT M M163 := BF.go hB0 hB164
                          have kp175 : mI M163 55 = mI M 55 := kp_go rfl kp165
                          refine vc_iconst dX12_behindOne_235 rfl ?_
                          refine vc_iret dX12_behindOne_236 rfl (Nat.le_of_ble_eq_true rfl) (Nat.le_of_ble_eq_true rfl) ?_
                          exact ⟨_, rfl, hB174, kp175, by omega, by omega, h166, by omega, by omega, by omega, by omega, by omega, by omega, h173, by omega, by omega⟩
                  · refine vc_aload_n dX12_behindOne_171 rfl ?_
                    refine vc_getI dX12_behindOne_172 flX12_129 (s_54 hB0.1.1) rfl ?_
                    refine vc_bipush dX12_behindOne_175 rfl ?_
                    refine vc_icmp_ne dX12_behindOne_177 (fun h176 => ?_) (fun h176 => by exfalso; omega)
                    refine vc_iconst dX12_behindOne_184 rfl ?_
                    refine vc_goto dX12_behindOne_185 ?_
                    refine vc_istore dX12_behindOne_221 (by decide) rfl (show _ = [some (aR 54), some (aI (-1)), some (aI x6), some (aI x12), some (aI 0)] from rfl) ?_
                    refine vc_iload dX12_behindOne_223 rfl ?_
                    refine vc_if_ne dX12_behindOne_225 (fun h177 => by exfalso; omega) (fun h177 => ?_)
                    refine vc_iconst dX12_behindOne_228 rfl ?_
                    refine vc_iret dX12_behindOne_229 rfl (Nat.le_of_ble_eq_true rfl) (Nat.le_of_ble_eq_true rfl) ?_
                    exact ⟨_, rfl, hB0, rfl, by omega, by omega, p0, by omega, by omega, by omega, by omega, by omega, by omega, (fun _ _ => rfl), by omega, by omega⟩
                · refine vc_aload_n dX12_behindOne_139 rfl ?_
                  refine vc_iconst dX12_behindOne_140 rfl ?_
                  refine vc_cVU dX12_behindOne_141 (sfX12_settlePile (M := M) hB0.1  S 1 (by omega) (by omega) (by exact p0) (by omega) (by omega)) rfl okX12_settlePile viX12_settlePile lkX12_211 (s_54 hB0.1.1) cl_12 rfl (Nat.le_of_ble_eq_true rfl) ⟨rfl, rfl⟩ (Nat.le_of_ble_eq_true rfl) (Nat.le_of_ble_eq_true rfl) (Nat.le_of_ble_eq_true rfl) ?_
                  rintro M178 ⟨hB179, kp180, kp181, h182, h183, h184, h185, h186, h187, h188, h189, h190, h191, h192, h193⟩
                  have hB194 : BF fT M M178 := BF.go hB0 hB179
                  have kp195 : mI M178 55 = mI M 55 := kp_go rfl kp180
                  have fr196 : ∀ j : Nat, (j : Int) < mI M 54 14 + 265 + 2 * S → mI M178 57 j = mI M 57 j := fun j hj => (h191 j (by omega)).trans ((fun _ _ => rfl) j hj)
                  have hl2 := h182.len
                  have htop := top_at (M := M) (N := M178) (k := x6.toNat) kp181 (by omega) (by omega) h192 h193 (by omega) (by omega) (fun q a b => hq2 q (by omega) b)
                  have htk : mI M178 60 (mI M178 54 18 - 1).toNat = x12 := by rw [htop, kp181, show ((x6.toNat : Int) + 1 - 1).toNat = x6.toNat by omega]; omega
                  have hix : (x6).toNat = (mI M178 54 18 - 1).toNat := by omega
                  have htk2 : mI M178 60 (x6).toNat = x12 := by rw [hix]; exact htk
                  refine vc_aload_n dX12_behindOne_144 rfl ?_
                  refine vc_getR dX12_behindOne_145 flX12_32 (s_54 hB194.1.1) rfl (r_54_17 hB194.1.1) ?_
                  refine vc_iload_n dX12_behindOne_148 rfl ?_
                  refine vc_dup2 dX12_behindOne_149 rfl rfl ?_
                  refine vc_iaload dX12_behindOne_150 (s_60 hB194.1.1) (by omega) (by omega) ?_
                  refine vc_iconst dX12_behindOne_151 rfl ?_
                  refine vc_iaddE dX12_behindOne_152 (by omega) (by omega) ?_
                  refine vc_iastore dX12_behindOne_153 (s_60 hB194.1.1) (by omega) (by omega) ?_
                  have kp197 : mI (sI M178 60 x6.toNat ((mI M178 60 x6.toNat) + 1)) 55 = mI M 55 := (kp_sI kp195 rfl)
                  have hB198 : BF fT M (sI M178 60 x6.toNat ((mI M178 60 x6.toNat) + 1)) := BF.w60 hB194 (fun _ => rfl) _
                  refine vc_aload_n dX12_behindOne_154 rfl ?_
                  refine vc_iconst dX12_behindOne_155 rfl ?_
                  refine vc_putZ dX12_behindOne_156 (plX12_207 _ rfl) (s_54 hB198.1.1) rfl (by first | decide | omega) ?_
                  have kp199 : mI (sI (sI M178 60 x6.toNat ((mI M178 60 x6.toNat) + 1)) 54 20 0) 55 = mI M 55 := (kp_sI kp197 rfl)
                  have hB200 : BF fT M (sI (sI M178 60 x6.toNat ((mI M178 60 x6.toNat) + 1)) 54 20 0) := BF.w54_20 hB198 rfl
                  refine vc_aload_n dX12_behindOne_159 rfl ?_
                  have k201 : mI (sI (sI M178 60 x6.toNat ((mI M178 60 x6.toNat) + 1)) 54 20 0) 54 9 = mI M178 54 9 := rfl
                  have k202 : mI (sI (sI M178 60 x6.toNat ((mI M178 60 x6.toNat) + 1)) 54 20 0) 54 10 = mI M178 54 10 := rfl
                  have k203 : mI (sI (sI M178 60 x6.toNat ((mI M178 60 x6.toNat) + 1)) 54 20 0) 54 11 = mI M178 54 11 := rfl
                  have k204 : mI (sI (sI M178 60 x6.toNat ((mI M178 60 x6.toNat) + 1)) 54 20 0) 54 14 = mI M178 54 14 := rfl
                  have k205 : mI (sI (sI M178 60 x6.toNat ((mI M178 60 x6.toNat) + 1)) 54 20 0) 54 15 = mI M178 54 15 := rfl
                  have k206 : mI (sI (sI M178 60 x6.toNat ((mI M178 60 x6.toNat) + 1)) 54 20 0) 54 16 = mI M178 54 16 := rfl
                  have k207 : mI (sI (sI M178 60 x6.toNat ((mI M178 60 x6.toNat) + 1)) 54 20 0) 54 18 = mI M178 54 18 := rfl
                  have k208 : mI (sI (sI M178 60 x6.toNat ((mI M178 60 x6.toNat) + 1)) 54 20 0) 54 19 = mI M178 54 19 := rfl
                  have k209 : mI (sI (sI M178 60 x6.toNat ((mI M178 60 x6.toNat) + 1)) 54 20 0) 54 20 = 0 := rfl
                  have k210 : mI (sI (sI M178 60 x6.toNat ((mI M178 60 x6.toNat) + 1)) 54 20 0) 54 21 = mI M178 54 21 := rfl
                  refine vc_cVU dX12_behindOne_160 (sfX12_nextToken (M := (sI (sI M178 60 x6.toNat ((mI M178 60 x6.toNat) + 1)) 54 20 0)) hB200.1   ) rfl okX12_nextToken viX12_nextToken lkX12_193 (s_54 hB200.1.1) cl_12 rfl (Nat.le_of_ble_eq_true rfl) ⟨rfl, rfl⟩ (Nat.le_of_ble_eq_true rfl) (Nat.le_of_ble_eq_true rfl) (Nat.le_of_ble_eq_true rfl) ?_
                  rintro M211 ⟨hB212, kp213, kp214, kp215, h216, h217, h218, h219, h220, h221, h222, h223, h224, h225⟩
                  have hB226 : BF fT M M211 := BF.go hB200 hB212.t
                  have kp227 : mI M211 55 = mI M 55 := kp_go kp199 kp213
                  have fr228 : ∀ j : Nat, (j : Int) < mI M 54 14 + 265 + 2 * S → mI M211 57 j = mI M 57 j := fun j hj => (congrFun kp214 j).trans (fr196 j hj)
                  have hbx := b54_10 (M := M211) hB226.1
                  have hPI229 : PI M211 S := PI.two (M := M178) (o := x12) h182 (by omega) (by omega) htk (by omega) kp214 (by rw [← hix]; first | exact kp215 | (rw [kp215]; funext b; rw [← htk, ← hix]; rfl)) (by omega) (by omega) (by omega) (by omega) (by omega) (by omega) (by omega)
                  refine vc_iconst dX12_behindOne_163 rfl ?_
                  refine vc_iret dX12_behindOne_164 rfl (Nat.le_of_ble_eq_true rfl) (Nat.le_of_ble_eq_true rfl) ?_
                  exact ⟨_, rfl, hB226, kp227, by omega, by omega, hPI229, by omega, by omega, by omega, by omega, by omega, by omega, fr228, by omega, by omega⟩
          · refine vc_iconst dX12_behindOne_107 rfl ?_
            refine vc_goto dX12_behindOne_108 ?_
            refine vc_istore_n dX12_behindOne_117 (by decide) rfl (show _ = [some (aR 54), some (aI (-1)), some (aI x6), some (aI (-1)), none] from rfl) ?_
            refine vc_aload_n dX12_behindOne_118 rfl ?_
            refine vc_getI dX12_behindOne_119 flX12_129 (s_54 hB0.1.1) rfl ?_
            refine vc_bipush dX12_behindOne_122 rfl ?_
            refine vc_icmp_ne dX12_behindOne_124 (fun h230 => ?_) (fun h230 => ?_)
            · refine vc_iload_n dX12_behindOne_165 rfl ?_
              refine vc_bipush dX12_behindOne_166 rfl ?_
              refine vc_icmp_ne dX12_behindOne_168 (fun h231 => ?_) (fun h231 => by exfalso; omega)
              refine vc_iload_n dX12_behindOne_188 rfl ?_
              refine vc_bipush dX12_behindOne_189 rfl ?_
              refine vc_icmp_eq dX12_behindOne_191 (fun h232 => by exfalso; omega) (fun h232 => ?_)
              refine vc_iload_n dX12_behindOne_194 rfl ?_
              refine vc_bipush dX12_behindOne_195 rfl ?_
              refine vc_icmp_ne dX12_behindOne_197 (fun h233 => ?_) (fun h233 => by exfalso; omega)
              refine vc_iconst dX12_behindOne_220 rfl ?_
              refine vc_istore dX12_behindOne_221 (by decide) rfl (show _ = [some (aR 54), some (aI (-1)), some (aI x6), some (aI (-1)), some (aI 0)] from rfl) ?_
              refine vc_iload dX12_behindOne_223 rfl ?_
              refine vc_if_ne dX12_behindOne_225 (fun h234 => by exfalso; omega) (fun h234 => ?_)
              refine vc_iconst dX12_behindOne_228 rfl ?_
              refine vc_iret dX12_behindOne_229 rfl (Nat.le_of_ble_eq_true rfl) (Nat.le_of_ble_eq_true rfl) ?_
              exact ⟨_, rfl, hB0, rfl, by omega, by omega, p0, by omega, by omega, by omega, by omega, by omega, by omega, (fun _ _ => rfl), by omega, by omega⟩
            · refine vc_iload_n dX12_behindOne_127 rfl ?_
              refine vc_bipush dX12_behindOne_128 rfl ?_
              refine vc_icmp_eq dX12_behindOne_130 (fun h235 => by exfalso; omega) (fun h235 => ?_)
              refine vc_iload_n dX12_behindOne_133 rfl ?_
              refine vc_bipush dX12_behindOne_134 rfl ?_
              refine vc_icmp_ne dX12_behindOne_136 (fun h236 => ?_) (fun h236 => by exfalso; omega)
              refine vc_iload_n dX12_behindOne_165 rfl ?_
              refine vc_bipush dX12_behindOne_166 rfl ?_
              refine vc_icmp_ne dX12_behindOne_168 (fun h237 => ?_) (fun h237 => by exfalso; omega)
              refine vc_iload_n dX12_behindOne_188 rfl ?_
              refine vc_bipush dX12_behindOne_189 rfl ?_
              refine vc_icmp_eq dX12_behindOne_191 (fun h238 => by exfalso; omega) (fun h238 => ?_)
              refine vc_iload_n dX12_behindOne_194 rfl ?_
              refine vc_bipush dX12_behindOne_195 rfl ?_
              refine vc_icmp_ne dX12_behindOne_197 (fun h239 => ?_) (fun h239 => by exfalso; omega)
              refine vc_iconst dX12_behindOne_220 rfl ?_
              refine vc_istore dX12_behindOne_221 (by decide) rfl (show _ = [some (aR 54), some (aI (-1)), some (aI x6), some (aI (-1)), some (aI 0)] from rfl) ?_
              refine vc_iload dX12_behindOne_223 rfl ?_
              refine vc_if_ne dX12_behindOne_225 (fun h240 => by exfalso; omega) (fun h240 => ?_)
              refine vc_iconst dX12_behindOne_228 rfl ?_
              refine vc_iret dX12_behindOne_229 rfl (Nat.le_of_ble_eq_true rfl) (Nat.le_of_ble_eq_true rfl) ?_
              exact ⟨_, rfl, hB0, rfl, by omega, by omega, p0, by omega, by omega, by omega, by omega, by omega, by omega, (fun _ _ => rfl), by omega, by omega⟩
        · refine vc_bipush dX12_behindOne_48 rfl ?_
          refine vc_goto dX12_behindOne_50 ?_
          refine vc_istore_n dX12_behindOne_54 (by decide) rfl (show _ = [some (aR 54), some (aI 6), none, none, none] from rfl) ?_
          refine vc_iload_n dX12_behindOne_55 rfl ?_
          refine vc_if_lt dX12_behindOne_56 (fun h241 => by exfalso; omega) (fun h241 => ?_)
          refine vc_aload_n dX12_behindOne_59 rfl ?_
          refine vc_iload_n dX12_behindOne_60 rfl ?_
          refine vc_cSI dX12_behindOne_61 (sfX12_rank (M := M) hB0.1  6 ) rfl okX12_rank stX12_rank lkX12_183 rfl (Nat.le_of_ble_eq_true rfl) ⟨rfl, rfl⟩ (Nat.le_of_ble_eq_true rfl) (Nat.le_of_ble_eq_true rfl) (Nat.le_of_ble_eq_true rfl) ?_
          rintro x242 _ ⟨rfl, h243, h244, h245⟩
          have hrk : rkI 6 = 2 := by decide
          have hrx := h245
          refine vc_cVU dX12_behindOne_64 (sfX12_settlePile (M := M) hB0.1  S x242 (by omega) (by omega) (by exact p0) (by omega) (by omega)) rfl okX12_settlePile viX12_settlePile lkX12_211 (s_54 hB0.1.1) cl_12 rfl (Nat.le_of_ble_eq_true rfl) ⟨rfl, rfl⟩ (Nat.le_of_ble_eq_true rfl) (Nat.le_of_ble_eq_true rfl) (Nat.le_of_ble_eq_true rfl) ?_
          rintro M246 ⟨hB247, kp248, kp249, h250, h251, h252, h253, h254, h255, h256, h257, h258, h259, h260, h261⟩
          have hB262 : BF fT M M246 := BF.go hB0 hB247
          have kp263 : mI M246 55 = mI M 55 := kp_go rfl kp248
          have fr264 : ∀ j : Nat, (j : Int) < mI M 54 14 + 265 + 2 * S → mI M246 57 j = mI M 57 j := fun j hj => (h259 j (by omega)).trans ((fun _ _ => rfl) j hj)
          have hl2 := h250.len
          refine vc_aload_n dX12_behindOne_67 rfl ?_
          refine vc_getR dX12_behindOne_68 flX12_32 (s_54 hB262.1.1) rfl (r_54_17 hB262.1.1) ?_
          refine vc_aload_n dX12_behindOne_71 rfl ?_
          refine vc_getI dX12_behindOne_72 flX12_180 (s_54 hB262.1.1) rfl ?_
          have k265 : 0 ≤ mI M246 54 18 ∧ mI M246 54 18 ≤ 160 := b54_18 (M := M246) hB262.1
          refine vc_iload_n dX12_behindOne_75 rfl ?_
          refine vc_iastore dX12_behindOne_76 (s_60 hB262.1.1) (by omega) (by omega) ?_
          have kp266 : mI (sI M246 60 ((mI M246 54 18).toNat) 6) 55 = mI M 55 := (kp_sI kp263 rfl)
          have hB267 : BF fT M (sI M246 60 ((mI M246 54 18).toNat) 6) := BF.w60 hB262 (fun _ => rfl) _
          refine vc_aload_n dX12_behindOne_77 rfl ?_
          refine vc_dup dX12_behindOne_78 rfl ?_
          refine vc_getI dX12_behindOne_79 flX12_180 (s_54 hB267.1.1) rfl ?_
          refine vc_topI (mI M246 54 18) rfl ?_
          have k268 : 0 ≤ mI M246 54 18 ∧ mI M246 54 18 ≤ 160 := b54_18 (M := (sI M246 60 ((mI M246 54 18).toNat) 6)) hB267.1
          refine vc_iconst dX12_behindOne_82 rfl ?_
          refine vc_iaddE dX12_behindOne_83 (by omega) (by omega) ?_
          refine vc_putI dX12_behindOne_84 (plX12_180 _ rfl) (s_54 hB267.1.1) rfl ?_
          have kp269 : mI (sI (sI M246 60 ((mI M246 54 18).toNat) 6) 54 18 ((mI M246 54 18) + 1)) 55 = mI M 55 := (kp_sI kp266 rfl)
          have hB270 : BF fT M (sI (sI M246 60 ((mI M246 54 18).toNat) 6) 54 18 ((mI M246 54 18) + 1)) := BF.w54_18 hB267 rfl (by omega) (by omega)
          refine vc_aload_n dX12_behindOne_87 rfl ?_
          refine vc_iconst dX12_behindOne_88 rfl ?_
          refine vc_putZ dX12_behindOne_89 (plX12_207 _ rfl) (s_54 hB270.1.1) rfl (by first | decide | omega) ?_
          have kp271 : mI (sI (sI (sI M246 60 ((mI M246 54 18).toNat) 6) 54 18 ((mI M246 54 18) + 1)) 54 20 0) 55 = mI M 55 := (kp_sI kp269 rfl)
          have hB272 : BF fT M (sI (sI (sI M246 60 ((mI M246 54 18).toNat) 6) 54 18 ((mI M246 54 18) + 1)) 54 20 0) := BF.w54_20 hB270 rfl
          refine vc_aload_n dX12_behindOne_92 rfl ?_
          have k273 : mI (sI (sI (sI M246 60 ((mI M246 54 18).toNat) 6) 54 18 ((mI M246 54 18) + 1)) 54 20 0) 54 9 = mI M246 54 9 := rfl
          have k274 : mI (sI (sI (sI M246 60 ((mI M246 54 18).toNat) 6) 54 18 ((mI M246 54 18) + 1)) 54 20 0) 54 10 = mI M246 54 10 := rfl
          have k275 : mI (sI (sI (sI M246 60 ((mI M246 54 18).toNat) 6) 54 18 ((mI M246 54 18) + 1)) 54 20 0) 54 11 = mI M246 54 11 := rfl
          have k276 : mI (sI (sI (sI M246 60 ((mI M246 54 18).toNat) 6) 54 18 ((mI M246 54 18) + 1)) 54 20 0) 54 14 = mI M246 54 14 := rfl
          have k277 : mI (sI (sI (sI M246 60 ((mI M246 54 18).toNat) 6) 54 18 ((mI M246 54 18) + 1)) 54 20 0) 54 15 = mI M246 54 15 := rfl
          have k278 : mI (sI (sI (sI M246 60 ((mI M246 54 18).toNat) 6) 54 18 ((mI M246 54 18) + 1)) 54 20 0) 54 16 = mI M246 54 16 := rfl
          have k279 : mI (sI (sI (sI M246 60 ((mI M246 54 18).toNat) 6) 54 18 ((mI M246 54 18) + 1)) 54 20 0) 54 18 = (mI M246 54 18) + 1 := rfl
          have k280 : mI (sI (sI (sI M246 60 ((mI M246 54 18).toNat) 6) 54 18 ((mI M246 54 18) + 1)) 54 20 0) 54 19 = mI M246 54 19 := rfl
          have k281 : mI (sI (sI (sI M246 60 ((mI M246 54 18).toNat) 6) 54 18 ((mI M246 54 18) + 1)) 54 20 0) 54 20 = 0 := rfl
          have k282 : mI (sI (sI (sI M246 60 ((mI M246 54 18).toNat) 6) 54 18 ((mI M246 54 18) + 1)) 54 20 0) 54 21 = mI M246 54 21 := rfl
          refine vc_cVU dX12_behindOne_93 (sfX12_nextToken (M := (sI (sI (sI M246 60 ((mI M246 54 18).toNat) 6) 54 18 ((mI M246 54 18) + 1)) 54 20 0)) hB272.1   ) rfl okX12_nextToken viX12_nextToken lkX12_193 (s_54 hB272.1.1) cl_12 rfl (Nat.le_of_ble_eq_true rfl) ⟨rfl, rfl⟩ (Nat.le_of_ble_eq_true rfl) (Nat.le_of_ble_eq_true rfl) (Nat.le_of_ble_eq_true rfl) ?_
          rintro M283 ⟨hB284, kp285, kp286, kp287, h288, h289, h290, h291, h292, h293, h294, h295, h296, h297⟩
          have hB298 : BF fT M M283 := BF.go hB272 hB284.t
          have kp299 : mI M283 55 = mI M 55 := kp_go kp271 kp285
          have fr300 : ∀ j : Nat, (j : Int) < mI M 54 14 + 265 + 2 * S → mI M283 57 j = mI M 57 j := fun j hj => (congrFun kp286 j).trans (fr264 j hj)
          have hbx := b54_10 (M := M283) hB298.1
          have hPI301 : PI M283 S := PI.bin (M := M246) (o := 6) h250 (by omega) (by omega) (by rcases h260 with e | e; (left; exact e); (right; omega)) kp286 (by first | exact kp287 | (rw [kp287]; funext b; rfl)) (by omega) (by omega) (by omega) (by omega) (by omega) (by omega) (by omega)
          refine vc_iconst dX12_behindOne_96 rfl ?_
          refine vc_iret dX12_behindOne_97 rfl (Nat.le_of_ble_eq_true rfl) (Nat.le_of_ble_eq_true rfl) ?_
          exact ⟨_, rfl, hB298, kp299, by omega, by omega, hPI301, by omega, by omega, by omega, by omega, by omega, by omega, fr300, by omega, by omega⟩
      · refine vc_iconst dX12_behindOne_35 rfl ?_
        refine vc_goto dX12_behindOne_36 ?_
        refine vc_istore_n dX12_behindOne_54 (by decide) rfl (show _ = [some (aR 54), some (aI 5), none, none, none] from rfl) ?_
        refine vc_iload_n dX12_behindOne_55 rfl ?_
        refine vc_if_lt dX12_behindOne_56 (fun h302 => by exfalso; omega) (fun h302 => ?_)
        refine vc_aload_n dX12_behindOne_59 rfl ?_
        refine vc_iload_n dX12_behindOne_60 rfl ?_
        refine vc_cSI dX12_behindOne_61 (sfX12_rank (M := M) hB0.1  5 ) rfl okX12_rank stX12_rank lkX12_183 rfl (Nat.le_of_ble_eq_true rfl) ⟨rfl, rfl⟩ (Nat.le_of_ble_eq_true rfl) (Nat.le_of_ble_eq_true rfl) (Nat.le_of_ble_eq_true rfl) ?_
        rintro x303 _ ⟨rfl, h304, h305, h306⟩
        have hrk : rkI 5 = 2 := by decide
        have hrx := h306
        refine vc_cVU dX12_behindOne_64 (sfX12_settlePile (M := M) hB0.1  S x303 (by omega) (by omega) (by exact p0) (by omega) (by omega)) rfl okX12_settlePile viX12_settlePile lkX12_211 (s_54 hB0.1.1) cl_12 rfl (Nat.le_of_ble_eq_true rfl) ⟨rfl, rfl⟩ (Nat.le_of_ble_eq_true rfl) (Nat.le_of_ble_eq_true rfl) (Nat.le_of_ble_eq_true rfl) ?_
        rintro M307 ⟨hB308, kp309, kp310, h311, h312, h313, h314, h315, h316, h317, h318, h319, h320, h321, h322⟩
        have hB323 : BF fT M M307 := BF.go hB0 hB308
        have kp324 : mI M307 55 = mI M 55 := kp_go rfl kp309
        have fr325 : ∀ j : Nat, (j : Int) < mI M 54 14 + 265 + 2 * S → mI M307 57 j = mI M 57 j := fun j hj => (h320 j (by omega)).trans ((fun _ _ => rfl) j hj)
        have hl2 := h311.len
        refine vc_aload_n dX12_behindOne_67 rfl ?_
        refine vc_getR dX12_behindOne_68 flX12_32 (s_54 hB323.1.1) rfl (r_54_17 hB323.1.1) ?_
        refine vc_aload_n dX12_behindOne_71 rfl ?_
        refine vc_getI dX12_behindOne_72 flX12_180 (s_54 hB323.1.1) rfl ?_
        have k326 : 0 ≤ mI M307 54 18 ∧ mI M307 54 18 ≤ 160 := b54_18 (M := M307) hB323.1
        refine vc_iload_n dX12_behindOne_75 rfl ?_
        refine vc_iastore dX12_behindOne_76 (s_60 hB323.1.1) (by omega) (by omega) ?_
        have kp327 : mI (sI M307 60 ((mI M307 54 18).toNat) 5) 55 = mI M 55 := (kp_sI kp324 rfl)
        have hB328 : BF fT M (sI M307 60 ((mI M307 54 18).toNat) 5) := BF.w60 hB323 (fun _ => rfl) _
        refine vc_aload_n dX12_behindOne_77 rfl ?_
        refine vc_dup dX12_behindOne_78 rfl ?_
        refine vc_getI dX12_behindOne_79 flX12_180 (s_54 hB328.1.1) rfl ?_
        refine vc_topI (mI M307 54 18) rfl ?_
        have k329 : 0 ≤ mI M307 54 18 ∧ mI M307 54 18 ≤ 160 := b54_18 (M := (sI M307 60 ((mI M307 54 18).toNat) 5)) hB328.1
        refine vc_iconst dX12_behindOne_82 rfl ?_
        refine vc_iaddE dX12_behindOne_83 (by omega) (by omega) ?_
        refine vc_putI dX12_behindOne_84 (plX12_180 _ rfl) (s_54 hB328.1.1) rfl ?_
        have kp330 : mI (sI (sI M307 60 ((mI M307 54 18).toNat) 5) 54 18 ((mI M307 54 18) + 1)) 55 = mI M 55 := (kp_sI kp327 rfl)
        have hB331 : BF fT M (sI (sI M307 60 ((mI M307 54 18).toNat) 5) 54 18 ((mI M307 54 18) + 1)) := BF.w54_18 hB328 rfl (by omega) (by omega)
        refine vc_aload_n dX12_behindOne_87 rfl ?_
        refine vc_iconst dX12_behindOne_88 rfl ?_
        refine vc_putZ dX12_behindOne_89 (plX12_207 _ rfl) (s_54 hB331.1.1) rfl (by first | decide | omega) ?_
        have kp332 : mI (sI (sI (sI M307 60 ((mI M307 54 18).toNat) 5) 54 18 ((mI M307 54 18) + 1)) 54 20 0) 55 = mI M 55 := (kp_sI kp330 rfl)
        have hB333 : BF fT M (sI (sI (sI M307 60 ((mI M307 54 18).toNat) 5) 54 18 ((mI M307 54 18) + 1)) 54 20 0) := BF.w54_20 hB331 rfl
        refine vc_aload_n dX12_behindOne_92 rfl ?_
        have k334 : mI (sI (sI (sI M307 60 ((mI M307 54 18).toNat) 5) 54 18 ((mI M307 54 18) + 1)) 54 20 0) 54 9 = mI M307 54 9 := rfl
        have k335 : mI (sI (sI (sI M307 60 ((mI M307 54 18).toNat) 5) 54 18 ((mI M307 54 18) + 1)) 54 20 0) 54 10 = mI M307 54 10 := rfl
        have k336 : mI (sI (sI (sI M307 60 ((mI M307 54 18).toNat) 5) 54 18 ((mI M307 54 18) + 1)) 54 20 0) 54 11 = mI M307 54 11 := rfl
        have k337 : mI (sI (sI (sI M307 60 ((mI M307 54 18).toNat) 5) 54 18 ((mI M307 54 18) + 1)) 54 20 0) 54 14 = mI M307 54 14 := rfl
        have k338 : mI (sI (sI (sI M307 60 ((mI M307 54 18).toNat) 5) 54 18 ((mI M307 54 18) + 1)) 54 20 0) 54 15 = mI M307 54 15 := rfl
        have k339 : mI (sI (sI (sI M307 60 ((mI M307 54 18).toNat) 5) 54 18 ((mI M307 54 18) + 1)) 54 20 0) 54 16 = mI M307 54 16 := rfl
        have k340 : mI (sI (sI (sI M307 60 ((mI M307 54 18).toNat) 5) 54 18 ((mI M307 54 18) + 1)) 54 20 0) 54 18 = (mI M307 54 18) + 1 := rfl
        have k341 : mI (sI (sI (sI M307 60 ((mI M307 54 18).toNat) 5) 54 18 ((mI M307 54 18) + 1)) 54 20 0) 54 19 = mI M307 54 19 := rfl
        have k342 : mI (sI (sI (sI M307 60 ((mI M307 54 18).toNat) 5) 54 18 ((mI M307 54 18) + 1)) 54 20 0) 54 20 = 0 := rfl
        have k343 : mI (sI (sI (sI M307 60 ((mI M307 54 18).toNat) 5) 54 18 ((mI M307 54 18) + 1)) 54 20 0) 54 21 = mI M307 54 21 := rfl
        refine vc_cVU dX12_behindOne_93 (sfX12_nextToken (M := (sI (sI (sI M307 60 ((mI M307 54 18).toNat) 5) 54 18 ((mI M307 54 18) + 1)) 54 20 0)) hB333.1   ) rfl okX12_nextToken viX12_nextToken lkX12_193 (s_54 hB333.1.1) cl_12 rfl (Nat.le_of_ble_eq_true rfl) ⟨rfl, rfl⟩ (Nat.le_of_ble_eq_true rfl) (Nat.le_of_ble_eq_true rfl) (Nat.le_of_ble_eq_true rfl) ?_
        rintro M344 ⟨hB345, kp346, kp347, kp348, h349, h350, h351, h352, h353, h354, h355, h356, h357, h358⟩
        have hB359 : BF fT M M344 := BF.go hB333 hB345.t
        have kp360 : mI M344 55 = mI M 55 := kp_go kp332 kp346
        have fr361 : ∀ j : Nat, (j : Int) < mI M 54 14 + 265 + 2 * S → mI M344 57 j = mI M 57 j := fun j hj => (congrFun kp347 j).trans (fr325 j hj)
        have hbx := b54_10 (M := M344) hB359.1
        have hPI362 : PI M344 S := PI.bin (M := M307) (o := 5) h311 (by omega) (by omega) (by rcases h321 with e | e; (left; exact e); (right; omega)) kp347 (by first | exact kp348 | (rw [kp348]; funext b; rfl)) (by omega) (by omega) (by omega) (by omega) (by omega) (by omega) (by omega)
        refine vc_iconst dX12_behindOne_96 rfl ?_
        refine vc_iret dX12_behindOne_97 rfl (Nat.le_of_ble_eq_true rfl) (Nat.le_of_ble_eq_true rfl) ?_
        exact ⟨_, rfl, hB359, kp360, by omega, by omega, hPI362, by omega, by omega, by omega, by omega, by omega, by omega, fr361, by omega, by omega⟩
    · refine vc_iconst dX12_behindOne_22 rfl ?_
      refine vc_goto dX12_behindOne_23 ?_
      refine vc_istore_n dX12_behindOne_54 (by decide) rfl (show _ = [some (aR 54), some (aI 4), none, none, none] from rfl) ?_
      refine vc_iload_n dX12_behindOne_55 rfl ?_
      refine vc_if_lt dX12_behindOne_56 (fun h363 => by exfalso; omega) (fun h363 => ?_)
      refine vc_aload_n dX12_behindOne_59 rfl ?_
      refine vc_iload_n dX12_behindOne_60 rfl ?_
      refine vc_cSI dX12_behindOne_61 (sfX12_rank (M := M) hB0.1  4 ) rfl okX12_rank stX12_rank lkX12_183 rfl (Nat.le_of_ble_eq_true rfl) ⟨rfl, rfl⟩ (Nat.le_of_ble_eq_true rfl) (Nat.le_of_ble_eq_true rfl) (Nat.le_of_ble_eq_true rfl) ?_
      rintro x364 _ ⟨rfl, h365, h366, h367⟩
      have hrk : rkI 4 = 1 := by decide
      have hrx := h367
      refine vc_cVU dX12_behindOne_64 (sfX12_settlePile (M := M) hB0.1  S x364 (by omega) (by omega) (by exact p0) (by omega) (by omega)) rfl okX12_settlePile viX12_settlePile lkX12_211 (s_54 hB0.1.1) cl_12 rfl (Nat.le_of_ble_eq_true rfl) ⟨rfl, rfl⟩ (Nat.le_of_ble_eq_true rfl) (Nat.le_of_ble_eq_true rfl) (Nat.le_of_ble_eq_true rfl) ?_
      rintro M368 ⟨hB369, kp370, kp371, h372, h373, h374, h375, h376, h377, h378, h379, h380, h381, h382, h383⟩
      have hB384 : BF fT M M368 := BF.go hB0 hB369
      have kp385 : mI M368 55 = mI M 55 := kp_go rfl kp370
      have fr386 : ∀ j : Nat, (j : Int) < mI M 54 14 + 265 + 2 * S → mI M368 57 j = mI M 57 j := fun j hj => (h381 j (by omega)).trans ((fun _ _ => rfl) j hj)
      have hl2 := h372.len
      refine vc_aload_n dX12_behindOne_67 rfl ?_
      refine vc_getR dX12_behindOne_68 flX12_32 (s_54 hB384.1.1) rfl (r_54_17 hB384.1.1) ?_
      refine vc_aload_n dX12_behindOne_71 rfl ?_
      refine vc_getI dX12_behindOne_72 flX12_180 (s_54 hB384.1.1) rfl ?_
      have k387 : 0 ≤ mI M368 54 18 ∧ mI M368 54 18 ≤ 160 := b54_18 (M := M368) hB384.1
      refine vc_iload_n dX12_behindOne_75 rfl ?_
      refine vc_iastore dX12_behindOne_76 (s_60 hB384.1.1) (by omega) (by omega) ?_
      have kp388 : mI (sI M368 60 ((mI M368 54 18).toNat) 4) 55 = mI M 55 := (kp_sI kp385 rfl)
      have hB389 : BF fT M (sI M368 60 ((mI M368 54 18).toNat) 4) := BF.w60 hB384 (fun _ => rfl) _
      refine vc_aload_n dX12_behindOne_77 rfl ?_
      refine vc_dup dX12_behindOne_78 rfl ?_
      refine vc_getI dX12_behindOne_79 flX12_180 (s_54 hB389.1.1) rfl ?_
      refine vc_topI (mI M368 54 18) rfl ?_
      have k390 : 0 ≤ mI M368 54 18 ∧ mI M368 54 18 ≤ 160 := b54_18 (M := (sI M368 60 ((mI M368 54 18).toNat) 4)) hB389.1
      refine vc_iconst dX12_behindOne_82 rfl ?_
      refine vc_iaddE dX12_behindOne_83 (by omega) (by omega) ?_
      refine vc_putI dX12_behindOne_84 (plX12_180 _ rfl) (s_54 hB389.1.1) rfl ?_
      have kp391 : mI (sI (sI M368 60 ((mI M368 54 18).toNat) 4) 54 18 ((mI M368 54 18) + 1)) 55 = mI M 55 := (kp_sI kp388 rfl)
      have hB392 : BF fT M (sI (sI M368 60 ((mI M368 54 18).toNat) 4) 54 18 ((mI M368 54 18) + 1)) := BF.w54_18 hB389 rfl (by omega) (by omega)
      refine vc_aload_n dX12_behindOne_87 rfl ?_
      refine vc_iconst dX12_behindOne_88 rfl ?_
      refine vc_putZ dX12_behindOne_89 (plX12_207 _ rfl) (s_54 hB392.1.1) rfl (by first | decide | omega) ?_
      have kp393 : mI (sI (sI (sI M368 60 ((mI M368 54 18).toNat) 4) 54 18 ((mI M368 54 18) + 1)) 54 20 0) 55 = mI M 55 := (kp_sI kp391 rfl)
      have hB394 : BF fT M (sI (sI (sI M368 60 ((mI M368 54 18).toNat) 4) 54 18 ((mI M368 54 18) + 1)) 54 20 0) := BF.w54_20 hB392 rfl
      refine vc_aload_n dX12_behindOne_92 rfl ?_
      have k395 : mI (sI (sI (sI M368 60 ((mI M368 54 18).toNat) 4) 54 18 ((mI M368 54 18) + 1)) 54 20 0) 54 9 = mI M368 54 9 := rfl
      have k396 : mI (sI (sI (sI M368 60 ((mI M368 54 18).toNat) 4) 54 18 ((mI M368 54 18) + 1)) 54 20 0) 54 10 = mI M368 54 10 := rfl
      have k397 : mI (sI (sI (sI M368 60 ((mI M368 54 18).toNat) 4) 54 18 ((mI M368 54 18) + 1)) 54 20 0) 54 11 = mI M368 54 11 := rfl
      have k398 : mI (sI (sI (sI M368 60 ((mI M368 54 18).toNat) 4) 54 18 ((mI M368 54 18) + 1)) 54 20 0) 54 14 = mI M368 54 14 := rfl
      have k399 : mI (sI (sI (sI M368 60 ((mI M368 54 18).toNat) 4) 54 18 ((mI M368 54 18) + 1)) 54 20 0) 54 15 = mI M368 54 15 := rfl
      have k400 : mI (sI (sI (sI M368 60 ((mI M368 54 18).toNat) 4) 54 18 ((mI M368 54 18) + 1)) 54 20 0) 54 16 = mI M368 54 16 := rfl
      have k401 : mI (sI (sI (sI M368 60 ((mI M368 54 18).toNat) 4) 54 18 ((mI M368 54 18) + 1)) 54 20 0) 54 18 = (mI M368 54 18) + 1 := rfl
      have k402 : mI (sI (sI (sI M368 60 ((mI M368 54 18).toNat) 4) 54 18 ((mI M368 54 18) + 1)) 54 20 0) 54 19 = mI M368 54 19 := rfl
      have k403 : mI (sI (sI (sI M368 60 ((mI M368 54 18).toNat) 4) 54 18 ((mI M368 54 18) + 1)) 54 20 0) 54 20 = 0 := rfl
      have k404 : mI (sI (sI (sI M368 60 ((mI M368 54 18).toNat) 4) 54 18 ((mI M368 54 18) + 1)) 54 20 0) 54 21 = mI M368 54 21 := rfl
      refine vc_cVU dX12_behindOne_93 (sfX12_nextToken (M := (sI (sI (sI M368 60 ((mI M368 54 18).toNat) 4) 54 18 ((mI M368 54 18) + 1)) 54 20 0)) hB394.1   ) rfl okX12_nextToken viX12_nextToken lkX12_193 (s_54 hB394.1.1) cl_12 rfl (Nat.le_of_ble_eq_true rfl) ⟨rfl, rfl⟩ (Nat.le_of_ble_eq_true rfl) (Nat.le_of_ble_eq_true rfl) (Nat.le_of_ble_eq_true rfl) ?_
      rintro M405 ⟨hB406, kp407, kp408, kp409, h410, h411, h412, h413, h414, h415, h416, h417, h418, h419⟩
      have hB420 : BF fT M M405 := BF.go hB394 hB406.t
      have kp421 : mI M405 55 = mI M 55 := kp_go kp393 kp407
      have fr422 : ∀ j : Nat, (j : Int) < mI M 54 14 + 265 + 2 * S → mI M405 57 j = mI M 57 j := fun j hj => (congrFun kp408 j).trans (fr386 j hj)
      have hbx := b54_10 (M := M405) hB420.1
      have hPI423 : PI M405 S := PI.bin (M := M368) (o := 4) h372 (by omega) (by omega) (by rcases h382 with e | e; (left; exact e); (right; omega)) kp408 (by first | exact kp409 | (rw [kp409]; funext b; rfl)) (by omega) (by omega) (by omega) (by omega) (by omega) (by omega) (by omega)
      refine vc_iconst dX12_behindOne_96 rfl ?_
      refine vc_iret dX12_behindOne_97 rfl (Nat.le_of_ble_eq_true rfl) (Nat.le_of_ble_eq_true rfl) ?_
      exact ⟨_, rfl, hB420, kp421, by omega, by omega, hPI423, by omega, by omega, by omega, by omega, by omega, by omega, fr422, by omega, by omega⟩
  · refine vc_iconst dX12_behindOne_9 rfl ?_
    refine vc_goto dX12_behindOne_10 ?_
    refine vc_istore_n dX12_behindOne_54 (by decide) rfl (show _ = [some (aR 54), some (aI 3), none, none, none] from rfl) ?_
    refine vc_iload_n dX12_behindOne_55 rfl ?_
    refine vc_if_lt dX12_behindOne_56 (fun h424 => by exfalso; omega) (fun h424 => ?_)
    refine vc_aload_n dX12_behindOne_59 rfl ?_
    refine vc_iload_n dX12_behindOne_60 rfl ?_
    refine vc_cSI dX12_behindOne_61 (sfX12_rank (M := M) hB0.1  3 ) rfl okX12_rank stX12_rank lkX12_183 rfl (Nat.le_of_ble_eq_true rfl) ⟨rfl, rfl⟩ (Nat.le_of_ble_eq_true rfl) (Nat.le_of_ble_eq_true rfl) (Nat.le_of_ble_eq_true rfl) ?_
    rintro x425 _ ⟨rfl, h426, h427, h428⟩
    have hrk : rkI 3 = 1 := by decide
    have hrx := h428
    refine vc_cVU dX12_behindOne_64 (sfX12_settlePile (M := M) hB0.1  S x425 (by omega) (by omega) (by exact p0) (by omega) (by omega)) rfl okX12_settlePile viX12_settlePile lkX12_211 (s_54 hB0.1.1) cl_12 rfl (Nat.le_of_ble_eq_true rfl) ⟨rfl, rfl⟩ (Nat.le_of_ble_eq_true rfl) (Nat.le_of_ble_eq_true rfl) (Nat.le_of_ble_eq_true rfl) ?_
    rintro M429 ⟨hB430, kp431, kp432, h433, h434, h435, h436, h437, h438, h439, h440, h441, h442, h443, h444⟩
    have hB445 : BF fT M M429 := BF.go hB0 hB430
    have kp446 : mI M429 55 = mI M 55 := kp_go rfl kp431
    have fr447 : ∀ j : Nat, (j : Int) < mI M 54 14 + 265 + 2 * S → mI M429 57 j = mI M 57 j := fun j hj => (h442 j (by omega)).trans ((fun _ _ => rfl) j hj)
    have hl2 := h433.len
    refine vc_aload_n dX12_behindOne_67 rfl ?_
    refine vc_getR dX12_behindOne_68 flX12_32 (s_54 hB445.1.1) rfl (r_54_17 hB445.1.1) ?_
    refine vc_aload_n dX12_behindOne_71 rfl ?_
    refine vc_getI dX12_behindOne_72 flX12_180 (s_54 hB445.1.1) rfl ?_
    have k448 : 0 ≤ mI M429 54 18 ∧ mI M429 54 18 ≤ 160 := b54_18 (M := M429) hB445.1
    refine vc_iload_n dX12_behindOne_75 rfl ?_
    refine vc_iastore dX12_behindOne_76 (s_60 hB445.1.1) (by omega) (by omega) ?_
    have kp449 : mI (sI M429 60 ((mI M429 54 18).toNat) 3) 55 = mI M 55 := (kp_sI kp446 rfl)
    have hB450 : BF fT M (sI M429 60 ((mI M429 54 18).toNat) 3) := BF.w60 hB445 (fun _ => rfl) _
    refine vc_aload_n dX12_behindOne_77 rfl ?_
    refine vc_dup dX12_behindOne_78 rfl ?_
    refine vc_getI dX12_behindOne_79 flX12_180 (s_54 hB450.1.1) rfl ?_
    refine vc_topI (mI M429 54 18) rfl ?_
    have k451 : 0 ≤ mI M429 54 18 ∧ mI M429 54 18 ≤ 160 := b54_18 (M := (sI M429 60 ((mI M429 54 18).toNat) 3)) hB450.1
    refine vc_iconst dX12_behindOne_82 rfl ?_
    refine vc_iaddE dX12_behindOne_83 (by omega) (by omega) ?_
    refine vc_putI dX12_behindOne_84 (plX12_180 _ rfl) (s_54 hB450.1.1) rfl ?_
    have kp452 : mI (sI (sI M429 60 ((mI M429 54 18).toNat) 3) 54 18 ((mI M429 54 18) + 1)) 55 = mI M 55 := (kp_sI kp449 rfl)
    have hB453 : BF fT M (sI (sI M429 60 ((mI M429 54 18).toNat) 3) 54 18 ((mI M429 54 18) + 1)) := BF.w54_18 hB450 rfl (by omega) (by omega)
    refine vc_aload_n dX12_behindOne_87 rfl ?_
    refine vc_iconst dX12_behindOne_88 rfl ?_
    refine vc_putZ dX12_behindOne_89 (plX12_207 _ rfl) (s_54 hB453.1.1) rfl (by first | decide | omega) ?_
    have kp454 : mI (sI (sI (sI M429 60 ((mI M429 54 18).toNat) 3) 54 18 ((mI M429 54 18) + 1)) 54 20 0) 55 = mI M 55 := (kp_sI kp452 rfl)
    have hB455 : BF fT M (sI (sI (sI M429 60 ((mI M429 54 18).toNat) 3) 54 18 ((mI M429 54 18) + 1)) 54 20 0) := BF.w54_20 hB453 rfl
    refine vc_aload_n dX12_behindOne_92 rfl ?_
    have k456 : mI (sI (sI (sI M429 60 ((mI M429 54 18).toNat) 3) 54 18 ((mI M429 54 18) + 1)) 54 20 0) 54 9 = mI M429 54 9 := rfl
    have k457 : mI (sI (sI (sI M429 60 ((mI M429 54 18).toNat) 3) 54 18 ((mI M429 54 18) + 1)) 54 20 0) 54 10 = mI M429 54 10 := rfl
    have k458 : mI (sI (sI (sI M429 60 ((mI M429 54 18).toNat) 3) 54 18 ((mI M429 54 18) + 1)) 54 20 0) 54 11 = mI M429 54 11 := rfl
    have k459 : mI (sI (sI (sI M429 60 ((mI M429 54 18).toNat) 3) 54 18 ((mI M429 54 18) + 1)) 54 20 0) 54 14 = mI M429 54 14 := rfl
    have k460 : mI (sI (sI (sI M429 60 ((mI M429 54 18).toNat) 3) 54 18 ((mI M429 54 18) + 1)) 54 20 0) 54 15 = mI M429 54 15 := rfl
    have k461 : mI (sI (sI (sI M429 60 ((mI M429 54 18).toNat) 3) 54 18 ((mI M429 54 18) + 1)) 54 20 0) 54 16 = mI M429 54 16 := rfl
    have k462 : mI (sI (sI (sI M429 60 ((mI M429 54 18).toNat) 3) 54 18 ((mI M429 54 18) + 1)) 54 20 0) 54 18 = (mI M429 54 18) + 1 := rfl
    have k463 : mI (sI (sI (sI M429 60 ((mI M429 54 18).toNat) 3) 54 18 ((mI M429 54 18) + 1)) 54 20 0) 54 19 = mI M429 54 19 := rfl
    have k464 : mI (sI (sI (sI M429 60 ((mI M429 54 18).toNat) 3) 54 18 ((mI M429 54 18) + 1)) 54 20 0) 54 20 = 0 := rfl
    have k465 : mI (sI (sI (sI M429 60 ((mI M429 54 18).toNat) 3) 54 18 ((mI M429 54 18) + 1)) 54 20 0) 54 21 = mI M429 54 21 := rfl
    refine vc_cVU dX12_behindOne_93 (sfX12_nextToken (M := (sI (sI (sI M429 60 ((mI M429 54 18).toNat) 3) 54 18 ((mI M429 54 18) + 1)) 54 20 0)) hB455.1   ) rfl okX12_nextToken viX12_nextToken lkX12_193 (s_54 hB455.1.1) cl_12 rfl (Nat.le_of_ble_eq_true rfl) ⟨rfl, rfl⟩ (Nat.le_of_ble_eq_true rfl) (Nat.le_of_ble_eq_true rfl) (Nat.le_of_ble_eq_true rfl) ?_
    rintro M466 ⟨hB467, kp468, kp469, kp470, h471, h472, h473, h474, h475, h476, h477, h478, h479, h480⟩
    have hB481 : BF fT M M466 := BF.go hB455 hB467.t
    have kp482 : mI M466 55 = mI M 55 := kp_go kp454 kp468
    have fr483 : ∀ j : Nat, (j : Int) < mI M 54 14 + 265 + 2 * S → mI M466 57 j = mI M 57 j := fun j hj => (congrFun kp469 j).trans (fr447 j hj)
    have hbx := b54_10 (M := M466) hB481.1
    have hPI484 : PI M466 S := PI.bin (M := M429) (o := 3) h433 (by omega) (by omega) (by rcases h443 with e | e; (left; exact e); (right; omega)) kp469 (by first | exact kp470 | (rw [kp470]; funext b; rfl)) (by omega) (by omega) (by omega) (by omega) (by omega) (by omega) (by omega)
    refine vc_iconst dX12_behindOne_96 rfl ?_
    refine vc_iret dX12_behindOne_97 rfl (Nat.le_of_ble_eq_true rfl) (Nat.le_of_ble_eq_true rfl) ?_
    exact ⟨_, rfl, hB481, kp482, by omega, by omega, hPI484, by omega, by omega, by omega, by omega, by omega, by omega, fr483, by omega, by omega⟩

set_option maxRecDepth 4000 in
theorem sfX12_summed {l : Launch} {M : Mem} (hB : Box M)   (p0 : mI M 54 14 = 873 * mI M 55 5) (p1 : mI M 54 10 ≤ mI M 54 9) (p2 : mI M 54 11 = 0 ∨ mI M 54 10 < mI M 54 9) (p3 : mI M 54 15 ≤ mI M 54 10) : Call l mdX12_summed [aR 54] M (fun q N => ∃ r : Int, q = some (aI r) ∧ BF fT M N ∧ mI N 55 = mI M 55 ∧ (r = 0 → wfC (mI N 57) (mI N 54 15 - mI M 54 15).toNat (mI M 54 14 + 265 + 2 * mI M 54 15).toNat 0) ∧ (r ≠ 0 ∨ mI M 54 15 ≤ mI N 54 15) ∧ (r ≠ 0 ∨ mI N 54 15 ≤ mI N 54 10) ∧ mI N 54 10 ≤ mI N 54 9 ∧ (mI N 54 11 = 0 ∨ mI N 54 10 < mI N 54 9) ∧ mI N 54 14 = mI M 54 14 ∧ mI N 54 16 = mI M 54 16 ∧ mI N 54 21 = mI M 54 21 ∧ (∀ j : Nat, (j : Int) < mI M 54 14 + 265 + 2 * mI M 54 15 → mI N 57 j = mI M 57 j) ∧ mI M 54 10 ≤ mI N 54 10) := by
  have hB0 : BF fT M M := BF.start hB
  refine Call.of [some (aR 54), none, none] rfl (Nat.le_of_ble_eq_true rfl) rfl ?_
  obtain ⟨S, hS⟩ : ∃ S, S = mI M 54 15 := ⟨_, rfl⟩
  have hk9 := b54_9 hB
  have hk10 := b54_10 hB
  have hk15 := b54_15 hB
  have hk14 := b54_14 hB
  refine vc_aload_n dX12_summed_0 rfl ?_
  refine vc_iconst dX12_summed_1 rfl ?_
  refine vc_putI dX12_summed_2 (plX12_180 _ rfl) (s_54 hB0.1.1) rfl ?_
  have kp1 : mI (sI M 54 18 0) 55 = mI M 55 := (kp_sI rfl rfl)
  have hB2 : BF fT M (sI M 54 18 0) := BF.w54_18 hB0 rfl (by omega) (by omega)
  refine vc_aload_n dX12_summed_5 rfl ?_
  refine vc_iconst dX12_summed_6 rfl ?_
  refine vc_putI dX12_summed_7 (plX12_190 _ rfl) (s_54 hB2.1.1) rfl ?_
  have kp3 : mI (sI (sI M 54 18 0) 54 19 0) 55 = mI M 55 := (kp_sI kp1 rfl)
  have hB4 : BF fT M (sI (sI M 54 18 0) 54 19 0) := BF.w54_19 hB2 rfl
  refine vc_aload_n dX12_summed_10 rfl ?_
  refine vc_iconst dX12_summed_11 rfl ?_
  refine vc_putZ dX12_summed_12 (plX12_207 _ rfl) (s_54 hB4.1.1) rfl (by first | decide | omega) ?_
  have kp5 : mI (sI (sI (sI M 54 18 0) 54 19 0) 54 20 0) 55 = mI M 55 := (kp_sI kp3 rfl)
  have hB6 : BF fT M (sI (sI (sI M 54 18 0) 54 19 0) 54 20 0) := BF.w54_20 hB4 rfl
  have lp15 : ∀ (n15 : Nat) (Mq15 : Mem) , (BF fT M Mq15) → (mI Mq15 55 = mI M 55) → (PI Mq15 S) → (mI Mq15 54 10 ≤ mI Mq15 54 9) → (mI Mq15 54 11 = 0 ∨ mI Mq15 54 10 < mI Mq15 54 9) → (mI Mq15 54 14 = mI M 54 14) → (mI Mq15 54 16 = mI M 54 16) → (mI Mq15 54 21 = mI M 54 21) → (∀ j : Nat, (j : Int) < mI M 54 14 + 265 + 2 * S → mI Mq15 57 j = mI M 57 j) → (mI M 54 10 ≤ mI Mq15 54 10) → (300 - mI Mq15 54 10).toNat < n15 → VC l mdX12_summed 15 [some (aR 54), none, none] [] Mq15 0 0 (fun q N => ∃ r : Int, q = some (aI r) ∧ BF fT M N ∧ mI N 55 = mI M 55 ∧ (r = 0 → wfC (mI N 57) (mI N 54 15 - mI M 54 15).toNat (mI M 54 14 + 265 + 2 * mI M 54 15).toNat 0) ∧ (r ≠ 0 ∨ mI M 54 15 ≤ mI N 54 15) ∧ (r ≠ 0 ∨ mI N 54 15 ≤ mI N 54 10) ∧ mI N 54 10 ≤ mI N 54 9 ∧ (mI N 54 11 = 0 ∨ mI N 54 10 < mI N 54 9) ∧ mI N 54 14 = mI M 54 14 ∧ mI N 54 16 = mI M 54 16 ∧ mI N 54 21 = mI M 54 21 ∧ (∀ j : Nat, (j : Int) < mI M 54 14 + 265 + 2 * mI M 54 15 → mI N 57 j = mI M 57 j) ∧ mI M 54 10 ≤ mI N 54 10) := by
    intro n15
    induction n15 with
    | zero => intro Mq15 hQ15 kp15_55 g15i0 g15i1 g15i2 g15i3 g15i4 g15i5 g15i6 g15i7 hm15; exact absurd hm15 (Nat.not_lt_zero _)
    | succ n15 ih15 =>
      intro Mq15 hQ15 kp15_55 g15i0 g15i1 g15i2 g15i3 g15i4 g15i5 g15i6 g15i7 hm15
      refine vc_aload_n dX12_summed_15 rfl ?_
      refine vc_getZ dX12_summed_16 flX12_207 (s_54 hQ15.1.1) rfl ?_
      refine vc_nameI (fun x7 ex7 => ?_)
      refine vc_istore_n dX12_summed_19 (by decide) rfl (show _ = [some (aR 54), some (aI x7), none] from rfl) ?_
      refine vc_iload_n dX12_summed_20 rfl ?_
      refine vc_if_eq dX12_summed_21 (fun h8 => ?_) (fun h8 => ?_)
      · refine vc_aload_n dX12_summed_31 rfl ?_
        have hz5 := congrFun kp15_55 5
        have hl5 := g15i0.len
        refine vc_cVI dX12_summed_32 (sfX12_beginOne (M := Mq15) hQ15.1  S (by exact g15i0) (by omega) (by omega) (by omega) (by omega)) rfl okX12_beginOne viX12_beginOne lkX12_226 (s_54 hQ15.1.1) cl_12 rfl (Nat.le_of_ble_eq_true rfl) ⟨rfl, rfl⟩ (Nat.le_of_ble_eq_true rfl) (Nat.le_of_ble_eq_true rfl) (Nat.le_of_ble_eq_true rfl) ?_
        rintro x9 M10 ⟨hB11, kp12, h13, h14, h15, h16, h17, h18, h19, h20, h21, h22, h23⟩
        have hB24 : BF fT M M10 := BF.go hQ15 hB11
        have kp25 : mI M10 55 = mI M 55 := kp_go kp15_55 kp12
        have hb0 := h15
        have hfr : ∀ j : Nat, (j : Int) < mI M 54 14 + 265 + 2 * S → mI M10 57 j = mI M 57 j := fun j hj => (h22 j (by omega)).trans (g15i6 j hj)
        have hbx := b54_10 (M := M10) hB24.1
        refine vc_istore_n dX12_summed_35 (by decide) rfl (show _ = [some (aR 54), some (aI x7), some (aI x9)] from rfl) ?_
        refine vc_iload_n dX12_summed_36 rfl ?_
        refine vc_if_ne dX12_summed_37 (fun h26 => ?_) (fun h26 => ?_)
        · refine vc_iload_n dX12_summed_43 rfl ?_
          refine vc_if_ne dX12_summed_44 (fun h27 => by exfalso; omega) (fun h27 => ?_)
          refine vc_iload_n dX12_summed_47 rfl ?_
          refine vc_iret dX12_summed_48 rfl (Nat.le_of_ble_eq_true rfl) (Nat.le_of_ble_eq_true rfl) ?_
          exact ⟨_, rfl, hB24, kp25, fun h => absurd h (by assumption), by omega, by omega, by omega, by omega, by omega, by omega, by omega, fun j hj => hfr j (by omega), by omega⟩
        · refine vc_goto dX12_summed_40 ?_
          refine vc_less [some (aR 54), none, none] (lessL_keep (lessL_drop (lessL_drop (lessL_nil)))) ?_
          exact ih15 M10 hB24 kp25 (by first | exact hnew | exact hc0 | exact hb0 (by omega)) (by omega) (by omega) (by omega) (by omega) (by omega) (by first | exact hfr | (intro j hj; rfl)) (by omega) (by omega)
      · refine vc_aload_n dX12_summed_24 rfl ?_
        have hz5 := congrFun kp15_55 5
        have hl5 := g15i0.len
        refine vc_cVI dX12_summed_25 (sfX12_behindOne (M := Mq15) hQ15.1  S (by exact g15i0) (by omega) (by omega) (by omega) (by omega)) rfl okX12_behindOne viX12_behindOne lkX12_223 (s_54 hQ15.1.1) cl_12 rfl (Nat.le_of_ble_eq_true rfl) ⟨rfl, rfl⟩ (Nat.le_of_ble_eq_true rfl) (Nat.le_of_ble_eq_true rfl) (Nat.le_of_ble_eq_true rfl) ?_
        rintro x28 M29 ⟨hB30, kp31, h32, h33, h34, h35, h36, h37, h38, h39, h40, h41, h42, h43⟩
        have hB44 : BF fT M M29 := BF.go hQ15 hB30
        have kp45 : mI M29 55 = mI M 55 := kp_go kp15_55 kp31
        have hb0 := h34
        have hfr : ∀ j : Nat, (j : Int) < mI M 54 14 + 265 + 2 * S → mI M29 57 j = mI M 57 j := fun j hj => (h41 j (by omega)).trans (g15i6 j hj)
        have hbx := b54_10 (M := M29) hB44.1
        have hc0 := h34
        have hl3 := hc0.len
        refine vc_goto dX12_summed_28 ?_
        refine vc_istore_n dX12_summed_35 (by decide) rfl (show _ = [some (aR 54), some (aI x7), some (aI x28)] from rfl) ?_
        refine vc_iload_n dX12_summed_36 rfl ?_
        refine vc_if_ne dX12_summed_37 (fun h46 => ?_) (fun h46 => ?_)
        · refine vc_iload_n dX12_summed_43 rfl ?_
          refine vc_if_ne dX12_summed_44 (fun h47 => ?_) (fun h47 => ?_)
          · refine vc_aload_n dX12_summed_49 rfl ?_
            refine vc_cVI dX12_summed_50 (sfX12_openAt (M := M29) hB44.1   (by omega)) rfl okX12_openAt viX12_openAt lkX12_217 (s_54 hB44.1.1) cl_12 rfl (Nat.le_of_ble_eq_true rfl) ⟨rfl, rfl⟩ (Nat.le_of_ble_eq_true rfl) (Nat.le_of_ble_eq_true rfl) (Nat.le_of_ble_eq_true rfl) ?_
            rintro x48 _ ⟨rfl, h49, h50, h51, h52⟩
            have hno := h52
            refine vc_if_lt dX12_summed_53 (fun h53 => ?_) (fun h53 => ?_)
            · refine vc_aload_n dX12_summed_58 rfl ?_
              refine vc_iconst dX12_summed_59 rfl ?_
              have hz5 := congrFun kp45 5
              have hl5 := g15i0.len
              refine vc_cVU dX12_summed_60 (sfX12_settlePile (M := M29) hB44.1  S 1 (by omega) (by omega) (by exact hc0) (by omega) (by omega)) rfl okX12_settlePile viX12_settlePile lkX12_211 (s_54 hB44.1.1) cl_12 rfl (Nat.le_of_ble_eq_true rfl) ⟨rfl, rfl⟩ (Nat.le_of_ble_eq_true rfl) (Nat.le_of_ble_eq_true rfl) (Nat.le_of_ble_eq_true rfl) ?_
              rintro M54 ⟨hB55, kp56, kp57, h58, h59, h60, h61, h62, h63, h64, h65, h66, h67, h68, h69⟩
              have hB70 : BF fT M M54 := BF.go hB44 hB55
              have kp71 : mI M54 55 = mI M 55 := kp_go kp45 kp56
              have fr72 : ∀ j : Nat, (j : Int) < mI M 54 14 + 265 + 2 * S → mI M54 57 j = mI M 57 j := fun j hj => (h67 j (by omega)).trans (hfr j hj)
              have hl2 := h58.len
              have hn0 := top_no (M := M29) (N := M54) kp57 (by omega) (by omega) h68 (fun q a => hno q (by omega) a)
              refine vc_iconst dX12_summed_63 rfl ?_
              refine vc_iret dX12_summed_64 rfl (Nat.le_of_ble_eq_true rfl) (Nat.le_of_ble_eq_true rfl) ?_
              exact ⟨_, rfl, hB70, kp71, fun _ => by have q := h58.fin hn0; rw [show mI M54 54 14 = mI M 54 14 by omega, hS] at q; exact q, by omega, by omega, by omega, by omega, by omega, by omega, by omega, fun j hj => fr72 j (by omega), by omega⟩
            · refine vc_iconst dX12_summed_56 rfl ?_
              refine vc_iret dX12_summed_57 rfl (Nat.le_of_ble_eq_true rfl) (Nat.le_of_ble_eq_true rfl) ?_
              exact ⟨_, rfl, hB44, kp45, fun h => absurd h (by decide), by omega, by omega, by omega, by omega, by omega, by omega, by omega, fun j hj => hfr j (by omega), by omega⟩
          · refine vc_iload_n dX12_summed_47 rfl ?_
            refine vc_iret dX12_summed_48 rfl (Nat.le_of_ble_eq_true rfl) (Nat.le_of_ble_eq_true rfl) ?_
            exact ⟨_, rfl, hB44, kp45, fun h => absurd h (by assumption), by omega, by omega, by omega, by omega, by omega, by omega, by omega, fun j hj => hfr j (by omega), by omega⟩
        · refine vc_goto dX12_summed_40 ?_
          refine vc_less [some (aR 54), none, none] (lessL_keep (lessL_drop (lessL_drop (lessL_nil)))) ?_
          exact ih15 M29 hB44 kp45 (by first | exact hnew | exact hc0 | exact hb0 (by omega)) (by omega) (by omega) (by omega) (by omega) (by omega) (by first | exact hfr | (intro j hj; rfl)) (by omega) (by omega)
  have k73 : mI (sI (sI (sI M 54 18 0) 54 19 0) 54 20 0) 54 9 = mI M 54 9 := rfl
  have k74 : mI (sI (sI (sI M 54 18 0) 54 19 0) 54 20 0) 54 10 = mI M 54 10 := rfl
  have k75 : mI (sI (sI (sI M 54 18 0) 54 19 0) 54 20 0) 54 11 = mI M 54 11 := rfl
  have k76 : mI (sI (sI (sI M 54 18 0) 54 19 0) 54 20 0) 54 14 = mI M 54 14 := rfl
  have k77 : mI (sI (sI (sI M 54 18 0) 54 19 0) 54 20 0) 54 15 = mI M 54 15 := rfl
  have k78 : mI (sI (sI (sI M 54 18 0) 54 19 0) 54 20 0) 54 16 = mI M 54 16 := rfl
  have k79 : mI (sI (sI (sI M 54 18 0) 54 19 0) 54 20 0) 54 18 = 0 := rfl
  have k80 : mI (sI (sI (sI M 54 18 0) 54 19 0) 54 20 0) 54 19 = 0 := rfl
  have k81 : mI (sI (sI (sI M 54 18 0) 54 19 0) 54 20 0) 54 20 = 0 := rfl
  have k82 : mI (sI (sI (sI M 54 18 0) 54 19 0) 54 20 0) 54 21 = mI M 54 21 := rfl
  have hnew : PI (sI (sI (sI M 54 18 0) 54 19 0) 54 20 0) S := by rw [hS]; exact PI.new (M := sI (sI (sI M 54 18 0) 54 19 0) 54 20 0) (by omega) (by omega) (by omega) (by omega) (by omega) (by omega) (by omega)
  exact lp15 _ (sI (sI (sI M 54 18 0) 54 19 0) 54 20 0) hB6 kp5 (by first | exact hnew | exact hc0 | exact hb0 (by omega)) (by omega) (by omega) (by omega) (by omega) (by omega) (by first | exact hfr | (intro j hj; rfl)) (by omega) (Nat.lt_succ_self _)
