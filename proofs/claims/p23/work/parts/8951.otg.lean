/-! OFTELLING on both sides (written by wip/laws2/c23.py) -/
def OfTgS (S : Sw) (t w r : Int) : Prop := ((0 ≤ t ∧ t < S 1 9 ∧ 0 ≤ w) ∧ ((w ≤ 2 ∧ r = S 6 (9 * t + w).toNat) ∨ (3 ≤ w ∧ w ≤ 5 ∧ r = slS S t (w - 3)) ∨ (10 ≤ w ∧ w - 10 < S 6 (9 * t + 2).toNat ∧ r = S 6 (9 * t + 3 + (w - 10)).toNat) ∨ (6 ≤ w ∧ (w < 10 ∨ S 6 (9 * t + 2).toNat ≤ w - 10) ∧ r = -1))) ∨ (¬ (0 ≤ t ∧ t < S 1 9 ∧ 0 ≤ w) ∧ r = -1)
theorem ofTelling_one {S : Sw} {t w r s : Int} (h : OfTgS S t w r) (g : OfTgS S t w s) : r = s := by
  rcases h with ⟨a, ⟨_, h⟩ | ⟨_, _, h⟩ | ⟨_, _, h⟩ | ⟨_, _, h⟩⟩ | ⟨a, h⟩ <;> rcases g with ⟨b, ⟨_, g⟩ | ⟨_, _, g⟩ | ⟨_, _, g⟩ | ⟨_, _, g⟩⟩ | ⟨b, g⟩ <;> first | (rw [h, g]; done) | (exfalso; omega)
set_option maxRecDepth 4000 in
theorem sfX6_turnOfG {l : Launch} {M : Mem} (hB : Box M)  (t : Int) (i : Int) (p0 : 0 ≤ t) (p1 : t < mI M 1 9) (p2 : mI M 6 (9 * t + 2).toNat ≤ 6) : Call l mdX6_turnOf [aR 1, aI t, aI i] M (fun q N => ∃ r : Int, q = some (aI r) ∧ M = N ∧ ((0 ≤ i ∧ i < mI M 6 (9 * t + 2).toNat ∧ r = mI M 6 (9 * t + 3 + i).toNat) ∨ (¬ (0 ≤ i ∧ i < mI M 6 (9 * t + 2).toNat) ∧ r = -1))) := by
  have hB0 : BF fQ M M := BF.start hB
  refine Call.of [some (aR 1), some (aI t), some (aI i)] rfl (Nat.le_of_ble_eq_true rfl) rfl ?_
  refine vc_ok (fun hoM hoS hoL => ?_)
  have hr1 : -2147483648 ≤ t ∧ t < 2147483648 := hoL 1 _ rfl
  have hr2 : -2147483648 ≤ i ∧ i < 2147483648 := hoL 2 _ rfl
  refine vc_iload_n dX6_turnOf_0 rfl ?_
  refine vc_if_lt dX6_turnOf_1 (fun h1 => ?_) (fun h1 => ?_)
  · refine vc_iconst dX6_turnOf_25 rfl ?_
    refine vc_iret dX6_turnOf_26 rfl (Nat.le_of_ble_eq_true rfl) (Nat.le_of_ble_eq_true rfl) ?_
    exact ⟨_, rfl, rfl, by omega⟩
  · refine vc_iload_n dX6_turnOf_4 rfl ?_
    refine vc_aload_n dX6_turnOf_5 rfl ?_
    refine vc_iload_n dX6_turnOf_6 rfl ?_
    refine vc_iconst dX6_turnOf_7 rfl ?_
    refine vc_cVI dX6_turnOf_8 (sfX6_tellingCellF (M := M) hB0.1  t 2 ) rfl okX6_tellingCell viX6_tellingCell lkX6_74 (s_1 hB0.1.1) cl_6 rfl (Nat.le_of_ble_eq_true rfl) ⟨rfl, rfl⟩ (Nat.le_of_ble_eq_true rfl) (Nat.le_of_ble_eq_true rfl) (Nat.le_of_ble_eq_true rfl) ?_
    rintro x2 _ ⟨rfl, h3⟩
    have hct : x2 = mI M 6 (9 * t + 2).toNat ∧ x2 ≤ 6 := by omega
    refine vc_icmp_ge dX6_turnOf_11 (fun h4 => ?_) (fun h4 => ?_)
    · refine vc_iconst dX6_turnOf_25 rfl ?_
      refine vc_iret dX6_turnOf_26 rfl (Nat.le_of_ble_eq_true rfl) (Nat.le_of_ble_eq_true rfl) ?_
      exact ⟨_, rfl, rfl, by omega⟩
    · refine vc_aload_n dX6_turnOf_14 rfl ?_
      refine vc_iload_n dX6_turnOf_15 rfl ?_
      refine vc_iconst dX6_turnOf_16 rfl ?_
      refine vc_iload_n dX6_turnOf_17 rfl ?_
      refine vc_iaddE dX6_turnOf_18 (by omega) (by omega) ?_
      refine vc_cVI dX6_turnOf_19 (sfX6_tellingCellF (M := M) hB0.1  t (3 + i) ) rfl okX6_tellingCell viX6_tellingCell lkX6_74 (s_1 hB0.1.1) cl_6 rfl (Nat.le_of_ble_eq_true rfl) ⟨rfl, rfl⟩ (Nat.le_of_ble_eq_true rfl) (Nat.le_of_ble_eq_true rfl) (Nat.le_of_ble_eq_true rfl) ?_
      rintro x5 _ ⟨rfl, h6⟩
      have hz : x5 = mI M 6 (9 * t + 3 + i).toNat := by rw [show (9 * t + 3 + i).toNat = (9 * t + (3 + i)).toNat by omega]; omega
      refine vc_goto dX6_turnOf_22 ?_
      refine vc_iret dX6_turnOf_26 rfl (Nat.le_of_ble_eq_true rfl) (Nat.le_of_ble_eq_true rfl) ?_
      exact ⟨_, rfl, rfl, by omega⟩

set_option maxRecDepth 4000 in
theorem sfX11_ofTellingF {l : Launch} {M : Mem} (hB : Box M)  (t : Int) (w : Int) (p0 : wfL (cS M)) (p1 : wTg (cS M)) : Call l mdX11_ofTelling [aR 0, aI t, aI w] M (fun q N => ∃ r : Int, q = some (aI r) ∧ BF fQ M N ∧ OfTgS (cS M) t w r) := by
  have hB0 : BF fQ M M := BF.start hB
  refine Call.of [some (aR 0), some (aI t), some (aI w)] rfl (Nat.le_of_ble_eq_true rfl) rfl ?_
  refine vc_ok (fun hoM hoS hoL => ?_)
  have hr1 : -2147483648 ≤ t ∧ t < 2147483648 := hoL 1 _ rfl
  have hr2 : -2147483648 ≤ w ∧ w < 2147483648 := hoL 2 _ rfl
  have e19 : cS M 1 9 = mI M 1 9 := rfl
  have e62 : cS M 6 (9 * t + 2).toNat = mI M 6 (9 * t + 2).toNat := rfl
  have e6w : cS M 6 (9 * t + w).toNat = mI M 6 (9 * t + w).toNat := rfl
  have e63 : cS M 6 (9 * t + 3 + (w - 10)).toNat = mI M 6 (9 * t + 3 + (w - 10)).toNat := rfl
  refine vc_aload_n dX11_ofTelling_0 rfl ?_
  refine vc_getR dX11_ofTelling_1 flX11_10 (s_0 hB0.1.1) rfl (r_0_0 hB0.1.1) ?_
  refine vc_iload_n dX11_ofTelling_4 rfl ?_
  refine vc_cVI dX11_ofTelling_5 (sfX6_hasTellingF (M := M) hB0.1  t ) rfl okX6_hasTelling viX6_hasTelling lkX11_214 (s_1 hB0.1.1) cl_6 rfl (Nat.le_of_ble_eq_true rfl) ⟨rfl, rfl⟩ (Nat.le_of_ble_eq_true rfl) (Nat.le_of_ble_eq_true rfl) (Nat.le_of_ble_eq_true rfl) ?_
  rintro x1 _ ⟨rfl, h2, h3, h4, h5⟩
  refine vc_if_eq dX11_ofTelling_8 (fun h6 => ?_) (fun h6 => ?_)
  · refine vc_iconst dX11_ofTelling_15 rfl ?_
    refine vc_iret dX11_ofTelling_16 rfl (Nat.le_of_ble_eq_true rfl) (Nat.le_of_ble_eq_true rfl) ?_
    refine ⟨_, rfl, hB0, ?_⟩
    unfold OfTgS
    first | exact Or.inr ⟨by omega, by omega⟩ | exact Or.inl ⟨by omega, Or.inl ⟨by omega, by omega⟩⟩ | exact Or.inl ⟨by omega, Or.inr (Or.inl ⟨by omega, by omega, by omega⟩)⟩ | exact Or.inl ⟨by omega, Or.inr (Or.inr (Or.inl ⟨by omega, by omega, by omega⟩))⟩ | exact Or.inl ⟨by omega, Or.inr (Or.inr (Or.inr ⟨by omega, by omega, by omega⟩))⟩
  · refine vc_iload_n dX11_ofTelling_11 rfl ?_
    refine vc_if_ge dX11_ofTelling_12 (fun h7 => ?_) (fun h7 => ?_)
    · refine vc_iload_n dX11_ofTelling_17 rfl ?_
      refine vc_iconst dX11_ofTelling_18 rfl ?_
      refine vc_icmp_gt dX11_ofTelling_19 (fun h8 => ?_) (fun h8 => ?_)
      · refine vc_iload_n dX11_ofTelling_32 rfl ?_
        refine vc_iconst dX11_ofTelling_33 rfl ?_
        refine vc_icmp_gt dX11_ofTelling_34 (fun h9 => ?_) (fun h9 => ?_)
        · refine vc_iload_n dX11_ofTelling_49 rfl ?_
          refine vc_bipush dX11_ofTelling_50 rfl ?_
          refine vc_icmp_ge dX11_ofTelling_52 (fun h10 => ?_) (fun h10 => ?_)
          · refine vc_aload_n dX11_ofTelling_59 rfl ?_
            refine vc_getR dX11_ofTelling_60 flX11_10 (s_0 hB0.1.1) rfl (r_0_0 hB0.1.1) ?_
            refine vc_iload_n dX11_ofTelling_63 rfl ?_
            refine vc_iload_n dX11_ofTelling_64 rfl ?_
            refine vc_bipush dX11_ofTelling_65 rfl ?_
            refine vc_isubE dX11_ofTelling_67 (by omega) (by omega) ?_
            have hw := p1 t.toNat (by show _ < mI M 1 9; omega)
            rw [show 9 * t.toNat = (9 * t).toNat by omega, show (9 * t).toNat + 2 = (9 * t + 2).toNat by omega] at hw
            have hw1 : (0 ≤ mI M 6 (9 * t).toNat ∧ mI M 6 (9 * t).toNat < mI M 1 8) ∧ mI M 6 (9 * t + 2).toNat ≤ 6 := ⟨⟨hw.1, hw.2.1⟩, hw.2.2.2.2.2.1⟩
            refine vc_cVI dX11_ofTelling_68 (sfX6_turnOfG (M := M) hB0.1  t (w - 10) (by omega) (by omega) (by omega)) rfl okX6_turnOf viX6_turnOf lkX11_223 (s_1 hB0.1.1) cl_6 rfl (Nat.le_of_ble_eq_true rfl) ⟨rfl, rfl⟩ (Nat.le_of_ble_eq_true rfl) (Nat.le_of_ble_eq_true rfl) (Nat.le_of_ble_eq_true rfl) ?_
            rintro x11 _ ⟨rfl, h12⟩
            refine vc_iret dX11_ofTelling_71 rfl (Nat.le_of_ble_eq_true rfl) (Nat.le_of_ble_eq_true rfl) ?_
            refine ⟨_, rfl, hB0, ?_⟩
            unfold OfTgS
            rcases h12 with hh | hh <;> first | exact Or.inr ⟨by omega, by omega⟩ | exact Or.inl ⟨by omega, Or.inl ⟨by omega, by omega⟩⟩ | exact Or.inl ⟨by omega, Or.inr (Or.inl ⟨by omega, by omega, by omega⟩)⟩ | exact Or.inl ⟨by omega, Or.inr (Or.inr (Or.inl ⟨by omega, by omega, by omega⟩))⟩ | exact Or.inl ⟨by omega, Or.inr (Or.inr (Or.inr ⟨by omega, by omega, by omega⟩))⟩
          · refine vc_iconst dX11_ofTelling_55 rfl ?_
            refine vc_goto dX11_ofTelling_56 ?_
            refine vc_iret dX11_ofTelling_71 rfl (Nat.le_of_ble_eq_true rfl) (Nat.le_of_ble_eq_true rfl) ?_
            refine ⟨_, rfl, hB0, ?_⟩
            unfold OfTgS
            first | exact Or.inr ⟨by omega, by omega⟩ | exact Or.inl ⟨by omega, Or.inl ⟨by omega, by omega⟩⟩ | exact Or.inl ⟨by omega, Or.inr (Or.inl ⟨by omega, by omega, by omega⟩)⟩ | exact Or.inl ⟨by omega, Or.inr (Or.inr (Or.inl ⟨by omega, by omega, by omega⟩))⟩ | exact Or.inl ⟨by omega, Or.inr (Or.inr (Or.inr ⟨by omega, by omega, by omega⟩))⟩
        · refine vc_aload_n dX11_ofTelling_37 rfl ?_
          refine vc_getR dX11_ofTelling_38 flX11_47 (s_0 hB0.1.1) rfl (r_0_6 hB0.1.1) ?_
          refine vc_iload_n dX11_ofTelling_41 rfl ?_
          refine vc_iload_n dX11_ofTelling_42 rfl ?_
          refine vc_iconst dX11_ofTelling_43 rfl ?_
          refine vc_isubE dX11_ofTelling_44 (by omega) (by omega) ?_
          have hw := p1 t.toNat (by show _ < mI M 1 9; omega)
          rw [show 9 * t.toNat = (9 * t).toNat by omega, show (9 * t).toNat + 2 = (9 * t + 2).toNat by omega] at hw
          have hw1 : (0 ≤ mI M 6 (9 * t).toNat ∧ mI M 6 (9 * t).toNat < mI M 1 8) ∧ mI M 6 (9 * t + 2).toNat ≤ 6 := ⟨⟨hw.1, hw.2.1⟩, hw.2.2.2.2.2.1⟩
          refine vc_cVI dX11_ofTelling_45 (sfX2_slipF (M := M) hB0.1  t (w - 3) (by omega) (by omega) (by omega) (by omega) (by omega) (by exact p0)) rfl okX2_slip viX2_slip lkX11_220 (s_29 hB0.1.1) cl_2 rfl (Nat.le_of_ble_eq_true rfl) ⟨rfl, rfl⟩ (Nat.le_of_ble_eq_true rfl) (Nat.le_of_ble_eq_true rfl) (Nat.le_of_ble_eq_true rfl) ?_
          rintro x13 M14 ⟨hB15, kp16, kp17, h18⟩
          have hB19 : BF fQ M M14 := BF.go hB0 hB15.sq
          refine vc_iret dX11_ofTelling_48 rfl (Nat.le_of_ble_eq_true rfl) (Nat.le_of_ble_eq_true rfl) ?_
          refine ⟨_, rfl, hB19, ?_⟩
          unfold OfTgS
          first | exact Or.inr ⟨by omega, by omega⟩ | exact Or.inl ⟨by omega, Or.inl ⟨by omega, by omega⟩⟩ | exact Or.inl ⟨by omega, Or.inr (Or.inl ⟨by omega, by omega, by omega⟩)⟩ | exact Or.inl ⟨by omega, Or.inr (Or.inr (Or.inl ⟨by omega, by omega, by omega⟩))⟩ | exact Or.inl ⟨by omega, Or.inr (Or.inr (Or.inr ⟨by omega, by omega, by omega⟩))⟩
      · refine vc_aload_n dX11_ofTelling_22 rfl ?_
        refine vc_getR dX11_ofTelling_23 flX11_10 (s_0 hB0.1.1) rfl (r_0_0 hB0.1.1) ?_
        refine vc_iload_n dX11_ofTelling_26 rfl ?_
        refine vc_iload_n dX11_ofTelling_27 rfl ?_
        refine vc_cVI dX11_ofTelling_28 (sfX6_tellingCellF (M := M) hB0.1  t w ) rfl okX6_tellingCell viX6_tellingCell lkX11_217 (s_1 hB0.1.1) cl_6 rfl (Nat.le_of_ble_eq_true rfl) ⟨rfl, rfl⟩ (Nat.le_of_ble_eq_true rfl) (Nat.le_of_ble_eq_true rfl) (Nat.le_of_ble_eq_true rfl) ?_
        rintro x20 _ ⟨rfl, h21⟩
        refine vc_iret dX11_ofTelling_31 rfl (Nat.le_of_ble_eq_true rfl) (Nat.le_of_ble_eq_true rfl) ?_
        refine ⟨_, rfl, hB0, ?_⟩
        unfold OfTgS
        first | exact Or.inr ⟨by omega, by omega⟩ | exact Or.inl ⟨by omega, Or.inl ⟨by omega, by omega⟩⟩ | exact Or.inl ⟨by omega, Or.inr (Or.inl ⟨by omega, by omega, by omega⟩)⟩ | exact Or.inl ⟨by omega, Or.inr (Or.inr (Or.inl ⟨by omega, by omega, by omega⟩))⟩ | exact Or.inl ⟨by omega, Or.inr (Or.inr (Or.inr ⟨by omega, by omega, by omega⟩))⟩
    · refine vc_iconst dX11_ofTelling_15 rfl ?_
      refine vc_iret dX11_ofTelling_16 rfl (Nat.le_of_ble_eq_true rfl) (Nat.le_of_ble_eq_true rfl) ?_
      refine ⟨_, rfl, hB0, ?_⟩
      unfold OfTgS
      first | exact Or.inr ⟨by omega, by omega⟩ | exact Or.inl ⟨by omega, Or.inl ⟨by omega, by omega⟩⟩ | exact Or.inl ⟨by omega, Or.inr (Or.inl ⟨by omega, by omega, by omega⟩)⟩ | exact Or.inl ⟨by omega, Or.inr (Or.inr (Or.inl ⟨by omega, by omega, by omega⟩))⟩ | exact Or.inl ⟨by omega, Or.inr (Or.inr (Or.inr ⟨by omega, by omega, by omega⟩))⟩

set_option maxRecDepth 4000 in
theorem sfX12_ofTellingF {l : Launch} {M : Mem} (hB : Box M) (S : Sw) (t : Int) (w : Int) (p0 : TA (mI M 55) S) (p1 : aAs (mI M 55) S) (p2 : LwS S (mI M 57)) (p3 : asB S 1000000) (p4 : nmT S) : Call l mdX12_ofTelling [aR 54, aI t, aI w] M (fun q N => ∃ r : Int, q = some (aI r) ∧ BF fQ M N ∧ OfTgS S t w r) := by
  have hB0 : BF fQ M M := BF.start hB
  refine Call.of [some (aR 54), some (aI t), some (aI w)] rfl (Nat.le_of_ble_eq_true rfl) rfl ?_
  refine vc_ok (fun hoM hoS hoL => ?_)
  have hr1 : -2147483648 ≤ t ∧ t < 2147483648 := hoL 1 _ rfl
  have hr2 : -2147483648 ≤ w ∧ w < 2147483648 := hoL 2 _ rfl
  have c3 := p0.1.2.2.2.1
  refine vc_aload_n dX12_ofTelling_0 rfl ?_
  refine vc_iload_n dX12_ofTelling_1 rfl ?_
  refine vc_cVI dX12_ofTelling_2 (sfX12_isTellingF (M := M) hB0.1  t ) rfl okX12_isTelling viX12_isTelling lkX12_400 (s_54 hB0.1.1) cl_12 rfl (Nat.le_of_ble_eq_true rfl) ⟨rfl, rfl⟩ (Nat.le_of_ble_eq_true rfl) (Nat.le_of_ble_eq_true rfl) (Nat.le_of_ble_eq_true rfl) ?_
  rintro x1 _ ⟨rfl, h2, h3, h4, h5⟩
  refine vc_if_ne dX12_ofTelling_5 (fun h6 => ?_) (fun h6 => ?_)
  · refine vc_iload_n dX12_ofTelling_10 rfl ?_
    refine vc_bipush dX12_ofTelling_11 rfl ?_
    refine vc_bipush dX12_ofTelling_13 rfl ?_
    refine vc_aload_n dX12_ofTelling_15 rfl ?_
    refine vc_iload_n dX12_ofTelling_16 rfl ?_
    have tg := p0.tg (t := t) (by omega) (by omega)
    have h012 : 0 ≤ w → w ≤ 2 → mI M 55 (184 + 9 * t + w).toNat = S 6 (9 * t + w).toNat := fun w0 w2 => by
      rcases (by omega : w = 0 ∨ w = 1 ∨ w = 2) with e | e | e <;> rw [e]
      · rw [Int.add_zero, Int.add_zero]; exact tg.1.1
      · exact tg.1.2.1
      · exact tg.1.2.2
    have hb6 := tg.2.2.2.1
    refine vc_cVI dX12_ofTelling_17 (sfX12_turnsOfF (M := M) hB0.1  t (by omega) (by omega)) rfl okX12_turnsOf viX12_turnsOf lkX12_305 (s_54 hB0.1.1) cl_12 rfl (Nat.le_of_ble_eq_true rfl) ⟨rfl, rfl⟩ (Nat.le_of_ble_eq_true rfl) (Nat.le_of_ble_eq_true rfl) (Nat.le_of_ble_eq_true rfl) ?_
    rintro x7 _ ⟨rfl, h8, h9, h10⟩
    have ht3 : x7 = S 6 (9 * t + 2).toNat := h10.trans tg.1.2.2
    refine vc_iaddE dX12_ofTelling_20 (by omega) (by omega) ?_
    refine vc_cSI dX12_ofTelling_21 (sfX12_isInF (M := M) hB0.1  w 10 (9 + x7) ) rfl okX12_isIn stX12_isIn lkX12_83 rfl (Nat.le_of_ble_eq_true rfl) ⟨rfl, rfl⟩ (Nat.le_of_ble_eq_true rfl) (Nat.le_of_ble_eq_true rfl) (Nat.le_of_ble_eq_true rfl) ?_
    rintro x11 _ ⟨rfl, h12, h13, h14⟩
    refine vc_if_eq dX12_ofTelling_24 (fun h15 => ?_) (fun h15 => ?_)
    · refine vc_iload_n dX12_ofTelling_37 rfl ?_
      refine vc_iconst dX12_ofTelling_38 rfl ?_
      refine vc_iconst dX12_ofTelling_39 rfl ?_
      refine vc_cSI dX12_ofTelling_40 (sfX12_isInF (M := M) hB0.1  w 3 5 ) rfl okX12_isIn stX12_isIn lkX12_83 rfl (Nat.le_of_ble_eq_true rfl) ⟨rfl, rfl⟩ (Nat.le_of_ble_eq_true rfl) (Nat.le_of_ble_eq_true rfl) (Nat.le_of_ble_eq_true rfl) ?_
      rintro x16 _ ⟨rfl, h17, h18, h19⟩
      refine vc_if_eq dX12_ofTelling_43 (fun h20 => ?_) (fun h20 => ?_)
      · refine vc_iload_n dX12_ofTelling_55 rfl ?_
        refine vc_iconst dX12_ofTelling_56 rfl ?_
        refine vc_iconst dX12_ofTelling_57 rfl ?_
        refine vc_cSI dX12_ofTelling_58 (sfX12_isInF (M := M) hB0.1  w 0 2 ) rfl okX12_isIn stX12_isIn lkX12_83 rfl (Nat.le_of_ble_eq_true rfl) ⟨rfl, rfl⟩ (Nat.le_of_ble_eq_true rfl) (Nat.le_of_ble_eq_true rfl) (Nat.le_of_ble_eq_true rfl) ?_
        rintro x21 _ ⟨rfl, h22, h23, h24⟩
        refine vc_if_eq dX12_ofTelling_61 (fun h25 => ?_) (fun h25 => ?_)
        · refine vc_iconst dX12_ofTelling_82 rfl ?_
          refine vc_iret dX12_ofTelling_83 rfl (Nat.le_of_ble_eq_true rfl) (Nat.le_of_ble_eq_true rfl) ?_
          refine ⟨_, rfl, hB0, ?_⟩
          unfold OfTgS
          by_cases hw0 : w < 0 <;> first | exact Or.inr ⟨by omega, by omega⟩ | exact Or.inl ⟨by omega, Or.inl ⟨by omega, by omega⟩⟩ | exact Or.inl ⟨by omega, Or.inr (Or.inl ⟨by omega, by omega, by omega⟩)⟩ | exact Or.inl ⟨by omega, Or.inr (Or.inr (Or.inl ⟨by omega, by omega, by omega⟩))⟩ | exact Or.inl ⟨by omega, Or.inr (Or.inr (Or.inr ⟨by omega, by omega, by omega⟩))⟩ | exact Or.inl ⟨by omega, Or.inl ⟨by omega, h012 (by omega) (by omega)⟩⟩
        · refine vc_aload_n dX12_ofTelling_64 rfl ?_
          refine vc_getR dX12_ofTelling_65 flX12_7 (s_54 hB0.1.1) rfl (r_54_0 hB0.1.1) ?_
          refine vc_sipush dX12_ofTelling_68 rfl ?_
          refine vc_bipush dX12_ofTelling_71 rfl ?_
          refine vc_iload_n dX12_ofTelling_73 rfl ?_
          refine vc_imulE dX12_ofTelling_74 (by omega) (by omega) ?_
          refine vc_iaddE dX12_ofTelling_75 (by omega) (by omega) ?_
          refine vc_iload_n dX12_ofTelling_76 rfl ?_
          refine vc_iaddE dX12_ofTelling_77 (by omega) (by omega) ?_
          refine vc_iaload dX12_ofTelling_78 (s_55 hB0.1.1) (by omega) (by omega) ?_
          refine vc_goto dX12_ofTelling_79 ?_
          refine vc_iret dX12_ofTelling_83 rfl (Nat.le_of_ble_eq_true rfl) (Nat.le_of_ble_eq_true rfl) ?_
          refine ⟨_, rfl, hB0, ?_⟩
          unfold OfTgS
          by_cases hw0 : w < 0 <;> first | exact Or.inr ⟨by omega, by omega⟩ | exact Or.inl ⟨by omega, Or.inl ⟨by omega, by omega⟩⟩ | exact Or.inl ⟨by omega, Or.inr (Or.inl ⟨by omega, by omega, by omega⟩)⟩ | exact Or.inl ⟨by omega, Or.inr (Or.inr (Or.inl ⟨by omega, by omega, by omega⟩))⟩ | exact Or.inl ⟨by omega, Or.inr (Or.inr (Or.inr ⟨by omega, by omega, by omega⟩))⟩ | exact Or.inl ⟨by omega, Or.inl ⟨by omega, h012 (by omega) (by omega)⟩⟩
      · refine vc_aload_n dX12_ofTelling_46 rfl ?_
        refine vc_iload_n dX12_ofTelling_47 rfl ?_
        refine vc_iload_n dX12_ofTelling_48 rfl ?_
        refine vc_iconst dX12_ofTelling_49 rfl ?_
        refine vc_isubE dX12_ofTelling_50 (by omega) (by omega) ?_
        refine vc_cVI dX12_ofTelling_51 (sfX12_slipOfF (M := M) hB0.1 S t (w - 3) (by omega) (by omega) (by omega) (by omega) (by exact p0) (by omega) (by exact p1) (by exact p2) (by exact p3) (by exact p4)) rfl okX12_slipOf viX12_slipOf lkX12_446 (s_54 hB0.1.1) cl_12 rfl (Nat.le_of_ble_eq_true rfl) ⟨rfl, rfl⟩ (Nat.le_of_ble_eq_true rfl) (Nat.le_of_ble_eq_true rfl) (Nat.le_of_ble_eq_true rfl) ?_
        rintro x26 M27 ⟨hB28, kp29, kp30, kp31, kp32, kp33, kp34, h35⟩
        have hB36 : BF fQ M M27 := BF.go hB0 hB28.sq
        refine vc_iret dX12_ofTelling_54 rfl (Nat.le_of_ble_eq_true rfl) (Nat.le_of_ble_eq_true rfl) ?_
        refine ⟨_, rfl, hB36, ?_⟩
        unfold OfTgS
        by_cases hw0 : w < 0 <;> first | exact Or.inr ⟨by omega, by omega⟩ | exact Or.inl ⟨by omega, Or.inl ⟨by omega, by omega⟩⟩ | exact Or.inl ⟨by omega, Or.inr (Or.inl ⟨by omega, by omega, by omega⟩)⟩ | exact Or.inl ⟨by omega, Or.inr (Or.inr (Or.inl ⟨by omega, by omega, by omega⟩))⟩ | exact Or.inl ⟨by omega, Or.inr (Or.inr (Or.inr ⟨by omega, by omega, by omega⟩))⟩ | exact Or.inl ⟨by omega, Or.inl ⟨by omega, h012 (by omega) (by omega)⟩⟩
    · refine vc_aload_n dX12_ofTelling_27 rfl ?_
      refine vc_iload_n dX12_ofTelling_28 rfl ?_
      refine vc_iload_n dX12_ofTelling_29 rfl ?_
      refine vc_bipush dX12_ofTelling_30 rfl ?_
      refine vc_isubE dX12_ofTelling_32 (by omega) (by omega) ?_
      refine vc_cVI dX12_ofTelling_33 (sfX12_turnAtF (M := M) hB0.1  t (w - 10) (by omega) (by omega) (by omega) (by omega)) rfl okX12_turnAt viX12_turnAt lkX12_358 (s_54 hB0.1.1) cl_12 rfl (Nat.le_of_ble_eq_true rfl) ⟨rfl, rfl⟩ (Nat.le_of_ble_eq_true rfl) (Nat.le_of_ble_eq_true rfl) (Nat.le_of_ble_eq_true rfl) ?_
      rintro x37 _ ⟨rfl, h38⟩
      have hta : x37 = S 6 (9 * t + 3 + (w - 10)).toNat := by
        have z := (tg.2.2.2.2 (w - 10).toNat (by omega)).1
        rw [show (((w - 10).toNat : Nat) : Int) = w - 10 by omega] at z
        exact h38.trans z
      refine vc_iret dX12_ofTelling_36 rfl (Nat.le_of_ble_eq_true rfl) (Nat.le_of_ble_eq_true rfl) ?_
      refine ⟨_, rfl, hB0, ?_⟩
      unfold OfTgS
      by_cases hw0 : w < 0 <;> first | exact Or.inr ⟨by omega, by omega⟩ | exact Or.inl ⟨by omega, Or.inl ⟨by omega, by omega⟩⟩ | exact Or.inl ⟨by omega, Or.inr (Or.inl ⟨by omega, by omega, by omega⟩)⟩ | exact Or.inl ⟨by omega, Or.inr (Or.inr (Or.inl ⟨by omega, by omega, by omega⟩))⟩ | exact Or.inl ⟨by omega, Or.inr (Or.inr (Or.inr ⟨by omega, by omega, by omega⟩))⟩ | exact Or.inl ⟨by omega, Or.inl ⟨by omega, h012 (by omega) (by omega)⟩⟩
  · refine vc_iconst dX12_ofTelling_8 rfl ?_
    refine vc_iret dX12_ofTelling_9 rfl (Nat.le_of_ble_eq_true rfl) (Nat.le_of_ble_eq_true rfl) ?_
    refine ⟨_, rfl, hB0, ?_⟩
    unfold OfTgS
    by_cases hw0 : w < 0 <;> first | exact Or.inr ⟨by omega, by omega⟩ | exact Or.inl ⟨by omega, Or.inl ⟨by omega, by omega⟩⟩ | exact Or.inl ⟨by omega, Or.inr (Or.inl ⟨by omega, by omega, by omega⟩)⟩ | exact Or.inl ⟨by omega, Or.inr (Or.inr (Or.inl ⟨by omega, by omega, by omega⟩))⟩ | exact Or.inl ⟨by omega, Or.inr (Or.inr (Or.inr ⟨by omega, by omega, by omega⟩))⟩ | exact Or.inl ⟨by omega, Or.inl ⟨by omega, h012 (by omega) (by omega)⟩⟩

