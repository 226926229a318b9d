/-! TEXT of the class against the spec -/
set_option maxRecDepth 4000 in
theorem sfX6_addTextF {l : Launch} {M : Mem} (hB : Box M)  (t : Option Nat) (p0 : ∀ y, t = some y → TxO M y) : Call l mdX6_addText [aR 1, .inr (.inr t)] M (fun q N => ∃ r : Int, q = some (aI r) ∧ BX M N ∧ (mI M 1 10 < 4 → r = mI M 1 10 ∧ mI N 1 10 = mI M 1 10 + 1) ∧ FzC M N ∧ mI N 0 = mI M 0) := by
  have hB0 := BX.start hB
  refine Call.of [some (aR 1), some (.inr (.inr t))] rfl (Nat.le_of_ble_eq_true rfl) rfl ?_
  refine vc_aload_n dX6_addText_0 rfl ?_
  refine vc_getI dX6_addText_1 flX6_61 (s_1 hB0.1.1) rfl ?_
  have k1 : 0 ≤ mI M 1 10 ∧ mI M 1 10 ≤ 4 := b1_10 (M := M) hB0.1
  refine vc_iconst dX6_addText_4 rfl ?_
  refine vc_icmp_lt dX6_addText_5 (fun h2 => ?_) (fun h2 => ?_)
  · refine vc_aload_n dX6_addText_10 rfl ?_
    refine vc_getR dX6_addText_11 flX6_29 (s_1 hB0.1.1) rfl (r_1_5 hB0.1.1) ?_
    refine vc_aload_n dX6_addText_14 rfl ?_
    refine vc_getI dX6_addText_15 flX6_61 (s_1 hB0.1.1) rfl ?_
    refine vc_aload_n dX6_addText_18 rfl ?_
    refine vc_aastore dX6_addText_19 (s_7 hB0.1.1) (by omega) (by omega) (fun y hy => (p0 y hy).2.1) ?_
    have hB3 : BX M (sR M 7 ((mI M 1 10).toNat) t) := BX.T7 hB0 _ (fun y hy => p0 y hy)
    refine vc_aload_n dX6_addText_20 rfl ?_
    refine vc_dup dX6_addText_21 rfl ?_
    refine vc_getI dX6_addText_22 flX6_61 (s_1 hB3.1.1) rfl ?_
    refine vc_topI (mI M 1 10) rfl ?_
    have k4 : 0 ≤ mI M 1 10 ∧ mI M 1 10 ≤ 4 := b1_10 (M := (sR M 7 ((mI M 1 10).toNat) t)) hB3.1
    refine vc_iconst dX6_addText_25 rfl ?_
    refine vc_iaddE dX6_addText_26 (by omega) (by omega) ?_
    refine vc_putI dX6_addText_27 (plX6_61 _ rfl) (s_1 hB3.1.1) rfl ?_
    have hB5 : BX M (sI (sR M 7 ((mI M 1 10).toNat) t) 1 10 ((mI M 1 10) + 1)) := BX.w1_10 hB3 (by omega) (by omega)
    refine vc_aload_n dX6_addText_30 rfl ?_
    refine vc_getI dX6_addText_31 flX6_61 (s_1 hB5.1.1) rfl ?_
    refine vc_topI ((mI M 1 10) + 1) rfl ?_
    refine vc_iconst dX6_addText_34 rfl ?_
    refine vc_isubE dX6_addText_35 (by omega) (by omega) ?_
    refine vc_iret dX6_addText_36 rfl (Nat.le_of_ble_eq_true rfl) (Nat.le_of_ble_eq_true rfl) ?_
    have e10 : mI (sI (sR M 7 ((mI M 1 10).toNat) t) 1 10 ((mI M 1 10) + 1)) 1 10 = mI M 1 10 + 1 := mI_same
    exact ⟨_, rfl, hB5, fun h => ⟨by omega, by omega⟩, (fun k j a b c => by rw [mI_sI, if_neg (fun e => c e.1)]; rfl), rfl⟩
  · refine vc_iconst dX6_addText_8 rfl ?_
    refine vc_iret dX6_addText_9 rfl (Nat.le_of_ble_eq_true rfl) (Nat.le_of_ble_eq_true rfl) ?_
    exact ⟨_, rfl, hB0, fun h => by omega, (Fz.refl M).c, rfl⟩

set_option maxRecDepth 4000 in
theorem sfX11_textF {l : Launch} {M : Mem} (hB : Box M)   (p0 : byt (mI M 21)) : Call l mdX11_text [aR 0] M (fun q N => ∃ r : Int, q = some (aI r) ∧ BX M N ∧ TXc M N r) := by
  have hB0 := BX.start hB
  refine Call.of [some (aR 0), none] rfl (Nat.le_of_ble_eq_true rfl) rfl ?_
  refine vc_aload_n dX11_text_0 rfl ?_
  refine vc_getR dX11_text_1 flX11_10 (s_0 hB0.1.1) rfl (r_0_0 hB0.1.1) ?_
  refine vc_getI dX11_text_4 flX11_136 (s_1 hB0.1.1) rfl ?_
  have k1 : 0 ≤ mI M 1 10 ∧ mI M 1 10 ≤ 4 := b1_10 (M := M) hB0.1
  refine vc_iconst dX11_text_7 rfl ?_
  refine vc_icmp_lt dX11_text_8 (fun h2 => ?_) (fun h2 => ?_)
  · refine vc_aload_n dX11_text_13 rfl ?_
    refine vc_getR dX11_text_14 flX11_38 (s_0 hB0.1.1) rfl (r_0_5 hB0.1.1) ?_
    refine vc_aload_n dX11_text_17 rfl ?_
    refine vc_getI dX11_text_18 flX11_103 (s_0 hB0.1.1) rfl ?_
    have k3 : 0 ≤ mI M 0 13 ∧ mI M 0 13 ≤ 300 := b0_13 (M := M) hB0.1
    refine vc_cVI dX11_text_21 (sfX4_readsF (M := M) hB0.1  (mI M 0 13) (by omega) (by omega) (by exact p0)) rfl okX4_reads viX4_reads lkX11_139 (s_22 hB0.1.1) cl_4 rfl (Nat.le_of_ble_eq_true rfl) ⟨rfl, rfl⟩ (Nat.le_of_ble_eq_true rfl) (Nat.le_of_ble_eq_true rfl) (Nat.le_of_ble_eq_true rfl) ?_
    rintro x4 M5 ⟨hB6, h7, h8, h9⟩
    have hB10 : BX M M5 := BX.go hB0 hB6.x
    have htx := h9
    unfold TX at htx
    have hfz := hB6.2.2
    have e10 := hfz 1 10 rfl
    refine vc_istore_n dX11_text_24 (by decide) rfl (show _ = [some (aR 0), some (aI x4)] from rfl) ?_
    refine vc_aload_n dX11_text_25 rfl ?_
    refine vc_iconst dX11_text_26 rfl ?_
    refine vc_putI dX11_text_27 (plX11_103 _ rfl) (s_0 hB10.1.1) rfl ?_
    have hB11 : BX M (sI M5 0 13 0) := BX.w0_13 hB10 (by omega) (by omega)
    refine vc_aload_n dX11_text_30 rfl ?_
    refine vc_aload_n dX11_text_31 rfl ?_
    refine vc_getR dX11_text_32 flX11_38 (s_0 hB11.1.1) rfl (r_0_5 hB11.1.1) ?_
    refine vc_getI dX11_text_35 flX11_142 (s_22 hB11.1.1) rfl ?_
    refine vc_topI (mI M5 22 7) rfl ?_
    refine vc_putI dX11_text_38 (plX11_107 _ rfl) (s_0 hB11.1.1) rfl ?_
    have hB12 : BX M (sI (sI M5 0 13 0) 0 14 (mI M5 22 7)) := BX.w0_14 hB11
    refine vc_aload_n dX11_text_41 rfl ?_
    refine vc_aload_n dX11_text_42 rfl ?_
    refine vc_getR dX11_text_43 flX11_38 (s_0 hB12.1.1) rfl (r_0_5 hB12.1.1) ?_
    refine vc_getI dX11_text_46 flX11_145 (s_22 hB12.1.1) rfl ?_
    refine vc_topI (mI M5 22 8) rfl ?_
    refine vc_putI dX11_text_49 (plX11_110 _ rfl) (s_0 hB12.1.1) rfl ?_
    have hB13 : BX M (sI (sI (sI M5 0 13 0) 0 14 (mI M5 22 7)) 0 15 (mI M5 22 8)) := BX.w0_15 hB12
    refine vc_iload_n dX11_text_52 rfl ?_
    refine vc_if_eq dX11_text_53 (fun h14 => ?_) (fun h14 => ?_)
    · refine vc_iconst dX11_text_73 rfl ?_
      refine vc_iret dX11_text_74 rfl (Nat.le_of_ble_eq_true rfl) (Nat.le_of_ble_eq_true rfl) ?_
      have k15 : mI (sI (sI (sI M5 0 13 0) 0 14 (mI M5 22 7)) 0 15 (mI M5 22 8)) 0 13 = 0 := rfl
      have k16 : mI (sI (sI (sI M5 0 13 0) 0 14 (mI M5 22 7)) 0 15 (mI M5 22 8)) 0 14 = mI M5 22 7 := rfl
      have k17 : mI (sI (sI (sI M5 0 13 0) 0 14 (mI M5 22 7)) 0 15 (mI M5 22 8)) 0 15 = mI M5 22 8 := rfl
      have htx2 : (x4 = 1 ∧ (sAll (mI M 21) (mI M 0 13)).1 = 0 ∧ mI M5 22 7 = 0 ∧ mI M5 22 8 = -1) ∨ (x4 = 0 ∧ (sAll (mI M 21) (mI M 0 13)).1 ≠ 0 ∧ mI M5 22 7 = (sAll (mI M 21) (mI M 0 13)).1 ∧ mI M5 22 8 = (sAll (mI M 21) (mI M 0 13)).2) := htx
      clear htx
      have ew10 : mI (sI (sI (sI M5 0 13 0) 0 14 (mI M5 22 7)) 0 15 (mI M5 22 8)) 1 10 = mI M5 1 10 := rfl
      exact ⟨_, rfl, hB13, Or.inr ⟨by omega, by omega, ((((Fz.c hfz).trans FzC.w0).trans FzC.w0).trans FzC.w0), Or.inr ⟨by omega, by omega, by omega, by omega, by omega⟩⟩⟩
    · refine vc_aload_n dX11_text_56 rfl ?_
      refine vc_getR dX11_text_57 flX11_10 (s_0 hB13.1.1) rfl (r_0_0 hB13.1.1) ?_
      refine vc_aload_n dX11_text_60 rfl ?_
      refine vc_getR dX11_text_61 flX11_38 (s_0 hB13.1.1) rfl (r_0_5 hB13.1.1) ?_
      have k18 : mI (sI (sI (sI M5 0 13 0) 0 14 (mI M5 22 7)) 0 15 (mI M5 22 8)) 0 13 = 0 := rfl
      have k19 : mI (sI (sI (sI M5 0 13 0) 0 14 (mI M5 22 7)) 0 15 (mI M5 22 8)) 0 14 = mI M5 22 7 := rfl
      have k20 : mI (sI (sI (sI M5 0 13 0) 0 14 (mI M5 22 7)) 0 15 (mI M5 22 8)) 0 15 = mI M5 22 8 := rfl
      have ew13 : mI (sI (sI (sI M5 0 13 0) 0 14 (mI M5 22 7)) 0 15 (mI M5 22 8)) 0 13 = 0 := rfl
      have ew14 : mI (sI (sI (sI M5 0 13 0) 0 14 (mI M5 22 7)) 0 15 (mI M5 22 8)) 0 14 = mI M5 22 7 := rfl
      have ew15 : mI (sI (sI (sI M5 0 13 0) 0 14 (mI M5 22 7)) 0 15 (mI M5 22 8)) 0 15 = mI M5 22 8 := rfl
      have ew10 : mI (sI (sI (sI M5 0 13 0) 0 14 (mI M5 22 7)) 0 15 (mI M5 22 8)) 1 10 = mI M5 1 10 := rfl
      refine vc_aVO dX11_text_64 (sfX4_asRead (M := (sI (sI (sI M5 0 13 0) 0 14 (mI M5 22 7)) 0 15 (mI M5 22 8))) hB13.1   ) rfl okX4_asRead viX4_asRead lkX11_148 (s_22 hB13.1.1) cl_4 rfl (Nat.le_of_ble_eq_true rfl) (Nat.le_of_ble_eq_true rfl) (Nat.le_of_ble_eq_true rfl) (Nat.le_of_ble_eq_true rfl) ?_
      rintro o21 M22 ⟨hB23, h24⟩
      have hB25 : BX M M22 := BX.go hB13 hB23.x
      have hty := h24
      have hfa := hB23.2.2
      have ea13 := hfa 0 13 rfl
      have ea14 := hfa 0 14 rfl
      have ea15 := hfa 0 15 rfl
      have ea10 := hfa 1 10 rfl
      refine vc_cVI dX11_text_67 (sfX6_addTextF (M := M22) hB25.1  o21 (by exact hty)) rfl okX6_addText viX6_addText lkX11_152 (s_1 hB25.1.1) cl_6 rfl (Nat.le_of_ble_eq_true rfl) ⟨rfl, rfl⟩ (Nat.le_of_ble_eq_true rfl) (Nat.le_of_ble_eq_true rfl) (Nat.le_of_ble_eq_true rfl) ?_
      rintro x26 M27 ⟨hB28, h29, h30, h31⟩
      have hB32 : BX M M27 := BX.go hB25 hB28
      have had := h29 (by omega)
      have hfc := h30
      have et13 := congrFun h31 13
      have et14 := congrFun h31 14
      have et15 := congrFun h31 15
      refine vc_goto dX11_text_70 ?_
      refine vc_iret dX11_text_74 rfl (Nat.le_of_ble_eq_true rfl) (Nat.le_of_ble_eq_true rfl) ?_
      have htx2 : (x4 = 1 ∧ (sAll (mI M 21) (mI M 0 13)).1 = 0 ∧ mI M5 22 7 = 0 ∧ mI M5 22 8 = -1) ∨ (x4 = 0 ∧ (sAll (mI M 21) (mI M 0 13)).1 ≠ 0 ∧ mI M5 22 7 = (sAll (mI M 21) (mI M 0 13)).1 ∧ mI M5 22 8 = (sAll (mI M 21) (mI M 0 13)).2) := htx
      clear htx
      exact ⟨_, rfl, hB32, Or.inr ⟨by omega, by omega, (((((Fz.c hfz).trans FzC.w0).trans FzC.w0).trans FzC.w0).trans hfa.c).trans hfc, Or.inl ⟨by omega, by omega, by omega, by omega, by omega⟩⟩⟩
  · refine vc_iconst dX11_text_11 rfl ?_
    refine vc_iret dX11_text_12 rfl (Nat.le_of_ble_eq_true rfl) (Nat.le_of_ble_eq_true rfl) ?_
    exact ⟨_, rfl, hB0, Or.inl ⟨by omega, by omega, Fz.refl M⟩⟩
