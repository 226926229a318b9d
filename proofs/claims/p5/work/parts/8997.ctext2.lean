/-! TEXT of the class against the spec -/
/-- the texts of the class, what TEXT does to them -/
def TCc (M N : Mem) (r : Int) : Prop := (∀ j : Nat, mR N 14 j = mR M 14 j) ∧ (∀ j : Nat, (j : Int) ≠ mI M 1 10 → mR N 7 j = mR M 7 j) ∧ (r ≠ -1 → ∃ y z : Nat, mR N 7 (mI M 1 10).toNat = some y ∧ mR N y 2 = some z ∧ N.1[z]? = some (.inr (0, (5 * mI N y 3).toNat)) ∧ 0 ≤ mI N y 3 ∧ tk (mI M 21) (mI M 0 13) (plS (tk (mI M 21) (mI M 0 13)) (nx (mI M 21) (mI M 0 13)) (skb (mI M 21) (mI M 0 13) 0) (mI N y 3).toNat) = 0 ∧ ∀ e : Nat, (e : Int) < mI N y 3 → Q25 (tk (mI M 21) (mI M 0 13)) (nx (mI M 21) (mI M 0 13)) (mI N z) e (plS (tk (mI M 21) (mI M 0 13)) (nx (mI M 21) (mI M 0 13)) (skb (mI M 21) (mI M 0 13) 0) e))
theorem TCc_of {g : Nat → Int} {n : Int} {R B A N : Mem} {t : Option Nat} {i : Nat} (hR : RD9 g n R) (e22 : mI B 22 13 = mI R 22 13) (e25 : mI B 25 = mI R 25) (hT : ∀ y, t = some y → TxO A y) (hA : ∃ y, t = some y ∧ AsR B A y) (e1 : N.1 = A.1) (eI : ∀ k j : Nat, k ≠ 1 → mI N k j = mI A k j) (eR : ∀ k j : Nat, k ≠ 7 → mR N k j = mR A k j) (et : mR N 7 i = t) : ∃ y z : Nat, mR N 7 i = some y ∧ mR N y 2 = some z ∧ N.1[z]? = some (.inr (0, (5 * mI N y 3).toNat)) ∧ 0 ≤ mI N y 3 ∧ tk g n (plS (tk g n) (nx g n) (skb g n 0) (mI N y 3).toNat) = 0 ∧ ∀ e : Nat, (e : Int) < mI N y 3 → Q25 (tk g n) (nx g n) (mI N z) e (plS (tk g n) (nx g n) (skb g n 0) e) := by
  obtain ⟨y, ht, z, z1, z2, z3, z4⟩ := hA
  obtain ⟨q1, q2, q3, a, b, c, nn, mm, w1, w2, w3, w4, w5, w6, w7⟩ := hT y ht
  have ecz : c = z := by rw [w3] at z1; cases z1; rfl
  have y3 : mI N y 3 = mI R 22 13 := by rw [eI y 3 (by omega), z3, e22]
  have y0 : 0 ≤ mI N y 3 := by rw [eI y 3 (by omega)]; exact q3.1
  refine ⟨y, z, et.trans ht, (eR y 2 (by omega)).trans z1, ?_, y0, ?_, fun e he => ?_⟩
  · rw [e1, z2, y3, e22]
  · rw [y3]; exact hR.1
  · rw [y3] at he
    refine (hR.2 e he).co (fun j j1 j2 => ?_)
    rw [eI z j (by omega), z4 j (by rw [e22]; omega), e25]
set_option maxRecDepth 4000 in
theorem sfX6_addTextF {l : Launch} {M : Mem} (hB : Box M)  (t : Option Nat) (p0 : ∀ y, t = some y → TxO M y) : Call l mdX6_addText [aR 1, .inr (.inr t)] M (fun q N => ∃ r : Int, q = some (aI r) ∧ BX M N ∧ N.1 = M.1 ∧ (∀ k j : Nat, k ≠ 1 → mI N k j = mI M k j) ∧ (∀ k j : Nat, k ≠ 7 → mR N k j = mR M k j) ∧ (∀ j : Nat, (j : Int) ≠ mI M 1 10 → mR N 7 j = mR M 7 j) ∧ (mI M 1 10 < 4 → mR N 7 (mI M 1 10).toNat = t) ∧ (mI M 1 10 < 4 → r = mI M 1 10 ∧ mI N 1 10 = mI M 1 10 + 1) ∧ FzC M N ∧ mI N 0 = mI M 0) := by
  have hB0 : BX M M := BX.start hB
  refine Call.of [some (aR 1), some (.inr (.inr t))] rfl (Nat.le_of_ble_eq_true rfl) rfl ?_
  refine vc_aload_n dX6_addText_0 rfl ?_
  refine vc_getI dX6_addText_1 flX6_61 (s_1 hB0.1.1) rfl ?_
  have k1 : 0 ≤ mI M 1 10 ∧ mI M 1 10 ≤ 4 := b1_10 (M := M) hB0.1
  refine vc_iconst dX6_addText_4 rfl ?_
  refine vc_icmp_lt dX6_addText_5 (fun h2 => ?_) (fun h2 => ?_)
  · refine vc_aload_n dX6_addText_10 rfl ?_
    refine vc_getR dX6_addText_11 flX6_29 (s_1 hB0.1.1) rfl (r_1_5 hB0.1.1) ?_
    refine vc_aload_n dX6_addText_14 rfl ?_
    refine vc_getI dX6_addText_15 flX6_61 (s_1 hB0.1.1) rfl ?_
    refine vc_aload_n dX6_addText_18 rfl ?_
    refine vc_aastore dX6_addText_19 (s_7 hB0.1.1) (by omega) (by omega) (fun y hy => (p0 y hy).2.1) ?_
    have hB3 : BX M (sR M 7 ((mI M 1 10).toNat) t) := BX.T7 hB0 _ (fun y hy => p0 y hy)
    refine vc_aload_n dX6_addText_20 rfl ?_
    refine vc_dup dX6_addText_21 rfl ?_
    refine vc_getI dX6_addText_22 flX6_61 (s_1 hB3.1.1) rfl ?_
    refine vc_topI (mI M 1 10) rfl ?_
    have k4 : 0 ≤ mI M 1 10 ∧ mI M 1 10 ≤ 4 := b1_10 (M := (sR M 7 ((mI M 1 10).toNat) t)) hB3.1
    refine vc_iconst dX6_addText_25 rfl ?_
    refine vc_iaddE dX6_addText_26 (by omega) (by omega) ?_
    refine vc_putI dX6_addText_27 (plX6_61 _ rfl) (s_1 hB3.1.1) rfl ?_
    have hB5 : BX M (sI (sR M 7 ((mI M 1 10).toNat) t) 1 10 ((mI M 1 10) + 1)) := BX.w1_10 hB3 (by omega) (by omega)
    refine vc_aload_n dX6_addText_30 rfl ?_
    refine vc_getI dX6_addText_31 flX6_61 (s_1 hB5.1.1) rfl ?_
    refine vc_topI ((mI M 1 10) + 1) rfl ?_
    refine vc_iconst dX6_addText_34 rfl ?_
    refine vc_isubE dX6_addText_35 (by omega) (by omega) ?_
    refine vc_iret dX6_addText_36 rfl (Nat.le_of_ble_eq_true rfl) (Nat.le_of_ble_eq_true rfl) ?_
    have e10 : mI (sI (sR M 7 ((mI M 1 10).toNat) t) 1 10 ((mI M 1 10) + 1)) 1 10 = mI M 1 10 + 1 := mI_same
    exact ⟨_, rfl, hB5, rfl, fun k j c => (by rw [mI_sI, if_neg (fun e => c e.1)]; rfl), fun k j c => (by show mR (sR M 7 _ _) k j = _; rw [mR_sR, if_neg (fun e => c e.1)]), fun j c => (by show mR (sR M 7 _ _) 7 j = _; rw [mR_sR, if_neg (fun e => by omega)]), fun _ => (by show mR (sR M 7 _ _) 7 _ = _; rw [mR_sR, if_pos ⟨rfl, rfl⟩]), fun h => ⟨by omega, by omega⟩, (fun k j a b c => by rw [mI_sI, if_neg (fun e => c e)]; rfl), rfl⟩
  · refine vc_iconst dX6_addText_8 rfl ?_
    refine vc_iret dX6_addText_9 rfl (Nat.le_of_ble_eq_true rfl) (Nat.le_of_ble_eq_true rfl) ?_
    exact ⟨_, rfl, hB0, rfl, fun _ _ _ => rfl, fun _ _ _ => rfl, fun _ _ => rfl, fun h => by omega, fun h => by omega, (FzF.refl fQ M).c, rfl⟩

set_option maxRecDepth 4000 in
theorem sfX11_textF {l : Launch} {M : Mem} (hB : Box M)   (p0 : byt (mI M 21)) : Call l mdX11_text [aR 0] M (fun q N => ∃ r : Int, q = some (aI r) ∧ BX M N ∧ TXc M N r ∧ TCc M N r) := by
  have hB0 : BX M M := BX.start hB
  refine Call.of [some (aR 0), none] rfl (Nat.le_of_ble_eq_true rfl) rfl ?_
  refine vc_aload_n dX11_text_0 rfl ?_
  refine vc_getR dX11_text_1 flX11_10 (s_0 hB0.1.1) rfl (r_0_0 hB0.1.1) ?_
  refine vc_getI dX11_text_4 flX11_136 (s_1 hB0.1.1) rfl ?_
  have k1 : 0 ≤ mI M 1 10 ∧ mI M 1 10 ≤ 4 := b1_10 (M := M) hB0.1
  refine vc_iconst dX11_text_7 rfl ?_
  refine vc_icmp_lt dX11_text_8 (fun h2 => ?_) (fun h2 => ?_)
  · refine vc_aload_n dX11_text_13 rfl ?_
    refine vc_getR dX11_text_14 flX11_38 (s_0 hB0.1.1) rfl (r_0_5 hB0.1.1) ?_
    refine vc_aload_n dX11_text_17 rfl ?_
    refine vc_getI dX11_text_18 flX11_103 (s_0 hB0.1.1) rfl ?_
    have k3 : 0 ≤ mI M 0 13 ∧ mI M 0 13 ≤ 300 := b0_13 (M := M) hB0.1
    refine vc_cVI dX11_text_21 (sfX4_readsF (M := M) hB0.1  (mI M 0 13) (by omega) (by omega) (by exact p0)) rfl okX4_reads viX4_reads lkX11_139 (s_22 hB0.1.1) cl_4 rfl (Nat.le_of_ble_eq_true rfl) ⟨rfl, rfl⟩ (Nat.le_of_ble_eq_true rfl) (Nat.le_of_ble_eq_true rfl) (Nat.le_of_ble_eq_true rfl) ?_
    rintro x4 M5 ⟨hB6, h7, h8, h9, h10⟩
    have hB11 : BX M M5 := BX.go hB0 hB6.x
    have htx := h10
    have hrd9 := h9
    unfold TX at htx
    have hfz := hB6.2.2
    have hrz := hB6.2.1.2.1 rfl
    have e10 := hfz 1 10 rfl
    refine vc_istore_n dX11_text_24 (by decide) rfl (show _ = [some (aR 0), some (aI x4)] from rfl) ?_
    refine vc_aload_n dX11_text_25 rfl ?_
    refine vc_iconst dX11_text_26 rfl ?_
    refine vc_putI dX11_text_27 (plX11_103 _ rfl) (s_0 hB11.1.1) rfl ?_
    have hB12 : BX M (sI M5 0 13 0) := BX.w0_13 hB11 (by omega) (by omega)
    refine vc_aload_n dX11_text_30 rfl ?_
    refine vc_aload_n dX11_text_31 rfl ?_
    refine vc_getR dX11_text_32 flX11_38 (s_0 hB12.1.1) rfl (r_0_5 hB12.1.1) ?_
    refine vc_getI dX11_text_35 flX11_142 (s_22 hB12.1.1) rfl ?_
    refine vc_topI (mI M5 22 7) rfl ?_
    refine vc_putI dX11_text_38 (plX11_107 _ rfl) (s_0 hB12.1.1) rfl ?_
    have hB13 : BX M (sI (sI M5 0 13 0) 0 14 (mI M5 22 7)) := BX.w0_14 hB12
    refine vc_aload_n dX11_text_41 rfl ?_
    refine vc_aload_n dX11_text_42 rfl ?_
    refine vc_getR dX11_text_43 flX11_38 (s_0 hB13.1.1) rfl (r_0_5 hB13.1.1) ?_
    refine vc_getI dX11_text_46 flX11_145 (s_22 hB13.1.1) rfl ?_
    refine vc_topI (mI M5 22 8) rfl ?_
    refine vc_putI dX11_text_49 (plX11_110 _ rfl) (s_0 hB13.1.1) rfl ?_
    have hB14 : BX M (sI (sI (sI M5 0 13 0) 0 14 (mI M5 22 7)) 0 15 (mI M5 22 8)) := BX.w0_15 hB13
    refine vc_iload_n dX11_text_52 rfl ?_
    refine vc_if_eq dX11_text_53 (fun h15 => ?_) (fun h15 => ?_)
    · refine vc_iconst dX11_text_73 rfl ?_
      refine vc_iret dX11_text_74 rfl (Nat.le_of_ble_eq_true rfl) (Nat.le_of_ble_eq_true rfl) ?_
      have k16 : mI (sI (sI (sI M5 0 13 0) 0 14 (mI M5 22 7)) 0 15 (mI M5 22 8)) 0 13 = 0 := rfl
      have k17 : mI (sI (sI (sI M5 0 13 0) 0 14 (mI M5 22 7)) 0 15 (mI M5 22 8)) 0 14 = mI M5 22 7 := rfl
      have k18 : mI (sI (sI (sI M5 0 13 0) 0 14 (mI M5 22 7)) 0 15 (mI M5 22 8)) 0 15 = mI M5 22 8 := rfl
      have htx2 : (x4 = 1 ∧ (sAll (mI M 21) (mI M 0 13)).1 = 0 ∧ mI M5 22 7 = 0 ∧ mI M5 22 8 = -1) ∨ (x4 = 0 ∧ (sAll (mI M 21) (mI M 0 13)).1 ≠ 0 ∧ mI M5 22 7 = (sAll (mI M 21) (mI M 0 13)).1 ∧ mI M5 22 8 = (sAll (mI M 21) (mI M 0 13)).2) := htx
      clear htx
      have ew10 : mI (sI (sI (sI M5 0 13 0) 0 14 (mI M5 22 7)) 0 15 (mI M5 22 8)) 1 10 = mI M5 1 10 := rfl
      exact ⟨_, rfl, hB14, Or.inr ⟨by omega, by omega, ((((FzF.c hfz).trans FzC.w0).trans FzC.w0).trans FzC.w0), Or.inr ⟨by omega, by omega, by omega, by omega, by omega⟩⟩, ⟨fun j => hrz 14 j (Or.inr rfl), fun j _ => hrz 7 j (Or.inl rfl), fun h => by omega⟩⟩
    · refine vc_aload_n dX11_text_56 rfl ?_
      refine vc_getR dX11_text_57 flX11_10 (s_0 hB14.1.1) rfl (r_0_0 hB14.1.1) ?_
      refine vc_aload_n dX11_text_60 rfl ?_
      refine vc_getR dX11_text_61 flX11_38 (s_0 hB14.1.1) rfl (r_0_5 hB14.1.1) ?_
      have k19 : mI (sI (sI (sI M5 0 13 0) 0 14 (mI M5 22 7)) 0 15 (mI M5 22 8)) 0 13 = 0 := rfl
      have k20 : mI (sI (sI (sI M5 0 13 0) 0 14 (mI M5 22 7)) 0 15 (mI M5 22 8)) 0 14 = mI M5 22 7 := rfl
      have k21 : mI (sI (sI (sI M5 0 13 0) 0 14 (mI M5 22 7)) 0 15 (mI M5 22 8)) 0 15 = mI M5 22 8 := rfl
      have ew13 : mI (sI (sI (sI M5 0 13 0) 0 14 (mI M5 22 7)) 0 15 (mI M5 22 8)) 0 13 = 0 := rfl
      have ew14 : mI (sI (sI (sI M5 0 13 0) 0 14 (mI M5 22 7)) 0 15 (mI M5 22 8)) 0 14 = mI M5 22 7 := rfl
      have ew15 : mI (sI (sI (sI M5 0 13 0) 0 14 (mI M5 22 7)) 0 15 (mI M5 22 8)) 0 15 = mI M5 22 8 := rfl
      have ew10 : mI (sI (sI (sI M5 0 13 0) 0 14 (mI M5 22 7)) 0 15 (mI M5 22 8)) 1 10 = mI M5 1 10 := rfl
      refine vc_aVO dX11_text_64 (sfX4_asReadF (M := (sI (sI (sI M5 0 13 0) 0 14 (mI M5 22 7)) 0 15 (mI M5 22 8))) hB14.1   ) rfl okX4_asRead viX4_asRead lkX11_148 (s_22 hB14.1.1) cl_4 rfl (Nat.le_of_ble_eq_true rfl) (Nat.le_of_ble_eq_true rfl) (Nat.le_of_ble_eq_true rfl) (Nat.le_of_ble_eq_true rfl) ?_
      rintro o22 M23 ⟨hB24, h25, h26⟩
      have hB27 : BX M M23 := BX.go hB14 hB24.x
      have hty := h25
      have hasr := h26
      have hfa := hB24.2.2
      have hra := hB24.2.1.2.1 rfl
      have ea13 := hfa 0 13 rfl
      have ea14 := hfa 0 14 rfl
      have ea15 := hfa 0 15 rfl
      have ea10 := hfa 1 10 rfl
      refine vc_cVI dX11_text_67 (sfX6_addTextF (M := M23) hB27.1  o22 (by exact hty)) rfl okX6_addText viX6_addText lkX11_152 (s_1 hB27.1.1) cl_6 rfl (Nat.le_of_ble_eq_true rfl) ⟨rfl, rfl⟩ (Nat.le_of_ble_eq_true rfl) (Nat.le_of_ble_eq_true rfl) (Nat.le_of_ble_eq_true rfl) ?_
      rintro x28 M29 ⟨hB30, h31, h32, h33, h34, h35, h36, h37, h38⟩
      have hB39 : BX M M29 := BX.go hB27 hB30
      have had := h36 (by omega)
      have hfc := h37
      have et13 := congrFun h38 13
      have et14 := congrFun h38 14
      have et15 := congrFun h38 15
      have h10e : mI M23 1 10 = mI M 1 10 := by omega
      have htcc : TCc M M29 0 := ⟨fun j => (h33 14 j (by decide)).trans ((hra 14 j (Or.inr rfl)).trans (hrz 14 j (Or.inr rfl))), fun j hj => (h34 j (by rw [h10e]; exact hj)).trans ((hra 7 j (Or.inl rfl)).trans (hrz 7 j (Or.inl rfl))), fun _ => TCc_of (hrd9 (by omega)) rfl rfl hty hasr h31 h32 h33 (by rw [← h10e]; exact h35 (by omega))⟩
      refine vc_goto dX11_text_70 ?_
      refine vc_iret dX11_text_74 rfl (Nat.le_of_ble_eq_true rfl) (Nat.le_of_ble_eq_true rfl) ?_
      have htx2 : (x4 = 1 ∧ (sAll (mI M 21) (mI M 0 13)).1 = 0 ∧ mI M5 22 7 = 0 ∧ mI M5 22 8 = -1) ∨ (x4 = 0 ∧ (sAll (mI M 21) (mI M 0 13)).1 ≠ 0 ∧ mI M5 22 7 = (sAll (mI M 21) (mI M 0 13)).1 ∧ mI M5 22 8 = (sAll (mI M 21) (mI M 0 13)).2) := htx
      clear htx
      exact ⟨_, rfl, hB39, Or.inr ⟨by omega, by omega, (((((FzF.c hfz).trans FzC.w0).trans FzC.w0).trans FzC.w0).trans hfa.c).trans hfc, Or.inl ⟨by omega, by omega, by omega, by omega, by omega⟩⟩, ⟨htcc.1, htcc.2.1, fun _ => htcc.2.2 (by decide)⟩⟩
  · refine vc_iconst dX11_text_11 rfl ?_
    refine vc_iret dX11_text_12 rfl (Nat.le_of_ble_eq_true rfl) (Nat.le_of_ble_eq_true rfl) ?_
    exact ⟨_, rfl, hB0, Or.inl ⟨by omega, by omega, FzF.refl fQ M⟩, ⟨fun _ => rfl, fun _ _ => rfl, fun h => by omega⟩⟩

