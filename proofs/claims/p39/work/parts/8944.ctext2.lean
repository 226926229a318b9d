/-! TEXT of the class against the spec -/
/-- the texts of the class, what TEXT does to them -/
def TCc (M N : Mem) (r : Int) : Prop := (∀ j : Nat, mR N 14 j = mR M 14 j) ∧ (∀ j : Nat, (j : Int) ≠ mI M 1 10 → mR N 7 j = mR M 7 j) ∧ (r ≠ -1 → ∃ y z : Nat, mR N 7 (mI M 1 10).toNat = some y ∧ mR N y 2 = some z ∧ N.1[z]? = some (.inr (0, (5 * mI N y 3).toNat)) ∧ 0 ≤ mI N y 3 ∧ tk (mI M 21) (mI M 0 13) (plS (tk (mI M 21) (mI M 0 13)) (nx (mI M 21) (mI M 0 13)) (skb (mI M 21) (mI M 0 13) 0) (mI N y 3).toNat) = 0 ∧ ∀ e : Nat, (e : Int) < mI N y 3 → Q25 (tk (mI M 21) (mI M 0 13)) (nx (mI M 21) (mI M 0 13)) (mI N z) e (plS (tk (mI M 21) (mI M 0 13)) (nx (mI M 21) (mI M 0 13)) (skb (mI M 21) (mI M 0 13) 0) e))
theorem TCc_of {g : Nat → Int} {n : Int} {R B A N : Mem} {t : Option Nat} {i : Nat} (hR : RD9 g n R) (e22 : mI B 22 13 = mI R 22 13) (e25 : mI B 25 = mI R 25) (hT : ∀ y, t = some y → TxO A y) (hA : ∃ y, t = some y ∧ AsR B A y ∧ AsL B A y) (e1 : N.1 = A.1) (eI : ∀ k j : Nat, k ≠ 1 → mI N k j = mI A k j) (eR : ∀ k j : Nat, k ≠ 7 → mR N k j = mR A k j) (et : mR N 7 i = t) : ∃ y z : Nat, mR N 7 i = some y ∧ mR N y 2 = some z ∧ N.1[z]? = some (.inr (0, (5 * mI N y 3).toNat)) ∧ 0 ≤ mI N y 3 ∧ tk g n (plS (tk g n) (nx g n) (skb g n 0) (mI N y 3).toNat) = 0 ∧ ∀ e : Nat, (e : Int) < mI N y 3 → Q25 (tk g n) (nx g n) (mI N z) e (plS (tk g n) (nx g n) (skb g n 0) e) := by
  obtain ⟨y, ht, ⟨z, z1, z2, z3, z4⟩, _⟩ := hA
  obtain ⟨q1, q2, q3, a, b, c, nn, mm, w1, w2, w3, w4, w5, w6, w7⟩ := hT y ht
  have ecz : c = z := by rw [w3] at z1; cases z1; rfl
  have y3 : mI N y 3 = mI R 22 13 := by rw [eI y 3 (by omega), z3, e22]
  have y0 : 0 ≤ mI N y 3 := by rw [eI y 3 (by omega)]; exact q3.1
  refine ⟨y, z, et.trans ht, (eR y 2 (by omega)).trans z1, ?_, y0, ?_, fun e he => ?_⟩
  · rw [e1, z2, y3, e22]
  · rw [y3]; exact hR.1
  · rw [y3] at he
    refine (hR.2 e he).co (fun j j1 j2 => ?_)
    rw [eI z j (by omega), z4 j (by rw [e22]; omega), e25]
/-- the laws of a text of the class -/
def LWt (g : Nat → Int) (n : Int) (C L : Nat → Int) (i : Int) : Prop := (∀ e : Nat, (e : Int) < i → 0 ≤ tk g n (plS (tk g n) (nx g n) (skb g n 0) e) - 101 → tk g n (plS (tk g n) (nx g n) (skb g n 0) e) - 101 ≤ 4 → LC C (tk g n) (nx g n) (tk g n (plS (tk g n) (nx g n) (skb g n 0) e) - 101) (nx g n (plS (tk g n) (nx g n) (skb g n 0) e)) (L (2 * (tk g n (plS (tk g n) (nx g n) (skb g n 0) e) - 101)).toNat) (L (2 * (tk g n (plS (tk g n) (nx g n) (skb g n 0) e) - 101) + 1).toNat)) ∧ ∀ w : Nat, w ≤ 4 → (∀ e : Nat, (e : Int) < i → tk g n (plS (tk g n) (nx g n) (skb g n 0) e) - 101 ≠ w) → L (2 * w) = -1
theorem LC.co2 {f f' : Nat → Int} {k x : Int → Int} {w p a b m : Int} (h : LC f k x w p a b) (hm : b ≤ m) (hf : ∀ j : Nat, (j : Int) < m → f' j = f j) : LC f' k x w p a b := by
  obtain ⟨c, h1, h2, h3, h4, h5, h6⟩ := h
  exact ⟨c, h1, h2, h3, h4, h5, fun i hi => (hf _ (by omega)).trans (h6 i hi)⟩
def TLc (M N : Mem) (r : Int) : Prop := r ≠ -1 → ∃ y z0 z1 : Nat, mR N 7 (mI M 1 10).toNat = some y ∧ mR N y 0 = some z0 ∧ mR N y 1 = some z1 ∧ LWt (mI M 21) (mI M 0 13) (mI N z0) (mI N z1) (mI N y 3) ∧ ∃ n0 : Nat, N.1[z0]? = some (.inr (0, n0)) ∧ ∀ w : Nat, w ≤ 4 → mI N z1 (2 * w) ≠ -1 → mI N z1 (2 * w + 1) ≤ n0
theorem TLc_of {g : Nat → Int} {n : Int} {R B A N : Mem} {t : Option Nat} {i : Nat} (hL : LWI g n R (mI R 22 13)) (e22 : mI B 22 13 = mI R 22 13) (e12 : mI B 22 12 = mI R 22 12) (e23 : mI B 23 = mI R 23) (e24 : mI B 24 = mI R 24) (hT : ∀ y, t = some y → TxO A y) (hA : ∃ y, t = some y ∧ AsR B A y ∧ AsL B A y) (eI : ∀ k j : Nat, k ≠ 1 → mI N k j = mI A k j) (eR : ∀ k j : Nat, k ≠ 7 → mR N k j = mR A k j) (et : mR N 7 i = t) (e1A : N.1 = A.1) (c0 : 0 ≤ mI R 22 12) : ∃ y z0 z1 : Nat, mR N 7 i = some y ∧ mR N y 0 = some z0 ∧ mR N y 1 = some z1 ∧ LWt g n (mI N z0) (mI N z1) (mI N y 3) ∧ ∃ n0 : Nat, N.1[z0]? = some (.inr (0, n0)) ∧ ∀ w : Nat, w ≤ 4 → mI N z1 (2 * w) ≠ -1 → mI N z1 (2 * w + 1) ≤ n0 := by
  obtain ⟨y, ht, ⟨z, z1, z2, z3, z4⟩, a0, a1, x0, x1, x2, x3, x4⟩ := hA
  obtain ⟨q1, q2, q3, a, b, c, nn, mm, w1, w2, w3, w4, w5, w6, w7⟩ := hT y ht
  have e0 : a = a0 := by rw [w1] at x0; cases x0; rfl
  have e1 : b = a1 := by rw [w2] at x1; cases x1; rfl
  have y3 : mI N y 3 = mI R 22 13 := by rw [eI y 3 (by omega), z3, e22]
  obtain ⟨l0, l1, l2⟩ := hL
  have d1 : ∀ j : Nat, j < 10 → mI N a1 j = mI R 24 j := fun j hj => by rw [eI a1 j (by omega), x3 j hj, e24]
  refine ⟨y, a0, a1, et.trans ht, (eR y 0 (by omega)).trans x0, (eR y 1 (by omega)).trans x1, ?_⟩
  rw [y3]
  refine ⟨⟨fun e he h0 h4 => ?_, fun w hw hn => ?_⟩, (mI B 22 12).toNat, by rw [e1A]; exact x4, fun w hw hne => ?_⟩
  · obtain ⟨m1, m2⟩ := l1 e he h0 h4
    rw [d1 _ (by omega), d1 _ (by omega)]
    exact m1.co2 m2 (fun j hj => by rw [eI a0 j (by omega), x2 j (by rw [e12]; exact hj), e23])
  · rw [d1 _ (by omega)]
    exact l2 w hw hn
  · have hx : ∃ e : Nat, (e : Int) < mI R 22 13 ∧ tk g n (plS (tk g n) (nx g n) (skb g n 0) e) - 101 = w := Classical.byContradiction (fun hc => hne (by rw [d1 _ (by omega)]; exact l2 w hw (fun e he q => hc ⟨e, he, q⟩)))
    obtain ⟨e, he, hq⟩ := hx
    have m2 := (l1 e he (by rw [hq]; omega) (by rw [hq]; omega)).2
    rw [hq, show (2 * (w : Int) + 1).toNat = 2 * w + 1 by omega] at m2
    rw [d1 _ (by omega), e12]
    omega
set_option maxRecDepth 4000 in
theorem sfX6_addTextF {l : Launch} {M : Mem} (hB : Box M)  (t : Option Nat) (p0 : ∀ y, t = some y → TxO M y) : Call l mdX6_addText [aR 1, .inr (.inr t)] M (fun q N => ∃ r : Int, q = some (aI r) ∧ BX M N ∧ N.1 = M.1 ∧ (∀ k j : Nat, k ≠ 1 → mI N k j = mI M k j) ∧ (∀ k j : Nat, k ≠ 7 → mR N k j = mR M k j) ∧ (∀ j : Nat, (j : Int) ≠ mI M 1 10 → mR N 7 j = mR M 7 j) ∧ (mI M 1 10 < 4 → mR N 7 (mI M 1 10).toNat = t) ∧ (mI M 1 10 < 4 → r = mI M 1 10 ∧ mI N 1 10 = mI M 1 10 + 1) ∧ FzC M N ∧ mI N 0 = mI M 0) := by
  have hB0 : BX M M := BX.start hB
  refine Call.of [some (aR 1), some (.inr (.inr t))] rfl (Nat.le_of_ble_eq_true rfl) rfl ?_
  refine vc_aload_n dX6_addText_0 rfl ?_
  refine vc_getI dX6_addText_1 flX6_61 (s_1 hB0.1.1) rfl ?_
  have k1 : 0 ≤ mI M 1 10 ∧ mI M 1 10 ≤ 4 := b1_10 (M := M) hB0.1
  refine vc_iconst dX6_addText_4 rfl ?_
  refine vc_icmp_lt dX6_addText_5 (fun h2 => ?_) (fun h2 => ?_)
  · refine vc_aload_n dX6_addText_10 rfl ?_
    refine vc_getR dX6_addText_11 flX6_29 (s_1 hB0.1.1) rfl (r_1_5 hB0.1.1) ?_
    refine vc_aload_n dX6_addText_14 rfl ?_
    refine vc_getI dX6_addText_15 flX6_61 (s_1 hB0.1.1) rfl ?_
    refine vc_aload_n dX6_addText_18 rfl ?_
    refine vc_aastore dX6_addText_19 (s_7 hB0.1.1) (by omega) (by omega) (fun y hy => (p0 y hy).2.1) ?_
    have hB3 : BX M (sR M 7 ((mI M 1 10).toNat) t) := BX.T7 hB0 _ (fun y hy => p0 y hy)
    refine vc_aload_n dX6_addText_20 rfl ?_
    refine vc_dup dX6_addText_21 rfl ?_
    refine vc_getI dX6_addText_22 flX6_61 (s_1 hB3.1.1) rfl ?_
    refine vc_topI (mI M 1 10) rfl ?_
    have k4 : 0 ≤ mI M 1 10 ∧ mI M 1 10 ≤ 4 := b1_10 (M := (sR M 7 ((mI M 1 10).toNat) t)) hB3.1
    refine vc_iconst dX6_addText_25 rfl ?_
    refine vc_iaddE dX6_addText_26 (by omega) (by omega) ?_
    refine vc_putI dX6_addText_27 (plX6_61 _ rfl) (s_1 hB3.1.1) rfl ?_
    have hB5 : BX M (sI (sR M 7 ((mI M 1 10).toNat) t) 1 10 ((mI M 1 10) + 1)) := BX.w1_10 hB3 (by omega) (by omega)
    refine vc_aload_n dX6_addText_30 rfl ?_
    refine vc_getI dX6_addText_31 flX6_61 (s_1 hB5.1.1) rfl ?_
    refine vc_topI ((mI M 1 10) + 1) rfl ?_
    refine vc_iconst dX6_addText_34 rfl ?_
    refine vc_isubE dX6_addText_35 (by omega) (by omega) ?_
    refine vc_iret dX6_addText_36 rfl (Nat.le_of_ble_eq_true rfl) (Nat.le_of_ble_eq_true rfl) ?_
    have e10 : mI (sI (sR M 7 ((mI M 1 10).toNat) t) 1 10 ((mI M 1 10) + 1)) 1 10 = mI M 1 10 + 1 := mI_same
    exact ⟨_, rfl, hB5, rfl, fun k j c => (by rw [mI_sI, if_neg (fun e => c e.1)]; rfl), fun k j c => (by show mR (sR M 7 _ _) k j = _; rw [mR_sR, if_neg (fun e => c e.1)]), fun j c => (by show mR (sR M 7 _ _) 7 j = _; rw [mR_sR, if_neg (fun e => by omega)]), fun _ => (by show mR (sR M 7 _ _) 7 _ = _; rw [mR_sR, if_pos ⟨rfl, rfl⟩]), fun h => ⟨by omega, by omega⟩, (fun k j a b c => by rw [mI_sI, if_neg (fun e => c e)]; rfl), rfl⟩
  · refine vc_iconst dX6_addText_8 rfl ?_
    refine vc_iret dX6_addText_9 rfl (Nat.le_of_ble_eq_true rfl) (Nat.le_of_ble_eq_true rfl) ?_
    exact ⟨_, rfl, hB0, rfl, fun _ _ _ => rfl, fun _ _ _ => rfl, fun _ _ => rfl, fun h => by omega, fun h => by omega, (FzF.refl fQ M).c, rfl⟩

set_option maxRecDepth 4000 in
theorem sfX11_textF {l : Launch} {M : Mem} (hB : Box M)   (p0 : byt (mI M 21)) : Call l mdX11_text [aR 0] M (fun q N => ∃ r : Int, q = some (aI r) ∧ BX M N ∧ TXc M N r ∧ TCc M N r ∧ TLc M N r) := by
  have hB0 : BX M M := BX.start hB
  refine Call.of [some (aR 0), none] rfl (Nat.le_of_ble_eq_true rfl) rfl ?_
  refine vc_aload_n dX11_text_0 rfl ?_
  refine vc_getR dX11_text_1 flX11_10 (s_0 hB0.1.1) rfl (r_0_0 hB0.1.1) ?_
  refine vc_getI dX11_text_4 flX11_136 (s_1 hB0.1.1) rfl ?_
  have k1 : 0 ≤ mI M 1 10 ∧ mI M 1 10 ≤ 4 := b1_10 (M := M) hB0.1
  refine vc_iconst dX11_text_7 rfl ?_
  refine vc_icmp_lt dX11_text_8 (fun h2 => ?_) (fun h2 => ?_)
  · refine vc_aload_n dX11_text_13 rfl ?_
    refine vc_getR dX11_text_14 flX11_38 (s_0 hB0.1.1) rfl (r_0_5 hB0.1.1) ?_
    refine vc_aload_n dX11_text_17 rfl ?_
    refine vc_getI dX11_text_18 flX11_103 (s_0 hB0.1.1) rfl ?_
    have k3 : 0 ≤ mI M 0 13 ∧ mI M 0 13 ≤ 300 := b0_13 (M := M) hB0.1
    refine vc_cVI dX11_text_21 (sfX4_readsF (M := M) hB0.1  (mI M 0 13) (by omega) (by omega) (by exact p0)) rfl okX4_reads viX4_reads lkX11_139 (s_22 hB0.1.1) cl_4 rfl (Nat.le_of_ble_eq_true rfl) ⟨rfl, rfl⟩ (Nat.le_of_ble_eq_true rfl) (Nat.le_of_ble_eq_true rfl) (Nat.le_of_ble_eq_true rfl) ?_
    rintro x4 M5 ⟨hB6, h7, h8, h9, h10, h11⟩
    have hB12 : BX M M5 := BX.go hB0 hB6.x
    have htx := h11
    have hrd9 := h10
    have hlw9 := h9
    unfold TX at htx
    have hfz := hB6.2.2
    have hrz := hB6.2.1.2.1 rfl
    have e10 := hfz 1 10 rfl
    refine vc_istore_n dX11_text_24 (by decide) rfl (show _ = [some (aR 0), some (aI x4)] from rfl) ?_
    refine vc_aload_n dX11_text_25 rfl ?_
    refine vc_iconst dX11_text_26 rfl ?_
    refine vc_putI dX11_text_27 (plX11_103 _ rfl) (s_0 hB12.1.1) rfl ?_
    have hB13 : BX M (sI M5 0 13 0) := BX.w0_13 hB12 (by omega) (by omega)
    refine vc_aload_n dX11_text_30 rfl ?_
    refine vc_aload_n dX11_text_31 rfl ?_
    refine vc_getR dX11_text_32 flX11_38 (s_0 hB13.1.1) rfl (r_0_5 hB13.1.1) ?_
    refine vc_getI dX11_text_35 flX11_142 (s_22 hB13.1.1) rfl ?_
    refine vc_topI (mI M5 22 7) rfl ?_
    refine vc_putI dX11_text_38 (plX11_107 _ rfl) (s_0 hB13.1.1) rfl ?_
    have hB14 : BX M (sI (sI M5 0 13 0) 0 14 (mI M5 22 7)) := BX.w0_14 hB13
    refine vc_aload_n dX11_text_41 rfl ?_
    refine vc_aload_n dX11_text_42 rfl ?_
    refine vc_getR dX11_text_43 flX11_38 (s_0 hB14.1.1) rfl (r_0_5 hB14.1.1) ?_
    refine vc_getI dX11_text_46 flX11_145 (s_22 hB14.1.1) rfl ?_
    refine vc_topI (mI M5 22 8) rfl ?_
    refine vc_putI dX11_text_49 (plX11_110 _ rfl) (s_0 hB14.1.1) rfl ?_
    have hB15 : BX M (sI (sI (sI M5 0 13 0) 0 14 (mI M5 22 7)) 0 15 (mI M5 22 8)) := BX.w0_15 hB14
    refine vc_iload_n dX11_text_52 rfl ?_
    refine vc_if_eq dX11_text_53 (fun h16 => ?_) (fun h16 => ?_)
    · refine vc_iconst dX11_text_73 rfl ?_
      refine vc_iret dX11_text_74 rfl (Nat.le_of_ble_eq_true rfl) (Nat.le_of_ble_eq_true rfl) ?_
      have k17 : mI (sI (sI (sI M5 0 13 0) 0 14 (mI M5 22 7)) 0 15 (mI M5 22 8)) 0 13 = 0 := rfl
      have k18 : mI (sI (sI (sI M5 0 13 0) 0 14 (mI M5 22 7)) 0 15 (mI M5 22 8)) 0 14 = mI M5 22 7 := rfl
      have k19 : mI (sI (sI (sI M5 0 13 0) 0 14 (mI M5 22 7)) 0 15 (mI M5 22 8)) 0 15 = mI M5 22 8 := rfl
      have htx2 : (x4 = 1 ∧ (sAll (mI M 21) (mI M 0 13)).1 = 0 ∧ mI M5 22 7 = 0 ∧ mI M5 22 8 = -1) ∨ (x4 = 0 ∧ (sAll (mI M 21) (mI M 0 13)).1 ≠ 0 ∧ mI M5 22 7 = (sAll (mI M 21) (mI M 0 13)).1 ∧ mI M5 22 8 = (sAll (mI M 21) (mI M 0 13)).2) := htx
      clear htx
      have ew10 : mI (sI (sI (sI M5 0 13 0) 0 14 (mI M5 22 7)) 0 15 (mI M5 22 8)) 1 10 = mI M5 1 10 := rfl
      exact ⟨_, rfl, hB15, Or.inr ⟨by omega, by omega, ((((FzF.c hfz).trans FzC.w0).trans FzC.w0).trans FzC.w0), Or.inr ⟨by omega, by omega, by omega, by omega, by omega⟩⟩, ⟨fun j => hrz 14 j (Or.inr rfl), fun j _ => hrz 7 j (Or.inl rfl), fun h => by omega⟩, fun h => by omega⟩
    · refine vc_aload_n dX11_text_56 rfl ?_
      refine vc_getR dX11_text_57 flX11_10 (s_0 hB15.1.1) rfl (r_0_0 hB15.1.1) ?_
      refine vc_aload_n dX11_text_60 rfl ?_
      refine vc_getR dX11_text_61 flX11_38 (s_0 hB15.1.1) rfl (r_0_5 hB15.1.1) ?_
      have k20 : mI (sI (sI (sI M5 0 13 0) 0 14 (mI M5 22 7)) 0 15 (mI M5 22 8)) 0 13 = 0 := rfl
      have k21 : mI (sI (sI (sI M5 0 13 0) 0 14 (mI M5 22 7)) 0 15 (mI M5 22 8)) 0 14 = mI M5 22 7 := rfl
      have k22 : mI (sI (sI (sI M5 0 13 0) 0 14 (mI M5 22 7)) 0 15 (mI M5 22 8)) 0 15 = mI M5 22 8 := rfl
      have ew13 : mI (sI (sI (sI M5 0 13 0) 0 14 (mI M5 22 7)) 0 15 (mI M5 22 8)) 0 13 = 0 := rfl
      have ew14 : mI (sI (sI (sI M5 0 13 0) 0 14 (mI M5 22 7)) 0 15 (mI M5 22 8)) 0 14 = mI M5 22 7 := rfl
      have ew15 : mI (sI (sI (sI M5 0 13 0) 0 14 (mI M5 22 7)) 0 15 (mI M5 22 8)) 0 15 = mI M5 22 8 := rfl
      have ew10 : mI (sI (sI (sI M5 0 13 0) 0 14 (mI M5 22 7)) 0 15 (mI M5 22 8)) 1 10 = mI M5 1 10 := rfl
      refine vc_aVO dX11_text_64 (sfX4_asReadL (M := (sI (sI (sI M5 0 13 0) 0 14 (mI M5 22 7)) 0 15 (mI M5 22 8))) hB15.1   ) rfl okX4_asRead viX4_asRead lkX11_148 (s_22 hB15.1.1) cl_4 rfl (Nat.le_of_ble_eq_true rfl) (Nat.le_of_ble_eq_true rfl) (Nat.le_of_ble_eq_true rfl) (Nat.le_of_ble_eq_true rfl) ?_
      rintro o23 M24 ⟨hB25, h26, h27⟩
      have hB28 : BX M M24 := BX.go hB15 hB25.x
      have hty := h26
      have hasr := h27
      have hfa := hB25.2.2
      have hra := hB25.2.1.2.1 rfl
      have ea13 := hfa 0 13 rfl
      have ea14 := hfa 0 14 rfl
      have ea15 := hfa 0 15 rfl
      have ea10 := hfa 1 10 rfl
      refine vc_cVI dX11_text_67 (sfX6_addTextF (M := M24) hB28.1  o23 (by exact hty)) rfl okX6_addText viX6_addText lkX11_152 (s_1 hB28.1.1) cl_6 rfl (Nat.le_of_ble_eq_true rfl) ⟨rfl, rfl⟩ (Nat.le_of_ble_eq_true rfl) (Nat.le_of_ble_eq_true rfl) (Nat.le_of_ble_eq_true rfl) ?_
      rintro x29 M30 ⟨hB31, h32, h33, h34, h35, h36, h37, h38, h39⟩
      have hB40 : BX M M30 := BX.go hB28 hB31
      have had := h37 (by omega)
      have hfc := h38
      have et13 := congrFun h39 13
      have et14 := congrFun h39 14
      have et15 := congrFun h39 15
      have h10e : mI M24 1 10 = mI M 1 10 := by omega
      have htcc : TCc M M30 0 := ⟨fun j => (h34 14 j (by decide)).trans ((hra 14 j (Or.inr rfl)).trans (hrz 14 j (Or.inr rfl))), fun j hj => (h35 j (by rw [h10e]; exact hj)).trans ((hra 7 j (Or.inl rfl)).trans (hrz 7 j (Or.inl rfl))), fun _ => TCc_of (hrd9 (by omega)) rfl rfl hty hasr h32 h33 h34 (by rw [← h10e]; exact h36 (by omega))⟩
      have htlc : TLc M M30 0 := fun _ => TLc_of (hlw9 (by omega)) rfl rfl rfl rfl hty hasr h33 h34 (by rw [← h10e]; exact h36 (by omega)) h32 (b22_12 (M := M5) hB12.1).1
      refine vc_goto dX11_text_70 ?_
      refine vc_iret dX11_text_74 rfl (Nat.le_of_ble_eq_true rfl) (Nat.le_of_ble_eq_true rfl) ?_
      have htx2 : (x4 = 1 ∧ (sAll (mI M 21) (mI M 0 13)).1 = 0 ∧ mI M5 22 7 = 0 ∧ mI M5 22 8 = -1) ∨ (x4 = 0 ∧ (sAll (mI M 21) (mI M 0 13)).1 ≠ 0 ∧ mI M5 22 7 = (sAll (mI M 21) (mI M 0 13)).1 ∧ mI M5 22 8 = (sAll (mI M 21) (mI M 0 13)).2) := htx
      clear htx
      exact ⟨_, rfl, hB40, Or.inr ⟨by omega, by omega, (((((FzF.c hfz).trans FzC.w0).trans FzC.w0).trans FzC.w0).trans hfa.c).trans hfc, Or.inl ⟨by omega, by omega, by omega, by omega, by omega⟩⟩, ⟨htcc.1, htcc.2.1, fun _ => htcc.2.2 (by decide)⟩, fun _ => htlc (by decide)⟩
  · refine vc_iconst dX11_text_11 rfl ?_
    refine vc_iret dX11_text_12 rfl (Nat.le_of_ble_eq_true rfl) (Nat.le_of_ble_eq_true rfl) ?_
    exact ⟨_, rfl, hB0, Or.inl ⟨by omega, by omega, FzF.refl fQ M⟩, ⟨fun _ => rfl, fun _ _ => rfl, fun h => by omega⟩, fun h => by omega⟩
