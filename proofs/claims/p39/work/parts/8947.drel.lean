/-! THE RELATION of the two at the law's head: tape, town, walk, texts, image -/
def im (k : Nat) : Nat := if k = 1 then 8 else if 2 ≤ k ∧ k ≤ 6 then k + 7 else if 15 ≤ k ∧ k ≤ 17 then k + 3 else k
def iS (S : Sw) : Sw := fun k j => S (im k) j
theorem clR.co {g g' : Nat → Int} {x : Nat} {f f' : Nat → Int} {k : Nat} (h : clR g x f k) (hg : ∀ i : Nat, i < 11 → g' (x + i) = g (x + i)) (hf : ∀ j : Nat, 5 * k ≤ j → j < 5 * k + 5 → f' j = f j) : clR g' x f' k := by
  obtain ⟨h1, h2, h3, h4, h5, h6, h7, h8⟩ := h
  have f0 := hf (5 * k) (by omega) (by omega)
  have f1 := hf (5 * k + 1) (by omega) (by omega)
  have f2 := hf (5 * k + 2) (by omega) (by omega)
  have f3 := hf (5 * k + 3) (by omega) (by omega)
  have f4 := hf (5 * k + 4) (by omega) (by omega)
  have g0 := hg 0 (by decide)
  have g1 := hg 1 (by decide)
  have g2 := hg 2 (by decide)
  have g3 := hg 3 (by decide)
  unfold clR
  rw [f0, f1, f2, f3, f4, g1, g2, g3, show g' x = g x from g0]
  refine ⟨h1, h2, h3, h4, h5, h6, h7, fun e => ?_⟩
  obtain ⟨a, b, c, d⟩ := h8 e
  refine ⟨a, b, c, fun i hi => ?_⟩
  have q := (tnC_b _ _ b).2
  rw [show x + 4 + i = x + (4 + i) by omega, hg (4 + i) (by omega), ← show x + 4 + i = x + (4 + i) by omega]
  exact d i hi
/-- the texts that both keep -/
def TxG (M : Mem) (k : Nat) (n : Int) : Prop := ∀ t : Nat, (t : Int) < n → ∃ y z : Nat, mR M k t = some y ∧ mR M y 2 = some z ∧ M.1[z]? = some (.inr (0, (5 * mI M y 3).toNat)) ∧ mI M 57 (873 * t) = mI M y 3 ∧ ∀ e : Nat, (e : Int) < mI M y 3 → clR (mI M 57) (873 * t + 1 + 11 * e) (mI M z) e
theorem TxG.go {M N : Mem} {k k2 : Nat} {n : Int} (hB : Box M) (hk : k = 7 ∨ k = 14) (h : TxG M k n) (dz : Dz M N) (hr : ∀ t : Nat, (t : Int) < n → mR N k2 t = mR M k t) (h57 : ∀ j : Nat, (j : Int) < 873 * n → mI N 57 j = mI M 57 j) : TxG N k2 n := fun t ht => by
  obtain ⟨y, z, h1, h2, h3, h4, h5⟩ := h t ht
  obtain ⟨y75, ys, y3, a, b, c, nn, mm, w1, w2, w3, w4, w5, w6, w7, w8, w9, w10⟩ := hB.2.2.1 k t y hk h1
  have ecz : c = z := by rw [w3] at h2; cases h2; rfl
  have e3 : mI N y 3 = mI M y 3 := dz.vl y75 ys
  refine ⟨y, z, (hr t ht).trans h1, (dz.rf y75 ys 2).trans h2, ?_, ?_, fun e he => ?_⟩
  · rw [e3]
    exact dz.sh (by omega) h3
  · rw [e3, h57 _ (by omega)]
    exact h4
  · rw [e3] at he
    exact (h5 e he).co (fun i hi => h57 _ (by omega)) (fun j _ _ => dz.vl (by omega) h3)
theorem TxG.nul {M : Mem} {k : Nat} {n : Int} (h : n ≤ 0) : TxG M k n := fun t ht => by omega
/-- what the head of the law knows -/
def DR (M : Mem) (b : Int) : Prop := RLt M ∧ AR (mI M 55) (cS M) ∧ AR (mI M 56) (iS (cS M)) ∧ TxG M 7 (mI M 1 10) ∧ TxG M 14 (mI M 8 10) ∧ asB (cS M) b ∧ asB (iS (cS M)) b
def RD (M : Mem) (b : Int) : Prop := Box M ∧ DR M b
theorem RLt.fl {M N : Mem} (h : RLt M) (f : FzF fTp M N) : RLt N := by
  unfold RLt
  rw [show mI N 21 = mI M 21 from funext fun j => f 21 j rfl, show mI N 59 = mI M 59 from funext fun j => f 59 j rfl, f 54 6 rfl, f 0 13 rfl, f 54 7 rfl, f 0 14 rfl, f 54 8 rfl, f 0 15 rfl, f 55 5 rfl, f 1 10 rfl, f 56 5 rfl, f 8 10 rfl]
  exact h
theorem fC_of {k j : Nat} (hq : fQ k j = true) (n : ¬ (k = 1 ∧ j ≠ 10) ∧ ¬ (2 ≤ k ∧ k ≤ 6) ∧ k ≠ 15 ∧ k ≠ 16 ∧ k ≠ 17) : fC k j = true := by
  unfold fC
  rw [hq, Bool.and_true]
  have z : ((k == 1 && !(j == 10)) || (Nat.ble 2 k && Nat.ble k 6) || k == 15 || k == 16 || k == 17) = false := by
    rw [← Bool.not_eq_true]
    intro e
    simp only [Bool.or_eq_true, Bool.and_eq_true, beq_iff_eq, Nat.ble_eq, Bool.not_eq_true', beq_eq_false_iff_ne, ne_eq] at e
    omega
  rw [z]
  rfl
theorem fR_of {k j : Nat} (hq : fQ k j = true) (n : ¬ (k = 55 ∧ j ≠ 5)) : fR k j = true := by
  unfold fR
  rw [hq, Bool.and_true]
  have z : (k == 55 && !(j == 5)) = false := by
    rw [← Bool.not_eq_true]
    intro e
    simp only [Bool.and_eq_true, beq_iff_eq, Bool.not_eq_true', beq_eq_false_iff_ne, ne_eq] at e
    omega
  rw [z]
  rfl
theorem fTp_Q (k j : Nat) (h : fTp k j = true) : fQ k j = true := by
  unfold fTp at h
  unfold fQ
  simp only [Bool.or_eq_true, Bool.and_eq_true, beq_iff_eq, Nat.ble_eq] at h ⊢
  omega
theorem fTp_k {k j : Nat} (h : fTp k j = true) : k = 21 ∨ k = 59 ∨ k = 54 ∨ k = 0 ∨ (k = 55 ∧ j = 5) ∨ (k = 1 ∧ j = 10) ∨ (k = 56 ∧ j = 5) ∨ (k = 8 ∧ j = 10) := by
  unfold fTp at h
  simp only [Bool.or_eq_true, Bool.and_eq_true, beq_iff_eq] at h
  omega
theorem fTp_C (k j : Nat) (h : fTp k j = true) : fC k j = true := fC_of (fTp_Q k j h) (by have := fTp_k h; omega)
theorem fTp_R (k j : Nat) (h : fTp k j = true) : fR k j = true := fR_of (fTp_Q k j h) (by have := fTp_k h; omega)
theorem ck_k {k j : Nat} (h : ck k j = true) : k ≠ 0 ∧ k ≤ 20 := by
  unfold ck at h
  simp only [Bool.or_eq_true, Bool.and_eq_true, beq_iff_eq, Nat.ble_eq] at h
  omega
theorem ck_R {k j : Nat} (h : ck k j = true) : fR k j = true := fR_of (ck_Q h) (by have := ck_k h; omega)
theorem im_n (k : Nat) : im k ≠ 1 ∧ ¬ (2 ≤ im k ∧ im k ≤ 6) ∧ im k ≠ 15 ∧ im k ≠ 16 ∧ im k ≠ 17 := by
  unfold im
  split
  · decide
  · split
    · omega
    · split <;> omega
theorem ck_im {k j : Nat} (h : ck (im k) j = true) : fC (im k) j = true := fC_of (ck_Q h) (by have := im_n k; omega)
theorem cS_R {M N : Mem} (hM : Box M) (g : BF fR M N) : cS N = cS M := by
  funext a b
  unfold cS
  rw [cTx_dy hM g.2 (fun j => g.2.1.2.1 rfl 7 j (Or.inl rfl))]
  by_cases e : ck a b = true
  · rw [if_pos e, if_pos e, g.2.2 a b (ck_R e)]
  · rw [if_neg e, if_neg e]
theorem iS_C {M N : Mem} (hM : Box M) (f : BF fC M N) : iS (cS N) = iS (cS M) := by
  funext a b
  unfold iS cS
  rw [cTx_dy hM f.2 (fun j => f.2.1.2.1 rfl 7 j (Or.inl rfl))]
  by_cases e : ck (im a) b = true
  · rw [if_pos e, if_pos e, f.2.2 _ b (ck_im e)]
  · rw [if_neg e, if_neg e]
theorem AR.eq {a : Nat → Int} {s s' : Sw} (h : AR a s) (hs : ∀ k j : Nat, k < 1000 → s' k j = s k j) : AR a s' := ⟨h.1.co (fun _ _ _ _ _ => rfl) (fun k j hk => hs k j (by omega)), h.2.co (fun _ _ => rfl) (fun k j h1 h2 => hs k j (by omega)) (by rw [hs 1 6 (by decide)]; exact Int.le_refl _) (by rw [hs 1 8 (by decide)]; exact Int.le_refl _)⟩
/-- a query -/
theorem RD.q {M N : Mem} {b : Int} (h : RD M b) (f : BF fQ M N) : RD N b := by
  obtain ⟨hB, h1, h2, h3, h4, h5, h6, h7⟩ := h
  have fz := f.2.2
  have e55 : mI N 55 = mI M 55 := funext fun j => fz 55 j rfl
  have e56 : mI N 56 = mI M 56 := funext fun j => fz 56 j rfl
  have ec := cS_bf hB f
  refine ⟨f.1, h1.fl (fz.up fTp_Q), by rw [e55, ec]; exact h2, by rw [e56, ec]; exact h3, ?_, ?_, by rw [ec]; exact h6, by rw [ec]; exact h7⟩
  · rw [fz 1 10 rfl]
    exact h4.go hB (Or.inl rfl) f.2.1.1 (fun t _ => f.2.1.2.1 rfl 7 t (Or.inl rfl)) (fun j _ => fz 57 j rfl)
  · rw [fz 8 10 rfl]
    exact h5.go hB (Or.inr rfl) f.2.1.1 (fun t _ => f.2.1.2.1 rfl 14 t (Or.inr rfl)) (fun j _ => fz 57 j rfl)
/-- a deed, on both -/
theorem RD.d {M N P : Mem} {b c : Int} (h : RD M b) (f : BF fC M N) (g : BF fR N P) (ha : AR (mI P 55) (cS N)) (hb : asB (cS N) c) (hc : b ≤ c) : RD P c := by
  obtain ⟨hB, h1, h2, h3, h4, h5, h6, h7⟩ := h
  have fz := f.2.2
  have gz := g.2.2
  have dz := f.2.1.1.trans g.2.1.1
  have e56 : mI P 56 = mI M 56 := funext fun j => (gz 56 j rfl).trans (fz 56 j rfl)
  have e57 : ∀ j, mI P 57 j = mI M 57 j := fun j => (gz 57 j rfl).trans (fz 57 j rfl)
  have ec := cS_R f.1 g
  have ei := iS_C hB f
  refine ⟨g.1, h1.fl ((fz.up fTp_C).trans (gz.up fTp_R)), by rw [ec]; exact ha, by rw [e56, ec, ei]; exact h3, ?_, ?_, by rw [ec]; exact hb, by rw [ec, ei]; exact h7.le hc⟩
  · rw [gz 1 10 rfl, fz 1 10 rfl]
    exact h4.go hB (Or.inl rfl) dz (fun t _ => (g.2.1.2.1 rfl 7 t (Or.inl rfl)).trans (f.2.1.2.1 rfl 7 t (Or.inl rfl))) (fun j _ => e57 j)
  · rw [gz 8 10 rfl, fz 8 10 rfl]
    exact h5.go hB (Or.inr rfl) dz (fun t _ => (g.2.1.2.1 rfl 14 t (Or.inr rfl)).trans (f.2.1.2.1 rfl 14 t (Or.inr rfl))) (fun j _ => e57 j)
/-- the tape alone -/
theorem RD.tp {M P : Mem} {b : Int} (h : RD M b) (hP : Box P) (hI : ∀ k j : Nat, k ≠ 0 → k ≠ 21 → k ≠ 54 → k ≠ 59 → mI P k j = mI M k j) (hr : ∀ k j, mR P k j = mR M k j) (h0 : P.1 = M.1) (hl : RLt P) : RD P b := by
  obtain ⟨hB, h1, h2, h3, h4, h5, h6, h7⟩ := h
  have e55 : mI P 55 = mI M 55 := funext fun j => hI 55 j (by decide) (by decide) (by decide) (by decide)
  have e56 : mI P 56 = mI M 56 := funext fun j => hI 56 j (by decide) (by decide) (by decide) (by decide)
  have dz : Dz M P := ⟨by rw [h0]; exact Nat.le_refl _, fun k a _ => ⟨by rw [h0], fun j => hI k j (by omega) (by omega) (by omega) (by omega), fun j => hr k j⟩⟩
  have ec : cS P = cS M := by
    funext a b
    unfold cS
    rw [cTx_co (A := M) (B := P) (fun k j hk => hI k j (by omega) (by omega) (by omega) (by omega)) hr h0]
    by_cases e : ck a b = true
    · have hk : a ≠ 0 ∧ a ≤ 20 := by
        unfold ck at e
        simp only [Bool.or_eq_true, Bool.and_eq_true, beq_iff_eq, Nat.ble_eq] at e
        omega
      rw [if_pos e, if_pos e, hI a b hk.1 (by omega) (by omega) (by omega)]
    · rw [if_neg e, if_neg e]
  refine ⟨hP, hl, by rw [e55, ec]; exact h2, by rw [e56, ec]; exact h3, ?_, ?_, by rw [ec]; exact h6, by rw [ec]; exact h7⟩
  · rw [hI 1 10 (by decide) (by decide) (by decide) (by decide)]
    exact h4.go hB (Or.inl rfl) dz (fun t _ => hr 7 t) (fun j _ => hI 57 j (by decide) (by decide) (by decide) (by decide))
  · rw [hI 8 10 (by decide) (by decide) (by decide) (by decide)]
    exact h5.go hB (Or.inr rfl) dz (fun t _ => hr 14 t) (fun j _ => hI 57 j (by decide) (by decide) (by decide) (by decide))

/-- feed -/
theorem pb_r (M : Mem) (v : Int) : (∀ k j, mR (gX11_putBytes M v) k j = mR M k j) ∧ (gX11_putBytes M v).1 = M.1 := ⟨fun _ _ => rfl, rfl⟩
theorem fo_r (M : Mem) (v : Int) : (∀ k j, mR (gX12_four M v) k j = mR M k j) ∧ (gX12_four M v).1 = M.1 := ⟨fun _ _ => rfl, rfl⟩
theorem fd5_r (M : Mem) (a b c d e : Int) : (∀ k j, mR (fd5 M a b c d e) k j = mR M k j) ∧ (fd5 M a b c d e).1 = M.1 := by
  unfold fd5
  exact ⟨fun k j => ((pb_r _ e).1 k j).trans (((pb_r _ d).1 k j).trans (((pb_r _ c).1 k j).trans (((pb_r _ b).1 k j).trans ((pb_r _ a).1 k j)))), ((pb_r _ e).2).trans (((pb_r _ d).2).trans (((pb_r _ c).2).trans (((pb_r _ b).2).trans ((pb_r _ a).2))))⟩
theorem fr5_r (M : Mem) (a b c d e : Int) : (∀ k j, mR (fr5 M a b c d e) k j = mR M k j) ∧ (fr5 M a b c d e).1 = M.1 := by
  unfold fr5
  exact ⟨fun k j => ((fo_r _ e).1 k j).trans (((fo_r _ d).1 k j).trans (((fo_r _ c).1 k j).trans (((fo_r _ b).1 k j).trans ((fo_r _ a).1 k j)))), ((fo_r _ e).2).trans (((fo_r _ d).2).trans (((fo_r _ c).2).trans (((fo_r _ b).2).trans ((fo_r _ a).2))))⟩
theorem feedC (M : Mem) (a b c d e : Int) : gX11_feed M a b c d e = M ∨ gX11_feed M a b c d e = fd5 M a b c d e := by
  unfold gX11_feed
  by_cases k : 280 < mI M 0 13
  · exact Or.inl (if_pos k)
  · exact Or.inr (if_neg k)
theorem feedR (M : Mem) (a b c d e : Int) : gX12_feed M a b c d e = M ∨ gX12_feed M a b c d e = fr5 M a b c d e := by
  unfold gX12_feed
  by_cases k : 280 < mI M 54 6
  · exact Or.inl (if_pos k)
  · exact Or.inr (if_neg k)
theorem feedC_o (M : Mem) (a b c d e : Int) : (∀ k j : Nat, k ≠ 0 → k ≠ 21 → mI (gX11_feed M a b c d e) k j = mI M k j) ∧ (∀ k j, mR (gX11_feed M a b c d e) k j = mR M k j) ∧ (gX11_feed M a b c d e).1 = M.1 := by
  rcases feedC M a b c d e with h | h
  · rw [h]
    exact ⟨fun _ _ _ _ => rfl, fun _ _ => rfl, rfl⟩
  · rw [h]
    exact ⟨fun k j k0 k1 => fd5_o M a b c d e k1 (fun e => k0 e.1), (fd5_r M a b c d e).1, (fd5_r M a b c d e).2⟩
theorem feedR_o (M : Mem) (a b c d e : Int) : (∀ k j : Nat, k ≠ 54 → k ≠ 59 → mI (gX12_feed M a b c d e) k j = mI M k j) ∧ (∀ k j, mR (gX12_feed M a b c d e) k j = mR M k j) ∧ (gX12_feed M a b c d e).1 = M.1 := by
  rcases feedR M a b c d e with h | h
  · rw [h]
    exact ⟨fun _ _ _ _ => rfl, fun _ _ => rfl, rfl⟩
  · rw [h]
    exact ⟨fun k j k0 k1 => fr5_o M a b c d e k1 (fun e => k0 e.1), (fr5_r M a b c d e).1, (fr5_r M a b c d e).2⟩
theorem feed_RD2 {M N P : Mem} {m : Int} (h : RD M m) (a : (∀ k j : Nat, k ≠ 0 → k ≠ 21 → mI N k j = mI M k j) ∧ (∀ k j, mR N k j = mR M k j) ∧ N.1 = M.1) (b : (∀ k j : Nat, k ≠ 54 → k ≠ 59 → mI P k j = mI N k j) ∧ (∀ k j, mR P k j = mR N k j) ∧ P.1 = N.1) (r : RB P) : RD P m :=
  h.tp r.1 (fun k j k0 k1 k2 k3 => (b.1 k j k2 k3).trans (a.1 k j k0 k1)) (fun k j => (b.2.1 k j).trans (a.2.1 k j)) (b.2.2.trans a.2.2) r.2
theorem feed_RD {M : Mem} {a b c d e m : Int} (h : RD M m) : RD (gX12_feed (gX11_feed M a b c d e) a b c d e) m ∧ fX11_feed M a b c d e = fX12_feed (gX11_feed M a b c d e) a b c d e :=
  ⟨feed_RD2 h (feedC_o M a b c d e) (feedR_o _ a b c d e) (feed_both (a := a) (b := b) (c := c) (d := d) (e := e) ⟨h.1, h.2.1⟩).1, (feed_both (a := a) (b := b) (c := c) (d := d) (e := e) ⟨h.1, h.2.1⟩).2⟩
/-- end -/
theorem end_RD {M N P : Mem} {n r s b : Int} (h : RD M b) (hP : Box P) (a : OnC M N 0) (t : ENc M N n r) (c : OnC N P 54) (u : ENr N P n s) : RD P b ∧ r = s := by
  obtain ⟨hl, he⟩ := end_both h.2.1 t u
  exact ⟨h.tp hP (fun k j k0 k1 k2 k3 => (c.1 k j k2).trans (a.1 k j k0)) (fun k j => (c.2.1 k j).trans (a.2.1 k j)) (c.2.2.trans a.2.2) hl, he⟩
/-- a text more, or none -/
theorem AR.t5 {a a' : Nat → Int} {s s' : Sw} (h : AR a s) (ha : ∀ j : Nat, j ≠ 5 → a' j = a j) (hs : ∀ k j : Nat, k < 1000 → ¬ (k = 1 ∧ j = 10) → s' k j = s k j) (g5 : a' 5 = s' 1 10) (g1 : s 1 10 ≤ s' 1 10) (g4 : s' 1 10 ≤ 4) : AR a' s' := by
  obtain ⟨hT, hW⟩ := h
  obtain ⟨h1, h2, h3, h4, h5, h6, h7, h8⟩ := hT
  have e6 := hs 1 6 (by omega) (by omega)
  have e7 := hs 1 7 (by omega) (by omega)
  have e8 := hs 1 8 (by omega) (by omega)
  have e9 := hs 1 9 (by omega) (by omega)
  have e11 := hs 1 11 (by omega) (by omega)
  obtain ⟨w1, w2, w3, w4, w5, w6, w7, w8, w9, w10, w11, w12⟩ := h8
  obtain ⟨x0, x1, x2, x3, x5, x6⟩ := h1
  refine ⟨⟨?_, fun c hc => ?_, fun t ht j hj => ?_, fun t ht => ?_, ⟨fun j h1 h2 => ?_, fun j h1 => ?_, fun j => ?_⟩, fun t ht => ?_, fun t ht => ?_, ?_⟩, hW.co (fun j hj => ha j (by omega)) (fun k j k1 k2 => hs k j (by omega) (by omega)) (by omega) (by omega)⟩
  · unfold aSc
    rw [e6, e7, e8, e9, e11, ha 0 (by decide), ha 1 (by decide), ha 2 (by decide), ha 3 (by decide), ha 6 (by decide)]
    exact ⟨x0, x1, x2, x3, g5, x6⟩
  · rw [e6] at hc
    obtain ⟨p, q⟩ := h2 c hc
    refine ⟨by rw [ha _ (by omega), hs 2 _ (by omega) (by omega)]; exact p, fun d hd => ?_⟩
    obtain ⟨q1, q2⟩ := q d hd
    rw [hs 3 _ (by omega) (by omega), hs 4 _ (by omega) (by omega), ha _ (by omega), ha _ (by omega)]
    exact ⟨q1, q2⟩
  · rw [e8] at ht
    rw [hs 5 _ (by omega) (by omega), ha _ (by omega)]
    exact h3 t ht j hj
  · rw [e9] at ht
    obtain ⟨⟨p1, p2, p3⟩, q⟩ := h4 t ht
    rw [hs 6 _ (by omega) (by omega), hs 6 _ (by omega) (by omega), hs 6 _ (by omega) (by omega)]
    refine ⟨⟨by rw [ha _ (by omega)]; exact p1, by rw [ha _ (by omega)]; exact p2, by rw [ha _ (by omega)]; exact p3⟩, fun i hi => ?_⟩
    rw [hs 6 _ (by omega) (by omega), ha _ (by omega)]
    exact q i hi
  · rw [hs 3 _ (by omega) (by omega)]; rw [e6] at h1; exact h5.1 j h1 h2
  · rw [hs 3 _ (by omega) (by omega), e6]; exact h5.2.1 j h1
  · rw [hs 4 _ (by omega) (by omega)]; exact h5.2.2 j
  · rw [e8] at ht
    rw [hs 5 _ (by omega) (by omega), e6]
    exact h6 t ht
  · rw [e9] at ht
    rw [hs 6 _ (by omega) (by omega), hs 6 _ (by omega) (by omega), hs 6 _ (by omega) (by omega), e8]
    obtain ⟨q1, q2, q3, q4, q5, q6, q7⟩ := h7 t ht
    exact ⟨q1, q2, q3, q4, q5, q6, fun i hi => by rw [hs 6 _ (by omega) (by omega)]; exact q7 i hi⟩
  · unfold wSc
    rw [e6, e7, e8, e9, e11]
    exact ⟨w1, w2, w3, w4, w5, w6, w7, w8, by omega, g4, w11, by omega⟩
/-- as many clauses on both sides -/
theorem pl_cnt {k x : Int → Int} {p : Int} {a b : Int} {A B : Nat → Prop} (a0 : 0 ≤ a) (b0 : 0 ≤ b) (ha : k (plS k x p a.toNat) = 0) (hb : k (plS k x p b.toNat) = 0) (hA : ∀ e : Nat, (e : Int) < a → 101 ≤ k (plS k x p e)) (hB : ∀ e : Nat, (e : Int) < b → 101 ≤ k (plS k x p e)) : a = b := by
  rcases (by omega : a < b ∨ b < a ∨ a = b) with h | h | h
  · have q := hB a.toNat (by omega)
    omega
  · have q := hA b.toNat (by omega)
    omega
  · exact h
/-- text -/
theorem text_RD {M N P : Mem} {r s b : Int} (h : RD M b) (bx : BX M N) (t : TXc M N r) (tc : TCc M N r) (bp : BX N P) (u : TXr N P s) (uc : TCr N P s) : RD P b ∧ r = s := by
  obtain ⟨hl, hrs⟩ := text_both h.1 h.2.1 t u
  refine ⟨?_, hrs⟩
  subst hrs
  obtain ⟨hB, h1, h2, h3, h4, h5, h6, h7⟩ := h
  have hb10 := b1_10 hB
  have k10 := b1_10 bp.1
  obtain ⟨c14, c7, cn⟩ := tc
  obtain ⟨ur, ul, un⟩ := uc
  have dz := bx.2.trans bp.2
  have m55 := h1.2.2.2.2.2.1
  have m59 := h1.2.1
  have m6 := h1.2.2.1
  have p55 := hl.2.2.2.2.2.1
  -- what stays on both sides
  have st : (∀ k j : Nat, ck k j = true → ¬ (k = 1 ∧ j = 10) → mI P k j = mI M k j) ∧ (∀ j : Nat, j ≠ 5 → mI P 55 j = mI M 55 j) ∧ mI P 56 = mI M 56 ∧ mI N 55 5 = mI M 55 5 ∧ mI N 59 = mI M 59 ∧ mI N 54 6 = mI M 54 6 ∧ (∀ j, mI N 57 j = mI M 57 j) ∧ mI P 21 = mI N 21 ∧ mI P 8 10 = mI M 8 10 ∧ ((mI P 1 10 = mI M 1 10 ∧ r = -1) ∨ (mI P 1 10 = mI M 1 10 + 1 ∧ r ≠ -1)) := by
    have c0 : ∀ {k j : Nat}, ck k j = true → k ≠ 0 ∧ k ≤ 20 := fun e => by
      unfold ck at e
      simp only [Bool.or_eq_true, Bool.and_eq_true, beq_iff_eq, Nat.ble_eq] at e
      omega
    have cT : ∀ {k j : Nat}, ck k j = true → fT k j = true := fun {k j} e => by
      have z := c0 e
      unfold fT
      rw [ck_Q e, Bool.and_true]
      simp only [Bool.not_eq_true', beq_eq_false_iff_ne, ne_eq]
      omega
    rcases t with ⟨a1, a2, a3⟩ | ⟨a1, a2, a3, a4⟩
    · rcases u with ⟨b1, b2, b3⟩ | ⟨b1, b2, b3, b4⟩
      · exact ⟨fun k j e _ => (b3 k j (cT e)).trans (a3 k j (ck_Q e)), fun j _ => (b3 55 j rfl).trans (a3 55 j rfl), funext fun j => (b3 56 j rfl).trans (a3 56 j rfl), a3 55 5 rfl, funext fun j => a3 59 j rfl, a3 54 6 rfl, fun j => a3 57 j rfl, funext fun j => b3 21 j rfl, (b3 8 10 rfl).trans (a3 8 10 rfl), Or.inl ⟨(b3 1 10 rfl).trans (a3 1 10 rfl), a2⟩⟩
      · exfalso
        have z := a3 55 5 rfl
        omega
    · have z5 := a3 55 5 rfl (by decide) (by decide)
      rcases u with ⟨b1, b2, b3⟩ | ⟨b1, b2, b3, b4⟩
      · omega
      · refine ⟨fun k j e n => (b3 k j (cT e) (by have z := c0 e; omega) (by have z := c0 e; omega)).trans (a3 k j (ck_Q e) (c0 e).1 n), fun j n => (b3 55 j rfl (by decide) (fun e => n e.2)).trans (a3 55 j rfl (by decide) (fun e => absurd e.1 (by decide))), funext fun j => (b3 56 j rfl (by decide) (fun e => absurd e.1 (by decide))).trans (a3 56 j rfl (by decide) (fun e => absurd e.1 (by decide))), z5, funext fun j => a3 59 j rfl (by decide) (fun e => absurd e.1 (by decide)), a3 54 6 rfl (by decide) (by decide), fun j => a3 57 j rfl (by decide) (fun e => absurd e.1 (by decide)), funext fun j => b3 21 j rfl (by decide) (fun e => absurd e.1 (by decide)), (b3 8 10 rfl (by decide) (by decide)).trans (a3 8 10 rfl (by decide) (by decide)), ?_⟩
        have d10 := b3 1 10 rfl (by decide) (by decide)
        rcases a4 with ⟨p1, p2, p3, p4, p5⟩ | ⟨p1, p2, p3, p4, p5⟩
        · exact Or.inr ⟨by omega, by omega⟩
        · exact Or.inl ⟨by omega, by omega⟩
  obtain ⟨s1, s2, s3, s4, s5, s6, s7, s8, s9, s10⟩ := st
  have ec : ∀ k j : Nat, k < 1000 → ¬ (k = 1 ∧ j = 10) → cS P k j = cS M k j := fun k j hk n => by
    unfold cS
    by_cases e : ck k j = true
    · rw [if_pos e, if_pos e, s1 k j e n]
    · rw [if_neg e, if_neg e, if_neg (by omega), if_neg (by omega)]
  have e10 : cS P 1 10 = mI P 1 10 := cS_in rfl
  have f10 : cS M 1 10 = mI M 1 10 := cS_in rfl
  have ei : ∀ k j : Nat, k < 1000 → iS (cS P) k j = iS (cS M) k j := fun k j hk => by
    refine ec (im k) j (by unfold im; split; (decide); (split; (omega); (split <;> omega))) (fun e => ?_)
    have z : im k ≠ 1 := by
      unfold im
      split
      · decide
      · split
        · omega
        · split <;> omega
    exact z e.1
  refine ⟨bp.1, hl, h2.t5 (fun j n => s2 j n) ec (by rw [e10]; exact p55) (by rw [e10, f10]; omega) (by rw [e10]; exact k10.2), by rw [s3]; exact h3.eq ei, ?_, ?_, h6.co (fun t ht => ec _ _ (by omega) (by omega)) (fun j => ec _ _ (by omega) (by omega)), h7.co (fun t ht => ei _ _ (by omega)) (fun j => ei _ _ (by omega))⟩
  · have old : TxG P 7 (mI M 1 10) := h4.go hB (Or.inl rfl) dz (fun t ht => (ur 7 t (Or.inl rfl)).trans (c7 t (by omega))) (fun j hj => (ul j (by rw [s4, m55]; exact hj)).trans (s7 j))
    rcases s10 with ⟨g, _⟩ | ⟨g, hr⟩
    · rw [g]
      exact old
    · intro t ht
      by_cases e : (t : Int) < mI M 1 10
      · exact old t e
      · obtain ⟨y, z, y1, y2, y3, y0, y4, y5⟩ := cn hr
        obtain ⟨v1, v2⟩ := un hr
        rw [s4, m55, s5, s6, m59, m6] at v1 v2
        have ht2 : t = (mI M 1 10).toNat := by omega
        have he : 873 * t = (873 * mI M 1 10).toNat := by omega
        have hTx := bx.1.2.2.1 7 t y (Or.inl rfl) (by rw [ht2]; exact y1)
        obtain ⟨y75, ys, _, a, b', c, nn, mm, w1, w2, w3, w4, w5, w6, w7⟩ := hTx
        have ecz : c = z := by rw [w3] at y2; cases y2; rfl
        have ey : mI P y 3 = mI N y 3 := bp.2.vl y75 ys
        have p0 : 0 ≤ mI P 57 (873 * mI M 1 10).toNat := by
          have q := (bp.1.2.2.2.2.2.2 t (by rw [p55, g]; omega)).1
          rw [he] at q
          exact q
        have ecn : mI N y 3 = mI P 57 (873 * mI M 1 10).toNat := pl_cnt (A := fun _ => True) (B := fun _ => True) y0 p0 y4 v1 (fun e he => (y5 e he).1.1) (fun e he => (v2 e he).1.1.1)
        refine ⟨y, z, (ur 7 t (Or.inl rfl)).trans (by rw [ht2]; exact y1), (bp.2.rf y75 ys 2).trans y2, by rw [ey]; exact bp.2.sh (by omega) y3, by rw [he, ey, ecn], fun e hee => ?_⟩
        rw [ey] at hee
        have q := cl_both (f := mI P z) (by omega) (y5 e hee) (v2 e (by omega)).1 (v2 e (by omega)).2 (fun j _ _ => bp.2.vl (by omega) y3)
        rw [show (873 * mI M 1 10 + 1 + 11 * (e : Int)).toNat = 873 * t + 1 + 11 * e by omega] at q
        exact q
  · rw [s9]
    have hle : mI M 8 10 ≤ mI M 1 10 := by
      have q := hB.2.2.2.2.2.1
      have z := h1.2.2.2.2.2.2
      omega
    exact h5.go hB (Or.inr rfl) dz (fun t ht => (ur 14 t (Or.inr rfl)).trans (c14 t)) (fun j hj => (ul j (by rw [s4, m55]; omega)).trans (s7 j))
/-- the places that the relation reads -/
def rgP (k j : Nat) : Prop := (k = 1 ∧ 6 ≤ j ∧ j ≤ 11) ∨ (k = 2 ∧ j < 16) ∨ ((k = 3 ∨ k = 4) ∧ j < 64) ∨ (k = 5 ∧ j < 24) ∨ (k = 6 ∧ j < 72) ∨ (k = 15 ∧ 2 ≤ j ∧ j ≤ 3) ∨ (k = 16 ∧ j < 10) ∨ (k = 17 ∧ j < 300)
theorem rgS_b {s : Sw} (e : Nat) : rgS s e ≤ 290 := by
  unfold rgS
  omega
theorem AR.rg {a a' : Nat → Int} {s s' : Sw} (h : AR a s) (ha : ∀ j : Nat, j < 589 → a' j = a j) (hs : ∀ k j : Nat, rgP k j → s' k j = s k j) (g4 : ∀ j : Nat, s' 4 j = 0 ∨ s' 4 j = 1) : AR a' s' := by
  obtain ⟨⟨h1, h2, h3, h4, h5, h6, h7, h8⟩, ⟨v1, v2, v3, v4⟩, u2, u3, u4, u5, uS⟩ := h
  have s6 := hs 1 6 (by unfold rgP; omega)
  have s7 := hs 1 7 (by unfold rgP; omega)
  have s8 := hs 1 8 (by unfold rgP; omega)
  have s9 := hs 1 9 (by unfold rgP; omega)
  have s10 := hs 1 10 (by unfold rgP; omega)
  have s11 := hs 1 11 (by unfold rgP; omega)
  have p2 := hs 15 2 (by unfold rgP; omega)
  have p3 := hs 15 3 (by unfold rgP; omega)
  have w := h8
  obtain ⟨w1, w2, w3, w4, w5, w6, w7, w8, w9, w10, w11, w12⟩ := w
  have y := u4
  obtain ⟨y1, y2, y3, y4, y5, y6, y7, y8⟩ := y
  refine ⟨⟨?_, fun c hc => ?_, fun t ht j hj => ?_, fun t ht => ?_, ⟨fun j h1 h2 => ?_, fun j h1 => ?_, g4⟩, fun t ht => ?_, fun t ht => ?_, ?_⟩, ?_, fun t ht => ?_, fun e he => ?_, ?_, fun t t1 t2 => ?_, ?_, fun e he => ?_⟩
  · unfold aSc
    rw [s6, s7, s8, s9, s10, s11, ha 0 (by decide), ha 1 (by decide), ha 2 (by decide), ha 3 (by decide), ha 5 (by decide), ha 6 (by decide)]
    exact h1
  · rw [s6] at hc
    obtain ⟨p, q⟩ := h2 c hc
    refine ⟨by rw [ha _ (by omega), hs 2 _ (by unfold rgP; omega)]; exact p, fun d hd => ?_⟩
    obtain ⟨q1, q2⟩ := q d hd
    rw [hs 3 _ (by unfold rgP; omega), hs 4 _ (by unfold rgP; omega), ha _ (by omega), ha _ (by omega)]
    exact ⟨q1, q2⟩
  · rw [s8] at ht
    rw [hs 5 _ (by unfold rgP; omega), ha _ (by omega)]
    exact h3 t ht j hj
  · rw [s9] at ht
    obtain ⟨⟨p1, p2, p3⟩, q⟩ := h4 t ht
    have c6 := (h7 t ht).2.2.2.2.2.1
    rw [hs 6 _ (by unfold rgP; omega), hs 6 _ (by unfold rgP; omega), hs 6 _ (by unfold rgP; omega)]
    refine ⟨⟨by rw [ha _ (by omega)]; exact p1, by rw [ha _ (by omega)]; exact p2, by rw [ha _ (by omega)]; exact p3⟩, fun i hi => ?_⟩
    rw [hs 6 _ (by unfold rgP; omega), ha _ (by omega)]
    exact q i hi
  · rw [hs 3 _ (by unfold rgP; omega)]; rw [s6] at h1; exact h5.1 j h1 h2
  · rw [hs 3 _ (by unfold rgP; omega), s6]; exact h5.2.1 j h1
  · rw [s8] at ht
    rw [hs 5 _ (by unfold rgP; omega), s6]
    exact h6 t ht
  · rw [s9] at ht
    obtain ⟨q1, q2, q3, q4, q5, q6, q7⟩ := h7 t ht
    rw [hs 6 _ (by unfold rgP; omega), hs 6 _ (by unfold rgP; omega), hs 6 _ (by unfold rgP; omega), s8]
    exact ⟨q1, q2, q3, q4, q5, q6, fun i hi => by rw [hs 6 _ (by unfold rgP; omega)]; exact q7 i hi⟩
  · unfold wSc
    rw [s6, s7, s8, s9, s10, s11]
    exact h8
  · unfold aWk
    rw [p2, hs 16 0 (by unfold rgP; omega), hs 16 1 (by unfold rgP; omega), hs 16 3 (by unfold rgP; omega), ha 4 (by decide), ha 7 (by decide), ha 256 (by decide), ha 257 (by decide)]
    exact ⟨v1, v2, v3, v4⟩
  · rw [ha _ (by omega), hs 16 _ (by unfold rgP; omega)]
    exact u2 t ht
  · rw [p2] at he
    have er : rgS s' e = rgS s e := by unfold rgS; rw [p2, p3]
    have rb := rgS_b (s := s) e
    obtain ⟨q1, q2, q3, q4, q5, q6, q7, q8⟩ := u3 e he
    rw [er]
    refine ⟨by rw [ha _ (by omega), hs 17 _ (by unfold rgP; omega)]; exact q1, by rw [ha _ (by omega), hs 17 _ (by unfold rgP; omega)]; exact q2, by rw [ha _ (by omega), hs 17 _ (by unfold rgP; omega)]; exact q3, fun t ht => by rw [ha _ (by omega), hs 17 _ (by unfold rgP; omega)]; exact q4 t ht, by rw [ha _ (by omega), s8]; exact q5, fun t ht h9 => ?_, by rw [hs 17 _ (by unfold rgP; omega), s6]; exact q7, by rw [hs 17 _ (by unfold rgP; omega), hs 17 _ (by unfold rgP; omega)]; exact q8⟩
    rw [ha _ (by omega)] at h9
    rw [hs 17 _ (by unfold rgP; omega)]
    exact q6 t ht h9
  · unfold wWk
    rw [p2, p3, hs 16 0 (by unfold rgP; omega), hs 16 1 (by unfold rgP; omega), s6]
    exact u4
  · rw [s8] at t1
    rw [hs 16 _ (by unfold rgP; omega)]
    exact u5 t t1 t2
  · rw [ha _ (by omega), hs 16 _ (by unfold rgP; omega)]
    exact uS.1
  · rw [p2] at he
    have er : rgS s' e = rgS s e := by unfold rgS; rw [p2, p3]
    have rb := rgS_b (s := s) e
    rw [er, ha _ (by omega), hs 17 _ (by unfold rgP; omega)]
    exact uS.2 e he
theorem asB.rg {s s' : Sw} {b : Int} (h : asB s b) (hs : ∀ k j : Nat, rgP k j → s' k j = s k j) : asB s' b := ⟨fun t ht => by rw [hs 16 _ (by unfold rgP; omega)]; exact h.1 t ht, fun j j1 j2 => by rw [hs 17 _ (by unfold rgP; omega)]; exact h.2 j j1 j2⟩
theorem ck_t {k j : Nat} (h : rgP k j) : ck k j = true := by
  unfold rgP at h
  unfold ck
  simp only [Bool.or_eq_true, Bool.and_eq_true, beq_iff_eq, Nat.ble_eq]
  omega
theorem ck_ti {k j : Nat} (h : rgP k j) : ck (im k) j = true := by
  unfold rgP at h
  unfold ck im
  simp only [Bool.or_eq_true, Bool.and_eq_true, beq_iff_eq, Nat.ble_eq]
  split
  · omega
  · split
    · omega
    · split <;> omega
theorem oS {M : Mem} {k j a b : Nat} {v : Int} (h : a ≠ k) : mI (sI M k j v) a b = mI M a b := if_neg (fun e => h e.1)
theorem oC {M : Mem} {k f d s n a b : Nat} (h : a ≠ k) : mI (cpI M k f d s n) a b = mI M a b := if_neg (fun e => h e.1)
theorem oR {M : Mem} {k j a b : Nat} {v : Option Nat} (h : a ≠ k) : mR (sR M k j v) a b = mR M a b := if_neg (fun e => h e.1)
theorem oRI {M : Mem} {k j a b : Nat} {v : Option Nat} : mI (sR M k j v) a b = mI M a b := rfl
theorem inS {M : Mem} {k j : Nat} {v : Int} : mI (sI M k j v) k j = v := if_pos ⟨rfl, rfl⟩
theorem oSj {M : Mem} {k i j : Nat} {v : Int} (h : j ≠ i) : mI (sI M k i v) k j = mI M k j := if_neg (fun e => h e.2)
theorem inR {M : Mem} {k j : Nat} {v : Option Nat} : mR (sR M k j v) k j = v := if_pos ⟨rfl, rfl⟩
theorem oRj {M : Mem} {k i j : Nat} {v : Option Nat} (h : j ≠ i) : mR (sR M k i v) k j = mR M k j := if_neg (fun e => h e.2)
theorem rS {M : Mem} {k j a b : Nat} {v : Int} : mR (sI M k j v) a b = mR M a b := rfl
theorem rC {M : Mem} {k f d s n a b : Nat} : mR (cpI M k f d s n) a b = mR M a b := rfl
theorem BX.U14 {A M : Mem} (h : BX A M) (j i : Nat) : BX A (sR M 14 j (mR M 7 i)) := h.T14 j (fun y hy => h.tx (k := 7) (Or.inl rfl) rfl y hy)
theorem BX.U7 {A M : Mem} (h : BX A M) (j i : Nat) : BX A (sR M 7 j (mR M 14 i)) := h.T7 j (fun y hy => h.tx (k := 14) (Or.inr rfl) rfl y hy)
theorem inC {M : Mem} {k f n b : Nat} (h : b < n) : mI (cpI M k f 0 0 n) k b = mI M f b := by
  rw [mI_cpI, if_pos ⟨rfl, Nat.zero_le _, by omega⟩, Nat.zero_add, Nat.sub_zero]
theorem outC {M : Mem} {k f n b : Nat} (h : ¬ b < n) : mI (cpI M k f 0 0 n) k b = mI M k b := by
  rw [mI_cpI, if_neg (fun e => h (by omega))]
theorem bgX6_copyFrom_i {A M : Mem} (h0 : BX A M) : BX A (gX6_copyFrom_i M) := by
  unfold gX6_copyFrom_i
  refine BX.w8_11 ?_
  refine BX.w8_10 ?_ (b1_10 (M := M) h0.1).1 (b1_10 (M := M) h0.1).2
  refine BX.w8_9 ?_ (b1_9 (M := M) h0.1).1 (b1_9 (M := M) h0.1).2
  refine BX.w8_8 ?_ (b1_8 (M := M) h0.1).1 (b1_8 (M := M) h0.1).2
  refine BX.w8_7 ?_ (b1_7 (M := M) h0.1).1 (b1_7 (M := M) h0.1).2
  refine BX.w8_6 ?_ (b1_6 (M := M) h0.1).1 (b1_6 (M := M) h0.1).2
  refine BX.U14 ?_ _ _
  refine BX.U14 ?_ _ _
  refine BX.U14 ?_ _ _
  refine BX.U14 ?_ _ _
  refine BX.C13 ?_ _ _ _ _
  refine BX.C12 ?_ _ _ _ _
  refine BX.C11 ?_ _ _ _ _
  refine BX.C10 ?_ _ _ _ _ rfl
  refine BX.C9 ?_ _ _ _ _
  exact h0
theorem bgX8_copyFrom_i {A M : Mem} (h0 : BX A M) : BX A (gX8_copyFrom_i M) := by
  unfold gX8_copyFrom_i
  refine BX.w18_3 ?_ (b15_3 (M := M) h0.1).1 (b15_3 (M := M) h0.1).2
  refine BX.w18_2 ?_ (b15_2 (M := M) h0.1).1 (b15_2 (M := M) h0.1).2
  refine BX.C20 ?_ _ _ _ _
  refine BX.C19 ?_ _ _ _ _
  exact h0
theorem image_bx {M : Mem} (hB : Box M) : BX M (gX11_image M) := bgX8_copyFrom_i (bgX6_copyFrom_i (BX.start hB))
theorem ogX6_copyFrom_i {M : Mem} {k j : Nat} (k8 : k ≠ 8) (k9 : k ≠ 9) (k10 : k ≠ 10) (k11 : k ≠ 11) (k12 : k ≠ 12) (k13 : k ≠ 13) : mI (gX6_copyFrom_i M) k j = mI M k j := ((oS k8).trans ((oS k8).trans ((oS k8).trans ((oS k8).trans ((oS k8).trans ((oS k8).trans ((oC k13).trans ((oC k12).trans ((oC k11).trans ((oC k10).trans ((oC k9).trans rfl)))))))))))
theorem ogX8_copyFrom_i {M : Mem} {k j : Nat} (k18 : k ≠ 18) (k19 : k ≠ 19) (k20 : k ≠ 20) : mI (gX8_copyFrom_i M) k j = mI M k j := ((oS k18).trans ((oS k18).trans ((oC k20).trans ((oC k19).trans rfl))))
theorem image_o {M : Mem} {k j : Nat} (k8 : k ≠ 8) (k9 : k ≠ 9) (k10 : k ≠ 10) (k11 : k ≠ 11) (k12 : k ≠ 12) (k13 : k ≠ 13) (k18 : k ≠ 18) (k19 : k ≠ 19) (k20 : k ≠ 20) : mI (gX11_image M) k j = mI M k j := (ogX8_copyFrom_i k18 k19 k20).trans (ogX6_copyFrom_i k8 k9 k10 k11 k12 k13)
theorem image_r {M : Mem} {j : Nat} (hj : j < 4) : mR (gX11_image M) 14 j = mR M 7 j := by
  show mR (gX6_copyFrom_i M) 14 j = _
  rcases (by omega : j = 0 ∨ j = 1 ∨ j = 2 ∨ j = 3) with rfl | rfl | rfl | rfl
  · exact (rS.trans (rS.trans (rS.trans (rS.trans (rS.trans (rS.trans ((oRj (by decide)).trans ((oRj (by decide)).trans ((oRj (by decide)).trans (inR.trans (rC.trans (rC.trans (rC.trans (rC.trans (rC.trans rfl)))))))))))))))
  · exact (rS.trans (rS.trans (rS.trans (rS.trans (rS.trans (rS.trans ((oRj (by decide)).trans ((oRj (by decide)).trans (inR.trans ((oR (by decide)).trans (rC.trans (rC.trans (rC.trans (rC.trans (rC.trans rfl)))))))))))))))
  · exact (rS.trans (rS.trans (rS.trans (rS.trans (rS.trans (rS.trans ((oRj (by decide)).trans (inR.trans ((oR (by decide)).trans ((oR (by decide)).trans (rC.trans (rC.trans (rC.trans (rC.trans (rC.trans rfl)))))))))))))))
  · exact (rS.trans (rS.trans (rS.trans (rS.trans (rS.trans (rS.trans (inR.trans ((oR (by decide)).trans ((oR (by decide)).trans ((oR (by decide)).trans (rC.trans (rC.trans (rC.trans (rC.trans (rC.trans rfl)))))))))))))))
theorem image_ro {M : Mem} {k j : Nat} (hk : k ≠ 14) : mR (gX11_image M) k j = mR M k j := by
  show mR (gX6_copyFrom_i M) k j = _
  exact (rS.trans (rS.trans (rS.trans (rS.trans (rS.trans (rS.trans ((oR hk).trans ((oR hk).trans ((oR hk).trans ((oR hk).trans (rC.trans (rC.trans (rC.trans (rC.trans (rC.trans rfl)))))))))))))))
theorem bgX6_copyFrom_b {A M : Mem} (h0 : BX A M) : BX A (gX6_copyFrom_b M) := by
  unfold gX6_copyFrom_b
  refine BX.w1_11 ?_
  refine BX.w1_10 ?_ (b8_10 (M := M) h0.1).1 (b8_10 (M := M) h0.1).2
  refine BX.w1_9 ?_ (b8_9 (M := M) h0.1).1 (b8_9 (M := M) h0.1).2
  refine BX.w1_8 ?_ (b8_8 (M := M) h0.1).1 (b8_8 (M := M) h0.1).2
  refine BX.w1_7 ?_ (b8_7 (M := M) h0.1).1 (b8_7 (M := M) h0.1).2
  refine BX.w1_6 ?_ (b8_6 (M := M) h0.1).1 (b8_6 (M := M) h0.1).2
  refine BX.U7 ?_ _ _
  refine BX.U7 ?_ _ _
  refine BX.U7 ?_ _ _
  refine BX.U7 ?_ _ _
  refine BX.C6 ?_ _ _ _ _
  refine BX.C5 ?_ _ _ _ _
  refine BX.C4 ?_ _ _ _ _
  refine BX.C3 ?_ _ _ _ _ rfl
  refine BX.C2 ?_ _ _ _ _
  exact h0
theorem bgX8_copyFrom_b {A M : Mem} (h0 : BX A M) : BX A (gX8_copyFrom_b M) := by
  unfold gX8_copyFrom_b
  refine BX.w15_3 ?_ (b18_3 (M := M) h0.1).1 (b18_3 (M := M) h0.1).2
  refine BX.w15_2 ?_ (b18_2 (M := M) h0.1).1 (b18_2 (M := M) h0.1).2
  refine BX.C17 ?_ _ _ _ _
  refine BX.C16 ?_ _ _ _ _
  exact h0
theorem back_bx {M : Mem} (hB : Box M) : BX M (gX11_back M) := bgX8_copyFrom_b (bgX6_copyFrom_b (BX.start hB))
theorem ogX6_copyFrom_b {M : Mem} {k j : Nat} (k1 : k ≠ 1) (k2 : k ≠ 2) (k3 : k ≠ 3) (k4 : k ≠ 4) (k5 : k ≠ 5) (k6 : k ≠ 6) : mI (gX6_copyFrom_b M) k j = mI M k j := ((oS k1).trans ((oS k1).trans ((oS k1).trans ((oS k1).trans ((oS k1).trans ((oS k1).trans ((oC k6).trans ((oC k5).trans ((oC k4).trans ((oC k3).trans ((oC k2).trans rfl)))))))))))
theorem ogX8_copyFrom_b {M : Mem} {k j : Nat} (k15 : k ≠ 15) (k16 : k ≠ 16) (k17 : k ≠ 17) : mI (gX8_copyFrom_b M) k j = mI M k j := ((oS k15).trans ((oS k15).trans ((oC k17).trans ((oC k16).trans rfl))))
theorem back_o {M : Mem} {k j : Nat} (k1 : k ≠ 1) (k2 : k ≠ 2) (k3 : k ≠ 3) (k4 : k ≠ 4) (k5 : k ≠ 5) (k6 : k ≠ 6) (k15 : k ≠ 15) (k16 : k ≠ 16) (k17 : k ≠ 17) : mI (gX11_back M) k j = mI M k j := (ogX8_copyFrom_b k15 k16 k17).trans (ogX6_copyFrom_b k1 k2 k3 k4 k5 k6)
theorem back_r {M : Mem} {j : Nat} (hj : j < 4) : mR (gX11_back M) 7 j = mR M 14 j := by
  show mR (gX6_copyFrom_b M) 7 j = _
  rcases (by omega : j = 0 ∨ j = 1 ∨ j = 2 ∨ j = 3) with rfl | rfl | rfl | rfl
  · exact (rS.trans (rS.trans (rS.trans (rS.trans (rS.trans (rS.trans ((oRj (by decide)).trans ((oRj (by decide)).trans ((oRj (by decide)).trans (inR.trans (rC.trans (rC.trans (rC.trans (rC.trans (rC.trans rfl)))))))))))))))
  · exact (rS.trans (rS.trans (rS.trans (rS.trans (rS.trans (rS.trans ((oRj (by decide)).trans ((oRj (by decide)).trans (inR.trans ((oR (by decide)).trans (rC.trans (rC.trans (rC.trans (rC.trans (rC.trans rfl)))))))))))))))
  · exact (rS.trans (rS.trans (rS.trans (rS.trans (rS.trans (rS.trans ((oRj (by decide)).trans (inR.trans ((oR (by decide)).trans ((oR (by decide)).trans (rC.trans (rC.trans (rC.trans (rC.trans (rC.trans rfl)))))))))))))))
  · exact (rS.trans (rS.trans (rS.trans (rS.trans (rS.trans (rS.trans (inR.trans ((oR (by decide)).trans ((oR (by decide)).trans ((oR (by decide)).trans (rC.trans (rC.trans (rC.trans (rC.trans (rC.trans rfl)))))))))))))))
theorem back_ro {M : Mem} {k j : Nat} (hk : k ≠ 7) : mR (gX11_back M) k j = mR M k j := by
  show mR (gX6_copyFrom_b M) k j = _
  exact (rS.trans (rS.trans (rS.trans (rS.trans (rS.trans (rS.trans ((oR hk).trans ((oR hk).trans ((oR hk).trans ((oR hk).trans (rC.trans (rC.trans (rC.trans (rC.trans (rC.trans rfl)))))))))))))))
theorem image_9 {M : Mem} {j : Nat} : mI (gX11_image M) 9 j = mI ((cpI M 9 2 0 0 16)) 9 j := ((oS (by decide)).trans ((oS (by decide)).trans ((oC (by decide)).trans ((oC (by decide)).trans ((oS (by decide)).trans ((oS (by decide)).trans ((oS (by decide)).trans ((oS (by decide)).trans ((oS (by decide)).trans ((oS (by decide)).trans (oRI.trans (oRI.trans (oRI.trans (oRI.trans ((oC (by decide)).trans ((oC (by decide)).trans ((oC (by decide)).trans ((oC (by decide)).trans rfl))))))))))))))))))
theorem image_9i {M : Mem} {j : Nat} (h : j < 16) : mI (gX11_image M) 9 j = mI M 2 j := image_9.trans ((inC h).trans rfl)
theorem image_9o {M : Mem} {j : Nat} (h : ¬ j < 16) : mI (gX11_image M) 9 j = mI M 9 j := image_9.trans ((outC h).trans rfl)
theorem image_10 {M : Mem} {j : Nat} : mI (gX11_image M) 10 j = mI ((cpI (cpI M 9 2 0 0 16) 10 3 0 0 64)) 10 j := ((oS (by decide)).trans ((oS (by decide)).trans ((oC (by decide)).trans ((oC (by decide)).trans ((oS (by decide)).trans ((oS (by decide)).trans ((oS (by decide)).trans ((oS (by decide)).trans ((oS (by decide)).trans ((oS (by decide)).trans (oRI.trans (oRI.trans (oRI.trans (oRI.trans ((oC (by decide)).trans ((oC (by decide)).trans ((oC (by decide)).trans rfl)))))))))))))))))
theorem image_10i {M : Mem} {j : Nat} (h : j < 64) : mI (gX11_image M) 10 j = mI M 3 j := image_10.trans ((inC h).trans rfl)
theorem image_10o {M : Mem} {j : Nat} (h : ¬ j < 64) : mI (gX11_image M) 10 j = mI M 10 j := image_10.trans ((outC h).trans rfl)
theorem image_11 {M : Mem} {j : Nat} : mI (gX11_image M) 11 j = mI ((cpI (cpI (cpI M 9 2 0 0 16) 10 3 0 0 64) 11 4 0 0 64)) 11 j := ((oS (by decide)).trans ((oS (by decide)).trans ((oC (by decide)).trans ((oC (by decide)).trans ((oS (by decide)).trans ((oS (by decide)).trans ((oS (by decide)).trans ((oS (by decide)).trans ((oS (by decide)).trans ((oS (by decide)).trans (oRI.trans (oRI.trans (oRI.trans (oRI.trans ((oC (by decide)).trans ((oC (by decide)).trans rfl))))))))))))))))
theorem image_11i {M : Mem} {j : Nat} (h : j < 64) : mI (gX11_image M) 11 j = mI M 4 j := image_11.trans ((inC h).trans rfl)
theorem image_11o {M : Mem} {j : Nat} (h : ¬ j < 64) : mI (gX11_image M) 11 j = mI M 11 j := image_11.trans ((outC h).trans rfl)
theorem image_12 {M : Mem} {j : Nat} : mI (gX11_image M) 12 j = mI ((cpI (cpI (cpI (cpI M 9 2 0 0 16) 10 3 0 0 64) 11 4 0 0 64) 12 5 0 0 24)) 12 j := ((oS (by decide)).trans ((oS (by decide)).trans ((oC (by decide)).trans ((oC (by decide)).trans ((oS (by decide)).trans ((oS (by decide)).trans ((oS (by decide)).trans ((oS (by decide)).trans ((oS (by decide)).trans ((oS (by decide)).trans (oRI.trans (oRI.trans (oRI.trans (oRI.trans ((oC (by decide)).trans rfl)))))))))))))))
theorem image_12i {M : Mem} {j : Nat} (h : j < 24) : mI (gX11_image M) 12 j = mI M 5 j := image_12.trans ((inC h).trans rfl)
theorem image_12o {M : Mem} {j : Nat} (h : ¬ j < 24) : mI (gX11_image M) 12 j = mI M 12 j := image_12.trans ((outC h).trans rfl)
theorem image_13 {M : Mem} {j : Nat} : mI (gX11_image M) 13 j = mI ((cpI (cpI (cpI (cpI (cpI M 9 2 0 0 16) 10 3 0 0 64) 11 4 0 0 64) 12 5 0 0 24) 13 6 0 0 72)) 13 j := ((oS (by decide)).trans ((oS (by decide)).trans ((oC (by decide)).trans ((oC (by decide)).trans ((oS (by decide)).trans ((oS (by decide)).trans ((oS (by decide)).trans ((oS (by decide)).trans ((oS (by decide)).trans ((oS (by decide)).trans (oRI.trans (oRI.trans (oRI.trans (oRI.trans rfl))))))))))))))
theorem image_13i {M : Mem} {j : Nat} (h : j < 72) : mI (gX11_image M) 13 j = mI M 6 j := image_13.trans ((inC h).trans rfl)
theorem image_13o {M : Mem} {j : Nat} (h : ¬ j < 72) : mI (gX11_image M) 13 j = mI M 13 j := image_13.trans ((outC h).trans rfl)
theorem image_19 {M : Mem} {j : Nat} (h : j < 10) : mI (gX11_image M) 19 j = mI M 16 j := by
  exact ((oS (by decide)).trans ((oS (by decide)).trans ((oC (by decide)).trans ((inC h).trans ((ogX6_copyFrom_i (by decide) (by decide) (by decide) (by decide) (by decide) (by decide)).trans rfl)))))
theorem image_20 {M : Mem} {j : Nat} (h : j < 300) : mI (gX11_image M) 20 j = mI M 17 j := by
  exact ((oS (by decide)).trans ((oS (by decide)).trans ((inC h).trans ((oC (by decide)).trans ((ogX6_copyFrom_i (by decide) (by decide) (by decide) (by decide) (by decide) (by decide)).trans rfl)))))
theorem image_rg {M : Mem} {k j : Nat} (h : rgP k j) : mI (gX11_image M) (im k) j = mI M (k) j := by
  unfold rgP at h
  rcases h with ⟨rfl, a, b⟩ | ⟨rfl, a⟩ | ⟨rfl | rfl, a⟩ | ⟨rfl, a⟩ | ⟨rfl, a⟩ | ⟨rfl, a, b⟩ | ⟨rfl, a⟩ | ⟨rfl, a⟩
  · rcases (by omega : j = 6 ∨ j = 7 ∨ j = 8 ∨ j = 9 ∨ j = 10 ∨ j = 11) with rfl | rfl | rfl | rfl | rfl | rfl
    · show mI (gX11_image M) 8 6 = mI M 1 6
      exact ((oS (by decide)).trans ((oS (by decide)).trans ((oC (by decide)).trans ((oC (by decide)).trans ((oSj (by decide)).trans ((oSj (by decide)).trans ((oSj (by decide)).trans ((oSj (by decide)).trans ((oSj (by decide)).trans (inS.trans (oRI.trans (oRI.trans (oRI.trans (oRI.trans ((oC (by decide)).trans ((oC (by decide)).trans ((oC (by decide)).trans ((oC (by decide)).trans ((oC (by decide)).trans rfl)))))))))))))))))))
    · show mI (gX11_image M) 8 7 = mI M 1 7
      exact ((oS (by decide)).trans ((oS (by decide)).trans ((oC (by decide)).trans ((oC (by decide)).trans ((oSj (by decide)).trans ((oSj (by decide)).trans ((oSj (by decide)).trans ((oSj (by decide)).trans (inS.trans ((oS (by decide)).trans (oRI.trans (oRI.trans (oRI.trans (oRI.trans ((oC (by decide)).trans ((oC (by decide)).trans ((oC (by decide)).trans ((oC (by decide)).trans ((oC (by decide)).trans rfl)))))))))))))))))))
    · show mI (gX11_image M) 8 8 = mI M 1 8
      exact ((oS (by decide)).trans ((oS (by decide)).trans ((oC (by decide)).trans ((oC (by decide)).trans ((oSj (by decide)).trans ((oSj (by decide)).trans ((oSj (by decide)).trans (inS.trans ((oS (by decide)).trans ((oS (by decide)).trans (oRI.trans (oRI.trans (oRI.trans (oRI.trans ((oC (by decide)).trans ((oC (by decide)).trans ((oC (by decide)).trans ((oC (by decide)).trans ((oC (by decide)).trans rfl)))))))))))))))))))
    · show mI (gX11_image M) 8 9 = mI M 1 9
      exact ((oS (by decide)).trans ((oS (by decide)).trans ((oC (by decide)).trans ((oC (by decide)).trans ((oSj (by decide)).trans ((oSj (by decide)).trans (inS.trans ((oS (by decide)).trans ((oS (by decide)).trans ((oS (by decide)).trans (oRI.trans (oRI.trans (oRI.trans (oRI.trans ((oC (by decide)).trans ((oC (by decide)).trans ((oC (by decide)).trans ((oC (by decide)).trans ((oC (by decide)).trans rfl)))))))))))))))))))
    · show mI (gX11_image M) 8 10 = mI M 1 10
      exact ((oS (by decide)).trans ((oS (by decide)).trans ((oC (by decide)).trans ((oC (by decide)).trans ((oSj (by decide)).trans (inS.trans ((oS (by decide)).trans ((oS (by decide)).trans ((oS (by decide)).trans ((oS (by decide)).trans (oRI.trans (oRI.trans (oRI.trans (oRI.trans ((oC (by decide)).trans ((oC (by decide)).trans ((oC (by decide)).trans ((oC (by decide)).trans ((oC (by decide)).trans rfl)))))))))))))))))))
    · show mI (gX11_image M) 8 11 = mI M 1 11
      exact ((oS (by decide)).trans ((oS (by decide)).trans ((oC (by decide)).trans ((oC (by decide)).trans (inS.trans ((oS (by decide)).trans ((oS (by decide)).trans ((oS (by decide)).trans ((oS (by decide)).trans ((oS (by decide)).trans (oRI.trans (oRI.trans (oRI.trans (oRI.trans ((oC (by decide)).trans ((oC (by decide)).trans ((oC (by decide)).trans ((oC (by decide)).trans ((oC (by decide)).trans rfl)))))))))))))))))))
  · exact image_9i a
  · exact image_10i a
  · exact image_11i a
  · exact image_12i a
  · exact image_13i a
  · rcases (by omega : j = 2 ∨ j = 3) with rfl | rfl
    · show mI (gX11_image M) 18 2 = mI M 15 2
      exact ((oSj (by decide)).trans (inS.trans ((oC (by decide)).trans ((oC (by decide)).trans ((ogX6_copyFrom_i (by decide) (by decide) (by decide) (by decide) (by decide) (by decide)).trans rfl)))))
    · show mI (gX11_image M) 18 3 = mI M 15 3
      exact (inS.trans ((oS (by decide)).trans ((oC (by decide)).trans ((oC (by decide)).trans ((ogX6_copyFrom_i (by decide) (by decide) (by decide) (by decide) (by decide) (by decide)).trans rfl)))))
  · exact image_19 a
  · exact image_20 a
theorem back_2 {M : Mem} {j : Nat} : mI (gX11_back M) 2 j = mI ((cpI M 2 9 0 0 16)) 2 j := ((oS (by decide)).trans ((oS (by decide)).trans ((oC (by decide)).trans ((oC (by decide)).trans ((oS (by decide)).trans ((oS (by decide)).trans ((oS (by decide)).trans ((oS (by decide)).trans ((oS (by decide)).trans ((oS (by decide)).trans (oRI.trans (oRI.trans (oRI.trans (oRI.trans ((oC (by decide)).trans ((oC (by decide)).trans ((oC (by decide)).trans ((oC (by decide)).trans rfl))))))))))))))))))
theorem back_2i {M : Mem} {j : Nat} (h : j < 16) : mI (gX11_back M) 2 j = mI M 9 j := back_2.trans ((inC h).trans rfl)
theorem back_2o {M : Mem} {j : Nat} (h : ¬ j < 16) : mI (gX11_back M) 2 j = mI M 2 j := back_2.trans ((outC h).trans rfl)
theorem back_3 {M : Mem} {j : Nat} : mI (gX11_back M) 3 j = mI ((cpI (cpI M 2 9 0 0 16) 3 10 0 0 64)) 3 j := ((oS (by decide)).trans ((oS (by decide)).trans ((oC (by decide)).trans ((oC (by decide)).trans ((oS (by decide)).trans ((oS (by decide)).trans ((oS (by decide)).trans ((oS (by decide)).trans ((oS (by decide)).trans ((oS (by decide)).trans (oRI.trans (oRI.trans (oRI.trans (oRI.trans ((oC (by decide)).trans ((oC (by decide)).trans ((oC (by decide)).trans rfl)))))))))))))))))
theorem back_3i {M : Mem} {j : Nat} (h : j < 64) : mI (gX11_back M) 3 j = mI M 10 j := back_3.trans ((inC h).trans rfl)
theorem back_3o {M : Mem} {j : Nat} (h : ¬ j < 64) : mI (gX11_back M) 3 j = mI M 3 j := back_3.trans ((outC h).trans rfl)
theorem back_4 {M : Mem} {j : Nat} : mI (gX11_back M) 4 j = mI ((cpI (cpI (cpI M 2 9 0 0 16) 3 10 0 0 64) 4 11 0 0 64)) 4 j := ((oS (by decide)).trans ((oS (by decide)).trans ((oC (by decide)).trans ((oC (by decide)).trans ((oS (by decide)).trans ((oS (by decide)).trans ((oS (by decide)).trans ((oS (by decide)).trans ((oS (by decide)).trans ((oS (by decide)).trans (oRI.trans (oRI.trans (oRI.trans (oRI.trans ((oC (by decide)).trans ((oC (by decide)).trans rfl))))))))))))))))
theorem back_4i {M : Mem} {j : Nat} (h : j < 64) : mI (gX11_back M) 4 j = mI M 11 j := back_4.trans ((inC h).trans rfl)
theorem back_4o {M : Mem} {j : Nat} (h : ¬ j < 64) : mI (gX11_back M) 4 j = mI M 4 j := back_4.trans ((outC h).trans rfl)
theorem back_5 {M : Mem} {j : Nat} : mI (gX11_back M) 5 j = mI ((cpI (cpI (cpI (cpI M 2 9 0 0 16) 3 10 0 0 64) 4 11 0 0 64) 5 12 0 0 24)) 5 j := ((oS (by decide)).trans ((oS (by decide)).trans ((oC (by decide)).trans ((oC (by decide)).trans ((oS (by decide)).trans ((oS (by decide)).trans ((oS (by decide)).trans ((oS (by decide)).trans ((oS (by decide)).trans ((oS (by decide)).trans (oRI.trans (oRI.trans (oRI.trans (oRI.trans ((oC (by decide)).trans rfl)))))))))))))))
theorem back_5i {M : Mem} {j : Nat} (h : j < 24) : mI (gX11_back M) 5 j = mI M 12 j := back_5.trans ((inC h).trans rfl)
theorem back_5o {M : Mem} {j : Nat} (h : ¬ j < 24) : mI (gX11_back M) 5 j = mI M 5 j := back_5.trans ((outC h).trans rfl)
theorem back_6 {M : Mem} {j : Nat} : mI (gX11_back M) 6 j = mI ((cpI (cpI (cpI (cpI (cpI M 2 9 0 0 16) 3 10 0 0 64) 4 11 0 0 64) 5 12 0 0 24) 6 13 0 0 72)) 6 j := ((oS (by decide)).trans ((oS (by decide)).trans ((oC (by decide)).trans ((oC (by decide)).trans ((oS (by decide)).trans ((oS (by decide)).trans ((oS (by decide)).trans ((oS (by decide)).trans ((oS (by decide)).trans ((oS (by decide)).trans (oRI.trans (oRI.trans (oRI.trans (oRI.trans rfl))))))))))))))
theorem back_6i {M : Mem} {j : Nat} (h : j < 72) : mI (gX11_back M) 6 j = mI M 13 j := back_6.trans ((inC h).trans rfl)
theorem back_6o {M : Mem} {j : Nat} (h : ¬ j < 72) : mI (gX11_back M) 6 j = mI M 6 j := back_6.trans ((outC h).trans rfl)
theorem back_16 {M : Mem} {j : Nat} (h : j < 10) : mI (gX11_back M) 16 j = mI M 19 j := by
  exact ((oS (by decide)).trans ((oS (by decide)).trans ((oC (by decide)).trans ((inC h).trans ((ogX6_copyFrom_b (by decide) (by decide) (by decide) (by decide) (by decide) (by decide)).trans rfl)))))
theorem back_17 {M : Mem} {j : Nat} (h : j < 300) : mI (gX11_back M) 17 j = mI M 20 j := by
  exact ((oS (by decide)).trans ((oS (by decide)).trans ((inC h).trans ((oC (by decide)).trans ((ogX6_copyFrom_b (by decide) (by decide) (by decide) (by decide) (by decide) (by decide)).trans rfl)))))
theorem back_rg {M : Mem} {k j : Nat} (h : rgP k j) : mI (gX11_back M) (k) j = mI M (im k) j := by
  unfold rgP at h
  rcases h with ⟨rfl, a, b⟩ | ⟨rfl, a⟩ | ⟨rfl | rfl, a⟩ | ⟨rfl, a⟩ | ⟨rfl, a⟩ | ⟨rfl, a, b⟩ | ⟨rfl, a⟩ | ⟨rfl, a⟩
  · rcases (by omega : j = 6 ∨ j = 7 ∨ j = 8 ∨ j = 9 ∨ j = 10 ∨ j = 11) with rfl | rfl | rfl | rfl | rfl | rfl
    · show mI (gX11_back M) 1 6 = mI M 8 6
      exact ((oS (by decide)).trans ((oS (by decide)).trans ((oC (by decide)).trans ((oC (by decide)).trans ((oSj (by decide)).trans ((oSj (by decide)).trans ((oSj (by decide)).trans ((oSj (by decide)).trans ((oSj (by decide)).trans (inS.trans (oRI.trans (oRI.trans (oRI.trans (oRI.trans ((oC (by decide)).trans ((oC (by decide)).trans ((oC (by decide)).trans ((oC (by decide)).trans ((oC (by decide)).trans rfl)))))))))))))))))))
    · show mI (gX11_back M) 1 7 = mI M 8 7
      exact ((oS (by decide)).trans ((oS (by decide)).trans ((oC (by decide)).trans ((oC (by decide)).trans ((oSj (by decide)).trans ((oSj (by decide)).trans ((oSj (by decide)).trans ((oSj (by decide)).trans (inS.trans ((oS (by decide)).trans (oRI.trans (oRI.trans (oRI.trans (oRI.trans ((oC (by decide)).trans ((oC (by decide)).trans ((oC (by decide)).trans ((oC (by decide)).trans ((oC (by decide)).trans rfl)))))))))))))))))))
    · show mI (gX11_back M) 1 8 = mI M 8 8
      exact ((oS (by decide)).trans ((oS (by decide)).trans ((oC (by decide)).trans ((oC (by decide)).trans ((oSj (by decide)).trans ((oSj (by decide)).trans ((oSj (by decide)).trans (inS.trans ((oS (by decide)).trans ((oS (by decide)).trans (oRI.trans (oRI.trans (oRI.trans (oRI.trans ((oC (by decide)).trans ((oC (by decide)).trans ((oC (by decide)).trans ((oC (by decide)).trans ((oC (by decide)).trans rfl)))))))))))))))))))
    · show mI (gX11_back M) 1 9 = mI M 8 9
      exact ((oS (by decide)).trans ((oS (by decide)).trans ((oC (by decide)).trans ((oC (by decide)).trans ((oSj (by decide)).trans ((oSj (by decide)).trans (inS.trans ((oS (by decide)).trans ((oS (by decide)).trans ((oS (by decide)).trans (oRI.trans (oRI.trans (oRI.trans (oRI.trans ((oC (by decide)).trans ((oC (by decide)).trans ((oC (by decide)).trans ((oC (by decide)).trans ((oC (by decide)).trans rfl)))))))))))))))))))
    · show mI (gX11_back M) 1 10 = mI M 8 10
      exact ((oS (by decide)).trans ((oS (by decide)).trans ((oC (by decide)).trans ((oC (by decide)).trans ((oSj (by decide)).trans (inS.trans ((oS (by decide)).trans ((oS (by decide)).trans ((oS (by decide)).trans ((oS (by decide)).trans (oRI.trans (oRI.trans (oRI.trans (oRI.trans ((oC (by decide)).trans ((oC (by decide)).trans ((oC (by decide)).trans ((oC (by decide)).trans ((oC (by decide)).trans rfl)))))))))))))))))))
    · show mI (gX11_back M) 1 11 = mI M 8 11
      exact ((oS (by decide)).trans ((oS (by decide)).trans ((oC (by decide)).trans ((oC (by decide)).trans (inS.trans ((oS (by decide)).trans ((oS (by decide)).trans ((oS (by decide)).trans ((oS (by decide)).trans ((oS (by decide)).trans (oRI.trans (oRI.trans (oRI.trans (oRI.trans ((oC (by decide)).trans ((oC (by decide)).trans ((oC (by decide)).trans ((oC (by decide)).trans ((oC (by decide)).trans rfl)))))))))))))))))))
  · exact back_2i a
  · exact back_3i a
  · exact back_4i a
  · exact back_5i a
  · exact back_6i a
  · rcases (by omega : j = 2 ∨ j = 3) with rfl | rfl
    · show mI (gX11_back M) 15 2 = mI M 18 2
      exact ((oSj (by decide)).trans (inS.trans ((oC (by decide)).trans ((oC (by decide)).trans ((ogX6_copyFrom_b (by decide) (by decide) (by decide) (by decide) (by decide) (by decide)).trans rfl)))))
    · show mI (gX11_back M) 15 3 = mI M 18 3
      exact (inS.trans ((oS (by decide)).trans ((oC (by decide)).trans ((oC (by decide)).trans ((ogX6_copyFrom_b (by decide) (by decide) (by decide) (by decide) (by decide) (by decide)).trans rfl)))))
  · exact back_16 a
  · exact back_17 a
theorem rg_k {k j : Nat} (h : rgP k j) : k ≠ 8 ∧ k ≠ 9 ∧ k ≠ 10 ∧ k ≠ 11 ∧ k ≠ 12 ∧ k ≠ 13 ∧ k ≠ 18 ∧ k ≠ 19 ∧ k ≠ 20 ∧ k ≠ 56 ∧ k ≠ 55 := by
  unfold rgP at h
  omega
theorem im_k {k j : Nat} (h : rgP k j) : im k ≠ 1 ∧ im k ≠ 2 ∧ im k ≠ 3 ∧ im k ≠ 4 ∧ im k ≠ 5 ∧ im k ≠ 6 ∧ im k ≠ 15 ∧ im k ≠ 16 ∧ im k ≠ 17 ∧ im k ≠ 55 ∧ im k ≠ 56 := by
  unfold rgP at h
  rcases h with ⟨rfl, a, b⟩ | ⟨rfl, a⟩ | ⟨rfl | rfl, a⟩ | ⟨rfl, a⟩ | ⟨rfl, a⟩ | ⟨rfl, a, b⟩ | ⟨rfl, a⟩ | ⟨rfl, a⟩ <;> decide
theorem cS_eq {M N : Mem} {k j k2 : Nat} (hc : ck k j = true) (h2 : ck k2 j = true) (h : mI N k j = mI M k2 j) : cS N k j = cS M k2 j := (cS_in hc).trans (h.trans (cS_in h2).symm)
theorem img_RD2 {M N : Mem} {b : Int} (h : RD M b) (bx : BX M N) (hrg : ∀ k j : Nat, rgP k j → mI N (im k) j = mI M k j) (ho : ∀ k j : Nat, k ≠ 8 → k ≠ 9 → k ≠ 10 → k ≠ 11 → k ≠ 12 → k ≠ 13 → k ≠ 18 → k ≠ 19 → k ≠ 20 → mI N k j = mI M k j) (hr : ∀ j : Nat, j < 4 → mR N 14 j = mR M 7 j) (hro : ∀ k j : Nat, k ≠ 14 → mR N k j = mR M k j) (h11 : ∀ j : Nat, ¬ j < 64 → mI N 11 j = mI M 11 j) : RD (cpI N 56 55 0 0 589) b ∧ mI N 1 6 = mI (cpI N 56 55 0 0 589) 55 0 := by
  obtain ⟨hB, h1, h2, h3, h4, h5, h6, h7⟩ := h
  obtain ⟨hN, dz⟩ := bx
  have bp := BX.img hN
  have dz2 := dz.trans bp.2
  have oP : ∀ k j : Nat, k ≠ 56 → mI (cpI N 56 55 0 0 589) k j = mI N k j := fun k j hk => oC hk
  have hl : RLt (cpI N 56 55 0 0 589) := img_both h1 ⟨hrg 1 10 (by unfold rgP; omega), fun k j e n => by
    have z := fTp_k e
    exact ho k j n (by omega) (by omega) (by omega) (by omega) (by omega) (by omega) (by omega) (by omega)⟩
  have rP : ∀ k j : Nat, mR (cpI N 56 55 0 0 589) k j = mR N k j := fun _ _ => rC
  have i55 : ∀ j : Nat, j < 589 → mI (cpI N 56 55 0 0 589) 56 j = mI N 55 j := fun j hj => inC hj
  have sS := BX.img hN
  generalize hP : cpI N 56 55 0 0 589 = P at *
  have sT : ∀ k j : Nat, rgP k j → cS P k j = cS M k j := fun k j r => by
    obtain ⟨a1, a2, a3, a4, a5, a6, a7, a8, a9, a10, a11⟩ := rg_k r
    exact cS_eq (ck_t r) (ck_t r) ((oP k j a10).trans (ho k j a1 a2 a3 a4 a5 a6 a7 a8 a9))
  have sI_ : ∀ k j : Nat, rgP k j → iS (cS P) k j = cS M k j := fun k j r => cS_eq (ck_ti r) (ck_t r) ((oP _ j (im_k r).2.2.2.2.2.2.2.2.2.2).trans (hrg k j r))
  have l4 : ∀ j, cS M 4 j = 0 ∨ cS M 4 j = 1 := h2.1.2.2.2.2.1.2.2
  have l11 : ∀ j, cS M 11 j = 0 ∨ cS M 11 j = 1 := h3.1.2.2.2.2.1.2.2
  have e57 : ∀ j, mI P 57 j = mI M 57 j := fun j => (oP 57 j (by decide)).trans (ho 57 j (by decide) (by decide) (by decide) (by decide) (by decide) (by decide) (by decide) (by decide) (by decide))
  have e55 : ∀ j, mI N 55 j = mI M 55 j := fun j => ho 55 j (by decide) (by decide) (by decide) (by decide) (by decide) (by decide) (by decide) (by decide) (by decide)
  have e4 : ∀ j, cS P 4 j = cS M 4 j := fun j => cS_eq rfl rfl ((oP 4 j (by decide)).trans (ho 4 j (by decide) (by decide) (by decide) (by decide) (by decide) (by decide) (by decide) (by decide) (by decide)))
  have p10 : mI P 1 10 = mI M 1 10 := (oP 1 10 (by decide)).trans (ho 1 10 (by decide) (by decide) (by decide) (by decide) (by decide) (by decide) (by decide) (by decide) (by decide))
  have q10 : mI P 8 10 = mI M 1 10 := (oP 8 10 (by decide)).trans (hrg 1 10 (by unfold rgP; omega))
  refine ⟨⟨bp.1, hl, h2.rg (fun j _ => (oP 55 j (by decide)).trans (e55 j)) sT (fun j => by rw [e4]; exact l4 j), h2.rg (fun j hj => (i55 j hj).trans (e55 j)) sI_ (fun j => ?_), ?_, ?_, h6.rg sT, h6.rg sI_⟩, ?_⟩
  · show cS P 11 j = 0 ∨ cS P 11 j = 1
    by_cases e : j < 64
    · have q : cS P 11 j = cS M 4 j := cS_eq (k := 11) (k2 := 4) rfl rfl ((oP 11 j (by decide)).trans (hrg 4 j (by unfold rgP; omega)))
      rw [q]
      exact l4 j
    · have q : cS P 11 j = cS M 11 j := cS_eq (k := 11) (k2 := 11) rfl rfl ((oP 11 j (by decide)).trans (h11 j e))
      rw [q]
      exact l11 j
  · rw [p10]
    exact h4.go hB (Or.inl rfl) dz2 (fun t _ => (rP 7 t).trans (hro 7 t (by decide))) (fun j _ => e57 j)
  · rw [q10]
    exact h4.go hB (Or.inl rfl) dz2 (fun t ht => (rP 14 t).trans (hr t (by have q := (b1_10 hB).2; omega))) (fun j _ => e57 j)
  · have a : aSc (mI M 55) (cS M) := h2.1.1
    have q : mI M 55 0 = cS M 1 6 := a.1
    have e6 : mI N 1 6 = mI M 1 6 := ho 1 6 (by decide) (by decide) (by decide) (by decide) (by decide) (by decide) (by decide) (by decide) (by decide)
    rw [oP 55 0 (by decide), e55, q, e6]
    exact (cS_in rfl).symm
theorem img_RD {M : Mem} {b : Int} (h : RD M b) : RD (cpI (gX11_image M) 56 55 0 0 589) b ∧ fX11_image M = fX12_image (gX11_image M) :=
  img_RD2 h (image_bx h.1) (fun k j r => image_rg r) (fun k j a1 a2 a3 a4 a5 a6 a7 a8 a9 => image_o a1 a2 a3 a4 a5 a6 a7 a8 a9) (fun j hj => image_r hj) (fun k j hk => image_ro hk) (fun j hj => image_11o hj)
theorem bck_RD2 {M N : Mem} {b : Int} (h : RD M b) (bx : BX M N) (hrg : ∀ k j : Nat, rgP k j → mI N k j = mI M (im k) j) (ho : ∀ k j : Nat, k ≠ 1 → k ≠ 2 → k ≠ 3 → k ≠ 4 → k ≠ 5 → k ≠ 6 → k ≠ 15 → k ≠ 16 → k ≠ 17 → mI N k j = mI M k j) (hr : ∀ j : Nat, j < 4 → mR N 7 j = mR M 14 j) (hro : ∀ k j : Nat, k ≠ 7 → mR N k j = mR M k j) (h4o : ∀ j : Nat, ¬ j < 64 → mI N 4 j = mI M 4 j) : RD (cpI N 55 56 0 0 589) b ∧ mI N 1 6 = mI (cpI N 55 56 0 0 589) 55 0 := by
  obtain ⟨hB, h1, h2, h3, h4, h5, h6, h7⟩ := h
  obtain ⟨hN, dz⟩ := bx
  have bp := BX.bck hN
  have dz2 := dz.trans bp.2
  have oP : ∀ k j : Nat, k ≠ 55 → mI (cpI N 55 56 0 0 589) k j = mI N k j := fun k j hk => oC hk
  have hl : RLt (cpI N 55 56 0 0 589) := bck_both h1 ⟨hrg 1 10 (by unfold rgP; omega), fun k j e n => by
    have z := fTp_k e
    exact ho k j n (by omega) (by omega) (by omega) (by omega) (by omega) (by omega) (by omega) (by omega)⟩
  have rP : ∀ k j : Nat, mR (cpI N 55 56 0 0 589) k j = mR N k j := fun _ _ => rC
  have i55 : ∀ j : Nat, j < 589 → mI (cpI N 55 56 0 0 589) 55 j = mI N 56 j := fun j hj => inC hj
  generalize hP : cpI N 55 56 0 0 589 = P at *
  have sT : ∀ k j : Nat, rgP k j → cS P k j = iS (cS M) k j := fun k j r => cS_eq (ck_t r) (ck_ti r) ((oP k j (rg_k r).2.2.2.2.2.2.2.2.2.2).trans (hrg k j r))
  have sI_ : ∀ k j : Nat, rgP k j → iS (cS P) k j = iS (cS M) k j := fun k j r => by
    obtain ⟨a1, a2, a3, a4, a5, a6, a7, a8, a9, a10, a11⟩ := im_k r
    exact cS_eq (ck_ti r) (ck_ti r) ((oP _ j a10).trans (ho _ j a1 a2 a3 a4 a5 a6 a7 a8 a9))
  have l4 : ∀ j, cS M 4 j = 0 ∨ cS M 4 j = 1 := h2.1.2.2.2.2.1.2.2
  have l11 : ∀ j, cS M 11 j = 0 ∨ cS M 11 j = 1 := h3.1.2.2.2.2.1.2.2
  have e57 : ∀ j, mI P 57 j = mI M 57 j := fun j => (oP 57 j (by decide)).trans (ho 57 j (by decide) (by decide) (by decide) (by decide) (by decide) (by decide) (by decide) (by decide) (by decide))
  have e56 : ∀ j, mI N 56 j = mI M 56 j := fun j => ho 56 j (by decide) (by decide) (by decide) (by decide) (by decide) (by decide) (by decide) (by decide) (by decide)
  have p10 : mI P 1 10 = mI M 8 10 := (oP 1 10 (by decide)).trans (hrg 1 10 (by unfold rgP; omega))
  have q10 : mI P 8 10 = mI M 8 10 := (oP 8 10 (by decide)).trans (ho 8 10 (by decide) (by decide) (by decide) (by decide) (by decide) (by decide) (by decide) (by decide) (by decide))
  refine ⟨⟨bp.1, hl, h3.rg (fun j hj => (i55 j hj).trans (e56 j)) sT (fun j => ?_), h3.rg (fun j _ => (oP 56 j (by decide)).trans (e56 j)) sI_ (fun j => ?_), ?_, ?_, h7.rg sT, h7.rg sI_⟩, ?_⟩
  · by_cases e : j < 64
    · have q : cS P 4 j = cS M 11 j := cS_eq (k := 4) (k2 := 11) rfl rfl ((oP 4 j (by decide)).trans (hrg 4 j (by unfold rgP; omega)))
      rw [q]
      exact l11 j
    · have q : cS P 4 j = cS M 4 j := cS_eq (k := 4) (k2 := 4) rfl rfl ((oP 4 j (by decide)).trans (h4o j e))
      rw [q]
      exact l4 j
  · show cS P 11 j = 0 ∨ cS P 11 j = 1
    have q : cS P 11 j = cS M 11 j := cS_eq (k := 11) (k2 := 11) rfl rfl ((oP 11 j (by decide)).trans (ho 11 j (by decide) (by decide) (by decide) (by decide) (by decide) (by decide) (by decide) (by decide) (by decide)))
    rw [q]
    exact l11 j
  · rw [p10]
    exact h5.go hB (Or.inr rfl) dz2 (fun t ht => (rP 7 t).trans (hr t (by have q := (b8_10 hB).2; omega))) (fun j _ => e57 j)
  · rw [q10]
    exact h5.go hB (Or.inr rfl) dz2 (fun t _ => (rP 14 t).trans (hro 14 t (by decide))) (fun j _ => e57 j)
  · have a : aSc (mI M 56) (iS (cS M)) := h3.1.1
    have q : mI M 56 0 = cS M 8 6 := a.1
    have e6 : mI N 1 6 = mI M 8 6 := hrg 1 6 (by unfold rgP; omega)
    rw [i55 0 (by decide), e56, q, e6]
    exact (cS_in rfl).symm
theorem bck_RD {M : Mem} {b : Int} (h : RD M b) : RD (cpI (gX11_back M) 55 56 0 0 589) b ∧ fX11_back M = fX12_back (gX11_back M) :=
  bck_RD2 h (back_bx h.1) (fun k j r => back_rg r) (fun k j a1 a2 a3 a4 a5 a6 a7 a8 a9 => back_o a1 a2 a3 a4 a5 a6 a7 a8 a9) (fun j hj => back_r hj) (fun k j hk => back_ro hk) (fun j hj => back_4o hj)
theorem Tx.of {M : Mem} (h : Box M) : Tx M := fun k j x hk _ e => (h.2.2.1 k j x hk e).2.1
