/-! THE LAWS of both at the law's head -/
theorem text_st {M N P : Mem} {r s b : Int} (h : RD M b) (t : TXc M N r) (u : TXr N P s) (bx : BX M N) (bp : BX N P) : r = s ∧ (∀ k j : Nat, ck k j = true → ¬ (k = 1 ∧ j = 10) → mI P k j = mI M k j) ∧ (∀ j : Nat, j ≠ 5 → mI P 55 j = mI M 55 j) ∧ mI P 56 = mI M 56 ∧ mI N 55 5 = mI M 55 5 ∧ mI N 59 = mI M 59 ∧ mI N 54 6 = mI M 54 6 ∧ (∀ j, mI N 57 j = mI M 57 j) ∧ mI P 21 = mI N 21 ∧ mI P 8 10 = mI M 8 10 ∧ ((mI P 1 10 = mI M 1 10 ∧ r = -1) ∨ (mI P 1 10 = mI M 1 10 + 1 ∧ r ≠ -1)) := by
  obtain ⟨hl, hrs⟩ := text_both h.1 h.2.1 t u
  refine ⟨hrs, ?_⟩
  subst hrs
  obtain ⟨hB, h1, h2, h3, h4, h5, h6, h7⟩ := h
  have hb10 := b1_10 hB
  have k10 := b1_10 bp.1
  have dz := bx.2.trans bp.2
  have m55 := h1.2.2.2.2.2.1
  have m59 := h1.2.1
  have m6 := h1.2.2.1
  have p55 := hl.2.2.2.2.2.1
  have c0 : ∀ {k j : Nat}, ck k j = true → k ≠ 0 ∧ k ≤ 20 := fun e => by
    unfold ck at e
    simp only [Bool.or_eq_true, Bool.and_eq_true, beq_iff_eq, Nat.ble_eq] at e
    omega
  have cT : ∀ {k j : Nat}, ck k j = true → fT k j = true := fun {k j} e => by
    have z := c0 e
    unfold fT
    rw [ck_Q e, Bool.and_true]
    simp only [Bool.not_eq_true', beq_eq_false_iff_ne, ne_eq]
    omega
  rcases t with ⟨a1, a2, a3⟩ | ⟨a1, a2, a3, a4⟩
  · rcases u with ⟨b1, b2, b3⟩ | ⟨b1, b2, b3, b4⟩
    · exact ⟨fun k j e _ => (b3 k j (cT e)).trans (a3 k j (ck_Q e)), fun j _ => (b3 55 j rfl).trans (a3 55 j rfl), funext fun j => (b3 56 j rfl).trans (a3 56 j rfl), a3 55 5 rfl, funext fun j => a3 59 j rfl, a3 54 6 rfl, fun j => a3 57 j rfl, funext fun j => b3 21 j rfl, (b3 8 10 rfl).trans (a3 8 10 rfl), Or.inl ⟨(b3 1 10 rfl).trans (a3 1 10 rfl), a2⟩⟩
    · exfalso
      have z := a3 55 5 rfl
      omega
  · have z5 := a3 55 5 rfl (by decide) (by decide)
    rcases u with ⟨b1, b2, b3⟩ | ⟨b1, b2, b3, b4⟩
    · omega
    · refine ⟨fun k j e n => (b3 k j (cT e) (by have z := c0 e; omega) (by have z := c0 e; omega)).trans (a3 k j (ck_Q e) (c0 e).1 n), fun j n => (b3 55 j rfl (by decide) (fun e => n e.2)).trans (a3 55 j rfl (by decide) (fun e => absurd e.1 (by decide))), funext fun j => (b3 56 j rfl (by decide) (fun e => absurd e.1 (by decide))).trans (a3 56 j rfl (by decide) (fun e => absurd e.1 (by decide))), z5, funext fun j => a3 59 j rfl (by decide) (fun e => absurd e.1 (by decide)), a3 54 6 rfl (by decide) (by decide), fun j => a3 57 j rfl (by decide) (fun e => absurd e.1 (by decide)), funext fun j => b3 21 j rfl (by decide) (fun e => absurd e.1 (by decide)), (b3 8 10 rfl (by decide) (by decide)).trans (a3 8 10 rfl (by decide) (by decide)), ?_⟩
      have d10 := b3 1 10 rfl (by decide) (by decide)
      rcases a4 with ⟨p1, p2, p3, p4, p5⟩ | ⟨p1, p2, p3, p4, p5⟩
      · exact Or.inr ⟨by omega, by omega⟩
      · exact Or.inl ⟨by omega, by omega⟩

theorem tx_old {M P : Mem} {t : Nat} (hM : Box M) (dz : Dz M P) (t4 : t < 10) {k : Nat} (hk : k = 7 ∨ k = 14) (hr : mR P 7 t = mR M k t) (h7 : mR M 7 t = mR M k t) : cS P (1000 + t) = cS M (1000 + t) ∧ cS P (1010 + t) = cS M (1010 + t) ∧ cS P (1020 + t) = cS M (1020 + t) := by
  have e7 : mR P 7 t = mR M 7 t := hr.trans h7.symm
  have key : (txA P t 0 = txA M t 0 ∧ (∀ j, ofA P (txA M t 0) j = ofA M (txA M t 0) j) ∧ lnA P (txA M t 0) = lnA M (txA M t 0)) ∧ (txA P t 1 = txA M t 1 ∧ ∀ j, ofA P (txA M t 1) j = ofA M (txA M t 1) j) := by
    unfold txA
    rw [e7]
    cases e : mR M 7 t with
    | none => exact ⟨⟨rfl, fun _ => rfl, rfl⟩, rfl, fun _ => rfl⟩
    | some y =>
      obtain ⟨y1, y2, _, a, b, c, n, m, q0, q1, _, q3, q4, _, q6, q7, _⟩ := hM.2.2.1 7 t y (Or.inl rfl) e
      have r0 := dz.rf y1 y2 0
      have r1 := dz.rf y1 y2 1
      dsimp only
      rw [r0, r1, q0, q1]
      refine ⟨⟨rfl, fun j => ?_, ?_⟩, rfl, fun j => ?_⟩
      · show (if 75 ≤ a then mI P a j else -1) = if 75 ≤ a then mI M a j else -1
        rw [if_pos q3, if_pos q3, dz.vl q3 q6]
      · unfold lnA
        dsimp only
        rw [dz.sh q3 q6, q6]
      · show (if 75 ≤ b then mI P b j else -1) = if 75 ≤ b then mI M b j else -1
        rw [if_pos q4, if_pos q4, dz.vl q4 q7]
  obtain ⟨⟨a1, a2, a3⟩, b1, b2⟩ := key
  refine ⟨funext fun j => ?_, funext fun j => ?_, funext fun j => ?_⟩
  · rw [cS_c t4, cS_c t4, a1, a2]
  · rw [cS_e t4, cS_e t4, b1, b2]
  · rw [cS_l t4, cS_l t4, a1, a3]
def LL (M : Mem) : Prop := wfL (cS M) ∧ LwS (cS M) (mI M 57) ∧ nmT (cS M) ∧ nmT (iS (cS M)) ∧ ∀ t : Nat, (t : Int) < mI M 8 10 → mR M 14 t = mR M 7 t
def RE (M : Mem) (b : Int) : Prop := RD M b ∧ LL M
theorem LL.q {M N : Mem} (h : LL M) (hB : Box M) (f : BF fQ M N) : LL N := by
  obtain ⟨h1, h2, h3, h4, h5⟩ := h
  have ec := cS_bf hB f
  have e57 : mI N 57 = mI M 57 := funext fun j => f.2.2 57 j rfl
  refine ⟨by rw [ec]; exact h1, by rw [ec, e57]; exact h2, by rw [ec]; exact h3, by rw [ec]; exact h4, fun t ht => ?_⟩
  rw [f.2.2 8 10 rfl] at ht
  rw [f.2.1.2.1 rfl 14 t (Or.inr rfl), f.2.1.2.1 rfl 7 t (Or.inl rfl)]
  exact h5 t ht
theorem LL.d {M N P : Mem} (h : LL M) (hB : Box M) (f : BF fC M N) (g : BF fR N P) (hk : Lk (cS M) (cS N)) (hn : nmT (cS N)) : LL P := by
  obtain ⟨h1, h2, h3, h4, h5⟩ := h
  have ec := cS_R f.1 g
  have ei := iS_C hB f
  have e57 : mI P 57 = mI M 57 := funext fun j => (g.2.2 57 j rfl).trans (f.2.2 57 j rfl)
  refine ⟨by rw [ec]; exact h1.lk hk, by rw [ec, e57]; exact h2.lk hk, by rw [ec]; exact hn, by rw [ec, ei]; exact h4, fun t ht => ?_⟩
  rw [g.2.2 8 10 rfl, f.2.2 8 10 rfl] at ht
  rw [g.2.1.2.1 rfl 14 t (Or.inr rfl), g.2.1.2.1 rfl 7 t (Or.inl rfl), f.2.1.2.1 rfl 14 t (Or.inr rfl), f.2.1.2.1 rfl 7 t (Or.inl rfl)]
  exact h5 t ht
theorem LL.tp {M P : Mem} (h : LL M) (hI : ∀ k j : Nat, k ≠ 0 → k ≠ 21 → k ≠ 54 → k ≠ 59 → mI P k j = mI M k j) (hr : ∀ k j, mR P k j = mR M k j) (h0 : P.1 = M.1) : LL P := by
  obtain ⟨h1, h2, h3, h4, h5⟩ := h
  have ec : cS P = cS M := by
    funext a b
    unfold cS
    rw [cTx_co (A := M) (B := P) (fun k j hk => hI k j (by omega) (by omega) (by omega) (by omega)) hr h0]
    by_cases e : ck a b = true
    · have hk : a ≠ 0 ∧ a ≤ 20 := ck_k e
      rw [if_pos e, if_pos e, hI a b hk.1 (by omega) (by omega) (by omega)]
    · rw [if_neg e, if_neg e]
  have e57 : mI P 57 = mI M 57 := funext fun j => hI 57 j (by decide) (by decide) (by decide) (by decide)
  refine ⟨by rw [ec]; exact h1, by rw [ec, e57]; exact h2, by rw [ec]; exact h3, by rw [ec]; exact h4, fun t ht => ?_⟩
  rw [hI 8 10 (by decide) (by decide) (by decide) (by decide)] at ht
  rw [hr, hr]
  exact h5 t ht
theorem LwS.co1 {S S' : Sw} {R R' : Nat → Int} {t : Nat} {n4 : Int} (hB : ∀ t : Nat, (t : Int) < n4 → wfT R t) (h : LwT (S (1000 + t)) (S (1010 + t)) R (873 * t) (R (873 * t))) (ht : (t : Int) < n4) (e0 : S' (1000 + t) = S (1000 + t)) (e1 : S' (1010 + t) = S (1010 + t)) (hR : ∀ j : Nat, (j : Int) < 873 * n4 → R' j = R j) : LwT (S' (1000 + t)) (S' (1010 + t)) R' (873 * t) (R' (873 * t)) := by
  have w := hB t ht
  rw [hR (873 * t) (by omega)]
  refine h.co (by omega) w.2.1 e0 e1 (fun j j1 j2 => hR j (by omega)) (wr := 300) (by decide) (fun e he q0 q4 => ?_)
  have z := (w.2.2 e he).2
  have e2 : (873 * (t : Int) + 1 + 11 * (e : Int)).toNat = 873 * t + 1 + 11 * e := by omega
  rw [e2] at q0 q4
  rw [show (873 * (t : Int) + 1 + 11 * (e : Int) + 2).toNat = 873 * t + 1 + 11 * e + 2 by omega]
  exact (z q0 q4).2.2.1
theorem nmT.rg {S S' : Sw} (h : nmT S) (hs : ∀ k j : Nat, rgP k j → S' k j = S k j) (h6 : S 1 6 ≤ 16) (h8 : S 1 8 ≤ 6) : nmT S' := ⟨fun c hc => by
    rw [hs 1 6 (by unfold rgP; omega)] at hc
    rw [hs 2 c (by unfold rgP; omega)]
    exact h.1 c hc, fun t ht j j1 j2 => by
    rw [hs 1 8 (by unfold rgP; omega)] at ht
    rw [hs 5 _ (by unfold rgP; omega)]
    exact h.2 t ht j j1 j2⟩
theorem LL.text {M N P : Mem} {r s b : Int} (h : RE M b) (bx : BX M N) (t : TXc M N r) (tc : TCc M N r) (tl : TLc M N r) (bp : BX N P) (u : TXr N P s) (uc : TCr N P s) (ul : TLr N P s) : LL P := by
  obtain ⟨hD, h1, h2, h3, h4, h5⟩ := h
  obtain ⟨hrs, s1, s2, s3, s4, s5, s6, s7, s8, s9, s10⟩ := text_st hD t u bx bp
  obtain ⟨hT, _⟩ := text_RD hD bx t tc bp u uc
  subst hrs
  have hB := hD.1
  have hb10 := b1_10 hB
  have dz := bx.2.trans bp.2
  have hd1 := hD.2.1
  have m55 := hd1.2.2.2.2.2.1
  have m59 := hd1.2.1
  have m6 := hd1.2.2.1
  have p55 := hT.2.1.2.2.2.2.2.1
  obtain ⟨c14, c7, cn⟩ := tc
  obtain ⟨ur, uo, un⟩ := uc
  have ec : ∀ k j : Nat, k < 1000 → ¬ (k = 1 ∧ j = 10) → cS P k j = cS M k j := fun k j hk n => by
    unfold cS
    by_cases e : ck k j = true
    · rw [if_pos e, if_pos e, s1 k j e n]
    · rw [if_neg e, if_neg e, if_neg (by omega), if_neg (by omega)]
  have e10 : cS P 1 10 = mI P 1 10 := cS_in rfl
  have f10 : cS M 1 10 = mI M 1 10 := cS_in rfl
  have old : ∀ t : Nat, (t : Int) < mI M 1 10 → cS P (1000 + t) = cS M (1000 + t) ∧ cS P (1010 + t) = cS M (1010 + t) ∧ cS P (1020 + t) = cS M (1020 + t) := fun t ht => tx_old hB dz (by omega) (Or.inl rfl) ((ur 7 t (Or.inl rfl)).trans (c7 t (by omega))) rfl
  have R0 : ∀ j : Nat, (j : Int) < 873 * mI M 1 10 → mI P 57 j = mI M 57 j := fun j hj => (uo j (by rw [s4, m55]; exact hj)).trans (s7 j)
  -- the new one
  have new : r ≠ -1 → (∀ w : Nat, w ≤ 4 → wfL1 (cS P) (mI M 1 10).toNat w) ∧ LwT (cS P (1000 + (mI M 1 10).toNat)) (cS P (1010 + (mI M 1 10).toNat)) (mI P 57) (873 * mI M 1 10) (mI P 57 (873 * mI M 1 10).toNat) := fun hr => by
    obtain ⟨y, z, y1, y2, y3, y0, y4, y5⟩ := cn hr
    obtain ⟨y', z0, z1, w1, w2, w3, w4, n0, w5, w6⟩ := tl hr
    have ey : y' = y := by rw [y1] at w1; cases w1; rfl
    subst ey
    obtain ⟨v1, v2⟩ := un hr
    have v3 := ul hr
    rw [s4, m55, s5, s6, m59, m6] at v1 v2 v3
    have hTx := bx.1.2.2.1 7 (mI M 1 10).toNat y' (Or.inl rfl) y1
    obtain ⟨y75, ys, _, a, b', c, nn, mm, x1, x2, x3, x4, x5, x6, x7, x8, x9⟩ := hTx
    have ea : a = z0 := by rw [x1] at w2; cases w2; rfl
    have eb : b' = z1 := by rw [x2] at w3; cases w3; rfl
    subst ea eb
    have t4 : (mI M 1 10).toNat < 10 := by omega
    have q7 : mR P 7 (mI M 1 10).toNat = some y' := (ur 7 _ (Or.inl rfl)).trans y1
    have a0 : txA P (mI M 1 10).toNat 0 = some a := by unfold txA; rw [q7]; exact (bp.2.rf y75 ys 0).trans x1
    have a1 : txA P (mI M 1 10).toNat 1 = some b' := by unfold txA; rw [q7]; exact (bp.2.rf y75 ys 1).trans x2
    have f0 : cS P (1000 + (mI M 1 10).toNat) = mI N a := funext fun j => by rw [cS_c t4, a0]; exact (if_pos x4).trans (bp.2.vl x4 x7)
    have f1 : cS P (1010 + (mI M 1 10).toNat) = mI N b' := funext fun j => by rw [cS_e t4, a1]; exact (if_pos x5).trans (bp.2.vl x5 x8)
    have f2 : cS P (1020 + (mI M 1 10).toNat) 0 = n0 := by
      rw [cS_l t4, a0]
      unfold lnA
      dsimp only
      rw [bp.2.sh x4 w5]
    have p0 : 0 ≤ mI P 57 (873 * mI M 1 10).toNat := by
      have q := (bp.1.2.2.2.2.2.2 (mI M 1 10).toNat (by rw [p55]; clear cn tl un ul; omega)).1
      rw [show 873 * (mI M 1 10).toNat = (873 * mI M 1 10).toNat by omega] at q
      exact q
    have ecn : mI N y' 3 = mI P 57 (873 * mI M 1 10).toNat := pl_cnt (A := fun _ => True) (B := fun _ => True) y0 p0 y4 v1 (fun e he => (y5 e he).1.1) (fun e he => (v2 e he).1.1.1)
    refine ⟨fun w hw => ?_, ?_⟩
    · unfold wfL1
      rw [f0, f1, f2]
      intro hne
      have hx : ∃ e : Nat, (e : Int) < mI N y' 3 ∧ tk (mI M 21) (mI M 0 13) (plS (tk (mI M 21) (mI M 0 13)) (nx (mI M 21) (mI M 0 13)) (skb (mI M 21) (mI M 0 13) 0) e) - 101 = w := Classical.byContradiction (fun hc => hne (w4.2 w hw (fun e he q => hc ⟨e, he, q⟩)))
      obtain ⟨e, he, hq⟩ := hx
      have g := w4.1 e he (by rw [hq]; omega) (by rw [hq]; omega)
      rw [hq, show (2 * (w : Int)).toNat = 2 * w by omega, show (2 * (w : Int) + 1).toNat = 2 * w + 1 by omega] at g
      obtain ⟨c, g1, g2, g3, g4, g5, g6⟩ := g
      exact ⟨c, g3, g2, g4, g5, w6 w hw hne, g6⟩
    · rw [f0, f1, ← ecn]
      exact LwT.of w4 (fun e he hq => v3 e (by rw [← ecn]; exact he) hq) (fun e he => (v2 e (by rw [← ecn]; exact he)).1.2.1)
  have hle : mI M 8 10 ≤ mI M 1 10 := by
    have q := hB.2.2.2.2.2.1
    have z := hd1.2.2.2.2.2.2
    omega
  refine ⟨fun t ht w hw => ?_, fun t ht => ?_, h3.co (ec 1 6 (by decide) (by decide)) (ec 1 8 (by decide) (by decide)) (fun j => ec 2 j (by decide) (fun e => absurd e.1 (by decide))) (fun j => ec 5 j (by decide) (fun e => absurd e.1 (by decide))), ?_, fun t ht => ?_⟩
  · rw [e10] at ht
    by_cases e : (t : Int) < mI M 1 10
    · obtain ⟨o1, o2, o3⟩ := old t e
      have z := h1 t (by rw [f10]; exact e) w hw
      unfold wfL1 at z ⊢
      rw [o1, o2, o3]
      exact z
    · have hr : r ≠ -1 := by clear cn tl un ul new; omega
      rw [show t = (mI M 1 10).toNat by clear cn tl un ul new; omega]
      exact (new hr).1 w hw
  · rw [e10] at ht
    by_cases e : (t : Int) < mI M 1 10
    · obtain ⟨o1, o2, o3⟩ := old t e
      exact LwS.co1 (n4 := mI M 1 10) (fun t ht => hB.2.2.2.2.2.2 t (by rw [m55]; exact ht)) (h2 t (by rw [f10]; exact e)) e o1 o2 R0
    · have hr : r ≠ -1 := by clear cn tl un ul new; omega
      have z := (new hr).2
      rw [show t = (mI M 1 10).toNat by clear cn tl un ul new; omega, show ((mI M 1 10).toNat : Int) = mI M 1 10 by omega, show 873 * (mI M 1 10).toNat = (873 * mI M 1 10).toNat by omega]
      exact z
  · refine h4.fr (fun k j hk => ?_)
    refine ec (im k) j (by unfold im; split; (decide); (split; (omega); (split <;> omega))) (fun e => ?_)
    exact (im_n k).1 e.1
  · rw [s9] at ht
    rw [ur 14 t (Or.inr rfl), ur 7 t (Or.inl rfl), c14, c7 t (by omega)]
    exact h5 t ht
theorem LL.img {M P : Mem} {b : Int} (h : RE M b) (hP : RD P b) (dz : Dz M P) (hrg : ∀ k j : Nat, rgP k j → mI P (im k) j = mI M k j) (ho : ∀ k j : Nat, rgP k j → mI P k j = mI M k j) (h57 : ∀ j, mI P 57 j = mI M 57 j) (hr14 : ∀ j : Nat, j < 4 → mR P 14 j = mR M 7 j) (hr7 : ∀ j : Nat, mR P 7 j = mR M 7 j) : LL P := by
  obtain ⟨hD, h1, h2, h3, h4, h5⟩ := h
  have hB := hD.1
  have hb10 := b1_10 hB
  have w8 := hD.2.2.1.1.2.2.2.2.2.2.2
  have sT : ∀ k j : Nat, rgP k j → cS P k j = cS M k j := fun k j r => cS_eq (ck_t r) (ck_t r) (ho k j r)
  have sI_ : ∀ k j : Nat, rgP k j → iS (cS P) k j = cS M k j := fun k j r => cS_eq (ck_ti r) (ck_t r) (hrg k j r)
  have e10 : cS P 1 10 = cS M 1 10 := sT 1 10 (by unfold rgP; omega)
  have f10 : cS M 1 10 = mI M 1 10 := cS_in rfl
  have old : ∀ t : Nat, (t : Int) < mI M 1 10 → cS P (1000 + t) = cS M (1000 + t) ∧ cS P (1010 + t) = cS M (1010 + t) ∧ cS P (1020 + t) = cS M (1020 + t) := fun t ht => tx_old hB dz (by omega) (Or.inl rfl) (hr7 t) rfl
  refine ⟨fun t ht w hw => ?_, fun t ht => ?_, h3.rg sT w8.2.1 w8.2.2.2.1, h3.rg sI_ w8.2.1 w8.2.2.2.1, fun t ht => ?_⟩
  · rw [e10] at ht
    obtain ⟨o1, o2, o3⟩ := old t (by rw [← f10]; exact ht)
    have z := h1 t ht w hw
    unfold wfL1 at z ⊢
    rw [o1, o2, o3]
    exact z
  · rw [e10] at ht
    obtain ⟨o1, o2, o3⟩ := old t (by rw [← f10]; exact ht)
    have z := h2 t ht
    rw [o1, o2, show mI P 57 = mI M 57 from funext h57]
    exact z
  · have q : mI P 8 10 = mI M 1 10 := hrg 1 10 (by unfold rgP; omega)
    rw [hr14 t (by omega), hr7]
theorem LL.bck {M P : Mem} {b : Int} (h : RE M b) (hP : RD P b) (dz : Dz M P) (hrg : ∀ k j : Nat, rgP k j → mI P k j = mI M (im k) j) (ho : ∀ k j : Nat, rgP k j → mI P (im k) j = mI M (im k) j) (h57 : ∀ j, mI P 57 j = mI M 57 j) (hr14 : ∀ j : Nat, mR P 14 j = mR M 14 j) (hr7 : ∀ j : Nat, j < 4 → mR P 7 j = mR M 14 j) : LL P := by
  obtain ⟨hD, h1, h2, h3, h4, h5⟩ := h
  have hB := hD.1
  have hb8 := b8_10 hB
  have w8 := hD.2.2.2.1.1.2.2.2.2.2.2.2
  have hd1 := hD.2.1
  have hle : mI M 8 10 ≤ mI M 1 10 := by
    have q := hB.2.2.2.2.2.1
    have z := hd1.2.2.2.2.2.2
    have m55 := hd1.2.2.2.2.2.1
    omega
  have sT : ∀ k j : Nat, rgP k j → cS P k j = iS (cS M) k j := fun k j r => cS_eq (ck_t r) (ck_ti r) (hrg k j r)
  have sI_ : ∀ k j : Nat, rgP k j → iS (cS P) k j = iS (cS M) k j := fun k j r => cS_eq (ck_ti r) (ck_ti r) (ho k j r)
  have e10 : cS P 1 10 = mI M 8 10 := (cS_in rfl).trans (hrg 1 10 (by unfold rgP; omega))
  have f10 : cS M 1 10 = mI M 1 10 := cS_in rfl
  have old : ∀ t : Nat, (t : Int) < mI M 8 10 → cS P (1000 + t) = cS M (1000 + t) ∧ cS P (1010 + t) = cS M (1010 + t) ∧ cS P (1020 + t) = cS M (1020 + t) := fun t ht => tx_old hB dz (by omega) (Or.inr rfl) (hr7 t (by omega)) (h5 t ht).symm
  refine ⟨fun t ht w hw => ?_, fun t ht => ?_, h4.rg sT w8.2.1 w8.2.2.2.1, h4.rg sI_ w8.2.1 w8.2.2.2.1, fun t ht => ?_⟩
  · rw [e10] at ht
    obtain ⟨o1, o2, o3⟩ := old t ht
    have z := h1 t (by rw [f10]; omega) w hw
    unfold wfL1 at z ⊢
    rw [o1, o2, o3]
    exact z
  · rw [e10] at ht
    obtain ⟨o1, o2, o3⟩ := old t ht
    have z := h2 t (by rw [f10]; omega)
    rw [o1, o2, show mI P 57 = mI M 57 from funext h57]
    exact z
  · have q : mI P 8 10 = mI M 8 10 := ho 1 10 (by unfold rgP; omega)
    rw [q] at ht
    rw [hr14, hr7 t (by omega)]
