/-! THE READER of the reference: its pile and the code of a law, as pure facts. -/
/-- the code so far: from d values to e values -/
def wfD (f : Nat → Int) : Nat → Nat → Nat → Nat → Prop
  | 0, _, d, e => d = e
  | n + 1, j, d, e => if f j ≤ 1 then (0 ≤ f j ∧ (f j = 1 → 0 ≤ f (j + 1) ∧ f (j + 1) ≤ 8)) ∧ wfD f n (j + 2) (d + 1) e else if f j = 2 then 1 ≤ d ∧ wfD f n (j + 2) d e else 2 ≤ d ∧ wfD f n (j + 2) (d - 1) e
theorem wfD_C {f : Nat → Int} : ∀ (n j d e : Nat), wfD f n j d e → wfC f n j d
  | 0, _, _, _, _ => trivial
  | n + 1, j, d, e, h => by
    unfold wfD at h
    unfold wfC
    split
    · rename_i q
      rw [if_pos q] at h
      exact ⟨h.1, wfD_C n _ _ _ h.2⟩
    · rename_i q
      rw [if_neg q] at h
      split
      · rename_i q2
        rw [if_pos q2] at h
        exact ⟨h.1, wfD_C n _ _ _ h.2⟩
      · rename_i q2
        rw [if_neg q2] at h
        exact ⟨h.1, wfD_C n _ _ _ h.2⟩
theorem wfC_co {f g : Nat → Int} : ∀ (n j d : Nat), (∀ q, j ≤ q → q < j + 2 * n → g q = f q) → wfC f n j d → wfC g n j d
  | 0, _, _, _, _ => trivial
  | n + 1, j, d, he, h => by
    unfold wfC at h ⊢
    rw [he j (by omega) (by omega), he (j + 1) (by omega) (by omega)]
    split
    · rename_i q
      rw [if_pos q] at h
      exact ⟨h.1, wfC_co n _ _ (fun q a b => he q (by omega) (by omega)) h.2⟩
    · rename_i q
      rw [if_neg q] at h
      split
      · rename_i q2
        rw [if_pos q2] at h
        exact ⟨h.1, wfC_co n _ _ (fun q a b => he q (by omega) (by omega)) h.2⟩
      · rename_i q2
        rw [if_neg q2] at h
        exact ⟨h.1, wfC_co n _ _ (fun q a b => he q (by omega) (by omega)) h.2⟩
theorem wfD_co {f g : Nat → Int} : ∀ (n j d e : Nat), (∀ q, j ≤ q → q < j + 2 * n → g q = f q) → wfD f n j d e → wfD g n j d e
  | 0, _, _, _, _, h => h
  | n + 1, j, d, e, he, h => by
    unfold wfD at h ⊢
    rw [he j (by omega) (by omega), he (j + 1) (by omega) (by omega)]
    split
    · rename_i q
      rw [if_pos q] at h
      exact ⟨h.1, wfD_co n _ _ _ (fun q a b => he q (by omega) (by omega)) h.2⟩
    · rename_i q
      rw [if_neg q] at h
      split
      · rename_i q2
        rw [if_pos q2] at h
        exact ⟨h.1, wfD_co n _ _ _ (fun q a b => he q (by omega) (by omega)) h.2⟩
      · rename_i q2
        rw [if_neg q2] at h
        exact ⟨h.1, wfD_co n _ _ _ (fun q a b => he q (by omega) (by omega)) h.2⟩
/-- what one word of code does to the number of values -/
def stC (o v : Int) (e e2 : Nat) : Prop := (o ≤ 1 ∧ 0 ≤ o ∧ (o = 1 → 0 ≤ v ∧ v ≤ 8) ∧ e2 = e + 1) ∨ (o = 2 ∧ 1 ≤ e ∧ e2 = e) ∨ (3 ≤ o ∧ 2 ≤ e ∧ e2 = e - 1)
theorem wfD_snoc {f : Nat → Int} {o v : Int} {e e2 : Nat} (hs : stC o v e e2) : ∀ (n j d : Nat), f (j + 2 * n) = o → f (j + 2 * n + 1) = v → wfD f n j d e → wfD f (n + 1) j d e2
  | 0, j, d, h1, h2, h => by
    have e1 : d = e := h
    subst e1
    rw [show j + 2 * 0 = j by omega] at h1
    rw [show j + 2 * 0 + 1 = j + 1 by omega] at h2
    unfold wfD
    rcases hs with ⟨a1, a2, a4, a5⟩ | ⟨a1, a2, a3⟩ | ⟨a1, a2, a3⟩
    · rw [if_pos (by omega)]
      exact ⟨⟨by omega, fun q => by have := a4 (by omega); omega⟩, a5.symm⟩
    · rw [if_neg (by omega), if_pos (by omega)]
      exact ⟨a2, a3.symm⟩
    · rw [if_neg (by omega), if_neg (by omega)]
      exact ⟨a2, a3.symm⟩
  | n + 1, j, d, h1, h2, h => by
    have q1 : f (j + 2 + 2 * n) = o := by rw [show j + 2 + 2 * n = j + 2 * (n + 1) by omega]; exact h1
    have q2 : f (j + 2 + 2 * n + 1) = v := by rw [show j + 2 + 2 * n + 1 = j + 2 * (n + 1) + 1 by omega]; exact h2
    rw [wfD.eq_2] at h ⊢
    split
    · rename_i q
      rw [if_pos q] at h
      exact ⟨h.1, wfD_snoc hs n (j + 2) (d + 1) q1 q2 h.2⟩
    · rename_i q
      rw [if_neg q] at h
      split
      · rename_i q3
        rw [if_pos q3] at h
        exact ⟨h.1, wfD_snoc hs n (j + 2) d q1 q2 h.2⟩
      · rename_i q3
        rw [if_neg q3] at h
        exact ⟨h.1, wfD_snoc hs n (j + 2) (d - 1) q1 q2 h.2⟩
def isB (v : Int) : Nat := if 3 ≤ v ∧ v ≤ 6 then 1 else 0
def isO (v : Int) : Nat := if v = 2 ∨ 40 ≤ v then 1 else 0
def isT (v : Int) : Nat := if v = 42 ∨ v = 44 then 1 else 0
def rkT (v : Int) : Nat := if v = 3 ∨ v = 4 then 1 else if v = 5 ∨ v = 6 then 2 else 0
def cB (f : Nat → Int) : Nat → Nat
  | 0 => 0
  | n + 1 => cB f n + isB (f n)
def cO (f : Nat → Int) : Nat → Nat
  | 0 => 0
  | n + 1 => cO f n + isO (f n)
def cT (f : Nat → Int) : Nat → Nat
  | 0 => 0
  | n + 1 => cT f n + isT (f n)
/-- the pile: each is one that may lie there, and two that wait never lie so that a third could -/
def plO (f : Nat → Int) : Nat → Prop
  | 0 => True
  | n + 1 => plO f n ∧ ((2 ≤ f n ∧ f n ≤ 6) ∨ (40 ≤ f n ∧ f n ≤ 44)) ∧ cB f (n + 1) ≤ 2 * cO f (n + 1) + rkT (f n)
theorem cB_co {f g : Nat → Int} : ∀ n : Nat, (∀ q, q < n → g q = f q) → cB g n = cB f n ∧ cO g n = cO f n ∧ cT g n = cT f n
  | 0, _ => ⟨rfl, rfl, rfl⟩
  | n + 1, h => by
    obtain ⟨a, b, c⟩ := cB_co n (fun q hq => h q (by omega))
    unfold cB cO cT
    rw [a, b, c, h n (by omega)]
    exact ⟨rfl, rfl, rfl⟩
theorem plO_co {f g : Nat → Int} : ∀ n : Nat, (∀ q, q < n → g q = f q) → plO f n → plO g n
  | 0, _, _ => trivial
  | n + 1, h, q => by
    obtain ⟨a, b, c⟩ := cB_co (n + 1) h
    unfold plO at q ⊢
    rw [a, b, h n (by omega)]
    exact ⟨plO_co n (fun q hq => h q (by omega)) q.1, q.2⟩
theorem isBO {v : Int} (h : (2 ≤ v ∧ v ≤ 6) ∨ (40 ≤ v ∧ v ≤ 44)) : isB v + isO v = 1 ∧ isT v ≤ isO v ∧ rkT v ≤ 2 ∧ (isB v = 0 → rkT v = 0) := by
  unfold isB isO isT rkT
  refine ⟨?_, ?_, ?_, ?_⟩
  · split <;> split <;> omega
  · split <;> split <;> omega
  · split
    · decide
    · split <;> decide
  · split
    · intro h2; exact absurd h2 (by decide)
    · intro _
      rw [if_neg (by omega), if_neg (by omega)]
theorem pl_len {f : Nat → Int} : ∀ n : Nat, plO f n → cB f n + cO f n = n ∧ cT f n ≤ cO f n ∧ cB f n ≤ 2 * cO f n + 2
  | 0, _ => ⟨rfl, Nat.le_refl _, Nat.zero_le _⟩
  | n + 1, h => by
    obtain ⟨a, b, c⟩ := pl_len n h.1
    obtain ⟨i1, i2, i3, i4⟩ := isBO h.2.1
    have q := h.2.2
    have e1 : cB f (n + 1) = cB f n + isB (f n) := rfl
    have e2 : cO f (n + 1) = cO f n + isO (f n) := rfl
    have e3 : cT f (n + 1) = cT f n + isT (f n) := rfl
    omega
/-- the reader in a law: texts, pile; where the text begins, written, piled, opens, whole, place; where the law began -/
def PIs (f g : Nat → Int) (t0 wr pd op wh pl S : Int) : Prop := 0 ≤ t0 ∧ 0 ≤ S ∧ S ≤ wr ∧ 0 ≤ pd ∧ wr + pd ≤ pl ∧ pl ≤ 300 ∧ plO g pd.toNat ∧ op = cO g pd.toNat ∧ op ≤ 8 ∧ (wh = 0 ∨ wh = 1) ∧ wfD f (wr - S).toNat (t0 + 265 + 2 * S).toNat 0 (cB g pd.toNat + cT g pd.toNat + wh.toNat)
theorem PIs.len {f g : Nat → Int} {t0 wr pd op wh pl S : Int} (h : PIs f g t0 wr pd op wh pl S) : pd ≤ 26 ∧ 0 ≤ wr ∧ wr + pd ≤ pl ∧ pl ≤ 300 ∧ 0 ≤ pd ∧ 0 ≤ op ∧ op ≤ 8 ∧ (wh = 0 ∨ wh = 1) := by
  obtain ⟨h0, h1, h2, h3, h4, h5, h6, h7, h8, h9, h10⟩ := h
  have q := pl_len _ h6
  exact ⟨by omega, by omega, h4, h5, h3, by omega, h8, h9⟩
theorem PIs.cast {f g f2 g2 : Nat → Int} {t0 wr pd op wh pl S t02 wr2 pd2 op2 wh2 pl2 : Int} (h : PIs f g t0 wr pd op wh pl S) (e1 : f2 = f) (e2 : g2 = g) (a : t02 = t0) (b : wr2 = wr) (c : pd2 = pd) (d : op2 = op) (e : wh2 = wh) (p : pl ≤ pl2) (q : pl2 ≤ 300) : PIs f2 g2 t02 wr2 pd2 op2 wh2 pl2 S := by
  subst e1 e2 a b c d e
  obtain ⟨h0, h1, h2, h3, h4, h5, h6, h7, h8, h9, h10⟩ := h
  exact ⟨h0, h1, h2, h3, by omega, q, h6, h7, h8, h9, h10⟩
/-- the pile may be another above its top -/
theorem PIs.pile {f g g2 : Nat → Int} {t0 wr pd op wh pl S : Int} (h : PIs f g t0 wr pd op wh pl S) (hg : ∀ q : Nat, (q : Int) < pd → g2 q = g q) : PIs f g2 t0 wr pd op wh pl S := by
  obtain ⟨h0, h1, h2, h3, h4, h5, h6, h7, h8, h9, h10⟩ := h
  obtain ⟨a, b, c⟩ := cB_co (f := g) (g := g2) pd.toNat (fun q hq => hg q (by omega))
  exact ⟨h0, h1, h2, h3, h4, h5, plO_co _ (fun q hq => hg q (by omega)) h6, by rw [b]; exact h7, h8, h9, by rw [a, c]; exact h10⟩
/-- one word of code more -/
theorem wfD_emit {f : Nat → Int} {M : Mem} {t0 wr S : Int} {d e : Nat} {o v : Int} (h0 : 0 ≤ t0) (hS : 0 ≤ S) (hw : S ≤ wr) (h : wfD (mI M 57) (wr - S).toNat (t0 + 265 + 2 * S).toNat 0 d) (hs : stC o v d e) (hf : f = mI (sI (sI M 57 (t0 + 265 + 2 * wr).toNat o) 57 (t0 + 265 + 2 * wr + 1).toNat v) 57) : wfD f (wr + 1 - S).toNat (t0 + 265 + 2 * S).toNat 0 e := by
  subst hf
  rw [show (wr + 1 - S).toNat = (wr - S).toNat + 1 by omega]
  refine wfD_snoc hs _ _ _ ?_ ?_ (wfD_co _ _ _ _ (fun q a b => ?_) h)
  · rw [mI_sI, if_neg (fun e => by omega), mI_sI, if_pos (by omega)]
  · rw [mI_sI, if_pos (by omega)]
  · rw [mI_sI, if_neg (fun e => by omega), mI_sI, if_neg (fun e => by omega)]
theorem cB_s (f : Nat → Int) (n : Nat) : cB f (n + 1) = cB f n + isB (f n) := rfl
theorem cO_s (f : Nat → Int) (n : Nat) : cO f (n + 1) = cO f n + isO (f n) := rfl
theorem cT_s (f : Nat → Int) (n : Nat) : cT f (n + 1) = cT f n + isT (f n) := rfl
/-- the top goes out as code -/
theorem PIs.pop {f g : Nat → Int} {M : Mem} {t0 wr pd op pl S : Int} {o : Int} (h : PIs (mI M 57) g t0 wr pd op 1 pl S) (hp : 1 ≤ pd) (ho : o = g (pd - 1).toNat) (h6 : o ≤ 6) (hf : f = mI (sI (sI M 57 (t0 + 265 + 2 * wr).toNat o) 57 (t0 + 265 + 2 * wr + 1).toNat 0) 57) : PIs f g t0 (wr + 1) (pd - 1) (if o = 2 then op - 1 else op) 1 pl S := by
  obtain ⟨h0, h1, h2, h3, h4, h5, hpl, h7, h8, h9, h10⟩ := h
  rw [show pd.toNat = (pd - 1).toNat + 1 by omega] at hpl h7 h10
  have hpl2 := hpl
  unfold plO at hpl2
  obtain ⟨p1, p2, p3⟩ := hpl2
  rw [← ho] at p2
  rw [cO_s, ← ho] at h7
  rw [cB_s, cT_s, ← ho] at h10
  have it : isT o = 0 := by unfold isT; rw [if_neg (by omega)]
  refine ⟨h0, h1, by omega, by omega, by omega, h5, p1, ?_, ?_, Or.inr rfl, wfD_emit h0 h1 h2 h10 ?_ hf⟩
  · unfold isO at h7
    split at h7
    · rw [if_pos (by omega)]; omega
    · rw [if_neg (by omega)]; omega
  · split <;> omega
  · by_cases e2 : o = 2
    · right; left
      have ib : isB o = 0 := by unfold isB; rw [if_neg (by omega)]
      rw [ib, it]
      exact ⟨e2, by show 1 ≤ _ + 1; omega, by omega⟩
    · right; right
      have ib : isB o = 1 := by unfold isB; rw [if_pos (by omega)]
      rw [ib, it]
      refine ⟨by omega, ?_, ?_⟩
      · show 2 ≤ _ + 1
        omega
      · show _ + 1 = _ + 1 - 1
        omega
/-- a number, a name -/
theorem PIs.num {f g : Nat → Int} {M : Mem} {t0 wr pd op pl pl2 S : Int} {o v : Int} (h : PIs (mI M 57) g t0 wr pd op 0 pl S) (ho : o = 0 ∨ o = 1) (hv8 : o = 1 → 0 ≤ v ∧ v ≤ 8) (hp : pl + 1 ≤ pl2) (hp2 : pl2 ≤ 300) (hf : f = mI (sI (sI M 57 (t0 + 265 + 2 * wr).toNat o) 57 (t0 + 265 + 2 * wr + 1).toNat v) 57) : PIs f g t0 (wr + 1) pd op 1 pl2 S := by
  obtain ⟨h0, h1, h2, h3, h4, h5, hpl, h7, h8, h9, h10⟩ := h
  refine ⟨h0, h1, by omega, h3, by omega, hp2, hpl, h7, h8, Or.inr rfl, wfD_emit h0 h1 h2 h10 (Or.inl ⟨by omega, by omega, hv8, ?_⟩) hf⟩
  show _ + 1 = _ + 0 + 1
  omega
theorem tg_same {M : Mem} {k : Nat} {o : Int} : mI (sI M 60 k o) 60 k = o := mI_same
/-- an open one more -/
theorem PIs.opn {f : Nat → Int} {M : Mem} {t0 wr pd op pl pl2 S : Int} {o : Int} (h : PIs f (mI M 60) t0 wr pd op 0 pl S) (ho : o = 2 ∨ o = 40 ∨ o = 41 ∨ o = 43) (h8 : op + 1 ≤ 8) (hp : pl + 1 ≤ pl2) (hp2 : pl2 ≤ 300) : PIs f (mI (sI M 60 pd.toNat o) 60) t0 wr (pd + 1) (op + 1) 0 pl2 S := by
  obtain ⟨h0, h1, h2, h3, h4, h5, hpl, h7, h9, h10, h11⟩ := h
  have hs : ∀ q, q < pd.toNat → mI (sI M 60 pd.toNat o) 60 q = mI M 60 q := fun q hq => by rw [mI_sI, if_neg (fun e => by omega)]
  obtain ⟨a, b, c⟩ := cB_co (f := mI M 60) (g := mI (sI M 60 pd.toNat o) 60) pd.toNat hs
  have io : isO o = 1 := by unfold isO; rw [if_pos (by omega)]
  have ib : isB o = 0 := by unfold isB; rw [if_neg (by omega)]
  have it : isT o = 0 := by unfold isT; rw [if_neg (by omega)]
  have pl := pl_len _ hpl
  rw [PIs, show (pd + 1).toNat = pd.toNat + 1 by omega]
  refine ⟨h0, h1, h2, by omega, by omega, hp2, ⟨plO_co _ hs hpl, ?_, ?_⟩, ?_, h8, h10, ?_⟩
  · rw [tg_same]; omega
  · rw [cB_s, cO_s, tg_same, a, b, io, ib]; omega
  · rw [cO_s, tg_same, b, io]; omega
  · rw [cB_s, cT_s, tg_same, a, c, ib, it]; exact h11
/-- one of two sides more -/
theorem PIs.bin {f : Nat → Int} {M : Mem} {t0 wr pd op pl pl2 S : Int} {o : Int} (h : PIs f (mI M 60) t0 wr pd op 1 pl S) (ho : 3 ≤ o ∧ o ≤ 6) (ht : pd = 0 ∨ rkT (mI M 60 (pd - 1).toNat) < rkT o ∧ mI M 60 (pd - 1).toNat ≠ 2) (hp : pl + 1 ≤ pl2) (hp2 : pl2 ≤ 300) : PIs f (mI (sI M 60 pd.toNat o) 60) t0 wr (pd + 1) op 0 pl2 S := by
  obtain ⟨h0, h1, h2, h3, h4, h5, hpl, h7, h9, h10, h11⟩ := h
  have hs : ∀ q, q < pd.toNat → mI (sI M 60 pd.toNat o) 60 q = mI M 60 q := fun q hq => by rw [mI_sI, if_neg (fun e => by omega)]
  obtain ⟨a, b, c⟩ := cB_co (f := mI M 60) (g := mI (sI M 60 pd.toNat o) 60) pd.toNat hs
  have io : isO o = 0 := by unfold isO; rw [if_neg (by omega)]
  have ib : isB o = 1 := by unfold isB; rw [if_pos (by omega)]
  have it : isT o = 0 := by unfold isT; rw [if_neg (by omega)]
  have rk : 1 ≤ rkT o := by
    unfold rkT
    split
    · decide
    · rw [if_pos (by omega)]; decide
  have key : cB (mI M 60) pd.toNat + 1 ≤ 2 * cO (mI M 60) pd.toNat + rkT o := by
    rcases ht with e | e
    · rw [e]
      show 0 + 1 ≤ 2 * 0 + rkT o
      omega
    · by_cases e0 : pd = 0
      · rw [e0]
        show 0 + 1 ≤ 2 * 0 + rkT o
        omega
      · rw [show pd.toNat = (pd - 1).toNat + 1 by omega] at hpl ⊢
        have q := hpl.2.2
        omega
  rw [PIs, show (pd + 1).toNat = pd.toNat + 1 by omega]
  refine ⟨h0, h1, h2, by omega, by omega, hp2, ⟨plO_co _ hs hpl, ?_, ?_⟩, ?_, h9, Or.inl rfl, ?_⟩
  · rw [tg_same]; omega
  · rw [cB_s, cO_s, tg_same, a, b, io, ib]; omega
  · rw [cO_s, tg_same, b, io]; omega
  · rw [cB_s, cT_s, tg_same, a, c, ib, it]
    rw [show cB (mI M 60) pd.toNat + 1 + (cT (mI M 60) pd.toNat + 0) + Int.toNat 0 = cB (mI M 60) pd.toNat + cT (mI M 60) pd.toNat + Int.toNat 1 by show _ + 1 + (_ + 0) + 0 = _ + _ + 1; omega]
    exact h11
/-- the second of two -/
theorem PIs.two {f : Nat → Int} {M : Mem} {t0 wr pd op pl pl2 S : Int} {o : Int} (h : PIs f (mI M 60) t0 wr pd op 1 pl S) (hp1 : 1 ≤ pd) (ho : mI M 60 (pd - 1).toNat = o) (ho2 : o = 41 ∨ o = 43) (hp : pl ≤ pl2) (hp2 : pl2 ≤ 300) : PIs f (mI (sI M 60 (pd - 1).toNat (o + 1)) 60) t0 wr pd op 0 pl2 S := by
  obtain ⟨h0, h1, h2, h3, h4, h5, hpl, h7, h9, h10, h11⟩ := h
  have hs : ∀ q, q < (pd - 1).toNat → mI (sI M 60 (pd - 1).toNat (o + 1)) 60 q = mI M 60 q := fun q hq => by rw [mI_sI, if_neg (fun e => by omega)]
  obtain ⟨a, b, c⟩ := cB_co (f := mI M 60) (g := mI (sI M 60 (pd - 1).toNat (o + 1)) 60) (pd - 1).toNat hs
  rw [show pd.toNat = (pd - 1).toNat + 1 by omega] at hpl h7 h11
  have io : isO o = 1 := by unfold isO; rw [if_pos (by omega)]
  have ib : isB o = 0 := by unfold isB; rw [if_neg (by omega)]
  have it : isT o = 0 := by unfold isT; rw [if_neg (by omega)]
  have jo : isO (o + 1) = 1 := by unfold isO; rw [if_pos (by omega)]
  have jb : isB (o + 1) = 0 := by unfold isB; rw [if_neg (by omega)]
  have jt : isT (o + 1) = 1 := by unfold isT; rw [if_pos (by omega)]
  have rk : rkT o = 0 := by unfold rkT; rw [if_neg (by omega), if_neg (by omega)]
  have q := hpl.2.2
  rw [cB_s, cO_s, ho, ib, io, rk] at q
  rw [cO_s, ho, io] at h7
  rw [cB_s, cT_s, ho, ib, it] at h11
  rw [PIs, show pd.toNat = (pd - 1).toNat + 1 by omega]
  refine ⟨h0, h1, h2, by omega, by omega, hp2, ⟨plO_co _ hs hpl.1, ?_, ?_⟩, ?_, h9, Or.inl rfl, ?_⟩
  · rw [tg_same]; omega
  · rw [cB_s, cO_s, tg_same, a, b, jo, jb]; omega
  · rw [cO_s, tg_same, b, jo]; omega
  · rw [cB_s, cT_s, tg_same, a, c, jb, jt]
    rw [show cB (mI M 60) (pd - 1).toNat + 0 + (cT (mI M 60) (pd - 1).toNat + 1) + Int.toNat 0 = cB (mI M 60) (pd - 1).toNat + 0 + (cT (mI M 60) (pd - 1).toNat + 0) + Int.toNat 1 by show _ + 0 + (_ + 1) + 0 = _ + 0 + (_ + 0) + 1; omega]
    exact h11
/-- one in round brackets is shut -/
theorem PIs.par {f g : Nat → Int} {t0 wr pd op pl S : Int} (h : PIs f g t0 wr pd op 1 pl S) (hp1 : 1 ≤ pd) (ho : g (pd - 1).toNat = 40) : PIs f g t0 wr (pd - 1) (op - 1) 1 pl S := by
  obtain ⟨h0, h1, h2, h3, h4, h5, hpl, h7, h9, h10, h11⟩ := h
  rw [show pd.toNat = (pd - 1).toNat + 1 by omega] at hpl h7 h11
  rw [cO_s, ho] at h7
  rw [cB_s, cT_s, ho] at h11
  exact ⟨h0, h1, h2, by omega, by omega, h5, hpl.1, by have : isO 40 = 1 := rfl; omega, by omega, h10, h11⟩
/-- least and most are shut -/
theorem PIs.end {f g : Nat → Int} {M : Mem} {t0 wr pd op pl S : Int} {o o2 : Int} (h : PIs (mI M 57) g t0 wr pd op 1 pl S) (hp1 : 1 ≤ pd) (ho : g (pd - 1).toNat = o) (ho2 : o = 42 ∨ o = 44) (h3o : 3 ≤ o2) (hf : f = mI (sI (sI M 57 (t0 + 265 + 2 * wr).toNat o2) 57 (t0 + 265 + 2 * wr + 1).toNat 0) 57) : PIs f g t0 (wr + 1) (pd - 1) (op - 1) 1 pl S := by
  obtain ⟨h0, h1, h2, h3, h4, h5, hpl, h7, h9, h10, h11⟩ := h
  rw [show pd.toNat = (pd - 1).toNat + 1 by omega] at hpl h7 h11
  have io : isO o = 1 := by unfold isO; rw [if_pos (by omega)]
  have ib : isB o = 0 := by unfold isB; rw [if_neg (by omega)]
  have it : isT o = 1 := by unfold isT; rw [if_pos (by omega)]
  rw [cO_s, ho, io] at h7
  rw [cB_s, cT_s, ho, ib, it] at h11
  refine ⟨h0, h1, by omega, by omega, by omega, h5, hpl.1, by omega, by omega, h10, wfD_emit h0 h1 h2 h11 (Or.inr (Or.inr ⟨h3o, ?_, ?_⟩)) hf⟩
  · show 2 ≤ _ + 0 + (_ + 1) + 1
    omega
  · show _ + _ + 1 = _ + 0 + (_ + 1) + 1 - 1
    omega
/-- the pile is empty, the sum whole -/
theorem PIs.fin {f g : Nat → Int} {t0 wr op wh pl S : Int} (h : PIs f g t0 wr 0 op wh pl S) : wfC f (wr - S).toNat (t0 + 265 + 2 * S).toNat 0 := wfD_C _ _ _ _ h.2.2.2.2.2.2.2.2.2.2
theorem PIs.new {f g : Nat → Int} {t0 wr pl : Int} (h0 : 0 ≤ t0) (h1 : 0 ≤ wr) (h2 : wr ≤ pl) (h3 : pl ≤ 300) : PIs f g t0 wr 0 0 0 pl wr := ⟨h0, h1, Int.le_refl _, by decide, by omega, h3, trivial, rfl, by decide, Or.inl rfl, by rw [Int.sub_self]; rfl⟩
/-- the reader in a law, in a memory -/
def PI (M : Mem) (S : Int) : Prop := PIs (mI M 57) (mI M 60) (mI M 54 14) (mI M 54 15) (mI M 54 18) (mI M 54 19) (mI M 54 20) (mI M 54 10) S
def rkI (o : Int) : Int := if 40 ≤ o then 0 else if o = 2 then 3 else if 5 ≤ o then 2 else 1
theorem PI.len {M : Mem} {S : Int} (h : PI M S) : mI M 54 18 ≤ 26 ∧ 0 ≤ mI M 54 15 ∧ mI M 54 15 + mI M 54 18 ≤ mI M 54 10 ∧ mI M 54 10 ≤ 300 ∧ 0 ≤ mI M 54 18 ∧ 0 ≤ mI M 54 19 ∧ mI M 54 19 ≤ 8 ∧ (mI M 54 20 = 0 ∨ mI M 54 20 = 1) ∧ 0 ≤ S ∧ S ≤ mI M 54 15 := by
  obtain ⟨a, b, c, d, e, f, g, i⟩ := PIs.len h
  exact ⟨a, b, c, d, e, f, g, i, h.2.1, h.2.2.1⟩
theorem PI.top {M : Mem} {S : Int} (h : PI M S) (h1 : 1 ≤ mI M 54 18) : (2 ≤ mI M 60 (mI M 54 18 - 1).toNat ∧ mI M 60 (mI M 54 18 - 1).toNat ≤ 6) ∨ (40 ≤ mI M 60 (mI M 54 18 - 1).toNat ∧ mI M 60 (mI M 54 18 - 1).toNat ≤ 44) := by
  have q := h.2.2.2.2.2.2.1
  rw [show (mI M 54 18).toNat = (mI M 54 18 - 1).toNat + 1 by omega] at q
  exact q.2.1
theorem PI.tok {M N : Mem} {S : Int} (h : PI M S) (e57 : mI N 57 = mI M 57) (e60 : mI N 60 = mI M 60) (e14 : mI N 54 14 = mI M 54 14) (e15 : mI N 54 15 = mI M 54 15) (e18 : mI N 54 18 = mI M 54 18) (e19 : mI N 54 19 = mI M 54 19) (e20 : mI N 54 20 = mI M 54 20) (p : mI M 54 10 ≤ mI N 54 10) (q : mI N 54 10 ≤ 300) : PI N S := PIs.cast h e57 e60 e14 e15 e18 e19 e20 p q
theorem PI.pop {M N : Mem} {S o : Int} (h : PI M S) (hw : mI M 54 20 = 1) (hp : 1 ≤ mI M 54 18) (ho : o = mI M 60 (mI M 54 18 - 1).toNat) (h6 : o ≤ 6) (e57 : mI N 57 = mI (sI (sI M 57 (mI M 54 14 + 265 + 2 * mI M 54 15).toNat o) 57 (mI M 54 14 + 265 + 2 * mI M 54 15 + 1).toNat 0) 57) (e60 : mI N 60 = mI M 60) (e14 : mI N 54 14 = mI M 54 14) (e15 : mI N 54 15 = mI M 54 15 + 1) (e18 : mI N 54 18 = mI M 54 18 - 1) (e19 : mI N 54 19 = if o = 2 then mI M 54 19 - 1 else mI M 54 19) (e20 : mI N 54 20 = 1) (p : mI M 54 10 ≤ mI N 54 10) (q : mI N 54 10 ≤ 300) : PI N S := by
  unfold PI at h
  rw [hw] at h
  exact PIs.cast (PIs.pop h hp ho h6 e57) rfl e60 e14 e15 e18 e19 e20 p q
theorem PI.num {M N : Mem} {S o v : Int} (h : PI M S) (hw : mI M 54 20 = 0) (ho : o = 0 ∨ o = 1) (hv : o = 1 → 0 ≤ v ∧ v ≤ 8) (e57 : mI N 57 = mI (sI (sI M 57 (mI M 54 14 + 265 + 2 * mI M 54 15).toNat o) 57 (mI M 54 14 + 265 + 2 * mI M 54 15 + 1).toNat v) 57) (e60 : mI N 60 = mI M 60) (e14 : mI N 54 14 = mI M 54 14) (e15 : mI N 54 15 = mI M 54 15 + 1) (e18 : mI N 54 18 = mI M 54 18) (e19 : mI N 54 19 = mI M 54 19) (e20 : mI N 54 20 = 1) (p : mI M 54 10 + 1 ≤ mI N 54 10) (q : mI N 54 10 ≤ 300) : PI N S := by
  unfold PI at h
  rw [hw] at h
  exact PIs.cast (PIs.num h ho hv p q e57) rfl e60 e14 e15 e18 e19 e20 (Int.le_refl _) q
theorem PI.opn {M N : Mem} {S o : Int} (h : PI M S) (hw : mI M 54 20 = 0) (ho : o = 2 ∨ o = 40 ∨ o = 41 ∨ o = 43) (h8 : mI M 54 19 + 1 ≤ 8) (e57 : mI N 57 = mI M 57) (e60 : mI N 60 = mI (sI M 60 (mI M 54 18).toNat o) 60) (e14 : mI N 54 14 = mI M 54 14) (e15 : mI N 54 15 = mI M 54 15) (e18 : mI N 54 18 = mI M 54 18 + 1) (e19 : mI N 54 19 = mI M 54 19 + 1) (e20 : mI N 54 20 = 0) (p : mI M 54 10 + 1 ≤ mI N 54 10) (q : mI N 54 10 ≤ 300) : PI N S := by
  unfold PI at h
  rw [hw] at h
  exact PIs.cast (PIs.opn h ho h8 p q) e57 e60 e14 e15 e18 e19 e20 (Int.le_refl _) q
theorem PI.bin {M N : Mem} {S o : Int} (h : PI M S) (hw : mI M 54 20 = 1) (ho : 3 ≤ o ∧ o ≤ 6) (ht : mI M 54 18 = 0 ∨ rkI (mI M 60 (mI M 54 18 - 1).toNat) < rkI o) (e57 : mI N 57 = mI M 57) (e60 : mI N 60 = mI (sI M 60 (mI M 54 18).toNat o) 60) (e14 : mI N 54 14 = mI M 54 14) (e15 : mI N 54 15 = mI M 54 15) (e18 : mI N 54 18 = mI M 54 18 + 1) (e19 : mI N 54 19 = mI M 54 19) (e20 : mI N 54 20 = 0) (p : mI M 54 10 + 1 ≤ mI N 54 10) (q : mI N 54 10 ≤ 300) : PI N S := by
  have hl := h.len
  have ht2 : mI M 54 18 = 0 ∨ rkT (mI M 60 (mI M 54 18 - 1).toNat) < rkT o ∧ mI M 60 (mI M 54 18 - 1).toNat ≠ 2 := by
    by_cases e0 : mI M 54 18 = 0
    · exact Or.inl e0
    · right
      have t := h.top (by omega)
      rcases ht with e | e
      · exact absurd e e0
      · unfold rkI at e
        unfold rkT
        refine ⟨?_, ?_⟩
        · repeat' split at e
          all_goals first | (exfalso; omega) | skip
          all_goals (repeat' split) <;> first | omega | (exfalso; omega)
        · intro q2
          rw [q2] at e
          repeat' split at e
          all_goals omega
  unfold PI at h
  rw [hw] at h
  exact PIs.cast (PIs.bin h ho ht2 p q) e57 e60 e14 e15 e18 e19 e20 (Int.le_refl _) q
theorem PI.two {M N : Mem} {S o : Int} (h : PI M S) (hw : mI M 54 20 = 1) (hp : 1 ≤ mI M 54 18) (ho : mI M 60 (mI M 54 18 - 1).toNat = o) (ho2 : o = 41 ∨ o = 43) (e57 : mI N 57 = mI M 57) (e60 : mI N 60 = mI (sI M 60 (mI M 54 18 - 1).toNat (o + 1)) 60) (e14 : mI N 54 14 = mI M 54 14) (e15 : mI N 54 15 = mI M 54 15) (e18 : mI N 54 18 = mI M 54 18) (e19 : mI N 54 19 = mI M 54 19) (e20 : mI N 54 20 = 0) (p : mI M 54 10 ≤ mI N 54 10) (q : mI N 54 10 ≤ 300) : PI N S := by
  unfold PI at h
  rw [hw] at h
  exact PIs.cast (PIs.two h hp ho ho2 p q) e57 e60 e14 e15 e18 e19 e20 (Int.le_refl _) q
theorem PI.par {M N : Mem} {S : Int} (h : PI M S) (hw : mI M 54 20 = 1) (hp : 1 ≤ mI M 54 18) (ho : mI M 60 (mI M 54 18 - 1).toNat = 40) (e57 : mI N 57 = mI M 57) (e60 : mI N 60 = mI M 60) (e14 : mI N 54 14 = mI M 54 14) (e15 : mI N 54 15 = mI M 54 15) (e18 : mI N 54 18 = mI M 54 18 - 1) (e19 : mI N 54 19 = mI M 54 19 - 1) (e20 : mI N 54 20 = 1) (p : mI M 54 10 ≤ mI N 54 10) (q : mI N 54 10 ≤ 300) : PI N S := by
  unfold PI at h
  rw [hw] at h
  exact PIs.cast (PIs.par h hp ho) e57 e60 e14 e15 e18 e19 e20 p q
theorem PI.end {M N : Mem} {S o o2 : Int} (h : PI M S) (hw : mI M 54 20 = 1) (hp : 1 ≤ mI M 54 18) (ho : mI M 60 (mI M 54 18 - 1).toNat = o) (ho2 : o = 42 ∨ o = 44) (h3 : 3 ≤ o2) (e57 : mI N 57 = mI (sI (sI M 57 (mI M 54 14 + 265 + 2 * mI M 54 15).toNat o2) 57 (mI M 54 14 + 265 + 2 * mI M 54 15 + 1).toNat 0) 57) (e60 : mI N 60 = mI M 60) (e14 : mI N 54 14 = mI M 54 14) (e15 : mI N 54 15 = mI M 54 15 + 1) (e18 : mI N 54 18 = mI M 54 18 - 1) (e19 : mI N 54 19 = mI M 54 19 - 1) (e20 : mI N 54 20 = 1) (p : mI M 54 10 ≤ mI N 54 10) (q : mI N 54 10 ≤ 300) : PI N S := by
  unfold PI at h
  rw [hw] at h
  exact PIs.cast (PIs.end h hp ho ho2 h3 e57) rfl e60 e14 e15 e18 e19 e20 p q
theorem PI.fin {M : Mem} {S : Int} (h : PI M S) (hp : mI M 54 18 = 0) : wfC (mI M 57) (mI M 54 15 - S).toNat (mI M 54 14 + 265 + 2 * S).toNat 0 := by
  unfold PI at h
  rw [hp] at h
  exact PIs.fin h
theorem PI.new {M : Mem} (h0 : 0 ≤ mI M 54 14) (h1 : 0 ≤ mI M 54 15) (h2 : mI M 54 15 ≤ mI M 54 10) (h3 : mI M 54 10 ≤ 300) (a : mI M 54 18 = 0) (b : mI M 54 19 = 0) (c : mI M 54 20 = 0) : PI M (mI M 54 15) := by
  unfold PI
  rw [a, b, c]
  exact PIs.new h0 h1 h2 h3
theorem wfT_co {f g : Nat → Int} {t : Nat} (he : ∀ j, j < 873 * (t + 1) → g j = f j) (h : wfT f t) : wfT g t := by
  obtain ⟨h1, h2, h3⟩ := h
  refine ⟨by rw [he _ (by omega)]; exact h1, by rw [he _ (by omega)]; exact h2, fun k hk => ?_⟩
  rw [he _ (by omega)] at hk
  obtain ⟨a, b⟩ := h3 k hk
  refine ⟨fun e => ?_, fun e0 e1 => ?_⟩
  · rw [he _ (by omega)] at e
    rw [he _ (by omega), he _ (by omega)]
    exact a e
  · rw [he _ (by omega)] at e0 e1
    obtain ⟨b1, b2, b3, b4⟩ := b e0 e1
    rw [he _ (by omega), he _ (by omega)]
    refine ⟨b1, b2, b3, wfC_co _ _ _ (fun q x y => he q (by omega)) b4⟩
theorem BX.x57 {M0 M : Mem} (h : BX M0 M) {x v : Int} (hx : 873 * mI M 55 5 ≤ x) : BX M0 (sI M 57 x.toNat v) := by
  obtain ⟨⟨h1, h2, h3, h4, h5, h6, h7⟩, hd⟩ := h
  have e5 : mI (sI M 57 x.toNat v) 55 = mI M 55 := funext fun b => by rw [mI_sI, if_neg (fun e => by omega)]
  have e6 : mI (sI M 57 x.toNat v) 56 = mI M 56 := funext fun b => by rw [mI_sI, if_neg (fun e => by omega)]
  refine ⟨⟨h1, bx_sI h2 trivial, h3.same ((Dz.refl M).sI (by decide)) (fun _ _ _ => rfl), ?_, ?_, ?_, fun t ht => ?_⟩, hd.sI (by decide)⟩
  · rw [e5]; exact h4
  · rw [e6]; exact h5
  · rw [e5, e6]; exact h6
  · rw [e5] at ht
    exact wfT_co (fun j hj => by rw [mI_sI, if_neg (fun e => by omega)]) (h7 t ht)

theorem BD.x57 {A M : Mem} (h : BD A M) {x v : Int} (hx : 873 * mI M 55 5 ≤ x) : BD A (sI M 57 x.toNat v) := h.of ((BX.start h.1).x57 hx) (Fz.sI rfl)
/-! CONTRACTS of the reference: its reader (written by wip/p35/c86.py) -/
set_option maxRecDepth 4000 in
theorem sfX12_isLetterByte {l : Launch} {M : Mem} (hB : Box M)  (c : Int)  : Call l mdX12_isLetterByte [aI c] M (fun q N => ∃ r : Int, q = some (aI r) ∧ M = N ∧ 0 ≤ r ∧ r ≤ 1 ∧ ((r = 1 ∧ ((97 ≤ c ∧ c ≤ 122) ∨ (65 ≤ c ∧ c ≤ 90))) ∨ (r = 0 ∧ ¬ ((97 ≤ c ∧ c ≤ 122) ∨ (65 ≤ c ∧ c ≤ 90))))) := by
  have hB0 := BD.start hB
  refine Call.of [some (aI c)] rfl (Nat.le_of_ble_eq_true rfl) rfl ?_
  refine vc_ok (fun hoM hoS hoL => ?_)
  have hr0 : -2147483648 ≤ c ∧ c < 2147483648 := hoL 0 _ rfl
  refine vc_iload_n dX12_isLetterByte_0 rfl ?_
  refine vc_bipush dX12_isLetterByte_1 rfl ?_
  refine vc_icmp_lt dX12_isLetterByte_3 (fun h1 => ?_) (fun h1 => ?_)
  · refine vc_iload_n dX12_isLetterByte_12 rfl ?_
    refine vc_bipush dX12_isLetterByte_13 rfl ?_
    refine vc_icmp_lt dX12_isLetterByte_15 (fun h2 => ?_) (fun h2 => ?_)
    · refine vc_iconst dX12_isLetterByte_28 rfl ?_
      refine vc_zret dX12_isLetterByte_29 rfl (by first | decide | omega) (Nat.le_of_ble_eq_true rfl) (Nat.le_of_ble_eq_true rfl) ?_
      exact ⟨_, rfl, rfl, by omega, by omega, by omega⟩
    · refine vc_iload_n dX12_isLetterByte_18 rfl ?_
      refine vc_bipush dX12_isLetterByte_19 rfl ?_
      refine vc_icmp_gt dX12_isLetterByte_21 (fun h3 => ?_) (fun h3 => ?_)
      · refine vc_iconst dX12_isLetterByte_28 rfl ?_
        refine vc_zret dX12_isLetterByte_29 rfl (by first | decide | omega) (Nat.le_of_ble_eq_true rfl) (Nat.le_of_ble_eq_true rfl) ?_
        exact ⟨_, rfl, rfl, by omega, by omega, by omega⟩
      · refine vc_iconst dX12_isLetterByte_24 rfl ?_
        refine vc_goto dX12_isLetterByte_25 ?_
        refine vc_zret dX12_isLetterByte_29 rfl (by first | decide | omega) (Nat.le_of_ble_eq_true rfl) (Nat.le_of_ble_eq_true rfl) ?_
        exact ⟨_, rfl, rfl, by omega, by omega, by omega⟩
  · refine vc_iload_n dX12_isLetterByte_6 rfl ?_
    refine vc_bipush dX12_isLetterByte_7 rfl ?_
    refine vc_icmp_le dX12_isLetterByte_9 (fun h4 => ?_) (fun h4 => ?_)
    · refine vc_iconst dX12_isLetterByte_24 rfl ?_
      refine vc_goto dX12_isLetterByte_25 ?_
      refine vc_zret dX12_isLetterByte_29 rfl (by first | decide | omega) (Nat.le_of_ble_eq_true rfl) (Nat.le_of_ble_eq_true rfl) ?_
      exact ⟨_, rfl, rfl, by omega, by omega, by omega⟩
    · refine vc_iload_n dX12_isLetterByte_12 rfl ?_
      refine vc_bipush dX12_isLetterByte_13 rfl ?_
      refine vc_icmp_lt dX12_isLetterByte_15 (fun h5 => by exfalso; omega) (fun h5 => ?_)
      refine vc_iload_n dX12_isLetterByte_18 rfl ?_
      refine vc_bipush dX12_isLetterByte_19 rfl ?_
      refine vc_icmp_gt dX12_isLetterByte_21 (fun h6 => ?_) (fun h6 => by exfalso; omega)
      refine vc_iconst dX12_isLetterByte_28 rfl ?_
      refine vc_zret dX12_isLetterByte_29 rfl (by first | decide | omega) (Nat.le_of_ble_eq_true rfl) (Nat.le_of_ble_eq_true rfl) ?_
      exact ⟨_, rfl, rfl, by omega, by omega, by omega⟩

set_option maxRecDepth 4000 in
theorem sfX12_isFigure {l : Launch} {M : Mem} (hB : Box M)  (c : Int)  : Call l mdX12_isFigure [aI c] M (fun q N => ∃ r : Int, q = some (aI r) ∧ M = N ∧ 0 ≤ r ∧ r ≤ 1 ∧ ((r = 1 ∧ 48 ≤ c ∧ c ≤ 57) ∨ (r = 0 ∧ ¬ (48 ≤ c ∧ c ≤ 57)))) := by
  have hB0 := BD.start hB
  refine Call.of [some (aI c)] rfl (Nat.le_of_ble_eq_true rfl) rfl ?_
  refine vc_ok (fun hoM hoS hoL => ?_)
  have hr0 : -2147483648 ≤ c ∧ c < 2147483648 := hoL 0 _ rfl
  refine vc_iload_n dX12_isFigure_0 rfl ?_
  refine vc_bipush dX12_isFigure_1 rfl ?_
  refine vc_icmp_lt dX12_isFigure_3 (fun h1 => ?_) (fun h1 => ?_)
  · refine vc_iconst dX12_isFigure_16 rfl ?_
    refine vc_zret dX12_isFigure_17 rfl (by first | decide | omega) (Nat.le_of_ble_eq_true rfl) (Nat.le_of_ble_eq_true rfl) ?_
    exact ⟨_, rfl, rfl, by omega, by omega, by omega⟩
  · refine vc_iload_n dX12_isFigure_6 rfl ?_
    refine vc_bipush dX12_isFigure_7 rfl ?_
    refine vc_icmp_gt dX12_isFigure_9 (fun h2 => ?_) (fun h2 => ?_)
    · refine vc_iconst dX12_isFigure_16 rfl ?_
      refine vc_zret dX12_isFigure_17 rfl (by first | decide | omega) (Nat.le_of_ble_eq_true rfl) (Nat.le_of_ble_eq_true rfl) ?_
      exact ⟨_, rfl, rfl, by omega, by omega, by omega⟩
    · refine vc_iconst dX12_isFigure_12 rfl ?_
      refine vc_goto dX12_isFigure_13 ?_
      refine vc_zret dX12_isFigure_17 rfl (by first | decide | omega) (Nat.le_of_ble_eq_true rfl) (Nat.le_of_ble_eq_true rfl) ?_
      exact ⟨_, rfl, rfl, by omega, by omega, by omega⟩

set_option maxRecDepth 4000 in
theorem sfX12_rank {l : Launch} {M : Mem} (hB : Box M)  (o : Int)  : Call l mdX12_rank [aI o] M (fun q N => ∃ r : Int, q = some (aI r) ∧ M = N ∧ 0 ≤ r ∧ r ≤ 3 ∧ r = rkI o) := by
  have hB0 := BD.start hB
  refine Call.of [some (aI o)] rfl (Nat.le_of_ble_eq_true rfl) rfl ?_
  refine vc_ok (fun hoM hoS hoL => ?_)
  have hr0 : -2147483648 ≤ o ∧ o < 2147483648 := hoL 0 _ rfl
  refine vc_iload_n dX12_rank_0 rfl ?_
  refine vc_bipush dX12_rank_1 rfl ?_
  refine vc_icmp_lt dX12_rank_3 (fun h1 => ?_) (fun h1 => ?_)
  · refine vc_iload_n dX12_rank_10 rfl ?_
    refine vc_iconst dX12_rank_11 rfl ?_
    refine vc_icmp_ne dX12_rank_12 (fun h2 => ?_) (fun h2 => ?_)
    · refine vc_iload_n dX12_rank_19 rfl ?_
      refine vc_iconst dX12_rank_20 rfl ?_
      refine vc_icmp_lt dX12_rank_21 (fun h3 => ?_) (fun h3 => ?_)
      · refine vc_iconst dX12_rank_28 rfl ?_
        refine vc_iret dX12_rank_29 rfl (Nat.le_of_ble_eq_true rfl) (Nat.le_of_ble_eq_true rfl) ?_
        refine ⟨_, rfl, rfl, by omega, by omega, ?_⟩
        unfold rkI; repeat' split
        all_goals omega
      · refine vc_iconst dX12_rank_24 rfl ?_
        refine vc_goto dX12_rank_25 ?_
        refine vc_iret dX12_rank_29 rfl (Nat.le_of_ble_eq_true rfl) (Nat.le_of_ble_eq_true rfl) ?_
        refine ⟨_, rfl, rfl, by omega, by omega, ?_⟩
        unfold rkI; repeat' split
        all_goals omega
    · refine vc_iconst dX12_rank_15 rfl ?_
      refine vc_goto dX12_rank_16 ?_
      refine vc_iret dX12_rank_29 rfl (Nat.le_of_ble_eq_true rfl) (Nat.le_of_ble_eq_true rfl) ?_
      refine ⟨_, rfl, rfl, by omega, by omega, ?_⟩
      unfold rkI; repeat' split
      all_goals omega
  · refine vc_iconst dX12_rank_6 rfl ?_
    refine vc_goto dX12_rank_7 ?_
    refine vc_iret dX12_rank_29 rfl (Nat.le_of_ble_eq_true rfl) (Nat.le_of_ble_eq_true rfl) ?_
    refine ⟨_, rfl, rfl, by omega, by omega, ?_⟩
    unfold rkI; repeat' split
    all_goals omega

theorem fr_emit {A B N : Mem} {p o v : Int} {t : Int} (h0 : t ≤ p) (ht : 0 ≤ p) (h : mI N 57 = mI (sI (sI B 57 p.toNat o) 57 (p + 1).toNat v) 57) (hb : ∀ j : Nat, (j : Int) < t → mI B 57 j = mI A 57 j) : ∀ j : Nat, (j : Int) < t → mI N 57 j = mI A 57 j := fun j hj => by
  rw [h, mI_sI, if_neg (fun e => by omega), mI_sI, if_neg (fun e => by omega)]
  exact hb j hj
/-! CONTRACTS of the reference: its reader, sums (written by wip/p35/c87.py) -/
set_option maxRecDepth 4000 in
theorem sfX12_openAt {l : Launch} {M : Mem} (hB : Box M)   (p0 : mI M 54 18 ≤ 26) : Call l mdX12_openAt [aR 54] M (fun q N => ∃ r : Int, q = some (aI r) ∧ M = N ∧ (-1) ≤ r ∧ r ≤ 25 ∧ (r = -1 ∨ (r < mI M 54 18 ∧ 40 ≤ mI M 60 r.toNat)) ∧ (∀ q : Nat, r < q → (q : Int) < mI M 54 18 → mI M 60 q < 40)) := by
  have hB0 := BD.start hB
  refine Call.of [some (aR 54), none] rfl (Nat.le_of_ble_eq_true rfl) rfl ?_
  refine vc_aload_n dX12_openAt_0 rfl ?_
  refine vc_getI dX12_openAt_1 flX12_180 (s_54 hB0.1.1) rfl ?_
  have k1 : 0 ≤ mI M 54 18 ∧ mI M 54 18 ≤ 160 := b54_18 (M := M) hB0.1
  refine vc_iconst dX12_openAt_4 rfl ?_
  refine vc_isubE dX12_openAt_5 (by omega) (by omega) ?_
  refine vc_nameI (fun x2 ex2 => ?_)
  refine vc_istore_n dX12_openAt_6 (by decide) rfl (show _ = [some (aR 54), some (aI x2)] from rfl) ?_
  have lp7 : ∀ (n7 : Nat) (v1 : Int), ((-1) ≤ v1) → (v1 ≤ 25) → (v1 < mI M 54 18) → (∀ q : Nat, v1 < q → (q : Int) < mI M 54 18 → mI M 60 q < 40) → (v1 + 1).toNat < n7 → VC l mdX12_openAt 7 [some (aR 54), some (aI v1)] [] M 0 0 (fun q N => ∃ r : Int, q = some (aI r) ∧ M = N ∧ (-1) ≤ r ∧ r ≤ 25 ∧ (r = -1 ∨ (r < mI M 54 18 ∧ 40 ≤ mI M 60 r.toNat)) ∧ (∀ q : Nat, r < q → (q : Int) < mI M 54 18 → mI M 60 q < 40)) := by
    intro n7
    induction n7 with
    | zero => intro v1 g7_1a g7_1b g7i0 g7i1 hm7; exact absurd hm7 (Nat.not_lt_zero _)
    | succ n7 ih7 =>
      intro v1 g7_1a g7_1b g7i0 g7i1 hm7
      refine vc_iload_n dX12_openAt_7 rfl ?_
      refine vc_if_lt dX12_openAt_8 (fun h3 => ?_) (fun h3 => ?_)
      · refine vc_iload_n dX12_openAt_28 rfl ?_
        refine vc_iret dX12_openAt_29 rfl (Nat.le_of_ble_eq_true rfl) (Nat.le_of_ble_eq_true rfl) ?_
        exact ⟨_, rfl, rfl, by omega, by omega, by omega, by exact g7i1⟩
      · refine vc_aload_n dX12_openAt_11 rfl ?_
        refine vc_getR dX12_openAt_12 flX12_32 (s_54 hB0.1.1) rfl (r_54_17 hB0.1.1) ?_
        refine vc_iload_n dX12_openAt_15 rfl ?_
        refine vc_iaload dX12_openAt_16 (s_60 hB0.1.1) (by omega) (by omega) ?_
        refine vc_bipush dX12_openAt_17 rfl ?_
        refine vc_icmp_ge dX12_openAt_19 (fun h4 => ?_) (fun h4 => ?_)
        · refine vc_iload_n dX12_openAt_28 rfl ?_
          refine vc_iret dX12_openAt_29 rfl (Nat.le_of_ble_eq_true rfl) (Nat.le_of_ble_eq_true rfl) ?_
          exact ⟨_, rfl, rfl, by omega, by omega, by omega, by exact g7i1⟩
        · refine vc_iincE dX12_openAt_22 rfl (by omega) (by omega) (by decide) rfl (show _ = [some (aR 54), some (aI (v1 + (-1)))] from rfl) ?_
          refine vc_goto dX12_openAt_25 ?_
          exact ih7 (v1 + (-1)) (by omega) (by omega) (by omega) (by first | (intro q a b; exfalso; omega) | (intro q a b; by_cases e : (q : Int) = v1; (rw [show q = v1.toNat by omega]; omega); (exact g7i1 q (by omega) b))) (by omega)
  exact lp7 _ x2 (by omega) (by omega) (by omega) (by first | (intro q a b; exfalso; omega) | (intro q a b; by_cases e : (q : Int) = v1; (rw [show q = v1.toNat by omega]; omega); (exact g7i1 q (by omega) b))) (Nat.lt_succ_self _)

theorem rk_lt {o : Int} (h : o < 40) : 1 ≤ rkI o := by unfold rkI; rw [if_neg (by omega)]; split; decide; split <;> decide
theorem rk_40 {o : Int} (h : 40 ≤ o) : rkI o = 0 := by unfold rkI; rw [if_pos h]
/-- behind settlePile(1) the open one is the top -/
theorem top_at {M N : Mem} {k : Nat} (h60 : mI N 60 = mI M 60) (hle : mI N 54 18 ≤ mI M 54 18) (h0 : 0 ≤ mI N 54 18) (ht : mI N 54 18 = 0 ∨ rkI (mI N 60 (mI N 54 18 - 1).toNat) < 1) (hp : ∀ q : Nat, mI N 54 18 ≤ q → (q : Int) < mI M 54 18 → 1 ≤ rkI (mI M 60 q)) (hk : (k : Int) < mI M 54 18) (h40 : 40 ≤ mI M 60 k) (hq : ∀ q : Nat, k < q → (q : Int) < mI M 54 18 → mI M 60 q < 40) : mI N 54 18 = (k : Int) + 1 := by
  have a : (k : Int) < mI N 54 18 := by
    by_cases e : mI N 54 18 ≤ k
    · have := hp k e hk
      rw [rk_40 h40] at this
      omega
    · omega
  rcases ht with e | e
  · omega
  · by_cases e2 : mI N 54 18 = (k : Int) + 1
    · exact e2
    · exfalso
      have q := hq (mI N 54 18 - 1).toNat (by omega) (by omega)
      rw [h60] at e
      have := rk_lt q
      omega
theorem top_no {M N : Mem} (h60 : mI N 60 = mI M 60) (hle : mI N 54 18 ≤ mI M 54 18) (h0 : 0 ≤ mI N 54 18) (ht : mI N 54 18 = 0 ∨ rkI (mI N 60 (mI N 54 18 - 1).toNat) < 1) (hq : ∀ q : Nat, (q : Int) < mI M 54 18 → mI M 60 q < 40) : mI N 54 18 = 0 := by
  rcases ht with e | e
  · exact e
  · by_cases e2 : mI N 54 18 = 0
    · exact e2
    · exfalso
      have q := hq (mI N 54 18 - 1).toNat (by omega)
      rw [h60] at e
      have := rk_lt q
      omega
/-! CONTRACTS of the reference: its reader, clauses and texts (written by wip/p35/c88.py) -/
/-! CONTRACTS of the reference: its reader, tellings, laws, clauses and texts (written by wip/p35/c89.py) -/
def CLS (f : Nat → Int) (t0 wr n : Int) : Prop := ∀ k : Nat, (k : Int) < n → wfK f t0.toNat (t0.toNat + 1 + 11 * k) ∧ (0 ≤ f (t0.toNat + 1 + 11 * k) → f (t0.toNat + 1 + 11 * k) ≤ 4 → f (t0.toNat + 1 + 11 * k + 2) ≤ wr)
theorem CLS_add {f g : Nat → Int} {t0 wr wr2 n x : Int} (h : CLS f t0 wr n) (h0 : 0 ≤ t0) (hn0 : 0 ≤ n) (hn : n ≤ 23) (hw0 : 0 ≤ wr) (hw : wr ≤ wr2) (hw3 : wr2 ≤ 300) (hx : x = t0 + 1 + 11 * n) (hf : ∀ j : Nat, (t0 < j ∧ (j : Int) < x ∨ (x + 11 ≤ j ∧ (j : Int) < t0 + 265 + 2 * wr)) → g j = f j)
    (ht : g x.toNat ≠ 10 ∨ (1 ≤ g (x + 3).toNat ∧ g (x + 3).toNat ≤ 6 ∧ 0 ≤ g (x + 2).toNat ∧ g (x + 2).toNat ≤ 3)) (hl : 4 < g x.toNat ∨ (0 ≤ g (x + 1).toNat ∧ g (x + 1).toNat ≤ g (x + 2).toNat ∧ g (x + 2).toNat ≤ wr2)) (hc : g x.toNat ≤ 4 → wfC g (g (x + 2).toNat - g (x + 1).toNat).toNat (t0 + 265 + 2 * g (x + 1).toNat).toNat 0) : CLS g t0 wr2 (n + 1) := by
  intro k hk
  by_cases e : (k : Int) = n
  · have ex : t0.toNat + 1 + 11 * k = x.toNat := by omega
    rw [ex, show x.toNat + 2 = (x + 2).toNat by omega]
    refine ⟨⟨fun q => ?_, fun q0 q4 => ?_⟩, fun q0 q4 => ?_⟩
    · rw [show x.toNat + 3 = (x + 3).toNat by omega, show x.toNat + 2 = (x + 2).toNat by omega]
      rcases ht with z | z
      · exact absurd q z
      · exact z
    · rw [show x.toNat + 1 = (x + 1).toNat by omega, show x.toNat + 2 = (x + 2).toNat by omega]
      rcases hl with z | ⟨z1, z2, z3⟩
      · omega
      · refine ⟨z1, z2, by omega, ?_⟩
        have q := hc q4
        rw [show (t0 + 265 + 2 * g (x + 1).toNat).toNat = t0.toNat + 265 + 2 * (g (x + 1).toNat).toNat by omega] at q
        exact q
    · rcases hl with z | ⟨z1, z2, z3⟩
      · omega
      · exact z3
  · obtain ⟨⟨a, b⟩, c⟩ := h k (by omega)
    have e0 := hf (t0.toNat + 1 + 11 * k) (by omega)
    have e1 := hf (t0.toNat + 1 + 11 * k + 1) (by omega)
    have e2 := hf (t0.toNat + 1 + 11 * k + 2) (by omega)
    have e3 := hf (t0.toNat + 1 + 11 * k + 3) (by omega)
    refine ⟨⟨fun q => ?_, fun q0 q4 => ?_⟩, fun q0 q4 => ?_⟩
    · rw [e0] at q
      rw [e2, e3]
      exact a q
    · rw [e0] at q0 q4
      obtain ⟨b1, b2, b3, b4⟩ := b q0 q4
      have c1 := c q0 q4
      rw [e1, e2]
      exact ⟨b1, b2, b3, wfC_co _ _ _ (fun q y z => hf q (by omega)) b4⟩
    · rw [e0] at q0 q4
      rw [e2]
      have := c q0 q4
      omega
theorem BX.a5 {M0 M : Mem} (h : BX M0 M) {v : Int} (hv : v = mI M 55 5 + 1) (h4 : v ≤ 4) (hw : wfT (mI M 57) (mI M 55 5).toNat) : BX M0 (sI M 55 5 v) := by
  obtain ⟨⟨h1, h2, h3, h4', h5, h6, h7⟩, hd⟩ := h
  have eo : ∀ b, b ≠ 5 → mI (sI M 55 5 v) 55 b = mI M 55 b := fun b hb => by rw [mI_sI, if_neg (fun e => hb e.2)]
  have e0 : mI (sI M 55 5 v) 55 5 = v := mI_same
  have e6 : mI (sI M 55 5 v) 56 = mI M 56 := funext fun b => by rw [mI_sI, if_neg (fun e => by omega)]
  have e7 : mI (sI M 55 5 v) 57 = mI M 57 := funext fun b => by rw [mI_sI, if_neg (fun e => by omega)]
  have hb := (h2 55 5).2.2.2.2.2.1 rfl
  refine ⟨⟨h1, bx_sI h2 (by show aB _ _; unfold aB; refine ⟨?_, ?_, ?_, ?_, ?_, ?_, ?_, ?_, ?_, ?_, ?_, ?_, ?_, ?_, ?_, ?_, ?_, ?_⟩ <;> intros <;> omega), h3.same ((Dz.refl M).sI (by decide)) (fun _ _ _ => rfl), ?_⟩, hd.sI (by decide)⟩
  refine ⟨⟨fun c d hc2 hd2 => ?_, fun t ht => ?_, ?_⟩, by rw [e6]; exact h5, by rw [e6, e0]; omega, fun t ht => ?_⟩
  · rw [eo 0 (by decide)] at hc2 ⊢
    rw [eo _ (by omega)]
    exact h4'.1 c d hc2 hd2
  · rw [eo 3 (by decide)] at ht
    rw [eo _ (by omega)]
    exact h4'.2.1 t ht
  · rw [eo 6 (by decide), e0]
    have := h4'.2.2
    omega
  · rw [e0] at ht
    rw [e7]
    by_cases e : (t : Int) = mI M 55 5
    · rw [show t = (mI M 55 5).toNat by omega]
      exact hw
    · exact h7 t (by omega)
