/-! THE READER of the reference: its pile and the code of a law, as pure facts. -/
/-- the code so far: from d values to e values -/
def wfD (f : Nat → Int) : Nat → Nat → Nat → Nat → Prop
  | 0, _, d, e => d = e
  | n + 1, j, d, e => if f j ≤ 1 then (0 ≤ f j ∧ (f j = 1 → 0 ≤ f (j + 1) ∧ f (j + 1) ≤ 8)) ∧ wfD f n (j + 2) (d + 1) e else if f j = 2 then 1 ≤ d ∧ wfD f n (j + 2) d e else 2 ≤ d ∧ wfD f n (j + 2) (d - 1) e
theorem wfD_C {f : Nat → Int} : ∀ (n j d e : Nat), wfD f n j d e → wfC f n j d
  | 0, _, _, _, _ => trivial
  | n + 1, j, d, e, h => by
    unfold wfD at h
    unfold wfC
    split
    · rename_i q
      rw [if_pos q] at h
      exact ⟨h.1, wfD_C n _ _ _ h.2⟩
    · rename_i q
      rw [if_neg q] at h
      split
      · rename_i q2
        rw [if_pos q2] at h
        exact ⟨h.1, wfD_C n _ _ _ h.2⟩
      · rename_i q2
        rw [if_neg q2] at h
        exact ⟨h.1, wfD_C n _ _ _ h.2⟩
theorem wfC_co {f g : Nat → Int} : ∀ (n j d : Nat), (∀ q, j ≤ q → q < j + 2 * n → g q = f q) → wfC f n j d → wfC g n j d
  | 0, _, _, _, _ => trivial
  | n + 1, j, d, he, h => by
    unfold wfC at h ⊢
    rw [he j (by omega) (by omega), he (j + 1) (by omega) (by omega)]
    split
    · rename_i q
      rw [if_pos q] at h
      exact ⟨h.1, wfC_co n _ _ (fun q a b => he q (by omega) (by omega)) h.2⟩
    · rename_i q
      rw [if_neg q] at h
      split
      · rename_i q2
        rw [if_pos q2] at h
        exact ⟨h.1, wfC_co n _ _ (fun q a b => he q (by omega) (by omega)) h.2⟩
      · rename_i q2
        rw [if_neg q2] at h
        exact ⟨h.1, wfC_co n _ _ (fun q a b => he q (by omega) (by omega)) h.2⟩
theorem wfD_co {f g : Nat → Int} : ∀ (n j d e : Nat), (∀ q, j ≤ q → q < j + 2 * n → g q = f q) → wfD f n j d e → wfD g n j d e
  | 0, _, _, _, _, h => h
  | n + 1, j, d, e, he, h => by
    unfold wfD at h ⊢
    rw [he j (by omega) (by omega), he (j + 1) (by omega) (by omega)]
    split
    · rename_i q
      rw [if_pos q] at h
      exact ⟨h.1, wfD_co n _ _ _ (fun q a b => he q (by omega) (by omega)) h.2⟩
    · rename_i q
      rw [if_neg q] at h
      split
      · rename_i q2
        rw [if_pos q2] at h
        exact ⟨h.1, wfD_co n _ _ _ (fun q a b => he q (by omega) (by omega)) h.2⟩
      · rename_i q2
        rw [if_neg q2] at h
        exact ⟨h.1, wfD_co n _ _ _ (fun q a b => he q (by omega) (by omega)) h.2⟩
/-- what one word of code does to the number of values -/
def stC (o v : Int) (e e2 : Nat) : Prop := (o ≤ 1 ∧ 0 ≤ o ∧ (o = 1 → 0 ≤ v ∧ v ≤ 8) ∧ e2 = e + 1) ∨ (o = 2 ∧ 1 ≤ e ∧ e2 = e) ∨ (3 ≤ o ∧ 2 ≤ e ∧ e2 = e - 1)
theorem wfD_snoc {f : Nat → Int} {o v : Int} {e e2 : Nat} (hs : stC o v e e2) : ∀ (n j d : Nat), f (j + 2 * n) = o → f (j + 2 * n + 1) = v → wfD f n j d e → wfD f (n + 1) j d e2
  | 0, j, d, h1, h2, h => by
    have e1 : d = e := h
    subst e1
    rw [show j + 2 * 0 = j by omega] at h1
    rw [show j + 2 * 0 + 1 = j + 1 by omega] at h2
    unfold wfD
    rcases hs with ⟨a1, a2, a4, a5⟩ | ⟨a1, a2, a3⟩ | ⟨a1, a2, a3⟩
    · rw [if_pos (by omega)]
      exact ⟨⟨by omega, fun q => by have := a4 (by omega); omega⟩, a5.symm⟩
    · rw [if_neg (by omega), if_pos (by omega)]
      exact ⟨a2, a3.symm⟩
    · rw [if_neg (by omega), if_neg (by omega)]
      exact ⟨a2, a3.symm⟩
  | n + 1, j, d, h1, h2, h => by
    have q1 : f (j + 2 + 2 * n) = o := by rw [show j + 2 + 2 * n = j + 2 * (n + 1) by omega]; exact h1
    have q2 : f (j + 2 + 2 * n + 1) = v := by rw [show j + 2 + 2 * n + 1 = j + 2 * (n + 1) + 1 by omega]; exact h2
    rw [wfD.eq_2] at h ⊢
    split
    · rename_i q
      rw [if_pos q] at h
      exact ⟨h.1, wfD_snoc hs n (j + 2) (d + 1) q1 q2 h.2⟩
    · rename_i q
      rw [if_neg q] at h
      split
      · rename_i q3
        rw [if_pos q3] at h
        exact ⟨h.1, wfD_snoc hs n (j + 2) d q1 q2 h.2⟩
      · rename_i q3
        rw [if_neg q3] at h
        exact ⟨h.1, wfD_snoc hs n (j + 2) (d - 1) q1 q2 h.2⟩
def isB (v : Int) : Nat := if 3 ≤ v ∧ v ≤ 6 then 1 else 0
def isO (v : Int) : Nat := if v = 2 ∨ 40 ≤ v then 1 else 0
def isT (v : Int) : Nat := if v = 42 ∨ v = 44 then 1 else 0
def rkT (v : Int) : Nat := if v = 3 ∨ v = 4 then 1 else if v = 5 ∨ v = 6 then 2 else 0
def cB (f : Nat → Int) : Nat → Nat
  | 0 => 0
  | n + 1 => cB f n + isB (f n)
def cO (f : Nat → Int) : Nat → Nat
  | 0 => 0
  | n + 1 => cO f n + isO (f n)
def cT (f : Nat → Int) : Nat → Nat
  | 0 => 0
  | n + 1 => cT f n + isT (f n)
/-- the pile: each is one that may lie there, and two that wait never lie so that a third could -/
def plO (f : Nat → Int) : Nat → Prop
  | 0 => True
  | n + 1 => plO f n ∧ ((2 ≤ f n ∧ f n ≤ 6) ∨ (40 ≤ f n ∧ f n ≤ 44)) ∧ cB f (n + 1) ≤ 2 * cO f (n + 1) + rkT (f n)
theorem cB_co {f g : Nat → Int} : ∀ n : Nat, (∀ q, q < n → g q = f q) → cB g n = cB f n ∧ cO g n = cO f n ∧ cT g n = cT f n
  | 0, _ => ⟨rfl, rfl, rfl⟩
  | n + 1, h => by
    obtain ⟨a, b, c⟩ := cB_co n (fun q hq => h q (by omega))
    unfold cB cO cT
    rw [a, b, c, h n (by omega)]
    exact ⟨rfl, rfl, rfl⟩
theorem plO_co {f g : Nat → Int} : ∀ n : Nat, (∀ q, q < n → g q = f q) → plO f n → plO g n
  | 0, _, _ => trivial
  | n + 1, h, q => by
    obtain ⟨a, b, c⟩ := cB_co (n + 1) h
    unfold plO at q ⊢
    rw [a, b, h n (by omega)]
    exact ⟨plO_co n (fun q hq => h q (by omega)) q.1, q.2⟩
theorem isBO {v : Int} (h : (2 ≤ v ∧ v ≤ 6) ∨ (40 ≤ v ∧ v ≤ 44)) : isB v + isO v = 1 ∧ isT v ≤ isO v ∧ rkT v ≤ 2 ∧ (isB v = 0 → rkT v = 0) := by
  unfold isB isO isT rkT
  refine ⟨?_, ?_, ?_, ?_⟩
  · split <;> split <;> omega
  · split <;> split <;> omega
  · split
    · decide
    · split <;> decide
  · split
    · intro h2; exact absurd h2 (by decide)
    · intro _
      rw [if_neg (by omega), if_neg (by omega)]
theorem pl_len {f : Nat → Int} : ∀ n : Nat, plO f n → cB f n + cO f n = n ∧ cT f n ≤ cO f n ∧ cB f n ≤ 2 * cO f n + 2
  | 0, _ => ⟨rfl, Nat.le_refl _, Nat.zero_le _⟩
  | n + 1, h => by
    obtain ⟨a, b, c⟩ := pl_len n h.1
    obtain ⟨i1, i2, i3, i4⟩ := isBO h.2.1
    have q := h.2.2
    have e1 : cB f (n + 1) = cB f n + isB (f n) := rfl
    have e2 : cO f (n + 1) = cO f n + isO (f n) := rfl
    have e3 : cT f (n + 1) = cT f n + isT (f n) := rfl
    omega
/-- the reader in a law: texts, pile; where the text begins, written, piled, opens, whole, place; where the law began -/
def PIs (f g : Nat → Int) (t0 wr pd op wh pl S : Int) : Prop := 0 ≤ t0 ∧ 0 ≤ S ∧ S ≤ wr ∧ 0 ≤ pd ∧ wr + pd ≤ pl ∧ pl ≤ 300 ∧ plO g pd.toNat ∧ op = cO g pd.toNat ∧ op ≤ 8 ∧ (wh = 0 ∨ wh = 1) ∧ wfD f (wr - S).toNat (t0 + 265 + 2 * S).toNat 0 (cB g pd.toNat + cT g pd.toNat + wh.toNat)
theorem PIs.len {f g : Nat → Int} {t0 wr pd op wh pl S : Int} (h : PIs f g t0 wr pd op wh pl S) : pd ≤ 26 ∧ 0 ≤ wr ∧ wr + pd ≤ pl ∧ pl ≤ 300 ∧ 0 ≤ pd ∧ 0 ≤ op ∧ op ≤ 8 ∧ (wh = 0 ∨ wh = 1) := by
  obtain ⟨h0, h1, h2, h3, h4, h5, h6, h7, h8, h9, h10⟩ := h
  have q := pl_len _ h6
  exact ⟨by omega, by omega, h4, h5, h3, by omega, h8, h9⟩
theorem PIs.cast {f g f2 g2 : Nat → Int} {t0 wr pd op wh pl S t02 wr2 pd2 op2 wh2 pl2 : Int} (h : PIs f g t0 wr pd op wh pl S) (e1 : f2 = f) (e2 : g2 = g) (a : t02 = t0) (b : wr2 = wr) (c : pd2 = pd) (d : op2 = op) (e : wh2 = wh) (p : pl ≤ pl2) (q : pl2 ≤ 300) : PIs f2 g2 t02 wr2 pd2 op2 wh2 pl2 S := by
  subst e1 e2 a b c d e
  obtain ⟨h0, h1, h2, h3, h4, h5, h6, h7, h8, h9, h10⟩ := h
  exact ⟨h0, h1, h2, h3, by omega, q, h6, h7, h8, h9, h10⟩
/-- the pile may be another above its top -/
theorem PIs.pile {f g g2 : Nat → Int} {t0 wr pd op wh pl S : Int} (h : PIs f g t0 wr pd op wh pl S) (hg : ∀ q : Nat, (q : Int) < pd → g2 q = g q) : PIs f g2 t0 wr pd op wh pl S := by
  obtain ⟨h0, h1, h2, h3, h4, h5, h6, h7, h8, h9, h10⟩ := h
  obtain ⟨a, b, c⟩ := cB_co (f := g) (g := g2) pd.toNat (fun q hq => hg q (by omega))
  exact ⟨h0, h1, h2, h3, h4, h5, plO_co _ (fun q hq => hg q (by omega)) h6, by rw [b]; exact h7, h8, h9, by rw [a, c]; exact h10⟩
/-- one word of code more -/
theorem wfD_emit {f : Nat → Int} {M : Mem} {t0 wr S : Int} {d e : Nat} {o v : Int} (h0 : 0 ≤ t0) (hS : 0 ≤ S) (hw : S ≤ wr) (h : wfD (mI M 57) (wr - S).toNat (t0 + 265 + 2 * S).toNat 0 d) (hs : stC o v d e) (hf : f = mI (sI (sI M 57 (t0 + 265 + 2 * wr).toNat o) 57 (t0 + 265 + 2 * wr + 1).toNat v) 57) : wfD f (wr + 1 - S).toNat (t0 + 265 + 2 * S).toNat 0 e := by
  subst hf
  rw [show (wr + 1 - S).toNat = (wr - S).toNat + 1 by omega]
  refine wfD_snoc hs _ _ _ ?_ ?_ (wfD_co _ _ _ _ (fun q a b => ?_) h)
  · rw [mI_sI, if_neg (fun e => by omega), mI_sI, if_pos (by omega)]
  · rw [mI_sI, if_pos (by omega)]
  · rw [mI_sI, if_neg (fun e => by omega), mI_sI, if_neg (fun e => by omega)]
theorem cB_s (f : Nat → Int) (n : Nat) : cB f (n + 1) = cB f n + isB (f n) := rfl
theorem cO_s (f : Nat → Int) (n : Nat) : cO f (n + 1) = cO f n + isO (f n) := rfl
theorem cT_s (f : Nat → Int) (n : Nat) : cT f (n + 1) = cT f n + isT (f n) := rfl
/-- the top goes out as code -/
theorem PIs.pop {f g : Nat → Int} {M : Mem} {t0 wr pd op pl S : Int} {o : Int} (h : PIs (mI M 57) g t0 wr pd op 1 pl S) (hp : 1 ≤ pd) (ho : o = g (pd - 1).toNat) (h6 : o ≤ 6) (hf : f = mI (sI (sI M 57 (t0 + 265 + 2 * wr).toNat o) 57 (t0 + 265 + 2 * wr + 1).toNat 0) 57) : PIs f g t0 (wr + 1) (pd - 1) (if o = 2 then op - 1 else op) 1 pl S := by
  obtain ⟨h0, h1, h2, h3, h4, h5, hpl, h7, h8, h9, h10⟩ := h
  rw [show pd.toNat = (pd - 1).toNat + 1 by omega] at hpl h7 h10
  have hpl2 := hpl
  unfold plO at hpl2
  obtain ⟨p1, p2, p3⟩ := hpl2
  rw [← ho] at p2
  rw [cO_s, ← ho] at h7
  rw [cB_s, cT_s, ← ho] at h10
  have it : isT o = 0 := by unfold isT; rw [if_neg (by omega)]
  refine ⟨h0, h1, by omega, by omega, by omega, h5, p1, ?_, ?_, Or.inr rfl, wfD_emit h0 h1 h2 h10 ?_ hf⟩
  · unfold isO at h7
    split at h7
    · rw [if_pos (by omega)]; omega
    · rw [if_neg (by omega)]; omega
  · split <;> omega
  · by_cases e2 : o = 2
    · right; left
      have ib : isB o = 0 := by unfold isB; rw [if_neg (by omega)]
      rw [ib, it]
      exact ⟨e2, by show 1 ≤ _ + 1; omega, by omega⟩
    · right; right
      have ib : isB o = 1 := by unfold isB; rw [if_pos (by omega)]
      rw [ib, it]
      refine ⟨by omega, ?_, ?_⟩
      · show 2 ≤ _ + 1
        omega
      · show _ + 1 = _ + 1 - 1
        omega
/-- a number, a name -/
theorem PIs.num {f g : Nat → Int} {M : Mem} {t0 wr pd op pl pl2 S : Int} {o v : Int} (h : PIs (mI M 57) g t0 wr pd op 0 pl S) (ho : o = 0 ∨ o = 1) (hv8 : o = 1 → 0 ≤ v ∧ v ≤ 8) (hp : pl + 1 ≤ pl2) (hp2 : pl2 ≤ 300) (hf : f = mI (sI (sI M 57 (t0 + 265 + 2 * wr).toNat o) 57 (t0 + 265 + 2 * wr + 1).toNat v) 57) : PIs f g t0 (wr + 1) pd op 1 pl2 S := by
  obtain ⟨h0, h1, h2, h3, h4, h5, hpl, h7, h8, h9, h10⟩ := h
  refine ⟨h0, h1, by omega, h3, by omega, hp2, hpl, h7, h8, Or.inr rfl, wfD_emit h0 h1 h2 h10 (Or.inl ⟨by omega, by omega, hv8, ?_⟩) hf⟩
  show _ + 1 = _ + 0 + 1
  omega
theorem tg_same {M : Mem} {k : Nat} {o : Int} : mI (sI M 60 k o) 60 k = o := mI_same
/-- an open one more -/
theorem PIs.opn {f : Nat → Int} {M : Mem} {t0 wr pd op pl pl2 S : Int} {o : Int} (h : PIs f (mI M 60) t0 wr pd op 0 pl S) (ho : o = 2 ∨ o = 40 ∨ o = 41 ∨ o = 43) (h8 : op + 1 ≤ 8) (hp : pl + 1 ≤ pl2) (hp2 : pl2 ≤ 300) : PIs f (mI (sI M 60 pd.toNat o) 60) t0 wr (pd + 1) (op + 1) 0 pl2 S := by
  obtain ⟨h0, h1, h2, h3, h4, h5, hpl, h7, h9, h10, h11⟩ := h
  have hs : ∀ q, q < pd.toNat → mI (sI M 60 pd.toNat o) 60 q = mI M 60 q := fun q hq => by rw [mI_sI, if_neg (fun e => by omega)]
  obtain ⟨a, b, c⟩ := cB_co (f := mI M 60) (g := mI (sI M 60 pd.toNat o) 60) pd.toNat hs
  have io : isO o = 1 := by unfold isO; rw [if_pos (by omega)]
  have ib : isB o = 0 := by unfold isB; rw [if_neg (by omega)]
  have it : isT o = 0 := by unfold isT; rw [if_neg (by omega)]
  have pl := pl_len _ hpl
  rw [PIs, show (pd + 1).toNat = pd.toNat + 1 by omega]
  refine ⟨h0, h1, h2, by omega, by omega, hp2, ⟨plO_co _ hs hpl, ?_, ?_⟩, ?_, h8, h10, ?_⟩
  · rw [tg_same]; omega
  · rw [cB_s, cO_s, tg_same, a, b, io, ib]; omega
  · rw [cO_s, tg_same, b, io]; omega
  · rw [cB_s, cT_s, tg_same, a, c, ib, it]; exact h11
/-- one of two sides more -/
theorem PIs.bin {f : Nat → Int} {M : Mem} {t0 wr pd op pl pl2 S : Int} {o : Int} (h : PIs f (mI M 60) t0 wr pd op 1 pl S) (ho : 3 ≤ o ∧ o ≤ 6) (ht : pd = 0 ∨ rkT (mI M 60 (pd - 1).toNat) < rkT o ∧ mI M 60 (pd - 1).toNat ≠ 2) (hp : pl + 1 ≤ pl2) (hp2 : pl2 ≤ 300) : PIs f (mI (sI M 60 pd.toNat o) 60) t0 wr (pd + 1) op 0 pl2 S := by
  obtain ⟨h0, h1, h2, h3, h4, h5, hpl, h7, h9, h10, h11⟩ := h
  have hs : ∀ q, q < pd.toNat → mI (sI M 60 pd.toNat o) 60 q = mI M 60 q := fun q hq => by rw [mI_sI, if_neg (fun e => by omega)]
  obtain ⟨a, b, c⟩ := cB_co (f := mI M 60) (g := mI (sI M 60 pd.toNat o) 60) pd.toNat hs
  have io : isO o = 0 := by unfold isO; rw [if_neg (by omega)]
  have ib : isB o = 1 := by unfold isB; rw [if_pos (by omega)]
  have it : isT o = 0 := by unfold isT; rw [if_neg (by omega)]
  have rk : 1 ≤ rkT o := by
    unfold rkT
    split
    · decide
    · rw [if_pos (by omega)]; decide
  have key : cB (mI M 60) pd.toNat + 1 ≤ 2 * cO (mI M 60) pd.toNat + rkT o := by
    rcases ht with e | e
    · rw [e]
      show 0 + 1 ≤ 2 * 0 + rkT o
      omega
    · by_cases e0 : pd = 0
      · rw [e0]
        show 0 + 1 ≤ 2 * 0 + rkT o
        omega
      · rw [show pd.toNat = (pd - 1).toNat + 1 by omega] at hpl ⊢
        have q := hpl.2.2
        omega
  rw [PIs, show (pd + 1).toNat = pd.toNat + 1 by omega]
  refine ⟨h0, h1, h2, by omega, by omega, hp2, ⟨plO_co _ hs hpl, ?_, ?_⟩, ?_, h9, Or.inl rfl, ?_⟩
  · rw [tg_same]; omega
  · rw [cB_s, cO_s, tg_same, a, b, io, ib]; omega
  · rw [cO_s, tg_same, b, io]; omega
  · rw [cB_s, cT_s, tg_same, a, c, ib, it]
    rw [show cB (mI M 60) pd.toNat + 1 + (cT (mI M 60) pd.toNat + 0) + Int.toNat 0 = cB (mI M 60) pd.toNat + cT (mI M 60) pd.toNat + Int.toNat 1 by show _ + 1 + (_ + 0) + 0 = _ + _ + 1; omega]
    exact h11
/-- the second of two -/
theorem PIs.two {f : Nat → Int} {M : Mem} {t0 wr pd op pl pl2 S : Int} {o : Int} (h : PIs f (mI M 60) t0 wr pd op 1 pl S) (hp1 : 1 ≤ pd) (ho : mI M 60 (pd - 1).toNat = o) (ho2 : o = 41 ∨ o = 43) (hp : pl ≤ pl2) (hp2 : pl2 ≤ 300) : PIs f (mI (sI M 60 (pd - 1).toNat (o + 1)) 60) t0 wr pd op 0 pl2 S := by
  obtain ⟨h0, h1, h2, h3, h4, h5, hpl, h7, h9, h10, h11⟩ := h
  have hs : ∀ q, q < (pd - 1).toNat → mI (sI M 60 (pd - 1).toNat (o + 1)) 60 q = mI M 60 q := fun q hq => by rw [mI_sI, if_neg (fun e => by omega)]
  obtain ⟨a, b, c⟩ := cB_co (f := mI M 60) (g := mI (sI M 60 (pd - 1).toNat (o + 1)) 60) (pd - 1).toNat hs
  rw [show pd.toNat = (pd - 1).toNat + 1 by omega] at hpl h7 h11
  have io : isO o = 1 := by unfold isO; rw [if_pos (by omega)]
  have ib : isB o = 0 := by unfold isB; rw [if_neg (by omega)]
  have it : isT o = 0 := by unfold isT; rw [if_neg (by omega)]
  have jo : isO (o + 1) = 1 := by unfold isO; rw [if_pos (by omega)]
  have jb : isB (o + 1) = 0 := by unfold isB; rw [if_neg (by omega)]
  have jt : isT (o + 1) = 1 := by unfold isT; rw [if_pos (by omega)]
  have rk : rkT o = 0 := by unfold rkT; rw [if_neg (by omega), if_neg (by omega)]
  have q := hpl.2.2
  rw [cB_s, cO_s, ho, ib, io, rk] at q
  rw [cO_s, ho, io] at h7
  rw [cB_s, cT_s, ho, ib, it] at h11
  rw [PIs, show pd.toNat = (pd - 1).toNat + 1 by omega]
  refine ⟨h0, h1, h2, by omega, by omega, hp2, ⟨plO_co _ hs hpl.1, ?_, ?_⟩, ?_, h9, Or.inl rfl, ?_⟩
  · rw [tg_same]; omega
  · rw [cB_s, cO_s, tg_same, a, b, jo, jb]; omega
  · rw [cO_s, tg_same, b, jo]; omega
  · rw [cB_s, cT_s, tg_same, a, c, jb, jt]
    rw [show cB (mI M 60) (pd - 1).toNat + 0 + (cT (mI M 60) (pd - 1).toNat + 1) + Int.toNat 0 = cB (mI M 60) (pd - 1).toNat + 0 + (cT (mI M 60) (pd - 1).toNat + 0) + Int.toNat 1 by show _ + 0 + (_ + 1) + 0 = _ + 0 + (_ + 0) + 1; omega]
    exact h11
/-- one in round brackets is shut -/
theorem PIs.par {f g : Nat → Int} {t0 wr pd op pl S : Int} (h : PIs f g t0 wr pd op 1 pl S) (hp1 : 1 ≤ pd) (ho : g (pd - 1).toNat = 40) : PIs f g t0 wr (pd - 1) (op - 1) 1 pl S := by
  obtain ⟨h0, h1, h2, h3, h4, h5, hpl, h7, h9, h10, h11⟩ := h
  rw [show pd.toNat = (pd - 1).toNat + 1 by omega] at hpl h7 h11
  rw [cO_s, ho] at h7
  rw [cB_s, cT_s, ho] at h11
  exact ⟨h0, h1, h2, by omega, by omega, h5, hpl.1, by have : isO 40 = 1 := rfl; omega, by omega, h10, h11⟩
/-- least and most are shut -/
theorem PIs.end {f g : Nat → Int} {M : Mem} {t0 wr pd op pl S : Int} {o o2 : Int} (h : PIs (mI M 57) g t0 wr pd op 1 pl S) (hp1 : 1 ≤ pd) (ho : g (pd - 1).toNat = o) (ho2 : o = 42 ∨ o = 44) (h3o : 3 ≤ o2) (hf : f = mI (sI (sI M 57 (t0 + 265 + 2 * wr).toNat o2) 57 (t0 + 265 + 2 * wr + 1).toNat 0) 57) : PIs f g t0 (wr + 1) (pd - 1) (op - 1) 1 pl S := by
  obtain ⟨h0, h1, h2, h3, h4, h5, hpl, h7, h9, h10, h11⟩ := h
  rw [show pd.toNat = (pd - 1).toNat + 1 by omega] at hpl h7 h11
  have io : isO o = 1 := by unfold isO; rw [if_pos (by omega)]
  have ib : isB o = 0 := by unfold isB; rw [if_neg (by omega)]
  have it : isT o = 1 := by unfold isT; rw [if_pos (by omega)]
  rw [cO_s, ho, io] at h7
  rw [cB_s, cT_s, ho, ib, it] at h11
  refine ⟨h0, h1, by omega, by omega, by omega, h5, hpl.1, by omega, by omega, h10, wfD_emit h0 h1 h2 h11 (Or.inr (Or.inr ⟨h3o, ?_, ?_⟩)) hf⟩
  · show 2 ≤ _ + 0 + (_ + 1) + 1
    omega
  · show _ + _ + 1 = _ + 0 + (_ + 1) + 1 - 1
    omega
/-- the pile is empty, the sum whole -/
theorem PIs.fin {f g : Nat → Int} {t0 wr op wh pl S : Int} (h : PIs f g t0 wr 0 op wh pl S) : wfC f (wr - S).toNat (t0 + 265 + 2 * S).toNat 0 := wfD_C _ _ _ _ h.2.2.2.2.2.2.2.2.2.2
theorem PIs.new {f g : Nat → Int} {t0 wr pl : Int} (h0 : 0 ≤ t0) (h1 : 0 ≤ wr) (h2 : wr ≤ pl) (h3 : pl ≤ 300) : PIs f g t0 wr 0 0 0 pl wr := ⟨h0, h1, Int.le_refl _, by decide, by omega, h3, trivial, rfl, by decide, Or.inl rfl, by rw [Int.sub_self]; rfl⟩
/-- the reader in a law, in a memory -/
def PI (M : Mem) (S : Int) : Prop := PIs (mI M 57) (mI M 60) (mI M 54 14) (mI M 54 15) (mI M 54 18) (mI M 54 19) (mI M 54 20) (mI M 54 10) S
def rkI (o : Int) : Int := if 40 ≤ o then 0 else if o = 2 then 3 else if 5 ≤ o then 2 else 1
theorem PI.len {M : Mem} {S : Int} (h : PI M S) : mI M 54 18 ≤ 26 ∧ 0 ≤ mI M 54 15 ∧ mI M 54 15 + mI M 54 18 ≤ mI M 54 10 ∧ mI M 54 10 ≤ 300 ∧ 0 ≤ mI M 54 18 ∧ 0 ≤ mI M 54 19 ∧ mI M 54 19 ≤ 8 ∧ (mI M 54 20 = 0 ∨ mI M 54 20 = 1) ∧ 0 ≤ S ∧ S ≤ mI M 54 15 := by
  obtain ⟨a, b, c, d, e, f, g, i⟩ := PIs.len h
  exact ⟨a, b, c, d, e, f, g, i, h.2.1, h.2.2.1⟩
theorem PI.top {M : Mem} {S : Int} (h : PI M S) (h1 : 1 ≤ mI M 54 18) : (2 ≤ mI M 60 (mI M 54 18 - 1).toNat ∧ mI M 60 (mI M 54 18 - 1).toNat ≤ 6) ∨ (40 ≤ mI M 60 (mI M 54 18 - 1).toNat ∧ mI M 60 (mI M 54 18 - 1).toNat ≤ 44) := by
  have q := h.2.2.2.2.2.2.1
  rw [show (mI M 54 18).toNat = (mI M 54 18 - 1).toNat + 1 by omega] at q
  exact q.2.1
theorem PI.tok {M N : Mem} {S : Int} (h : PI M S) (e57 : mI N 57 = mI M 57) (e60 : mI N 60 = mI M 60) (e14 : mI N 54 14 = mI M 54 14) (e15 : mI N 54 15 = mI M 54 15) (e18 : mI N 54 18 = mI M 54 18) (e19 : mI N 54 19 = mI M 54 19) (e20 : mI N 54 20 = mI M 54 20) (p : mI M 54 10 ≤ mI N 54 10) (q : mI N 54 10 ≤ 300) : PI N S := PIs.cast h e57 e60 e14 e15 e18 e19 e20 p q
theorem PI.pop {M N : Mem} {S o : Int} (h : PI M S) (hw : mI M 54 20 = 1) (hp : 1 ≤ mI M 54 18) (ho : o = mI M 60 (mI M 54 18 - 1).toNat) (h6 : o ≤ 6) (e57 : mI N 57 = mI (sI (sI M 57 (mI M 54 14 + 265 + 2 * mI M 54 15).toNat o) 57 (mI M 54 14 + 265 + 2 * mI M 54 15 + 1).toNat 0) 57) (e60 : mI N 60 = mI M 60) (e14 : mI N 54 14 = mI M 54 14) (e15 : mI N 54 15 = mI M 54 15 + 1) (e18 : mI N 54 18 = mI M 54 18 - 1) (e19 : mI N 54 19 = if o = 2 then mI M 54 19 - 1 else mI M 54 19) (e20 : mI N 54 20 = 1) (p : mI M 54 10 ≤ mI N 54 10) (q : mI N 54 10 ≤ 300) : PI N S := by
  unfold PI at h
  rw [hw] at h
  exact PIs.cast (PIs.pop h hp ho h6 e57) rfl e60 e14 e15 e18 e19 e20 p q
theorem PI.num {M N : Mem} {S o v : Int} (h : PI M S) (hw : mI M 54 20 = 0) (ho : o = 0 ∨ o = 1) (hv : o = 1 → 0 ≤ v ∧ v ≤ 8) (e57 : mI N 57 = mI (sI (sI M 57 (mI M 54 14 + 265 + 2 * mI M 54 15).toNat o) 57 (mI M 54 14 + 265 + 2 * mI M 54 15 + 1).toNat v) 57) (e60 : mI N 60 = mI M 60) (e14 : mI N 54 14 = mI M 54 14) (e15 : mI N 54 15 = mI M 54 15 + 1) (e18 : mI N 54 18 = mI M 54 18) (e19 : mI N 54 19 = mI M 54 19) (e20 : mI N 54 20 = 1) (p : mI M 54 10 + 1 ≤ mI N 54 10) (q : mI N 54 10 ≤ 300) : PI N S := by
  unfold PI at h
  rw [hw] at h
  exact PIs.cast (PIs.num h ho hv p q e57) rfl e60 e14 e15 e18 e19 e20 (Int.le_refl _) q
theorem PI.opn {M N : Mem} {S o : Int} (h : PI M S) (hw : mI M 54 20 = 0) (ho : o = 2 ∨ o = 40 ∨ o = 41 ∨ o = 43) (h8 : mI M 54 19 + 1 ≤ 8) (e57 : mI N 57 = mI M 57) (e60 : mI N 60 = mI (sI M 60 (mI M 54 18).toNat o) 60) (e14 : mI N 54 14 = mI M 54 14) (e15 : mI N 54 15 = mI M 54 15) (e18 : mI N 54 18 = mI M 54 18 + 1) (e19 : mI N 54 19 = mI M 54 19 + 1) (e20 : mI N 54 20 = 0) (p : mI M 54 10 + 1 ≤ mI N 54 10) (q : mI N 54 10 ≤ 300) : PI N S := by
  unfold PI at h
  rw [hw] at h
  exact PIs.cast (PIs.opn h ho h8 p q) e57 e60 e14 e15 e18 e19 e20 (Int.le_refl _) q
theorem PI.bin {M N : Mem} {S o : Int} (h : PI M S) (hw : mI M 54 20 = 1) (ho : 3 ≤ o ∧ o ≤ 6) (ht : mI M 54 18 = 0 ∨ rkI (mI M 60 (mI M 54 18 - 1).toNat) < rkI o) (e57 : mI N 57 = mI M 57) (e60 : mI N 60 = mI (sI M 60 (mI M 54 18).toNat o) 60) (e14 : mI N 54 14 = mI M 54 14) (e15 : mI N 54 15 = mI M 54 15) (e18 : mI N 54 18 = mI M 54 18 + 1) (e19 : mI N 54 19 = mI M 54 19) (e20 : mI N 54 20 = 0) (p : mI M 54 10 + 1 ≤ mI N 54 10) (q : mI N 54 10 ≤ 300) : PI N S := by
  have hl := h.len
  have ht2 : mI M 54 18 = 0 ∨ rkT (mI M 60 (mI M 54 18 - 1).toNat) < rkT o ∧ mI M 60 (mI M 54 18 - 1).toNat ≠ 2 := by
    by_cases e0 : mI M 54 18 = 0
    · exact Or.inl e0
    · right
      have t := h.top (by omega)
      rcases ht with e | e
      · exact absurd e e0
      · unfold rkI at e
        unfold rkT
        refine ⟨?_, ?_⟩
        · repeat' split at e
          all_goals first | (exfalso; omega) | skip
          all_goals (repeat' split) <;> first | omega | (exfalso; omega)
        · intro q2
          rw [q2] at e
          repeat' split at e
          all_goals omega
  unfold PI at h
  rw [hw] at h
  exact PIs.cast (PIs.bin h ho ht2 p q) e57 e60 e14 e15 e18 e19 e20 (Int.le_refl _) q
theorem PI.two {M N : Mem} {S o : Int} (h : PI M S) (hw : mI M 54 20 = 1) (hp : 1 ≤ mI M 54 18) (ho : mI M 60 (mI M 54 18 - 1).toNat = o) (ho2 : o = 41 ∨ o = 43) (e57 : mI N 57 = mI M 57) (e60 : mI N 60 = mI (sI M 60 (mI M 54 18 - 1).toNat (o + 1)) 60) (e14 : mI N 54 14 = mI M 54 14) (e15 : mI N 54 15 = mI M 54 15) (e18 : mI N 54 18 = mI M 54 18) (e19 : mI N 54 19 = mI M 54 19) (e20 : mI N 54 20 = 0) (p : mI M 54 10 ≤ mI N 54 10) (q : mI N 54 10 ≤ 300) : PI N S := by
  unfold PI at h
  rw [hw] at h
  exact PIs.cast (PIs.two h hp ho ho2 p q) e57 e60 e14 e15 e18 e19 e20 (Int.le_refl _) q
theorem PI.par {M N : Mem} {S : Int} (h : PI M S) (hw : mI M 54 20 = 1) (hp : 1 ≤ mI M 54 18) (ho : mI M 60 (mI M 54 18 - 1).toNat = 40) (e57 : mI N 57 = mI M 57) (e60 : mI N 60 = mI M 60) (e14 : mI N 54 14 = mI M 54 14) (e15 : mI N 54 15 = mI M 54 15) (e18 : mI N 54 18 = mI M 54 18 - 1) (e19 : mI N 54 19 = mI M 54 19 - 1) (e20 : mI N 54 20 = 1) (p : mI M 54 10 ≤ mI N 54 10) (q : mI N 54 10 ≤ 300) : PI N S := by
  unfold PI at h
  rw [hw] at h
  exact PIs.cast (PIs.par h hp ho) e57 e60 e14 e15 e18 e19 e20 p q
theorem PI.end {M N : Mem} {S o o2 : Int} (h : PI M S) (hw : mI M 54 20 = 1) (hp : 1 ≤ mI M 54 18) (ho : mI M 60 (mI M 54 18 - 1).toNat = o) (ho2 : o = 42 ∨ o = 44) (h3 : 3 ≤ o2) (e57 : mI N 57 = mI (sI (sI M 57 (mI M 54 14 + 265 + 2 * mI M 54 15).toNat o2) 57 (mI M 54 14 + 265 + 2 * mI M 54 15 + 1).toNat 0) 57) (e60 : mI N 60 = mI M 60) (e14 : mI N 54 14 = mI M 54 14) (e15 : mI N 54 15 = mI M 54 15 + 1) (e18 : mI N 54 18 = mI M 54 18 - 1) (e19 : mI N 54 19 = mI M 54 19 - 1) (e20 : mI N 54 20 = 1) (p : mI M 54 10 ≤ mI N 54 10) (q : mI N 54 10 ≤ 300) : PI N S := by
  unfold PI at h
  rw [hw] at h
  exact PIs.cast (PIs.end h hp ho ho2 h3 e57) rfl e60 e14 e15 e18 e19 e20 p q
theorem PI.fin {M : Mem} {S : Int} (h : PI M S) (hp : mI M 54 18 = 0) : wfC (mI M 57) (mI M 54 15 - S).toNat (mI M 54 14 + 265 + 2 * S).toNat 0 := by
  unfold PI at h
  rw [hp] at h
  exact PIs.fin h
theorem PI.new {M : Mem} (h0 : 0 ≤ mI M 54 14) (h1 : 0 ≤ mI M 54 15) (h2 : mI M 54 15 ≤ mI M 54 10) (h3 : mI M 54 10 ≤ 300) (a : mI M 54 18 = 0) (b : mI M 54 19 = 0) (c : mI M 54 20 = 0) : PI M (mI M 54 15) := by
  unfold PI
  rw [a, b, c]
  exact PIs.new h0 h1 h2 h3
theorem wfT_co {f g : Nat → Int} {t : Nat} (he : ∀ j, j < 873 * (t + 1) → g j = f j) (h : wfT f t) : wfT g t := by
  obtain ⟨h1, h2, h3⟩ := h
  refine ⟨by rw [he _ (by omega)]; exact h1, by rw [he _ (by omega)]; exact h2, fun k hk => ?_⟩
  rw [he _ (by omega)] at hk
  obtain ⟨a, b⟩ := h3 k hk
  refine ⟨fun e => ?_, fun e0 e1 => ?_⟩
  · rw [he _ (by omega)] at e
    rw [he _ (by omega), he _ (by omega)]
    exact a e
  · rw [he _ (by omega)] at e0 e1
    obtain ⟨b1, b2, b3, b4⟩ := b e0 e1
    rw [he _ (by omega), he _ (by omega)]
    refine ⟨b1, b2, b3, wfC_co _ _ _ (fun q x y => he q (by omega)) b4⟩
theorem BX.x57 {M0 M : Mem} (h : BX M0 M) {x v : Int} (hx : 873 * mI M 55 5 ≤ x) : BX M0 (sI M 57 x.toNat v) := by
  obtain ⟨⟨h1, h2, h3, h4, h5, h6, h7⟩, hd⟩ := h
  have e5 : mI (sI M 57 x.toNat v) 55 = mI M 55 := funext fun b => by rw [mI_sI, if_neg (fun e => by omega)]
  have e6 : mI (sI M 57 x.toNat v) 56 = mI M 56 := funext fun b => by rw [mI_sI, if_neg (fun e => by omega)]
  refine ⟨⟨h1, bx_sI h2 trivial, h3.same ((Dz.refl M).sI (by decide)) (fun _ _ _ => rfl), ?_, ?_, ?_, fun t ht => ?_⟩, hd.sI (by decide)⟩
  · rw [e5]; exact h4
  · rw [e6]; exact h5
  · rw [e5, e6]; exact h6
  · rw [e5] at ht
    exact wfT_co (fun j hj => by rw [mI_sI, if_neg (fun e => by omega)]) (h7 t ht)

theorem BF.x57 {f : Nat → Nat → Bool} {A M : Mem} (h : BF f A M) {x v : Int} (hx : 873 * mI M 55 5 ≤ x) (hf : ∀ i, f 57 i = false := by exact fun _ => rfl) : BF f A (sI M 57 x.toNat v) := h.of ((BX.start h.1).x57 hx) (FzF.sI (hf _)) (fun _ _ => rfl) (fun j hj => by rw [mI_sI, if_neg (fun e => by omega)])
