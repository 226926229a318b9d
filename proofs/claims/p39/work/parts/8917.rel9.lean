/-! THE RELATION of the reference's row to town and walk of the class -/
def aCo (a : Nat → Int) (s : Sw) : Prop := ∀ c : Nat, (c : Int) < s 1 6 → a (10 + 9 * c) = s 2 c ∧ ∀ d : Nat, d < 4 → a (10 + 9 * c + 1 + d) = s 3 (4 * c + d) ∧ a (10 + 9 * c + 5 + d) = if s 3 (4 * c + d) = -1 then -1 else s 4 (4 * c + d)
def aTe (a : Nat → Int) (s : Sw) : Prop := ∀ t : Nat, (t : Int) < s 1 8 → ∀ j : Nat, j < 4 → a (154 + 5 * t + j) = s 5 (4 * t + j)
def aTg (a : Nat → Int) (s : Sw) : Prop := ∀ t : Nat, (t : Int) < s 1 9 → (a (184 + 9 * t) = s 6 (9 * t) ∧ a (184 + 9 * t + 1) = s 6 (9 * t + 1) ∧ a (184 + 9 * t + 2) = s 6 (9 * t + 2)) ∧ ∀ i : Nat, (i : Int) < s 6 (9 * t + 2) → a (184 + 9 * t + 3 + i) = s 6 (9 * t + 3 + i)
def wTo (s : Sw) : Prop := (∀ j : Nat, 4 * s 1 6 ≤ (j : Int) → j < 64 → s 3 j = -1) ∧ (∀ j : Nat, j < 64 → -1 ≤ s 3 j ∧ s 3 j < s 1 6) ∧ ∀ j : Nat, s 4 j = 0 ∨ s 4 j = 1
def wTe (s : Sw) : Prop := ∀ t : Nat, (t : Int) < s 1 8 → 0 ≤ s 5 (4 * t) ∧ s 5 (4 * t) < s 1 6
def wTg (s : Sw) : Prop := ∀ t : Nat, (t : Int) < s 1 9 → 0 ≤ s 6 (9 * t) ∧ s 6 (9 * t) < s 1 8 ∧ 0 ≤ s 6 (9 * t + 1) ∧ s 6 (9 * t + 1) ≤ 3 ∧ 1 ≤ s 6 (9 * t + 2) ∧ s 6 (9 * t + 2) ≤ 6 ∧ ∀ i : Nat, (i : Int) < s 6 (9 * t + 2) → isTu (s 6 (9 * t + 3 + i))
def wSc (s : Sw) : Prop := 0 ≤ s 1 6 ∧ s 1 6 ≤ 16 ∧ 0 ≤ s 1 8 ∧ s 1 8 ≤ 6 ∧ 0 ≤ s 1 9 ∧ s 1 9 ≤ 8 ∧ -1 ≤ s 1 7 ∧ s 1 7 < s 1 6 ∧ 0 ≤ s 1 10 ∧ s 1 10 ≤ 4 ∧ -1 ≤ s 1 11 ∧ s 1 11 < s 1 10
def aSc (a : Nat → Int) (s : Sw) : Prop := a 0 = s 1 6 ∧ a 1 = s 1 7 ∧ a 2 = s 1 8 ∧ a 3 = s 1 9 ∧ a 5 = s 1 10 ∧ a 6 = s 1 11
/-- the town -/
def TA (a : Nat → Int) (s : Sw) : Prop := aSc a s ∧ aCo a s ∧ aTe a s ∧ aTg a s ∧ wTo s ∧ wTe s ∧ wTg s ∧ wSc s
/-- the e-th kept step in the ring -/
def rgS (s : Sw) (e : Nat) : Nat := (10 * ((s 15 3 + 30 - s 15 2 + e) % 30)).toNat
def aAs (a : Nat → Int) (s : Sw) : Prop := ∀ t : Nat, t < 6 → a (154 + 5 * t + 4) = s 16 (4 + t)
def aKe (a : Nat → Int) (s : Sw) (e r : Nat) : Prop := a (259 + 11 * e + 1) = s 17 r ∧ a (259 + 11 * e + 2) = s 17 (r + 1) ∧ a (259 + 11 * e + 10) = s 17 (r + 3) ∧ (∀ t : Nat, t < 6 → a (259 + 11 * e + 4 + t) = s 17 (r + 4 + t)) ∧ a (259 + 11 * e) ≤ s 1 8 ∧ (∀ t : Nat, t < 6 → a (259 + 11 * e) ≤ t → s 17 (r + 4 + t) = 0) ∧ s 17 r < s 1 6 ∧ -1 ≤ s 17 r ∧ 0 ≤ s 17 (r + 1) ∧ s 17 (r + 1) ≤ 3
def aKp (a : Nat → Int) (s : Sw) : Prop := ∀ e : Nat, (e : Int) < s 15 2 → aKe a s e (rgS s e)
def wWk (s : Sw) : Prop := 0 ≤ s 15 2 ∧ s 15 2 ≤ 30 ∧ 0 ≤ s 15 3 ∧ s 15 3 ≤ 29 ∧ -1 ≤ s 16 0 ∧ s 16 0 < s 1 6 ∧ 0 ≤ s 16 1 ∧ s 16 1 ≤ 3
def aWk (a : Nat → Int) (s : Sw) : Prop := a 4 = s 16 3 ∧ a 7 = s 15 2 ∧ a 256 = s 16 0 ∧ a 257 = s 16 1
def wAs (s : Sw) : Prop := ∀ t : Nat, s 1 8 ≤ (t : Int) → t < 6 → s 16 (4 + t) = 0
/-- the seconds -/
def aSe (a : Nat → Int) (s : Sw) : Prop := a 258 = s 16 2 ∧ ∀ e : Nat, (e : Int) < s 15 2 → a (259 + 11 * e + 3) = s 17 (rgS s e + 2)
/-- the walk -/
def WA (a : Nat → Int) (s : Sw) : Prop := aWk a s ∧ aAs a s ∧ aKp a s ∧ wWk s ∧ wAs s ∧ aSe a s
def AR (a : Nat → Int) (s : Sw) : Prop := TA a s ∧ WA a s
theorem TA.co {a a' : Nat → Int} {s s' : Sw} (h : TA a s) (ha : ∀ j : Nat, j < 256 → j ≠ 4 → j ≠ 7 → (j < 154 ∨ 184 ≤ j ∨ (j - 154) % 5 ≠ 4) → a' j = a j) (hs : ∀ k j : Nat, k ≤ 6 → s' k j = s k j) : TA a' s' := by
  obtain ⟨h1, h2, h3, h4, h5, h6, h7, h8⟩ := h
  have e6 := hs 1 6 (by decide)
  have e7 := hs 1 7 (by decide)
  have e8 := hs 1 8 (by decide)
  have e9 := hs 1 9 (by decide)
  have e10 := hs 1 10 (by decide)
  have e11 := hs 1 11 (by decide)
  have w := h8
  obtain ⟨w1, w2, w3, w4, w5, w6, w7, w8, w9⟩ := h8
  refine ⟨?_, fun c hc => ?_, fun t ht j hj => ?_, fun t ht => ?_, ⟨fun j h1 h2 => ?_, fun j h1 => ?_, fun j => ?_⟩, fun t ht => ?_, fun t ht => ?_, ?_⟩
  · unfold aSc
    rw [e6, e7, e8, e9, e10, e11, ha 0 (by decide) (by decide) (by decide) (by decide), ha 1 (by decide) (by decide) (by decide) (by decide), ha 2 (by decide) (by decide) (by decide) (by decide), ha 3 (by decide) (by decide) (by decide) (by decide), ha 5 (by decide) (by decide) (by decide) (by decide), ha 6 (by decide) (by decide) (by decide) (by decide)]
    exact h1
  · rw [e6] at hc
    obtain ⟨p, q⟩ := h2 c hc
    refine ⟨by rw [ha _ (by omega) (by omega) (by omega) (by omega), hs 2 _ (by decide)]; exact p, fun d hd => ?_⟩
    obtain ⟨q1, q2⟩ := q d hd
    rw [hs 3 _ (by decide), hs 4 _ (by decide), ha _ (by omega) (by omega) (by omega) (by omega), ha _ (by omega) (by omega) (by omega) (by omega)]
    exact ⟨q1, q2⟩
  · rw [e8] at ht
    rw [hs 5 _ (by decide), ha _ (by omega) (by omega) (by omega) (by omega)]
    exact h3 t ht j hj
  · rw [e9] at ht
    obtain ⟨⟨p1, p2, p3⟩, q⟩ := h4 t ht
    rw [hs 6 _ (by decide), hs 6 _ (by decide), hs 6 _ (by decide)]
    have c6 := (h7 t ht).2.2.2.2.2.1
    refine ⟨⟨by rw [ha _ (by omega) (by omega) (by omega) (by omega)]; exact p1, by rw [ha _ (by omega) (by omega) (by omega) (by omega)]; exact p2, by rw [ha _ (by omega) (by omega) (by omega) (by omega)]; exact p3⟩, fun i hi => ?_⟩
    rw [hs 6 _ (by decide), ha _ (by omega) (by omega) (by omega) (by omega)]
    exact q i hi
  · rw [hs 3 _ (by decide)]; rw [e6] at h1; exact h5.1 j h1 h2
  · rw [hs 3 _ (by decide), e6]; exact h5.2.1 j h1
  · rw [hs 4 _ (by decide)]; exact h5.2.2 j
  · rw [e8] at ht
    rw [hs 5 _ (by decide), e6]
    exact h6 t ht
  · rw [e9] at ht
    rw [hs 6 _ (by decide), hs 6 _ (by decide), hs 6 _ (by decide), e8]
    obtain ⟨q1, q2, q3, q4, q5, q6, q7⟩ := h7 t ht
    exact ⟨q1, q2, q3, q4, q5, q6, fun i hi => by rw [hs 6 _ (by decide)]; exact q7 i hi⟩
  · unfold wSc
    rw [e6, e7, e8, e9, e10, e11]
    exact w
theorem WA.co {a a' : Nat → Int} {s s' : Sw} (h : WA a s) (ha : ∀ j : Nat, (j = 4 ∨ j = 7 ∨ (154 ≤ j ∧ j < 184 ∧ (j - 154) % 5 = 4) ∨ (256 ≤ j ∧ j < 589)) → a' j = a j) (hs : ∀ k j : Nat, 15 ≤ k → k ≤ 17 → s' k j = s k j) (h6 : s 1 6 ≤ s' 1 6) (h8 : s 1 8 ≤ s' 1 8) : WA a' s' := by
  obtain ⟨⟨b1, b2, b3, b4⟩, h2, h3, h4, h5, hS⟩ := h
  have w := h4
  obtain ⟨w1, w2, w3, w4, w5, w6, w7, w8⟩ := w
  have e2 := hs 15 2 (by decide) (by decide)
  have e3 := hs 15 3 (by decide) (by decide)
  refine ⟨?_, fun t ht => ?_, fun e he => ?_, ?_, fun t t1 t2 => ?_, ?_, fun e he => ?_⟩
  · unfold aWk
    rw [e2, hs 16 0 (by decide) (by decide), hs 16 1 (by decide) (by decide), hs 16 3 (by decide) (by decide), ha 4 (by decide), ha 7 (by decide), ha 256 (by decide), ha 257 (by decide)]
    exact ⟨b1, b2, b3, b4⟩
  · rw [ha _ (by omega), hs 16 _ (by decide) (by decide)]
    exact h2 t ht
  · rw [e2] at he
    have er : rgS s' e = rgS s e := by unfold rgS; rw [e2, e3]
    obtain ⟨q1, q2, q3, q4, q5, q6, q7, q8⟩ := h3 e he
    rw [er]
    refine ⟨by rw [ha _ (by omega), hs 17 _ (by decide) (by decide)]; exact q1, by rw [ha _ (by omega), hs 17 _ (by decide) (by decide)]; exact q2, by rw [ha _ (by omega), hs 17 _ (by decide) (by decide)]; exact q3, fun t ht => by rw [ha _ (by omega), hs 17 _ (by decide) (by decide)]; exact q4 t ht, by rw [ha _ (by omega)]; omega, fun t ht h9 => ?_, by rw [hs 17 _ (by decide) (by decide)]; omega, by rw [hs 17 _ (by decide) (by decide), hs 17 _ (by decide) (by decide)]; exact q8⟩
    rw [ha _ (by omega)] at h9
    rw [hs 17 _ (by decide) (by decide)]
    exact q6 t ht h9
  · unfold wWk
    rw [e2, e3, hs 16 0 (by decide) (by decide), hs 16 1 (by decide) (by decide)]
    exact ⟨w1, w2, w3, w4, w5, by omega, w7, w8⟩
  · rw [hs 16 _ (by decide) (by decide)]
    exact h5 t (by omega) t2
  · rw [ha _ (by omega), hs 16 _ (by decide) (by decide)]
    exact hS.1
  · rw [e2] at he
    have er : rgS s' e = rgS s e := by unfold rgS; rw [e2, e3]
    rw [er, ha _ (by omega), hs 17 _ (by decide) (by decide)]
    exact hS.2 e he
