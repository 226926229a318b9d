/-! WHEN A TELLING CAN BE, and its turns -/
/-- two numbers that are turns -/
def okTn (a b : Int) : Prop := (0 < a ∧ a < 1000000000 ∧ ∀ i : Nat, i < cnT a → isTu (tq i a)) ∧ (b = 0 ∨ (cnT a = 3 ∧ 0 < b ∧ b < 1000000000 ∧ ∀ i : Nat, i < cnT b → isTu (tq i b)))
/-- the i-th turn of two numbers -/
def tnI (a b : Int) (i : Nat) : Int := if i < cnT a then tq (cnT a - 1 - i) a else tq (cnT b - 1 - (i - 3)) b
def tnC (a b : Int) : Nat := if b = 0 then cnT a else cnT a + cnT b
theorem TellingS.iff {t f a b : Int} {S S' : Sw} {r : Int} (h9 : 0 ≤ S 1 9) (h : TellingS t f a b S S' r) : (¬ (okTg t f S ∧ okTn a b) ∧ r = -1 ∧ ∀ k j : Nat, ¬ (k = 6 ∧ 9 * S 1 9 + 3 ≤ (j : Int) ∧ (j : Int) < 9 * S 1 9 + 9) → S' k j = S k j) ∨ (okTg t f S ∧ okTn a b ∧ r = S 1 9 ∧ ∃ S2 : Sw, S' = tgS (S 1 9) t f (tnC a b) S2 ∧ (∀ k j : Nat, ¬ (k = 6 ∧ 9 * S 1 9 + 3 ≤ (j : Int) ∧ (j : Int) < 9 * S 1 9 + 9) → S2 k j = S k j) ∧ ∀ i : Nat, i < tnC a b → S2 6 (9 * S 1 9 + 3 + i).toNat = tnI a b i ∧ isTu (tnI a b i)) := by
  rcases h with ⟨hk, hr, e⟩ | ⟨hk, S1, S2, c, o, h1, h2, h3⟩
  · rw [e]
    exact Or.inl ⟨fun q => hk q.1, hr, fun _ _ _ => rfl⟩
  have f1 : ∀ k j : Nat, ¬ (k = 6 ∧ 9 * S 1 9 + 3 ≤ (j : Int) ∧ (j : Int) < 9 * S 1 9 + 6) → S1 k j = S k j := fun k j hj => h1.fr (by omega) k j (by omega)
  have f2 : ∀ k j : Nat, ¬ (k = 6 ∧ 9 * S 1 9 + 6 ≤ (j : Int) ∧ (j : Int) < 9 * S 1 9 + 9) → S2 k j = S1 k j := fun k j hj => by
    rcases h2 with ⟨_, _, e⟩ | ⟨_, h2⟩
    · rw [e]
    · exact h2.fr (by omega) k j (by omega)
  have f3 : ∀ k j : Nat, ¬ (k = 6 ∧ 9 * S 1 9 + 3 ≤ (j : Int) ∧ (j : Int) < 9 * S 1 9 + 9) → S2 k j = S k j := fun k j hj => (f2 k j (by omega)).trans (f1 k j (by omega))
  have hca := cnT_b a
  have hcb := cnT_b b
  rcases h3 with ⟨hn, hr, e⟩ | ⟨hn, hr, e⟩
  · rw [e]
    refine Or.inl ⟨fun q => ?_, hr, f3⟩
    obtain ⟨_, ⟨a0, a1, ai⟩, hb⟩ := q
    have c1 : c ≠ -1 := fun ec => by
      rw [ec] at h1
      rcases h1.no with h | ⟨i, i1, i2⟩
      · exact h ⟨a0, a1⟩
      · exact i2 (ai i i1)
    obtain ⟨_, _, ec, _⟩ := h1.ok (by omega) c1
    rcases h2 with ⟨b0, o0, e2⟩ | ⟨b0, h2⟩
    · omega
    · rcases hb with hb | ⟨c3, b1, b2, bi⟩
      · exact b0 hb
      · have o1 : o ≠ -1 := fun eo => by
          rw [eo] at h2
          rcases h2.no with h | ⟨i, i1, i2⟩
          · exact h ⟨b1, b2⟩
          · exact i2 (bi i i1)
        omega
  · obtain ⟨a0, a1, ac, ai⟩ := h1.ok (by omega) (by omega)
    have ai2 : ∀ i : Nat, i < cnT a → isTu (tq i a) := fun i hi => by
      have q := (ai (cnT a - 1 - i) (by omega)).1
      rw [show cnT a - 1 - (cnT a - 1 - i) = i by omega] at q
      exact q
    rcases h2 with ⟨b0, o0, e2⟩ | ⟨b0, h2⟩
    · have ec : tnC a b = cnT a := if_pos b0
      refine Or.inr ⟨hk, ⟨⟨a0, a1, ai2⟩, Or.inl b0⟩, hr, S2, by rw [e, ac, o0, Int.add_zero, ec], f3, fun i hi => ?_⟩
      rw [ec] at hi
      unfold tnI
      rw [if_pos hi, e2]
      exact ⟨(ai i hi).2, (ai i hi).1⟩
    · obtain ⟨b1, b2, bc, bi⟩ := h2.ok (by omega) (by omega)
      have bi2 : ∀ i : Nat, i < cnT b → isTu (tq i b) := fun i hi => by
        have q := (bi (cnT b - 1 - i) (by omega)).1
        rw [show cnT b - 1 - (cnT b - 1 - i) = i by omega] at q
        exact q
      have c3 : cnT a = 3 := by omega
      have ec : tnC a b = cnT a + cnT b := if_neg b0
      refine Or.inr ⟨hk, ⟨⟨a0, a1, ai2⟩, Or.inr ⟨c3, b1, b2, bi2⟩⟩, hr, S2, by rw [e, ac, bc, ec]; rfl, f3, fun i hi => ?_⟩
      rw [ec] at hi
      unfold tnI
      by_cases e3 : i < cnT a
      · rw [if_pos e3, f2 _ _ (by omega)]
        exact ⟨(ai i e3).2, (ai i e3).1⟩
      · rw [if_neg e3]
        have q := bi (i - 3) (by omega)
        rw [show (9 * S 1 9 + 3 + 3 + ((i - 3 : Nat) : Int)).toNat = (9 * S 1 9 + 3 + (i : Int)).toNat by omega] at q
        exact ⟨q.2, q.1⟩
theorem tnC_b (a b : Int) (h : okTn a b) : 1 ≤ tnC a b ∧ tnC a b ≤ 6 := by
  have hca := cnT_b a
  have hcb := cnT_b b
  unfold tnC
  split <;> omega
