/-! CONTRACTS of the reference: its reader, tellings, laws, clauses and texts (written by wip/p35/c89.py) -/
/-- the clauses that were read -/
def CLS (f : Nat → Int) (t0 wr n : Int) : Prop := ∀ k : Nat, (k : Int) < n → wfK f t0.toNat (t0.toNat + 1 + 11 * k) ∧ (0 ≤ f (t0.toNat + 1 + 11 * k) → f (t0.toNat + 1 + 11 * k) ≤ 4 → f (t0.toNat + 1 + 11 * k + 2) ≤ wr)
theorem CLS_add {f g : Nat → Int} {t0 wr wr2 n x : Int} (h : CLS f t0 wr n) (h0 : 0 ≤ t0) (hn0 : 0 ≤ n) (hn : n ≤ 23) (hw0 : 0 ≤ wr) (hw : wr ≤ wr2) (hw3 : wr2 ≤ 300) (hx : x = t0 + 1 + 11 * n) (hf : ∀ j : Nat, (t0 < j ∧ (j : Int) < x ∨ (x + 11 ≤ j ∧ (j : Int) < t0 + 265 + 2 * wr)) → g j = f j)
    (ht : g x.toNat ≠ 10 ∨ (1 ≤ g (x + 3).toNat ∧ g (x + 3).toNat ≤ 6 ∧ 0 ≤ g (x + 2).toNat ∧ g (x + 2).toNat ≤ 3)) (hl : 4 < g x.toNat ∨ (0 ≤ g (x + 1).toNat ∧ g (x + 1).toNat ≤ g (x + 2).toNat ∧ g (x + 2).toNat ≤ wr2)) (hc : g x.toNat ≤ 4 → wfC g (g (x + 2).toNat - g (x + 1).toNat).toNat (t0 + 265 + 2 * g (x + 1).toNat).toNat 0) : CLS g t0 wr2 (n + 1) := by
  intro k hk
  by_cases e : (k : Int) = n
  · have ex : t0.toNat + 1 + 11 * k = x.toNat := by omega
    rw [ex, show x.toNat + 2 = (x + 2).toNat by omega]
    refine ⟨⟨fun q => ?_, fun q0 q4 => ?_⟩, fun q0 q4 => ?_⟩
    · rw [show x.toNat + 3 = (x + 3).toNat by omega, show x.toNat + 2 = (x + 2).toNat by omega]
      rcases ht with z | z
      · exact absurd q z
      · exact z
    · rw [show x.toNat + 1 = (x + 1).toNat by omega, show x.toNat + 2 = (x + 2).toNat by omega]
      rcases hl with z | ⟨z1, z2, z3⟩
      · omega
      · refine ⟨z1, z2, by omega, ?_⟩
        have q := hc q4
        rw [show (t0 + 265 + 2 * g (x + 1).toNat).toNat = t0.toNat + 265 + 2 * (g (x + 1).toNat).toNat by omega] at q
        exact q
    · rcases hl with z | ⟨z1, z2, z3⟩
      · omega
      · exact z3
  · obtain ⟨⟨a, b⟩, c⟩ := h k (by omega)
    have e0 := hf (t0.toNat + 1 + 11 * k) (by omega)
    have e1 := hf (t0.toNat + 1 + 11 * k + 1) (by omega)
    have e2 := hf (t0.toNat + 1 + 11 * k + 2) (by omega)
    have e3 := hf (t0.toNat + 1 + 11 * k + 3) (by omega)
    refine ⟨⟨fun q => ?_, fun q0 q4 => ?_⟩, fun q0 q4 => ?_⟩
    · rw [e0] at q
      rw [e2, e3]
      exact a q
    · rw [e0] at q0 q4
      obtain ⟨b1, b2, b3, b4⟩ := b q0 q4
      have c1 := c q0 q4
      rw [e1, e2]
      exact ⟨b1, b2, b3, wfC_co _ _ _ (fun q y z => hf q (by omega)) b4⟩
    · rw [e0] at q0 q4
      rw [e2]
      have := c q0 q4
      omega
theorem BX.a5 {M0 M : Mem} (h : BX M0 M) {v : Int} (hv : v = mI M 55 5 + 1) (h4 : v ≤ 4) (hw : wfT (mI M 57) (mI M 55 5).toNat) : BX M0 (sI M 55 5 v) := by
  obtain ⟨⟨h1, h2, h3, h4', h5, h6, h7⟩, hd⟩ := h
  have eo : ∀ b, b ≠ 5 → mI (sI M 55 5 v) 55 b = mI M 55 b := fun b hb => by rw [mI_sI, if_neg (fun e => hb e.2)]
  have e0 : mI (sI M 55 5 v) 55 5 = v := mI_same
  have e6 : mI (sI M 55 5 v) 56 = mI M 56 := funext fun b => by rw [mI_sI, if_neg (fun e => by omega)]
  have e7 : mI (sI M 55 5 v) 57 = mI M 57 := funext fun b => by rw [mI_sI, if_neg (fun e => by omega)]
  have hb := (h2 55 5).2.2.2.2.2.1 rfl
  refine ⟨⟨h1, bx_sI h2 (by show aB _ _; unfold aB; refine ⟨?_, ?_, ?_, ?_, ?_, ?_, ?_, ?_, ?_, ?_, ?_, ?_, ?_, ?_, ?_, ?_, ?_, ?_⟩ <;> intros <;> omega), h3.same ((Dz.refl M).sI (by decide)) (fun _ _ _ => rfl), ?_⟩, hd.sI (by decide)⟩
  refine ⟨⟨fun c d hc2 hd2 => ?_, fun t ht => ?_, ?_⟩, by rw [e6]; exact h5, by rw [e6, e0]; omega, fun t ht => ?_⟩
  · rw [eo 0 (by decide)] at hc2 ⊢
    rw [eo _ (by omega)]
    exact h4'.1 c d hc2 hd2
  · rw [eo 3 (by decide)] at ht
    rw [eo _ (by omega)]
    exact h4'.2.1 t ht
  · rw [eo 6 (by decide), e0]
    have := h4'.2.2
    omega
  · rw [e0] at ht
    rw [e7]
    by_cases e : (t : Int) = mI M 55 5
    · rw [show t = (mI M 55 5).toNat by omega]
      exact hw
    · exact h7 t (by omega)
