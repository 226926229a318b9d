/-! BOTH CLAUSES -/
theorem sBody_10 {k x : Int → Int} {p : Int} (h : (sBody k x 10 p).1 = 0) : 0 ≤ k (x (x p)) - 1000 ∧ k (x (x p)) - 1000 ≤ 3 := by
  unfold sBody at h
  rw [if_neg (by decide), if_neg (by decide), if_neg (by decide), if_neg (by decide), if_pos rfl] at h
  by_cases e : (sNum k x 0 5 p).1 = 0
  · rw [sBind_ok e] at h
    by_cases e2 : (sFac k x (sNum k x 0 5 p).2).1 = 0
    · rw [(sNum_ok e).1] at e2
      unfold sFac at e2
      by_cases e3 : (sTok k x 118 (x p)).1 = 0
      · rw [sBind_ok e3, sTok_ok e3] at e2
        exact (sNum_ok e2).2.2
      · rw [sBind_bad e3] at e2
        exact absurd e2 e3
    · rw [sBind_bad e2] at h
      exact absurd h e2
  · rw [sBind_bad e] at h
    exact absurd h e
theorem sBody_12 {k x : Int → Int} {p : Int} (h : (sBody k x 12 p).1 = 0) : 1 ≤ k p - 1000 := by
  unfold sBody at h
  rw [if_neg (by decide), if_neg (by decide), if_neg (by decide), if_neg (by decide), if_neg (by decide), if_neg (by decide), if_pos rfl] at h
  exact (sNum_ok h).2.2.1
theorem cl_both {k x : Int → Int} {R f g : Nat → Int} {e : Nat} {b p : Int} (b0 : 0 ≤ b) (h1 : Q25 k x R e p) (h2 : Q57 k x g b p) (hs : (sBody k x (k p - 101) (x p)).1 = 0) (hf : ∀ j : Nat, 5 * e ≤ j → j < 5 * e + 5 → f j = R j) : clR g b.toNat f e := by
  obtain ⟨a1, a2, a3, a4, a5, a6⟩ := h1
  obtain ⟨c1, c2, c3, c4, c5, c6⟩ := h2
  have f0 := hf (5 * e) (by omega) (by omega)
  have f1 := hf (5 * e + 1) (by omega) (by omega)
  have f2 := hf (5 * e + 2) (by omega) (by omega)
  have f3 := hf (5 * e + 3) (by omega) (by omega)
  have f4 := hf (5 * e + 4) (by omega) (by omega)
  unfold clR
  rw [f0, f1, f2, f3, f4, a2]
  have g1 : g (b.toNat + 1) = g (b + 1).toNat := by rw [show b.toNat + 1 = (b + 1).toNat by omega]
  have g2 : g (b.toNat + 2) = g (b + 2).toNat := by rw [show b.toNat + 2 = (b + 2).toNat by omega]
  have g3 : g (b.toNat + 3) = g (b + 3).toNat := by rw [show b.toNat + 3 = (b + 3).toNat by omega]
  refine ⟨c2, by omega, by omega, fun q => ?_, fun q => ?_, fun q => ?_, fun q => ?_, fun q => ?_⟩
  · rw [g1, c3 (by omega), a3 (by omega)]
  · rw [g2, c4 (by omega), a4 (by omega)]
  · rw [g3, c5 (by omega), a5 (by omega)]
  · rw [show k p - 101 = 12 by omega] at hs
    rw [a3 (by omega)]
    unfold rw1
    rw [if_neg (by omega)]
    exact sBody_12 hs
  · have kp : k p = 111 := by omega
    rw [show k p - 101 = 10 by omega] at hs
    obtain ⟨_, _, m, hm, ⟨t1, t2, t3⟩, he⟩ := c6 kp
    have e3 : R (5 * e + 3) = (trS k x 7 0 (x (x (x (x (x p))))) 0 0).1 := by
      rw [a5 (by omega)]
      unfold rw3
      rw [if_pos (by omega)]
    have e4 : R (5 * e + 4) = (trS k x 7 0 (x (x (x (x (x p))))) 0 0).2 := a6 kp
    obtain ⟨o1, o2, o3⟩ := tr_pk (k := k) (x := x) (p := x (x (x (x (x p))))) (m := m.toNat) (by omega) (by omega) (fun i hi => (t2 i (by omega)).2) (fun i hi => t3 i (by omega)) (by rw [show m.toNat - 1 = (m - 1).toNat by omega]; exact he)
    rw [e3, e4]
    refine ⟨?_, o1, ?_, fun i hi => ?_⟩
    · rw [a4 (by omega)]
      unfold rw2
      rw [if_neg (by omega)]
      exact sBody_10 hs
    · rw [g3, t1, o2]
      omega
    · rw [o2] at hi
      rw [o3 i hi, show b.toNat + 4 + i = (b + 4 + (i : Int)).toNat by omega]
      exact (t2 i (by omega)).1
