/-! HOW OFTEN TELLERS WERE ASKED: it stays small -/
def asB (S : Sw) (b : Int) : Prop := (∀ t : Nat, t < 6 → 0 ≤ S 16 (4 + t) ∧ S 16 (4 + t) ≤ b) ∧ ∀ j : Nat, j < 300 → 4 ≤ j % 10 → 0 ≤ S 17 j ∧ S 17 j ≤ b
theorem sc_ne {S : Sw} {v : Int} {a b : Nat} (h : ¬ (a = 16 ∧ b = 2)) : sc v S a b = S a b := up_ne h
theorem asB.le {S : Sw} {b c : Int} (h : asB S b) (hb : b ≤ c) : asB S c := ⟨fun t ht => by have := h.1 t ht; omega, fun j j1 j2 => by have := h.2 j j1 j2; omega⟩
theorem asB.co {S S' : Sw} {b : Int} (h : asB S b) (h6 : ∀ t : Nat, t < 6 → S' 16 (4 + t) = S 16 (4 + t)) (h7 : ∀ j, S' 17 j = S 17 j) : asB S' b := ⟨fun t ht => by rw [h6 t ht]; exact h.1 t ht, fun j j1 j2 => by rw [h7]; exact h.2 j j1 j2⟩
theorem asB.up {S : Sw} {b v : Int} {k j : Nat} (h : asB S b) (hk : k ≠ 17) (hj : k ≠ 16 ∨ j < 4 ∨ 10 ≤ j) : asB (up S k j v) b := h.co (fun t ht => up_ne (by omega)) (fun i => up_ne (fun e => hk e.1.symm))
theorem asB.kp {S : Sw} {b : Int} (h : asB S b) (h0 : 0 ≤ S 15 3) (h9 : S 15 3 ≤ 29) : asB (fKp S) b := by
  refine ⟨fun t ht => by rw [fKp_o (by decide) (by decide)]; exact h.1 t ht, fun j j1 j2 => ?_⟩
  rw [fKp_17]
  split
  · have q := h.1 (j - (10 * S 15 3).toNat - 4) (by omega)
    rw [show 4 + (j - (10 * S 15 3).toNat - 4) = j - (10 * S 15 3).toNat by omega] at q
    exact q
  · exact h.2 j j1 j2
theorem asB.pl {S : Sw} {b c f : Int} (h : asB S b) : asB (fPl c f S) b := (h.up (by decide) (by omega)).up (by decide) (by omega)
theorem asB.fa {S : Sw} {b w : Int} (h : asB S b) : asB (fFa w S) b := h.up (by decide) (by omega)
theorem asB.sc {S : Sw} {b v : Int} (h : asB S b) : asB (sc v S) b := h.up (by decide) (by omega)
theorem asB.ah {S : Sw} {b : Int} (h : asB S b) : asB (fAh S) b := h.pl.sc
theorem asB.he {S : Sw} {b t : Int} (h : asB S b) (b0 : 0 ≤ b) (hb : b ≤ 2000000000) (t0 : 0 ≤ t) (t1 : t ≤ 5) : asB (fHe t S) (b + 1) := by
  have q := h.1 t.toNat (by omega)
  rw [show 4 + t.toNat = (4 + t).toNat by omega] at q
  refine ⟨fun x hx => ?_, fun j j1 j2 => ?_⟩
  · by_cases e : (x : Int) = t
    · rw [show 4 + x = (4 + t).toNat by omega]
      unfold fHe
      rw [up_same, wI_id (by omega) (by omega)]
      omega
    · unfold fHe
      rw [up_ne (by omega), sc_ne (by omega)]
      have := h.1 x hx
      omega
  · unfold fHe
    rw [up_ne (by omega), sc_ne (by omega)]
    have := h.2 j j1 j2
    omega
theorem kp_15 {S : Sw} (h0 : 0 ≤ S 15 3 ∧ S 15 3 ≤ 29) : 0 ≤ fAh (fKp S) 15 3 ∧ fAh (fKp S) 15 3 ≤ 29 := by
  rw [fAh_o (by decide), fKp_15.1]
  omega
theorem asB.go : ∀ (n : Nat) (S : Sw) (b : Int), asB S b → (0 ≤ S 15 3 ∧ S 15 3 ≤ 29) → asB (goS n S).1 b
  | 0, _, _, h, _ => h
  | n + 1, S, b, h, h3 => by
    unfold goS
    split
    · exact h
    · exact asB.go n _ b ((h.kp h3.1 h3.2).ah) (kp_15 h3)
theorem asB.fr {S S' : Sw} {b : Int} (h : asB S b) (hf : ∀ k j : Nat, k = 16 ∨ k = 17 → S' k j = S k j) : asB S' b := h.co (fun _ _ => hf _ _ (Or.inl rfl)) (fun _ => hf _ _ (Or.inr rfl))
theorem asB.dos {w a b c d : Int} {S S' : Sw} {ok m : Int} (h : asB S m) (m0 : 0 ≤ m) (hm : m ≤ 2000000000) (h3 : 0 ≤ S 15 3 ∧ S 15 3 ≤ 29) (h8 : S 1 8 ≤ 6) (h9 : 0 ≤ S 1 9) (hD : DoS w a b c d S S' ok) : asB S' (m + 1) := by
  have le : ∀ {T : Sw}, asB T m → asB T (m + 1) := fun q => q.le (by omega)
  rcases hD with ⟨_, r, q, _⟩ | ⟨_, q⟩ | ⟨_, q⟩ | ⟨_, q⟩ | ⟨_, r, q, _⟩ | ⟨_, r, q, _⟩ | ⟨_, q⟩ | ⟨_, q, _⟩ | ⟨_, r, q, _⟩ | ⟨_, r, q, _⟩ | ⟨_, r, q, _⟩ | ⟨_, q, _⟩
  · rcases q with ⟨_, _, e⟩ | ⟨_, _, e⟩ <;> rw [e]
    · exact le ((h.up (by decide) (by omega)).up (by decide) (by omega))
    · exact le h
  · rcases q with ⟨_, _, e⟩ | ⟨_, _, e⟩ <;> rw [e]
    · unfold stS; exact le ((((h.up (by decide) (by omega)).up (by decide) (by omega)).up (by decide) (by omega)).up (by decide) (by omega))
    · exact le h
  · rcases q with ⟨_, _, e⟩ | ⟨_, _, e⟩ <;> rw [e]
    · unfold stS; exact le ((((h.up (by decide) (by omega)).up (by decide) (by omega)).up (by decide) (by omega)).up (by decide) (by omega))
    · exact le h
  · rcases q with ⟨_, _, e⟩ | ⟨_, _, e⟩ <;> rw [e]
    · exact le (h.up (by decide) (by omega))
    · exact le h
  · rcases q with ⟨_, _, e⟩ | ⟨_, _, e⟩ <;> rw [e]
    · unfold teS; exact le (((((h.up (by decide) (by omega)).up (by decide) (by omega)).up (by decide) (by omega)).up (by decide) (by omega)).up (by decide) (by omega))
    · exact le h
  · rcases q.row h9 with ⟨_, _, hf⟩ | ⟨_, _, S2, n, _, _, e, hf, _⟩
    · exact le (h.fr (fun k j hk => hf k j (by omega)))
    · rw [e]
      unfold tgS
      have h2 : asB S2 m := h.fr (fun k j hk => hf k j (by omega))
      exact le ((((h2.up (by decide) (by omega)).up (by decide) (by omega)).up (by decide) (by omega)).up (by decide) (by omega))
  · rcases q with ⟨_, _, e⟩ | ⟨_, _, e⟩ <;> rw [e]
    · exact le ((h.kp h3.1 h3.2).pl.sc)
    · exact le h
  · rw [q]; exact le (asB.go _ _ _ h h3)
  · rcases q with ⟨_, e, _⟩ | ⟨_, e, _⟩ <;> rw [e]
    · exact le ((h.kp h3.1 h3.2).fa)
    · exact le h
  · rcases q with ⟨hc, e, _⟩ | ⟨_, e, _⟩ <;> rw [e]
    · exact (h.kp h3.1 h3.2).he m0 hm hc.2.1 (by omega)
    · exact le h
  · rcases q with ⟨_, e, _⟩ | ⟨_, e, _⟩ <;> rw [e]
    · exact le ((h.kp h3.1 h3.2).pl.sc)
    · exact le h
  · rw [q]; exact le h
