/-! STREETS AHEAD, on both rows -/
theorem AR.st {a : Nat → Int} {S : Sw} (h : AR a S) {c d : Int} (c0 : 0 ≤ c) (c1 : c < S 1 6) (d0 : 0 ≤ d) (d1 : d ≤ 3) : a (10 + 9 * c + 1 + d).toNat = ahS S c d := by
  have z := ((h.1.2.1 c.toNat (by omega)).2 d.toNat (by omega)).1
  rw [show 10 + 9 * c.toNat + 1 + d.toNat = (10 + 9 * c + 1 + d).toNat by omega] at z
  unfold ahS
  rw [if_pos ⟨c0, c1⟩, show (4 * c + d % 4).toNat = 4 * c.toNat + d.toNat by omega]
  exact z
theorem AR.ahr {a : Nat → Int} {S : Sw} (h : AR a S) (c d : Int) : -1 ≤ ahS S c d ∧ ahS S c d < S 1 6 := by
  have w := h.1.2.2.2.2.2.2.2
  obtain ⟨w1, w2, _⟩ := w
  unfold ahS
  split
  · exact h.1.2.2.2.2.1.2.1 _ (by omega)
  · omega
theorem wkS_last {S : Sw} {f : Int} : ∀ (n : Nat) (c : Int), wkS S f n c ≠ -1 → wkS S f (n + 1) c = ahS S (wkS S f n c) f
  | 0, c, h => if_neg h
  | n + 1, c, h => by
    by_cases e : c = -1
    · rw [e, wkS_no] at h
      exact absurd rfl h
    · rw [wkS_s e] at h ⊢
      rw [wkS_s e]
      exact wkS_last n _ h
noncomputable def itS : Nat → Sw → Sw
  | 0, S => S
  | n + 1, S => itS n (fAh (fKp S))
theorem itS_last : ∀ (n : Nat) (S : Sw), itS (n + 1) S = fAh (fKp (itS n S))
  | 0, _ => rfl
  | n + 1, S => itS_last n (fAh (fKp S))
theorem fAh_o {S : Sw} {k j : Nat} (h : k ≠ 16) : fAh S k j = S k j := by
  unfold fAh sc fPl
  rw [up_ne (fun e => h e.1), up_ne (fun e => h e.1), up_ne (fun e => h e.1)]
theorem st_o {S : Sw} {k j : Nat} (h : k ≤ 6) : fAh (fKp S) k j = S k j := by
  rw [fAh_o (by omega), fKp_o (by omega) (by omega)]
theorem ah_co {S S' : Sw} (h6 : S' 1 6 = S 1 6) (h3 : ∀ j, S' 3 j = S 3 j) (c d : Int) : ahS S' c d = ahS S c d := by
  unfold ahS
  rw [h6, h3]
theorem wk_co {S S' : Sw} (h6 : S' 1 6 = S 1 6) (h3 : ∀ j, S' 3 j = S 3 j) (f : Int) : ∀ (n : Nat) (c : Int), wkS S' f n c = wkS S f n c
  | 0, _ => rfl
  | n + 1, c => by
    show (if c = -1 then -1 else wkS S' f n (ahS S' c f)) = if c = -1 then -1 else wkS S f n (ahS S c f)
    rw [ah_co h6 h3, wk_co h6 h3 f n]
theorem goS_it : ∀ (k n : Nat) (S : Sw), wkS S (S 16 1) k (S 16 0) ≠ -1 → k ≤ n → (k = n ∨ wkS S (S 16 1) (k + 1) (S 16 0) = -1) → goS n S = (itS k S, if k = n then 1 else 0)
  | 0, 0, _, _, _, _ => rfl
  | 0, n + 1, S, h, _, h2 => by
    have h3 : wkS S (S 16 1) 1 (S 16 0) = -1 := h2.resolve_left (by omega)
    exact (if_pos h3).trans (by rw [if_neg (by omega)]; rfl)
  | k + 1, 0, _, _, h, _ => absurd h (by omega)
  | k + 1, n + 1, S, h, hk, h2 => by
    have c1 : S 16 0 ≠ -1 := fun e => by rw [e, wkS_no] at h; exact h rfl
    have e0 : fAh (fKp S) 16 0 = ahS S (S 16 0) (S 16 1) := by
      unfold fAh sc fPl
      rw [up_ne (by decide), up_ne (by decide), up_same, ah_co (S := S) (fKp_o (by decide) (by decide)) (fun _ => fKp_o (by decide) (by decide)), fKp_o (by decide) (by decide), fKp_o (by decide) (by decide)]
    have e1 : fAh (fKp S) 16 1 = S 16 1 := by
      unfold fAh sc fPl
      rw [up_ne (by decide), up_same, fKp_o (by decide) (by decide)]
    have eq : ∀ m : Nat, wkS (fAh (fKp S)) (fAh (fKp S) 16 1) m (fAh (fKp S) 16 0) = wkS S (S 16 1) (m + 1) (S 16 0) := fun m => by
      rw [e0, e1, wk_co (S := S) (st_o (by decide)) (fun _ => st_o (by decide)), wkS_s c1]
    have w1 : ¬ wkS S (S 16 1) 1 (S 16 0) = -1 := fun e => by
      rw [wkS_s c1] at e h
      have e' : ahS S (S 16 0) (S 16 1) = -1 := e
      rw [e', wkS_no] at h
      exact h rfl
    have q := goS_it k n (fAh (fKp S)) (by rw [eq]; exact h) (by omega) (by rw [eq]; omega)
    refine (if_neg w1).trans (q.trans ?_)
    rw [show (if k = n then (1 : Int) else 0) = if k + 1 = n + 1 then 1 else 0 by by_cases e : k = n; (rw [if_pos e, if_pos (by omega)]); (rw [if_neg e, if_neg (by omega)])]
    rfl
