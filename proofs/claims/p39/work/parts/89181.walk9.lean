/-! THE WALK on both rows: the relation stays -/
theorem AR.wk {a a' : Nat → Int} {s s' : Sw} (h : AR a s) (hw : WA a' s') (ha : ∀ j : Nat, j < 256 → j ≠ 4 → j ≠ 7 → (j < 154 ∨ 184 ≤ j ∨ (j - 154) % 5 ≠ 4) → a' j = a j) (hs : ∀ k j : Nat, k ≤ 6 → s' k j = s k j) : AR a' s' := ⟨h.1.co ha hs, hw⟩
theorem fKp_15 {s : Sw} : fKp s 15 3 = (s 15 3 + 1) % 30 ∧ fKp s 15 2 = minZ 30 (s 15 2 + 1) := by
  unfold fKp
  exact ⟨by rw [up_ne (by decide), up_same], up_same⟩
theorem fKp_17 {s : Sw} (j : Nat) : fKp s 17 j = if (10 * s 15 3).toNat ≤ j ∧ j < (10 * s 15 3).toNat + 10 then s 16 (j - (10 * s 15 3).toNat) else s 17 j := by
  unfold fKp
  rw [up_ne (by omega), up_ne (by omega)]
  unfold cpK
  by_cases e : (10 * s 15 3).toNat ≤ j ∧ j < (10 * s 15 3).toNat + 10
  · rw [if_pos ⟨rfl, e⟩, if_pos e]
  · rw [if_neg (fun q => e q.2), if_neg e]
/-- a step is kept; k: how many stay below the new one, g: by how much they move -/
theorem AR_keep {a a' : Nat → Int} {s : Sw} {k g : Nat} (h : AR a s) (hk : (k < 30 ∧ (k : Int) = s 15 2 ∧ g = 0) ∨ (k = 29 ∧ s 15 2 = 30 ∧ g = 1)) (h7 : a' 7 = k + 1) (hm : ∀ e i : Nat, e < k → i < 11 → a' (259 + 11 * e + i) = a (259 + 11 * (e + g) + i)) (h0 : a' (259 + 11 * k) = a 2) (h1 : a' (259 + 11 * k + 1) = a 256) (h2 : a' (259 + 11 * k + 2) = a 257) (h3 : a' (259 + 11 * k + 3) = a 258) (ht : ∀ t : Nat, t < 6 → a' (259 + 11 * k + 4 + t) = a (154 + 5 * t + 4)) (hx : a' (259 + 11 * k + 10) = a 4) (ho : ∀ j : Nat, j < 259 → j ≠ 7 → a' j = a j) : AR a' (fKp s) := by
  refine AR.wk h ?_ (fun j j1 _ j3 _ => ho j (by omega) j3) (fun q j hq => fKp_o (by omega) (by omega))
  obtain ⟨hT, ⟨b1, b2, b3, b4⟩, k2, k3, k4, k5, kS⟩ := h
  have w := k4
  obtain ⟨w1, w2, w3, w4, w5, w6, w7, w8⟩ := w
  obtain ⟨f3, f2⟩ := fKp_15 (s := s)
  have hmz := minZ_bd 30 (s 15 2 + 1)
  have f2' : fKp s 15 2 = (k : Int) + 1 := by rw [f2]; omega
  have o16 : ∀ j, fKp s 16 j = s 16 j := fun j => fKp_o (by decide) (by decide)
  have o6 : fKp s 1 6 = s 1 6 := fKp_o (by decide) (by decide)
  have o8 : fKp s 1 8 = s 1 8 := fKp_o (by decide) (by decide)
  refine ⟨?_, fun t ht2 => ?_, fun e he => ?_, ?_, fun t t1 t2 => ?_, ?_, fun e he => ?_⟩
  · unfold aWk
    rw [o16, o16, o16, f2', h7, ho 4 (by decide) (by decide), ho 256 (by decide) (by decide), ho 257 (by decide) (by decide)]
    exact ⟨b1, rfl, b3, b4⟩
  · rw [o16, ho _ (by omega) (by omega)]
    exact k2 t ht2
  · rw [f2'] at he
    unfold aKe
    rw [o6, o8]
    by_cases e1 : e = k
    · subst e1
      have er : rgS (fKp s) e = (10 * s 15 3).toNat := by
        unfold rgS
        rw [f3, f2']
        omega
      have ev : ∀ i : Nat, i < 10 → fKp s 17 ((10 * s 15 3).toNat + i) = s 16 i := fun i hi => by
        rw [fKp_17, if_pos (by omega), show (10 * s 15 3).toNat + i - (10 * s 15 3).toNat = i by omega]
      rw [er, h0, h1, h2, hx]
      have e0 := ev 0 (by decide)
      have e1 := ev 1 (by decide)
      have e3 := ev 3 (by decide)
      rw [Nat.add_zero] at e0
      rw [e0, e1, e3]
      refine ⟨b3, b4, b1, fun t ht2 => ?_, by have := hT.1.2.2.1; omega, fun t ht2 h9 => ?_, w6, w5, w7, w8⟩
      · rw [ht t ht2, show (10 * s 15 3).toNat + 4 + t = (10 * s 15 3).toNat + (4 + t) by omega, ev _ (by omega)]
        exact k2 t ht2
      · rw [show (10 * s 15 3).toNat + 4 + t = (10 * s 15 3).toNat + (4 + t) by omega, ev _ (by omega)]
        exact k5 t (by have := hT.1.2.2.1; omega) ht2
    · have he2 : e < k := by omega
      have er : rgS (fKp s) e = rgS s (e + g) := by
        unfold rgS
        rw [f3, f2']
        omega
      have ev : ∀ i : Nat, i < 10 → fKp s 17 (rgS s (e + g) + i) = s 17 (rgS s (e + g) + i) := fun i hi => by
        rw [fKp_17, if_neg ?_]
        unfold rgS
        omega
      obtain ⟨q1, q2, q3, q4, q5, q6, q7, q8, q9, q10⟩ := k3 (e + g) (by omega)
      have e0 := ev 0 (by decide)
      have e1 := ev 1 (by decide)
      have e3 := ev 3 (by decide)
      rw [Nat.add_zero] at e0
      have m0 := hm e 0 he2 (by decide)
      rw [Nat.add_zero, Nat.add_zero] at m0
      rw [er, e0, e1, e3, m0, hm e 1 he2 (by decide), hm e 2 he2 (by decide), hm e 10 he2 (by decide)]
      refine ⟨q1, q2, q3, fun t ht2 => ?_, q5, fun t ht2 h9 => ?_, q7, q8, q9, q10⟩
      · rw [show 259 + 11 * e + 4 + t = 259 + 11 * e + (4 + t) by omega, hm e (4 + t) he2 (by omega), show rgS s (e + g) + 4 + t = rgS s (e + g) + (4 + t) by omega, ev _ (by omega)]
        have z := q4 t ht2
        rw [show 259 + 11 * (e + g) + 4 + t = 259 + 11 * (e + g) + (4 + t) by omega, show rgS s (e + g) + 4 + t = rgS s (e + g) + (4 + t) by omega] at z
        exact z
      · rw [show rgS s (e + g) + 4 + t = rgS s (e + g) + (4 + t) by omega, ev _ (by omega)]
        have z := q6 t ht2 h9
        rw [show rgS s (e + g) + 4 + t = rgS s (e + g) + (4 + t) by omega] at z
        exact z
  · unfold wWk
    rw [o16, o16, f2', f3, o6]
    omega
  · rw [o16]
    rw [o8] at t1
    exact k5 t t1 t2
  · rw [o16, ho 258 (by decide) (by decide)]
    exact kS.1
  · rw [f2'] at he
    by_cases e1 : e = k
    · subst e1
      have er : rgS (fKp s) e = (10 * s 15 3).toNat := by
        unfold rgS
        rw [f3, f2']
        omega
      rw [er, h3, fKp_17, if_pos (by omega), show (10 * s 15 3).toNat + 2 - (10 * s 15 3).toNat = 2 by omega]
      exact kS.1
    · have er : rgS (fKp s) e = rgS s (e + g) := by
        unfold rgS
        rw [f3, f2']
        omega
      have ev : fKp s 17 (rgS s (e + g) + 2) = s 17 (rgS s (e + g) + 2) := by
        rw [fKp_17, if_neg ?_]
        unfold rgS
        omega
      rw [er, ev, hm e 3 (by omega) (by decide)]
      exact kS.2 (e + g) (by omega)
theorem AR_sc {a a' : Nat → Int} {s : Sw} {v : Int} (h : AR a s) (h2 : a' 258 = v) (ho : ∀ j : Nat, j < 589 → j ≠ 258 → a' j = a j) : AR a' (sc v s) := by
  have eo : ∀ k j : Nat, ¬ (k = 16 ∧ j = 2) → sc v s k j = s k j := fun k j p => up_ne p
  refine AR.wk h ?_ (fun j j1 _ _ _ => ho j (by omega) (by omega)) (fun q j hq => eo q j (by omega))
  obtain ⟨hT, ⟨b1, b2, b3, b4⟩, k2, k3, ⟨w1, w2, w3, w4, w5, w6, w7, w8⟩, k5, kS⟩ := h
  have er : ∀ e, rgS (sc v s) e = rgS s e := fun e => by unfold rgS; rw [eo 15 2 (by decide), eo 15 3 (by decide)]
  have e17 : sc v s 17 = s 17 := funext fun j => eo 17 j (by omega)
  refine ⟨?_, fun x hx => ?_, fun e he => ?_, ?_, fun x t1 t2 => ?_, ?_, fun e he => ?_⟩
  · unfold aWk
    rw [eo 16 0 (by decide), eo 16 1 (by decide), eo 16 3 (by decide), eo 15 2 (by decide), ho 4 (by decide) (by decide), ho 7 (by decide) (by decide), ho 256 (by decide) (by decide), ho 257 (by decide) (by decide)]
    exact ⟨b1, b2, b3, b4⟩
  · rw [eo 16 _ (by omega), ho _ (by omega) (by omega)]
    exact k2 x hx
  · rw [eo 15 2 (by decide)] at he
    unfold aKe
    rw [er, e17, eo 1 6 (by decide), eo 1 8 (by decide)]
    obtain ⟨q1, q2, q3, q4, q5⟩ := k3 e he
    rw [ho _ (by omega) (by omega), ho _ (by omega) (by omega), ho _ (by omega) (by omega), ho _ (by omega) (by omega)]
    exact ⟨q1, q2, q3, fun y hy => by rw [ho _ (by omega) (by omega)]; exact q4 y hy, q5⟩
  · unfold wWk
    rw [eo 16 0 (by decide), eo 16 1 (by decide), eo 15 2 (by decide), eo 15 3 (by decide), eo 1 6 (by decide)]
    exact ⟨w1, w2, w3, w4, w5, w6, w7, w8⟩
  · rw [eo 1 8 (by decide)] at t1
    rw [eo 16 _ (by omega)]
    exact k5 x t1 t2
  · rw [h2]
    exact up_same.symm
  · rw [eo 15 2 (by decide)] at he
    rw [er, e17, ho _ (by omega) (by omega)]
    exact kS.2 e he
theorem AR_pl {a a' : Nat → Int} {s : Sw} {c f : Int} (h : AR a s) (hc : -1 ≤ c ∧ c < s 1 6) (hf : 0 ≤ f ∧ f ≤ 3) (h1 : a' 256 = c) (h2 : a' 257 = f) (ho : ∀ j : Nat, j < 589 → j ≠ 256 → j ≠ 257 → a' j = a j) : AR a' (fPl c f s) := by
  have eo : ∀ k j : Nat, ¬ (k = 16 ∧ j = 0) → ¬ (k = 16 ∧ j = 1) → fPl c f s k j = s k j := fun k j p q => by
    unfold fPl
    rw [up_ne q, up_ne p]
  refine AR.wk h ?_ (fun j j1 _ _ _ => ho j (by omega) (by omega) (by omega)) (fun q j hq => eo q j (by omega) (by omega))
  obtain ⟨hT, ⟨b1, b2, b3, b4⟩, k2, k3, ⟨w1, w2, w3, w4, w5, w6, w7, w8⟩, k5, kS⟩ := h
  have e0 : fPl c f s 16 0 = c := by unfold fPl; rw [up_ne (by decide), up_same]
  have e1 : fPl c f s 16 1 = f := up_same
  refine ⟨?_, fun t ht2 => ?_, fun e he => ?_, ?_, fun t t1 t2 => ?_, ?_, fun e he => ?_⟩
  · unfold aWk
    rw [e0, e1, eo 16 3 (by decide) (by decide), eo 15 2 (by decide) (by decide), ho 4 (by omega) (by omega) (by omega), ho 7 (by omega) (by omega) (by omega)]
    exact ⟨b1, b2, h1, h2⟩
  · rw [eo 16 _ (by omega) (by omega), ho _ (by omega) (by omega) (by omega)]
    exact k2 t ht2
  · rw [eo 15 2 (by decide) (by decide)] at he
    have er : rgS (fPl c f s) e = rgS s e := by unfold rgS; rw [eo 15 2 (by decide) (by decide), eo 15 3 (by decide) (by decide)]
    have e17 : fPl c f s 17 = s 17 := funext fun j => eo 17 j (by omega) (by omega)
    unfold aKe
    rw [er, e17, eo 1 6 (by decide) (by decide), eo 1 8 (by decide) (by decide)]
    obtain ⟨q1, q2, q3, q4, q5⟩ := k3 e he
    rw [ho _ (by omega) (by omega) (by omega), ho _ (by omega) (by omega) (by omega), ho _ (by omega) (by omega) (by omega), ho _ (by omega) (by omega) (by omega)]
    exact ⟨q1, q2, q3, fun t ht2 => by rw [ho _ (by omega) (by omega) (by omega)]; exact q4 t ht2, q5⟩
  · unfold wWk
    rw [e0, e1, eo 15 2 (by decide) (by decide), eo 15 3 (by decide) (by decide), eo 1 6 (by decide) (by decide)]
    omega
  · rw [eo 1 8 (by decide) (by decide)] at t1
    rw [eo 16 _ (by omega) (by omega)]
    exact k5 t t1 t2
  · rw [eo 16 2 (by decide) (by decide), ho 258 (by decide) (by decide) (by decide)]
    exact kS.1
  · rw [eo 15 2 (by decide) (by decide)] at he
    have er : rgS (fPl c f s) e = rgS s e := by unfold rgS; rw [eo 15 2 (by decide) (by decide), eo 15 3 (by decide) (by decide)]
    rw [er, eo 17 _ (by omega) (by omega), ho _ (by omega) (by omega) (by omega)]
    exact kS.2 e he
theorem AR_place {a a' : Nat → Int} {s : Sw} {c f v : Int} (h : AR a s) (hc : -1 ≤ c ∧ c < s 1 6) (hf : 0 ≤ f ∧ f ≤ 3) (h1 : a' 256 = c) (h2 : a' 257 = f) (h3 : a' 258 = v) (ho : ∀ j : Nat, j < 589 → j ≠ 256 → j ≠ 257 → j ≠ 258 → a' j = a j) : AR a' (sc v (fPl c f s)) :=
  AR_sc (a := fun j => if j = 258 then a 258 else a' j) (AR_pl h hc hf ((if_neg (by decide)).trans h1) ((if_neg (by decide)).trans h2) (fun j j1 j2 j3 => by
    by_cases e : j = 258
    · rw [e]; exact if_pos rfl
    · exact (if_neg e).trans (ho j j1 j2 j3 e))) h3 (fun j j1 j2 => (if_neg j2).symm)
theorem AR_face {a a' : Nat → Int} {s : Sw} {f : Int} (h : AR a s) (hf : 0 ≤ f ∧ f ≤ 3) (h2 : a' 257 = f) (ho : ∀ j : Nat, j < 589 → j ≠ 257 → a' j = a j) : AR a' (up s 16 1 f) := by
  have q := AR_pl (a := a) (a' := a') (c := s 16 0) (f := f) h ⟨h.2.2.2.2.1.2.2.2.2.1, h.2.2.2.2.1.2.2.2.2.2.1⟩ hf ((ho 256 (by decide) (by decide)).trans h.2.1.2.2.1) h2 (fun j j1 _ j3 => ho j j1 j3)
  have e : fPl (s 16 0) f s = up s 16 1 f := by
    funext k j
    unfold fPl up
    by_cases e1 : k = 16 ∧ j = 1
    · rw [if_pos e1, if_pos e1]
    · rw [if_neg e1, if_neg e1]
      by_cases e0 : k = 16 ∧ j = 0
      · rw [if_pos e0, e0.1, e0.2]
      · rw [if_neg e0]
  rw [e] at q
  exact q
theorem AR_ak {a a' : Nat → Int} {s : Sw} {t v : Int} (h : AR a s) (ht : 0 ≤ t ∧ t < s 1 8) (h2 : a' (154 + 5 * t + 4).toNat = v) (ho : ∀ j : Nat, j < 589 → (j : Int) ≠ 154 + 5 * t + 4 → a' j = a j) : AR a' (up s 16 (4 + t).toNat v) := by
  have eo : ∀ k j : Nat, ¬ (k = 16 ∧ j = (4 + t).toNat) → up s 16 (4 + t).toNat v k j = s k j := fun k j p => up_ne p
  have h8 := h.1.2.2.2.2.2.2.2
  obtain ⟨_, _, _, h86, _⟩ := h8
  refine AR.wk h ?_ (fun j j1 _ _ _ => ho j (by omega) (by omega)) (fun q j hq => eo q j (by omega))
  obtain ⟨hT, ⟨b1, b2, b3, b4⟩, k2, k3, ⟨w1, w2, w3, w4, w5, w6, w7, w8⟩, k5, kS⟩ := h
  refine ⟨?_, fun x hx => ?_, fun e he => ?_, ?_, fun x t1 t2 => ?_, ?_, fun e he => ?_⟩
  · unfold aWk
    rw [eo 16 0 (by omega), eo 16 1 (by omega), eo 16 3 (by omega), eo 15 2 (by omega), ho 4 (by omega) (by omega), ho 7 (by omega) (by omega), ho 256 (by omega) (by omega), ho 257 (by omega) (by omega)]
    exact ⟨b1, b2, b3, b4⟩
  · by_cases e : (x : Int) = t
    · rw [show 4 + x = (4 + t).toNat by omega, up_same, show 154 + 5 * x + 4 = (154 + 5 * t + 4).toNat by omega]
      exact h2
    · rw [eo 16 _ (by omega), ho _ (by omega) (by omega)]
      exact k2 x hx
  · rw [eo 15 2 (by omega)] at he
    have er : rgS (up s 16 (4 + t).toNat v) e = rgS s e := by unfold rgS; rw [eo 15 2 (by omega), eo 15 3 (by omega)]
    have e17 : up s 16 (4 + t).toNat v 17 = s 17 := funext fun j => eo 17 j (by omega)
    unfold aKe
    rw [er, e17, eo 1 6 (by omega), eo 1 8 (by omega)]
    obtain ⟨q1, q2, q3, q4, q5⟩ := k3 e he
    rw [ho _ (by omega) (by omega), ho _ (by omega) (by omega), ho _ (by omega) (by omega), ho _ (by omega) (by omega)]
    exact ⟨q1, q2, q3, fun y hy => by rw [ho _ (by omega) (by omega)]; exact q4 y hy, q5⟩
  · unfold wWk
    rw [eo 16 0 (by omega), eo 16 1 (by omega), eo 15 2 (by omega), eo 15 3 (by omega), eo 1 6 (by omega)]
    exact ⟨w1, w2, w3, w4, w5, w6, w7, w8⟩
  · rw [eo 1 8 (by omega)] at t1
    rw [eo 16 _ (by omega)]
    exact k5 x t1 t2
  · rw [eo 16 2 (by omega), ho 258 (by decide) (by omega)]
    exact kS.1
  · rw [eo 15 2 (by omega)] at he
    have er : rgS (up s 16 (4 + t).toNat v) e = rgS s e := by unfold rgS; rw [eo 15 2 (by omega), eo 15 3 (by omega)]
    rw [er, eo 17 _ (by omega), ho _ (by omega) (by omega)]
    exact kS.2 e he
theorem AR_ask {a a' : Nat → Int} {s : Sw} {t v u : Int} (h : AR a s) (ht : 0 ≤ t ∧ t < s 1 8) (h2 : a' (154 + 5 * t + 4).toNat = v) (h3 : a' 258 = u) (ho : ∀ j : Nat, j < 589 → (j : Int) ≠ 154 + 5 * t + 4 → j ≠ 258 → a' j = a j) : AR a' (up (sc u s) 16 (4 + t).toNat v) := by
  have h8 := h.1.2.2.2.2.2.2.2
  obtain ⟨_, _, _, h86, _⟩ := h8
  refine AR_ak (a := fun j => if j = 258 then u else a j) (AR_sc h (if_pos rfl) (fun j j1 j2 => if_neg j2)) ⟨ht.1, by rw [show sc u s 1 8 = s 1 8 from up_ne (by decide)]; exact ht.2⟩ h2 (fun j j1 j2 => ?_)
  by_cases e : j = 258
  · rw [e, h3]; exact (if_pos rfl).symm
  · exact (ho j j1 j2 e).trans (if_neg e).symm
theorem AR_X {a a' : Nat → Int} {s : Sw} {v : Int} (h : AR a s) (h2 : a' 4 = v) (ho : ∀ j : Nat, j < 589 → j ≠ 4 → a' j = a j) : AR a' (up s 16 3 v) := by
  have eo : ∀ k j : Nat, ¬ (k = 16 ∧ j = 3) → up s 16 3 v k j = s k j := fun k j p => up_ne p
  refine AR.wk h ?_ (fun j j1 j4 _ _ => ho j (by omega) j4) (fun q j hq => eo q j (by omega))
  obtain ⟨hT, ⟨b1, b2, b3, b4⟩, k2, k3, ⟨w1, w2, w3, w4, w5, w6, w7, w8⟩, k5, kS⟩ := h
  refine ⟨?_, fun x hx => ?_, fun e he => ?_, ?_, fun x t1 t2 => ?_, ?_, fun e he => ?_⟩
  · unfold aWk
    rw [eo 16 0 (by decide), eo 16 1 (by decide), show up s 16 3 v 16 3 = v from up_same, eo 15 2 (by decide), ho 7 (by decide) (by decide), ho 256 (by decide) (by decide), ho 257 (by decide) (by decide)]
    exact ⟨h2, b2, b3, b4⟩
  · rw [eo 16 _ (by omega), ho _ (by omega) (by omega)]
    exact k2 x hx
  · rw [eo 15 2 (by decide)] at he
    have er : rgS (up s 16 3 v) e = rgS s e := by unfold rgS; rw [eo 15 2 (by decide), eo 15 3 (by decide)]
    have e17 : up s 16 3 v 17 = s 17 := funext fun j => eo 17 j (by omega)
    unfold aKe
    rw [er, e17, eo 1 6 (by decide), eo 1 8 (by decide)]
    obtain ⟨q1, q2, q3, q4, q5⟩ := k3 e he
    rw [ho _ (by omega) (by omega), ho _ (by omega) (by omega), ho _ (by omega) (by omega), ho _ (by omega) (by omega)]
    exact ⟨q1, q2, q3, fun y hy => by rw [ho _ (by omega) (by omega)]; exact q4 y hy, q5⟩
  · unfold wWk
    rw [eo 16 0 (by decide), eo 16 1 (by decide), eo 15 2 (by decide), eo 15 3 (by decide), eo 1 6 (by decide)]
    exact ⟨w1, w2, w3, w4, w5, w6, w7, w8⟩
  · rw [eo 1 8 (by decide)] at t1
    rw [eo 16 _ (by omega)]
    exact k5 x t1 t2
  · rw [eo 16 2 (by decide), ho 258 (by decide) (by decide)]
    exact kS.1
  · rw [eo 15 2 (by decide)] at he
    have er : rgS (up s 16 3 v) e = rgS s e := by unfold rgS; rw [eo 15 2 (by decide), eo 15 3 (by decide)]
    rw [er, eo 17 _ (by omega), ho _ (by omega) (by omega)]
    exact kS.2 e he
theorem AR_undo {a a' : Nat → Int} {s : Sw} {k : Nat} (h : AR a s) (hk : (k : Int) + 1 = s 15 2) (h7 : a' 7 = k) (h1 : a' 256 = a (259 + 11 * k + 1)) (h2 : a' 257 = a (259 + 11 * k + 2)) (h3 : a' 258 = a (259 + 11 * k + 3)) (ht : ∀ t : Nat, (t : Int) < a 2 → a' (154 + 5 * t + 4) = if (t : Int) < a (259 + 11 * k) then a (259 + 11 * k + 4 + t) else 0) (hx : a' 4 = a (259 + 11 * k + 10)) (ho : ∀ j : Nat, j < 589 → j ≠ 4 → j ≠ 7 → j ≠ 256 → j ≠ 257 → j ≠ 258 → ¬ (154 ≤ j ∧ (j : Int) < 154 + 5 * a 2 ∧ (j - 154) % 5 = 4) → a' j = a j) : AR a' (fBk s) := by
  have es : ∀ k j : Nat, k ≠ 15 → k ≠ 16 → fBk s k j = s k j := fun k j p q => by
    unfold fBk cpB
    rw [if_neg (fun e => q e.1), up_ne (fun e => p e.1), up_ne (fun e => p e.1)]
  have h28 : a 2 = s 1 8 := h.1.1.2.2.1
  have h8 := h.1.2.2.2.2.2.2.2
  obtain ⟨_, _, h83, h86, _⟩ := h8
  refine AR.wk h ?_ (fun j j1 j4 j7 j5 => ho j (by omega) j4 j7 (by omega) (by omega) (by omega) (by omega)) (fun q j hq => es q j (by omega) (by omega))
  obtain ⟨hT, ⟨b1, b2, b3, b4⟩, k2, k3, ⟨w1, w2, w3, w4, w5, w6, w7, w8⟩, k5, kS⟩ := h
  have f3 : fBk s 15 3 = (s 15 3 + 30 - 1) % 30 := by
    unfold fBk cpB
    rw [if_neg (fun e => by omega), up_ne (by decide), up_same]
  have f2 : fBk s 15 2 = k := by
    unfold fBk cpB
    rw [if_neg (fun e => by omega), up_same]
    omega
  have er : (10 * ((s 15 3 + 30 - 1) % 30)).toNat = rgS s k := by
    unfold rgS
    rw [← hk]
    omega
  have f16 : ∀ j : Nat, j < 10 → fBk s 16 j = s 17 (rgS s k + j) := fun j hj => by
    unfold fBk
    rw [er]
    unfold cpB
    rw [if_pos ⟨rfl, hj⟩, up_ne (fun e => by omega), up_ne (fun e => by omega)]
  obtain ⟨q1, q2, q3, q4, q5, q6, q7, q8, q9, q10⟩ := k3 k (by omega)
  have g0 := f16 0 (by decide)
  rw [Nat.add_zero] at g0
  refine ⟨?_, fun x hx2 => ?_, fun e he => ?_, ?_, fun x t1 t2 => ?_, ?_, fun e he => ?_⟩
  · unfold aWk
    rw [g0, f16 1 (by decide), f16 3 (by decide), f2]
    exact ⟨hx.trans q3, h7, h1.trans q1, h2.trans q2⟩
  · rw [f16 _ (by omega), ← Nat.add_assoc]
    by_cases e : (x : Int) < a 2
    · rw [ht x e]
      by_cases e2 : (x : Int) < a (259 + 11 * k)
      · rw [if_pos e2]; exact q4 x hx2
      · rw [if_neg e2]; exact (q6 x hx2 (by omega)).symm
    · rw [ho _ (by omega) (by omega) (by omega) (by omega) (by omega) (by omega) (by omega), k2 x hx2, k5 x (by omega) hx2]
      exact (q6 x hx2 (by omega)).symm
  · rw [f2] at he
    have er2 : rgS (fBk s) e = rgS s e := by
      unfold rgS
      rw [f2, f3, ← hk]
      omega
    have e17 : fBk s 17 = s 17 := funext fun j => es 17 j (by decide) (by decide)
    unfold aKe
    rw [er2, e17, es 1 6 (by decide) (by decide), es 1 8 (by decide) (by decide)]
    obtain ⟨p1, p2, p3, p4, p5⟩ := k3 e (by omega)
    rw [ho _ (by omega) (by omega) (by omega) (by omega) (by omega) (by omega) (by omega), ho _ (by omega) (by omega) (by omega) (by omega) (by omega) (by omega) (by omega), ho _ (by omega) (by omega) (by omega) (by omega) (by omega) (by omega) (by omega), ho _ (by omega) (by omega) (by omega) (by omega) (by omega) (by omega) (by omega)]
    exact ⟨p1, p2, p3, fun y hy => by rw [ho _ (by omega) (by omega) (by omega) (by omega) (by omega) (by omega) (by omega)]; exact p4 y hy, p5⟩
  · unfold wWk
    rw [g0, f16 1 (by decide), f2, f3, es 1 6 (by decide) (by decide)]
    omega
  · rw [es 1 8 (by decide) (by decide)] at t1
    rw [f16 _ (by omega), ← Nat.add_assoc]
    exact q6 x t2 (by omega)
  · rw [f16 2 (by decide)]
    exact h3.trans (kS.2 k (by omega))
  · rw [f2] at he
    have er2 : rgS (fBk s) e = rgS s e := by
      unfold rgS
      rw [f2, f3, ← hk]
      omega
    rw [er2, es 17 _ (by decide) (by decide), ho _ (by omega) (by omega) (by omega) (by omega) (by omega) (by omega) (by omega)]
    exact kS.2 e (by omega)
