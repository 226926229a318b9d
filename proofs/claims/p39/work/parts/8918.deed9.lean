/-! THE DEEDS on both rows: the relation stays -/
theorem AR_corner {a a' : Nat → Int} {s : Sw} {v : Int} (h : AR a s) (hn : s 1 6 < 16) (h0 : a' 0 = s 1 6 + 1) (h1 : a' (10 + 9 * (s 1 6).toNat) = v) (hst : ∀ d : Nat, d < 4 → a' (10 + 9 * (s 1 6).toNat + 1 + d) = -1 ∧ a' (10 + 9 * (s 1 6).toNat + 5 + d) = -1) (ho : ∀ j : Nat, j ≠ 0 → ¬ (10 + 9 * (s 1 6).toNat ≤ j ∧ j < 10 + 9 * (s 1 6).toNat + 9) → a' j = a j) : AR a' (up (up s 2 (s 1 6).toNat v) 1 6 (s 1 6 + 1)) := by
  obtain ⟨⟨⟨c1, c2, c3, c4, c5, c6⟩, h2, h3, h4, h5, h6, h7, h8⟩, hw⟩ := h
  have w := h8
  obtain ⟨w1, w2, w3, w4, w5, w6, w7, w8, w9⟩ := w
  have e6 : up (up s 2 (s 1 6).toNat v) 1 6 (s 1 6 + 1) 1 6 = s 1 6 + 1 := up_same
  have eo : ∀ k j : Nat, k ≠ 2 → ¬ (k = 1 ∧ j = 6) → up (up s 2 (s 1 6).toNat v) 1 6 (s 1 6 + 1) k j = s k j := fun k j a b => by
    rw [up_ne b, up_ne (fun e => a e.1)]
  refine ⟨⟨?_, fun c hc => ?_, fun t ht j hj => ?_, fun t ht => ?_, ⟨fun j h1 h2 => ?_, fun j h1 => ?_, fun j => ?_⟩, fun t ht => ?_, fun t ht => ?_, ?_⟩, hw.co (fun j hj => ho j (by omega) (by omega)) (fun k j k1 k2 => eo k j (by omega) (by omega)) (by rw [e6]; omega) (by rw [eo 1 8 (by decide) (by decide)]; omega)⟩
  · unfold aSc
    rw [e6, eo 1 7 (by decide) (by decide), eo 1 8 (by decide) (by decide), eo 1 9 (by decide) (by decide), eo 1 10 (by decide) (by decide), eo 1 11 (by decide) (by decide), h0, ho 1 (by decide) (by omega), ho 2 (by decide) (by omega), ho 3 (by decide) (by omega), ho 5 (by decide) (by omega), ho 6 (by decide) (by omega)]
    exact ⟨rfl, c2, c3, c4, c5, c6⟩
  · rw [e6] at hc
    have e2 : up (up s 2 (s 1 6).toNat v) 1 6 (s 1 6 + 1) 2 c = if c = (s 1 6).toNat then v else s 2 c := by
      rw [up_ne (by omega)]
      by_cases e : c = (s 1 6).toNat
      · rw [if_pos e, e, up_same]
      · rw [if_neg e, up_ne (fun q => e q.2)]
    rw [e2]
    by_cases e : c = (s 1 6).toNat
    · rw [if_pos e, e]
      refine ⟨h1, fun d hd => ?_⟩
      have q := h5.1 (4 * (s 1 6).toNat + d) (by omega) (by omega)
      rw [eo 3 _ (by decide) (by omega), q, if_pos rfl]
      exact hst d hd
    · obtain ⟨p, q⟩ := h2 c (by omega)
      rw [if_neg e]
      refine ⟨by rw [ho _ (by omega) (by omega)]; exact p, fun d hd => ?_⟩
      rw [eo 3 _ (by decide) (by omega), eo 4 _ (by decide) (by omega), ho _ (by omega) (by omega), ho _ (by omega) (by omega)]
      exact q d hd
  · rw [eo 1 8 (by decide) (by decide)] at ht
    rw [eo 5 _ (by decide) (by omega), ho _ (by omega) (by omega)]
    exact h3 t ht j hj
  · rw [eo 1 9 (by decide) (by decide)] at ht
    rw [eo 6 _ (by decide) (by omega), eo 6 _ (by decide) (by omega), eo 6 _ (by decide) (by omega), ho _ (by omega) (by omega), ho _ (by omega) (by omega), ho _ (by omega) (by omega)]
    refine ⟨(h4 t ht).1, fun i hi => ?_⟩
    rw [eo 6 _ (by decide) (by omega), ho _ (by omega) (by omega)]
    exact (h4 t ht).2 i hi
  · rw [e6] at h1
    rw [eo 3 _ (by decide) (by omega)]
    exact h5.1 j (by omega) h2
  · rw [e6, eo 3 _ (by decide) (by omega)]
    have := h5.2.1 j h1
    omega
  · rw [eo 4 _ (by decide) (by omega)]
    exact h5.2.2 j
  · rw [eo 1 8 (by decide) (by decide)] at ht
    rw [eo 5 _ (by decide) (by omega), e6]
    have := h6 t ht
    omega
  · rw [eo 1 9 (by decide) (by decide)] at ht
    rw [eo 6 _ (by decide) (by omega), eo 6 _ (by decide) (by omega), eo 6 _ (by decide) (by omega), eo 1 8 (by decide) (by decide)]
    obtain ⟨q1, q2, q3, q4, q5, q6, q7⟩ := h7 t ht
    exact ⟨q1, q2, q3, q4, q5, q6, fun i hi => by rw [eo 6 _ (by decide) (by omega)]; exact q7 i hi⟩
  · unfold wSc
    rw [e6, eo 1 7 (by decide) (by decide), eo 1 8 (by decide) (by decide), eo 1 9 (by decide) (by decide), eo 1 10 (by decide) (by decide), eo 1 11 (by decide) (by decide)]
    omega
theorem AR_goal {a a' : Nat → Int} {s : Sw} {v : Int} (h : AR a s) (hv : -1 ≤ v ∧ v < s 1 6) (h1 : a' 1 = v) (ho : ∀ j : Nat, j ≠ 1 → a' j = a j) : AR a' (up s 1 7 v) := by
  obtain ⟨⟨⟨c1, c2, c3, c4, c5, c6⟩, h2, h3, h4, h5, h6, h7, h8⟩, hw⟩ := h
  obtain ⟨w1, w2, w3, w4, w5, w6, w7, w8, w9⟩ := h8
  have e7 : up s 1 7 v 1 7 = v := up_same
  have eo : ∀ k j : Nat, ¬ (k = 1 ∧ j = 7) → up s 1 7 v k j = s k j := fun k j b => up_ne b
  have es : ∀ k : Nat, k ≠ 1 → up s 1 7 v k = s k := fun k hk => funext fun j => eo k j (fun e => hk e.1)
  refine ⟨⟨?_, ?_, ?_, ?_, ?_, ?_, ?_, ?_⟩, hw.co (fun j hj => ho j (by omega)) (fun k j k1 k2 => eo k j (by omega)) (by rw [eo 1 6 (by decide)]; omega) (by rw [eo 1 8 (by decide)]; omega)⟩
  · unfold aSc
    rw [e7, eo 1 6 (by decide), eo 1 8 (by decide), eo 1 9 (by decide), eo 1 10 (by decide), eo 1 11 (by decide), h1, ho 0 (by decide), ho 2 (by decide), ho 3 (by decide), ho 5 (by decide), ho 6 (by decide)]
    exact ⟨c1, rfl, c3, c4, c5, c6⟩
  · unfold aCo
    rw [eo 1 6 (by decide), es 2 (by decide), es 3 (by decide), es 4 (by decide)]
    intro c hc
    obtain ⟨p, q⟩ := h2 c hc
    exact ⟨by rw [ho _ (by omega)]; exact p, fun d hd => by rw [ho _ (by omega), ho _ (by omega)]; exact q d hd⟩
  · unfold aTe
    rw [eo 1 8 (by decide), es 5 (by decide)]
    exact fun t ht j hj => by rw [ho _ (by omega)]; exact h3 t ht j hj
  · unfold aTg
    rw [eo 1 9 (by decide), es 6 (by decide)]
    exact fun t ht => by rw [ho _ (by omega), ho _ (by omega), ho _ (by omega)]; exact ⟨(h4 t ht).1, fun i hi => by rw [ho _ (by omega)]; exact (h4 t ht).2 i hi⟩
  · unfold wTo
    rw [eo 1 6 (by decide), es 3 (by decide), es 4 (by decide)]
    exact h5
  · unfold wTe
    rw [eo 1 6 (by decide), eo 1 8 (by decide), es 5 (by decide)]
    exact h6
  · unfold wTg
    rw [eo 1 8 (by decide), eo 1 9 (by decide), es 6 (by decide)]
    exact h7
  · unfold wSc
    rw [e7, eo 1 6 (by decide), eo 1 8 (by decide), eo 1 9 (by decide), eo 1 10 (by decide), eo 1 11 (by decide)]
    omega
theorem AR_by {a a' : Nat → Int} {s : Sw} {v : Int} (h : AR a s) (hv : -1 ≤ v ∧ v < s 1 10) (h1 : a' 6 = v) (ho : ∀ j : Nat, j ≠ 6 → a' j = a j) : AR a' (up s 1 11 v) := by
  obtain ⟨⟨⟨c1, c2, c3, c4, c5, c6⟩, h2, h3, h4, h5, h6, h7, h8⟩, hw⟩ := h
  obtain ⟨w1, w2, w3, w4, w5, w6, w7, w8, w9, w10, w11⟩ := h8
  have e7 : up s 1 11 v 1 11 = v := up_same
  have eo : ∀ k j : Nat, ¬ (k = 1 ∧ j = 11) → up s 1 11 v k j = s k j := fun k j b => up_ne b
  have es : ∀ k : Nat, k ≠ 1 → up s 1 11 v k = s k := fun k hk => funext fun j => eo k j (fun e => hk e.1)
  refine ⟨⟨?_, ?_, ?_, ?_, ?_, ?_, ?_, ?_⟩, hw.co (fun j hj => ho j (by omega)) (fun k j k1 k2 => eo k j (by omega)) (by rw [eo 1 6 (by decide)]; omega) (by rw [eo 1 8 (by decide)]; omega)⟩
  · unfold aSc
    rw [e7, eo 1 6 (by decide), eo 1 7 (by decide), eo 1 8 (by decide), eo 1 9 (by decide), eo 1 10 (by decide), h1, ho 0 (by decide), ho 1 (by decide), ho 2 (by decide), ho 3 (by decide), ho 5 (by decide)]
    exact ⟨c1, c2, c3, c4, c5, rfl⟩
  · unfold aCo
    rw [eo 1 6 (by decide), es 2 (by decide), es 3 (by decide), es 4 (by decide)]
    intro c hc
    obtain ⟨p, q⟩ := h2 c hc
    exact ⟨by rw [ho _ (by omega)]; exact p, fun d hd => by rw [ho _ (by omega), ho _ (by omega)]; exact q d hd⟩
  · unfold aTe
    rw [eo 1 8 (by decide), es 5 (by decide)]
    exact fun t ht j hj => by rw [ho _ (by omega)]; exact h3 t ht j hj
  · unfold aTg
    rw [eo 1 9 (by decide), es 6 (by decide)]
    exact fun t ht => by rw [ho _ (by omega), ho _ (by omega), ho _ (by omega)]; exact ⟨(h4 t ht).1, fun i hi => by rw [ho _ (by omega)]; exact (h4 t ht).2 i hi⟩
  · unfold wTo
    rw [eo 1 6 (by decide), es 3 (by decide), es 4 (by decide)]
    exact h5
  · unfold wTe
    rw [eo 1 6 (by decide), eo 1 8 (by decide), es 5 (by decide)]
    exact h6
  · unfold wTg
    rw [eo 1 8 (by decide), eo 1 9 (by decide), es 6 (by decide)]
    exact h7
  · unfold wSc
    rw [e7, eo 1 6 (by decide), eo 1 7 (by decide), eo 1 8 (by decide), eo 1 9 (by decide), eo 1 10 (by decide)]
    omega
theorem AR_street {a a' : Nat → Int} {s : Sw} {f d t la : Int} (h : AR a s) (ok : okSt f d t s) (hla : la = 0 ∨ la = 1) (h1 : a' (10 + 9 * f + 1 + d).toNat = t) (h2 : a' (10 + 9 * t + 1 + (d + 2) % 4).toNat = f) (h3 : a' (10 + 9 * f + 5 + d).toNat = la) (h4 : a' (10 + 9 * t + 5 + (d + 2) % 4).toNat = la) (ho : ∀ j : Nat, (j : Int) ≠ 10 + 9 * f + 1 + d → (j : Int) ≠ 10 + 9 * t + 1 + (d + 2) % 4 → (j : Int) ≠ 10 + 9 * f + 5 + d → (j : Int) ≠ 10 + 9 * t + 5 + (d + 2) % 4 → a' j = a j) : AR a' (stS f d t la s) := by
  obtain ⟨⟨⟨c1, c2, c3, c4, c5, c6⟩, k2, k3, k4, k5, k6, k7, k8⟩, hw⟩ := h
  obtain ⟨o1, o2, o3, o4, o5, o6, o7, o8, o9⟩ := ok
  have w := k8
  obtain ⟨w1, w2, w3, w4, w5, w6, w7, w8, w9⟩ := w
  have es : ∀ k j : Nat, k ≠ 3 → k ≠ 4 → stS f d t la s k j = s k j := fun k j a b => by
    unfold stS
    rw [up_ne (fun e => b e.1), up_ne (fun e => b e.1), up_ne (fun e => a e.1), up_ne (fun e => a e.1)]
  have e3 : ∀ j : Nat, stS f d t la s 3 j = if (j : Int) = 4 * t + (d + 2) % 4 then f else if (j : Int) = 4 * f + d then t else s 3 j := fun j => by
    unfold stS
    rw [up_ne (by omega), up_ne (by omega)]
    by_cases q : (j : Int) = 4 * t + (d + 2) % 4
    · rw [if_pos q, show j = (4 * t + (d + 2) % 4).toNat by omega, up_same]
    · rw [if_neg q, up_ne (by omega)]
      by_cases q2 : (j : Int) = 4 * f + d
      · rw [if_pos q2, show j = (4 * f + d).toNat by omega, up_same]
      · rw [if_neg q2, up_ne (by omega)]
  have e4 : ∀ j : Nat, stS f d t la s 4 j = if (j : Int) = 4 * t + (d + 2) % 4 ∨ (j : Int) = 4 * f + d then la else s 4 j := fun j => by
    unfold stS
    by_cases q : (j : Int) = 4 * t + (d + 2) % 4
    · rw [if_pos (Or.inl q), show j = (4 * t + (d + 2) % 4).toNat by omega, up_same]
    · rw [up_ne (by omega)]
      by_cases q2 : (j : Int) = 4 * f + d
      · rw [if_pos (Or.inr q2), show j = (4 * f + d).toNat by omega, up_same]
      · rw [if_neg (by omega), up_ne (by omega), up_ne (by omega), up_ne (by omega)]
  refine ⟨⟨?_, fun c hc => ?_, fun x hx j hj => ?_, fun x hx => ?_, ⟨fun j j1 j2 => ?_, fun j j1 => ?_, fun j => ?_⟩, fun x hx => ?_, fun x hx => ?_, ?_⟩, hw.co (fun j hj => ho j (by omega) (by omega) (by omega) (by omega)) (fun k j a b => es k j (by omega) (by omega)) (by rw [es 1 6 (by decide) (by decide)]; omega) (by rw [es 1 8 (by decide) (by decide)]; omega)⟩
  · unfold aSc
    rw [es 1 6 (by decide) (by decide), es 1 7 (by decide) (by decide), es 1 8 (by decide) (by decide), es 1 9 (by decide) (by decide), es 1 10 (by decide) (by decide), es 1 11 (by decide) (by decide), ho 0 (by omega) (by omega) (by omega) (by omega), ho 1 (by omega) (by omega) (by omega) (by omega), ho 2 (by omega) (by omega) (by omega) (by omega), ho 3 (by omega) (by omega) (by omega) (by omega), ho 5 (by omega) (by omega) (by omega) (by omega), ho 6 (by omega) (by omega) (by omega) (by omega)]
    exact ⟨c1, c2, c3, c4, c5, c6⟩
  · rw [es 1 6 (by decide) (by decide)] at hc
    obtain ⟨p, q⟩ := k2 c hc
    refine ⟨by rw [ho _ (by omega) (by omega) (by omega) (by omega), es 2 _ (by decide) (by decide)]; exact p, fun x hx => ?_⟩
    obtain ⟨q1, q2⟩ := q x hx
    rw [e3, e4]
    by_cases y1 : ((4 * c + x : Nat) : Int) = 4 * t + (d + 2) % 4
    · have yc : (c : Int) = t := by omega
      have yx : (x : Int) = (d + 2) % 4 := by omega
      rw [if_pos y1, if_neg (by omega), if_pos (Or.inl y1), show 10 + 9 * c + 1 + x = (10 + 9 * t + 1 + (d + 2) % 4).toNat by omega, show 10 + 9 * c + 5 + x = (10 + 9 * t + 5 + (d + 2) % 4).toNat by omega]
      exact ⟨h2, h4⟩
    · rw [if_neg y1]
      by_cases y2 : ((4 * c + x : Nat) : Int) = 4 * f + d
      · have yc : (c : Int) = f := by omega
        have yx : (x : Int) = d := by omega
        rw [if_pos y2, if_neg (by omega), if_pos (Or.inr y2), show 10 + 9 * c + 1 + x = (10 + 9 * f + 1 + d).toNat by omega, show 10 + 9 * c + 5 + x = (10 + 9 * f + 5 + d).toNat by omega]
        exact ⟨h1, h3⟩
      · rw [if_neg y2, if_neg (show ¬ (((4 * c + x : Nat) : Int) = 4 * t + (d + 2) % 4 ∨ ((4 * c + x : Nat) : Int) = 4 * f + d) by omega), ho _ (by omega) (by omega) (by omega) (by omega), ho _ (by omega) (by omega) (by omega) (by omega)]
        exact ⟨q1, q2⟩
  · rw [es 1 8 (by decide) (by decide)] at hx
    rw [es 5 _ (by decide) (by decide), ho _ (by omega) (by omega) (by omega) (by omega)]
    exact k3 x hx j hj
  · rw [es 1 9 (by decide) (by decide)] at hx
    rw [es 6 _ (by decide) (by decide), es 6 _ (by decide) (by decide), es 6 _ (by decide) (by decide), ho _ (by omega) (by omega) (by omega) (by omega), ho _ (by omega) (by omega) (by omega) (by omega), ho _ (by omega) (by omega) (by omega) (by omega)]
    refine ⟨(k4 x hx).1, fun i hi => ?_⟩
    rw [es 6 _ (by decide) (by decide), ho _ (by omega) (by omega) (by omega) (by omega)]
    exact (k4 x hx).2 i hi
  · rw [es 1 6 (by decide) (by decide)] at j1
    rw [e3, if_neg (by omega), if_neg (by omega)]
    exact k5.1 j j1 j2
  · rw [es 1 6 (by decide) (by decide), e3]
    have q := k5.2.1 j j1
    split
    · omega
    · split <;> omega
  · rw [e4]
    split
    · exact hla
    · exact k5.2.2 j
  · rw [es 1 8 (by decide) (by decide)] at hx
    rw [es 5 _ (by decide) (by decide), es 1 6 (by decide) (by decide)]
    exact k6 x hx
  · rw [es 1 9 (by decide) (by decide)] at hx
    rw [es 6 _ (by decide) (by decide), es 6 _ (by decide) (by decide), es 6 _ (by decide) (by decide), es 1 8 (by decide) (by decide)]
    obtain ⟨q1, q2, q3, q4, q5, q6, q7⟩ := k7 x hx
    exact ⟨q1, q2, q3, q4, q5, q6, fun i hi => by rw [es 6 _ (by decide) (by decide)]; exact q7 i hi⟩
  · unfold wSc
    rw [es 1 6 (by decide) (by decide), es 1 7 (by decide) (by decide), es 1 8 (by decide) (by decide), es 1 9 (by decide) (by decide), es 1 10 (by decide) (by decide), es 1 11 (by decide) (by decide)]
    exact k8

theorem AR_teller {a a' : Nat → Int} {s : Sw} {c v w m : Int} (h : AR a s) (ok : okTe c v w m s) (h2' : a' 2 = s 1 8 + 1) (h0 : a' (154 + 5 * (s 1 8).toNat) = c) (h1 : a' (154 + 5 * (s 1 8).toNat + 1) = v) (h2 : a' (154 + 5 * (s 1 8).toNat + 2) = w) (h3 : a' (154 + 5 * (s 1 8).toNat + 3) = m) (h4 : a' (154 + 5 * (s 1 8).toNat + 4) = 0) (ho : ∀ j : Nat, j ≠ 2 → ¬ (154 + 5 * (s 1 8).toNat ≤ j ∧ j < 154 + 5 * (s 1 8).toNat + 5) → a' j = a j) : AR a' (teS c v w m s) := by
  obtain ⟨⟨⟨c1, c2, c3, c4, c5, c6⟩, k2, k3, k4, k5, k6, k7, k8⟩, hw⟩ := h
  obtain ⟨o1, o2, o3, o4, o5, o6, o7, o8, o9⟩ := ok
  have w0 := k8
  obtain ⟨w1, w2, w3, w4, w5, w6, w7, w8, w9⟩ := w0
  have es : ∀ k j : Nat, k ≠ 5 → ¬ (k = 1 ∧ j = 8) → teS c v w m s k j = s k j := fun k j a b => by
    unfold teS
    rw [up_ne b, up_ne (fun e => a e.1), up_ne (fun e => a e.1), up_ne (fun e => a e.1), up_ne (fun e => a e.1)]
  have e8 : teS c v w m s 1 8 = s 1 8 + 1 := up_same
  have e5 : ∀ j : Nat, (j : Int) < 4 * s 1 8 → teS c v w m s 5 j = s 5 j := fun j hj => by
    unfold teS
    rw [up_ne (by omega), up_ne (by omega), up_ne (by omega), up_ne (by omega), up_ne (by omega)]
  have f0 : teS c v w m s 5 (4 * (s 1 8).toNat) = c := by
    unfold teS
    rw [up_ne (by omega), up_ne (by omega), up_ne (by omega), up_ne (by omega), show 4 * (s 1 8).toNat = (4 * s 1 8).toNat by omega, up_same]
  have f1 : teS c v w m s 5 (4 * (s 1 8).toNat + 1) = v := by
    unfold teS
    rw [up_ne (by omega), up_ne (by omega), up_ne (by omega), show 4 * (s 1 8).toNat + 1 = (4 * s 1 8 + 1).toNat by omega, up_same]
  have f2 : teS c v w m s 5 (4 * (s 1 8).toNat + 2) = w := by
    unfold teS
    rw [up_ne (by omega), up_ne (by omega), show 4 * (s 1 8).toNat + 2 = (4 * s 1 8 + 2).toNat by omega, up_same]
  have f3 : teS c v w m s 5 (4 * (s 1 8).toNat + 3) = m := by
    unfold teS
    rw [up_ne (by omega), show 4 * (s 1 8).toNat + 3 = (4 * s 1 8 + 3).toNat by omega, up_same]
  have hk := hw.2.1
  have hz := hw.2.2.2.2.1
  refine ⟨⟨?_, fun x hx => ?_, fun t ht j hj => ?_, fun t ht => ?_, ?_, fun t ht => ?_, fun t ht => ?_, ?_⟩, hw.co (fun j hj => ?_) (fun k j k1 k2 => es k j (by omega) (by omega)) (by rw [es 1 6 (by decide) (by decide)]; omega) (by rw [e8]; omega)⟩
  · unfold aSc
    rw [e8, es 1 6 (by decide) (by decide), es 1 7 (by decide) (by decide), es 1 9 (by decide) (by decide), es 1 10 (by decide) (by decide), es 1 11 (by decide) (by decide), h2', ho 0 (by decide) (by omega), ho 1 (by decide) (by omega), ho 3 (by decide) (by omega), ho 5 (by decide) (by omega), ho 6 (by decide) (by omega)]
    exact ⟨c1, c2, rfl, c4, c5, c6⟩
  · rw [es 1 6 (by decide) (by decide)] at hx
    obtain ⟨p, q⟩ := k2 x hx
    refine ⟨by rw [es 2 _ (by decide) (by omega), ho _ (by omega) (by omega)]; exact p, fun d hd => ?_⟩
    rw [es 3 _ (by decide) (by omega), es 4 _ (by decide) (by omega), ho _ (by omega) (by omega), ho _ (by omega) (by omega)]
    exact q d hd
  · rw [e8] at ht
    by_cases e : t = (s 1 8).toNat
    · subst e
      rcases (by omega : j = 0 ∨ j = 1 ∨ j = 2 ∨ j = 3) with rfl | rfl | rfl | rfl
      · exact h0.trans f0.symm
      · exact h1.trans f1.symm
      · exact h2.trans f2.symm
      · exact h3.trans f3.symm
    · rw [e5 _ (by omega), ho _ (by omega) (by omega)]
      exact k3 t (by omega) j hj
  · rw [es 1 9 (by decide) (by decide)] at ht
    rw [es 6 _ (by decide) (by omega), es 6 _ (by decide) (by omega), es 6 _ (by decide) (by omega), ho _ (by omega) (by omega), ho _ (by omega) (by omega), ho _ (by omega) (by omega)]
    refine ⟨(k4 t ht).1, fun i hi => ?_⟩
    rw [es 6 _ (by decide) (by omega), ho _ (by omega) (by omega)]
    exact (k4 t ht).2 i hi
  · unfold wTo
    rw [es 1 6 (by decide) (by decide), show teS c v w m s 3 = s 3 from funext fun j => es 3 j (by decide) (by omega), show teS c v w m s 4 = s 4 from funext fun j => es 4 j (by decide) (by omega)]
    exact k5
  · rw [e8] at ht
    rw [es 1 6 (by decide) (by decide)]
    by_cases e : t = (s 1 8).toNat
    · rw [e, f0]
      exact ⟨o1, o2⟩
    · rw [e5 _ (by omega)]
      exact k6 t (by omega)
  · rw [es 1 9 (by decide) (by decide)] at ht
    rw [es 6 _ (by decide) (by omega), es 6 _ (by decide) (by omega), es 6 _ (by decide) (by omega), e8]
    obtain ⟨q1, q2, q3, q4, q5, q6, q7⟩ := k7 t ht
    exact ⟨q1, by omega, q3, q4, q5, q6, fun i hi => by rw [es 6 _ (by decide) (by omega)]; exact q7 i hi⟩
  · unfold wSc
    rw [e8, es 1 6 (by decide) (by decide), es 1 7 (by decide) (by decide), es 1 9 (by decide) (by decide), es 1 10 (by decide) (by decide), es 1 11 (by decide) (by decide)]
    omega
  · by_cases e : j = 154 + 5 * (s 1 8).toNat + 4
    · rw [e, h4, hk (s 1 8).toNat (by omega), hz (s 1 8).toNat (by omega) (by omega)]
    · exact ho j (by omega) (by omega)
theorem AR_telling {a a' : Nat → Int} {s s2 : Sw} {t f : Int} {n : Nat} (h : AR a s) (ok : okTg t f s) (n1 : 1 ≤ n) (n6 : n ≤ 6) (hf : ∀ k j : Nat, ¬ (k = 6 ∧ 9 * s 1 9 + 3 ≤ (j : Int) ∧ (j : Int) < 9 * s 1 9 + 9) → s2 k j = s k j) (hi : ∀ i : Nat, i < n → isTu (s2 6 (9 * s 1 9 + 3 + i).toNat)) (h3 : a' 3 = s 1 9 + 1) (g0 : a' (184 + 9 * (s 1 9).toNat) = t) (g1 : a' (184 + 9 * (s 1 9).toNat + 1) = f) (g2 : a' (184 + 9 * (s 1 9).toNat + 2) = n) (gi : ∀ i : Nat, i < n → a' (184 + 9 * (s 1 9).toNat + 3 + i) = s2 6 (9 * s 1 9 + 3 + i).toNat) (ho : ∀ j : Nat, j ≠ 3 → ¬ (184 + 9 * (s 1 9).toNat ≤ j ∧ j < 184 + 9 * (s 1 9).toNat + 9) → a' j = a j) : AR a' (tgS (s 1 9) t f n s2) := by
  obtain ⟨⟨⟨c1, c2, c3, c4, c5, c6⟩, k2, k3, k4, k5, k6, k7, k8⟩, hw⟩ := h
  obtain ⟨o1, o2, o3, o4, o5⟩ := ok
  have w0 := k8
  obtain ⟨w1, w2, w3, w4, w5, w6, w7, w8, w9⟩ := w0
  have e9 : tgS (s 1 9) t f n s2 1 9 = s 1 9 + 1 := up_same
  have es : ∀ k j : Nat, k ≠ 6 → ¬ (k = 1 ∧ j = 9) → tgS (s 1 9) t f n s2 k j = s k j := fun k j a b => by
    unfold tgS
    rw [up_ne b, up_ne (fun e => a e.1), up_ne (fun e => a e.1), up_ne (fun e => a e.1)]
    exact hf k j (fun e => a e.1)
  have ej : ∀ j : Nat, (j : Int) ≠ 9 * s 1 9 → (j : Int) ≠ 9 * s 1 9 + 1 → (j : Int) ≠ 9 * s 1 9 + 2 → tgS (s 1 9) t f n s2 6 j = s2 6 j := fun j j0 j1 j2 => by
    unfold tgS
    rw [up_ne (by omega), up_ne (by omega), up_ne (by omega), up_ne (by omega)]
  have eo : ∀ j : Nat, (j : Int) < 9 * s 1 9 → tgS (s 1 9) t f n s2 6 j = s 6 j := fun j hj => (ej j (by omega) (by omega) (by omega)).trans (hf 6 j (by omega))
  have f0 : tgS (s 1 9) t f n s2 6 (9 * (s 1 9).toNat) = t := by
    unfold tgS
    rw [up_ne (by omega), up_ne (by omega), up_ne (by omega), show 9 * (s 1 9).toNat = (9 * s 1 9).toNat by omega, up_same]
  have f1 : tgS (s 1 9) t f n s2 6 (9 * (s 1 9).toNat + 1) = f := by
    unfold tgS
    rw [up_ne (by omega), up_ne (by omega), show 9 * (s 1 9).toNat + 1 = (9 * s 1 9 + 1).toNat by omega, up_same]
  have f2 : tgS (s 1 9) t f n s2 6 (9 * (s 1 9).toNat + 2) = n := by
    unfold tgS
    rw [up_ne (by omega), show 9 * (s 1 9).toNat + 2 = (9 * s 1 9 + 2).toNat by omega, up_same]
  have fi : ∀ i : Nat, i < n → tgS (s 1 9) t f n s2 6 (9 * (s 1 9).toNat + 3 + i) = s2 6 (9 * s 1 9 + 3 + i).toNat := fun i hi2 => by
    rw [ej _ (by omega) (by omega) (by omega), show 9 * (s 1 9).toNat + 3 + i = (9 * s 1 9 + 3 + i).toNat by omega]
  refine ⟨⟨?_, fun x hx => ?_, fun x hx j hj => ?_, fun x hx => ?_, ?_, fun x hx => ?_, fun x hx => ?_, ?_⟩, hw.co (fun j hj => ho j (by omega) (by omega)) (fun k j k1 k2 => es k j (by omega) (by omega)) (by rw [es 1 6 (by decide) (by decide)]; omega) (by rw [es 1 8 (by decide) (by decide)]; omega)⟩
  · unfold aSc
    rw [e9, es 1 6 (by decide) (by decide), es 1 7 (by decide) (by decide), es 1 8 (by decide) (by decide), es 1 10 (by decide) (by decide), es 1 11 (by decide) (by decide), h3, ho 0 (by decide) (by omega), ho 1 (by decide) (by omega), ho 2 (by decide) (by omega), ho 5 (by decide) (by omega), ho 6 (by decide) (by omega)]
    exact ⟨c1, c2, c3, rfl, c5, c6⟩
  · rw [es 1 6 (by decide) (by decide)] at hx
    obtain ⟨p, q⟩ := k2 x hx
    refine ⟨by rw [es 2 _ (by decide) (by omega), ho _ (by omega) (by omega)]; exact p, fun d hd => ?_⟩
    rw [es 3 _ (by decide) (by omega), es 4 _ (by decide) (by omega), ho _ (by omega) (by omega), ho _ (by omega) (by omega)]
    exact q d hd
  · rw [es 1 8 (by decide) (by decide)] at hx
    rw [es 5 _ (by decide) (by omega), ho _ (by omega) (by omega)]
    exact k3 x hx j hj
  · rw [e9] at hx
    by_cases e : x = (s 1 9).toNat
    · subst e
      rw [f0, f1, f2]
      refine ⟨⟨g0, g1, g2⟩, fun i hi2 => ?_⟩
      rw [fi i (by omega)]
      exact gi i (by omega)
    · have c6' := (k7 x (by omega)).2.2.2.2.2.1
      rw [eo _ (by omega), eo _ (by omega), eo _ (by omega), ho _ (by omega) (by omega), ho _ (by omega) (by omega), ho _ (by omega) (by omega)]
      refine ⟨(k4 x (by omega)).1, fun i hi2 => ?_⟩
      rw [eo _ (by omega), ho _ (by omega) (by omega)]
      exact (k4 x (by omega)).2 i hi2
  · unfold wTo
    rw [es 1 6 (by decide) (by decide), show tgS (s 1 9) t f n s2 3 = s 3 from funext fun j => es 3 j (by decide) (by omega), show tgS (s 1 9) t f n s2 4 = s 4 from funext fun j => es 4 j (by decide) (by omega)]
    exact k5
  · rw [es 1 8 (by decide) (by decide)] at hx
    rw [es 5 _ (by decide) (by omega), es 1 6 (by decide) (by decide)]
    exact k6 x hx
  · rw [e9] at hx
    rw [es 1 8 (by decide) (by decide)]
    by_cases e : x = (s 1 9).toNat
    · subst e
      rw [f0, f1, f2]
      refine ⟨o1, o2, o3, o4, by omega, by omega, fun i hi2 => ?_⟩
      rw [fi i (by omega)]
      exact hi i (by omega)
    · obtain ⟨q1, q2, q3, q4, q5, q6, q7⟩ := k7 x (by omega)
      rw [eo _ (by omega), eo _ (by omega), eo _ (by omega)]
      exact ⟨q1, q2, q3, q4, q5, q6, fun i hi2 => by rw [eo _ (by omega)]; exact q7 i hi2⟩
  · unfold wSc
    rw [e9, es 1 6 (by decide) (by decide), es 1 7 (by decide) (by decide), es 1 8 (by decide) (by decide), es 1 10 (by decide) (by decide), es 1 11 (by decide) (by decide)]
    omega
/-- a telling that can't be leaves only what nobody reads -/
theorem AR_no {a : Nat → Int} {s s' : Sw} (h : AR a s) (hf : ∀ k j : Nat, ¬ (k = 6 ∧ 9 * s 1 9 + 3 ≤ (j : Int) ∧ (j : Int) < 9 * s 1 9 + 9) → s' k j = s k j) : AR a s' := by
  obtain ⟨⟨c, k2, k3, k4, k5, k6, k7, k8⟩, hw⟩ := h
  have es : ∀ k : Nat, k ≠ 6 → s' k = s k := fun k hk => funext fun j => hf k j (fun e => hk e.1)
  refine ⟨⟨?_, ?_, ?_, fun x hx => ?_, ?_, ?_, fun x hx => ?_, ?_⟩, hw.co (fun _ _ => rfl) (fun k j k1 k2 => by rw [es k (by omega)]) (by rw [es 1 (by decide)]; omega) (by rw [es 1 (by decide)]; omega)⟩
  · unfold aSc; rw [es 1 (by decide)]; exact c
  · unfold aCo; rw [es 1 (by decide), es 2 (by decide), es 3 (by decide), es 4 (by decide)]; exact k2
  · unfold aTe; rw [es 1 (by decide), es 5 (by decide)]; exact k3
  · rw [es 1 (by decide)] at hx
    have c6 := (k7 x hx).2.2.2.2.2.1
    rw [hf 6 _ (by omega), hf 6 _ (by omega), hf 6 _ (by omega)]
    exact ⟨(k4 x hx).1, fun i hi => by rw [hf 6 _ (by omega)]; exact (k4 x hx).2 i hi⟩
  · unfold wTo; rw [es 1 (by decide), es 3 (by decide), es 4 (by decide)]; exact k5
  · unfold wTe; rw [es 1 (by decide), es 5 (by decide)]; exact k6
  · rw [es 1 (by decide)] at hx ⊢
    have c6 := (k7 x hx).2.2.2.2.2.1
    rw [hf 6 _ (by omega), hf 6 _ (by omega), hf 6 _ (by omega)]
    obtain ⟨q1, q2, q3, q4, q5, q6, q7⟩ := k7 x hx
    exact ⟨q1, q2, q3, q4, q5, q6, fun i hi => by rw [hf 6 _ (by omega)]; exact q7 i hi⟩
  · unfold wSc; rw [es 1 (by decide)]; exact k8
