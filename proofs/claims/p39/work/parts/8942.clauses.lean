/-! A CLAUSE as both keep it -/
theorem isTu_c {t : Int} (h : isTu t) : 100 ≤ t ∧ t ≤ 399 := by
  unfold isTu at h
  omega
theorem pk1 {a : Int} (ha : isTu a) : (0 < a ∧ a < 1000000000) ∧ cnT a = 1 ∧ tq 0 a = a := by
  have ca := isTu_c ha
  refine ⟨by omega, if_pos (by omega), ?_⟩
  show a % 1000 = a
  omega
theorem pk2 {a b : Int} (ha : isTu a) (hb : isTu b) : (0 < 1000 * a + b ∧ 1000 * a + b < 1000000000) ∧ cnT (1000 * a + b) = 2 ∧ tq 0 (1000 * a + b) = b ∧ tq 1 (1000 * a + b) = a := by
  have ca := isTu_c ha
  have cb := isTu_c hb
  refine ⟨by omega, (if_neg (by omega)).trans (if_pos (by omega)), ?_, ?_⟩
  · show (1000 * a + b) % 1000 = b
    omega
  · show (1000 * a + b) / 1000 % 1000 = a
    omega
theorem pk3 {a b c : Int} (ha : isTu a) (hb : isTu b) (hc : isTu c) : (0 < 1000 * (1000 * a + b) + c ∧ 1000 * (1000 * a + b) + c < 1000000000) ∧ cnT (1000 * (1000 * a + b) + c) = 3 ∧ tq 0 (1000 * (1000 * a + b) + c) = c ∧ tq 1 (1000 * (1000 * a + b) + c) = b ∧ tq 2 (1000 * (1000 * a + b) + c) = a := by
  have ca := isTu_c ha
  have cb := isTu_c hb
  have cc := isTu_c hc
  refine ⟨by omega, (if_neg (by omega)).trans (if_neg (by omega)), ?_, ?_, ?_⟩
  · show (1000 * (1000 * a + b) + c) % 1000 = c
    omega
  · show (1000 * (1000 * a + b) + c) / 1000 % 1000 = b
    omega
  · show (1000 * (1000 * a + b) + c) / 1000 / 1000 % 1000 = a
    omega
/-- n turns t 0 .. t (n - 1) in one number -/
def PK (v : Int) (n : Nat) (t : Nat → Int) : Prop := (0 < v ∧ v < 1000000000) ∧ cnT v = n ∧ ∀ i : Nat, i < n → tq (n - 1 - i) v = t i ∧ isTu (t i)
theorem PK.one {t : Nat → Int} (h0 : isTu (t 0)) : PK (t 0) 1 t := by
  obtain ⟨a, b, c⟩ := pk1 h0
  refine ⟨a, b, fun i hi => ?_⟩
  rw [show i = 0 by omega]
  exact ⟨c, h0⟩
theorem PK.two {t : Nat → Int} (h0 : isTu (t 0)) (h1 : isTu (t 1)) : PK (1000 * t 0 + t 1) 2 t := by
  obtain ⟨a, b, c, d⟩ := pk2 h0 h1
  refine ⟨a, b, fun i hi => ?_⟩
  rcases (by omega : i = 0 ∨ i = 1) with rfl | rfl
  · exact ⟨d, h0⟩
  · exact ⟨c, h1⟩
theorem PK.three {t : Nat → Int} (h0 : isTu (t 0)) (h1 : isTu (t 1)) (h2 : isTu (t 2)) : PK (1000 * (1000 * t 0 + t 1) + t 2) 3 t := by
  obtain ⟨a, b, c, d, e⟩ := pk3 h0 h1 h2
  refine ⟨a, b, fun i hi => ?_⟩
  rcases (by omega : i = 0 ∨ i = 1 ∨ i = 2) with rfl | rfl | rfl
  · exact ⟨e, h0⟩
  · exact ⟨d, h1⟩
  · exact ⟨c, h2⟩
theorem PK.tu {v : Int} {n : Nat} {t : Nat → Int} (h : PK v n t) : ∀ i : Nat, i < cnT v → isTu (tq i v) := fun i hi => by
  rw [h.2.1] at hi
  have q := h.2.2 (n - 1 - i) (by omega)
  rw [show n - 1 - (n - 1 - i) = i by omega] at q
  rw [q.1]
  exact q.2
theorem PK.only {v : Int} {n : Nat} {t : Nat → Int} (h : PK v n t) : okTn v 0 ∧ tnC v 0 = n ∧ ∀ i : Nat, i < n → tnI v 0 i = t i := by
  refine ⟨⟨⟨h.1.1, h.1.2, h.tu⟩, Or.inl rfl⟩, (if_pos rfl).trans h.2.1, fun i hi => ?_⟩
  unfold tnI
  rw [h.2.1, if_pos hi]
  exact (h.2.2 i hi).1
theorem PK.both {v w : Int} {n : Nat} {t : Nat → Int} (h : PK v 3 t) (hw : PK w n (fun i => t (3 + i))) : okTn v w ∧ tnC v w = 3 + n ∧ ∀ i : Nat, i < 3 + n → tnI v w i = t i := by
  have w0 : w ≠ 0 := by have := hw.1.1; omega
  refine ⟨⟨⟨h.1.1, h.1.2, h.tu⟩, Or.inr ⟨h.2.1, hw.1.1, hw.1.2, hw.tu⟩⟩, (if_neg w0).trans (by rw [h.2.1, hw.2.1]), fun i hi => ?_⟩
  unfold tnI
  rw [h.2.1, hw.2.1]
  by_cases e : i < 3
  · rw [if_pos e]
    exact (h.2.2 i e).1
  · rw [if_neg e]
    have q := (hw.2.2 (i - 3) (by omega)).1
    rw [q]
    show t (3 + (i - 3)) = t i
    rw [show 3 + (i - 3) = i by omega]
/-- packed and single turns are the same -/
theorem tr_pk {k x : Int → Int} {p : Int} {m : Nat} (m1 : 1 ≤ m) (m6 : m ≤ 6) (ht : ∀ i : Nat, i < m → isTu (tvS k x (tpS k x p i))) (hc : ∀ i : Nat, i + 1 < m → k (tnS k x (tpS k x p i)) = -256) (he : k (tnS k x (tpS k x p (m - 1))) ≠ -256) : okTn (trS k x 7 0 p 0 0).1 (trS k x 7 0 p 0 0).2 ∧ tnC (trS k x 7 0 p 0 0).1 (trS k x 7 0 p 0 0).2 = m ∧ ∀ i : Nat, i < m → tnI (trS k x 7 0 p 0 0).1 (trS k x 7 0 p 0 0).2 i = tvS k x (tpS k x p i) := by
  have P0 : tpS k x p 0 = p := rfl
  have P1 : tpS k x p 1 = x (tnS k x p) := rfl
  have P2 : tpS k x p 2 = x (tnS k x (tpS k x p 1)) := rfl
  have P3 : tpS k x p 3 = x (tnS k x (tpS k x p 2)) := rfl
  have P4 : tpS k x p 4 = x (tnS k x (tpS k x p 3)) := rfl
  have P5 : tpS k x p 5 = x (tnS k x (tpS k x p 4)) := rfl
  rcases (by omega : m = 1 ∨ m = 2 ∨ m = 3 ∨ m = 4 ∨ m = 5 ∨ m = 6) with rfl | rfl | rfl | rfl | rfl | rfl
  · have e : trS k x 7 0 p 0 0 = (tvS k x (tpS k x p 0), 0) := by
      rw [tr_end (by rw [← P0]; exact he)]
      refine Prod.ext ?_ rfl
      show 1000 * 0 + tvS k x p = _
      rw [P0]; omega
    rw [e]
    exact (PK.one (t := fun i => tvS k x (tpS k x p i)) (ht 0 (by decide))).only
  · have e : trS k x 7 0 p 0 0 = (1000 * tvS k x (tpS k x p 0) + tvS k x (tpS k x p 1), 0) := by
      rw [tr_go (by rw [← P0]; exact hc 0 (by decide)), ← P1, tr_end he]
      refine Prod.ext ?_ rfl
      show 1000 * (1000 * 0 + tvS k x p) + tvS k x (tpS k x p 1) = _
      rw [P0]; omega
    rw [e]
    exact (PK.two (t := fun i => tvS k x (tpS k x p i)) (ht 0 (by decide)) (ht 1 (by decide))).only
  · have e : trS k x 7 0 p 0 0 = (1000 * (1000 * tvS k x (tpS k x p 0) + tvS k x (tpS k x p 1)) + tvS k x (tpS k x p 2), 0) := by
      rw [tr_go (by rw [← P0]; exact hc 0 (by decide)), ← P1, tr_go (hc 1 (by decide)), ← P2, tr_end he]
      refine Prod.ext ?_ rfl
      show 1000 * (1000 * (1000 * 0 + tvS k x p) + tvS k x (tpS k x p 1)) + tvS k x (tpS k x p 2) = _
      rw [P0]; omega
    rw [e]
    exact (PK.three (t := fun i => tvS k x (tpS k x p i)) (ht 0 (by decide)) (ht 1 (by decide)) (ht 2 (by decide))).only
  · have e : trS k x 7 0 p 0 0 = (1000 * (1000 * tvS k x (tpS k x p 0) + tvS k x (tpS k x p 1)) + tvS k x (tpS k x p 2), tvS k x (tpS k x p 3)) := by
      rw [tr_go (by rw [← P0]; exact hc 0 (by decide)), ← P1, tr_go (hc 1 (by decide)), ← P2, tr_go (hc 2 (by decide)), ← P3, tr_end he]
      refine Prod.ext ?_ ?_
      · show 1000 * (1000 * (1000 * 0 + tvS k x p) + tvS k x (tpS k x p 1)) + tvS k x (tpS k x p 2) = _
        rw [P0]; omega
      · show 1000 * 0 + tvS k x (tpS k x p 3) = _
        omega
    rw [e]
    exact (PK.three (t := fun i => tvS k x (tpS k x p i)) (ht 0 (by decide)) (ht 1 (by decide)) (ht 2 (by decide))).both (PK.one (t := fun i => tvS k x (tpS k x p (3 + i))) (ht 3 (by decide)))
  · have e : trS k x 7 0 p 0 0 = (1000 * (1000 * tvS k x (tpS k x p 0) + tvS k x (tpS k x p 1)) + tvS k x (tpS k x p 2), 1000 * tvS k x (tpS k x p 3) + tvS k x (tpS k x p 4)) := by
      rw [tr_go (by rw [← P0]; exact hc 0 (by decide)), ← P1, tr_go (hc 1 (by decide)), ← P2, tr_go (hc 2 (by decide)), ← P3, tr_go (hc 3 (by decide)), ← P4, tr_end he]
      refine Prod.ext ?_ ?_
      · show 1000 * (1000 * (1000 * 0 + tvS k x p) + tvS k x (tpS k x p 1)) + tvS k x (tpS k x p 2) = _
        rw [P0]; omega
      · show 1000 * (1000 * 0 + tvS k x (tpS k x p 3)) + tvS k x (tpS k x p 4) = _
        omega
    rw [e]
    exact (PK.three (t := fun i => tvS k x (tpS k x p i)) (ht 0 (by decide)) (ht 1 (by decide)) (ht 2 (by decide))).both (PK.two (t := fun i => tvS k x (tpS k x p (3 + i))) (ht 3 (by decide)) (ht 4 (by decide)))
  · have e : trS k x 7 0 p 0 0 = (1000 * (1000 * tvS k x (tpS k x p 0) + tvS k x (tpS k x p 1)) + tvS k x (tpS k x p 2), 1000 * (1000 * tvS k x (tpS k x p 3) + tvS k x (tpS k x p 4)) + tvS k x (tpS k x p 5)) := by
      rw [tr_go (by rw [← P0]; exact hc 0 (by decide)), ← P1, tr_go (hc 1 (by decide)), ← P2, tr_go (hc 2 (by decide)), ← P3, tr_go (hc 3 (by decide)), ← P4, tr_go (hc 4 (by decide)), ← P5, tr_end he]
      refine Prod.ext ?_ ?_
      · show 1000 * (1000 * (1000 * 0 + tvS k x p) + tvS k x (tpS k x p 1)) + tvS k x (tpS k x p 2) = _
        rw [P0]; omega
      · show 1000 * (1000 * (1000 * 0 + tvS k x (tpS k x p 3)) + tvS k x (tpS k x p 4)) + tvS k x (tpS k x p 5) = _
        omega
    rw [e]
    exact (PK.three (t := fun i => tvS k x (tpS k x p i)) (ht 0 (by decide)) (ht 1 (by decide)) (ht 2 (by decide))).both (PK.three (t := fun i => tvS k x (tpS k x p (3 + i))) (ht 3 (by decide)) (ht 4 (by decide)) (ht 5 (by decide)))
