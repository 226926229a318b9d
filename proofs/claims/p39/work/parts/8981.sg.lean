/-! SIGNS: how many streets to the goal, ring by ring -/
def sgH (S : Sw) : Prop := wTo S ∧ 0 ≤ S 1 6 ∧ S 1 6 ≤ 16 ∧ 0 ≤ S 1 7 ∧ S 1 7 < S 1 6
theorem sg_ah {S : Sw} (h : sgH S) {c d : Int} (q : ahS S c d ≠ -1) : 0 ≤ ahS S c d ∧ ahS S c d < S 1 6 := by
  rcases ahS_b h.1 h.2.2.1 c d with z | z
  · omega
  · exact absurd z q
def sgT (S : Sw) (f : Nat → Int) (r : Int) (u d : Nat) : Prop := ahS S u d ≠ -1 ∧ f (ahS S u d).toNat = r
noncomputable def riG (S : Sw) : Nat → Nat → Int
  | 0 => fun u => if (u : Int) = S 1 7 then 0 else -1
  | r + 1 => fun u => @ite _ (riG S r u = -1 ∧ ∃ d : Nat, d < 4 ∧ sgT S (riG S r) r u d) (Classical.propDecidable _) ((r : Int) + 1) (riG S r u)
theorem ri_y {S : Sw} {r u : Nat} (h : riG S r u = -1 ∧ ∃ d : Nat, d < 4 ∧ sgT S (riG S r) r u d) : riG S (r + 1) u = (r : Int) + 1 := if_pos h
theorem ri_n {S : Sw} {r u : Nat} (h : ¬ (riG S r u = -1 ∧ ∃ d : Nat, d < 4 ∧ sgT S (riG S r) r u d)) : riG S (r + 1) u = riG S r u := if_neg h
theorem ri_b (S : Sw) : ∀ r u : Nat, -1 ≤ riG S r u ∧ riG S r u ≤ r
  | 0, u => by
    show -1 ≤ (if (u : Int) = S 1 7 then 0 else -1 : Int) ∧ (if (u : Int) = S 1 7 then 0 else -1 : Int) ≤ ((0 : Nat) : Int)
    split <;> omega
  | r + 1, u => by
    have ih := ri_b S r u
    by_cases h : riG S r u = -1 ∧ ∃ d : Nat, d < 4 ∧ sgT S (riG S r) r u d
    · rw [ri_y h]; omega
    · rw [ri_n h]; omega
theorem ri_up {S : Sw} {r u : Nat} (h : riG S r u ≠ -1) : riG S (r + 1) u = riG S r u := ri_n (fun z => h z.1)
theorem ri_st {S : Sw} {r u : Nat} (h : riG S r u ≠ -1) : ∀ i : Nat, riG S (r + i) u = riG S r u
  | 0 => rfl
  | i + 1 => by
    have z := ri_st h i
    show riG S (r + i + 1) u = _
    rw [ri_up (by rw [z]; exact h), z]
theorem ri_le {S : Sw} {r m u : Nat} (h : riG S r u ≠ -1) (q : r ≤ m) : riG S m u = riG S r u := by
  have z := ri_st h (m - r)
  rw [show r + (m - r) = m by omega] at z
  exact z
theorem ri_at {S : Sw} {u : Nat} : ∀ (r k : Nat), riG S r u = (k : Int) → riG S k u = (k : Int)
  | 0, k, h => by
    have b := (ri_b S 0 u).2
    have e : k = 0 := by omega
    subst e
    exact h
  | r + 1, k, h => by
    by_cases q : riG S r u = -1
    · by_cases w : ∃ d : Nat, d < 4 ∧ sgT S (riG S r) r u d
      · rw [ri_y ⟨q, w⟩] at h
        have e : k = r + 1 := by omega
        subst e
        rw [ri_y ⟨q, w⟩]
        omega
      · rw [ri_n (fun z => w z.2)] at h
        exact ri_at r k h
    · rw [ri_up q] at h
      exact ri_at r k h
theorem ri_pre {S : Sw} {u r k : Nat} (h : riG S r u = ((k + 1 : Nat) : Int)) : ∃ d : Nat, d < 4 ∧ sgT S (riG S k) k u d ∧ riG S k u = -1 := by
  have z := ri_at r (k + 1) h
  by_cases w : riG S k u = -1 ∧ ∃ d : Nat, d < 4 ∧ sgT S (riG S k) k u d
  · obtain ⟨w1, d, d4, t⟩ := w
    exact ⟨d, d4, t, w1⟩
  · rw [ri_n w] at z
    have b := (ri_b S k u).2
    omega
theorem ri_ed {S : Sw} {u d r k : Nat} (hd : d < 4) (h : ahS S u d ≠ -1) (q : riG S r (ahS S u d).toNat = (k : Int)) : riG S (k + 1) u ≠ -1 ∧ riG S (k + 1) u ≤ (k : Int) + 1 := by
  have z := ri_at r k q
  by_cases w : riG S k u = -1
  · rw [ri_y ⟨w, d, hd, h, z⟩]
    omega
  · rw [ri_up w]
    have b2 := ri_b S k u
    exact ⟨w, by omega⟩
/-- as many pigeons as holes at most -/
def skP (i j : Nat) : Nat := if j < i then j else j + 1
theorem sk_c (i j : Nat) : (j < i ∧ skP i j = j) ∨ (i ≤ j ∧ skP i j = j + 1) := by
  unfold skP
  split <;> omega
theorem pgR : ∀ (n m : Nat) (R : Nat → Nat → Prop), (∀ j : Nat, j < m → ∃ w : Nat, w < n ∧ R j w) → (∀ i j w : Nat, i < m → j < m → R i w → R j w → i = j) → m ≤ n
  | 0, m, R, h, _ => by
    by_cases q : m = 0
    · omega
    · obtain ⟨w, hw, _⟩ := h 0 (by omega)
      omega
  | n + 1, m, R, h, g => by
    by_cases q : ∃ i : Nat, i < m ∧ R i n
    · obtain ⟨i, im, hi⟩ := q
      have z : m - 1 ≤ n := by
        refine pgR n (m - 1) (fun j w => R (skP i j) w) (fun j hj => ?_) (fun a b w ha hb h1 h2 => ?_)
        · have c := sk_c i j
          obtain ⟨w, hw, hr⟩ := h (skP i j) (by omega)
          have ne : w ≠ n := fun e => by
            have y := g i (skP i j) n im (by omega) hi (by rw [← e]; exact hr)
            omega
          exact ⟨w, by omega, hr⟩
        · have c1 := sk_c i a
          have c2 := sk_c i b
          have y := g (skP i a) (skP i b) w (by omega) (by omega) h1 h2
          omega
      omega
    · have z : m ≤ n := by
        refine pgR n m R (fun j hj => ?_) g
        obtain ⟨w, hw, hr⟩ := h j hj
        have ne : w ≠ n := fun e => q ⟨j, hj, by rw [← e]; exact hr⟩
        exact ⟨w, by omega, hr⟩
      omega
theorem ri_ch {S : Sw} (h : sgH S) : ∀ (k r u : Nat), (u : Int) < S 1 6 → riG S r u = (k : Int) → ∀ j : Nat, j ≤ k → ∃ w : Nat, w < (S 1 6).toNat ∧ riG S r w = (j : Int)
  | 0, r, u, hu, q, j, hj => ⟨u, by omega, by rw [q]; omega⟩
  | k + 1, r, u, hu, q, j, hj => by
    by_cases e : j = k + 1
    · exact ⟨u, by omega, by rw [q, e]⟩
    · obtain ⟨d, d4, t, _⟩ := ri_pre q
      have a := sg_ah h t.1
      have b := (ri_b S r u).2
      have t2 : riG S k (ahS S u d).toNat = (k : Int) := t.2
      have n1 : riG S k (ahS S u d).toNat ≠ -1 := by omega
      have e2 : riG S r (ahS S u d).toNat = riG S k (ahS S u d).toNat := ri_le n1 (by omega)
      exact ri_ch h k r (ahS S u d).toNat (by omega) (e2.trans t2) j (by omega)
theorem ri_N {S : Sw} (h : sgH S) {r u k : Nat} (hu : (u : Int) < S 1 6) (q : riG S r u = (k : Int)) : (k : Int) + 1 ≤ S 1 6 := by
  have z := pgR (S 1 6).toNat (k + 1) (fun j w => riG S r w = (j : Int)) (fun j hj => ri_ch h k r u hu q j (by omega)) (fun i j w _ _ a b => by
    have a1 : riG S r w = (i : Int) := a
    have b1 : riG S r w = (j : Int) := b
    omega)
  have y := h.2.1
  omega
/-- how many streets to the goal -/
noncomputable def dG (S : Sw) (u : Nat) : Int := riG S 15 u
theorem d_b (S : Sw) (u : Nat) : -1 ≤ dG S u ∧ dG S u ≤ 15 := by
  have z := ri_b S 15 u
  unfold dG
  omega
theorem d_ed {S : Sw} (h : sgH S) {u d k : Nat} (hu : (u : Int) < S 1 6) (hd : d < 4) (ha : ahS S u d ≠ -1) (q : dG S (ahS S u d).toNat = (k : Int)) : dG S u ≠ -1 ∧ dG S u ≤ (k : Int) + 1 := by
  have z := ri_ed hd ha q
  have b := ri_b S (k + 1) u
  obtain ⟨m, hm⟩ : ∃ m : Nat, riG S (k + 1) u = (m : Int) := ⟨(riG S (k + 1) u).toNat, by omega⟩
  have n := ri_N h hu hm
  have a := ri_at (k + 1) m hm
  have n1 : riG S m u ≠ -1 := by omega
  have h16 := h.2.2.1
  have e : riG S 15 u = riG S m u := ri_le n1 (by omega)
  have e2 : dG S u = (m : Int) := e.trans a
  omega
theorem d_0 {S : Sw} {u : Nat} : dG S u = 0 ↔ (u : Int) = S 1 7 := by
  have e : riG S 0 u = if (u : Int) = S 1 7 then 0 else -1 := rfl
  constructor
  · intro h
    have z := ri_at 15 0 (h : riG S 15 u = ((0 : Nat) : Int))
    rw [e] at z
    by_cases q : (u : Int) = S 1 7
    · exact q
    · rw [if_neg q] at z
      omega
  · intro q
    rw [if_pos q] at e
    have n1 : riG S 0 u ≠ -1 := by omega
    have y : riG S 15 u = riG S 0 u := ri_le n1 (by decide)
    exact y.trans e
theorem d_pre {S : Sw} {u k : Nat} (h : dG S u = ((k + 1 : Nat) : Int)) : ∃ d : Nat, d < 4 ∧ ahS S u d ≠ -1 ∧ dG S (ahS S u d).toNat = (k : Int) := by
  obtain ⟨d, d4, t, _⟩ := ri_pre h
  have b := d_b S u
  have t2 : riG S k (ahS S u d).toNat = (k : Int) := t.2
  have n1 : riG S k (ahS S u d).toNat ≠ -1 := by omega
  have e : riG S 15 (ahS S u d).toNat = riG S k (ahS S u d).toNat := ri_le n1 (by omega)
  exact ⟨d, d4, t.1, e.trans t2⟩
theorem d_N {S : Sw} (h : sgH S) {u : Nat} (hu : (u : Int) < S 1 6) : dG S u + 1 ≤ S 1 6 := by
  have b := d_b S u
  have y := h.2.1
  by_cases q : dG S u = -1
  · omega
  · have z := ri_N h (r := 15) (k := (dG S u).toNat) hu (by show dG S u = _; omega)
    omega
/-! the lowest direction of which something holds -/
def loP (P : Nat → Prop) (r : Int) : Prop := (r = -1 ∧ ∀ d : Nat, d < 4 → ¬ P d) ∨ (∃ d : Nat, d < 4 ∧ r = (d : Int) ∧ P d ∧ ∀ e : Nat, e < d → ¬ P e)
theorem loP.one {P : Nat → Prop} {r s : Int} (a : loP P r) (b : loP P s) : r = s := by
  rcases a with ⟨a1, a2⟩ | ⟨d, d4, a1, a2, a3⟩ <;> rcases b with ⟨b1, b2⟩ | ⟨e, e4, b1, b2, b3⟩
  · omega
  · exact absurd b2 (a2 e e4)
  · exact absurd a2 (b2 d d4)
  · have h1 : ¬ d < e := fun z => b3 d z a2
    have h2 : ¬ e < d := fun z => a3 e z b2
    omega
noncomputable def loF (P : Nat → Prop) : Int := @ite _ (P 0) (Classical.propDecidable _) 0 (@ite _ (P 1) (Classical.propDecidable _) 1 (@ite _ (P 2) (Classical.propDecidable _) 2 (@ite _ (P 3) (Classical.propDecidable _) 3 (-1))))
theorem lo_P (P : Nat → Prop) : loP P (loF P) := by
  unfold loF
  by_cases h0 : P 0
  · rw [if_pos h0]
    exact Or.inr ⟨0, by decide, rfl, h0, fun e he => absurd he (Nat.not_lt_zero e)⟩
  · rw [if_neg h0]
    by_cases h1 : P 1
    · rw [if_pos h1]
      exact Or.inr ⟨1, by decide, rfl, h1, fun e he => by rw [show e = 0 by omega]; exact h0⟩
    · rw [if_neg h1]
      by_cases h2 : P 2
      · rw [if_pos h2]
        refine Or.inr ⟨2, by decide, rfl, h2, fun e he => ?_⟩
        rcases (by omega : e = 0 ∨ e = 1) with z | z <;> subst z
        · exact h0
        · exact h1
      · rw [if_neg h2]
        by_cases h3 : P 3
        · rw [if_pos h3]
          refine Or.inr ⟨3, by decide, rfl, h3, fun e he => ?_⟩
          rcases (by omega : e = 0 ∨ e = 1 ∨ e = 2) with z | z | z <;> subst z
          · exact h0
          · exact h1
          · exact h2
        · rw [if_neg h3]
          refine Or.inl ⟨rfl, fun d hd => ?_⟩
          rcases (by omega : d = 0 ∨ d = 1 ∨ d = 2 ∨ d = 3) with z | z | z | z <;> subst z
          · exact h0
          · exact h1
          · exact h2
          · exact h3
theorem loP.f {P : Nat → Prop} {r : Int} (a : loP P r) : r = loF P := a.one (lo_P P)
theorem loP.b {P : Nat → Prop} {r : Int} (a : loP P r) : -1 ≤ r ∧ r ≤ 3 := by
  rcases a with ⟨a1, _⟩ | ⟨d, d4, a1, _, _⟩ <;> omega
theorem loP.co {P Q : Nat → Prop} {r : Int} (a : loP P r) (h : ∀ d : Nat, d < 4 → (P d ↔ Q d)) : loP Q r := by
  rcases a with ⟨a1, a2⟩ | ⟨d, d4, a1, a2, a3⟩
  · exact Or.inl ⟨a1, fun d hd z => a2 d hd ((h d hd).mpr z)⟩
  · exact Or.inr ⟨d, d4, a1, (h d d4).mp a2, fun e he z => a3 e he ((h e (Nat.lt_trans he d4)).mpr z)⟩
/-- what a sign shows -/
def okD (S : Sw) (u d : Nat) : Prop := 1 ≤ dG S u ∧ ahS S u d ≠ -1 ∧ dG S (ahS S u d).toNat = dG S u - 1
noncomputable def shF (S : Sw) (u : Nat) : Int := loF (okD S u)
theorem sh_c (S : Sw) (u : Nat) : (shF S u = -1 ∧ dG S u < 1) ∨ (0 ≤ shF S u ∧ shF S u ≤ 3 ∧ 1 ≤ dG S u ∧ ahS S u (shF S u) ≠ -1) := by
  have z := lo_P (okD S u)
  have b := z.b
  rcases z with ⟨a1, a2⟩ | ⟨d, d4, a1, a2, _⟩
  · refine Or.inl ⟨a1, ?_⟩
    by_cases q : dG S u < 1
    · exact q
    · exfalso
      obtain ⟨k, hk⟩ : ∃ k : Nat, dG S u = ((k + 1 : Nat) : Int) := ⟨(dG S u).toNat - 1, by omega⟩
      obtain ⟨d, d4, e1, e2⟩ := d_pre hk
      exact a2 d d4 ⟨by omega, e1, by omega⟩
  · have e : shF S u = (d : Int) := a1
    refine Or.inr ⟨by omega, by omega, a2.1, ?_⟩
    rw [e]
    exact a2.2.1
/-- at the ring r + 1 what is looked for is what the sign shows -/
theorem ri_ok {S : Sw} {u r : Nat} (h : riG S r u = -1) (r15 : r < 15) {d : Nat} (hd : d < 4) (q : sgT S (riG S r) r u d) : ∀ e : Nat, (sgT S (riG S r) r u e ↔ okD S u e) := by
  have y := ri_y ⟨h, d, hd, q⟩
  have n1 : riG S (r + 1) u ≠ -1 := by omega
  have e1 : dG S u = (r : Int) + 1 := (ri_le n1 (by omega) : riG S 15 u = _).trans y
  intro e
  unfold sgT okD
  rw [e1]
  constructor
  · intro z
    have z2 := z.2
    have n2 : riG S r (ahS S u e).toNat ≠ -1 := by omega
    have e2 : dG S (ahS S u e).toNat = riG S r (ahS S u e).toNat := ri_le n2 (by omega)
    exact ⟨by omega, z.1, by omega⟩
  · intro z
    have z2 : riG S 15 (ahS S u e).toNat = (r : Int) := by have y := z.2.2; unfold dG at y; omega
    exact ⟨z.2.1, ri_at 15 r z2⟩
theorem ri_no {S : Sw} {u r : Nat} (h : riG S r u = -1) (q : ∀ d : Nat, d < 4 → ¬ sgT S (riG S r) r u d) : riG S (r + 1) u = -1 := by
  rw [ri_n (fun z => by obtain ⟨_, d, d4, t⟩ := z; exact q d d4 t)]
  exact h
/-- in the midst of a ring -/
noncomputable def miG (S : Sw) (r c u : Nat) : Int := if u < c then riG S (r + 1) u else riG S r u
theorem mi_0 {S : Sw} {r u : Nat} : miG S r 0 u = riG S r u := if_neg (Nat.not_lt_zero u)
theorem mi_a {S : Sw} {r c u : Nat} (h : u < c) : miG S r c u = riG S (r + 1) u := if_pos h
theorem mi_z {S : Sw} {r c u : Nat} (h : ¬ u < c) : miG S r c u = riG S r u := if_neg h
theorem mi_o {S : Sw} {r c u : Nat} (h : u ≠ c) : miG S r (c + 1) u = miG S r c u := by
  by_cases q : u < c
  · rw [mi_a q, mi_a (by omega)]
  · rw [mi_z q, mi_z (by omega)]
theorem mi_r {S : Sw} {r c u : Nat} : miG S r c u = (r : Int) ↔ riG S r u = (r : Int) := by
  by_cases q : u < c
  · rw [mi_a q]
    by_cases w : riG S r u = -1 ∧ ∃ d : Nat, d < 4 ∧ sgT S (riG S r) r u d
    · rw [ri_y w, w.1]; omega
    · rw [ri_n w]
  · rw [mi_z q]
/-! the reference: streets taken again and again -/
def ReS (S : Sw) (f : Nat → Int) (r c e : Nat) : Prop :=
  (∀ u : Nat, (u : Int) < S 1 6 → 0 ≤ f u ∧ f u ≤ 1000000 ∧ (f u < 1000000 → dG S u ≠ -1 ∧ dG S u ≤ f u)) ∧
  (∀ u : Nat, (u : Int) < S 1 6 → dG S u ≠ -1 → dG S u ≤ r → f u = dG S u) ∧
  (∀ u : Nat, (u : Int) < S 1 6 → u < c → dG S u ≠ -1 → dG S u ≤ (r : Int) + 1 → f u = dG S u) ∧
  (∀ d : Nat, d < e → ahS S c d ≠ -1 → dG S (ahS S c d).toNat ≠ -1 → dG S (ahS S c d).toNat ≤ r → f c ≤ dG S (ahS S c d).toNat + 1)
theorem ReS.z {S : Sw} {f : Nat → Int} (h : ∀ u : Nat, (u : Int) < S 1 6 → f u = if (u : Int) = S 1 7 then 0 else 1000000) : ReS S f 0 0 0 := by
  refine ⟨fun u hu => ?_, fun u hu h1 h2 => ?_, fun u _ hc => absurd hc (Nat.not_lt_zero u), fun d hd => absurd hd (Nat.not_lt_zero d)⟩
  · rw [h u hu]
    by_cases q : (u : Int) = S 1 7
    · rw [if_pos q, d_0.mpr q]; omega
    · rw [if_neg q]; omega
  · have b := d_b S u
    have e : dG S u = 0 := by omega
    rw [h u hu, if_pos (d_0.mp e), e]
theorem ReS.no {S : Sw} {f : Nat → Int} {r c d : Nat} (h : ReS S f r c d) (q : ahS S c d = -1) : ReS S f r c (d + 1) := by
  obtain ⟨h1, h2, h3, h4⟩ := h
  refine ⟨h1, h2, h3, fun e he a b k => ?_⟩
  by_cases w : e = d
  · subst w
    exact absurd q a
  · exact h4 e (by omega) a b k
theorem ReS.as {S : Sw} (hs : sgH S) {f : Nat → Int} {r c d : Nat} (h : ReS S f r c d) (q : f c ≤ f (ahS S c d).toNat + 1) : ReS S f r c (d + 1) := by
  obtain ⟨h1, h2, h3, h4⟩ := h
  refine ⟨h1, h2, h3, fun e he a b k => ?_⟩
  by_cases w : e = d
  · subst w
    have ha := sg_ah hs a
    have z := h2 (ahS S c e).toNat (by omega) b k
    omega
  · exact h4 e (by omega) a b k
theorem ReS.up {S : Sw} (hs : sgH S) {f : Nat → Int} {r c d : Nat} (h : ReS S f r c d) (hc : (c : Int) < S 1 6) (hd : d < 4) (a : ahS S c d ≠ -1) (q : f (ahS S c d).toNat + 1 < f c) : ReS S (upF f c (f (ahS S c d).toNat + 1)) r c (d + 1) := by
  obtain ⟨h1, h2, h3, h4⟩ := h
  have ha := sg_ah hs a
  have k1 := h1 (ahS S c d).toNat (by omega)
  have k2 := h1 c hc
  have k3 := k1.2.2 (by omega)
  have bv := d_b S (ahS S c d).toNat
  have k4 := d_ed hs hc hd a (k := (dG S (ahS S c d).toNat).toNat) (by omega)
  have ne : ∀ u : Nat, dG S u ≠ -1 → dG S u ≤ r → (u : Int) < S 1 6 → u ≠ c := fun u a1 a2 a3 e => by
    subst e
    have y := h2 u a3 a1 a2
    omega
  refine ⟨fun u hu => ?_, fun u hu a1 a2 => ?_, fun u hu hl a1 a2 => ?_, fun e he a1 a2 a3 => ?_⟩
  · by_cases w : u = c
    · subst w
      rw [upF_s]
      refine ⟨by omega, by omega, fun _ => ⟨k4.1, by omega⟩⟩
    · rw [upF_o w]
      exact h1 u hu
  · rw [upF_o (ne u a1 a2 hu)]
    exact h2 u hu a1 a2
  · rw [upF_o (by omega)]
    exact h3 u hu hl a1 a2
  · rw [upF_s]
    by_cases w : e = d
    · subst w
      have z := h2 (ahS S c e).toNat (by omega) a2 a3
      omega
    · have z := h4 e (by omega) a1 a2 a3
      omega
theorem ReS.c {S : Sw} {f : Nat → Int} {r c : Nat} (h : ReS S f r c 4) (hc : (c : Int) < S 1 6) : ReS S f r (c + 1) 0 := by
  obtain ⟨h1, h2, h3, h4⟩ := h
  refine ⟨h1, h2, fun u hu hl a1 a2 => ?_, fun d hd => absurd hd (Nat.not_lt_zero d)⟩
  by_cases w : u = c
  · subst w
    have b := d_b S u
    by_cases q : dG S u ≤ r
    · exact h2 u hu a1 q
    · obtain ⟨k, hk⟩ : ∃ k : Nat, dG S u = ((k + 1 : Nat) : Int) := ⟨(dG S u).toNat - 1, by omega⟩
      obtain ⟨d, d4, e1, e2⟩ := d_pre hk
      have z := h4 d d4 e1 (by omega) (by omega)
      have y := h1 u hu
      have y2 := y.2.2 (by omega)
      omega
  · exact h3 u hu (by omega) a1 a2
theorem ReS.r {S : Sw} {f : Nat → Int} {r c : Nat} (h : ReS S f r c 0) (hc : S 1 6 ≤ (c : Int)) : ReS S f (r + 1) 0 0 := by
  obtain ⟨h1, h2, h3, h4⟩ := h
  exact ⟨h1, fun u hu a1 a2 => h3 u hu (by omega) a1 (by omega), fun u _ hl => absurd hl (Nat.not_lt_zero u), fun d hd => absurd hd (Nat.not_lt_zero d)⟩
theorem ReS.e {S : Sw} (hs : sgH S) {f : Nat → Int} {r : Nat} (h : ReS S f r 0 0) (hr : S 1 6 ≤ (r : Int)) (u : Nat) (hu : (u : Int) < S 1 6) : f u = frF (dG S u) := by
  obtain ⟨h1, h2, h3, h4⟩ := h
  have n := d_N hs hu
  have b := d_b S u
  unfold frF
  by_cases q : dG S u = -1
  · rw [if_pos q]
    have z := h1 u hu
    by_cases w : f u < 1000000
    · exact absurd q (z.2.2 w).1
    · omega
  · rw [if_neg q]
    exact h2 u hu q (by omega)
/-- so far down no direction above v of which P holds but r -/
def loD (P : Nat → Prop) (v r : Int) : Prop := (r = -1 ∧ ∀ d : Nat, v < (d : Int) → d < 4 → ¬ P d) ∨ (∃ d : Nat, v < (d : Int) ∧ d < 4 ∧ r = (d : Int) ∧ P d ∧ ∀ e : Nat, v < (e : Int) → e < d → ¬ P e)
theorem loD.z (P : Nat → Prop) : loD P 3 (-1) := Or.inl ⟨rfl, fun d h1 h2 => by omega⟩
theorem loD.n {P : Nat → Prop} {v r : Int} (h : loD P v r) (v0 : 0 ≤ v) (q : ¬ P v.toNat) : loD P (v - 1) r := by
  have ne : ∀ d : Nat, v - 1 < (d : Int) → P d → v < (d : Int) := fun d h1 h2 => by
    by_cases w : (d : Int) = v
    · exfalso
      apply q
      rw [← w]
      exact h2
    · omega
  rcases h with ⟨a1, a2⟩ | ⟨d, d1, d4, a1, a2, a3⟩
  · exact Or.inl ⟨a1, fun d h1 h2 h3 => a2 d (ne d h1 h3) h2 h3⟩
  · exact Or.inr ⟨d, by omega, d4, a1, a2, fun e h1 h2 h3 => a3 e (ne e h1 h3) h2 h3⟩
theorem loD.y {P : Nat → Prop} {v r : Int} (h : loD P v r) (v0 : 0 ≤ v) (v3 : v ≤ 3) (q : P v.toNat) : loD P (v - 1) v := Or.inr ⟨v.toNat, by omega, by omega, by omega, q, fun e h1 h2 => by omega⟩
theorem loD.e {P : Nat → Prop} {v r : Int} (h : loD P v r) (v0 : v < 0) : loP P r := by
  rcases h with ⟨a1, a2⟩ | ⟨d, d1, d4, a1, a2, a3⟩
  · exact Or.inl ⟨a1, fun d h => a2 d (by omega) h⟩
  · exact Or.inr ⟨d, d4, a1, a2, fun e h => a3 e (by omega) h⟩
/-- the reference's look at one direction -/
theorem ok_fr {S : Sw} {c d : Nat} (hs : sgH S) : okD S c d ↔ (frF (dG S c) < 1000000 ∧ ahS S c d ≠ -1 ∧ frF (dG S (ahS S c d).toNat) = frF (dG S c) - 1) := by
  have b := d_b S c
  have b2 := d_b S (ahS S c d).toNat
  have f1 := fr_c (x := dG S c) b.1 (by omega)
  have f2 := fr_c (x := dG S (ahS S c d).toNat) b2.1 (by omega)
  unfold okD
  constructor
  · intro z
    have z3 := z.2.2
    have z1 := z.1
    exact ⟨by omega, z.2.1, by omega⟩
  · intro z
    have z3 := z.2.2
    have z1 := z.1
    exact ⟨by omega, z.2.1, by omega⟩
