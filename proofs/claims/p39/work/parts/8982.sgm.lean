/-! SIGNS: where one goes, and whether one comes to the goal -/
def onS (S : Sw) (c f : Int) : Int := if ahS S c f ≠ -1 then f else if ahS S c ((f + 1) % 4) ≠ -1 then (f + 1) % 4 else if ahS S c ((f + 3) % 4) ≠ -1 then (f + 3) % 4 else if ahS S c ((f + 2) % 4) ≠ -1 then (f + 2) % 4 else -1
theorem on_0 {S : Sw} {c f : Int} (h : ahS S c f ≠ -1) : onS S c f = f := if_pos h
theorem on_1 {S : Sw} {c f : Int} (h0 : ¬ ahS S c f ≠ -1) (h : ahS S c ((f + 1) % 4) ≠ -1) : onS S c f = (f + 1) % 4 := (if_neg h0).trans (if_pos h)
theorem on_3 {S : Sw} {c f : Int} (h0 : ¬ ahS S c f ≠ -1) (h1 : ¬ ahS S c ((f + 1) % 4) ≠ -1) (h : ahS S c ((f + 3) % 4) ≠ -1) : onS S c f = (f + 3) % 4 := (if_neg h0).trans ((if_neg h1).trans (if_pos h))
theorem on_2 {S : Sw} {c f : Int} (h0 : ¬ ahS S c f ≠ -1) (h1 : ¬ ahS S c ((f + 1) % 4) ≠ -1) (h3 : ¬ ahS S c ((f + 3) % 4) ≠ -1) (h : ahS S c ((f + 2) % 4) ≠ -1) : onS S c f = (f + 2) % 4 := (if_neg h0).trans ((if_neg h1).trans ((if_neg h3).trans (if_pos h)))
theorem on_n {S : Sw} {c f : Int} (h0 : ¬ ahS S c f ≠ -1) (h1 : ¬ ahS S c ((f + 1) % 4) ≠ -1) (h3 : ¬ ahS S c ((f + 3) % 4) ≠ -1) (h : ¬ ahS S c ((f + 2) % 4) ≠ -1) : onS S c f = -1 := (if_neg h0).trans ((if_neg h1).trans ((if_neg h3).trans (if_neg h)))
theorem on_b {S : Sw} {c f : Int} (f0 : 0 ≤ f) (f3 : f ≤ 3) : onS S c f = -1 ∨ (0 ≤ onS S c f ∧ onS S c f ≤ 3 ∧ ahS S c (onS S c f) ≠ -1) := by
  by_cases h0 : ahS S c f ≠ -1
  · rw [on_0 h0]
    exact Or.inr ⟨f0, f3, h0⟩
  · by_cases h1 : ahS S c ((f + 1) % 4) ≠ -1
    · rw [on_1 h0 h1]
      exact Or.inr ⟨by omega, by omega, h1⟩
    · by_cases h3 : ahS S c ((f + 3) % 4) ≠ -1
      · rw [on_3 h0 h1 h3]
        exact Or.inr ⟨by omega, by omega, h3⟩
      · by_cases h2 : ahS S c ((f + 2) % 4) ≠ -1
        · rw [on_2 h0 h1 h3 h2]
          exact Or.inr ⟨by omega, by omega, h2⟩
        · exact Or.inl (on_n h0 h1 h3 h2)
noncomputable def drG (S : Sw) (t c : Nat) (f : Int) : Int := if t.testBit c = true ∧ 0 ≤ shF S c then shF S c else onS S c f
theorem dr_y {S : Sw} {t c : Nat} {f : Int} (h : t.testBit c = true ∧ 0 ≤ shF S c) : drG S t c f = shF S c := if_pos h
theorem dr_n {S : Sw} {t c : Nat} {f : Int} (h : ¬ (t.testBit c = true ∧ 0 ≤ shF S c)) : drG S t c f = onS S c f := if_neg h
theorem dr_b {S : Sw} {t c : Nat} {f : Int} (f0 : 0 ≤ f) (f3 : f ≤ 3) : drG S t c f = -1 ∨ (0 ≤ drG S t c f ∧ drG S t c f ≤ 3 ∧ ahS S c (drG S t c f) ≠ -1) := by
  by_cases h : t.testBit c = true ∧ 0 ≤ shF S c
  · rw [dr_y h]
    rcases sh_c S c with z | z
    · have q := h.2
      omega
    · exact Or.inr ⟨z.1, z.2.1, z.2.2.2⟩
  · rw [dr_n h]
    exact on_b f0 f3
/-- where one stands and faces: 4 times the corner and the direction -/
noncomputable def goX (S : Sw) (x : Nat) (d : Int) : Nat := if d = -1 then x else (4 * ahS S ((x / 4 : Nat) : Int) d + d).toNat
noncomputable def nxS (S : Sw) (t x : Nat) : Nat := goX S x (drG S t (x / 4) ((x % 4 : Nat) : Int))
theorem gx_n {S : Sw} {x : Nat} {d : Int} (h : d = -1) : goX S x d = x := if_pos h
theorem gx_y {S : Sw} {x : Nat} {d : Int} (h : d ≠ -1) : goX S x d = (4 * ahS S ((x / 4 : Nat) : Int) d + d).toNat := if_neg h
theorem nx_lt {S : Sw} (h : sgH S) {t x : Nat} (hx : (x : Int) < 4 * S 1 6) : (nxS S t x : Int) < 4 * S 1 6 := by
  unfold nxS
  have b := dr_b (S := S) (t := t) (c := x / 4) (f := ((x % 4 : Nat) : Int)) (by omega) (by omega)
  generalize drG S t (x / 4) ((x % 4 : Nat) : Int) = d at b ⊢
  by_cases q : d = -1
  · rw [gx_n q]
    exact hx
  · rw [gx_y q]
    have b2 := b.resolve_left q
    have a := sg_ah h b2.2.2
    omega
noncomputable def itG (S : Sw) (t : Nat) : Nat → Nat → Nat
  | 0, x => x
  | k + 1, x => nxS S t (itG S t k x)
theorem it_s {S : Sw} {t k x : Nat} : itG S t (k + 1) x = nxS S t (itG S t k x) := rfl
theorem it_lt {S : Sw} (h : sgH S) {t x : Nat} (hx : (x : Int) < 4 * S 1 6) : ∀ k : Nat, (itG S t k x : Int) < 4 * S 1 6
  | 0 => hx
  | k + 1 => nx_lt h (it_lt h hx k)
theorem it_add {S : Sw} {t x : Nat} (a : Nat) : ∀ b : Nat, itG S t (a + b) x = itG S t b (itG S t a x)
  | 0 => rfl
  | b + 1 => by
    show nxS S t (itG S t (a + b) x) = nxS S t (itG S t b (itG S t a x))
    rw [it_add a b]
def atG (S : Sw) (t k x : Nat) : Prop := ((itG S t k x / 4 : Nat) : Int) = S 1 7
def cmS (S : Sw) (t x : Nat) : Prop := ∃ k : Nat, atG S t k x
theorem exM {P : Nat → Prop} : ∀ k : Nat, P k → ∃ m : Nat, m ≤ k ∧ P m ∧ ∀ j : Nat, j < m → ¬ P j := fun k => by
  induction k using Nat.strongRecOn with
  | ind k ih =>
    intro h
    by_cases q : ∃ j : Nat, j < k ∧ P j
    · obtain ⟨j, hj, p⟩ := q
      obtain ⟨m, m1, m2, m3⟩ := ih j hj p
      exact ⟨m, by omega, m2, m3⟩
    · exact ⟨k, Nat.le_refl k, h, fun j hj p => q ⟨j, hj, p⟩⟩
theorem it_per {S : Sw} {t x i j k : Nat} (hij : i < j) (hjk : j ≤ k) (e : itG S t i x = itG S t j x) : itG S t (k - (j - i)) x = itG S t k x := by
  have e1 := it_add (S := S) (t := t) (x := x) i (k - j)
  have e2 := it_add (S := S) (t := t) (x := x) j (k - j)
  rw [e, show i + (k - j) = k - (j - i) by omega] at e1
  rw [show j + (k - j) = k by omega] at e2
  exact e1.trans e2.symm
theorem cm_63 {S : Sw} (h : sgH S) {t x : Nat} (hx : (x : Int) < 4 * S 1 6) (q : cmS S t x) : ∃ k : Nat, k ≤ 63 ∧ atG S t k x := by
  obtain ⟨k0, h0⟩ := q
  obtain ⟨k, _, hk, hm⟩ := exM (P := fun k => atG S t k x) k0 h0
  have no : ∀ i j : Nat, i < j → j ≤ k → itG S t i x = itG S t j x → False := fun i j a b e => by
    have z := it_per a b e
    refine hm (k - (j - i)) (by omega) ?_
    show ((itG S t (k - (j - i)) x / 4 : Nat) : Int) = S 1 7
    rw [z]
    exact hk
  have z := pgR 64 (k + 1) (fun j w => itG S t j x = w) (fun j hj => ⟨itG S t j x, by have y := it_lt h hx (t := t) j; have y2 := h.2.2.1; omega, rfl⟩) (fun i j w hi hj a b => by
    have a1 : itG S t i x = w := a
    have b1 : itG S t j x = w := b
    by_cases q : i < j
    · exact absurd (a1.trans b1.symm) (fun e => no i j q (by omega) e)
    · by_cases r : j < i
      · exact absurd (b1.trans a1.symm) (fun e => no j i r (by omega) e)
      · omega)
  exact ⟨k, by omega, hk⟩
theorem cm_no {S : Sw} {t x i j : Nat} (hij : i < j) (e : itG S t i x = itG S t j x) (g : ∀ m : Nat, m < j → ¬ atG S t m x) : ¬ cmS S t x := fun q => by
  obtain ⟨k0, h0⟩ := q
  obtain ⟨k, _, hk, hm⟩ := exM (P := fun k => atG S t k x) k0 h0
  have hjk : j ≤ k := by
    by_cases w : k < j
    · exact absurd hk (g k w)
    · omega
  have z := it_per hij hjk e
  refine hm (k - (j - i)) (by omega) ?_
  show ((itG S t (k - (j - i)) x / 4 : Nat) : Int) = S 1 7
  rw [z]
  exact hk
theorem cm_65 {S : Sw} (h : sgH S) {t x n : Nat} (hx : (x : Int) < 4 * S 1 6) (n64 : 64 ≤ n) (g : ∀ m : Nat, m < n → ¬ atG S t m x) : ¬ cmS S t x := fun q => by
  obtain ⟨k, k1, k2⟩ := cm_63 h hx q
  exact g k (by omega) k2
theorem cm_go {S : Sw} {t x k : Nat} (h : cmS S t (itG S t k x)) : cmS S t x := by
  obtain ⟨m, hm⟩ := h
  refine ⟨k + m, ?_⟩
  show ((itG S t (k + m) x / 4 : Nat) : Int) = S 1 7
  rw [it_add]
  exact hm
theorem cm_at {S : Sw} {t x k j : Nat} (h : atG S t k x) (hj : j ≤ k) : cmS S t (itG S t j x) := by
  refine ⟨k - j, ?_⟩
  show ((itG S t (k - j) (itG S t j x) / 4 : Nat) : Int) = S 1 7
  rw [← it_add, show j + (k - j) = k by omega]
  exact h
theorem cm_in {S : Sw} {t x k j : Nat} (h : cmS S t (itG S t k x)) (hj : j ≤ k) : cmS S t (itG S t j x) := by
  refine cm_go (k := k - j) ?_
  rw [← it_add, show j + (k - j) = k by omega]
  exact h
def svS (S : Sw) (t : Nat) : Prop := ∀ x : Nat, (x : Int) < 4 * S 1 6 → dG S (x / 4) ≠ -1 → cmS S t x
/-- signs that are enough -/
def enT (S : Sw) (t : Nat) : Prop := t < 2 ^ (S 1 6).toNat ∧ t.testBit (S 1 7).toNat = false ∧ svS S t
/-- a sign that shows nothing is none -/
theorem it_x {S : Sw} {t u : Nat} (hu : shF S u = -1) (x : Nat) : ∀ k : Nat, itG S (t ^^^ 2 ^ u) k x = itG S t k x
  | 0 => rfl
  | k + 1 => by
    have e : ∀ c : Nat, ∀ f : Int, drG S (t ^^^ 2 ^ u) c f = drG S t c f := fun c f => by
      unfold drG
      by_cases q : c = u
      · subst q
        rw [if_neg (fun z => by have z2 := z.2; omega), if_neg (fun z => by have z2 := z.2; omega)]
      · rw [Nat.testBit_xor, Nat.testBit_two_pow_of_ne (fun z => q z.symm), Bool.xor_false]
    show nxS S (t ^^^ 2 ^ u) (itG S (t ^^^ 2 ^ u) k x) = nxS S t (itG S t k x)
    rw [it_x hu x k]
    unfold nxS
    rw [e]
theorem en_x {S : Sw} {t u : Nat} (h : enT S t) (hu : shF S u = -1) (hb : t.testBit u = true) : enT S (t ^^^ 2 ^ u) := by
  have ul : u < (S 1 6).toNat := by
    by_cases q : u < (S 1 6).toNat
    · exact q
    · have z := Nat.testBit_lt_two_pow (Nat.lt_of_lt_of_le h.1 (Nat.pow_le_pow_right (by decide) (by omega : (S 1 6).toNat ≤ u)))
      rw [z] at hb
      exact absurd hb (by decide)
  have ug : u ≠ (S 1 7).toNat := fun e => by
    have z := h.2.1
    rw [← e, hb] at z
    exact absurd z (by decide)
  refine ⟨Nat.xor_lt_two_pow h.1 (Nat.pow_lt_pow_right (by decide) ul), ?_, fun x hx hd => ?_⟩
  · rw [Nat.testBit_xor, Nat.testBit_two_pow_of_ne ug, Bool.xor_false]
    exact h.2.1
  · obtain ⟨k, hk⟩ := h.2.2 x hx hd
    refine ⟨k, ?_⟩
    show ((itG S (t ^^^ 2 ^ u) k x / 4 : Nat) : Int) = S 1 7
    rw [it_x hu]
    exact hk
/-! bits of sets -/
def pcN (t : Nat) : Nat → Nat
  | 0 => 0
  | n + 1 => pcN t n + t / 2 ^ n % 2
theorem tb_1 {t c : Nat} : t.testBit c = true ↔ t / 2 ^ c % 2 = 1 := by rw [Nat.testBit_eq_decide_div_mod_eq, decide_eq_true_eq]
theorem tb_e {a b c : Nat} (h : a.testBit c = b.testBit c) : a / 2 ^ c % 2 = b / 2 ^ c % 2 := by
  have a1 : a / 2 ^ c % 2 < 2 := Nat.mod_lt _ (by decide)
  have b1 : b / 2 ^ c % 2 < 2 := Nat.mod_lt _ (by decide)
  have z : a.testBit c = true ↔ b.testBit c = true := by rw [h]
  rw [tb_1, tb_1] at z
  generalize a / 2 ^ c % 2 = x at a1 z ⊢
  generalize b / 2 ^ c % 2 = y at b1 z ⊢
  omega
theorem pc_co {a b : Nat} : ∀ n : Nat, (∀ c : Nat, c < n → a.testBit c = b.testBit c) → pcN a n = pcN b n
  | 0, _ => rfl
  | n + 1, h => by
    show pcN a n + a / 2 ^ n % 2 = pcN b n + b / 2 ^ n % 2
    rw [pc_co n (fun c hc => h c (by omega)), tb_e (h n (Nat.lt_succ_self n))]
theorem pc_z {t n : Nat} (h : t < 2 ^ n) : t / 2 ^ n % 2 = 0 := by rw [Nat.div_eq_of_lt h]
theorem pc_hi {t n : Nat} (h : t < 2 ^ n) : ∀ i : Nat, pcN t (n + i) = pcN t n
  | 0 => rfl
  | i + 1 => by
    show pcN t (n + i) + t / 2 ^ (n + i) % 2 = pcN t n
    rw [pc_hi h i, pc_z (Nat.lt_of_lt_of_le h (Nat.pow_le_pow_right (by decide) (Nat.le_add_right n i)))]
    rfl
theorem pc_le {t n m : Nat} (h : t < 2 ^ n) (q : n ≤ m) : pcN t m = pcN t n := by
  have z := pc_hi h (m - n)
  rw [show n + (m - n) = m by omega] at z
  exact z
theorem pc_top {t n : Nat} : pcN (2 ^ n + t) n = pcN t n := pc_co n (fun c hc => Nat.testBit_two_pow_add_gt hc t)
theorem pc_0 {t : Nat} : ∀ n : Nat, t < 2 ^ n → pcN t n = 0 → t = 0
  | 0, h, _ => by
    rw [Nat.pow_zero] at h
    omega
  | n + 1, h, q => by
    have q2 : pcN t n + t / 2 ^ n % 2 = 0 := q
    by_cases w : t < 2 ^ n
    · exact pc_0 n w (by omega)
    · exfalso
      have e : t / 2 ^ n = 1 := Nat.div_eq_of_lt_le (by omega) (by rw [Nat.pow_succ] at h; omega)
      rw [e] at q2
      omega
theorem pc_x {t u : Nat} (hb : t.testBit u = true) : ∀ n : Nat, pcN (t ^^^ 2 ^ u) n + (if u < n then 1 else 0) = pcN t n
  | 0 => rfl
  | n + 1 => by
    have ih := pc_x hb n
    show pcN (t ^^^ 2 ^ u) n + (t ^^^ 2 ^ u) / 2 ^ n % 2 + _ = pcN t n + t / 2 ^ n % 2
    by_cases q : u = n
    · subst q
      rw [if_neg (Nat.lt_irrefl u)] at ih
      rw [if_pos (Nat.lt_succ_self u)]
      have z1 := tb_1.mp hb
      have z2 : (t ^^^ 2 ^ u) / 2 ^ u % 2 = 0 := by
        have y : ¬ (t ^^^ 2 ^ u).testBit u = true := by
          rw [Nat.testBit_xor, hb, Nat.testBit_two_pow_self]
          decide
        rw [tb_1] at y
        omega
      rw [z1, z2]
      omega
    · have z : (t ^^^ 2 ^ u).testBit n = t.testBit n := by rw [Nat.testBit_xor, Nat.testBit_two_pow_of_ne q, Bool.xor_false]
      rw [tb_e z]
      by_cases w : u < n
      · rw [if_pos w] at ih
        rw [if_pos (by omega)]
        omega
      · rw [if_neg w] at ih
        rw [if_neg (by omega)]
        omega
theorem pc_sub {a b : Nat} : ∀ n : Nat, (∀ c : Nat, c < n → a.testBit c = true → b.testBit c = true) → pcN a n ≤ pcN b n
  | 0, _ => Nat.le_refl _
  | n + 1, h => by
    have ih := pc_sub n (fun c hc => h c (by omega))
    have z := h n (Nat.lt_succ_self n)
    rw [tb_1, tb_1] at z
    show pcN a n + a / 2 ^ n % 2 ≤ pcN b n + b / 2 ^ n % 2
    have a1 : a / 2 ^ n % 2 < 2 := Nat.mod_lt _ (by decide)
    generalize a / 2 ^ n % 2 = x at a1 z ⊢
    generalize b / 2 ^ n % 2 = y at z ⊢
    omega
theorem pc_sub1 {a b g : Nat} (ag : a.testBit g = false) (bg : b.testBit g = true) : ∀ n : Nat, g < n → (∀ c : Nat, c < n → a.testBit c = true → b.testBit c = true) → pcN a n + 1 ≤ pcN b n
  | 0, hg, _ => absurd hg (Nat.not_lt_zero g)
  | n + 1, hg, h => by
    show pcN a n + a / 2 ^ n % 2 + 1 ≤ pcN b n + b / 2 ^ n % 2
    by_cases q : g = n
    · subst q
      have ih := pc_sub g (fun c hc => h c (by omega))
      have z1 := tb_1.mp bg
      have z2 : a / 2 ^ g % 2 = 0 := by
        have y : ¬ a.testBit g = true := by rw [ag]; decide
        rw [tb_1] at y
        omega
      rw [z1, z2]
      omega
    · have ih := pc_sub1 ag bg n (by omega) (fun c hc => h c (by omega))
      have z := h n (Nat.lt_succ_self n)
      rw [tb_1, tb_1] at z
      have a1 : a / 2 ^ n % 2 < 2 := Nat.mod_lt _ (by decide)
      generalize a / 2 ^ n % 2 = x at a1 z ⊢
      generalize b / 2 ^ n % 2 = y at z ⊢
      omega
/-! all sets of so many, the lowest first -/
def gsL : Nat → Nat → List Nat
  | 0, _ => [0]
  | _ + 1, 0 => []
  | k + 1, n + 1 => gsL (k + 1) n ++ (gsL k n).map (fun t => 2 ^ n + t)
theorem gs_0 : ∀ n : Nat, gsL 0 n = [0]
  | 0 => rfl
  | _ + 1 => rfl
theorem gs_s {k n : Nat} : gsL (k + 1) (n + 1) = gsL (k + 1) n ++ (gsL k n).map (fun t => 2 ^ n + t) := rfl
theorem gs_mem : ∀ (n k t : Nat), t < 2 ^ n → pcN t n = k → t ∈ gsL k n
  | n, 0, t, h, q => by
    rw [gs_0, pc_0 n h q]
    exact List.mem_cons_self ..
  | 0, k + 1, t, _, q => by
    have z : (0 : Nat) = k + 1 := q
    omega
  | n + 1, k + 1, t, h, q => by
    have q2 : pcN t n + t / 2 ^ n % 2 = k + 1 := q
    rw [gs_s]
    by_cases w : t < 2 ^ n
    · rw [pc_z w] at q2
      exact List.mem_append_left _ (gs_mem n (k + 1) t w q2)
    · have e : t / 2 ^ n = 1 := Nat.div_eq_of_lt_le (by omega) (by rw [Nat.pow_succ] at h; omega)
      rw [e] at q2
      have hp : 2 ^ (n + 1) = 2 ^ n + 2 ^ n := by rw [Nat.pow_succ]; omega
      have z := gs_mem n k (t - 2 ^ n) (by omega) (by
        have y := pc_top (t := t - 2 ^ n) (n := n)
        rw [show 2 ^ n + (t - 2 ^ n) = t by omega] at y
        omega)
      exact List.mem_append_right _ (List.mem_map.mpr ⟨t - 2 ^ n, z, by omega⟩)
theorem gs_lt : ∀ (n k t : Nat), t ∈ gsL k n → t < 2 ^ n ∧ pcN t n = k
  | n, 0, t, h => by
    rw [gs_0] at h
    have e : t = 0 := List.mem_singleton.mp h
    subst e
    refine ⟨Nat.two_pow_pos n, ?_⟩
    have z := pc_hi (t := 0) (n := 0) (by decide) n
    rw [Nat.zero_add] at z
    exact z
  | 0, k + 1, t, h => absurd h (List.not_mem_nil)
  | n + 1, k + 1, t, h => by
    rw [gs_s] at h
    have hp : 2 ^ (n + 1) = 2 ^ n + 2 ^ n := by rw [Nat.pow_succ]; omega
    rcases List.mem_append.mp h with z | z
    · obtain ⟨a, b⟩ := gs_lt n (k + 1) t z
      refine ⟨by omega, ?_⟩
      show pcN t n + t / 2 ^ n % 2 = k + 1
      rw [pc_z a, b]
    · obtain ⟨s, hs, e⟩ := List.mem_map.mp z
      obtain ⟨a, b⟩ := gs_lt n k s hs
      subst e
      refine ⟨by omega, ?_⟩
      show pcN (2 ^ n + s) n + (2 ^ n + s) / 2 ^ n % 2 = k + 1
      rw [pc_top, b, Nat.div_eq_of_lt_le (k := 1) (by omega) (by omega)]
theorem gs_pw : ∀ (n k : Nat), (gsL k n).Pairwise (fun a b => a < b)
  | n, 0 => by
    rw [gs_0]
    exact List.pairwise_cons.mpr ⟨fun a h => absurd h (List.not_mem_nil), List.Pairwise.nil⟩
  | 0, k + 1 => List.Pairwise.nil
  | n + 1, k + 1 => by
    rw [gs_s]
    refine List.pairwise_append.mpr ⟨gs_pw n (k + 1), List.pairwise_map.mpr ((gs_pw n k).imp (fun h => by omega)), fun a ha b hb => ?_⟩
    obtain ⟨s, hs, e⟩ := List.mem_map.mp hb
    have z := (gs_lt n (k + 1) a ha).1
    omega
theorem gs_ln : ∀ k : Nat, k < 5 → (gsL k 16).length < 65536 := by decide +kernel
/-- the least that is enough -/
def SigS (S : Sw) (r : Int) : Prop := (S 1 7 = -1 ∧ r = -1) ∨ (S 1 7 ≠ -1 ∧ ((∃ t : Nat, r = (t : Int) ∧ pcN t 16 ≤ 4 ∧ enT S t ∧ ∀ u : Nat, enT S u → pcN t 16 < pcN u 16 ∨ (pcN t 16 = pcN u 16 ∧ t ≤ u)) ∨ (r = -1 ∧ ∀ u : Nat, enT S u → 4 < pcN u 16)))
theorem signs_one {S : Sw} {r s : Int} (h : SigS S r) (g : SigS S s) : r = s := by
  rcases h with ⟨a, h⟩ | ⟨a, h⟩ <;> rcases g with ⟨b, g⟩ | ⟨b, g⟩
  · rw [h, g]
  · exact absurd a b
  · exact absurd b a
  · rcases h with ⟨t, h1, h2, h3, h4⟩ | ⟨h1, h2⟩ <;> rcases g with ⟨u, g1, g2, g3, g4⟩ | ⟨g1, g2⟩
    · have x := h4 u g3
      have y := g4 t h3
      omega
    · have x := g2 t h3
      omega
    · have x := h2 u g3
      omega
    · omega
