/-! SIGNS: sets and bits of both machines' numbers -/
theorem of31 {m : Nat} (hm : m < 2147483648) : (Int32.ofInt (m : Int)).toBitVec.toNat = m := by
  show (BitVec.ofInt 32 (m : Int)).toNat = m
  rw [BitVec.toNat_ofInt]
  omega
theorem to31 {x : Int32} (h : x.toBitVec.toNat < 2147483648) : x.toInt = (x.toBitVec.toNat : Int) := by
  show x.toBitVec.toInt = _
  exact BitVec.toInt_eq_toNat_of_lt (by omega)
theorem and31 {a b : Nat} (ha : a < 2147483648) (hb : b < 2147483648) : andI (a : Int) (b : Int) = ((a &&& b : Nat) : Int) := by
  have e : (Int32.ofInt (a : Int) &&& Int32.ofInt (b : Int)).toBitVec.toNat = a &&& b := by
    rw [Int32.toBitVec_and, BitVec.toNat_and, of31 ha, of31 hb]
  have l : a &&& b ≤ a := Nat.and_le_left
  have z := to31 (x := Int32.ofInt (a : Int) &&& Int32.ofInt (b : Int)) (by rw [e]; omega)
  rw [e] at z
  exact z
theorem ush_k : ∀ k : Nat, k < 32 → (((Int32.ofInt (k : Int)).toUInt32 &&& Int32.toUInt32 31).toNat % 32 = k) := by decide +kernel
theorem ush31 {a k : Nat} (ha : a < 2147483648) (hk : k < 32) : ushrI (a : Int) (k : Int) = ((a / 2 ^ k : Nat) : Int) := by
  have e : ((Int32.ofInt (a : Int)).toUInt32 >>> ((Int32.ofInt (k : Int)).toUInt32 &&& Int32.toUInt32 31)).toInt32.toBitVec.toNat = a / 2 ^ k := by
    show ((Int32.ofInt (a : Int)).toUInt32 >>> ((Int32.ofInt (k : Int)).toUInt32 &&& Int32.toUInt32 31)).toNat = a / 2 ^ k
    rw [UInt32.toNat_shiftRight, ush_k k hk, show (Int32.ofInt (a : Int)).toUInt32.toNat = a from of31 ha, Nat.shiftRight_eq_div_pow]
  have l : a / 2 ^ k ≤ a := Nat.div_le_self _ _
  have z := to31 (x := ((Int32.ofInt (a : Int)).toUInt32 >>> ((Int32.ofInt (k : Int)).toUInt32 &&& Int32.toUInt32 31)).toInt32) (by rw [e]; omega)
  rw [e] at z
  exact z
def nb1 (i : Nat) : Nat := i - (i / 2 &&& 1431655765)
def nb2 (i : Nat) : Nat := (i &&& 858993459) + (i / 4 &&& 858993459)
def nb3 (i : Nat) : Nat := (i + i / 16) &&& 252645135
def nb4 (i : Nat) : Nat := i + i / 256
def nb5 (i : Nat) : Nat := i + i / 65536
def bcN (i : Nat) : Nat := nb5 (nb4 (nb3 (nb2 (nb1 i)))) % 64
theorem bc_n {i : Nat} (hi : i < 65536) : bcJ (i : Int) = (bcN i : Int) := by
  have l1 : i / 2 &&& 1431655765 ≤ i / 2 := Nat.and_le_left
  have e1 : bc1 (i : Int) = (nb1 i : Int) := by
    unfold bc1 nb1
    have u : ushrI (i : Int) 1 = ((i / 2 : Nat) : Int) := ush31 (k := 1) (by omega) (by decide)
    have a : andI ((i / 2 : Nat) : Int) 1431655765 = ((i / 2 &&& 1431655765 : Nat) : Int) := and31 (b := 1431655765) (by omega) (by decide)
    rw [u, a, wI_id (by omega) (by omega)]
    omega
  have b1 : nb1 i ≤ i := by unfold nb1; omega
  have e2 : bc2 (nb1 i : Int) = (nb2 (nb1 i) : Int) := by
    unfold bc2 nb2
    generalize nb1 i = j at b1 ⊢
    have u : ushrI (j : Int) 2 = ((j / 4 : Nat) : Int) := ush31 (k := 2) (by omega) (by decide)
    have a : andI ((j / 4 : Nat) : Int) 858993459 = ((j / 4 &&& 858993459 : Nat) : Int) := and31 (b := 858993459) (by omega) (by decide)
    have a2 : andI (j : Int) 858993459 = ((j &&& 858993459 : Nat) : Int) := and31 (b := 858993459) (by omega) (by decide)
    have l2 : j / 4 &&& 858993459 ≤ j / 4 := Nat.and_le_left
    have l3 : j &&& 858993459 ≤ j := Nat.and_le_left
    rw [u, a, a2, wI_id (by omega) (by omega)]
    omega
  have b2 : nb2 (nb1 i) ≤ 131072 := by
    unfold nb2
    have l2 : nb1 i / 4 &&& 858993459 ≤ nb1 i / 4 := Nat.and_le_left
    have l3 : nb1 i &&& 858993459 ≤ nb1 i := Nat.and_le_left
    omega
  have e3 : bc3 (nb2 (nb1 i) : Int) = (nb3 (nb2 (nb1 i)) : Int) := by
    unfold bc3 nb3
    generalize nb2 (nb1 i) = j at b2 ⊢
    have u : ushrI (j : Int) 4 = ((j / 16 : Nat) : Int) := ush31 (k := 4) (by omega) (by decide)
    rw [u, wI_id (by omega) (by omega)]
    have a : andI ((j + j / 16 : Nat) : Int) 252645135 = (((j + j / 16) &&& 252645135 : Nat) : Int) := and31 (b := 252645135) (by omega) (by decide)
    rw [← a]
    congr 1
  have b3 : nb3 (nb2 (nb1 i)) ≤ 262144 := by
    unfold nb3
    have l2 : (nb2 (nb1 i) + nb2 (nb1 i) / 16) &&& 252645135 ≤ nb2 (nb1 i) + nb2 (nb1 i) / 16 := Nat.and_le_left
    omega
  have e4 : bc4 (nb3 (nb2 (nb1 i)) : Int) = (nb4 (nb3 (nb2 (nb1 i))) : Int) := by
    unfold bc4 nb4
    generalize nb3 (nb2 (nb1 i)) = j at b3 ⊢
    have u : ushrI (j : Int) 8 = ((j / 256 : Nat) : Int) := ush31 (k := 8) (by omega) (by decide)
    rw [u, wI_id (by omega) (by omega)]
    omega
  have b4 : nb4 (nb3 (nb2 (nb1 i))) ≤ 524288 := by
    unfold nb4
    omega
  have e5 : bc5 (nb4 (nb3 (nb2 (nb1 i))) : Int) = (nb5 (nb4 (nb3 (nb2 (nb1 i)))) : Int) := by
    unfold bc5 nb5
    generalize nb4 (nb3 (nb2 (nb1 i))) = j at b4 ⊢
    have u : ushrI (j : Int) 16 = ((j / 65536 : Nat) : Int) := ush31 (k := 16) (by omega) (by decide)
    rw [u, wI_id (by omega) (by omega)]
    omega
  unfold bcJ bcN
  rw [e1, e2, e3, e4, e5]
  omega
theorem pc_cat {a b m : Nat} (h : b < 2 ^ m) : ∀ n : Nat, pcN (2 ^ m * a + b) (m + n) = pcN b m + pcN a n
  | 0 => by
    show pcN (2 ^ m * a + b) m = pcN b m + 0
    rw [Nat.add_zero]
    exact pc_co m (fun c hc => by rw [Nat.testBit_two_pow_mul_add a h c, if_pos hc])
  | n + 1 => by
    show pcN (2 ^ m * a + b) (m + n) + (2 ^ m * a + b) / 2 ^ (m + n) % 2 = pcN b m + (pcN a n + a / 2 ^ n % 2)
    have e : (2 ^ m * a + b) / 2 ^ (m + n) = a / 2 ^ n := by
      rw [Nat.pow_add, ← Nat.div_div_eq_div_mul, Nat.mul_add_div (Nat.two_pow_pos m), Nat.div_eq_of_lt h, Nat.add_zero]
    rw [pc_cat h n, e]
    omega
theorem and_256 (x m : Nat) : (x &&& m) = 256 * (x / 256 &&& m / 256) + (x % 256 &&& m % 256) := by
  have h1 : (x &&& m) / 2 ^ 8 = x / 2 ^ 8 &&& m / 2 ^ 8 := Nat.and_div_two_pow
  have h2 : (x &&& m) % 2 ^ 8 = (x % 2 ^ 8) &&& (m % 2 ^ 8) := Nat.and_mod_two_pow
  have h3 := Nat.div_add_mod (x &&& m) (2 ^ 8)
  rw [h1, h2] at h3
  exact h3.symm
theorem nb_l1 : ∀ p : Nat, p < 2 → ∀ b : Nat, b < 256 → (128 * p + b / 2) &&& 85 = b / 2 &&& 1431655765 := by decide +kernel
theorem nb_h1 : ∀ a : Nat, a < 256 → a / 2 &&& 5592405 = a / 2 &&& 1431655765 := by decide +kernel
theorem nb_1 {a b : Nat} (ha : a < 256) (hb : b < 256) : nb1 (256 * a + b) = 256 * nb1 a + nb1 b := by
  have e : (256 * a + b) / 2 &&& 1431655765 = 256 * (a / 2 &&& 1431655765) + (b / 2 &&& 1431655765) := by
    rw [and_256, show (256 * a + b) / 2 / 256 = a / 2 by omega, show (256 * a + b) / 2 % 256 = 128 * (a % 2) + b / 2 by omega, show 1431655765 / 256 = 5592405 by decide, show 1431655765 % 256 = 85 by decide, nb_h1 a ha, nb_l1 (a % 2) (by omega) b hb]
  have la : a / 2 &&& 1431655765 ≤ a / 2 := Nat.and_le_left
  have lb : b / 2 &&& 1431655765 ≤ b / 2 := Nat.and_le_left
  unfold nb1
  rw [e]
  generalize a / 2 &&& 1431655765 = u at la ⊢
  generalize b / 2 &&& 1431655765 = w at lb ⊢
  omega
theorem nb_l2 : ∀ p : Nat, p < 4 → ∀ b : Nat, b < 256 → (64 * p + b / 4) &&& 51 = b / 4 &&& 858993459 := by decide +kernel
theorem nb_h2 : ∀ a : Nat, a < 256 → a &&& 3355443 = a &&& 858993459 ∧ a &&& 51 = a &&& 858993459 := by decide +kernel
theorem nb_2 {a b : Nat} (ha : a < 256) (hb : b < 256) : nb2 (256 * a + b) = 256 * nb2 a + nb2 b := by
  have e1 : (256 * a + b) &&& 858993459 = 256 * (a &&& 858993459) + (b &&& 858993459) := by
    rw [and_256, show (256 * a + b) / 256 = a by omega, show (256 * a + b) % 256 = b by omega, show 858993459 / 256 = 3355443 by decide, show 858993459 % 256 = 51 by decide, (nb_h2 a ha).1, (nb_h2 b hb).2]
  have e2 : (256 * a + b) / 4 &&& 858993459 = 256 * (a / 4 &&& 858993459) + (b / 4 &&& 858993459) := by
    rw [and_256, show (256 * a + b) / 4 / 256 = a / 4 by omega, show (256 * a + b) / 4 % 256 = 64 * (a % 4) + b / 4 by omega, show 858993459 / 256 = 3355443 by decide, show 858993459 % 256 = 51 by decide, (nb_h2 (a / 4) (by omega)).1, nb_l2 (a % 4) (by omega) b hb]
  unfold nb2
  rw [e1, e2]
  omega
theorem nb_by : ∀ a : Nat, a < 256 → nb2 (nb1 a) = 16 * pcN (a / 16) 4 + pcN (a % 16) 4 ∧ pcN a 8 = pcN (a / 16) 4 + pcN (a % 16) 4 ∧ pcN (a / 16) 4 < 5 ∧ pcN (a % 16) 4 < 5 := by decide +kernel
theorem nb_fin : ∀ h : Nat, h < 5 → ∀ l : Nat, l < 5 → ∀ p : Nat, p < 5 → ∀ q : Nat, q < 5 → nb5 (nb4 (nb3 (256 * (16 * h + l) + (16 * p + q)))) % 64 = h + l + p + q := by decide +kernel
theorem bc_k {a b : Nat} (ha : a < 256) (hb : b < 256) : bcN (256 * a + b) = pcN (256 * a + b) 16 := by
  have n1 : nb1 a ≤ a := Nat.sub_le _ _
  have n2 : nb1 b ≤ b := Nat.sub_le _ _
  have e2 := nb_2 (a := nb1 a) (b := nb1 b) (by omega) (by omega)
  obtain ⟨a1, a2, a3, a4⟩ := nb_by a ha
  obtain ⟨b1, b2, b3, b4⟩ := nb_by b hb
  have f := nb_fin _ a3 _ a4 _ b3 _ b4
  have c : pcN (256 * a + b) 16 = pcN b 8 + pcN a 8 := pc_cat (a := a) (b := b) (m := 8) hb 8
  unfold bcN
  rw [nb_1 ha hb, e2, a1, b1, f, c, a2, b2]
  omega
theorem bc_pc {i : Nat} (hi : i < 65536) : bcJ (i : Int) = (pcN i 16 : Int) := by
  have z := bc_k (a := i / 256) (b := i % 256) (by omega) (by omega)
  rw [show 256 * (i / 256) + i % 256 = i by omega] at z
  rw [bc_n hi, z]
theorem bs_pc {t : Nat} (ht : t < 65536) : ∀ n : Nat, n ≤ 16 → bsN (t : Int) n = (pcN t n : Int)
  | 0, _ => rfl
  | n + 1, h => by
    rw [bsN_s, bs_pc ht n (by omega), shr_n ht (by omega)]
    show (pcN t n : Int) + ((t / 2 ^ n : Nat) : Int) % 2 = ((pcN t n + t / 2 ^ n % 2 : Nat) : Int)
    generalize t / 2 ^ n = y
    omega
theorem shr_tb {t c : Nat} (ht : t < 65536) (hc : c < 16) : shrI (t : Int) (c : Int) % 2 = 1 ↔ t.testBit c = true := by
  rw [shr_n ht hc, tb_1]
  generalize t / 2 ^ c = y
  omega
/-- one set without another -/
theorem an_x {a b : Nat} (ha : a < 65536) (hb : b < 2147483648) : ∃ m : Nat, andI (a : Int) (xorI (b : Int) (-1)) = (m : Int) ∧ m ≤ a ∧ ∀ c : Nat, m.testBit c = (a.testBit c && !b.testBit c) := by
  have e0 : andI (a : Int) (xorI (b : Int) (-1)) = (Int32.ofInt (a : Int) &&& (Int32.ofInt (b : Int) ^^^ Int32.ofInt (-1))).toInt := by
    unfold andI xorI
    rw [i32i]
  have e1 : (Int32.ofInt (a : Int) &&& (Int32.ofInt (b : Int) ^^^ Int32.ofInt (-1))).toBitVec = (Int32.ofInt (a : Int)).toBitVec &&& ((Int32.ofInt (b : Int)).toBitVec ^^^ BitVec.allOnes 32) := by
    rw [Int32.toBitVec_and, Int32.toBitVec_xor, show (Int32.ofInt (-1)).toBitVec = BitVec.allOnes 32 by decide]
  have l : ((Int32.ofInt (a : Int)).toBitVec &&& ((Int32.ofInt (b : Int)).toBitVec ^^^ BitVec.allOnes 32)).toNat ≤ a := by
    rw [BitVec.toNat_and, of31 (by omega)]
    exact Nat.and_le_left
  refine ⟨((Int32.ofInt (a : Int)).toBitVec &&& ((Int32.ofInt (b : Int)).toBitVec ^^^ BitVec.allOnes 32)).toNat, ?_, l, fun c => ?_⟩
  · rw [e0, to31 (by rw [e1]; omega), e1]
  · rw [BitVec.testBit_toNat, BitVec.getLsbD_and, BitVec.getLsbD_xor, BitVec.getLsbD_allOnes, ← BitVec.testBit_toNat, ← BitVec.testBit_toNat, of31 (by omega), of31 hb]
    by_cases q : c < 32
    · rw [decide_eq_true q, Bool.xor_true]
    · have z : a.testBit c = false := Nat.testBit_lt_two_pow (Nat.lt_of_lt_of_le (show a < 2 ^ 16 from ha) (Nat.pow_le_pow_right (by decide) (by omega : 16 ≤ c)))
      rw [z, Bool.false_and, Bool.false_and]
theorem tb_z {m : Nat} : m = 0 ↔ ∀ c : Nat, m.testBit c = false := by
  constructor
  · intro e c
    rw [e, Nat.zero_testBit]
  · intro h
    exact Nat.eq_of_testBit_eq (fun c => by rw [h c, Nat.zero_testBit])
theorem an_0 {a b : Nat} (ha : a < 65536) (hb : b < 2147483648) : andI (a : Int) (xorI (b : Int) (-1)) = 0 ↔ ∀ c : Nat, a.testBit c = true → b.testBit c = true := by
  obtain ⟨m, e, _, t⟩ := an_x ha hb
  rw [e]
  have z : ((m : Nat) : Int) = 0 ↔ m = 0 := by omega
  rw [z, tb_z]
  constructor
  · intro h c hc
    have y := h c
    rw [t c, hc, Bool.true_and] at y
    cases q : b.testBit c with
    | true => rfl
    | false => rw [q] at y; exact absurd y (by decide)
  · intro h c
    rw [t c]
    cases q : a.testBit c with
    | false => rfl
    | true => rw [h c q]; rfl
theorem lk_or {L c : Nat} (hL : L < 65536) (hc : c < 16) : orI (L : Int) (shlI 1 (c : Int)) = ((L ||| 2 ^ c : Nat) : Int) ∧ L ||| 2 ^ c < 65536 := by
  have hp : 2 ^ c < 2 ^ 16 := Nat.pow_lt_pow_right (by decide) hc
  have z : L ||| 2 ^ c < 2 ^ 16 := Nat.or_lt_two_pow (by omega) hp
  rw [shl_16 c hc]
  exact ⟨or_n hL (by omega), by omega⟩
/-- the next set of as many -/
def gosJ (s : Int) : Int := orI (wI (s + andI s (-s))) (wI (shlI 1 (bcJ (andI s (xorI (wI (s + andI s (-s))) (-1))) - 1) - 1))
def chG : List Nat → Int → Bool
  | [], e => decide (65536 ≤ e)
  | y :: r, e => decide (e = (y : Int)) && chG r (gosJ (y : Int))
theorem ch_4 : chG (gsL 4 16) 15 = true := by decide +kernel
theorem ch_3 : chG (gsL 3 16) 7 = true := by decide +kernel
theorem ch_2 : chG (gsL 2 16) 3 = true := by decide +kernel
theorem ch_1 : chG (gsL 1 16) 1 = true := by decide +kernel
theorem ch_0 : chG (gsL 0 16) 0 = true := by decide +kernel
theorem sh1_k : ∀ k : Nat, k < 5 → wI (shlI 1 (k : Int) - 1) = ((2 ^ k - 1 : Nat) : Int) := by decide +kernel
theorem ch_k {k : Nat} (hk : k < 5) : chG (gsL k 16) (wI (shlI 1 (k : Int) - 1)) = true := by
  rw [sh1_k k hk]
  rcases (by omega : k = 0 ∨ k = 1 ∨ k = 2 ∨ k = 3 ∨ k = 4) with e | e | e | e | e <;> subst e
  · exact ch_0
  · exact ch_1
  · exact ch_2
  · exact ch_3
  · exact ch_4
/-- so far in the row of sets: v is the next one, none of those ahead of it has P -/
def GsI (P : Nat → Prop) (k : Nat) (i : Nat) (v : Int) : Prop := ∃ pre suf : List Nat, gsL k 16 = pre ++ suf ∧ pre.length = i ∧ chG suf v = true ∧ ∀ t : Nat, t ∈ pre → ¬ P t
theorem GsI.z {P : Nat → Prop} {k : Nat} (hk : k < 5) : GsI P k 0 (wI (shlI 1 (k : Int) - 1)) := ⟨[], gsL k 16, rfl, rfl, ch_k hk, fun t h => absurd h (List.not_mem_nil)⟩
def GsC (P : Nat → Prop) (k i : Nat) (v : Int) : Prop := (65536 ≤ v ∧ ∀ t : Nat, t ∈ gsL k 16 → ¬ P t) ∨ (∃ t : Nat, v = (t : Int) ∧ t < 65536 ∧ pcN t 16 = k ∧ (∀ u : Nat, u ∈ gsL k 16 → u < t → ¬ P u) ∧ (¬ P t → GsI P k (i + 1) (gosJ v) ∧ (k = 0 → ∀ u : Nat, u ∈ gsL k 16 → ¬ P u)))
theorem GsI.c {P : Nat → Prop} {k i : Nat} {v : Int} (hk : k < 5) (h : GsI P k i v) : i < 65536 ∧ GsC P k i v := by
  obtain ⟨pre, suf, h1, h2, h3, h4⟩ := h
  have ln := gs_ln k hk
  rw [h1, List.length_append, h2] at ln
  refine ⟨by omega, ?_⟩
  cases suf with
  | nil =>
    refine Or.inl ⟨of_decide_eq_true h3, fun t ht => h4 t ?_⟩
    rw [h1, List.append_nil] at ht
    exact ht
  | cons y r =>
    have h5 : (decide (v = (y : Int)) && chG r (gosJ (y : Int))) = true := h3
    rw [Bool.and_eq_true] at h5
    have e : v = (y : Int) := of_decide_eq_true h5.1
    have my : y ∈ gsL k 16 := by rw [h1]; exact List.mem_append_right _ (List.mem_cons_self ..)
    have ly := gs_lt 16 k y my
    have pw := gs_pw 16 k
    rw [h1] at pw
    have pw2 := (List.pairwise_append.mp pw).2.1
    have pw3 := (List.pairwise_cons.mp pw2).1
    refine Or.inr ⟨y, e, by have z := ly.1; omega, ly.2, fun u hu hl => ?_, fun np => ⟨⟨pre ++ [y], r, ?_, ?_, ?_, fun t ht => ?_⟩, fun k0 u hu => ?_⟩⟩
    · rw [h1] at hu
      rcases List.mem_append.mp hu with z | z
      · exact h4 u z
      · rcases List.mem_cons.mp z with w | w
        · omega
        · have q := pw3 u w
          omega
    · rw [h1, List.append_assoc]
      rfl
    · rw [List.length_append, h2]
      rfl
    · rw [e]
      exact h5.2
    · rcases List.mem_append.mp ht with z | z
      · exact h4 t z
      · rw [List.mem_singleton.mp z]
        exact np
    · subst k0
      rw [gs_0] at my hu
      rw [List.mem_singleton.mp hu, ← List.mem_singleton.mp my]
      exact np
/-! longs: bit by bit -/
def btL (p : Int) (u : Nat) : Bool := (Int64.ofInt p).toBitVec.getLsbD u
theorem i64i (x : Int64) : Int64.ofInt x.toInt = x := Int64.ofInt_toInt x
theorem sh64_k : ∀ u : Nat, u < 64 → (((Int32.ofInt (u : Int)).toInt64 &&& 63).toBitVec.smod 64).toNat = u := by decide +kernel
theorem bt_0 (u : Nat) : btL 0 u = false := by
  unfold btL
  rw [show (Int64.ofInt 0).toBitVec = 0#64 by decide, BitVec.getLsbD_zero]
theorem bt_or (p q : Int) (u : Nat) : btL (orL p q) u = (btL p u || btL q u) := by
  unfold btL orL
  rw [i64i, Int64.toBitVec_or, BitVec.getLsbD_or]
theorem bt_shl {s u : Nat} (hs : s < 64) (hu : u < 64) : btL (shlL 1 (s : Int)) u = decide (u = s) := by
  unfold btL shlL
  rw [i64i, Int64.toBitVec_shiftLeft, BitVec.getLsbD_shiftLeft', sh64_k s hs, show (Int64.ofInt 1).toBitVec = 1#64 by decide, BitVec.getLsbD_one]
  by_cases q : u = s
  · subst q
    simp [hu]
  · simp only [hu, decide_true, Bool.true_and, q, decide_false]
    by_cases w : u < s
    · simp [w]
    · have z : ¬ (u - s = 0) := by omega
      simp [w, z]
theorem bt_lsb (y : BitVec 64) : (y &&& 1#64).toInt = 0 ↔ y.getLsbD 0 = false := by
  have e : (y &&& 1#64).toNat = y.toNat % 2 := by
    rw [BitVec.toNat_and]
    exact Nat.and_one_is_mod _
  have l : y.toNat % 2 < 2 := Nat.mod_lt _ (by decide)
  rw [BitVec.toInt_eq_toNat_of_lt (by rw [e]; omega), e, ← BitVec.testBit_toNat, Nat.testBit_zero]
  by_cases q : y.toNat % 2 = 1
  · rw [q]; decide
  · have z : y.toNat % 2 = 0 := by omega
    rw [z]; decide
theorem bt_shr {p : Int} {u : Nat} (hu : u < 64) : andL (shrL p (u : Int)) 1 = 0 ↔ btL p u = false := by
  have e : andL (shrL p (u : Int)) 1 = (((Int64.ofInt p >>> ((Int32.ofInt (u : Int)).toInt64 &&& 63))).toBitVec &&& 1#64).toInt := by
    unfold andL shrL
    rw [i64i]
    show ((Int64.ofInt p >>> ((Int32.ofInt (u : Int)).toInt64 &&& 63)) &&& Int64.ofInt 1).toBitVec.toInt = _
    rw [Int64.toBitVec_and, show (Int64.ofInt 1).toBitVec = 1#64 by decide]
  rw [e, bt_lsb, Int64.toBitVec_shiftRight, BitVec.getLsbD_sshiftRight', sh64_k u hu]
  unfold btL
  rw [if_pos (by omega)]
  simp
theorem bt_sh {p v : Int} (h0 : 0 ≤ v) (h1 : v < 64) : andL (shrL p v) 1 = 0 ↔ btL p v.toNat = false := by
  have z := bt_shr (p := p) (u := v.toNat) (by omega)
  rw [show ((v.toNat : Nat) : Int) = v by omega] at z
  exact z
theorem bt_sl {v : Int} (h0 : 0 ≤ v) (h1 : v < 64) {u : Nat} (hu : u < 64) : btL (shlL 1 v) u = decide (u = v.toNat) := by
  have z := bt_shl (s := v.toNat) (u := u) (by omega) hu
  rw [show ((v.toNat : Nat) : Int) = v by omega] at z
  exact z
