/-! HOW FAR: the nearest first -/
def roF (g : Nat → Int) (f : Int) (u : Nat) : Int := g (16 * f + (u : Int)).toNat
def upF (d : Nat → Int) (k : Nat) (v : Int) : Nat → Int := fun u => if u = k then v else d u
theorem upF_s {d : Nat → Int} {k : Nat} {v : Int} : upF d k v k = v := if_pos rfl
theorem upF_o {d : Nat → Int} {k u : Nat} {v : Int} (h : u ≠ k) : upF d k v u = d u := if_neg h
/-- the nearest of the first corners that isn't done -/
def nrF (d q : Nat → Int) : Nat → Int
  | 0 => -1
  | c + 1 => if q c = 0 ∧ d c ≠ -1 ∧ (nrF d q c = -1 ∨ d c < d (nrF d q c).toNat) then (c : Int) else nrF d q c
theorem nrF_y {d q : Nat → Int} {c : Nat} (h : q c = 0 ∧ d c ≠ -1 ∧ (nrF d q c = -1 ∨ d c < d (nrF d q c).toNat)) : nrF d q (c + 1) = (c : Int) := if_pos h
theorem nrF_n {d q : Nat → Int} {c : Nat} (h : ¬ (q c = 0 ∧ d c ≠ -1 ∧ (nrF d q c = -1 ∨ d c < d (nrF d q c).toNat))) : nrF d q (c + 1) = nrF d q c := if_neg h
theorem nrF_b (d q : Nat → Int) : ∀ n : Nat, nrF d q n = -1 ∨ (0 ≤ nrF d q n ∧ nrF d q n < n ∧ q (nrF d q n).toNat = 0 ∧ d (nrF d q n).toNat ≠ -1)
  | 0 => Or.inl rfl
  | c + 1 => by
    by_cases h : q c = 0 ∧ d c ≠ -1 ∧ (nrF d q c = -1 ∨ d c < d (nrF d q c).toNat)
    · rw [nrF_y h]
      refine Or.inr ⟨by omega, by omega, ?_, ?_⟩
      · rw [show ((c : Int)).toNat = c by omega]; exact h.1
      · rw [show ((c : Int)).toNat = c by omega]; exact h.2.1
    · rw [nrF_n h]
      rcases nrF_b d q c with z | ⟨a, b, e, f⟩
      · exact Or.inl z
      · exact Or.inr ⟨a, by omega, e, f⟩
/-- what is known behind the first streets of a corner -/
noncomputable def rlF (S : Sw) (d : Nat → Int) (c : Int) : Nat → Nat → Int
  | 0 => d
  | e + 1 => @ite _ (ahS S c e ≠ -1 ∧ (rlF S d c e (ahS S c e).toNat = -1 ∨ rlF S d c e c.toNat + paS S c e < rlF S d c e (ahS S c e).toNat)) (Classical.propDecidable _) (upF (rlF S d c e) (ahS S c e).toNat (rlF S d c e c.toNat + paS S c e)) (rlF S d c e)
theorem rlF_y {S : Sw} {d : Nat → Int} {c : Int} {e : Nat} (h : ahS S c e ≠ -1 ∧ (rlF S d c e (ahS S c e).toNat = -1 ∨ rlF S d c e c.toNat + paS S c e < rlF S d c e (ahS S c e).toNat)) : rlF S d c (e + 1) = upF (rlF S d c e) (ahS S c e).toNat (rlF S d c e c.toNat + paS S c e) := if_pos h
theorem rlF_n {S : Sw} {d : Nat → Int} {c : Int} {e : Nat} (h : ¬ (ahS S c e ≠ -1 ∧ (rlF S d c e (ahS S c e).toNat = -1 ∨ rlF S d c e c.toNat + paS S c e < rlF S d c e (ahS S c e).toNat))) : rlF S d c (e + 1) = rlF S d c e := if_neg h
theorem ahS_b {S : Sw} (h : wTo S) (h16 : S 1 6 ≤ 16) (c d : Int) : -1 ≤ ahS S c d ∧ ahS S c d < S 1 6 ∨ ahS S c d = -1 := by
  unfold ahS
  split
  · exact Or.inl (h.2.1 _ (by omega))
  · exact Or.inr rfl
theorem rlF_b {S : Sw} {d : Nat → Int} {c B : Int} (hd : ∀ u : Nat, -1 ≤ d u ∧ d u ≤ B) (hB : 0 ≤ B) (hc : d c.toNat ≠ -1) : ∀ e : Nat, rlF S d c e c.toNat = d c.toNat ∧ ∀ u : Nat, -1 ≤ rlF S d c e u ∧ rlF S d c e u ≤ B + 99
  | 0 => ⟨rfl, fun u => by have z := hd u; show -1 ≤ d u ∧ d u ≤ B + 99; omega⟩
  | e + 1 => by
    obtain ⟨a, b⟩ := rlF_b hd hB hc e
    have p := paS_b S c e
    have dc := hd c.toNat
    by_cases w : ahS S c e ≠ -1 ∧ (rlF S d c e (ahS S c e).toNat = -1 ∨ rlF S d c e c.toNat + paS S c e < rlF S d c e (ahS S c e).toNat)
    · rw [rlF_y w]
      refine ⟨?_, fun u => ?_⟩
      · rw [upF_o ?_]
        · exact a
        · intro q
          have w2 := w.2
          rw [← q] at w2
          omega
      · unfold upF
        split
        · rw [a]; omega
        · exact b u
    · rw [rlF_n w]
      exact ⟨a, b⟩
/-- so many corners are done -/
noncomputable def djF (S : Sw) (f : Int) : Nat → (Nat → Int) × (Nat → Int)
  | 0 => (fun u => if (u : Int) = f then 0 else -1, fun _ => 0)
  | k + 1 => if nrF (djF S f k).1 (djF S f k).2 (S 1 6).toNat = -1 then djF S f k else (rlF S (djF S f k).1 (nrF (djF S f k).1 (djF S f k).2 (S 1 6).toNat) 4, upF (djF S f k).2 (nrF (djF S f k).1 (djF S f k).2 (S 1 6).toNat).toNat 1)
noncomputable def djN (S : Sw) (f : Int) (k : Nat) : Int := nrF (djF S f k).1 (djF S f k).2 (S 1 6).toNat
theorem djF_y {S : Sw} {f : Int} {k : Nat} (h : djN S f k ≠ -1) : djF S f (k + 1) = (rlF S (djF S f k).1 (djN S f k) 4, upF (djF S f k).2 (djN S f k).toNat 1) := if_neg h
theorem djF_n {S : Sw} {f : Int} {k : Nat} (h : djN S f k = -1) : djF S f (k + 1) = djF S f k := if_pos h
theorem djF_e {S : Sw} {f : Int} {k : Nat} (h : djN S f k = -1) : ∀ i : Nat, djF S f (k + i) = djF S f k
  | 0 => rfl
  | i + 1 => by
    have z := djF_e h i
    have y : djN S f (k + i) = -1 := by
      unfold djN at h ⊢
      rw [z]
      exact h
    show djF S f (k + i + 1) = _
    rw [djF_n y, z]
theorem djN_b (S : Sw) (f : Int) (k : Nat) : djN S f k = -1 ∨ (0 ≤ djN S f k ∧ djN S f k < (S 1 6).toNat ∧ (djF S f k).2 (djN S f k).toNat = 0 ∧ (djF S f k).1 (djN S f k).toNat ≠ -1) := nrF_b _ _ _
theorem dj_b (S : Sw) (f : Int) : ∀ k : Nat, ∀ u : Nat, -1 ≤ (djF S f k).1 u ∧ (djF S f k).1 u ≤ 99 * k
  | 0 => fun u => by
    show -1 ≤ (if (u : Int) = f then 0 else -1 : Int) ∧ (if (u : Int) = f then 0 else -1 : Int) ≤ 99 * 0
    split <;> decide
  | k + 1 => by
    have ih := dj_b S f k
    by_cases z : djN S f k = -1
    · rw [djF_n z]
      intro u
      have y := ih u
      omega
    · rw [djF_y z]
      intro u
      rcases djN_b S f k with q | q
      · exact absurd q z
      · have y := (rlF_b (S := S) (c := djN S f k) ih (by omega) q.2.2.2 4).2 u
        show -1 ≤ rlF S (djF S f k).1 (djN S f k) 4 u ∧ rlF S (djF S f k).1 (djN S f k) 4 u ≤ 99 * ((k + 1 : Nat) : Int)
        omega
theorem smU {q : Nat → Int} {c : Nat} (h : q c = 0) : ∀ n : Nat, sm (upF q c 1) n = sm q n + (if c < n then 1 else 0)
  | 0 => rfl
  | n + 1 => by
    show sm (upF q c 1) n + upF q c 1 n = sm q n + q n + _
    rw [smU h n]
    by_cases e : n = c
    · subst e
      rw [upF_s, h, if_neg (Nat.lt_irrefl n), if_pos (Nat.lt_succ_self n)]
    · rw [upF_o e]
      by_cases y : c < n
      · rw [if_pos y, if_pos (by omega)]; omega
      · rw [if_neg y, if_neg (by omega)]; omega
theorem sm_01 {q : Nat → Int} (h : ∀ u : Nat, q u = 0 ∨ q u = 1) : ∀ n : Nat, sm q n ≤ n ∧ (sm q n = n → ∀ u : Nat, u < n → q u = 1)
  | 0 => ⟨Int.le_refl _, fun _ u hu => absurd hu (Nat.not_lt_zero u)⟩
  | n + 1 => by
    obtain ⟨a, b⟩ := sm_01 h n
    have z := h n
    refine ⟨by show sm q n + q n ≤ ((n + 1 : Nat) : Int); omega, fun e u hu => ?_⟩
    have e2 : sm q n + q n = ((n + 1 : Nat) : Int) := e
    by_cases y : u = n
    · subst y; omega
    · exact b (by omega) u (by omega)
theorem nr_done {d q : Nat → Int} : ∀ n : Nat, (∀ u : Nat, u < n → q u = 1) → nrF d q n = -1
  | 0, _ => rfl
  | n + 1, h => by
    rw [nrF_n (fun w => by have a := h n (Nat.lt_succ_self n); have b := w.1; omega)]
    exact nr_done n (fun u hu => h u (Nat.lt_succ_of_lt hu))
theorem dj_q (S : Sw) (f : Int) : ∀ k : Nat, (∀ u : Nat, (djF S f k).2 u = 0 ∨ (djF S f k).2 u = 1) ∧ (djN S f k = -1 ∨ sm (djF S f k).2 (S 1 6).toNat = k)
  | 0 => by
    refine ⟨fun u => Or.inl rfl, Or.inr ?_⟩
    have z : ∀ n : Nat, sm (djF S f 0).2 n = 0 := fun n => by
      induction n with
      | zero => rfl
      | succ n ih => show sm (djF S f 0).2 n + 0 = 0; rw [ih]; rfl
    exact z _
  | k + 1 => by
    obtain ⟨a, b⟩ := dj_q S f k
    by_cases z : djN S f k = -1
    · have e := djF_n z
      refine ⟨fun u => by rw [e]; exact a u, Or.inl ?_⟩
      unfold djN at z ⊢
      rw [e]
      exact z
    · have e := djF_y z
      have b2 : sm (djF S f k).2 (S 1 6).toNat = k := by rcases b with b | b; exact absurd b z; exact b
      rcases djN_b S f k with q | q
      · exact absurd q z
      · refine ⟨fun u => ?_, Or.inr ?_⟩
        · rw [e]
          show upF (djF S f k).2 (djN S f k).toNat 1 u = 0 ∨ upF (djF S f k).2 (djN S f k).toNat 1 u = 1
          unfold upF
          split
          · exact Or.inr rfl
          · exact a u
        · rw [e]
          show sm (upF (djF S f k).2 (djN S f k).toNat 1) (S 1 6).toNat = ((k + 1 : Nat) : Int)
          rw [smU q.2.2.1, b2, if_pos (by omega)]
          omega
theorem dj_end (S : Sw) (f : Int) : djN S f (S 1 6).toNat = -1 := by
  obtain ⟨a, b⟩ := dj_q S f (S 1 6).toNat
  rcases b with b | b
  · exact b
  · unfold djN
    exact nr_done _ ((sm_01 a _).2 b)
theorem dj_c (S : Sw) (f : Int) (h16 : S 1 6 ≤ 16) (k u : Nat) : -1 ≤ (djF S f k).1 u ∧ (djF S f k).1 u ≤ 1584 := by
  by_cases h : k ≤ (S 1 6).toNat
  · have z := dj_b S f k u
    omega
  · have e := djF_e (dj_end S f) (k - (S 1 6).toNat)
    rw [show (S 1 6).toNat + (k - (S 1 6).toNat) = k by omega] at e
    rw [e]
    have z := dj_b S f (S 1 6).toNat u
    omega
/-- all that can be come to is done: g says how far each corner is -/
def DjE (S : Sw) (f : Int) (g : Nat → Int) : Prop := ∃ k : Nat, djN S f k = -1 ∧ ∀ u : Nat, (u : Int) < S 1 6 → g u = (djF S f k).1 u
theorem DjE.one {S : Sw} {f : Int} {g h : Nat → Int} (a : DjE S f g) (b : DjE S f h) (u : Nat) (hu : (u : Int) < S 1 6) : g u = h u := by
  obtain ⟨k, k1, k2⟩ := a
  obtain ⟨j, j1, j2⟩ := b
  have e : djF S f k = djF S f j := by
    by_cases q : k ≤ j
    · have z := djF_e k1 (j - k)
      rw [show k + (j - k) = j by omega] at z
      exact z.symm
    · have z := djF_e j1 (k - j)
      rw [show j + (k - j) = k by omega] at z
      exact z
  rw [k2 u hu, j2 u hu, e]
theorem DjE.b {S : Sw} {f : Int} {g : Nat → Int} (a : DjE S f g) (h16 : S 1 6 ≤ 16) (u : Nat) (hu : (u : Int) < S 1 6) : -1 ≤ g u ∧ g u ≤ 1584 := by
  obtain ⟨k, k1, k2⟩ := a
  rw [k2 u hu]
  exact dj_c S f h16 k u
def frF (x : Int) : Int := if x = -1 then 1000000 else x
def rdF (x : Int) : Int := if x < 1000000 then x else -1
theorem rd_fr {x : Int} (h0 : -1 ≤ x) (h1 : x ≤ 1584) : rdF (frF x) = x := by
  unfold rdF frF
  split <;> split <;> omega
theorem fr_b {x : Int} (h0 : -1 ≤ x) (h1 : x ≤ 1584) : 0 ≤ frF x ∧ frF x ≤ 1000000 ∧ (frF x < 1000000 ↔ x ≠ -1) := by
  unfold frF
  split <;> omega
/-- the same of the reference, with what stands for far off -/
def DjR (S : Sw) (f : Int) (g : Nat → Int) : Prop := ∃ k : Nat, djN S f k = -1 ∧ ∀ u : Nat, (u : Int) < S 1 6 → roF g f u = frF ((djF S f k).1 u)
theorem DjR.e {S : Sw} {f : Int} {g : Nat → Int} (a : DjR S f g) (h16 : S 1 6 ≤ 16) : DjE S f (fun u => rdF (roF g f u)) := by
  obtain ⟨k, k1, k2⟩ := a
  refine ⟨k, k1, fun u hu => ?_⟩
  have z := dj_c S f h16 k u
  show rdF (roF g f u) = _
  rw [k2 u hu]
  exact rd_fr z.1 z.2
theorem DjR.b {S : Sw} {f : Int} {g : Nat → Int} (a : DjR S f g) (h16 : S 1 6 ≤ 16) (u : Nat) (hu : (u : Int) < S 1 6) : 0 ≤ roF g f u ∧ roF g f u ≤ 1000000 := by
  obtain ⟨k, k1, k2⟩ := a
  rw [k2 u hu]
  have z := dj_c S f h16 k u
  exact ⟨(fr_b z.1 z.2).1, (fr_b z.1 z.2).2.1⟩
/-- the reference in the midst: v is the next one to be done -/
def DkR (S : Sw) (f : Int) (g q : Nat → Int) (v : Int) : Prop := ∃ k : Nat, (∀ u : Nat, (u : Int) < S 1 6 → roF g f u = frF ((djF S f k).1 u) ∧ q u = (djF S f k).2 u) ∧ v = djN S f k
theorem DkR.fin {S : Sw} {f : Int} {g q : Nat → Int} {v : Int} (a : DkR S f g q v) (h : v < 0) : DjR S f g := by
  obtain ⟨k, k1, k2⟩ := a
  refine ⟨k, ?_, fun u hu => (k1 u hu).1⟩
  rcases djN_b S f k with z | z
  · exact z
  · exfalso; omega
/-- the paces of the class's table -/
def PaT (S : Sw) (g : Nat → Int) : Prop := ∀ c e : Nat, (c : Int) < S 1 6 → e < 4 → ahS S c e ≠ -1 → g (4 * c + e) = paS S c e
/-- the class's set of those that are done, bit by bit -/
def mkB (m : Int) (q : Nat → Int) : Prop := ∀ u : Nat, u < 16 → shrI m u % 2 = q u
theorem shl_16 : ∀ k : Nat, k < 16 → shlI 1 k = ((2 ^ k : Nat) : Int) := by decide +kernel
theorem shr_n {m c : Nat} (hm : m < 65536) (hc : c < 16) : shrI (m : Int) (c : Int) = ((m / 2 ^ c : Nat) : Int) := by
  have z := shr_m (x := (m : Int)) (m := ((2 ^ c : Nat) : Int)) (y := (c : Int)) (k := c) ⟨by omega, by omega⟩ (by simp) rfl (by omega)
  rw [z]
  exact (Int.natCast_ediv m (2 ^ c)).symm
theorem ofI_n {m : Nat} (hm : m < 65536) : (Int32.ofInt (m : Int)).toBitVec.toNat = m := by
  show (BitVec.ofInt 32 (m : Int)).toNat = m
  rw [BitVec.toNat_ofInt]
  omega
theorem or_n {m k : Nat} (hm : m < 65536) (hk : k < 65536) : orI (m : Int) (k : Int) = ((m ||| k : Nat) : Int) := by
  have hlt : m ||| k < 2 ^ 16 := Nat.or_lt_two_pow (by omega) (by omega)
  have e : (Int32.ofInt (m : Int) ||| Int32.ofInt (k : Int)).toBitVec.toNat = m ||| k := by
    rw [Int32.toBitVec_or, BitVec.toNat_or, ofI_n hm, ofI_n hk]
  show (Int32.ofInt (m : Int) ||| Int32.ofInt (k : Int)).toBitVec.toInt = _
  rw [BitVec.toInt_eq_toNat_of_lt (by omega), e]
theorem bit_or (m k u : Nat) : (m ||| 2 ^ k) / 2 ^ u % 2 = if u = k then 1 else m / 2 ^ u % 2 := by
  have z : (m ||| 2 ^ k).testBit u = (m.testBit u || (2 ^ k).testBit u) := Nat.testBit_or m (2 ^ k) u
  rw [Nat.testBit_two_pow] at z
  rw [Nat.testBit_eq_decide_div_mod_eq, Nat.testBit_eq_decide_div_mod_eq] at z
  have a : (m ||| 2 ^ k) / 2 ^ u % 2 < 2 := Nat.mod_lt _ (by decide)
  have b : m / 2 ^ u % 2 < 2 := Nat.mod_lt _ (by decide)
  generalize (m ||| 2 ^ k) / 2 ^ u % 2 = x at z a ⊢
  generalize m / 2 ^ u % 2 = y at z b ⊢
  by_cases e : k = u
  · subst e
    rw [if_pos rfl]
    simp at z
    exact z
  · rw [if_neg (fun q => e q.symm)]
    simp [e] at z
    omega
theorem mkB.set {m : Int} {q : Nat → Int} {c : Int} (h : mkB m q) (m0 : 0 ≤ m) (m1 : m < 65536) (c0 : 0 ≤ c) (c1 : c < 16) : mkB (orI m (shlI 1 c)) (upF q c.toNat 1) ∧ 0 ≤ orI m (shlI 1 c) ∧ orI m (shlI 1 c) < 65536 := by
  have hp : 2 ^ c.toNat < 65536 := by
    have z : 2 ^ c.toNat < 2 ^ 16 := Nat.pow_lt_pow_right (by decide) (by omega)
    exact z
  have e : orI m (shlI 1 c) = ((m.toNat ||| 2 ^ c.toNat : Nat) : Int) := by
    have s := shl_16 c.toNat (by omega)
    rw [show ((c.toNat : Nat) : Int) = c by omega] at s
    rw [s]
    have o := or_n (m := m.toNat) (k := 2 ^ c.toNat) (by omega) hp
    rw [show ((m.toNat : Nat) : Int) = m by omega] at o
    exact o
  have hlt : m.toNat ||| 2 ^ c.toNat < 2 ^ 16 := Nat.or_lt_two_pow (by omega) hp
  refine ⟨fun u hu => ?_, by rw [e]; omega, by rw [e]; omega⟩
  have hm := h u hu
  have r := shr_n (m := m.toNat) (c := u) (by omega) hu
  rw [show ((m.toNat : Nat) : Int) = m by omega] at r
  rw [r] at hm
  rw [e, shr_n (by omega) hu]
  have b := bit_or m.toNat c.toNat u
  by_cases w : u = c.toNat
  · rw [if_pos w] at b
    rw [show upF q c.toNat 1 u = 1 by rw [w]; exact upF_s]
    generalize (m.toNat ||| 2 ^ c.toNat) / 2 ^ u = A at b ⊢
    clear hm r e hlt
    omega
  · rw [if_neg w] at b
    rw [upF_o w, ← hm]
    generalize (m.toNat ||| 2 ^ c.toNat) / 2 ^ u = A at b ⊢
    generalize m.toNat / 2 ^ u = B at b ⊢
    clear hm r e hlt
    omega
theorem mkB.z : mkB 0 (fun _ => 0) := fun u hu => by
  have r := shr_n (m := 0) (c := u) (by decide) hu
  rw [show (((0 : Nat)) : Int) = 0 from rfl] at r
  rw [r, Nat.zero_div]
  rfl
def FarS (S : Sw) (f t r : Int) : Prop := ((0 ≤ f ∧ f < S 1 6 ∧ 0 ≤ t ∧ t < S 1 6) ∧ ∃ g, DjE S f g ∧ r = g t.toNat) ∨ (¬ (0 ≤ f ∧ f < S 1 6 ∧ 0 ≤ t ∧ t < S 1 6) ∧ r = -1)
theorem fr_c {x : Int} (h0 : -1 ≤ x) (h1 : x ≤ 5000) : (x = -1 ∧ frF x = 1000000) ∨ (0 ≤ x ∧ frF x = x) := by
  unfold frF
  split
  · exact Or.inl ⟨by assumption, rfl⟩
  · exact Or.inr ⟨by omega, rfl⟩

