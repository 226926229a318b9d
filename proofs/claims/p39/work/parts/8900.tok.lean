/-! TOKENS of the tape as pure functions (for p7 to p11; by hand) -/
def tLet (c : Int) : Bool := (decide (97 ≤ c) && decide (c ≤ 122)) || (decide (65 ≤ c) && decide (c ≤ 90))
def tDig (c : Int) : Bool := decide (48 ≤ c) && decide (c ≤ 57)
def tBl (c : Int) : Bool := decide (c = 32) || decide (c = 10)
/-- on from p while q holds, n bytes in all -/
def skw (q : Int → Bool) (f : Nat → Int) (n : Nat) : Nat → Nat → Nat
  | 0, p => p
  | k + 1, p => if decide (p < n) && q (f p) then skw q f n k (p + 1) else p
theorem skw_ge (q : Int → Bool) (f : Nat → Int) (n : Nat) : ∀ k p, p ≤ skw q f n k p
  | 0, p => Nat.le_refl p
  | k + 1, p => by
    unfold skw
    split
    · have := skw_ge q f n k (p + 1)
      omega
    · exact Nat.le_refl p
theorem skw_le (q : Int → Bool) (f : Nat → Int) (n : Nat) : ∀ k p, p ≤ n → skw q f n k p ≤ n
  | 0, p, h => h
  | k + 1, p, h => by
    unfold skw
    split
    · rename_i e
      simp only [Bool.and_eq_true, decide_eq_true_eq] at e
      exact skw_le q f n k (p + 1) (by omega)
    · exact h
theorem skw_in (q : Int → Bool) (f : Nat → Int) (n : Nat) : ∀ k p i, p ≤ i → i < skw q f n k p → q (f i) = true
  | 0, p, i, h1, h2 => by
    unfold skw at h2
    omega
  | k + 1, p, i, h1, h2 => by
    unfold skw at h2
    split at h2
    · rename_i e
      simp only [Bool.and_eq_true, decide_eq_true_eq] at e
      by_cases hi : i = p
      · rw [hi]
        exact e.2
      · exact skw_in q f n k (p + 1) i (by omega) h2
    · omega
theorem skw_out (q : Int → Bool) (f : Nat → Int) (n : Nat) : ∀ k p, n ≤ p + k → n ≤ skw q f n k p ∨ q (f (skw q f n k p)) = false
  | 0, p, h => by
    unfold skw
    omega
  | k + 1, p, h => by
    unfold skw
    split
    · exact skw_out q f n k (p + 1) (by omega)
    · rename_i e
      simp only [Bool.and_eq_true, decide_eq_true_eq, not_and, Bool.not_eq_true] at e
      by_cases hp : p < n
      · exact Or.inr (e hp)
      · omega
/-- the only place at which it can stop -/
theorem skw_eq {q : Int → Bool} {f : Nat → Int} {n k p e : Nat} (hk : n ≤ p + k) (h1 : p ≤ e) (h2 : e ≤ n) (hi : ∀ i, p ≤ i → i < e → q (f i) = true) (ho : n ≤ e ∨ q (f e) = false) : skw q f n k p = e := by
  have a := skw_ge q f n k p
  have b := skw_le q f n k p (by omega)
  rcases Nat.lt_trichotomy (skw q f n k p) e with h | h | h
  · rcases skw_out q f n k p hk with g | g
    · omega
    · have := hi _ a h
      rw [g] at this
      cases this
  · exact h
  · rcases ho with g | g
    · omega
    · have := skw_in q f n k p e h1 h
      rw [g] at this
      cases this
/-- a number: as the reference reads it, as the class does -/
def nuR (f : Nat → Int) : Nat → Nat → Int → Int
  | 0, _, v => v
  | k + 1, p, v => nuR f k (p + 1) (if 99999 < v then v else 10 * v + f p - 48)
def nuC (f : Nat → Int) : Nat → Nat → Int → Int
  | 0, _, v => v
  | k + 1, p, v => nuC f k (p + 1) (if 10 * v + f p - 48 < 10000 then 10 * v + f p - 48 else 10000)
theorem nu_eq (f : Nat → Int) : ∀ (k p : Nat) (v w : Int), (∀ i, p ≤ i → i < p + k → tDig (f i) = true) → 0 ≤ v → 0 ≤ w → (v = w ∧ v ≤ 9999 ∨ 10000 ≤ v ∧ w = 10000) → (nuR f k p v = nuC f k p w ∧ 0 ≤ nuR f k p v ∧ nuR f k p v ≤ 9999 ∨ 10000 ≤ nuR f k p v ∧ nuC f k p w = 10000)
  | 0, p, v, w, _, hv, hw, h => by
    unfold nuR nuC
    omega
  | k + 1, p, v, w, hd, hv, hw, h => by
    have d := hd p (Nat.le_refl p) (by omega)
    simp only [tDig, Bool.and_eq_true, decide_eq_true_eq] at d
    unfold nuR nuC
    refine nu_eq f k (p + 1) _ _ (fun i h1 h2 => hd i (by omega) (by omega)) ?_ ?_ ?_
    · split <;> omega
    · split <;> omega
    · split <;> split <;> omega
/-- a word as the reference packs it: seven letters, or 2^60 -/
def wpk (f : Nat → Int) : Nat → Nat → Int → Int
  | 0, _, w => w
  | k + 1, p, w => wpk f k (p + 1) (if 281474976710656 ≤ w then 1152921504606846976 else 256 * w + f p)

/-! words -/
def WL : List (List Int) := [[115, 119, 97, 112, 115], [108, 101, 97, 118, 101, 115], [109, 105, 120, 101, 115], [112, 97, 99, 101], [97, 115, 107, 115], [99, 111, 114, 110, 101, 114], [115, 116, 114, 101, 101, 116], [108, 97, 110, 101], [103, 111, 97, 108], [116, 101, 108, 108, 101, 114], [116, 101, 108, 108, 105, 110, 103], [115, 116, 97, 114, 116], [119, 97, 108, 107], [116, 117, 114, 110], [97, 115, 107], [102, 111, 108, 108, 111, 119], [116, 111], [102, 97, 99, 105, 110, 103], [97, 116], [111, 102], [101, 110, 100], [108, 101, 97, 115, 116], [109, 111, 115, 116], [108, 101, 102, 116], [114, 105, 103, 104, 116], [111, 110], [98, 97, 99, 107], [119, 104, 111], [104, 101, 114, 101], [97, 115, 107, 101, 100], [116, 117, 114, 110, 115], [102, 97, 99, 101], [116, 111, 108, 100], [110, 97, 114, 114, 111, 119], [115, 105, 103, 104, 116], [119, 97, 121]]
set_option maxRecDepth 4000 in
def WB : List Int := [115, 119, 97, 112, 115, 32, 108, 101, 97, 118, 101, 115, 32, 109, 105, 120, 101, 115, 32, 112, 97, 99, 101, 32, 97, 115, 107, 115, 32, 99, 111, 114, 110, 101, 114, 32, 115, 116, 114, 101, 101, 116, 32, 108, 97, 110, 101, 32, 103, 111, 97, 108, 32, 116, 101, 108, 108, 101, 114, 32, 116, 101, 108, 108, 105, 110, 103, 32, 115, 116, 97, 114, 116, 32, 119, 97, 108, 107, 32, 116, 117, 114, 110, 32, 97, 115, 107, 32, 102, 111, 108, 108, 111, 119, 32, 116, 111, 32, 102, 97, 99, 105, 110, 103, 32, 97, 116, 32, 111, 102, 32, 101, 110, 100, 32, 108, 101, 97, 115, 116, 32, 109, 111, 115, 116, 32, 108, 101, 102, 116, 32, 114, 105, 103, 104, 116, 32, 111, 110, 32, 98, 97, 99, 107, 32, 119, 104, 111, 32, 104, 101, 114, 101, 32, 97, 115, 107, 101, 100, 32, 116, 117, 114, 110, 115, 32, 102, 97, 99, 101, 32, 116, 111, 108, 100, 32, 110, 97, 114, 114, 111, 119, 32, 115, 105, 103, 104, 116, 32, 119, 97, 121, 32]
def fl32 : List (List Int) → List Int
  | [] => []
  | L :: R => L ++ 32 :: fl32 R
set_option maxRecDepth 4000 in
theorem WB_fl : WB = fl32 WL := rfl
/-- the word that wordOf finds -/
def wGo (f : Nat → Int) (a e : Int) : List Int → Int → Int → Int
  | [], _, _ => -1
  | c :: r, w, l => if c = 32 then (if l = e then w else wGo f a e r (w + 1) a) else wGo f a e r w (if l = -1 then -1 else if l < e ∧ f l.toNat = c then l + 1 else -1)
/-- the letters from p on -/
def tl (f : Nat → Int) : Nat → Nat → List Int
  | 0, _ => []
  | k + 1, p => f p :: tl f k (p + 1)
def idx (T : List Int) : List (List Int) → Int → Int
  | [], _ => -1
  | L :: R, w => if T = L then w else idx T R (w + 1)
theorem wGo_no (f : Nat → Int) {a e : Int} (he : e ≠ -1) : ∀ (L : List Int) (r : List Int) (w : Int), (∀ c ∈ L, c ≠ 32) → wGo f a e (L ++ 32 :: r) w (-1) = wGo f a e r (w + 1) a
  | [], r, w, _ => by
    show wGo f a e (32 :: r) w (-1) = _
    rw [wGo, if_pos rfl, if_neg (fun h => he h.symm)]
  | c :: L, r, w, h => by
    show wGo f a e (c :: (L ++ 32 :: r)) w (-1) = _
    rw [wGo, if_neg (h c (List.mem_cons_self ..)), if_pos rfl]
    exact wGo_no f he L r w (fun c hc => h c (List.mem_cons_of_mem _ hc))
theorem wGo_word (f : Nat → Int) {a e : Int} (he : e ≠ -1) : ∀ (L : List Int) (r : List Int) (w l : Int) (k : Nat), (∀ c ∈ L, c ≠ 32) → 0 ≤ l → e = l + k → wGo f a e (L ++ 32 :: r) w l = if tl f k l.toNat = L then w else wGo f a e r (w + 1) a
  | [], r, w, l, k, _, h0, h1 => by
    show wGo f a e (32 :: r) w l = _
    rw [wGo, if_pos rfl]
    by_cases hk : k = 0
    · subst hk
      rw [if_pos (by omega), if_pos (by rfl)]
    · rw [if_neg (by omega), if_neg]
      intro h
      cases k with
      | zero => exact hk rfl
      | succ k => cases h
  | c :: L, r, w, l, k, h, h0, h1 => by
    show wGo f a e (c :: (L ++ 32 :: r)) w l = _
    rw [wGo, if_neg (h c (List.mem_cons_self ..)), if_neg (by omega)]
    have hL : ∀ c ∈ L, c ≠ 32 := fun c hc => h c (List.mem_cons_of_mem _ hc)
    cases k with
    | zero =>
      rw [if_neg (by omega), wGo_no f he L r w hL, if_neg (by intro h; cases h)]
    | succ k =>
      by_cases hc : f l.toNat = c
      · rw [if_pos ⟨by omega, hc⟩, wGo_word f he L r w (l + 1) k hL (by omega) (by omega)]
        rw [show (l + 1).toNat = l.toNat + 1 by omega]
        show _ = if f l.toNat :: tl f k (l.toNat + 1) = c :: L then _ else _
        rw [hc]
        by_cases ht : tl f k (l.toNat + 1) = L
        · rw [if_pos ht, if_pos (by rw [ht])]
        · rw [if_neg ht, if_neg (fun h => ht (List.cons.inj h).2)]
      · rw [if_neg (fun h => hc h.2), wGo_no f he L r w hL, if_neg]
        intro h
        exact hc (List.cons.inj h).1
theorem wGo_all (f : Nat → Int) {a : Int} {k : Nat} (ha : 0 ≤ a) : ∀ (R : List (List Int)) (w : Int), (∀ L ∈ R, ∀ c ∈ L, c ≠ 32) → wGo f a (a + k) (fl32 R) w a = idx (tl f k a.toNat) R w
  | [], w, _ => rfl
  | L :: R, w, h => by
    show wGo f a (a + k) (L ++ 32 :: fl32 R) w a = _
    rw [wGo_word f (by omega) L (fl32 R) w a k (h L (List.mem_cons_self ..)) ha rfl, wGo_all f ha R (w + 1) (fun L hL => h L (List.mem_cons_of_mem _ hL))]
    rfl
theorem WL_ok : ∀ L ∈ WL, ∀ c ∈ L, c ≠ 32 := by decide
theorem wGo_eq (f : Nat → Int) {a e : Int} (ha : 0 ≤ a) (he : a ≤ e) : wGo f a e WB 0 a = idx (tl f (e - a).toNat a.toNat) WL 0 := by
  rw [WB_fl, show e = a + ((e - a).toNat : Int) by omega, wGo_all f ha WL 0 WL_ok, show (a + ((e - a).toNat : Int) - a).toNat = (e - a).toNat by omega]
theorem idx_rg (T : List Int) : ∀ (R : List (List Int)) (w : Int), idx T R w = -1 ∨ (w ≤ idx T R w ∧ idx T R w < w + R.length)
  | [], w => Or.inl rfl
  | L :: R, w => by
    unfold idx
    rw [List.length_cons]
    split
    · right; omega
    · have := idx_rg T R (w + 1)
      omega
theorem idx_get (T : List Int) : ∀ (R : List (List Int)) (w : Int) (j : Nat), 0 ≤ w → idx T R w = w + j → R[j]? = some T
  | [], w, j, h0, h => by
    have : (-1 : Int) = w + j := h
    omega
  | L :: R, w, j, h0, h => by
    unfold idx at h
    split at h
    · rename_i e
      have : j = 0 := by omega
      subst this
      rw [e]
      rfl
    · cases j with
      | zero =>
        have := idx_rg T R (w + 1)
        omega
      | succ j =>
        have := idx_get T R (w + 1) j (by omega) (by omega)
        exact this
theorem WL_idx : ∀ i : Nat, i < 36 → idx (WL.getD i []) WL 0 = i := by decide
theorem idx_iff (T : List Int) (i : Nat) (hi : i < 36) : idx T WL 0 = i ↔ T = WL.getD i [] := by
  constructor
  · intro h
    have := idx_get T WL 0 i (by decide) (by omega)
    rw [List.getD_eq_getElem?_getD, this]
    rfl
  · intro h
    rw [h]
    exact WL_idx i hi
/-! packed words -/
def pkr : List Int → Int
  | [] => 0
  | c :: r => 256 * pkr r + c
theorem pkr_nn : ∀ R : List Int, (∀ c ∈ R, 1 ≤ c ∧ c ≤ 255) → 0 ≤ pkr R
  | [], _ => by decide
  | c :: r, h => by
    have a := pkr_nn r (fun c hc => h c (List.mem_cons_of_mem _ hc))
    have b := h c (List.mem_cons_self ..)
    show 0 ≤ 256 * pkr r + c
    omega
theorem pkr_inj : ∀ R S : List Int, (∀ c ∈ R, 1 ≤ c ∧ c ≤ 255) → (∀ c ∈ S, 1 ≤ c ∧ c ≤ 255) → pkr R = pkr S → R = S
  | [], [], _, _, _ => rfl
  | [], c :: r, _, h, e => by
    have a := pkr_nn r (fun c hc => h c (List.mem_cons_of_mem _ hc))
    have b := h c (List.mem_cons_self ..)
    have e2 : (0 : Int) = 256 * pkr r + c := e
    omega
  | c :: r, [], h, _, e => by
    have a := pkr_nn r (fun c hc => h c (List.mem_cons_of_mem _ hc))
    have b := h c (List.mem_cons_self ..)
    have e2 : 256 * pkr r + c = 0 := e
    omega
  | c :: r, d :: s, h, g, e => by
    have b := h c (List.mem_cons_self ..)
    have b2 := g d (List.mem_cons_self ..)
    have e2 : 256 * pkr r + c = 256 * pkr s + d := e
    rw [pkr_inj r s (fun c hc => h c (List.mem_cons_of_mem _ hc)) (fun c hc => g c (List.mem_cons_of_mem _ hc)) (by omega), show c = d by omega]
theorem pkr_lt : ∀ R : List Int, (∀ c ∈ R, 1 ≤ c ∧ c ≤ 255) → pkr R < (256 ^ R.length : Nat)
  | [], _ => by decide
  | c :: r, h => by
    have a := pkr_lt r (fun c hc => h c (List.mem_cons_of_mem _ hc))
    have b := h c (List.mem_cons_self ..)
    show 256 * pkr r + c < ((256 ^ (r.length + 1) : Nat) : Int)
    rw [Nat.pow_succ]
    omega
theorem pkr_ge : ∀ (R : List Int) (m : Nat), (∀ c ∈ R, 1 ≤ c ∧ c ≤ 255) → R.length = m + 1 → ((256 ^ m : Nat) : Int) ≤ pkr R
  | [], _, _, h => by cases h
  | c :: r, 0, h, hl => by
    have a := pkr_nn r (fun c hc => h c (List.mem_cons_of_mem _ hc))
    have b := h c (List.mem_cons_self ..)
    show ((256 ^ 0 : Nat) : Int) ≤ 256 * pkr r + c
    rw [Nat.pow_zero]
    omega
  | c :: r, m + 1, h, hl => by
    have a := pkr_ge r m (fun c hc => h c (List.mem_cons_of_mem _ hc)) (by rw [List.length_cons] at hl; omega)
    have b := h c (List.mem_cons_self ..)
    show ((256 ^ (m + 1) : Nat) : Int) ≤ 256 * pkr r + c
    rw [Nat.pow_succ]
    omega
theorem wpk_far (f : Nat → Int) : ∀ (k p : Nat), wpk f k p 1152921504606846976 = 1152921504606846976
  | 0, _ => rfl
  | k + 1, p => by
    unfold wpk
    rw [if_pos (by decide)]
    exact wpk_far f k (p + 1)
theorem wpk_go (f : Nat → Int) : ∀ (k p : Nat) (R : List Int), (∀ c ∈ R, 1 ≤ c ∧ c ≤ 255) → R.length ≤ 7 → (∀ i, p ≤ i → i < p + k → 1 ≤ f i ∧ f i ≤ 255) → wpk f k p (pkr R) = if R.length + k ≤ 7 then pkr ((tl f k p).reverse ++ R) else 1152921504606846976
  | 0, p, R, h, hl, hf => by
    rw [if_pos (by omega)]
    rfl
  | k + 1, p, R, h, hl, hf => by
    have hp := hf p (Nat.le_refl p) (by omega)
    unfold wpk
    by_cases h6 : R.length ≤ 6
    · have a := pkr_lt R h
      have b : (256 ^ R.length : Nat) ≤ 256 ^ 6 := Nat.pow_le_pow_right (by decide) h6
      have c : (256 ^ 6 : Nat) = 281474976710656 := by decide
      rw [if_neg (by omega)]
      have := wpk_go f k (p + 1) (f p :: R) (fun c hc => by rcases List.mem_cons.mp hc with e | e; (rw [e]; exact hp); exact h c e) (by rw [List.length_cons]; omega) (fun i a b => hf i (by omega) (by omega))
      show wpk f k (p + 1) (pkr (f p :: R)) = _
      rw [this, List.length_cons]
      by_cases h7 : R.length + (k + 1) ≤ 7
      · rw [if_pos (by omega), if_pos h7]
        show _ = pkr ((f p :: tl f k (p + 1)).reverse ++ R)
        rw [List.reverse_cons, List.append_assoc]
        rfl
      · rw [if_neg (by omega), if_neg h7]
    · have a := pkr_ge R 6 h (by omega)
      have c : (256 ^ 6 : Nat) = 281474976710656 := by decide
      rw [if_pos (by omega), wpk_far, if_neg (by omega)]
theorem tl_mem (f : Nat → Int) : ∀ (k p : Nat) (c : Int), c ∈ tl f k p → ∃ i, p ≤ i ∧ i < p + k ∧ c = f i
  | 0, p, c, h => by cases h
  | k + 1, p, c, h => by
    rcases List.mem_cons.mp (show c ∈ f p :: tl f k (p + 1) from h) with e | e
    · exact ⟨p, Nat.le_refl p, by omega, e⟩
    · obtain ⟨i, a, b, d⟩ := tl_mem f k (p + 1) c e
      exact ⟨i, by omega, by omega, d⟩
theorem tl_len (f : Nat → Int) : ∀ (k p : Nat), (tl f k p).length = k
  | 0, _ => rfl
  | k + 1, p => by
    show (f p :: tl f k (p + 1)).length = k + 1
    rw [List.length_cons, tl_len f k (p + 1)]
theorem WL_rg : ∀ L ∈ WL, (∀ c ∈ L, 1 ≤ c ∧ c ≤ 255) ∧ L.length ≤ 7 := by decide
theorem wpk_iff (f : Nat → Int) (k p : Nat) (hf : ∀ i, p ≤ i → i < p + k → 1 ≤ f i ∧ f i ≤ 255) (i : Nat) (hi : i < 36) : wpk f k p 0 = pkr (WL.getD i []).reverse ↔ idx (tl f k p) WL 0 = i := by
  rw [idx_iff _ i hi]
  have hm : WL.getD i [] ∈ WL := by
    rw [List.getD_eq_getElem?_getD, List.getElem?_eq_getElem (show i < WL.length from hi)]
    exact List.getElem_mem _
  obtain ⟨h1, h2⟩ := WL_rg _ hm
  generalize WL.getD i [] = L at h1 h2 ⊢
  have h3 : ∀ c ∈ L.reverse, 1 ≤ c ∧ c ≤ 255 := fun c hc => h1 c (List.mem_reverse.mp hc)
  have q := wpk_go f k p [] (fun c hc => by cases hc) (by decide) hf
  rw [show pkr [] = 0 from rfl] at q
  rw [q]
  have h4 : ∀ c ∈ (tl f k p).reverse, 1 ≤ c ∧ c ≤ 255 := fun c hc => by
    obtain ⟨i, a, b, d⟩ := tl_mem f k p c (List.mem_reverse.mp hc)
    rw [d]
    exact hf i a b
  constructor
  · intro e
    split at e
    · rw [List.append_nil] at e
      exact List.reverse_inj.mp (pkr_inj _ _ h4 h3 e)
    · have a := pkr_lt _ h3
      rw [List.length_reverse] at a
      have b : (256 ^ L.length : Nat) ≤ 256 ^ 7 := Nat.pow_le_pow_right (by decide) h2
      have c : (256 ^ 7 : Nat) = 72057594037927936 := by decide
      omega
  · intro e
    have hk := tl_len f k p
    rw [e] at hk
    rw [if_pos (by rw [List.length_nil]; omega), List.append_nil, e]

/-! one more byte behind -/
theorem nuR_snoc (f : Nat → Int) : ∀ (k p : Nat) (v : Int), nuR f (k + 1) p v = if 99999 < nuR f k p v then nuR f k p v else 10 * nuR f k p v + f (p + k) - 48
  | 0, p, v => rfl
  | k + 1, p, v => by
    rw [nuR, nuR_snoc f k (p + 1) _, show p + 1 + k = p + (k + 1) by omega]
    rfl
theorem nuC_snoc (f : Nat → Int) : ∀ (k p : Nat) (v : Int), nuC f (k + 1) p v = if 10 * nuC f k p v + f (p + k) - 48 < 10000 then 10 * nuC f k p v + f (p + k) - 48 else 10000
  | 0, p, v => rfl
  | k + 1, p, v => by
    rw [nuC, nuC_snoc f k (p + 1) _, show p + 1 + k = p + (k + 1) by omega]
    rfl
theorem wpk_snoc (f : Nat → Int) : ∀ (k p : Nat) (v : Int), wpk f (k + 1) p v = if 281474976710656 ≤ wpk f k p v then 1152921504606846976 else 256 * wpk f k p v + f (p + k)
  | 0, p, v => rfl
  | k + 1, p, v => by
    rw [wpk, wpk_snoc f k (p + 1) _, show p + 1 + k = p + (k + 1) by omega]
    rfl
/-! the token at q: 0 the end, 101 + word, 1000 + number, sign - 300 -/
def enN (f : Nat → Int) (n p : Nat) : Nat := if tLet (f p) then skw tLet f n n (p + 1) else if tDig (f p) then skw tDig f n n (p + 1) else p + 1
def en (f : Nat → Int) (n q : Int) : Int := (enN f n.toNat q.toNat : Nat)
def skb (f : Nat → Int) (n q : Int) : Int := (skw tBl f n.toNat n.toNat q.toNat : Nat)
def tk (f : Nat → Int) (n q : Int) : Int := if n ≤ q then 0 else if tLet (f q.toNat) then 101 + idx (tl f (en f n q - q).toNat q.toNat) WL 0 else if tDig (f q.toNat) then 1000 + nuC f (en f n q - q).toNat q.toNat 0 else f q.toNat - 300
def nx (f : Nat → Int) (n q : Int) : Int := skb f n (en f n q)
theorem en_rg {f : Nat → Int} {n q : Int} (h0 : 0 ≤ q) (h1 : q < n) : q < en f n q ∧ en f n q ≤ n := by
  unfold en enN
  split
  · have a := skw_ge tLet f n.toNat n.toNat (q.toNat + 1)
    have b := skw_le tLet f n.toNat n.toNat (q.toNat + 1) (by omega)
    omega
  · split
    · have a := skw_ge tDig f n.toNat n.toNat (q.toNat + 1)
      have b := skw_le tDig f n.toNat n.toNat (q.toNat + 1) (by omega)
      omega
    · omega
theorem skb_rg {f : Nat → Int} {n q : Int} (h0 : 0 ≤ q) (h1 : q ≤ n) : q ≤ skb f n q ∧ skb f n q ≤ n := by
  unfold skb
  have a := skw_ge tBl f n.toNat n.toNat q.toNat
  have b := skw_le tBl f n.toNat n.toNat q.toNat (by omega)
  omega
theorem nx_rg {f : Nat → Int} {n q : Int} (h0 : 0 ≤ q) (h1 : q < n) : q < nx f n q ∧ nx f n q ≤ n := by
  have a := en_rg (f := f) h0 h1
  have b := skb_rg (f := f) (n := n) (q := en f n q) (by omega) a.2
  unfold nx
  omega
theorem skb_eq {f : Nat → Int} {n p e : Int} (h0 : 0 ≤ p) (h1 : p ≤ e) (h2 : e ≤ n) (hi : ∀ i : Nat, p ≤ i → (i : Int) < e → f i = 32 ∨ f i = 10) (ho : n ≤ e ∨ (f e.toNat ≠ 32 ∧ f e.toNat ≠ 10)) : skb f n p = e := by
  unfold skb
  rw [skw_eq (e := e.toNat) (by omega) (by omega) (by omega) (fun i a b => by have := hi i (by omega) (by omega); simp only [tBl, Bool.or_eq_true, decide_eq_true_eq]; exact this) ?_]
  · omega
  · rcases ho with h | h
    · left; omega
    · right
      simp only [tBl, Bool.or_eq_false_iff, decide_eq_false_iff_not]
      exact h
theorem tLet_t {c : Int} : tLet c = true ↔ (97 ≤ c ∧ c ≤ 122) ∨ (65 ≤ c ∧ c ≤ 90) := by
  simp only [tLet, Bool.or_eq_true, Bool.and_eq_true, decide_eq_true_eq]
theorem tDig_t {c : Int} : tDig c = true ↔ 48 ≤ c ∧ c ≤ 57 := by
  simp only [tDig, Bool.and_eq_true, decide_eq_true_eq]
theorem en_let {f : Nat → Int} {n p e : Int} (h0 : 0 ≤ p) (hp : (97 ≤ f p.toNat ∧ f p.toNat ≤ 122) ∨ (65 ≤ f p.toNat ∧ f p.toNat ≤ 90)) (h1 : p < e) (h2 : e ≤ n) (hi : ∀ i : Nat, p < i → (i : Int) < e → (97 ≤ f i ∧ f i ≤ 122) ∨ (65 ≤ f i ∧ f i ≤ 90)) (ho : n ≤ e ∨ ¬ ((97 ≤ f e.toNat ∧ f e.toNat ≤ 122) ∨ (65 ≤ f e.toNat ∧ f e.toNat ≤ 90))) : en f n p = e := by
  unfold en enN
  rw [if_pos (tLet_t.mpr hp), skw_eq (e := e.toNat) (by omega) (by omega) (by omega) (fun i a b => tLet_t.mpr (hi i (by omega) (by omega))) ?_]
  · omega
  · rcases ho with h | h
    · left; omega
    · right
      cases hq : tLet (f e.toNat)
      · rfl
      · exact absurd (tLet_t.mp hq) h
theorem en_dig {f : Nat → Int} {n p e : Int} (h0 : 0 ≤ p) (hp : 48 ≤ f p.toNat ∧ f p.toNat ≤ 57) (h1 : p < e) (h2 : e ≤ n) (hi : ∀ i : Nat, p < i → (i : Int) < e → 48 ≤ f i ∧ f i ≤ 57) (ho : n ≤ e ∨ ¬ (48 ≤ f e.toNat ∧ f e.toNat ≤ 57)) : en f n p = e := by
  unfold en enN
  have hl : ¬ tLet (f p.toNat) = true := fun h => by have := tLet_t.mp h; omega
  rw [if_neg hl, if_pos (tDig_t.mpr hp), skw_eq (e := e.toNat) (by omega) (by omega) (by omega) (fun i a b => tDig_t.mpr (hi i (by omega) (by omega))) ?_]
  · omega
  · rcases ho with h | h
    · left; omega
    · right
      cases hq : tDig (f e.toNat)
      · rfl
      · exact absurd (tDig_t.mp hq) h
theorem en_sign {f : Nat → Int} {n p : Int} (h0 : 0 ≤ p) (hp : ¬ ((97 ≤ f p.toNat ∧ f p.toNat ≤ 122) ∨ (65 ≤ f p.toNat ∧ f p.toNat ≤ 90))) (hd : ¬ (48 ≤ f p.toNat ∧ f p.toNat ≤ 57)) : en f n p = p + 1 := by
  unfold en enN
  rw [if_neg (fun h => hp (tLet_t.mp h)), if_neg (fun h => hd (tDig_t.mp h))]
  omega
theorem tk_end {f : Nat → Int} {n q : Int} (h : n ≤ q) : tk f n q = 0 := if_pos h
theorem tk_let {f : Nat → Int} {n q : Int} (h : q < n) (hp : (97 ≤ f q.toNat ∧ f q.toNat ≤ 122) ∨ (65 ≤ f q.toNat ∧ f q.toNat ≤ 90)) : tk f n q = 101 + idx (tl f (en f n q - q).toNat q.toNat) WL 0 := by
  unfold tk
  rw [if_neg (by omega), if_pos (tLet_t.mpr hp)]
theorem tk_dig {f : Nat → Int} {n q : Int} (h : q < n) (hp : 48 ≤ f q.toNat ∧ f q.toNat ≤ 57) : tk f n q = 1000 + nuC f (en f n q - q).toNat q.toNat 0 := by
  unfold tk
  rw [if_neg (by omega), if_neg (fun h => by have := tLet_t.mp h; omega), if_pos (tDig_t.mpr hp)]
theorem tk_sign {f : Nat → Int} {n q : Int} (h : q < n) (hp : ¬ ((97 ≤ f q.toNat ∧ f q.toNat ≤ 122) ∨ (65 ≤ f q.toNat ∧ f q.toNat ≤ 90))) (hd : ¬ (48 ≤ f q.toNat ∧ f q.toNat ≤ 57)) : tk f n q = f q.toNat - 300 := by
  unfold tk
  rw [if_neg (by omega), if_neg (fun h => hp (tLet_t.mp h)), if_neg (fun h => hd (tDig_t.mp h))]
theorem idx36 (T : List Int) : -1 ≤ idx T WL 0 ∧ idx T WL 0 ≤ 35 := by
  have := idx_rg T WL 0
  have h : WL.length = 36 := rfl
  omega
theorem nuC_rg (f : Nat → Int) : ∀ (k p : Nat) (v : Int), (∀ i, p ≤ i → i < p + k → 48 ≤ f i ∧ f i ≤ 57) → 0 ≤ v → v ≤ 10000 → 0 ≤ nuC f k p v ∧ nuC f k p v ≤ 10000
  | 0, p, v, _, h0, h1 => ⟨h0, h1⟩
  | k + 1, p, v, h, h0, h1 => by
    have d := h p (Nat.le_refl p) (by omega)
    unfold nuC
    refine nuC_rg f k (p + 1) _ (fun i a b => h i (by omega) (by omega)) ?_ ?_
    · split <;> omega
    · split <;> omega
theorem en_in_let {f : Nat → Int} {n q : Int} (h0 : 0 ≤ q) (hp : (97 ≤ f q.toNat ∧ f q.toNat ≤ 122) ∨ (65 ≤ f q.toNat ∧ f q.toNat ≤ 90)) (i : Nat) (a : q ≤ i) (b : (i : Int) < en f n q) : (97 ≤ f i ∧ f i ≤ 122) ∨ (65 ≤ f i ∧ f i ≤ 90) := by
  by_cases e : i = q.toNat
  · rw [e]; exact hp
  · unfold en enN at b
    rw [if_pos (tLet_t.mpr hp)] at b
    exact tLet_t.mp (skw_in tLet f n.toNat n.toNat (q.toNat + 1) i (by omega) (by omega))
theorem en_in_dig {f : Nat → Int} {n q : Int} (h0 : 0 ≤ q) (hp : 48 ≤ f q.toNat ∧ f q.toNat ≤ 57) (i : Nat) (a : q ≤ i) (b : (i : Int) < en f n q) : 48 ≤ f i ∧ f i ≤ 57 := by
  by_cases e : i = q.toNat
  · rw [e]; exact hp
  · unfold en enN at b
    rw [if_neg (fun h => by have := tLet_t.mp h; omega), if_pos (tDig_t.mpr hp)] at b
    exact tDig_t.mp (skw_in tDig f n.toNat n.toNat (q.toNat + 1) i (by omega) (by omega))
theorem tk_dig_rg {f : Nat → Int} {n q : Int} (h0 : 0 ≤ q) (h : q < n) (hp : 48 ≤ f q.toNat ∧ f q.toNat ≤ 57) : 1000 ≤ tk f n q ∧ tk f n q ≤ 11000 := by
  rw [tk_dig h hp]
  have e := en_rg (f := f) h0 h
  have := nuC_rg f (en f n q - q).toNat q.toNat 0 (fun i a b => en_in_dig (n := n) h0 hp i (by omega) (by omega)) (by decide) (by decide)
  omega
/-- the tape's bytes -/
def byt (f : Nat → Int) : Prop := ∀ i, 0 ≤ f i ∧ f i ≤ 255
theorem tk_nz {f : Nat → Int} {n q : Int} (hb : byt f) (h0 : 0 ≤ q) (h : q < n) : tk f n q ≠ 0 := by
  by_cases hp : (97 ≤ f q.toNat ∧ f q.toNat ≤ 122) ∨ (65 ≤ f q.toNat ∧ f q.toNat ≤ 90)
  · rw [tk_let h hp]
    have := idx36 (tl f (en f n q - q).toNat q.toNat)
    omega
  · by_cases hd : 48 ≤ f q.toNat ∧ f q.toNat ≤ 57
    · have := tk_dig_rg h0 h hd
      omega
    · rw [tk_sign h hp hd]
      have := hb q.toNat
      omega
