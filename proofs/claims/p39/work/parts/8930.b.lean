/-! THE CLASS'S READER: its state, its answers against the spec -/
def RS (g : Nat → Int) (n : Int) (M : Mem) (q : Int) : Prop := RSp (tk g n) (nx g n) n (mI M 26) (mI M 27) (mI M 28) (mI M 22 9) (mI M 22 10) (mI M 22 11) (mI M 22 7) (mI M 22 8) q
theorem RS.same {g : Nat → Int} {n : Int} {M N : Mem} {q : Int} (h : RS g n M q) (e26 : mI N 26 = mI M 26) (e27 : mI N 27 = mI M 27) (e28 : mI N 28 = mI M 28) (e9 : mI N 22 9 = mI M 22 9) (e10 : mI N 22 10 = mI M 22 10) (e11 : mI N 22 11 = mI M 22 11) (e7 : mI N 22 7 = mI M 22 7) (e8 : mI N 22 8 = mI M 22 8) : RS g n N q := by
  unfold RS
  rw [e26, e27, e28, e9, e10, e11, e7, e8]
  exact h
theorem RS.take {g : Nat → Int} {n : Int} {M N : Mem} {q : Int} (h : RS g n M q) (hk : tk g n q ≠ 0) (e26 : mI N 26 = mI M 26) (e27 : mI N 27 = mI M 27) (e28 : mI N 28 = mI M 28) (e9 : mI N 22 9 = mI M 22 9 + 1) (e10 : mI N 22 10 = mI M 26 (mI M 22 9 + 1).toNat) (e11 : mI N 22 11 = mI M 27 (mI M 22 9 + 1).toNat) (e7 : mI N 22 7 = mI M 22 7) (e8 : mI N 22 8 = mI M 22 8) : RS g n N (nx g n q) := by
  unfold RS
  rw [e26, e27, e28, e7, e8]
  exact RSp.take h hk e9 (by rw [e9]; exact e10) (by rw [e9]; exact e11)
theorem RS.rg {g : Nat → Int} {n : Int} {M : Mem} {q : Int} (h : RS g n M q) : 0 ≤ mI M 22 9 ∧ mI M 22 9 ≤ q ∧ q ≤ n ∧ n ≤ 300 ∧ mI M 22 7 = 0 ∧ mI M 22 8 = -1 ∧ (tk g n q = 0 ∨ (q < n ∧ q < nx g n q ∧ nx g n q ≤ n)) := RSp.rg h
theorem RS.ct {g : Nat → Int} {n : Int} {M : Mem} {q : Int} (h : RS g n M q) : CT (mI M 22 10) (mI M 22 11) (tk g n q) := (RSp.tab h).1
theorem RS.pl {g : Nat → Int} {n : Int} {M : Mem} {q : Int} (h : RS g n M q) : mI M 28 (mI M 22 9).toNat = q := (RSp.tab h).2.1
/-- the answer of a piece -/
def CR (g : Nat → Int) (n : Int) (N : Mem) (r : Int) (s : Int × Int) : Prop := (r = 1 ∧ s.1 = 0 ∧ RS g n N s.2) ∨ (r = 0 ∧ s.1 ≠ 0 ∧ mI N 22 7 = s.1 ∧ mI N 22 8 = s.2)
theorem CR.ok {g : Nat → Int} {n : Int} {N : Mem} {r : Int} {s : Int × Int} (h : CR g n N r s) (h0 : r ≠ 0) : s.1 = 0 ∧ RS g n N s.2 := by
  rcases h with h | h
  · exact h.2
  · exact absurd h.1 h0
theorem CR.bad {g : Nat → Int} {n : Int} {N : Mem} {r : Int} {s : Int × Int} (h : CR g n N r s) (h0 : r = 0) : s.1 ≠ 0 ∧ mI N 22 7 = s.1 ∧ mI N 22 8 = s.2 := by
  rcases h with h | h
  · omega
  · exact h.2
theorem CR.cast {g : Nat → Int} {n : Int} {N : Mem} {r r2 : Int} {s : Int × Int} (h : CR g n N r s) (e : r2 = r) : CR g n N r2 s := by
  rw [e]; exact h
theorem CR.b_bad {g : Nat → Int} {n : Int} {N : Mem} {r r2 : Int} {s : Int × Int} {F : Int → Int × Int} (h : CR g n N r s) (h0 : r = 0) (h2 : r2 = 0) : CR g n N r2 (sBind s F) := by
  have a := h.bad h0
  rw [sBind_bad a.1]
  exact Or.inr ⟨h2, a⟩
theorem CR.b_ok {g : Nat → Int} {n : Int} {M N : Mem} {r r2 : Int} {s : Int × Int} {F : Int → Int × Int} (h : CR g n M r s) (h0 : r ≠ 0) (h2 : CR g n N r2 (F s.2)) : CR g n N r2 (sBind s F) := by
  have a := h.ok h0
  rw [sBind_ok a.1]
  exact h2
theorem CRb {g : Nat → Int} {n : Int} {N : Mem} {r e q : Int} {s : Int × Int} (hr : r = 0) (h7 : mI N 22 7 = e) (h8 : mI N 22 8 = q) (he : e ≠ 0) (hs : s = (e, q)) : CR g n N r s := by
  rw [hs]; exact Or.inr ⟨hr, he, h7, h8⟩
theorem CRo {g : Nat → Int} {n : Int} {N : Mem} {r q : Int} {s : Int × Int} (hr : r = 1) (h : RS g n N q) (hs : s = (0, q)) : CR g n N r s := by
  rw [hs]; exact Or.inl ⟨hr, rfl, h⟩
/-- the answer of one token -/
def TR (g : Nat → Int) (n : Int) (N : Mem) (r t p : Int) : Prop := (r = 1 ∧ tk g n p = t ∧ RS g n N (nx g n p)) ∨ (r = 0 ∧ tk g n p ≠ t ∧ mI N 22 7 = 1 ∧ mI N 22 8 = p)
theorem TR.ok {g : Nat → Int} {n : Int} {N : Mem} {r t p : Int} (h : TR g n N r t p) (h0 : r ≠ 0) : tk g n p = t ∧ RS g n N (nx g n p) := by
  rcases h with h | h
  · exact h.2
  · exact absurd h.1 h0
theorem TR.bad {g : Nat → Int} {n : Int} {N : Mem} {r t p : Int} (h : TR g n N r t p) (h0 : r = 0) : tk g n p ≠ t ∧ mI N 22 7 = 1 ∧ mI N 22 8 = p := by
  rcases h with h | h
  · omega
  · exact h.2
theorem TR.cr {g : Nat → Int} {n : Int} {N : Mem} {r t p : Int} (h : TR g n N r t p) : CR g n N r (sTok (tk g n) (nx g n) t p) := by
  unfold sTok
  rcases h with ⟨a, b, c⟩ | ⟨a, b, c, d⟩
  · rw [if_pos b]; exact Or.inl ⟨a, rfl, c⟩
  · rw [if_neg b]; exact Or.inr ⟨a, by show (1 : Int) ≠ 0; decide, c, d⟩
/-- the answer of a turn: -1 where it has a fault -/
def CN (g : Nat → Int) (n : Int) (N : Mem) (r : Int) (s : Int × Int) : Prop := (r ≠ -1 ∧ s.1 = 0 ∧ RS g n N s.2) ∨ (r = -1 ∧ s.1 ≠ 0 ∧ mI N 22 7 = s.1 ∧ mI N 22 8 = s.2)
theorem CN.ok {g : Nat → Int} {n : Int} {N : Mem} {r : Int} {s : Int × Int} (h : CN g n N r s) (h0 : r ≠ -1) : s.1 = 0 ∧ RS g n N s.2 := by
  rcases h with h | h
  · exact h.2
  · exact absurd h.1 h0
theorem CN.bad {g : Nat → Int} {n : Int} {N : Mem} {r : Int} {s : Int × Int} (h : CN g n N r s) (h0 : r = -1) : s.1 ≠ 0 ∧ mI N 22 7 = s.1 ∧ mI N 22 8 = s.2 := by
  rcases h with h | h
  · exact absurd h0 h.1
  · exact h.2
/-- names of a law -/
def NMk (v w : Int) : Prop := (v = 63 ∧ 0 ≤ w ∧ w ≤ 2) ∨ (v = 448 ∧ w = 3) ∨ (v = 7 ∧ w = 4)
/-- the answer of a sum, a product, a one; E of the place behind -/
def LR (g : Nat → Int) (n w : Int) (sk : List Int) (p : Int) (E : Int → Prop) (N : Mem) (r : Int) : Prop := (r = 1 ∧ ∃ q, p < q ∧ RS g n N q ∧ E q ∧ ∀ o, Rn (tk g n) (nx g n) w (dm sk) true q o → Rn (tk g n) (nx g n) w sk false p o) ∨ (r = 0 ∧ mI N 22 7 ≠ 0 ∧ Rn (tk g n) (nx g n) w sk false p (mI N 22 7, mI N 22 8))
theorem LR.ok {g : Nat → Int} {n w : Int} {sk : List Int} {p : Int} {E : Int → Prop} {N : Mem} {r : Int} (h : LR g n w sk p E N r) (h0 : r ≠ 0) : ∃ q, p < q ∧ RS g n N q ∧ E q ∧ ∀ o, Rn (tk g n) (nx g n) w (dm sk) true q o → Rn (tk g n) (nx g n) w sk false p o := by
  rcases h with h | h
  · exact h.2
  · exact absurd h.1 h0
theorem LR.bad {g : Nat → Int} {n w : Int} {sk : List Int} {p : Int} {E : Int → Prop} {N : Mem} {r : Int} (h : LR g n w sk p E N r) (h0 : r = 0) : mI N 22 7 ≠ 0 ∧ Rn (tk g n) (nx g n) w sk false p (mI N 22 7, mI N 22 8) := by
  rcases h with h | h
  · omega
  · exact h.2
def ETr (g : Nat → Int) (n q : Int) : Prop := True
def EMul (g : Nat → Int) (n q : Int) : Prop := tk g n q ≠ -258 ∧ tk g n q ≠ -253
def EOp (g : Nat → Int) (n q : Int) : Prop := ¬ (tk g n q = -258 ∨ tk g n q = -257 ∨ tk g n q = -255 ∨ tk g n q = -253)
/-- in the loop of a sum, a product -/
def LI (g : Nat → Int) (n w : Int) (sk : List Int) (p : Int) (E : Int → Prop) (N : Mem) (r i : Int) : Prop := (r = 1 ∧ ∃ q, p + i < q ∧ RS g n N q ∧ E q ∧ ∀ o, Rn (tk g n) (nx g n) w sk true q o → Rn (tk g n) (nx g n) w sk false p o) ∨ (r = 0 ∧ mI N 22 7 ≠ 0 ∧ Rn (tk g n) (nx g n) w sk false p (mI N 22 7, mI N 22 8))
theorem LI.ok {g : Nat → Int} {n w : Int} {sk : List Int} {p : Int} {E : Int → Prop} {N : Mem} {r i : Int} (h : LI g n w sk p E N r i) (h0 : r ≠ 0) : ∃ q, p + i < q ∧ RS g n N q ∧ E q ∧ ∀ o, Rn (tk g n) (nx g n) w sk true q o → Rn (tk g n) (nx g n) w sk false p o := by
  rcases h with h | h
  · exact h.2
  · exact absurd h.1 h0
theorem LR.li {g : Nat → Int} {n w : Int} {sk : List Int} {p : Int} {E : Int → Prop} {N : Mem} {r : Int} (h : LR g n w sk p E N r) (hd : dm sk = sk) : LI g n w sk p E N r 0 := by
  rcases h with ⟨a, q, b, c, d, e⟩ | h
  · rw [hd] at e
    exact Or.inl ⟨a, q, by omega, c, d, e⟩
  · exact Or.inr h
theorem LI.nul {g : Nat → Int} {n w : Int} {sk : List Int} {p : Int} {E F : Int → Prop} {N : Mem} {r i : Int} (h : LI g n w sk p E N r i) (h0 : r = 0) : LR g n w sk p F N r := by
  rcases h with h | h
  · omega
  · exact Or.inr h
theorem LI.big {g : Nat → Int} {n w : Int} {sk : List Int} {p : Int} {E F : Int → Prop} {N : Mem} {r i : Int} (h : LI g n w sk p E N r i) (h0 : 300 ≤ i) (hp : 0 ≤ p) : LR g n w sk p F N r := by
  rcases h with ⟨a, q, b, c, d, e⟩ | h
  · have := c.rg
    omega
  · exact Or.inr h
theorem LR.law {g : Nat → Int} {n w : Int} {p : Int} {N : Mem} {r : Int} (h : LR g n w [] p (EOp g n) N r) : CR g n N r (sLaw (tk g n) (nx g n) w p) := by
  rcases h with ⟨a, q, b, c, d, e⟩ | ⟨a, b, c⟩
  · rw [sLaw_eq (e (0, q) (t_fin d))]
    exact Or.inl ⟨a, rfl, c⟩
  · rw [sLaw_eq c]
    exact Or.inr ⟨a, b, rfl, rfl⟩
/-- the laws that were read -/
def ONr (A : Nat → Int) (on : Int → Int) : Prop := ∀ w : Int, 0 ≤ w → w ≤ 4 → (A (2 * w).toNat = -1 ∧ on w ≠ 1) ∨ (A (2 * w).toNat ≠ -1 ∧ on w = 1)

theorem ONr.deed {A B : Nat → Int} {on : Int → Int} {w : Int} (h : ONr A on) (e : B = A) (hw : 5 ≤ w) : ONr B (onA on w) := by
  intro v h0 h4
  rw [e]
  unfold onA
  rw [if_neg (by omega)]
  exact h v h0 h4
theorem ONr.law {A B C D : Nat → Int} {on : Int → Int} {w : Int} (h : ONr A on) (h0 : 0 ≤ w) (h4 : w ≤ 4) (e1 : ∀ j : Nat, j ≠ (2 * w).toNat → B j = A j) (e2 : B (2 * w).toNat ≠ -1) (eC : C = B) (e3 : ∀ j : Nat, j ≠ (2 * w + 1).toNat → D j = C j) : ONr D (onA on w) := by
  subst eC
  intro v a b
  unfold onA
  rw [e3 _ (by omega)]
  by_cases e : v = w
  · rw [if_pos e, e]
    exact Or.inr ⟨e2, rfl⟩
  · rw [if_neg e, e1 _ (by omega)]
    exact h v a b
theorem CNb {g : Nat → Int} {n : Int} {N : Mem} {r e q : Int} {s : Int × Int} (hr : r = -1) (h7 : mI N 22 7 = e) (h8 : mI N 22 8 = q) (he : e ≠ 0) (hs : s = (e, q)) : CN g n N r s := by
  rw [hs]; exact Or.inr ⟨hr, he, h7, h8⟩
theorem CNo {g : Nat → Int} {n : Int} {N : Mem} {r q : Int} {s : Int × Int} (hr : r ≠ -1) (h : RS g n N q) (hs : s = (0, q)) : CN g n N r s := by
  rw [hs]; exact Or.inl ⟨hr, rfl, h⟩
theorem CNc {g : Nat → Int} {n : Int} {N : Mem} {r r1 : Int} {s s1 : Int × Int} (hr : r = -1) (h : CR g n N r1 s1) (h0 : r1 = 0) (hs : s = s1) : CN g n N r s := by
  rw [hs]; exact Or.inr ⟨hr, h.bad h0⟩
theorem sNum_ok {k x : Int → Int} {lo hi p : Int} (h : (sNum k x lo hi p).1 = 0) : (sNum k x lo hi p).2 = x p ∧ 1000 ≤ k p ∧ lo ≤ k p - 1000 ∧ k p - 1000 ≤ hi := by
  unfold sNum at h ⊢
  by_cases a : k p < 1000
  · rw [if_pos a] at h
    exact absurd h (by decide : ¬ (1 : Int) = 0)
  · rw [if_neg a] at h ⊢
    by_cases b : k p - 1000 < lo ∨ hi < k p - 1000
    · rw [if_pos b] at h
      exact absurd h (by decide : ¬ (2 : Int) = 0)
    · rw [if_neg b]
      exact ⟨rfl, by omega, by omega, by omega⟩
theorem turns_bad {g : Nat → Int} {n : Int} {N : Mem} {r i q : Int} {m : Nat} (h : CN g n N r (sTurn (tk g n) (nx g n) i q)) (h0 : r = -1) (hm : m ≠ 0) : CR g n N 0 (sTurns (tk g n) (nx g n) m i q) := by
  cases m with
  | zero => exact absurd rfl hm
  | succ m =>
    have a := h.bad h0
    unfold sTurns
    rw [sBind_bad a.1]
    exact Or.inr ⟨rfl, a⟩
theorem turns_end {k x : Int → Int} {i q : Int} {m : Nat} (h : (sTurn k x i q).1 = 0) (hk : k (sTurn k x i q).2 ≠ -256) (hm : m ≠ 0) : sTurns k x m i q = (0, (sTurn k x i q).2) := by
  cases m with
  | zero => exact absurd rfl hm
  | succ m =>
    unfold sTurns
    rw [sBind_ok h, if_neg hk]
theorem turns_go {k x : Int → Int} {i q : Int} {m : Nat} (h : (sTurn k x i q).1 = 0) (hk : k (sTurn k x i q).2 = -256) : sTurns k x (m + 1) i q = sTurns k x m (i + 1) (x (sTurn k x i q).2) := by
  rw [sTurns.eq_2, sBind_ok h, if_pos hk]
section SB
variable {k x : Int → Int} {w p : Int}
theorem sB4 (h : w ≤ 4) : sBody k x w p = sLaw k x w p := if_pos h
theorem sB5 (h : w = 5) : sBody k x w p = sNum k x 0 5 p := by subst h; unfold sBody; rw [if_neg (by decide), if_pos rfl]
theorem sB6 (h : w = 6 ∨ w = 7) : sBody k x w p = sBind (sNum k x 0 15 p) (fun q => sBind (sNum k x 0 3 q) (fun q => sBind (sTok k x 117 q) (fun q => sNum k x 0 15 q))) := by unfold sBody; rw [if_neg (by omega), if_neg (by omega), if_pos h]
theorem sB8 (h : w = 8 ∨ w = 9) : sBody k x w p = sNum k x 0 15 p := by unfold sBody; rw [if_neg (by omega), if_neg (by omega), if_neg (by omega), if_pos h]
theorem sB10 (h : w = 10) : sBody k x w p = sBind (sNum k x 0 5 p) (fun q => sBind (sFac k x q) (fun q => sBind (sTok k x (-242) q) (fun q => sTurns k x 7 0 q))) := by subst h; unfold sBody; rw [if_neg (by decide), if_neg (by decide), if_neg (by decide), if_neg (by decide), if_pos rfl]
theorem sB11 (h : w = 11) : sBody k x w p = sBind (sNum k x 0 15 p) (fun q => sFac k x q) := by subst h; unfold sBody; rw [if_neg (by decide), if_neg (by decide), if_neg (by decide), if_neg (by decide), if_neg (by decide), if_pos rfl]
theorem sB12 (h : w = 12) : sBody k x w p = sNum k x 1 20 p := by subst h; unfold sBody; rw [if_neg (by decide), if_neg (by decide), if_neg (by decide), if_neg (by decide), if_neg (by decide), if_neg (by decide), if_pos rfl]
theorem sB13 (h : w = 13) : sBody k x w p = sSide k x p := by subst h; unfold sBody; rw [if_neg (by decide), if_neg (by decide), if_neg (by decide), if_neg (by decide), if_neg (by decide), if_neg (by decide), if_neg (by decide), if_pos rfl]
theorem sB14 (h : w = 14) : sBody k x w p = sNum k x 0 5 p := by subst h; unfold sBody; rw [if_neg (by decide), if_neg (by decide), if_neg (by decide), if_neg (by decide), if_neg (by decide), if_neg (by decide), if_neg (by decide), if_neg (by decide), if_pos rfl]
theorem sB15 (h : w = 15) : sBody k x w p = sNum k x 0 7 p := by subst h; unfold sBody; rw [if_neg (by decide), if_neg (by decide), if_neg (by decide), if_neg (by decide), if_neg (by decide), if_neg (by decide), if_neg (by decide), if_neg (by decide), if_neg (by decide)]
end SB

/-! what a clause says, by its place -/
section CO
variable (k x : Int → Int)
/-- a turn at a place, and the place behind it -/
def tvS (p : Int) : Int := if k p = 119 then 100 * (k (x (x p)) - 123) + 10 + (k (x p) - 1000) else 100 * (k (x p) - 123) + (k p - 1000)
def tnS (p : Int) : Int := if k p = 119 then x (x (x p)) else x (x p)
/-- turns packed in two numbers -/
def trS : Nat → Int → Int → Int → Int → Int × Int
  | 0, _, _, f, m => (f, m)
  | q + 1, i, p, f, m => if k (tnS k x p) = -256 then trS q (i + 1) (x (tnS k x p)) (if i < 3 then 1000 * f + tvS k x p else f) (if i < 3 then 0 else 1000 * m + tvS k x p) else (if i < 3 then 1000 * f + tvS k x p else f, if i < 3 then 0 else 1000 * m + tvS k x p)
def rw1 (w p : Int) : Int := if w = 13 then (if k p = 127 then 3 else k p - 123) else k p - 1000
def rw2 (w p : Int) : Int := if w = 6 ∨ w = 7 then k (x p) - 1000 else k (x (x p)) - 1000
def rw3 (w p : Int) : Int := if w = 10 then (trS k x 7 0 (x (x (x (x p)))) 0 0).1 else k (x (x (x p))) - 1000
def rw4 (p : Int) : Int := (trS k x 7 0 (x (x (x (x p)))) 0 0).2
end CO
/-- one number of the clause is kept -/
def W25 (M N : Mem) (c v : Int) : Prop := (∀ i : Nat, (i : Int) = 5 * mI M 22 13 + c → mI N 25 i = v) ∧ ∀ i : Nat, (i : Int) ≠ 5 * mI M 22 13 + c → mI N 25 i = mI M 25 i
/-- a deed's row -/
def D25 (k x : Int → Int) (M N : Mem) (w p : Int) : Prop := (∀ i : Nat, (i : Int) = 5 * mI M 22 13 + 1 → mI N 25 i = rw1 k w p) ∧ (w = 6 ∨ w = 7 ∨ w = 10 ∨ w = 11 → ∀ i : Nat, (i : Int) = 5 * mI M 22 13 + 2 → mI N 25 i = rw2 k x w p) ∧ (w = 6 ∨ w = 7 ∨ w = 10 → ∀ i : Nat, (i : Int) = 5 * mI M 22 13 + 3 → mI N 25 i = rw3 k x w p) ∧ (w = 10 → ∀ i : Nat, (i : Int) = 5 * mI M 22 13 + 4 → mI N 25 i = rw4 k x p) ∧ ∀ i : Nat, (i : Int) ≤ 5 * mI M 22 13 ∨ 5 * mI M 22 13 + 5 ≤ i → mI N 25 i = mI M 25 i
/-- a telling's turns: what a turn changes -/
def T25 (M N : Mem) : Prop := ∀ i : Nat, (i : Int) ≠ 5 * mI M 22 13 + 3 → mI N 25 i = mI M 25 i
theorem tr_end {k x : Int → Int} {q : Nat} {i p f m : Int} (h : k (tnS k x p) ≠ -256) : trS k x (q + 1) i p f m = (if i < 3 then 1000 * f + tvS k x p else f, if i < 3 then 0 else 1000 * m + tvS k x p) := if_neg h
theorem tr_go {k x : Int → Int} {q : Nat} {i p f m : Int} (h : k (tnS k x p) = -256) : trS k x (q + 1) i p f m = trS k x q (i + 1) (x (tnS k x p)) (if i < 3 then 1000 * f + tvS k x p else f) (if i < 3 then 0 else 1000 * m + tvS k x p) := if_pos h
/-- the places of the turns of a telling -/
def tpS (k x : Int → Int) (p : Int) : Nat → Int
  | 0 => p
  | i + 1 => x (tnS k x (tpS k x p i))
/-- m turns from a place on, as the reference keeps them -/
def TT9 (k x : Int → Int) (R : Nat → Int) (b : Int) (p : Int) (m : Int) : Prop := R (b + 3).toNat = m ∧ (∀ i : Nat, (i : Int) < m → R (b + 4 + i).toNat = tvS k x (tpS k x p i) ∧ isTu (tvS k x (tpS k x p i))) ∧ ∀ i : Nat, (i : Int) + 1 < m → k (tnS k x (tpS k x p i)) = -256
/-- a telling's clause, as the reference keeps it -/
def TL9 (k x : Int → Int) (R : Nat → Int) (b p : Int) : Prop := R (b + 1).toNat = k p - 1000 ∧ R (b + 2).toNat = k (x (x p)) - 1000 ∧ ∃ m : Int, (1 ≤ m ∧ m ≤ 6) ∧ TT9 k x R b (x (x (x (x p)))) m ∧ k (tnS k x (tpS k x (x (x (x (x p)))) (m - 1).toNat)) ≠ -256

/-- what a piece of a sum has written, in the class -/
def CW (g : Nat → Int) (n w : Int) (M N : Mem) (q : Int) (b : Int) (c : List (Int × Int)) : Prop := RS g n N q ∧ EM M N c ∧ (mI N 22 12 - mI M 22 12 ≤ mI N 22 9 - mI M 22 9 ∧ mI M 22 9 ≤ mI N 22 9) ∧ H1 c b.toNat ∧ rgO w c
/-- one -/
def CO3 (g : Nat → Int) (n w : Int) (M N : Mem) (p b : Int) : Prop := ∃ q c, CW g n w M N q b c ∧ ∀ (P : List Int) (fin : List (Int × Int)), Cd (tk g n) (nx g n) (stP 3 P).2 true q fin → Cd (tk g n) (nx g n) P false p (c ++ ((stP 3 P).1 ++ fin))
def CO2 (g : Nat → Int) (n w : Int) (M N : Mem) (p b l : Int) (E : Int → Prop) : Prop := ∃ q c, CW g n w M N q b c ∧ E q ∧ ∀ (P : List Int) (fin : List (Int × Int)), tpR l P → Cd (tk g n) (nx g n) P true q fin → Cd (tk g n) (nx g n) P false p (c ++ fin)
theorem CO3.first {g : Nat → Int} {n w : Int} {M N : Mem} {p b b2 : Int} (h : CO3 g n w M N p b) (hb : b ≤ b2) : CO2 g n w M N p b2 2 (fun _ => True) := by
  obtain ⟨q, c, ⟨w1, w2, w3, w4, w5⟩, f⟩ := h
  refine ⟨q, c, ⟨w1, w2, w3, w4.up (by omega), w5⟩, trivial, fun P fin tp r => ?_⟩
  have e := st_e (tp.up (by decide : (2 : Int) ≤ 3))
  have z := f P fin (by rw [e.2]; exact r)
  rw [e.1] at z
  exact z
theorem CO2.first {g : Nat → Int} {n w : Int} {M N : Mem} {p b b2 : Int} {E : Int → Prop} (h : CO2 g n w M N p b 2 E) (hb : b ≤ b2) : CO2 g n w M N p b2 1 E := by
  obtain ⟨q, c, ⟨w1, w2, w3, w4, w5⟩, e, f⟩ := h
  exact ⟨q, c, ⟨w1, w2, w3, w4.up (by omega), w5⟩, e, fun P fin tp r => f P fin (tp.up (by decide)) r⟩

set_option maxRecDepth 4000 in
theorem sfX4_isBlankF {l : Launch} {M : Mem} (hB : Box M)  (s : Int)  : Call l mdX4_isBlank [aI s] M (fun q N => ∃ r : Int, q = some (aI r) ∧ M = N ∧ 0 ≤ r ∧ r ≤ 1 ∧ ((r = 1 ∧ (s = 32 ∨ s = 10)) ∨ (r = 0 ∧ ¬ (s = 32 ∨ s = 10)))) := by
  have hB0 : BF fQ M M := BF.start hB
  refine Call.of [some (aI s)] rfl (Nat.le_of_ble_eq_true rfl) rfl ?_
  refine vc_ok (fun hoM hoS hoL => ?_)
  have hr0 : -2147483648 ≤ s ∧ s < 2147483648 := hoL 0 _ rfl
  refine vc_iload_n dX4_isBlank_0 rfl ?_
  refine vc_bipush dX4_isBlank_1 rfl ?_
  refine vc_icmp_eq dX4_isBlank_3 (fun h1 => ?_) (fun h1 => ?_)
  · refine vc_iconst dX4_isBlank_12 rfl ?_
    refine vc_goto dX4_isBlank_13 ?_
    refine vc_zret dX4_isBlank_17 rfl (by first | decide | omega) (Nat.le_of_ble_eq_true rfl) (Nat.le_of_ble_eq_true rfl) ?_
    exact ⟨_, rfl, rfl, by omega, by omega, by omega⟩
  · refine vc_iload_n dX4_isBlank_6 rfl ?_
    refine vc_bipush dX4_isBlank_7 rfl ?_
    refine vc_icmp_ne dX4_isBlank_9 (fun h2 => ?_) (fun h2 => ?_)
    · refine vc_iconst dX4_isBlank_16 rfl ?_
      refine vc_zret dX4_isBlank_17 rfl (by first | decide | omega) (Nat.le_of_ble_eq_true rfl) (Nat.le_of_ble_eq_true rfl) ?_
      exact ⟨_, rfl, rfl, by omega, by omega, by omega⟩
    · refine vc_iconst dX4_isBlank_12 rfl ?_
      refine vc_goto dX4_isBlank_13 ?_
      refine vc_zret dX4_isBlank_17 rfl (by first | decide | omega) (Nat.le_of_ble_eq_true rfl) (Nat.le_of_ble_eq_true rfl) ?_
      exact ⟨_, rfl, rfl, by omega, by omega, by omega⟩

set_option maxRecDepth 4000 in
theorem sfX4_isLetterF {l : Launch} {M : Mem} (hB : Box M)  (s : Int)  : Call l mdX4_isLetter [aI s] M (fun q N => ∃ r : Int, q = some (aI r) ∧ M = N ∧ 0 ≤ r ∧ r ≤ 1 ∧ ((r = 1 ∧ ((97 ≤ s ∧ s ≤ 122) ∨ (65 ≤ s ∧ s ≤ 90))) ∨ (r = 0 ∧ ¬ ((97 ≤ s ∧ s ≤ 122) ∨ (65 ≤ s ∧ s ≤ 90))))) := by
  have hB0 : BF fQ M M := BF.start hB
  refine Call.of [some (aI s)] rfl (Nat.le_of_ble_eq_true rfl) rfl ?_
  refine vc_ok (fun hoM hoS hoL => ?_)
  have hr0 : -2147483648 ≤ s ∧ s < 2147483648 := hoL 0 _ rfl
  refine vc_iload_n dX4_isLetter_0 rfl ?_
  refine vc_bipush dX4_isLetter_1 rfl ?_
  refine vc_icmp_lt dX4_isLetter_3 (fun h1 => ?_) (fun h1 => ?_)
  · refine vc_iload_n dX4_isLetter_12 rfl ?_
    refine vc_bipush dX4_isLetter_13 rfl ?_
    refine vc_icmp_lt dX4_isLetter_15 (fun h2 => ?_) (fun h2 => ?_)
    · refine vc_iconst dX4_isLetter_28 rfl ?_
      refine vc_zret dX4_isLetter_29 rfl (by first | decide | omega) (Nat.le_of_ble_eq_true rfl) (Nat.le_of_ble_eq_true rfl) ?_
      exact ⟨_, rfl, rfl, by omega, by omega, by omega⟩
    · refine vc_iload_n dX4_isLetter_18 rfl ?_
      refine vc_bipush dX4_isLetter_19 rfl ?_
      refine vc_icmp_gt dX4_isLetter_21 (fun h3 => ?_) (fun h3 => ?_)
      · refine vc_iconst dX4_isLetter_28 rfl ?_
        refine vc_zret dX4_isLetter_29 rfl (by first | decide | omega) (Nat.le_of_ble_eq_true rfl) (Nat.le_of_ble_eq_true rfl) ?_
        exact ⟨_, rfl, rfl, by omega, by omega, by omega⟩
      · refine vc_iconst dX4_isLetter_24 rfl ?_
        refine vc_goto dX4_isLetter_25 ?_
        refine vc_zret dX4_isLetter_29 rfl (by first | decide | omega) (Nat.le_of_ble_eq_true rfl) (Nat.le_of_ble_eq_true rfl) ?_
        exact ⟨_, rfl, rfl, by omega, by omega, by omega⟩
  · refine vc_iload_n dX4_isLetter_6 rfl ?_
    refine vc_bipush dX4_isLetter_7 rfl ?_
    refine vc_icmp_le dX4_isLetter_9 (fun h4 => ?_) (fun h4 => ?_)
    · refine vc_iconst dX4_isLetter_24 rfl ?_
      refine vc_goto dX4_isLetter_25 ?_
      refine vc_zret dX4_isLetter_29 rfl (by first | decide | omega) (Nat.le_of_ble_eq_true rfl) (Nat.le_of_ble_eq_true rfl) ?_
      exact ⟨_, rfl, rfl, by omega, by omega, by omega⟩
    · refine vc_iload_n dX4_isLetter_12 rfl ?_
      refine vc_bipush dX4_isLetter_13 rfl ?_
      refine vc_icmp_lt dX4_isLetter_15 (fun h5 => by exfalso; omega) (fun h5 => ?_)
      refine vc_iload_n dX4_isLetter_18 rfl ?_
      refine vc_bipush dX4_isLetter_19 rfl ?_
      refine vc_icmp_gt dX4_isLetter_21 (fun h6 => ?_) (fun h6 => by exfalso; omega)
      refine vc_iconst dX4_isLetter_28 rfl ?_
      refine vc_zret dX4_isLetter_29 rfl (by first | decide | omega) (Nat.le_of_ble_eq_true rfl) (Nat.le_of_ble_eq_true rfl) ?_
      exact ⟨_, rfl, rfl, by omega, by omega, by omega⟩

set_option maxRecDepth 4000 in
theorem sfX4_isDigitF {l : Launch} {M : Mem} (hB : Box M)  (s : Int)  : Call l mdX4_isDigit [aI s] M (fun q N => ∃ r : Int, q = some (aI r) ∧ M = N ∧ 0 ≤ r ∧ r ≤ 1 ∧ ((r = 1 ∧ (48 ≤ s ∧ s ≤ 57)) ∨ (r = 0 ∧ ¬ (48 ≤ s ∧ s ≤ 57)))) := by
  have hB0 : BF fQ M M := BF.start hB
  refine Call.of [some (aI s)] rfl (Nat.le_of_ble_eq_true rfl) rfl ?_
  refine vc_ok (fun hoM hoS hoL => ?_)
  have hr0 : -2147483648 ≤ s ∧ s < 2147483648 := hoL 0 _ rfl
  refine vc_iload_n dX4_isDigit_0 rfl ?_
  refine vc_bipush dX4_isDigit_1 rfl ?_
  refine vc_icmp_lt dX4_isDigit_3 (fun h1 => ?_) (fun h1 => ?_)
  · refine vc_iconst dX4_isDigit_16 rfl ?_
    refine vc_zret dX4_isDigit_17 rfl (by first | decide | omega) (Nat.le_of_ble_eq_true rfl) (Nat.le_of_ble_eq_true rfl) ?_
    exact ⟨_, rfl, rfl, by omega, by omega, by omega⟩
  · refine vc_iload_n dX4_isDigit_6 rfl ?_
    refine vc_bipush dX4_isDigit_7 rfl ?_
    refine vc_icmp_gt dX4_isDigit_9 (fun h2 => ?_) (fun h2 => ?_)
    · refine vc_iconst dX4_isDigit_16 rfl ?_
      refine vc_zret dX4_isDigit_17 rfl (by first | decide | omega) (Nat.le_of_ble_eq_true rfl) (Nat.le_of_ble_eq_true rfl) ?_
      exact ⟨_, rfl, rfl, by omega, by omega, by omega⟩
    · refine vc_iconst dX4_isDigit_12 rfl ?_
      refine vc_goto dX4_isDigit_13 ?_
      refine vc_zret dX4_isDigit_17 rfl (by first | decide | omega) (Nat.le_of_ble_eq_true rfl) (Nat.le_of_ble_eq_true rfl) ?_
      exact ⟨_, rfl, rfl, by omega, by omega, by omega⟩

set_option maxRecDepth 4000 in
theorem sfX4_isSignF {l : Launch} {M : Mem} (hB : Box M)  (s : Int)  : Call l mdX4_isSign [aR 22, aI s] M (fun q N => ∃ r : Int, q = some (aI r) ∧ M = N ∧ 0 ≤ r ∧ r ≤ 1 ∧ ((r = 1 ∧ mI M 22 10 = 3 ∧ mI M 22 11 = s) ∨ (r = 0 ∧ ¬ (mI M 22 10 = 3 ∧ mI M 22 11 = s)))) := by
  have hB0 : BF fQ M M := BF.start hB
  refine Call.of [some (aR 22), some (aI s)] rfl (Nat.le_of_ble_eq_true rfl) rfl ?_
  refine vc_ok (fun hoM hoS hoL => ?_)
  have hr1 : -2147483648 ≤ s ∧ s < 2147483648 := hoL 1 _ rfl
  refine vc_aload_n dX4_isSign_0 rfl ?_
  refine vc_getI dX4_isSign_1 flX4_69 (s_22 hB0.1.1) rfl ?_
  refine vc_iconst dX4_isSign_4 rfl ?_
  refine vc_icmp_ne dX4_isSign_5 (fun h1 => ?_) (fun h1 => ?_)
  · refine vc_iconst dX4_isSign_20 rfl ?_
    refine vc_zret dX4_isSign_21 rfl (by first | decide | omega) (Nat.le_of_ble_eq_true rfl) (Nat.le_of_ble_eq_true rfl) ?_
    exact ⟨_, rfl, rfl, by omega, by omega, by omega⟩
  · refine vc_aload_n dX4_isSign_8 rfl ?_
    refine vc_getI dX4_isSign_9 flX4_119 (s_22 hB0.1.1) rfl ?_
    refine vc_iload_n dX4_isSign_12 rfl ?_
    refine vc_icmp_ne dX4_isSign_13 (fun h2 => ?_) (fun h2 => ?_)
    · refine vc_iconst dX4_isSign_20 rfl ?_
      refine vc_zret dX4_isSign_21 rfl (by first | decide | omega) (Nat.le_of_ble_eq_true rfl) (Nat.le_of_ble_eq_true rfl) ?_
      exact ⟨_, rfl, rfl, by omega, by omega, by omega⟩
    · refine vc_iconst dX4_isSign_16 rfl ?_
      refine vc_goto dX4_isSign_17 ?_
      refine vc_zret dX4_isSign_21 rfl (by first | decide | omega) (Nat.le_of_ble_eq_true rfl) (Nat.le_of_ble_eq_true rfl) ?_
      exact ⟨_, rfl, rfl, by omega, by omega, by omega⟩

set_option maxRecDepth 4000 in
theorem sfX4_takeTokenF {l : Launch} {M : Mem} (hB : Box M) (g : Nat → Int) (n p : Int) (hR : RS g n M p)  (p0 : tk g n p ≠ 0) : Call l mdX4_takeToken [aR 22] M (fun q N => ∃ r : Int, q = some (aI r) ∧ BF fQ M N ∧ mI N 23 = mI M 23 ∧ mI N 24 = mI M 24 ∧ mI N 25 = mI M 25 ∧ mI N 26 = mI M 26 ∧ mI N 27 = mI M 27 ∧ mI N 28 = mI M 28 ∧ 1 ≤ r ∧ r ≤ 1 ∧ (0 ≤ mI N 22 9 ∧ mI N 22 12 = mI M 22 12 ∧ mI N 22 9 = mI M 22 9 + 1) ∧ mI N 22 13 = mI M 22 13 ∧ mI N 22 14 = mI M 22 14 ∧ RS g n N (nx g n p)) := by
  have hB0 : BF fQ M M := BF.start hB
  refine Call.of [some (aR 22)] rfl (Nat.le_of_ble_eq_true rfl) rfl ?_
  have ct1 := RS.ct hR
  unfold CT at ct1
  have rg2 := RS.rg hR
  refine vc_aload_n dX4_takeToken_0 rfl ?_
  refine vc_getI dX4_takeToken_1 flX4_62 (s_22 hB0.1.1) rfl ?_
  have k3 : (-1) ≤ mI M 22 9 ∧ mI M 22 9 ≤ 300 := b22_9 (M := M) hB0.1
  refine vc_sipush dX4_takeToken_4 rfl ?_
  refine vc_icmp_ge dX4_takeToken_7 (fun h4 => ?_) (fun h4 => ?_)
  · refine vc_iconst dX4_takeToken_46 rfl ?_
    refine vc_zret dX4_takeToken_47 rfl (by first | decide | omega) (Nat.le_of_ble_eq_true rfl) (Nat.le_of_ble_eq_true rfl) ?_
    exact ⟨_, rfl, hB0, rfl, rfl, rfl, rfl, rfl, rfl, by omega, by omega, by omega, by omega, by omega, by first | exact RS.take hR p0 rfl rfl rfl rfl rfl rfl rfl rfl | (exfalso; omega)⟩
  · refine vc_aload_n dX4_takeToken_10 rfl ?_
    refine vc_dup dX4_takeToken_11 rfl ?_
    refine vc_getI dX4_takeToken_12 flX4_62 (s_22 hB0.1.1) rfl ?_
    refine vc_iconst dX4_takeToken_15 rfl ?_
    refine vc_iaddE dX4_takeToken_16 (by omega) (by omega) ?_
    refine vc_putI dX4_takeToken_17 (plX4_62 _ rfl) (s_22 hB0.1.1) rfl ?_
    have kp5 : mI (sI M 22 9 ((mI M 22 9) + 1)) 23 = mI M 23 := (kp_sI rfl rfl)
    have kp6 : mI (sI M 22 9 ((mI M 22 9) + 1)) 24 = mI M 24 := (kp_sI rfl rfl)
    have kp7 : mI (sI M 22 9 ((mI M 22 9) + 1)) 25 = mI M 25 := (kp_sI rfl rfl)
    have kp8 : mI (sI M 22 9 ((mI M 22 9) + 1)) 26 = mI M 26 := (kp_sI rfl rfl)
    have kp9 : mI (sI M 22 9 ((mI M 22 9) + 1)) 27 = mI M 27 := (kp_sI rfl rfl)
    have kp10 : mI (sI M 22 9 ((mI M 22 9) + 1)) 28 = mI M 28 := (kp_sI rfl rfl)
    have hB11 : BF fQ M (sI M 22 9 ((mI M 22 9) + 1)) := BF.w22_9 hB0 rfl (by omega) (by omega)
    refine vc_aload_n dX4_takeToken_20 rfl ?_
    refine vc_aload_n dX4_takeToken_21 rfl ?_
    refine vc_getR dX4_takeToken_22 flX4_24 (s_22 hB11.1.1) rfl (r_22_4 hB11.1.1) ?_
    refine vc_aload_n dX4_takeToken_25 rfl ?_
    refine vc_getI dX4_takeToken_26 flX4_62 (s_22 hB11.1.1) rfl ?_
    refine vc_topI ((mI M 22 9) + 1) rfl ?_
    refine vc_iaload dX4_takeToken_29 (s_26 hB11.1.1) (by omega) (by omega) ?_
    refine vc_topI (mI M 26 (((mI M 22 9) + 1).toNat)) rfl ?_
    have k12 : mI M 26 (((mI M 22 9) + 1).toNat) = mI M 26 (((mI M 22 9) + 1).toNat) := congrFun kp8 (((mI M 22 9) + 1).toNat)
    refine vc_putI dX4_takeToken_30 (plX4_69 _ rfl) (s_22 hB11.1.1) rfl ?_
    have kp13 : mI (sI (sI M 22 9 ((mI M 22 9) + 1)) 22 10 (mI M 26 (((mI M 22 9) + 1).toNat))) 23 = mI M 23 := (kp_sI kp5 rfl)
    have kp14 : mI (sI (sI M 22 9 ((mI M 22 9) + 1)) 22 10 (mI M 26 (((mI M 22 9) + 1).toNat))) 24 = mI M 24 := (kp_sI kp6 rfl)
    have kp15 : mI (sI (sI M 22 9 ((mI M 22 9) + 1)) 22 10 (mI M 26 (((mI M 22 9) + 1).toNat))) 25 = mI M 25 := (kp_sI kp7 rfl)
    have kp16 : mI (sI (sI M 22 9 ((mI M 22 9) + 1)) 22 10 (mI M 26 (((mI M 22 9) + 1).toNat))) 26 = mI M 26 := (kp_sI kp8 rfl)
    have kp17 : mI (sI (sI M 22 9 ((mI M 22 9) + 1)) 22 10 (mI M 26 (((mI M 22 9) + 1).toNat))) 27 = mI M 27 := (kp_sI kp9 rfl)
    have kp18 : mI (sI (sI M 22 9 ((mI M 22 9) + 1)) 22 10 (mI M 26 (((mI M 22 9) + 1).toNat))) 28 = mI M 28 := (kp_sI kp10 rfl)
    have hB19 : BF fQ M (sI (sI M 22 9 ((mI M 22 9) + 1)) 22 10 (mI M 26 (((mI M 22 9) + 1).toNat))) := BF.w22_10 hB11 rfl
    refine vc_aload_n dX4_takeToken_33 rfl ?_
    refine vc_aload_n dX4_takeToken_34 rfl ?_
    refine vc_getR dX4_takeToken_35 flX4_27 (s_22 hB19.1.1) rfl (r_22_5 hB19.1.1) ?_
    refine vc_aload_n dX4_takeToken_38 rfl ?_
    refine vc_getI dX4_takeToken_39 flX4_62 (s_22 hB19.1.1) rfl ?_
    refine vc_topI ((mI M 22 9) + 1) rfl ?_
    refine vc_iaload dX4_takeToken_42 (s_27 hB19.1.1) (by omega) (by omega) ?_
    refine vc_topI (mI M 27 (((mI M 22 9) + 1).toNat)) rfl ?_
    have k20 : mI M 27 (((mI M 22 9) + 1).toNat) = mI M 27 (((mI M 22 9) + 1).toNat) := congrFun kp17 (((mI M 22 9) + 1).toNat)
    refine vc_putI dX4_takeToken_43 (plX4_119 _ rfl) (s_22 hB19.1.1) rfl ?_
    have kp21 : mI (sI (sI (sI M 22 9 ((mI M 22 9) + 1)) 22 10 (mI M 26 (((mI M 22 9) + 1).toNat))) 22 11 (mI M 27 (((mI M 22 9) + 1).toNat))) 23 = mI M 23 := (kp_sI kp13 rfl)
    have kp22 : mI (sI (sI (sI M 22 9 ((mI M 22 9) + 1)) 22 10 (mI M 26 (((mI M 22 9) + 1).toNat))) 22 11 (mI M 27 (((mI M 22 9) + 1).toNat))) 24 = mI M 24 := (kp_sI kp14 rfl)
    have kp23 : mI (sI (sI (sI M 22 9 ((mI M 22 9) + 1)) 22 10 (mI M 26 (((mI M 22 9) + 1).toNat))) 22 11 (mI M 27 (((mI M 22 9) + 1).toNat))) 25 = mI M 25 := (kp_sI kp15 rfl)
    have kp24 : mI (sI (sI (sI M 22 9 ((mI M 22 9) + 1)) 22 10 (mI M 26 (((mI M 22 9) + 1).toNat))) 22 11 (mI M 27 (((mI M 22 9) + 1).toNat))) 26 = mI M 26 := (kp_sI kp16 rfl)
    have kp25 : mI (sI (sI (sI M 22 9 ((mI M 22 9) + 1)) 22 10 (mI M 26 (((mI M 22 9) + 1).toNat))) 22 11 (mI M 27 (((mI M 22 9) + 1).toNat))) 27 = mI M 27 := (kp_sI kp17 rfl)
    have kp26 : mI (sI (sI (sI M 22 9 ((mI M 22 9) + 1)) 22 10 (mI M 26 (((mI M 22 9) + 1).toNat))) 22 11 (mI M 27 (((mI M 22 9) + 1).toNat))) 28 = mI M 28 := (kp_sI kp18 rfl)
    have hB27 : BF fQ M (sI (sI (sI M 22 9 ((mI M 22 9) + 1)) 22 10 (mI M 26 (((mI M 22 9) + 1).toNat))) 22 11 (mI M 27 (((mI M 22 9) + 1).toNat))) := BF.w22_11 hB19 rfl
    refine vc_iconst dX4_takeToken_46 rfl ?_
    refine vc_zret dX4_takeToken_47 rfl (by first | decide | omega) (Nat.le_of_ble_eq_true rfl) (Nat.le_of_ble_eq_true rfl) ?_
    have k28 : mI (sI (sI (sI M 22 9 ((mI M 22 9) + 1)) 22 10 (mI M 26 (((mI M 22 9) + 1).toNat))) 22 11 (mI M 27 (((mI M 22 9) + 1).toNat))) 22 7 = mI M 22 7 := rfl
    have k29 : mI (sI (sI (sI M 22 9 ((mI M 22 9) + 1)) 22 10 (mI M 26 (((mI M 22 9) + 1).toNat))) 22 11 (mI M 27 (((mI M 22 9) + 1).toNat))) 22 8 = mI M 22 8 := rfl
    have k30 : mI (sI (sI (sI M 22 9 ((mI M 22 9) + 1)) 22 10 (mI M 26 (((mI M 22 9) + 1).toNat))) 22 11 (mI M 27 (((mI M 22 9) + 1).toNat))) 22 9 = (mI M 22 9) + 1 := rfl
    have k31 : mI (sI (sI (sI M 22 9 ((mI M 22 9) + 1)) 22 10 (mI M 26 (((mI M 22 9) + 1).toNat))) 22 11 (mI M 27 (((mI M 22 9) + 1).toNat))) 22 10 = mI M 26 (((mI M 22 9) + 1).toNat) := rfl
    have k32 : mI (sI (sI (sI M 22 9 ((mI M 22 9) + 1)) 22 10 (mI M 26 (((mI M 22 9) + 1).toNat))) 22 11 (mI M 27 (((mI M 22 9) + 1).toNat))) 22 11 = mI M 27 (((mI M 22 9) + 1).toNat) := rfl
    have k33 : mI (sI (sI (sI M 22 9 ((mI M 22 9) + 1)) 22 10 (mI M 26 (((mI M 22 9) + 1).toNat))) 22 11 (mI M 27 (((mI M 22 9) + 1).toNat))) 22 12 = mI M 22 12 := rfl
    have k34 : mI (sI (sI (sI M 22 9 ((mI M 22 9) + 1)) 22 10 (mI M 26 (((mI M 22 9) + 1).toNat))) 22 11 (mI M 27 (((mI M 22 9) + 1).toNat))) 22 13 = mI M 22 13 := rfl
    have k35 : mI (sI (sI (sI M 22 9 ((mI M 22 9) + 1)) 22 10 (mI M 26 (((mI M 22 9) + 1).toNat))) 22 11 (mI M 27 (((mI M 22 9) + 1).toNat))) 22 14 = mI M 22 14 := rfl
    exact ⟨_, rfl, hB27, kp21, kp22, kp23, kp24, kp25, kp26, by omega, by omega, by omega, by omega, by omega, by first | exact RS.take hR p0 kp24 kp25 kp26 rfl rfl rfl rfl rfl | (exfalso; omega)⟩

set_option maxRecDepth 4000 in
theorem sfX4_failedF {l : Launch} {M : Mem} (hB : Box M) (g : Nat → Int) (n p : Int) (hR : RS g n M p) (w : Int)  : Call l mdX4_failed [aR 22, aI w] M (fun q N => ∃ r : Int, q = some (aI r) ∧ BF fQ M N ∧ mI N 23 = mI M 23 ∧ mI N 24 = mI M 24 ∧ mI N 25 = mI M 25 ∧ mI N 26 = mI M 26 ∧ mI N 27 = mI M 27 ∧ mI N 28 = mI M 28 ∧ 0 ≤ r ∧ r ≤ 0 ∧ (0 ≤ mI N 22 9 ∧ mI N 22 12 = mI M 22 12 ∧ mI M 22 9 ≤ mI N 22 9) ∧ mI N 22 13 = mI M 22 13 ∧ mI N 22 14 = mI M 22 14 ∧ mI N 22 7 = w ∧ mI N 22 8 = p) := by
  have hB0 : BF fQ M M := BF.start hB
  refine Call.of [some (aR 22), some (aI w)] rfl (Nat.le_of_ble_eq_true rfl) rfl ?_
  refine vc_ok (fun hoM hoS hoL => ?_)
  have hr1 : -2147483648 ≤ w ∧ w < 2147483648 := hoL 1 _ rfl
  have ct1 := RS.ct hR
  unfold CT at ct1
  have rg2 := RS.rg hR
  refine vc_aload_n dX4_failed_0 rfl ?_
  refine vc_iload_n dX4_failed_1 rfl ?_
  refine vc_putI dX4_failed_2 (plX4_43 _ rfl) (s_22 hB0.1.1) rfl ?_
  have kp3 : mI (sI M 22 7 w) 23 = mI M 23 := (kp_sI rfl rfl)
  have kp4 : mI (sI M 22 7 w) 24 = mI M 24 := (kp_sI rfl rfl)
  have kp5 : mI (sI M 22 7 w) 25 = mI M 25 := (kp_sI rfl rfl)
  have kp6 : mI (sI M 22 7 w) 26 = mI M 26 := (kp_sI rfl rfl)
  have kp7 : mI (sI M 22 7 w) 27 = mI M 27 := (kp_sI rfl rfl)
  have kp8 : mI (sI M 22 7 w) 28 = mI M 28 := (kp_sI rfl rfl)
  have hB9 : BF fQ M (sI M 22 7 w) := BF.w22_7 hB0 rfl
  refine vc_aload_n dX4_failed_5 rfl ?_
  refine vc_aload_n dX4_failed_6 rfl ?_
  refine vc_getR dX4_failed_7 flX4_30 (s_22 hB9.1.1) rfl (r_22_6 hB9.1.1) ?_
  refine vc_aload_n dX4_failed_10 rfl ?_
  refine vc_getI dX4_failed_11 flX4_62 (s_22 hB9.1.1) rfl ?_
  refine vc_topI (mI M 22 9) rfl ?_
  have k10 : (-1) ≤ mI M 22 9 ∧ mI M 22 9 ≤ 300 := b22_9 (M := (sI M 22 7 w)) hB9.1
  refine vc_iaload dX4_failed_14 (s_28 hB9.1.1) (by omega) (by omega) ?_
  refine vc_topI (mI M 28 ((mI M 22 9).toNat)) rfl ?_
  have k11 : mI M 28 ((mI M 22 9).toNat) = mI M 28 ((mI M 22 9).toNat) := congrFun kp8 ((mI M 22 9).toNat)
  refine vc_putI dX4_failed_15 (plX4_47 _ rfl) (s_22 hB9.1.1) rfl ?_
  have kp12 : mI (sI (sI M 22 7 w) 22 8 (mI M 28 ((mI M 22 9).toNat))) 23 = mI M 23 := (kp_sI kp3 rfl)
  have kp13 : mI (sI (sI M 22 7 w) 22 8 (mI M 28 ((mI M 22 9).toNat))) 24 = mI M 24 := (kp_sI kp4 rfl)
  have kp14 : mI (sI (sI M 22 7 w) 22 8 (mI M 28 ((mI M 22 9).toNat))) 25 = mI M 25 := (kp_sI kp5 rfl)
  have kp15 : mI (sI (sI M 22 7 w) 22 8 (mI M 28 ((mI M 22 9).toNat))) 26 = mI M 26 := (kp_sI kp6 rfl)
  have kp16 : mI (sI (sI M 22 7 w) 22 8 (mI M 28 ((mI M 22 9).toNat))) 27 = mI M 27 := (kp_sI kp7 rfl)
  have kp17 : mI (sI (sI M 22 7 w) 22 8 (mI M 28 ((mI M 22 9).toNat))) 28 = mI M 28 := (kp_sI kp8 rfl)
  have hB18 : BF fQ M (sI (sI M 22 7 w) 22 8 (mI M 28 ((mI M 22 9).toNat))) := BF.w22_8 hB9 rfl
  refine vc_iconst dX4_failed_18 rfl ?_
  refine vc_zret dX4_failed_19 rfl (by first | decide | omega) (Nat.le_of_ble_eq_true rfl) (Nat.le_of_ble_eq_true rfl) ?_
  have k19 : mI (sI (sI M 22 7 w) 22 8 (mI M 28 ((mI M 22 9).toNat))) 22 7 = w := rfl
  have k20 : mI (sI (sI M 22 7 w) 22 8 (mI M 28 ((mI M 22 9).toNat))) 22 8 = mI M 28 ((mI M 22 9).toNat) := rfl
  have k21 : mI (sI (sI M 22 7 w) 22 8 (mI M 28 ((mI M 22 9).toNat))) 22 9 = mI M 22 9 := rfl
  have k22 : mI (sI (sI M 22 7 w) 22 8 (mI M 28 ((mI M 22 9).toNat))) 22 10 = mI M 22 10 := rfl
  have k23 : mI (sI (sI M 22 7 w) 22 8 (mI M 28 ((mI M 22 9).toNat))) 22 11 = mI M 22 11 := rfl
  have k24 : mI (sI (sI M 22 7 w) 22 8 (mI M 28 ((mI M 22 9).toNat))) 22 12 = mI M 22 12 := rfl
  have k25 : mI (sI (sI M 22 7 w) 22 8 (mI M 28 ((mI M 22 9).toNat))) 22 13 = mI M 22 13 := rfl
  have k26 : mI (sI (sI M 22 7 w) 22 8 (mI M 28 ((mI M 22 9).toNat))) 22 14 = mI M 22 14 := rfl
  exact ⟨_, rfl, hB18, kp12, kp13, kp14, kp15, kp16, kp17, by omega, by omega, by omega, by omega, by omega, by omega, (by have hpl := RS.pl hR; first | exact hpl | omega)⟩

set_option maxRecDepth 4000 in
theorem sfX4_keepF {l : Launch} {M : Mem} (hB : Box M) (g : Nat → Int) (n p : Int) (hR : RS g n M p) (c : Int) (v : Int) (p0 : 0 ≤ c) (p1 : c ≤ 4) (p2 : mI M 22 13 ≤ 23) : Call l mdX4_keep [aR 22, aI c, aI v] M (fun q N => q = none ∧ BF fQ M N ∧ mI N 23 = mI M 23 ∧ mI N 24 = mI M 24 ∧ mI N 26 = mI M 26 ∧ mI N 27 = mI M 27 ∧ mI N 28 = mI M 28 ∧ (0 ≤ mI N 22 9 ∧ mI N 22 12 = mI M 22 12 ∧ mI M 22 9 ≤ mI N 22 9) ∧ mI N 22 13 = mI M 22 13 ∧ mI N 22 14 = mI M 22 14 ∧ W25 M N c v ∧ RS g n N p) := by
  have hB0 : BF fQ M M := BF.start hB
  refine Call.of [some (aR 22), some (aI c), some (aI v), none] rfl (Nat.le_of_ble_eq_true rfl) rfl ?_
  refine vc_ok (fun hoM hoS hoL => ?_)
  have hr2 : -2147483648 ≤ v ∧ v < 2147483648 := hoL 2 _ rfl
  have hrg := RS.rg hR
  refine vc_iconst dX4_keep_0 rfl ?_
  refine vc_aload_n dX4_keep_1 rfl ?_
  refine vc_getI dX4_keep_2 flX4_53 (s_22 hB0.1.1) rfl ?_
  have k1 : 0 ≤ mI M 22 13 ∧ mI M 22 13 ≤ 24 := b22_13 (M := M) hB0.1
  refine vc_imulE dX4_keep_5 (by omega) (by omega) ?_
  refine vc_iload_n dX4_keep_6 rfl ?_
  refine vc_iaddE dX4_keep_7 (by omega) (by omega) ?_
  refine vc_nameI (fun x2 ex2 => ?_)
  refine vc_istore_n dX4_keep_8 (by decide) rfl (show _ = [some (aR 22), some (aI c), some (aI v), some (aI x2)] from rfl) ?_
  refine vc_iload_n dX4_keep_9 rfl ?_
  refine vc_aload_n dX4_keep_10 rfl ?_
  refine vc_getR dX4_keep_11 flX4_21 (s_22 hB0.1.1) rfl (r_22_3 hB0.1.1) ?_
  refine vc_alen dX4_keep_14 (s_25 hB0.1.1) rfl ?_
  refine vc_topI 120 rfl ?_
  refine vc_icmp_ge dX4_keep_15 (fun h3 => ?_) (fun h3 => ?_)
  · refine vc_vret dX4_keep_25 rfl (Nat.le_of_ble_eq_true rfl) (Nat.le_of_ble_eq_true rfl) ?_
    exfalso; omega
  · refine vc_aload_n dX4_keep_18 rfl ?_
    refine vc_getR dX4_keep_19 flX4_21 (s_22 hB0.1.1) rfl (r_22_3 hB0.1.1) ?_
    refine vc_iload_n dX4_keep_22 rfl ?_
    refine vc_iload_n dX4_keep_23 rfl ?_
    refine vc_iastore dX4_keep_24 (s_25 hB0.1.1) (by omega) (by omega) ?_
    have kp4 : mI (sI M 25 x2.toNat v) 23 = mI M 23 := (kp_sI rfl rfl)
    have kp5 : mI (sI M 25 x2.toNat v) 24 = mI M 24 := (kp_sI rfl rfl)
    have kp6 : mI (sI M 25 x2.toNat v) 26 = mI M 26 := (kp_sI rfl rfl)
    have kp7 : mI (sI M 25 x2.toNat v) 27 = mI M 27 := (kp_sI rfl rfl)
    have kp8 : mI (sI M 25 x2.toNat v) 28 = mI M 28 := (kp_sI rfl rfl)
    have hB9 : BF fQ M (sI M 25 x2.toNat v) := BF.w25 hB0 (fun _ => rfl) _
    refine vc_vret dX4_keep_25 rfl (Nat.le_of_ble_eq_true rfl) (Nat.le_of_ble_eq_true rfl) ?_
    have k10 : mI (sI M 25 x2.toNat v) 22 7 = mI M 22 7 := rfl
    have k11 : mI (sI M 25 x2.toNat v) 22 8 = mI M 22 8 := rfl
    have k12 : mI (sI M 25 x2.toNat v) 22 9 = mI M 22 9 := rfl
    have k13 : mI (sI M 25 x2.toNat v) 22 10 = mI M 22 10 := rfl
    have k14 : mI (sI M 25 x2.toNat v) 22 11 = mI M 22 11 := rfl
    have k15 : mI (sI M 25 x2.toNat v) 22 12 = mI M 22 12 := rfl
    have k16 : mI (sI M 25 x2.toNat v) 22 13 = mI M 22 13 := rfl
    have k17 : mI (sI M 25 x2.toNat v) 22 14 = mI M 22 14 := rfl
    exact ⟨rfl, hB9, kp4, kp5, kp6, kp7, kp8, by omega, by omega, by omega, ⟨fun i hi => by rw [mI_sI, if_pos (by omega)], fun i hi => by rw [mI_sI, if_neg (by omega)]⟩, RS.same hR kp6 kp7 kp8 rfl rfl rfl rfl rfl⟩

set_option maxRecDepth 4000 in
theorem sfX4_emitF {l : Launch} {M : Mem} (hB : Box M) (g : Nat → Int) (n p : Int) (hR : RS g n M p) (op : Int) (p0 : mI M 22 12 < 300) : Call l mdX4_emit [aR 22, aI op] M (fun q N => ∃ r : Int, q = some (aI r) ∧ BF fQ M N ∧ mI N 24 = mI M 24 ∧ mI N 25 = mI M 25 ∧ mI N 26 = mI M 26 ∧ mI N 27 = mI M 27 ∧ mI N 28 = mI M 28 ∧ 1 ≤ r ∧ r ≤ 1 ∧ (0 ≤ mI N 22 9 ∧ mI N 22 9 = mI M 22 9 ∧ mI N 22 12 = mI M 22 12 + 1) ∧ mI N 22 13 = mI M 22 13 ∧ mI N 22 14 = mI M 22 14 ∧ (∀ q : Int × Int, enc q = op → EM M N [q]) ∧ RS g n N p) := by
  have hB0 : BF fQ M M := BF.start hB
  refine Call.of [some (aR 22), some (aI op)] rfl (Nat.le_of_ble_eq_true rfl) rfl ?_
  refine vc_ok (fun hoM hoS hoL => ?_)
  have hr1 : -2147483648 ≤ op ∧ op < 2147483648 := hoL 1 _ rfl
  have k12 := b22_12 hB
  have hrg := RS.rg hR
  refine vc_aload_n dX4_emit_0 rfl ?_
  refine vc_getI dX4_emit_1 flX4_50 (s_22 hB0.1.1) rfl ?_
  have k1 : 0 ≤ mI M 22 12 ∧ mI M 22 12 ≤ 300 := b22_12 (M := M) hB0.1
  refine vc_aload_n dX4_emit_4 rfl ?_
  refine vc_getR dX4_emit_5 flX4_15 (s_22 hB0.1.1) rfl (r_22_1 hB0.1.1) ?_
  refine vc_alen dX4_emit_8 (s_23 hB0.1.1) rfl ?_
  refine vc_topI 300 rfl ?_
  refine vc_icmp_ge dX4_emit_9 (fun h2 => ?_) (fun h2 => ?_)
  · refine vc_iconst dX4_emit_32 rfl ?_
    refine vc_zret dX4_emit_33 rfl (by first | decide | omega) (Nat.le_of_ble_eq_true rfl) (Nat.le_of_ble_eq_true rfl) ?_
    exfalso; omega
  · refine vc_aload_n dX4_emit_12 rfl ?_
    refine vc_getR dX4_emit_13 flX4_15 (s_22 hB0.1.1) rfl (r_22_1 hB0.1.1) ?_
    refine vc_aload_n dX4_emit_16 rfl ?_
    refine vc_getI dX4_emit_17 flX4_50 (s_22 hB0.1.1) rfl ?_
    refine vc_iload_n dX4_emit_20 rfl ?_
    refine vc_iastore dX4_emit_21 (s_23 hB0.1.1) (by omega) (by omega) ?_
    have kp3 : mI (sI M 23 ((mI M 22 12).toNat) op) 24 = mI M 24 := (kp_sI rfl rfl)
    have kp4 : mI (sI M 23 ((mI M 22 12).toNat) op) 25 = mI M 25 := (kp_sI rfl rfl)
    have kp5 : mI (sI M 23 ((mI M 22 12).toNat) op) 26 = mI M 26 := (kp_sI rfl rfl)
    have kp6 : mI (sI M 23 ((mI M 22 12).toNat) op) 27 = mI M 27 := (kp_sI rfl rfl)
    have kp7 : mI (sI M 23 ((mI M 22 12).toNat) op) 28 = mI M 28 := (kp_sI rfl rfl)
    have hB8 : BF fQ M (sI M 23 ((mI M 22 12).toNat) op) := BF.w23 hB0 (fun _ => rfl) _
    refine vc_aload_n dX4_emit_22 rfl ?_
    refine vc_dup dX4_emit_23 rfl ?_
    refine vc_getI dX4_emit_24 flX4_50 (s_22 hB8.1.1) rfl ?_
    refine vc_topI (mI M 22 12) rfl ?_
    have k9 : 0 ≤ mI M 22 12 ∧ mI M 22 12 ≤ 300 := b22_12 (M := (sI M 23 ((mI M 22 12).toNat) op)) hB8.1
    refine vc_iconst dX4_emit_27 rfl ?_
    refine vc_iaddE dX4_emit_28 (by omega) (by omega) ?_
    refine vc_putI dX4_emit_29 (plX4_50 _ rfl) (s_22 hB8.1.1) rfl ?_
    have kp10 : mI (sI (sI M 23 ((mI M 22 12).toNat) op) 22 12 ((mI M 22 12) + 1)) 24 = mI M 24 := (kp_sI kp3 rfl)
    have kp11 : mI (sI (sI M 23 ((mI M 22 12).toNat) op) 22 12 ((mI M 22 12) + 1)) 25 = mI M 25 := (kp_sI kp4 rfl)
    have kp12 : mI (sI (sI M 23 ((mI M 22 12).toNat) op) 22 12 ((mI M 22 12) + 1)) 26 = mI M 26 := (kp_sI kp5 rfl)
    have kp13 : mI (sI (sI M 23 ((mI M 22 12).toNat) op) 22 12 ((mI M 22 12) + 1)) 27 = mI M 27 := (kp_sI kp6 rfl)
    have kp14 : mI (sI (sI M 23 ((mI M 22 12).toNat) op) 22 12 ((mI M 22 12) + 1)) 28 = mI M 28 := (kp_sI kp7 rfl)
    have hB15 : BF fQ M (sI (sI M 23 ((mI M 22 12).toNat) op) 22 12 ((mI M 22 12) + 1)) := BF.w22_12 hB8 rfl (by omega) (by omega)
    refine vc_iconst dX4_emit_32 rfl ?_
    refine vc_zret dX4_emit_33 rfl (by first | decide | omega) (Nat.le_of_ble_eq_true rfl) (Nat.le_of_ble_eq_true rfl) ?_
    have k16 : mI (sI (sI M 23 ((mI M 22 12).toNat) op) 22 12 ((mI M 22 12) + 1)) 22 7 = mI M 22 7 := rfl
    have k17 : mI (sI (sI M 23 ((mI M 22 12).toNat) op) 22 12 ((mI M 22 12) + 1)) 22 8 = mI M 22 8 := rfl
    have k18 : mI (sI (sI M 23 ((mI M 22 12).toNat) op) 22 12 ((mI M 22 12) + 1)) 22 9 = mI M 22 9 := rfl
    have k19 : mI (sI (sI M 23 ((mI M 22 12).toNat) op) 22 12 ((mI M 22 12) + 1)) 22 10 = mI M 22 10 := rfl
    have k20 : mI (sI (sI M 23 ((mI M 22 12).toNat) op) 22 12 ((mI M 22 12) + 1)) 22 11 = mI M 22 11 := rfl
    have k21 : mI (sI (sI M 23 ((mI M 22 12).toNat) op) 22 12 ((mI M 22 12) + 1)) 22 12 = (mI M 22 12) + 1 := rfl
    have k22 : mI (sI (sI M 23 ((mI M 22 12).toNat) op) 22 12 ((mI M 22 12) + 1)) 22 13 = mI M 22 13 := rfl
    have k23 : mI (sI (sI M 23 ((mI M 22 12).toNat) op) 22 12 ((mI M 22 12) + 1)) 22 14 = mI M 22 14 := rfl
    exact ⟨_, rfl, hB15, kp10, kp11, kp12, kp13, kp14, by omega, by omega, by omega, by omega, by omega, (fun q hq => EM.one (by omega) (by omega) (fun i => by rw [hq]; show mI (sI M 23 (mI M 22 12).toNat op) 23 i = _; rw [mI_sI]; by_cases e : i = (mI M 22 12).toNat; (rw [if_pos ⟨rfl, e⟩, if_pos e]); (rw [if_neg (fun z => e z.2), if_neg e]))), RS.same hR kp12 kp13 kp14 rfl rfl rfl rfl rfl⟩

set_option maxRecDepth 4000 in
theorem sfX4_readNumberF {l : Launch} {M : Mem} (hB : Box M) (g : Nat → Int) (n p : Int) (hR : RS g n M p) (c : Int) (lo : Int) (hi : Int) (p0 : 0 ≤ c) (p1 : c ≤ 4) (p2 : mI M 22 13 ≤ 23) : Call l mdX4_readNumber [aR 22, aI c, aI lo, aI hi] M (fun q N => ∃ r : Int, q = some (aI r) ∧ BF fQ M N ∧ mI N 23 = mI M 23 ∧ mI N 24 = mI M 24 ∧ mI N 26 = mI M 26 ∧ mI N 27 = mI M 27 ∧ mI N 28 = mI M 28 ∧ 0 ≤ r ∧ r ≤ 1 ∧ (0 ≤ mI N 22 9 ∧ mI N 22 12 = mI M 22 12 ∧ mI M 22 9 ≤ mI N 22 9) ∧ mI N 22 13 = mI M 22 13 ∧ mI N 22 14 = mI M 22 14 ∧ (r = 1 → W25 M N c (tk g n p - 1000)) ∧ CR g n N r (sNum (tk g n) (nx g n) lo hi p)) := by
  have hB0 : BF fQ M M := BF.start hB
  refine Call.of [some (aR 22), some (aI c), some (aI lo), some (aI hi)] rfl (Nat.le_of_ble_eq_true rfl) rfl ?_
  refine vc_ok (fun hoM hoS hoL => ?_)
  have hr2 : -2147483648 ≤ lo ∧ lo < 2147483648 := hoL 2 _ rfl
  have hr3 : -2147483648 ≤ hi ∧ hi < 2147483648 := hoL 3 _ rfl
  have ct1 := RS.ct hR
  unfold CT at ct1
  have rg2 := RS.rg hR
  refine vc_aload_n dX4_readNumber_0 rfl ?_
  refine vc_getI dX4_readNumber_1 flX4_69 (s_22 hB0.1.1) rfl ?_
  refine vc_iconst dX4_readNumber_4 rfl ?_
  refine vc_icmp_eq dX4_readNumber_5 (fun h3 => ?_) (fun h3 => ?_)
  · refine vc_aload_n dX4_readNumber_14 rfl ?_
    refine vc_getI dX4_readNumber_15 flX4_119 (s_22 hB0.1.1) rfl ?_
    refine vc_iload_n dX4_readNumber_18 rfl ?_
    refine vc_icmp_lt dX4_readNumber_19 (fun h4 => ?_) (fun h4 => ?_)
    · refine vc_aload_n dX4_readNumber_30 rfl ?_
      refine vc_iconst dX4_readNumber_31 rfl ?_
      refine vc_cVI dX4_readNumber_32 (sfX4_failedF (M := M) hB0.1  g n p hR 2 ) rfl okX4_failed viX4_failed lkX4_122 (s_22 hB0.1.1) cl_4 rfl (Nat.le_of_ble_eq_true rfl) ⟨rfl, rfl⟩ (Nat.le_of_ble_eq_true rfl) (Nat.le_of_ble_eq_true rfl) (Nat.le_of_ble_eq_true rfl) ?_
      rintro x5 M6 ⟨hB7, kp8, kp9, kp10, kp11, kp12, kp13, h14, h15, h16, h17, h18, h19, h20⟩
      have hB21 : BF fQ M M6 := BF.go hB0 hB7
      have kp22 : mI M6 23 = mI M 23 := kp_go rfl kp8
      have kp23 : mI M6 24 = mI M 24 := kp_go rfl kp9
      have kp24 : mI M6 26 = mI M 26 := kp_go rfl kp11
      have kp25 : mI M6 27 = mI M 27 := kp_go rfl kp12
      have kp26 : mI M6 28 = mI M 28 := kp_go rfl kp13
      refine vc_zret dX4_readNumber_35 rfl (by first | decide | omega) (Nat.le_of_ble_eq_true rfl) (Nat.le_of_ble_eq_true rfl) ?_
      exact ⟨_, rfl, hB21, kp22, kp23, kp24, kp25, kp26, by omega, by omega, by omega, by omega, by omega, fun hr => absurd hr (by omega), CRb (e := 2) (q := p) (by omega) h19 h20 (by omega) (by unfold sNum; (repeat' split) <;> first | rfl | (exfalso; omega))⟩
    · refine vc_aload_n dX4_readNumber_22 rfl ?_
      refine vc_getI dX4_readNumber_23 flX4_119 (s_22 hB0.1.1) rfl ?_
      refine vc_iload_n dX4_readNumber_26 rfl ?_
      refine vc_icmp_le dX4_readNumber_27 (fun h27 => ?_) (fun h27 => ?_)
      · refine vc_aload_n dX4_readNumber_36 rfl ?_
        refine vc_iload_n dX4_readNumber_37 rfl ?_
        refine vc_aload_n dX4_readNumber_38 rfl ?_
        refine vc_getI dX4_readNumber_39 flX4_119 (s_22 hB0.1.1) rfl ?_
        refine vc_cVU dX4_readNumber_42 (sfX4_keepF (M := M) hB0.1  g n p hR c (mI M 22 11) (by omega) (by omega) (by omega)) rfl okX4_keep viX4_keep lkX4_125 (s_22 hB0.1.1) cl_4 rfl (Nat.le_of_ble_eq_true rfl) ⟨rfl, rfl⟩ (Nat.le_of_ble_eq_true rfl) (Nat.le_of_ble_eq_true rfl) (Nat.le_of_ble_eq_true rfl) ?_
        rintro M28 ⟨hB29, kp30, kp31, kp32, kp33, kp34, h35, h36, h37, h38, h39⟩
        have hB40 : BF fQ M M28 := BF.go hB0 hB29
        have kp41 : mI M28 23 = mI M 23 := kp_go rfl kp30
        have kp42 : mI M28 24 = mI M 24 := kp_go rfl kp31
        have kp43 : mI M28 26 = mI M 26 := kp_go rfl kp32
        have kp44 : mI M28 27 = mI M 27 := kp_go rfl kp33
        have kp45 : mI M28 28 = mI M 28 := kp_go rfl kp34
        refine vc_aload_n dX4_readNumber_45 rfl ?_
        refine vc_cVI dX4_readNumber_46 (sfX4_takeTokenF (M := M28) hB40.1  g n p h39 (by omega)) rfl okX4_takeToken viX4_takeToken lkX4_65 (s_22 hB40.1.1) cl_4 rfl (Nat.le_of_ble_eq_true rfl) ⟨rfl, rfl⟩ (Nat.le_of_ble_eq_true rfl) (Nat.le_of_ble_eq_true rfl) (Nat.le_of_ble_eq_true rfl) ?_
        rintro x46 M47 ⟨hB48, kp49, kp50, kp51, kp52, kp53, kp54, h55, h56, h57, h58, h59, h60⟩
        have hB61 : BF fQ M M47 := BF.go hB40 hB48
        have kp62 : mI M47 23 = mI M 23 := kp_go kp41 kp49
        have kp63 : mI M47 24 = mI M 24 := kp_go kp42 kp50
        have kp64 : mI M47 26 = mI M 26 := kp_go kp43 kp52
        have kp65 : mI M47 27 = mI M 27 := kp_go kp44 kp53
        have kp66 : mI M47 28 = mI M 28 := kp_go kp45 kp54
        refine vc_zret dX4_readNumber_49 rfl (by first | decide | omega) (Nat.le_of_ble_eq_true rfl) (Nat.le_of_ble_eq_true rfl) ?_
        exact ⟨_, rfl, hB61, kp62, kp63, kp64, kp65, kp66, by omega, by omega, by omega, by omega, by omega, fun _ => ⟨fun i hi => ((congrFun kp51 i).trans (h38.1 i (by omega))).trans (by omega), fun i hi => ((congrFun kp51 i).trans (h38.2 i (by omega)))⟩, CRo (q := (nx g n p)) (by omega) h60 (by unfold sNum; (repeat' split) <;> first | rfl | (exfalso; omega))⟩
      · refine vc_aload_n dX4_readNumber_30 rfl ?_
        refine vc_iconst dX4_readNumber_31 rfl ?_
        refine vc_cVI dX4_readNumber_32 (sfX4_failedF (M := M) hB0.1  g n p hR 2 ) rfl okX4_failed viX4_failed lkX4_122 (s_22 hB0.1.1) cl_4 rfl (Nat.le_of_ble_eq_true rfl) ⟨rfl, rfl⟩ (Nat.le_of_ble_eq_true rfl) (Nat.le_of_ble_eq_true rfl) (Nat.le_of_ble_eq_true rfl) ?_
        rintro x67 M68 ⟨hB69, kp70, kp71, kp72, kp73, kp74, kp75, h76, h77, h78, h79, h80, h81, h82⟩
        have hB83 : BF fQ M M68 := BF.go hB0 hB69
        have kp84 : mI M68 23 = mI M 23 := kp_go rfl kp70
        have kp85 : mI M68 24 = mI M 24 := kp_go rfl kp71
        have kp86 : mI M68 26 = mI M 26 := kp_go rfl kp73
        have kp87 : mI M68 27 = mI M 27 := kp_go rfl kp74
        have kp88 : mI M68 28 = mI M 28 := kp_go rfl kp75
        refine vc_zret dX4_readNumber_35 rfl (by first | decide | omega) (Nat.le_of_ble_eq_true rfl) (Nat.le_of_ble_eq_true rfl) ?_
        exact ⟨_, rfl, hB83, kp84, kp85, kp86, kp87, kp88, by omega, by omega, by omega, by omega, by omega, fun hr => absurd hr (by omega), CRb (e := 2) (q := p) (by omega) h81 h82 (by omega) (by unfold sNum; (repeat' split) <;> first | rfl | (exfalso; omega))⟩
  · refine vc_aload_n dX4_readNumber_8 rfl ?_
    refine vc_iconst dX4_readNumber_9 rfl ?_
    refine vc_cVI dX4_readNumber_10 (sfX4_failedF (M := M) hB0.1  g n p hR 1 ) rfl okX4_failed viX4_failed lkX4_122 (s_22 hB0.1.1) cl_4 rfl (Nat.le_of_ble_eq_true rfl) ⟨rfl, rfl⟩ (Nat.le_of_ble_eq_true rfl) (Nat.le_of_ble_eq_true rfl) (Nat.le_of_ble_eq_true rfl) ?_
    rintro x89 M90 ⟨hB91, kp92, kp93, kp94, kp95, kp96, kp97, h98, h99, h100, h101, h102, h103, h104⟩
    have hB105 : BF fQ M M90 := BF.go hB0 hB91
    have kp106 : mI M90 23 = mI M 23 := kp_go rfl kp92
    have kp107 : mI M90 24 = mI M 24 := kp_go rfl kp93
    have kp108 : mI M90 26 = mI M 26 := kp_go rfl kp95
    have kp109 : mI M90 27 = mI M 27 := kp_go rfl kp96
    have kp110 : mI M90 28 = mI M 28 := kp_go rfl kp97
    refine vc_zret dX4_readNumber_13 rfl (by first | decide | omega) (Nat.le_of_ble_eq_true rfl) (Nat.le_of_ble_eq_true rfl) ?_
    exact ⟨_, rfl, hB105, kp106, kp107, kp108, kp109, kp110, by omega, by omega, by omega, by omega, by omega, fun hr => absurd hr (by omega), CRb (e := 1) (q := p) (by omega) h103 h104 (by omega) (by unfold sNum; (repeat' split) <;> first | rfl | (exfalso; omega))⟩

set_option maxRecDepth 4000 in
theorem sfX4_readWordF {l : Launch} {M : Mem} (hB : Box M) (g : Nat → Int) (n p : Int) (hR : RS g n M p) (w : Int) (p0 : 0 ≤ w) (p1 : w ≤ 35) : Call l mdX4_readWord [aR 22, aI w] M (fun q N => ∃ r : Int, q = some (aI r) ∧ BF fQ M N ∧ mI N 23 = mI M 23 ∧ mI N 24 = mI M 24 ∧ mI N 25 = mI M 25 ∧ mI N 26 = mI M 26 ∧ mI N 27 = mI M 27 ∧ mI N 28 = mI M 28 ∧ 0 ≤ r ∧ r ≤ 1 ∧ (0 ≤ mI N 22 9 ∧ mI N 22 12 = mI M 22 12 ∧ mI M 22 9 ≤ mI N 22 9) ∧ mI N 22 13 = mI M 22 13 ∧ mI N 22 14 = mI M 22 14 ∧ TR g n N r (101 + w) p) := by
  have hB0 : BF fQ M M := BF.start hB
  refine Call.of [some (aR 22), some (aI w)] rfl (Nat.le_of_ble_eq_true rfl) rfl ?_
  refine vc_ok (fun hoM hoS hoL => ?_)
  have hr1 : -2147483648 ≤ w ∧ w < 2147483648 := hoL 1 _ rfl
  have ct1 := RS.ct hR
  unfold CT at ct1
  have rg2 := RS.rg hR
  refine vc_aload_n dX4_readWord_0 rfl ?_
  refine vc_getI dX4_readWord_1 flX4_69 (s_22 hB0.1.1) rfl ?_
  refine vc_iconst dX4_readWord_4 rfl ?_
  refine vc_icmp_ne dX4_readWord_5 (fun h3 => ?_) (fun h3 => ?_)
  · refine vc_aload_n dX4_readWord_16 rfl ?_
    refine vc_iconst dX4_readWord_17 rfl ?_
    refine vc_cVI dX4_readWord_18 (sfX4_failedF (M := M) hB0.1  g n p hR 1 ) rfl okX4_failed viX4_failed lkX4_122 (s_22 hB0.1.1) cl_4 rfl (Nat.le_of_ble_eq_true rfl) ⟨rfl, rfl⟩ (Nat.le_of_ble_eq_true rfl) (Nat.le_of_ble_eq_true rfl) (Nat.le_of_ble_eq_true rfl) ?_
    rintro x4 M5 ⟨hB6, kp7, kp8, kp9, kp10, kp11, kp12, h13, h14, h15, h16, h17, h18, h19⟩
    have hB20 : BF fQ M M5 := BF.go hB0 hB6
    have kp21 : mI M5 23 = mI M 23 := kp_go rfl kp7
    have kp22 : mI M5 24 = mI M 24 := kp_go rfl kp8
    have kp23 : mI M5 25 = mI M 25 := kp_go rfl kp9
    have kp24 : mI M5 26 = mI M 26 := kp_go rfl kp10
    have kp25 : mI M5 27 = mI M 27 := kp_go rfl kp11
    have kp26 : mI M5 28 = mI M 28 := kp_go rfl kp12
    refine vc_zret dX4_readWord_21 rfl (by first | decide | omega) (Nat.le_of_ble_eq_true rfl) (Nat.le_of_ble_eq_true rfl) ?_
    exact ⟨_, rfl, hB20, kp21, kp22, kp23, kp24, kp25, kp26, by omega, by omega, by omega, by omega, by omega, Or.inr ⟨by omega, by omega, h18, h19⟩⟩
  · refine vc_aload_n dX4_readWord_8 rfl ?_
    refine vc_getI dX4_readWord_9 flX4_119 (s_22 hB0.1.1) rfl ?_
    refine vc_iload_n dX4_readWord_12 rfl ?_
    refine vc_icmp_eq dX4_readWord_13 (fun h27 => ?_) (fun h27 => ?_)
    · refine vc_aload_n dX4_readWord_22 rfl ?_
      refine vc_cVI dX4_readWord_23 (sfX4_takeTokenF (M := M) hB0.1  g n p hR (by omega)) rfl okX4_takeToken viX4_takeToken lkX4_65 (s_22 hB0.1.1) cl_4 rfl (Nat.le_of_ble_eq_true rfl) ⟨rfl, rfl⟩ (Nat.le_of_ble_eq_true rfl) (Nat.le_of_ble_eq_true rfl) (Nat.le_of_ble_eq_true rfl) ?_
      rintro x28 M29 ⟨hB30, kp31, kp32, kp33, kp34, kp35, kp36, h37, h38, h39, h40, h41, h42⟩
      have hB43 : BF fQ M M29 := BF.go hB0 hB30
      have kp44 : mI M29 23 = mI M 23 := kp_go rfl kp31
      have kp45 : mI M29 24 = mI M 24 := kp_go rfl kp32
      have kp46 : mI M29 25 = mI M 25 := kp_go rfl kp33
      have kp47 : mI M29 26 = mI M 26 := kp_go rfl kp34
      have kp48 : mI M29 27 = mI M 27 := kp_go rfl kp35
      have kp49 : mI M29 28 = mI M 28 := kp_go rfl kp36
      refine vc_zret dX4_readWord_26 rfl (by first | decide | omega) (Nat.le_of_ble_eq_true rfl) (Nat.le_of_ble_eq_true rfl) ?_
      exact ⟨_, rfl, hB43, kp44, kp45, kp46, kp47, kp48, kp49, by omega, by omega, by omega, by omega, by omega, Or.inl ⟨by omega, by omega, h42⟩⟩
    · refine vc_aload_n dX4_readWord_16 rfl ?_
      refine vc_iconst dX4_readWord_17 rfl ?_
      refine vc_cVI dX4_readWord_18 (sfX4_failedF (M := M) hB0.1  g n p hR 1 ) rfl okX4_failed viX4_failed lkX4_122 (s_22 hB0.1.1) cl_4 rfl (Nat.le_of_ble_eq_true rfl) ⟨rfl, rfl⟩ (Nat.le_of_ble_eq_true rfl) (Nat.le_of_ble_eq_true rfl) (Nat.le_of_ble_eq_true rfl) ?_
      rintro x50 M51 ⟨hB52, kp53, kp54, kp55, kp56, kp57, kp58, h59, h60, h61, h62, h63, h64, h65⟩
      have hB66 : BF fQ M M51 := BF.go hB0 hB52
      have kp67 : mI M51 23 = mI M 23 := kp_go rfl kp53
      have kp68 : mI M51 24 = mI M 24 := kp_go rfl kp54
      have kp69 : mI M51 25 = mI M 25 := kp_go rfl kp55
      have kp70 : mI M51 26 = mI M 26 := kp_go rfl kp56
      have kp71 : mI M51 27 = mI M 27 := kp_go rfl kp57
      have kp72 : mI M51 28 = mI M 28 := kp_go rfl kp58
      refine vc_zret dX4_readWord_21 rfl (by first | decide | omega) (Nat.le_of_ble_eq_true rfl) (Nat.le_of_ble_eq_true rfl) ?_
      exact ⟨_, rfl, hB66, kp67, kp68, kp69, kp70, kp71, kp72, by omega, by omega, by omega, by omega, by omega, Or.inr ⟨by omega, by omega, h64, h65⟩⟩

set_option maxRecDepth 4000 in
theorem sfX4_readSignF {l : Launch} {M : Mem} (hB : Box M) (g : Nat → Int) (n p : Int) (hR : RS g n M p) (s : Int) (p0 : 0 ≤ s) (p1 : s ≤ 255) : Call l mdX4_readSign [aR 22, aI s] M (fun q N => ∃ r : Int, q = some (aI r) ∧ BF fQ M N ∧ mI N 23 = mI M 23 ∧ mI N 24 = mI M 24 ∧ mI N 25 = mI M 25 ∧ mI N 26 = mI M 26 ∧ mI N 27 = mI M 27 ∧ mI N 28 = mI M 28 ∧ 0 ≤ r ∧ r ≤ 1 ∧ (0 ≤ mI N 22 9 ∧ mI N 22 12 = mI M 22 12 ∧ mI M 22 9 ≤ mI N 22 9) ∧ mI N 22 13 = mI M 22 13 ∧ mI N 22 14 = mI M 22 14 ∧ TR g n N r (s - 300) p) := by
  have hB0 : BF fQ M M := BF.start hB
  refine Call.of [some (aR 22), some (aI s)] rfl (Nat.le_of_ble_eq_true rfl) rfl ?_
  refine vc_ok (fun hoM hoS hoL => ?_)
  have hr1 : -2147483648 ≤ s ∧ s < 2147483648 := hoL 1 _ rfl
  have ct1 := RS.ct hR
  unfold CT at ct1
  have rg2 := RS.rg hR
  refine vc_aload_n dX4_readSign_0 rfl ?_
  refine vc_iload_n dX4_readSign_1 rfl ?_
  refine vc_cVI dX4_readSign_2 (sfX4_isSignF (M := M) hB0.1  s ) rfl okX4_isSign viX4_isSign lkX4_163 (s_22 hB0.1.1) cl_4 rfl (Nat.le_of_ble_eq_true rfl) ⟨rfl, rfl⟩ (Nat.le_of_ble_eq_true rfl) (Nat.le_of_ble_eq_true rfl) (Nat.le_of_ble_eq_true rfl) ?_
  rintro x3 _ ⟨rfl, h4, h5, h6⟩
  refine vc_if_ne dX4_readSign_5 (fun h7 => ?_) (fun h7 => ?_)
  · refine vc_aload_n dX4_readSign_14 rfl ?_
    refine vc_cVI dX4_readSign_15 (sfX4_takeTokenF (M := M) hB0.1  g n p hR (by omega)) rfl okX4_takeToken viX4_takeToken lkX4_65 (s_22 hB0.1.1) cl_4 rfl (Nat.le_of_ble_eq_true rfl) ⟨rfl, rfl⟩ (Nat.le_of_ble_eq_true rfl) (Nat.le_of_ble_eq_true rfl) (Nat.le_of_ble_eq_true rfl) ?_
    rintro x8 M9 ⟨hB10, kp11, kp12, kp13, kp14, kp15, kp16, h17, h18, h19, h20, h21, h22⟩
    have hB23 : BF fQ M M9 := BF.go hB0 hB10
    have kp24 : mI M9 23 = mI M 23 := kp_go rfl kp11
    have kp25 : mI M9 24 = mI M 24 := kp_go rfl kp12
    have kp26 : mI M9 25 = mI M 25 := kp_go rfl kp13
    have kp27 : mI M9 26 = mI M 26 := kp_go rfl kp14
    have kp28 : mI M9 27 = mI M 27 := kp_go rfl kp15
    have kp29 : mI M9 28 = mI M 28 := kp_go rfl kp16
    refine vc_zret dX4_readSign_18 rfl (by first | decide | omega) (Nat.le_of_ble_eq_true rfl) (Nat.le_of_ble_eq_true rfl) ?_
    exact ⟨_, rfl, hB23, kp24, kp25, kp26, kp27, kp28, kp29, by omega, by omega, by omega, by omega, by omega, Or.inl ⟨by omega, by omega, h22⟩⟩
  · refine vc_aload_n dX4_readSign_8 rfl ?_
    refine vc_iconst dX4_readSign_9 rfl ?_
    refine vc_cVI dX4_readSign_10 (sfX4_failedF (M := M) hB0.1  g n p hR 1 ) rfl okX4_failed viX4_failed lkX4_122 (s_22 hB0.1.1) cl_4 rfl (Nat.le_of_ble_eq_true rfl) ⟨rfl, rfl⟩ (Nat.le_of_ble_eq_true rfl) (Nat.le_of_ble_eq_true rfl) (Nat.le_of_ble_eq_true rfl) ?_
    rintro x30 M31 ⟨hB32, kp33, kp34, kp35, kp36, kp37, kp38, h39, h40, h41, h42, h43, h44, h45⟩
    have hB46 : BF fQ M M31 := BF.go hB0 hB32
    have kp47 : mI M31 23 = mI M 23 := kp_go rfl kp33
    have kp48 : mI M31 24 = mI M 24 := kp_go rfl kp34
    have kp49 : mI M31 25 = mI M 25 := kp_go rfl kp35
    have kp50 : mI M31 26 = mI M 26 := kp_go rfl kp36
    have kp51 : mI M31 27 = mI M 27 := kp_go rfl kp37
    have kp52 : mI M31 28 = mI M 28 := kp_go rfl kp38
    refine vc_zret dX4_readSign_13 rfl (by first | decide | omega) (Nat.le_of_ble_eq_true rfl) (Nat.le_of_ble_eq_true rfl) ?_
    exact ⟨_, rfl, hB46, kp47, kp48, kp49, kp50, kp51, kp52, by omega, by omega, by omega, by omega, by omega, Or.inr ⟨by omega, by omega, h44, h45⟩⟩

set_option maxRecDepth 4000 in
theorem sfX4_readCornerF {l : Launch} {M : Mem} (hB : Box M) (g : Nat → Int) (n p : Int) (hR : RS g n M p) (c : Int) (p0 : 0 ≤ c) (p1 : c ≤ 4) (p2 : mI M 22 13 ≤ 23) : Call l mdX4_readCorner [aR 22, aI c] M (fun q N => ∃ r : Int, q = some (aI r) ∧ BF fQ M N ∧ mI N 23 = mI M 23 ∧ mI N 24 = mI M 24 ∧ mI N 26 = mI M 26 ∧ mI N 27 = mI M 27 ∧ mI N 28 = mI M 28 ∧ 0 ≤ r ∧ r ≤ 1 ∧ (0 ≤ mI N 22 9 ∧ mI N 22 12 = mI M 22 12 ∧ mI M 22 9 ≤ mI N 22 9) ∧ mI N 22 13 = mI M 22 13 ∧ mI N 22 14 = mI M 22 14 ∧ (r = 1 → W25 M N c (tk g n p - 1000)) ∧ CR g n N r (sNum (tk g n) (nx g n) 0 15 p)) := by
  have hB0 : BF fQ M M := BF.start hB
  refine Call.of [some (aR 22), some (aI c)] rfl (Nat.le_of_ble_eq_true rfl) rfl ?_
  have hrg := RS.rg hR
  refine vc_aload_n dX4_readCorner_0 rfl ?_
  refine vc_iload_n dX4_readCorner_1 rfl ?_
  refine vc_iconst dX4_readCorner_2 rfl ?_
  refine vc_bipush dX4_readCorner_3 rfl ?_
  refine vc_cVI dX4_readCorner_5 (sfX4_readNumberF (M := M) hB0.1  g n p hR c 0 15 (by omega) (by omega) (by omega)) rfl okX4_readNumber viX4_readNumber lkX4_144 (s_22 hB0.1.1) cl_4 rfl (Nat.le_of_ble_eq_true rfl) ⟨rfl, rfl⟩ (Nat.le_of_ble_eq_true rfl) (Nat.le_of_ble_eq_true rfl) (Nat.le_of_ble_eq_true rfl) ?_
  rintro x1 M2 ⟨hB3, kp4, kp5, kp6, kp7, kp8, h9, h10, h11, h12, h13, h14, h15⟩
  have hB16 : BF fQ M M2 := BF.go hB0 hB3
  have kp17 : mI M2 23 = mI M 23 := kp_go rfl kp4
  have kp18 : mI M2 24 = mI M 24 := kp_go rfl kp5
  have kp19 : mI M2 26 = mI M 26 := kp_go rfl kp6
  have kp20 : mI M2 27 = mI M 27 := kp_go rfl kp7
  have kp21 : mI M2 28 = mI M 28 := kp_go rfl kp8
  refine vc_zret dX4_readCorner_8 rfl (by first | decide | omega) (Nat.le_of_ble_eq_true rfl) (Nat.le_of_ble_eq_true rfl) ?_
  exact ⟨_, rfl, hB16, kp17, kp18, kp19, kp20, kp21, by omega, by omega, by omega, by omega, by omega, fun hr => h14 (by omega), by exact CR.cast h15 (by omega)⟩

theorem sTok_ok {k x : Int → Int} {t p : Int} (h : (sTok k x t p).1 = 0) : (sTok k x t p).2 = x p := by
  unfold sTok at h ⊢
  by_cases e : k p = t
  · rw [if_pos e]
  · rw [if_neg e] at h
    exact absurd h (by decide : ¬ (1 : Int) = 0)
set_option maxRecDepth 4000 in
theorem sfX4_readFacingF {l : Launch} {M : Mem} (hB : Box M) (g : Nat → Int) (n p : Int) (hR : RS g n M p)  (p0 : mI M 22 13 ≤ 23) : Call l mdX4_readFacing [aR 22] M (fun q N => ∃ r : Int, q = some (aI r) ∧ BF fQ M N ∧ mI N 23 = mI M 23 ∧ mI N 24 = mI M 24 ∧ mI N 26 = mI M 26 ∧ mI N 27 = mI M 27 ∧ mI N 28 = mI M 28 ∧ 0 ≤ r ∧ r ≤ 1 ∧ (0 ≤ mI N 22 9 ∧ mI N 22 12 = mI M 22 12 ∧ mI M 22 9 ≤ mI N 22 9) ∧ mI N 22 13 = mI M 22 13 ∧ mI N 22 14 = mI M 22 14 ∧ (r = 1 → W25 M N 2 (tk g n (nx g n p) - 1000)) ∧ CR g n N r (sFac (tk g n) (nx g n) p)) := by
  have hB0 : BF fQ M M := BF.start hB
  refine Call.of [some (aR 22)] rfl (Nat.le_of_ble_eq_true rfl) rfl ?_
  have hrg := RS.rg hR
  refine vc_aload_n dX4_readFacing_0 rfl ?_
  refine vc_bipush dX4_readFacing_1 rfl ?_
  refine vc_cVI dX4_readFacing_3 (sfX4_readWordF (M := M) hB0.1  g n p hR 17 (by omega) (by omega)) rfl okX4_readWord viX4_readWord lkX4_151 (s_22 hB0.1.1) cl_4 rfl (Nat.le_of_ble_eq_true rfl) ⟨rfl, rfl⟩ (Nat.le_of_ble_eq_true rfl) (Nat.le_of_ble_eq_true rfl) (Nat.le_of_ble_eq_true rfl) ?_
  rintro x1 M2 ⟨hB3, kp4, kp5, kp6, kp7, kp8, kp9, h10, h11, h12, h13, h14, h15⟩
  have hB16 : BF fQ M M2 := BF.go hB0 hB3
  have kp17 : mI M2 23 = mI M 23 := kp_go rfl kp4
  have kp18 : mI M2 24 = mI M 24 := kp_go rfl kp5
  have kp19 : mI M2 26 = mI M 26 := kp_go rfl kp7
  have kp20 : mI M2 27 = mI M 27 := kp_go rfl kp8
  have kp21 : mI M2 28 = mI M 28 := kp_go rfl kp9
  refine vc_if_eq dX4_readFacing_6 (fun h22 => ?_) (fun h22 => ?_)
  · refine vc_iconst dX4_readFacing_23 rfl ?_
    refine vc_zret dX4_readFacing_24 rfl (by first | decide | omega) (Nat.le_of_ble_eq_true rfl) (Nat.le_of_ble_eq_true rfl) ?_
    exact ⟨_, rfl, hB16, kp17, kp18, kp19, kp20, kp21, by omega, by omega, by omega, by omega, by omega, fun hr => absurd hr (by omega), by unfold sFac; exact CR.b_bad h15.cr (by omega) (by omega)⟩
  · have e23 := CR.ok h15.cr (by omega)
    refine vc_aload_n dX4_readFacing_9 rfl ?_
    refine vc_iconst dX4_readFacing_10 rfl ?_
    refine vc_iconst dX4_readFacing_11 rfl ?_
    refine vc_iconst dX4_readFacing_12 rfl ?_
    refine vc_cVI dX4_readFacing_13 (sfX4_readNumberF (M := M2) hB16.1  g n ((sTok (tk g n) (nx g n) (101 + 17) p).2) e23.2 2 0 3 (by omega) (by omega) (by omega)) rfl okX4_readNumber viX4_readNumber lkX4_144 (s_22 hB16.1.1) cl_4 rfl (Nat.le_of_ble_eq_true rfl) ⟨rfl, rfl⟩ (Nat.le_of_ble_eq_true rfl) (Nat.le_of_ble_eq_true rfl) (Nat.le_of_ble_eq_true rfl) ?_
    rintro x24 M25 ⟨hB26, kp27, kp28, kp29, kp30, kp31, h32, h33, h34, h35, h36, h37, h38⟩
    have hB39 : BF fQ M M25 := BF.go hB16 hB26
    have kp40 : mI M25 23 = mI M 23 := kp_go kp17 kp27
    have kp41 : mI M25 24 = mI M 24 := kp_go kp18 kp28
    have kp42 : mI M25 26 = mI M 26 := kp_go kp19 kp29
    have kp43 : mI M25 27 = mI M 27 := kp_go kp20 kp30
    have kp44 : mI M25 28 = mI M 28 := kp_go kp21 kp31
    refine vc_if_eq dX4_readFacing_16 (fun h45 => ?_) (fun h45 => ?_)
    · refine vc_iconst dX4_readFacing_23 rfl ?_
      refine vc_zret dX4_readFacing_24 rfl (by first | decide | omega) (Nat.le_of_ble_eq_true rfl) (Nat.le_of_ble_eq_true rfl) ?_
      exact ⟨_, rfl, hB39, kp40, kp41, kp42, kp43, kp44, by omega, by omega, by omega, by omega, by omega, fun hr => absurd hr (by omega), by unfold sFac; exact CR.b_ok h15.cr (by omega) (CR.cast h38 (by omega))⟩
    · have e46 := CR.ok h38 (by omega)
      refine vc_iconst dX4_readFacing_19 rfl ?_
      refine vc_goto dX4_readFacing_20 ?_
      refine vc_zret dX4_readFacing_24 rfl (by first | decide | omega) (Nat.le_of_ble_eq_true rfl) (Nat.le_of_ble_eq_true rfl) ?_
      have hp2 : (sTok (tk g n) (nx g n) (101 + 17) p).2 = nx g n p := sTok_ok e23.1
      exact ⟨_, rfl, hB39, kp40, kp41, kp42, kp43, kp44, by omega, by omega, by omega, by omega, by omega, fun hr => ⟨fun i hi => by rw [← hp2]; exact ((h37 (by omega)).1 i (by omega)), fun i hi => (((h37 (by omega)).2 i (by omega)).trans (congrFun kp6 i))⟩, by unfold sFac; exact CR.b_ok h15.cr (by omega) (CR.cast h38 (by omega))⟩

set_option maxRecDepth 4000 in
theorem sfX4_readSideToF {l : Launch} {M : Mem} (hB : Box M) (g : Nat → Int) (n p : Int) (hR : RS g n M p) (c : Int) (p0 : 0 ≤ c) (p1 : c ≤ 4) (p2 : mI M 22 13 ≤ 23) : Call l mdX4_readSideTo [aR 22, aI c] M (fun q N => ∃ r : Int, q = some (aI r) ∧ BF fQ M N ∧ mI N 23 = mI M 23 ∧ mI N 24 = mI M 24 ∧ mI N 26 = mI M 26 ∧ mI N 27 = mI M 27 ∧ mI N 28 = mI M 28 ∧ 0 ≤ r ∧ r ≤ 1 ∧ (0 ≤ mI N 22 9 ∧ mI N 22 12 = mI M 22 12 ∧ mI M 22 9 ≤ mI N 22 9) ∧ mI N 22 13 = mI M 22 13 ∧ mI N 22 14 = mI M 22 14 ∧ (r = 1 → W25 M N c (rw1 (tk g n) 13 p)) ∧ CR g n N r (sSide (tk g n) (nx g n) p)) := by
  have hB0 : BF fQ M M := BF.start hB
  refine Call.of [some (aR 22), some (aI c)] rfl (Nat.le_of_ble_eq_true rfl) rfl ?_
  have ct1 := RS.ct hR
  unfold CT at ct1
  have rg2 := RS.rg hR
  refine vc_aload_n dX4_readSideTo_0 rfl ?_
  refine vc_getI dX4_readSideTo_1 flX4_69 (s_22 hB0.1.1) rfl ?_
  refine vc_iconst dX4_readSideTo_4 rfl ?_
  refine vc_icmp_ne dX4_readSideTo_5 (fun h3 => ?_) (fun h3 => ?_)
  · refine vc_aload_n dX4_readSideTo_35 rfl ?_
    refine vc_iconst dX4_readSideTo_36 rfl ?_
    refine vc_cVI dX4_readSideTo_37 (sfX4_failedF (M := M) hB0.1  g n p hR 1 ) rfl okX4_failed viX4_failed lkX4_122 (s_22 hB0.1.1) cl_4 rfl (Nat.le_of_ble_eq_true rfl) ⟨rfl, rfl⟩ (Nat.le_of_ble_eq_true rfl) (Nat.le_of_ble_eq_true rfl) (Nat.le_of_ble_eq_true rfl) ?_
    rintro x4 M5 ⟨hB6, kp7, kp8, kp9, kp10, kp11, kp12, h13, h14, h15, h16, h17, h18, h19⟩
    have hB20 : BF fQ M M5 := BF.go hB0 hB6
    have kp21 : mI M5 23 = mI M 23 := kp_go rfl kp7
    have kp22 : mI M5 24 = mI M 24 := kp_go rfl kp8
    have kp23 : mI M5 26 = mI M 26 := kp_go rfl kp10
    have kp24 : mI M5 27 = mI M 27 := kp_go rfl kp11
    have kp25 : mI M5 28 = mI M 28 := kp_go rfl kp12
    refine vc_zret dX4_readSideTo_40 rfl (by first | decide | omega) (Nat.le_of_ble_eq_true rfl) (Nat.le_of_ble_eq_true rfl) ?_
    exact ⟨_, rfl, hB20, kp21, kp22, kp23, kp24, kp25, by omega, by omega, by omega, by omega, by omega, fun hr => absurd hr (by omega), CRb (e := 1) (q := p) (by omega) h18 h19 (by omega) (by unfold sSide; (repeat' split) <;> first | rfl | (exfalso; omega))⟩
  · refine vc_aload_n dX4_readSideTo_8 rfl ?_
    refine vc_getI dX4_readSideTo_9 flX4_119 (s_22 hB0.1.1) rfl ?_
    refine vc_bipush dX4_readSideTo_12 rfl ?_
    refine vc_icmp_lt dX4_readSideTo_14 (fun h26 => ?_) (fun h26 => ?_)
    · refine vc_aload_n dX4_readSideTo_35 rfl ?_
      refine vc_iconst dX4_readSideTo_36 rfl ?_
      refine vc_cVI dX4_readSideTo_37 (sfX4_failedF (M := M) hB0.1  g n p hR 1 ) rfl okX4_failed viX4_failed lkX4_122 (s_22 hB0.1.1) cl_4 rfl (Nat.le_of_ble_eq_true rfl) ⟨rfl, rfl⟩ (Nat.le_of_ble_eq_true rfl) (Nat.le_of_ble_eq_true rfl) (Nat.le_of_ble_eq_true rfl) ?_
      rintro x27 M28 ⟨hB29, kp30, kp31, kp32, kp33, kp34, kp35, h36, h37, h38, h39, h40, h41, h42⟩
      have hB43 : BF fQ M M28 := BF.go hB0 hB29
      have kp44 : mI M28 23 = mI M 23 := kp_go rfl kp30
      have kp45 : mI M28 24 = mI M 24 := kp_go rfl kp31
      have kp46 : mI M28 26 = mI M 26 := kp_go rfl kp33
      have kp47 : mI M28 27 = mI M 27 := kp_go rfl kp34
      have kp48 : mI M28 28 = mI M 28 := kp_go rfl kp35
      refine vc_zret dX4_readSideTo_40 rfl (by first | decide | omega) (Nat.le_of_ble_eq_true rfl) (Nat.le_of_ble_eq_true rfl) ?_
      exact ⟨_, rfl, hB43, kp44, kp45, kp46, kp47, kp48, by omega, by omega, by omega, by omega, by omega, fun hr => absurd hr (by omega), CRb (e := 1) (q := p) (by omega) h41 h42 (by omega) (by unfold sSide; (repeat' split) <;> first | rfl | (exfalso; omega))⟩
    · refine vc_aload_n dX4_readSideTo_17 rfl ?_
      refine vc_getI dX4_readSideTo_18 flX4_119 (s_22 hB0.1.1) rfl ?_
      refine vc_bipush dX4_readSideTo_21 rfl ?_
      refine vc_icmp_gt dX4_readSideTo_23 (fun h49 => ?_) (fun h49 => ?_)
      · refine vc_aload_n dX4_readSideTo_35 rfl ?_
        refine vc_iconst dX4_readSideTo_36 rfl ?_
        refine vc_cVI dX4_readSideTo_37 (sfX4_failedF (M := M) hB0.1  g n p hR 1 ) rfl okX4_failed viX4_failed lkX4_122 (s_22 hB0.1.1) cl_4 rfl (Nat.le_of_ble_eq_true rfl) ⟨rfl, rfl⟩ (Nat.le_of_ble_eq_true rfl) (Nat.le_of_ble_eq_true rfl) (Nat.le_of_ble_eq_true rfl) ?_
        rintro x50 M51 ⟨hB52, kp53, kp54, kp55, kp56, kp57, kp58, h59, h60, h61, h62, h63, h64, h65⟩
        have hB66 : BF fQ M M51 := BF.go hB0 hB52
        have kp67 : mI M51 23 = mI M 23 := kp_go rfl kp53
        have kp68 : mI M51 24 = mI M 24 := kp_go rfl kp54
        have kp69 : mI M51 26 = mI M 26 := kp_go rfl kp56
        have kp70 : mI M51 27 = mI M 27 := kp_go rfl kp57
        have kp71 : mI M51 28 = mI M 28 := kp_go rfl kp58
        refine vc_zret dX4_readSideTo_40 rfl (by first | decide | omega) (Nat.le_of_ble_eq_true rfl) (Nat.le_of_ble_eq_true rfl) ?_
        exact ⟨_, rfl, hB66, kp67, kp68, kp69, kp70, kp71, by omega, by omega, by omega, by omega, by omega, fun hr => absurd hr (by omega), CRb (e := 1) (q := p) (by omega) h64 h65 (by omega) (by unfold sSide; (repeat' split) <;> first | rfl | (exfalso; omega))⟩
      · refine vc_aload_n dX4_readSideTo_26 rfl ?_
        refine vc_getI dX4_readSideTo_27 flX4_119 (s_22 hB0.1.1) rfl ?_
        refine vc_bipush dX4_readSideTo_30 rfl ?_
        refine vc_icmp_ne dX4_readSideTo_32 (fun h72 => ?_) (fun h72 => ?_)
        · refine vc_aload_n dX4_readSideTo_41 rfl ?_
          refine vc_iload_n dX4_readSideTo_42 rfl ?_
          refine vc_aload_n dX4_readSideTo_43 rfl ?_
          refine vc_getI dX4_readSideTo_44 flX4_119 (s_22 hB0.1.1) rfl ?_
          refine vc_bipush dX4_readSideTo_47 rfl ?_
          refine vc_icmp_ne dX4_readSideTo_49 (fun h73 => ?_) (fun h73 => ?_)
          · refine vc_aload_n dX4_readSideTo_56 rfl ?_
            refine vc_getI dX4_readSideTo_57 flX4_119 (s_22 hB0.1.1) rfl ?_
            refine vc_bipush dX4_readSideTo_60 rfl ?_
            refine vc_isubE dX4_readSideTo_62 (by omega) (by omega) ?_
            refine vc_iconst dX4_readSideTo_63 rfl ?_
            refine vc_iaddE dX4_readSideTo_64 (by omega) (by omega) ?_
            refine vc_cVU dX4_readSideTo_65 (sfX4_keepF (M := M) hB0.1  g n p hR c (((mI M 22 11) - 23) + 1) (by omega) (by omega) (by omega)) rfl okX4_keep viX4_keep lkX4_125 (s_22 hB0.1.1) cl_4 rfl (Nat.le_of_ble_eq_true rfl) ⟨rfl, rfl⟩ (Nat.le_of_ble_eq_true rfl) (Nat.le_of_ble_eq_true rfl) (Nat.le_of_ble_eq_true rfl) ?_
            rintro M74 ⟨hB75, kp76, kp77, kp78, kp79, kp80, h81, h82, h83, h84, h85⟩
            have hB86 : BF fQ M M74 := BF.go hB0 hB75
            have kp87 : mI M74 23 = mI M 23 := kp_go rfl kp76
            have kp88 : mI M74 24 = mI M 24 := kp_go rfl kp77
            have kp89 : mI M74 26 = mI M 26 := kp_go rfl kp78
            have kp90 : mI M74 27 = mI M 27 := kp_go rfl kp79
            have kp91 : mI M74 28 = mI M 28 := kp_go rfl kp80
            refine vc_aload_n dX4_readSideTo_68 rfl ?_
            refine vc_cVI dX4_readSideTo_69 (sfX4_takeTokenF (M := M74) hB86.1  g n p h85 (by omega)) rfl okX4_takeToken viX4_takeToken lkX4_65 (s_22 hB86.1.1) cl_4 rfl (Nat.le_of_ble_eq_true rfl) ⟨rfl, rfl⟩ (Nat.le_of_ble_eq_true rfl) (Nat.le_of_ble_eq_true rfl) (Nat.le_of_ble_eq_true rfl) ?_
            rintro x92 M93 ⟨hB94, kp95, kp96, kp97, kp98, kp99, kp100, h101, h102, h103, h104, h105, h106⟩
            have hB107 : BF fQ M M93 := BF.go hB86 hB94
            have kp108 : mI M93 23 = mI M 23 := kp_go kp87 kp95
            have kp109 : mI M93 24 = mI M 24 := kp_go kp88 kp96
            have kp110 : mI M93 26 = mI M 26 := kp_go kp89 kp98
            have kp111 : mI M93 27 = mI M 27 := kp_go kp90 kp99
            have kp112 : mI M93 28 = mI M 28 := kp_go kp91 kp100
            refine vc_zret dX4_readSideTo_72 rfl (by first | decide | omega) (Nat.le_of_ble_eq_true rfl) (Nat.le_of_ble_eq_true rfl) ?_
            exact ⟨_, rfl, hB107, kp108, kp109, kp110, kp111, kp112, by omega, by omega, by omega, by omega, by omega, fun _ => ⟨fun i hi => ((congrFun kp97 i).trans (h84.1 i (by omega))).trans (by unfold rw1; rw [if_pos rfl]; (repeat' split) <;> omega), fun i hi => ((congrFun kp97 i).trans (h84.2 i (by omega)))⟩, CRo (q := (nx g n p)) (by omega) h106 (by unfold sSide; (repeat' split) <;> first | rfl | (exfalso; omega))⟩
          · refine vc_iconst dX4_readSideTo_52 rfl ?_
            refine vc_goto dX4_readSideTo_53 ?_
            refine vc_cVU dX4_readSideTo_65 (sfX4_keepF (M := M) hB0.1  g n p hR c 3 (by omega) (by omega) (by omega)) rfl okX4_keep viX4_keep lkX4_125 (s_22 hB0.1.1) cl_4 rfl (Nat.le_of_ble_eq_true rfl) ⟨rfl, rfl⟩ (Nat.le_of_ble_eq_true rfl) (Nat.le_of_ble_eq_true rfl) (Nat.le_of_ble_eq_true rfl) ?_
            rintro M113 ⟨hB114, kp115, kp116, kp117, kp118, kp119, h120, h121, h122, h123, h124⟩
            have hB125 : BF fQ M M113 := BF.go hB0 hB114
            have kp126 : mI M113 23 = mI M 23 := kp_go rfl kp115
            have kp127 : mI M113 24 = mI M 24 := kp_go rfl kp116
            have kp128 : mI M113 26 = mI M 26 := kp_go rfl kp117
            have kp129 : mI M113 27 = mI M 27 := kp_go rfl kp118
            have kp130 : mI M113 28 = mI M 28 := kp_go rfl kp119
            refine vc_aload_n dX4_readSideTo_68 rfl ?_
            refine vc_cVI dX4_readSideTo_69 (sfX4_takeTokenF (M := M113) hB125.1  g n p h124 (by omega)) rfl okX4_takeToken viX4_takeToken lkX4_65 (s_22 hB125.1.1) cl_4 rfl (Nat.le_of_ble_eq_true rfl) ⟨rfl, rfl⟩ (Nat.le_of_ble_eq_true rfl) (Nat.le_of_ble_eq_true rfl) (Nat.le_of_ble_eq_true rfl) ?_
            rintro x131 M132 ⟨hB133, kp134, kp135, kp136, kp137, kp138, kp139, h140, h141, h142, h143, h144, h145⟩
            have hB146 : BF fQ M M132 := BF.go hB125 hB133
            have kp147 : mI M132 23 = mI M 23 := kp_go kp126 kp134
            have kp148 : mI M132 24 = mI M 24 := kp_go kp127 kp135
            have kp149 : mI M132 26 = mI M 26 := kp_go kp128 kp137
            have kp150 : mI M132 27 = mI M 27 := kp_go kp129 kp138
            have kp151 : mI M132 28 = mI M 28 := kp_go kp130 kp139
            refine vc_zret dX4_readSideTo_72 rfl (by first | decide | omega) (Nat.le_of_ble_eq_true rfl) (Nat.le_of_ble_eq_true rfl) ?_
            exact ⟨_, rfl, hB146, kp147, kp148, kp149, kp150, kp151, by omega, by omega, by omega, by omega, by omega, fun _ => ⟨fun i hi => ((congrFun kp136 i).trans (h123.1 i (by omega))).trans (by unfold rw1; rw [if_pos rfl]; (repeat' split) <;> omega), fun i hi => ((congrFun kp136 i).trans (h123.2 i (by omega)))⟩, CRo (q := (nx g n p)) (by omega) h145 (by unfold sSide; (repeat' split) <;> first | rfl | (exfalso; omega))⟩
        · refine vc_aload_n dX4_readSideTo_35 rfl ?_
          refine vc_iconst dX4_readSideTo_36 rfl ?_
          refine vc_cVI dX4_readSideTo_37 (sfX4_failedF (M := M) hB0.1  g n p hR 1 ) rfl okX4_failed viX4_failed lkX4_122 (s_22 hB0.1.1) cl_4 rfl (Nat.le_of_ble_eq_true rfl) ⟨rfl, rfl⟩ (Nat.le_of_ble_eq_true rfl) (Nat.le_of_ble_eq_true rfl) (Nat.le_of_ble_eq_true rfl) ?_
          rintro x152 M153 ⟨hB154, kp155, kp156, kp157, kp158, kp159, kp160, h161, h162, h163, h164, h165, h166, h167⟩
          have hB168 : BF fQ M M153 := BF.go hB0 hB154
          have kp169 : mI M153 23 = mI M 23 := kp_go rfl kp155
          have kp170 : mI M153 24 = mI M 24 := kp_go rfl kp156
          have kp171 : mI M153 26 = mI M 26 := kp_go rfl kp158
          have kp172 : mI M153 27 = mI M 27 := kp_go rfl kp159
          have kp173 : mI M153 28 = mI M 28 := kp_go rfl kp160
          refine vc_zret dX4_readSideTo_40 rfl (by first | decide | omega) (Nat.le_of_ble_eq_true rfl) (Nat.le_of_ble_eq_true rfl) ?_
          exact ⟨_, rfl, hB168, kp169, kp170, kp171, kp172, kp173, by omega, by omega, by omega, by omega, by omega, fun hr => absurd hr (by omega), CRb (e := 1) (q := p) (by omega) h166 h167 (by omega) (by unfold sSide; (repeat' split) <;> first | rfl | (exfalso; omega))⟩

theorem sOn_ok {k x : Int → Int} {p : Int} (h : (sOn k x p).1 = 0) : (sOn k x p).2 = x p ∧ 124 ≤ k p ∧ k p ≤ 126 := by
  unfold sOn at h ⊢
  by_cases e : 124 ≤ k p ∧ k p ≤ 126
  · rw [if_pos e]; exact ⟨rfl, e⟩
  · rw [if_neg e] at h
    exact absurd h (by decide : ¬ (1 : Int) = 0)
/-- a turn that can be read: where it ends, that it is a turn -/
theorem sTurn_ok {k x : Int → Int} {i p : Int} (h : (sTurn k x i p).1 = 0) : (sTurn k x i p).2 = tnS k x p ∧ isTu (tvS k x p) ∧ i < 6 := by
  unfold sTurn at h ⊢
  unfold tnS tvS
  by_cases e : k p = 119
  · rw [if_pos e] at h ⊢
    rw [if_pos e, if_pos e]
    by_cases e2 : 6 ≤ i
    · rw [if_pos e2] at h
      exact absurd h (by decide : ¬ (7 : Int) = 0)
    · rw [if_neg e2] at h ⊢
      by_cases e3 : (sNum k x 1 5 (x p)).1 = 0
      · rw [sBind_ok e3] at h ⊢
        obtain ⟨a, b, c, d⟩ := sNum_ok e3
        rw [a] at h ⊢
        obtain ⟨a2, b2, c2⟩ := sOn_ok h
        refine ⟨a2, ?_, by omega⟩
        unfold isTu
        omega
      · rw [sBind_bad e3] at h
        exact absurd h e3
  · rw [if_neg e] at h ⊢
    rw [if_neg e, if_neg e]
    by_cases e2 : k p < 1000
    · rw [if_pos e2] at h
      exact absurd h (by decide : ¬ (1 : Int) = 0)
    · rw [if_neg e2] at h ⊢
      by_cases e3 : k p - 1000 < 1 ∨ 4 < k p - 1000
      · rw [if_pos e3] at h
        exact absurd h (by decide : ¬ (2 : Int) = 0)
      · rw [if_neg e3] at h ⊢
        by_cases e4 : 6 ≤ i
        · rw [if_pos e4] at h
          exact absurd h (by decide : ¬ (7 : Int) = 0)
        · rw [if_neg e4] at h ⊢
          obtain ⟨a2, b2, c2⟩ := sOn_ok h
          refine ⟨a2, ?_, by omega⟩
          unfold isTu
          omega
set_option maxRecDepth 4000 in
theorem sfX4_readTurnF {l : Launch} {M : Mem} (hB : Box M) (g : Nat → Int) (n p : Int) (hR : RS g n M p) (i : Int) (p0 : mI M 22 13 ≤ 23) : Call l mdX4_readTurn [aR 22, aI i] M (fun q N => ∃ r : Int, q = some (aI r) ∧ BF fQ M N ∧ mI N 23 = mI M 23 ∧ mI N 24 = mI M 24 ∧ mI N 26 = mI M 26 ∧ mI N 27 = mI M 27 ∧ mI N 28 = mI M 28 ∧ (0 ≤ mI N 22 9 ∧ mI N 22 12 = mI M 22 12 ∧ mI M 22 9 ≤ mI N 22 9) ∧ mI N 22 13 = mI M 22 13 ∧ mI N 22 14 = mI M 22 14 ∧ (r ≠ -1 → r = tvS (tk g n) (nx g n) p ∧ T25 M N) ∧ CN g n N r (sTurn (tk g n) (nx g n) i p)) := by
  have hB0 : BF fQ M M := BF.start hB
  refine Call.of [some (aR 22), some (aI i), none, none, none] rfl (Nat.le_of_ble_eq_true rfl) rfl ?_
  refine vc_ok (fun hoM hoS hoL => ?_)
  have hr1 : -2147483648 ≤ i ∧ i < 2147483648 := hoL 1 _ rfl
  have ct1 := RS.ct hR
  unfold CT at ct1
  have rg2 := RS.rg hR
  refine vc_aload_n dX4_readTurn_0 rfl ?_
  refine vc_getI dX4_readTurn_1 flX4_69 (s_22 hB0.1.1) rfl ?_
  refine vc_iconst dX4_readTurn_4 rfl ?_
  refine vc_icmp_ne dX4_readTurn_5 (fun h3 => ?_) (fun h3 => ?_)
  · refine vc_iconst dX4_readTurn_21 rfl ?_
    refine vc_istore_n dX4_readTurn_22 (by decide) rfl (show _ = [some (aR 22), some (aI i), some (aI 0), none, none] from rfl) ?_
    refine vc_iload_n dX4_readTurn_23 rfl ?_
    refine vc_if_ne dX4_readTurn_24 (fun h4 => by exfalso; omega) (fun h4 => ?_)
    refine vc_aload_n dX4_readTurn_27 rfl ?_
    refine vc_getI dX4_readTurn_28 flX4_69 (s_22 hB0.1.1) rfl ?_
    refine vc_iconst dX4_readTurn_31 rfl ?_
    refine vc_icmp_eq dX4_readTurn_32 (fun h5 => ?_) (fun h5 => ?_)
    · refine vc_iload_n dX4_readTurn_43 rfl ?_
      refine vc_if_ne dX4_readTurn_44 (fun h6 => by exfalso; omega) (fun h6 => ?_)
      refine vc_aload_n dX4_readTurn_47 rfl ?_
      refine vc_getI dX4_readTurn_48 flX4_119 (s_22 hB0.1.1) rfl ?_
      refine vc_iconst dX4_readTurn_51 rfl ?_
      refine vc_icmp_lt dX4_readTurn_52 (fun h7 => ?_) (fun h7 => ?_)
      · refine vc_aload_n dX4_readTurn_63 rfl ?_
        refine vc_iconst dX4_readTurn_64 rfl ?_
        refine vc_cVI dX4_readTurn_65 (sfX4_failedF (M := M) hB0.1  g n p hR 2 ) rfl okX4_failed viX4_failed lkX4_122 (s_22 hB0.1.1) cl_4 rfl (Nat.le_of_ble_eq_true rfl) ⟨rfl, rfl⟩ (Nat.le_of_ble_eq_true rfl) (Nat.le_of_ble_eq_true rfl) (Nat.le_of_ble_eq_true rfl) ?_
        rintro x8 M9 ⟨hB10, kp11, kp12, kp13, kp14, kp15, kp16, h17, h18, h19, h20, h21, h22, h23⟩
        have hB24 : BF fQ M M9 := BF.go hB0 hB10
        have kp25 : mI M9 23 = mI M 23 := kp_go rfl kp11
        have kp26 : mI M9 24 = mI M 24 := kp_go rfl kp12
        have kp27 : mI M9 26 = mI M 26 := kp_go rfl kp14
        have kp28 : mI M9 27 = mI M 27 := kp_go rfl kp15
        have kp29 : mI M9 28 = mI M 28 := kp_go rfl kp16
        refine vc_pop dX4_readTurn_68 rfl ?_
        refine vc_iconst dX4_readTurn_69 rfl ?_
        refine vc_iret dX4_readTurn_70 rfl (Nat.le_of_ble_eq_true rfl) (Nat.le_of_ble_eq_true rfl) ?_
        exact ⟨_, rfl, hB24, kp25, kp26, kp27, kp28, kp29, by omega, by omega, by omega, fun hr => absurd rfl hr, CNb (e := 2) (q := p) (by omega) h22 h23 (by omega) (by unfold sTurn; rw [if_neg (by omega), if_neg (by omega), if_pos (by omega)])⟩
      · refine vc_aload_n dX4_readTurn_55 rfl ?_
        refine vc_getI dX4_readTurn_56 flX4_119 (s_22 hB0.1.1) rfl ?_
        refine vc_iconst dX4_readTurn_59 rfl ?_
        refine vc_icmp_le dX4_readTurn_60 (fun h30 => ?_) (fun h30 => ?_)
        · refine vc_iload_n dX4_readTurn_71 rfl ?_
          refine vc_bipush dX4_readTurn_72 rfl ?_
          refine vc_icmp_lt dX4_readTurn_74 (fun h31 => ?_) (fun h31 => ?_)
          · refine vc_iload_n dX4_readTurn_86 rfl ?_
            refine vc_if_eq dX4_readTurn_87 (fun h32 => ?_) (fun h32 => by exfalso; omega)
            refine vc_aload_n dX4_readTurn_95 rfl ?_
            refine vc_getI dX4_readTurn_96 flX4_119 (s_22 hB0.1.1) rfl ?_
            refine vc_nameI (fun x33 ex33 => ?_)
            refine vc_istore_n dX4_readTurn_99 (by decide) rfl (show _ = [some (aR 22), some (aI i), some (aI 0), some (aI x33), none] from rfl) ?_
            refine vc_aload_n dX4_readTurn_100 rfl ?_
            refine vc_iconst dX4_readTurn_101 rfl ?_
            refine vc_iconst dX4_readTurn_102 rfl ?_
            refine vc_iconst dX4_readTurn_103 rfl ?_
            refine vc_cVI dX4_readTurn_104 (sfX4_readNumberF (M := M) hB0.1  g n p hR 3 1 5 (by omega) (by omega) (by omega)) rfl okX4_readNumber viX4_readNumber lkX4_144 (s_22 hB0.1.1) cl_4 rfl (Nat.le_of_ble_eq_true rfl) ⟨rfl, rfl⟩ (Nat.le_of_ble_eq_true rfl) (Nat.le_of_ble_eq_true rfl) (Nat.le_of_ble_eq_true rfl) ?_
            rintro x34 M35 ⟨hB36, kp37, kp38, kp39, kp40, kp41, h42, h43, h44, h45, h46, h47, h48⟩
            have hB49 : BF fQ M M35 := BF.go hB0 hB36
            have kp50 : mI M35 23 = mI M 23 := kp_go rfl kp37
            have kp51 : mI M35 24 = mI M 24 := kp_go rfl kp38
            have kp52 : mI M35 26 = mI M 26 := kp_go rfl kp39
            have kp53 : mI M35 27 = mI M 27 := kp_go rfl kp40
            have kp54 : mI M35 28 = mI M 28 := kp_go rfl kp41
            refine vc_if_ne dX4_readTurn_107 (fun h55 => ?_) (fun h55 => ?_)
            · have e56 := CR.ok h48 (by omega)
              have hn57 := sNum_ok e56.1
              have hR58 : RS g n M35 (nx g n p) := by
                have q := e56.2
                rw [hn57.1] at q
                exact q
              have ct59 := RS.ct hR58
              unfold CT at ct59
              have rg60 := RS.rg hR58
              refine vc_aload_n dX4_readTurn_112 rfl ?_
              refine vc_getI dX4_readTurn_113 flX4_69 (s_22 hB49.1.1) rfl ?_
              refine vc_iconst dX4_readTurn_116 rfl ?_
              refine vc_icmp_ne dX4_readTurn_117 (fun h61 => ?_) (fun h61 => ?_)
              · refine vc_aload_n dX4_readTurn_138 rfl ?_
                refine vc_iconst dX4_readTurn_139 rfl ?_
                refine vc_cVI dX4_readTurn_140 (sfX4_failedF (M := M35) hB49.1  g n (nx g n p) hR58 1 ) rfl okX4_failed viX4_failed lkX4_122 (s_22 hB49.1.1) cl_4 rfl (Nat.le_of_ble_eq_true rfl) ⟨rfl, rfl⟩ (Nat.le_of_ble_eq_true rfl) (Nat.le_of_ble_eq_true rfl) (Nat.le_of_ble_eq_true rfl) ?_
                rintro x62 M63 ⟨hB64, kp65, kp66, kp67, kp68, kp69, kp70, h71, h72, h73, h74, h75, h76, h77⟩
                have hB78 : BF fQ M M63 := BF.go hB49 hB64
                have kp79 : mI M63 23 = mI M 23 := kp_go kp50 kp65
                have kp80 : mI M63 24 = mI M 24 := kp_go kp51 kp66
                have kp81 : mI M63 26 = mI M 26 := kp_go kp52 kp68
                have kp82 : mI M63 27 = mI M 27 := kp_go kp53 kp69
                have kp83 : mI M63 28 = mI M 28 := kp_go kp54 kp70
                refine vc_pop dX4_readTurn_143 rfl ?_
                refine vc_iconst dX4_readTurn_144 rfl ?_
                refine vc_iret dX4_readTurn_145 rfl (Nat.le_of_ble_eq_true rfl) (Nat.le_of_ble_eq_true rfl) ?_
                exact ⟨_, rfl, hB78, kp79, kp80, kp81, kp82, kp83, by omega, by omega, by omega, fun hr => absurd rfl hr, CNb (e := 1) (q := (nx g n p)) (by omega) h76 h77 (by omega) (by unfold sTurn; rw [if_neg (by omega), if_neg (by omega), if_neg (by omega), if_neg (by omega)]; unfold sOn; rw [if_neg (by omega)])⟩
              · refine vc_aload_n dX4_readTurn_120 rfl ?_
                refine vc_getI dX4_readTurn_121 flX4_119 (s_22 hB49.1.1) rfl ?_
                refine vc_bipush dX4_readTurn_124 rfl ?_
                refine vc_icmp_lt dX4_readTurn_126 (fun h84 => ?_) (fun h84 => ?_)
                · refine vc_aload_n dX4_readTurn_138 rfl ?_
                  refine vc_iconst dX4_readTurn_139 rfl ?_
                  refine vc_cVI dX4_readTurn_140 (sfX4_failedF (M := M35) hB49.1  g n (nx g n p) hR58 1 ) rfl okX4_failed viX4_failed lkX4_122 (s_22 hB49.1.1) cl_4 rfl (Nat.le_of_ble_eq_true rfl) ⟨rfl, rfl⟩ (Nat.le_of_ble_eq_true rfl) (Nat.le_of_ble_eq_true rfl) (Nat.le_of_ble_eq_true rfl) ?_
                  rintro x85 M86 ⟨hB87, kp88, kp89, kp90, kp91, kp92, kp93, h94, h95, h96, h97, h98, h99, h100⟩
                  have hB101 : BF fQ M M86 := BF.go hB49 hB87
                  have kp102 : mI M86 23 = mI M 23 := kp_go kp50 kp88
                  have kp103 : mI M86 24 = mI M 24 := kp_go kp51 kp89
                  have kp104 : mI M86 26 = mI M 26 := kp_go kp52 kp91
                  have kp105 : mI M86 27 = mI M 27 := kp_go kp53 kp92
                  have kp106 : mI M86 28 = mI M 28 := kp_go kp54 kp93
                  refine vc_pop dX4_readTurn_143 rfl ?_
                  refine vc_iconst dX4_readTurn_144 rfl ?_
                  refine vc_iret dX4_readTurn_145 rfl (Nat.le_of_ble_eq_true rfl) (Nat.le_of_ble_eq_true rfl) ?_
                  exact ⟨_, rfl, hB101, kp102, kp103, kp104, kp105, kp106, by omega, by omega, by omega, fun hr => absurd rfl hr, CNb (e := 1) (q := (nx g n p)) (by omega) h99 h100 (by omega) (by unfold sTurn; rw [if_neg (by omega), if_neg (by omega), if_neg (by omega), if_neg (by omega)]; unfold sOn; rw [if_neg (by omega)])⟩
                · refine vc_aload_n dX4_readTurn_129 rfl ?_
                  refine vc_getI dX4_readTurn_130 flX4_119 (s_22 hB49.1.1) rfl ?_
                  refine vc_bipush dX4_readTurn_133 rfl ?_
                  refine vc_icmp_le dX4_readTurn_135 (fun h107 => ?_) (fun h107 => ?_)
                  · refine vc_bipush dX4_readTurn_146 rfl ?_
                    refine vc_aload_n dX4_readTurn_148 rfl ?_
                    refine vc_getI dX4_readTurn_149 flX4_119 (s_22 hB49.1.1) rfl ?_
                    refine vc_bipush dX4_readTurn_152 rfl ?_
                    refine vc_isubE dX4_readTurn_154 (by omega) (by omega) ?_
                    refine vc_iconst dX4_readTurn_155 rfl ?_
                    refine vc_iaddE dX4_readTurn_156 (by omega) (by omega) ?_
                    refine vc_imulE dX4_readTurn_157 (by omega) (by omega) ?_
                    refine vc_iload_n dX4_readTurn_158 rfl ?_
                    refine vc_if_eq dX4_readTurn_159 (fun h108 => ?_) (fun h108 => by exfalso; omega)
                    refine vc_iconst dX4_readTurn_167 rfl ?_
                    refine vc_iaddE dX4_readTurn_168 (by omega) (by omega) ?_
                    refine vc_iload_n dX4_readTurn_169 rfl ?_
                    refine vc_iaddE dX4_readTurn_170 (by omega) (by omega) ?_
                    refine vc_nameI (fun x109 ex109 => ?_)
                    refine vc_istore dX4_readTurn_171 (by decide) rfl (show _ = [some (aR 22), some (aI i), some (aI 0), some (aI x33), some (aI x109)] from rfl) ?_
                    refine vc_aload_n dX4_readTurn_173 rfl ?_
                    refine vc_cVI dX4_readTurn_174 (sfX4_takeTokenF (M := M35) hB49.1  g n (nx g n p) hR58 (by omega)) rfl okX4_takeToken viX4_takeToken lkX4_65 (s_22 hB49.1.1) cl_4 rfl (Nat.le_of_ble_eq_true rfl) ⟨rfl, rfl⟩ (Nat.le_of_ble_eq_true rfl) (Nat.le_of_ble_eq_true rfl) (Nat.le_of_ble_eq_true rfl) ?_
                    rintro x110 M111 ⟨hB112, kp113, kp114, kp115, kp116, kp117, kp118, h119, h120, h121, h122, h123, h124⟩
                    have hB125 : BF fQ M M111 := BF.go hB49 hB112
                    have kp126 : mI M111 23 = mI M 23 := kp_go kp50 kp113
                    have kp127 : mI M111 24 = mI M 24 := kp_go kp51 kp114
                    have kp128 : mI M111 26 = mI M 26 := kp_go kp52 kp116
                    have kp129 : mI M111 27 = mI M 27 := kp_go kp53 kp117
                    have kp130 : mI M111 28 = mI M 28 := kp_go kp54 kp118
                    refine vc_pop dX4_readTurn_177 rfl ?_
                    refine vc_iload dX4_readTurn_178 rfl ?_
                    refine vc_iret dX4_readTurn_180 rfl (Nat.le_of_ble_eq_true rfl) (Nat.le_of_ble_eq_true rfl) ?_
                    exact ⟨_, rfl, hB125, kp126, kp127, kp128, kp129, kp130, by omega, by omega, by omega, fun _ => ⟨by unfold tvS; first | (rw [if_pos (by omega)]; omega) | (rw [if_neg (by omega)]; omega), fun i hi => ((congrFun kp115 i).trans ((h47 (by omega)).2 i (by omega)))⟩, CNo (q := (nx g n (nx g n p))) (by omega) h124 (by unfold sTurn; rw [if_neg (by omega), if_neg (by omega), if_neg (by omega), if_neg (by omega)]; unfold sOn; rw [if_pos (by omega)])⟩
                  · refine vc_aload_n dX4_readTurn_138 rfl ?_
                    refine vc_iconst dX4_readTurn_139 rfl ?_
                    refine vc_cVI dX4_readTurn_140 (sfX4_failedF (M := M35) hB49.1  g n (nx g n p) hR58 1 ) rfl okX4_failed viX4_failed lkX4_122 (s_22 hB49.1.1) cl_4 rfl (Nat.le_of_ble_eq_true rfl) ⟨rfl, rfl⟩ (Nat.le_of_ble_eq_true rfl) (Nat.le_of_ble_eq_true rfl) (Nat.le_of_ble_eq_true rfl) ?_
                    rintro x131 M132 ⟨hB133, kp134, kp135, kp136, kp137, kp138, kp139, h140, h141, h142, h143, h144, h145, h146⟩
                    have hB147 : BF fQ M M132 := BF.go hB49 hB133
                    have kp148 : mI M132 23 = mI M 23 := kp_go kp50 kp134
                    have kp149 : mI M132 24 = mI M 24 := kp_go kp51 kp135
                    have kp150 : mI M132 26 = mI M 26 := kp_go kp52 kp137
                    have kp151 : mI M132 27 = mI M 27 := kp_go kp53 kp138
                    have kp152 : mI M132 28 = mI M 28 := kp_go kp54 kp139
                    refine vc_pop dX4_readTurn_143 rfl ?_
                    refine vc_iconst dX4_readTurn_144 rfl ?_
                    refine vc_iret dX4_readTurn_145 rfl (Nat.le_of_ble_eq_true rfl) (Nat.le_of_ble_eq_true rfl) ?_
                    exact ⟨_, rfl, hB147, kp148, kp149, kp150, kp151, kp152, by omega, by omega, by omega, fun hr => absurd rfl hr, CNb (e := 1) (q := (nx g n p)) (by omega) h145 h146 (by omega) (by unfold sTurn; rw [if_neg (by omega), if_neg (by omega), if_neg (by omega), if_neg (by omega)]; unfold sOn; rw [if_neg (by omega)])⟩
            · refine vc_iconst dX4_readTurn_110 rfl ?_
              refine vc_iret dX4_readTurn_111 rfl (Nat.le_of_ble_eq_true rfl) (Nat.le_of_ble_eq_true rfl) ?_
              exact ⟨_, rfl, hB49, kp50, kp51, kp52, kp53, kp54, by omega, by omega, by omega, fun hr => absurd rfl hr, (by exfalso; have q := (CR.bad h48 (by omega)).1; unfold sNum at q; rw [if_neg (by omega), if_neg (by omega)] at q; exact q rfl)⟩
          · refine vc_aload_n dX4_readTurn_77 rfl ?_
            refine vc_bipush dX4_readTurn_78 rfl ?_
            refine vc_cVI dX4_readTurn_80 (sfX4_failedF (M := M) hB0.1  g n p hR 7 ) rfl okX4_failed viX4_failed lkX4_122 (s_22 hB0.1.1) cl_4 rfl (Nat.le_of_ble_eq_true rfl) ⟨rfl, rfl⟩ (Nat.le_of_ble_eq_true rfl) (Nat.le_of_ble_eq_true rfl) (Nat.le_of_ble_eq_true rfl) ?_
            rintro x153 M154 ⟨hB155, kp156, kp157, kp158, kp159, kp160, kp161, h162, h163, h164, h165, h166, h167, h168⟩
            have hB169 : BF fQ M M154 := BF.go hB0 hB155
            have kp170 : mI M154 23 = mI M 23 := kp_go rfl kp156
            have kp171 : mI M154 24 = mI M 24 := kp_go rfl kp157
            have kp172 : mI M154 26 = mI M 26 := kp_go rfl kp159
            have kp173 : mI M154 27 = mI M 27 := kp_go rfl kp160
            have kp174 : mI M154 28 = mI M 28 := kp_go rfl kp161
            refine vc_pop dX4_readTurn_83 rfl ?_
            refine vc_iconst dX4_readTurn_84 rfl ?_
            refine vc_iret dX4_readTurn_85 rfl (Nat.le_of_ble_eq_true rfl) (Nat.le_of_ble_eq_true rfl) ?_
            exact ⟨_, rfl, hB169, kp170, kp171, kp172, kp173, kp174, by omega, by omega, by omega, fun hr => absurd rfl hr, CNb (e := 7) (q := p) (by omega) h167 h168 (by omega) (by unfold sTurn; rw [if_neg (by omega), if_neg (by omega), if_neg (by omega), if_pos (by omega)])⟩
        · refine vc_aload_n dX4_readTurn_63 rfl ?_
          refine vc_iconst dX4_readTurn_64 rfl ?_
          refine vc_cVI dX4_readTurn_65 (sfX4_failedF (M := M) hB0.1  g n p hR 2 ) rfl okX4_failed viX4_failed lkX4_122 (s_22 hB0.1.1) cl_4 rfl (Nat.le_of_ble_eq_true rfl) ⟨rfl, rfl⟩ (Nat.le_of_ble_eq_true rfl) (Nat.le_of_ble_eq_true rfl) (Nat.le_of_ble_eq_true rfl) ?_
          rintro x175 M176 ⟨hB177, kp178, kp179, kp180, kp181, kp182, kp183, h184, h185, h186, h187, h188, h189, h190⟩
          have hB191 : BF fQ M M176 := BF.go hB0 hB177
          have kp192 : mI M176 23 = mI M 23 := kp_go rfl kp178
          have kp193 : mI M176 24 = mI M 24 := kp_go rfl kp179
          have kp194 : mI M176 26 = mI M 26 := kp_go rfl kp181
          have kp195 : mI M176 27 = mI M 27 := kp_go rfl kp182
          have kp196 : mI M176 28 = mI M 28 := kp_go rfl kp183
          refine vc_pop dX4_readTurn_68 rfl ?_
          refine vc_iconst dX4_readTurn_69 rfl ?_
          refine vc_iret dX4_readTurn_70 rfl (Nat.le_of_ble_eq_true rfl) (Nat.le_of_ble_eq_true rfl) ?_
          exact ⟨_, rfl, hB191, kp192, kp193, kp194, kp195, kp196, by omega, by omega, by omega, fun hr => absurd rfl hr, CNb (e := 2) (q := p) (by omega) h189 h190 (by omega) (by unfold sTurn; rw [if_neg (by omega), if_neg (by omega), if_pos (by omega)])⟩
    · refine vc_aload_n dX4_readTurn_35 rfl ?_
      refine vc_iconst dX4_readTurn_36 rfl ?_
      refine vc_cVI dX4_readTurn_37 (sfX4_failedF (M := M) hB0.1  g n p hR 1 ) rfl okX4_failed viX4_failed lkX4_122 (s_22 hB0.1.1) cl_4 rfl (Nat.le_of_ble_eq_true rfl) ⟨rfl, rfl⟩ (Nat.le_of_ble_eq_true rfl) (Nat.le_of_ble_eq_true rfl) (Nat.le_of_ble_eq_true rfl) ?_
      rintro x197 M198 ⟨hB199, kp200, kp201, kp202, kp203, kp204, kp205, h206, h207, h208, h209, h210, h211, h212⟩
      have hB213 : BF fQ M M198 := BF.go hB0 hB199
      have kp214 : mI M198 23 = mI M 23 := kp_go rfl kp200
      have kp215 : mI M198 24 = mI M 24 := kp_go rfl kp201
      have kp216 : mI M198 26 = mI M 26 := kp_go rfl kp203
      have kp217 : mI M198 27 = mI M 27 := kp_go rfl kp204
      have kp218 : mI M198 28 = mI M 28 := kp_go rfl kp205
      refine vc_pop dX4_readTurn_40 rfl ?_
      refine vc_iconst dX4_readTurn_41 rfl ?_
      refine vc_iret dX4_readTurn_42 rfl (Nat.le_of_ble_eq_true rfl) (Nat.le_of_ble_eq_true rfl) ?_
      exact ⟨_, rfl, hB213, kp214, kp215, kp216, kp217, kp218, by omega, by omega, by omega, fun hr => absurd rfl hr, CNb (e := 1) (q := p) (by omega) h211 h212 (by omega) (by unfold sTurn; rw [if_neg (by omega), if_pos (by omega)])⟩
  · refine vc_aload_n dX4_readTurn_8 rfl ?_
    refine vc_getI dX4_readTurn_9 flX4_119 (s_22 hB0.1.1) rfl ?_
    refine vc_bipush dX4_readTurn_12 rfl ?_
    refine vc_icmp_ne dX4_readTurn_14 (fun h219 => ?_) (fun h219 => ?_)
    · refine vc_iconst dX4_readTurn_21 rfl ?_
      refine vc_istore_n dX4_readTurn_22 (by decide) rfl (show _ = [some (aR 22), some (aI i), some (aI 0), none, none] from rfl) ?_
      refine vc_iload_n dX4_readTurn_23 rfl ?_
      refine vc_if_ne dX4_readTurn_24 (fun h220 => by exfalso; omega) (fun h220 => ?_)
      refine vc_aload_n dX4_readTurn_27 rfl ?_
      refine vc_getI dX4_readTurn_28 flX4_69 (s_22 hB0.1.1) rfl ?_
      refine vc_iconst dX4_readTurn_31 rfl ?_
      refine vc_icmp_eq dX4_readTurn_32 (fun h221 => by exfalso; omega) (fun h221 => ?_)
      refine vc_aload_n dX4_readTurn_35 rfl ?_
      refine vc_iconst dX4_readTurn_36 rfl ?_
      refine vc_cVI dX4_readTurn_37 (sfX4_failedF (M := M) hB0.1  g n p hR 1 ) rfl okX4_failed viX4_failed lkX4_122 (s_22 hB0.1.1) cl_4 rfl (Nat.le_of_ble_eq_true rfl) ⟨rfl, rfl⟩ (Nat.le_of_ble_eq_true rfl) (Nat.le_of_ble_eq_true rfl) (Nat.le_of_ble_eq_true rfl) ?_
      rintro x222 M223 ⟨hB224, kp225, kp226, kp227, kp228, kp229, kp230, h231, h232, h233, h234, h235, h236, h237⟩
      have hB238 : BF fQ M M223 := BF.go hB0 hB224
      have kp239 : mI M223 23 = mI M 23 := kp_go rfl kp225
      have kp240 : mI M223 24 = mI M 24 := kp_go rfl kp226
      have kp241 : mI M223 26 = mI M 26 := kp_go rfl kp228
      have kp242 : mI M223 27 = mI M 27 := kp_go rfl kp229
      have kp243 : mI M223 28 = mI M 28 := kp_go rfl kp230
      refine vc_pop dX4_readTurn_40 rfl ?_
      refine vc_iconst dX4_readTurn_41 rfl ?_
      refine vc_iret dX4_readTurn_42 rfl (Nat.le_of_ble_eq_true rfl) (Nat.le_of_ble_eq_true rfl) ?_
      exact ⟨_, rfl, hB238, kp239, kp240, kp241, kp242, kp243, by omega, by omega, by omega, fun hr => absurd rfl hr, CNb (e := 1) (q := p) (by omega) h236 h237 (by omega) (by unfold sTurn; rw [if_neg (by omega), if_pos (by omega)])⟩
    · refine vc_iconst dX4_readTurn_17 rfl ?_
      refine vc_goto dX4_readTurn_18 ?_
      refine vc_istore_n dX4_readTurn_22 (by decide) rfl (show _ = [some (aR 22), some (aI i), some (aI 1), none, none] from rfl) ?_
      refine vc_iload_n dX4_readTurn_23 rfl ?_
      refine vc_if_ne dX4_readTurn_24 (fun h244 => ?_) (fun h244 => by exfalso; omega)
      refine vc_iload_n dX4_readTurn_43 rfl ?_
      refine vc_if_ne dX4_readTurn_44 (fun h245 => ?_) (fun h245 => by exfalso; omega)
      refine vc_iload_n dX4_readTurn_71 rfl ?_
      refine vc_bipush dX4_readTurn_72 rfl ?_
      refine vc_icmp_lt dX4_readTurn_74 (fun h246 => ?_) (fun h246 => ?_)
      · refine vc_iload_n dX4_readTurn_86 rfl ?_
        refine vc_if_eq dX4_readTurn_87 (fun h247 => by exfalso; omega) (fun h247 => ?_)
        refine vc_aload_n dX4_readTurn_90 rfl ?_
        refine vc_cVI dX4_readTurn_91 (sfX4_takeTokenF (M := M) hB0.1  g n p hR (by omega)) rfl okX4_takeToken viX4_takeToken lkX4_65 (s_22 hB0.1.1) cl_4 rfl (Nat.le_of_ble_eq_true rfl) ⟨rfl, rfl⟩ (Nat.le_of_ble_eq_true rfl) (Nat.le_of_ble_eq_true rfl) (Nat.le_of_ble_eq_true rfl) ?_
        rintro x248 M249 ⟨hB250, kp251, kp252, kp253, kp254, kp255, kp256, h257, h258, h259, h260, h261, h262⟩
        have hB263 : BF fQ M M249 := BF.go hB0 hB250
        have kp264 : mI M249 23 = mI M 23 := kp_go rfl kp251
        have kp265 : mI M249 24 = mI M 24 := kp_go rfl kp252
        have kp266 : mI M249 26 = mI M 26 := kp_go rfl kp254
        have kp267 : mI M249 27 = mI M 27 := kp_go rfl kp255
        have kp268 : mI M249 28 = mI M 28 := kp_go rfl kp256
        refine vc_pop dX4_readTurn_94 rfl ?_
        have ct269 := RS.ct h262
        unfold CT at ct269
        have rg270 := RS.rg h262
        refine vc_aload_n dX4_readTurn_95 rfl ?_
        refine vc_getI dX4_readTurn_96 flX4_119 (s_22 hB263.1.1) rfl ?_
        refine vc_nameI (fun x271 ex271 => ?_)
        refine vc_istore_n dX4_readTurn_99 (by decide) rfl (show _ = [some (aR 22), some (aI i), some (aI 1), some (aI x271), none] from rfl) ?_
        refine vc_aload_n dX4_readTurn_100 rfl ?_
        refine vc_iconst dX4_readTurn_101 rfl ?_
        refine vc_iconst dX4_readTurn_102 rfl ?_
        refine vc_iconst dX4_readTurn_103 rfl ?_
        refine vc_cVI dX4_readTurn_104 (sfX4_readNumberF (M := M249) hB263.1  g n (nx g n p) h262 3 1 5 (by omega) (by omega) (by omega)) rfl okX4_readNumber viX4_readNumber lkX4_144 (s_22 hB263.1.1) cl_4 rfl (Nat.le_of_ble_eq_true rfl) ⟨rfl, rfl⟩ (Nat.le_of_ble_eq_true rfl) (Nat.le_of_ble_eq_true rfl) (Nat.le_of_ble_eq_true rfl) ?_
        rintro x272 M273 ⟨hB274, kp275, kp276, kp277, kp278, kp279, h280, h281, h282, h283, h284, h285, h286⟩
        have hB287 : BF fQ M M273 := BF.go hB263 hB274
        have kp288 : mI M273 23 = mI M 23 := kp_go kp264 kp275
        have kp289 : mI M273 24 = mI M 24 := kp_go kp265 kp276
        have kp290 : mI M273 26 = mI M 26 := kp_go kp266 kp277
        have kp291 : mI M273 27 = mI M 27 := kp_go kp267 kp278
        have kp292 : mI M273 28 = mI M 28 := kp_go kp268 kp279
        refine vc_if_ne dX4_readTurn_107 (fun h293 => ?_) (fun h293 => ?_)
        · have e294 := CR.ok h286 (by omega)
          have hn295 := sNum_ok e294.1
          have hR296 : RS g n M273 (nx g n (nx g n p)) := by
            have q := e294.2
            rw [hn295.1] at q
            exact q
          have ct297 := RS.ct hR296
          unfold CT at ct297
          have rg298 := RS.rg hR296
          refine vc_aload_n dX4_readTurn_112 rfl ?_
          refine vc_getI dX4_readTurn_113 flX4_69 (s_22 hB287.1.1) rfl ?_
          refine vc_iconst dX4_readTurn_116 rfl ?_
          refine vc_icmp_ne dX4_readTurn_117 (fun h299 => ?_) (fun h299 => ?_)
          · refine vc_aload_n dX4_readTurn_138 rfl ?_
            refine vc_iconst dX4_readTurn_139 rfl ?_
            refine vc_cVI dX4_readTurn_140 (sfX4_failedF (M := M273) hB287.1  g n (nx g n (nx g n p)) hR296 1 ) rfl okX4_failed viX4_failed lkX4_122 (s_22 hB287.1.1) cl_4 rfl (Nat.le_of_ble_eq_true rfl) ⟨rfl, rfl⟩ (Nat.le_of_ble_eq_true rfl) (Nat.le_of_ble_eq_true rfl) (Nat.le_of_ble_eq_true rfl) ?_
            rintro x300 M301 ⟨hB302, kp303, kp304, kp305, kp306, kp307, kp308, h309, h310, h311, h312, h313, h314, h315⟩
            have hB316 : BF fQ M M301 := BF.go hB287 hB302
            have kp317 : mI M301 23 = mI M 23 := kp_go kp288 kp303
            have kp318 : mI M301 24 = mI M 24 := kp_go kp289 kp304
            have kp319 : mI M301 26 = mI M 26 := kp_go kp290 kp306
            have kp320 : mI M301 27 = mI M 27 := kp_go kp291 kp307
            have kp321 : mI M301 28 = mI M 28 := kp_go kp292 kp308
            refine vc_pop dX4_readTurn_143 rfl ?_
            refine vc_iconst dX4_readTurn_144 rfl ?_
            refine vc_iret dX4_readTurn_145 rfl (Nat.le_of_ble_eq_true rfl) (Nat.le_of_ble_eq_true rfl) ?_
            exact ⟨_, rfl, hB316, kp317, kp318, kp319, kp320, kp321, by omega, by omega, by omega, fun hr => absurd rfl hr, CNb (e := 1) (q := (nx g n (nx g n p))) (by omega) h314 h315 (by omega) (by unfold sTurn; rw [if_pos (by omega), if_neg (by omega), sBind_ok e294.1, hn295.1]; unfold sOn; rw [if_neg (by omega)])⟩
          · refine vc_aload_n dX4_readTurn_120 rfl ?_
            refine vc_getI dX4_readTurn_121 flX4_119 (s_22 hB287.1.1) rfl ?_
            refine vc_bipush dX4_readTurn_124 rfl ?_
            refine vc_icmp_lt dX4_readTurn_126 (fun h322 => ?_) (fun h322 => ?_)
            · refine vc_aload_n dX4_readTurn_138 rfl ?_
              refine vc_iconst dX4_readTurn_139 rfl ?_
              refine vc_cVI dX4_readTurn_140 (sfX4_failedF (M := M273) hB287.1  g n (nx g n (nx g n p)) hR296 1 ) rfl okX4_failed viX4_failed lkX4_122 (s_22 hB287.1.1) cl_4 rfl (Nat.le_of_ble_eq_true rfl) ⟨rfl, rfl⟩ (Nat.le_of_ble_eq_true rfl) (Nat.le_of_ble_eq_true rfl) (Nat.le_of_ble_eq_true rfl) ?_
              rintro x323 M324 ⟨hB325, kp326, kp327, kp328, kp329, kp330, kp331, h332, h333, h334, h335, h336, h337, h338⟩
              have hB339 : BF fQ M M324 := BF.go hB287 hB325
              have kp340 : mI M324 23 = mI M 23 := kp_go kp288 kp326
              have kp341 : mI M324 24 = mI M 24 := kp_go kp289 kp327
              have kp342 : mI M324 26 = mI M 26 := kp_go kp290 kp329
              have kp343 : mI M324 27 = mI M 27 := kp_go kp291 kp330
              have kp344 : mI M324 28 = mI M 28 := kp_go kp292 kp331
              refine vc_pop dX4_readTurn_143 rfl ?_
              refine vc_iconst dX4_readTurn_144 rfl ?_
              refine vc_iret dX4_readTurn_145 rfl (Nat.le_of_ble_eq_true rfl) (Nat.le_of_ble_eq_true rfl) ?_
              exact ⟨_, rfl, hB339, kp340, kp341, kp342, kp343, kp344, by omega, by omega, by omega, fun hr => absurd rfl hr, CNb (e := 1) (q := (nx g n (nx g n p))) (by omega) h337 h338 (by omega) (by unfold sTurn; rw [if_pos (by omega), if_neg (by omega), sBind_ok e294.1, hn295.1]; unfold sOn; rw [if_neg (by omega)])⟩
            · refine vc_aload_n dX4_readTurn_129 rfl ?_
              refine vc_getI dX4_readTurn_130 flX4_119 (s_22 hB287.1.1) rfl ?_
              refine vc_bipush dX4_readTurn_133 rfl ?_
              refine vc_icmp_le dX4_readTurn_135 (fun h345 => ?_) (fun h345 => ?_)
              · refine vc_bipush dX4_readTurn_146 rfl ?_
                refine vc_aload_n dX4_readTurn_148 rfl ?_
                refine vc_getI dX4_readTurn_149 flX4_119 (s_22 hB287.1.1) rfl ?_
                refine vc_bipush dX4_readTurn_152 rfl ?_
                refine vc_isubE dX4_readTurn_154 (by omega) (by omega) ?_
                refine vc_iconst dX4_readTurn_155 rfl ?_
                refine vc_iaddE dX4_readTurn_156 (by omega) (by omega) ?_
                refine vc_imulE dX4_readTurn_157 (by omega) (by omega) ?_
                refine vc_iload_n dX4_readTurn_158 rfl ?_
                refine vc_if_eq dX4_readTurn_159 (fun h346 => by exfalso; omega) (fun h346 => ?_)
                refine vc_bipush dX4_readTurn_162 rfl ?_
                refine vc_goto dX4_readTurn_164 ?_
                refine vc_iaddE dX4_readTurn_168 (by omega) (by omega) ?_
                refine vc_iload_n dX4_readTurn_169 rfl ?_
                refine vc_iaddE dX4_readTurn_170 (by omega) (by omega) ?_
                refine vc_nameI (fun x347 ex347 => ?_)
                refine vc_istore dX4_readTurn_171 (by decide) rfl (show _ = [some (aR 22), some (aI i), some (aI 1), some (aI x271), some (aI x347)] from rfl) ?_
                refine vc_aload_n dX4_readTurn_173 rfl ?_
                refine vc_cVI dX4_readTurn_174 (sfX4_takeTokenF (M := M273) hB287.1  g n (nx g n (nx g n p)) hR296 (by omega)) rfl okX4_takeToken viX4_takeToken lkX4_65 (s_22 hB287.1.1) cl_4 rfl (Nat.le_of_ble_eq_true rfl) ⟨rfl, rfl⟩ (Nat.le_of_ble_eq_true rfl) (Nat.le_of_ble_eq_true rfl) (Nat.le_of_ble_eq_true rfl) ?_
                rintro x348 M349 ⟨hB350, kp351, kp352, kp353, kp354, kp355, kp356, h357, h358, h359, h360, h361, h362⟩
                have hB363 : BF fQ M M349 := BF.go hB287 hB350
                have kp364 : mI M349 23 = mI M 23 := kp_go kp288 kp351
                have kp365 : mI M349 24 = mI M 24 := kp_go kp289 kp352
                have kp366 : mI M349 26 = mI M 26 := kp_go kp290 kp354
                have kp367 : mI M349 27 = mI M 27 := kp_go kp291 kp355
                have kp368 : mI M349 28 = mI M 28 := kp_go kp292 kp356
                refine vc_pop dX4_readTurn_177 rfl ?_
                refine vc_iload dX4_readTurn_178 rfl ?_
                refine vc_iret dX4_readTurn_180 rfl (Nat.le_of_ble_eq_true rfl) (Nat.le_of_ble_eq_true rfl) ?_
                exact ⟨_, rfl, hB363, kp364, kp365, kp366, kp367, kp368, by omega, by omega, by omega, fun _ => ⟨by unfold tvS; first | (rw [if_pos (by omega)]; omega) | (rw [if_neg (by omega)]; omega), fun i hi => ((congrFun kp353 i).trans (((h285 (by omega)).2 i (by omega)).trans (congrFun kp253 i)))⟩, CNo (q := (nx g n (nx g n (nx g n p)))) (by omega) h362 (by unfold sTurn; rw [if_pos (by omega), if_neg (by omega), sBind_ok e294.1, hn295.1]; unfold sOn; rw [if_pos (by omega)])⟩
              · refine vc_aload_n dX4_readTurn_138 rfl ?_
                refine vc_iconst dX4_readTurn_139 rfl ?_
                refine vc_cVI dX4_readTurn_140 (sfX4_failedF (M := M273) hB287.1  g n (nx g n (nx g n p)) hR296 1 ) rfl okX4_failed viX4_failed lkX4_122 (s_22 hB287.1.1) cl_4 rfl (Nat.le_of_ble_eq_true rfl) ⟨rfl, rfl⟩ (Nat.le_of_ble_eq_true rfl) (Nat.le_of_ble_eq_true rfl) (Nat.le_of_ble_eq_true rfl) ?_
                rintro x369 M370 ⟨hB371, kp372, kp373, kp374, kp375, kp376, kp377, h378, h379, h380, h381, h382, h383, h384⟩
                have hB385 : BF fQ M M370 := BF.go hB287 hB371
                have kp386 : mI M370 23 = mI M 23 := kp_go kp288 kp372
                have kp387 : mI M370 24 = mI M 24 := kp_go kp289 kp373
                have kp388 : mI M370 26 = mI M 26 := kp_go kp290 kp375
                have kp389 : mI M370 27 = mI M 27 := kp_go kp291 kp376
                have kp390 : mI M370 28 = mI M 28 := kp_go kp292 kp377
                refine vc_pop dX4_readTurn_143 rfl ?_
                refine vc_iconst dX4_readTurn_144 rfl ?_
                refine vc_iret dX4_readTurn_145 rfl (Nat.le_of_ble_eq_true rfl) (Nat.le_of_ble_eq_true rfl) ?_
                exact ⟨_, rfl, hB385, kp386, kp387, kp388, kp389, kp390, by omega, by omega, by omega, fun hr => absurd rfl hr, CNb (e := 1) (q := (nx g n (nx g n p))) (by omega) h383 h384 (by omega) (by unfold sTurn; rw [if_pos (by omega), if_neg (by omega), sBind_ok e294.1, hn295.1]; unfold sOn; rw [if_neg (by omega)])⟩
        · refine vc_iconst dX4_readTurn_110 rfl ?_
          refine vc_iret dX4_readTurn_111 rfl (Nat.le_of_ble_eq_true rfl) (Nat.le_of_ble_eq_true rfl) ?_
          exact ⟨_, rfl, hB287, kp288, kp289, kp290, kp291, kp292, by omega, by omega, by omega, fun hr => absurd rfl hr, CNc (by omega) h286 (by omega) (by unfold sTurn; rw [if_pos (by omega), if_neg (by omega), sBind_bad (CR.bad h286 (by omega)).1])⟩
      · refine vc_aload_n dX4_readTurn_77 rfl ?_
        refine vc_bipush dX4_readTurn_78 rfl ?_
        refine vc_cVI dX4_readTurn_80 (sfX4_failedF (M := M) hB0.1  g n p hR 7 ) rfl okX4_failed viX4_failed lkX4_122 (s_22 hB0.1.1) cl_4 rfl (Nat.le_of_ble_eq_true rfl) ⟨rfl, rfl⟩ (Nat.le_of_ble_eq_true rfl) (Nat.le_of_ble_eq_true rfl) (Nat.le_of_ble_eq_true rfl) ?_
        rintro x391 M392 ⟨hB393, kp394, kp395, kp396, kp397, kp398, kp399, h400, h401, h402, h403, h404, h405, h406⟩
        have hB407 : BF fQ M M392 := BF.go hB0 hB393
        have kp408 : mI M392 23 = mI M 23 := kp_go rfl kp394
        have kp409 : mI M392 24 = mI M 24 := kp_go rfl kp395
        have kp410 : mI M392 26 = mI M 26 := kp_go rfl kp397
        have kp411 : mI M392 27 = mI M 27 := kp_go rfl kp398
        have kp412 : mI M392 28 = mI M 28 := kp_go rfl kp399
        refine vc_pop dX4_readTurn_83 rfl ?_
        refine vc_iconst dX4_readTurn_84 rfl ?_
        refine vc_iret dX4_readTurn_85 rfl (Nat.le_of_ble_eq_true rfl) (Nat.le_of_ble_eq_true rfl) ?_
        exact ⟨_, rfl, hB407, kp408, kp409, kp410, kp411, kp412, by omega, by omega, by omega, fun hr => absurd rfl hr, CNb (e := 7) (q := p) (by omega) h405 h406 (by omega) (by unfold sTurn; rw [if_pos (by omega), if_pos (by omega)])⟩

set_option maxRecDepth 4000 in
theorem sfX4_readTurnsF {l : Launch} {M : Mem} (hB : Box M) (g : Nat → Int) (n p : Int) (hR : RS g n M p)  (p0 : mI M 22 13 ≤ 23) : Call l mdX4_readTurns [aR 22] M (fun q N => ∃ r : Int, q = some (aI r) ∧ BF fQ M N ∧ mI N 23 = mI M 23 ∧ mI N 24 = mI M 24 ∧ mI N 26 = mI M 26 ∧ mI N 27 = mI M 27 ∧ mI N 28 = mI M 28 ∧ 0 ≤ r ∧ r ≤ 1 ∧ (0 ≤ mI N 22 9 ∧ mI N 22 12 = mI M 22 12 ∧ mI M 22 9 ≤ mI N 22 9) ∧ mI N 22 13 = mI M 22 13 ∧ mI N 22 14 = mI M 22 14 ∧ (r = 1 → (∀ i : Nat, (i : Int) = 5 * mI M 22 13 + 3 → mI N 25 i = (trS (tk g n) (nx g n) 7 0 p 0 0).1) ∧ (∀ i : Nat, (i : Int) = 5 * mI M 22 13 + 4 → mI N 25 i = (trS (tk g n) (nx g n) 7 0 p 0 0).2) ∧ ∀ i : Nat, (i : Int) ≠ 5 * mI M 22 13 + 3 → (i : Int) ≠ 5 * mI M 22 13 + 4 → mI N 25 i = mI M 25 i) ∧ CR g n N r (sTurns (tk g n) (nx g n) 7 0 p)) := by
  have hB0 : BF fQ M M := BF.start hB
  refine Call.of [some (aR 22), none, none, none, none] rfl (Nat.le_of_ble_eq_true rfl) rfl ?_
  have hrg := RS.rg hR
  refine vc_iconst dX4_readTurns_0 rfl ?_
  refine vc_istore_n dX4_readTurns_1 (by decide) rfl (show _ = [some (aR 22), some (aI 0), none, none, none] from rfl) ?_
  refine vc_iconst dX4_readTurns_2 rfl ?_
  refine vc_istore_n dX4_readTurns_3 (by decide) rfl (show _ = [some (aR 22), some (aI 0), some (aI 0), none, none] from rfl) ?_
  refine vc_iconst dX4_readTurns_4 rfl ?_
  refine vc_istore_n dX4_readTurns_5 (by decide) rfl (show _ = [some (aR 22), some (aI 0), some (aI 0), some (aI 0), none] from rfl) ?_
  have lp6 : ∀ (n6 : Nat) (Mq6 : Mem) (v1 : Int) (v2 : Int) (v3 : Int), (BF fQ M Mq6) → (mI Mq6 23 = mI M 23) → (mI Mq6 24 = mI M 24) → (mI Mq6 26 = mI M 26) → (mI Mq6 27 = mI M 27) → (mI Mq6 28 = mI M 28) → (0 ≤ v1) → (v1 ≤ 399399399) → (0 ≤ v2) → (v2 ≤ 399399399) → (0 ≤ v3) → (v3 ≤ 6) → (∃ q, RS g n Mq6 q ∧ sTurns (tk g n) (nx g n) 7 0 p = sTurns (tk g n) (nx g n) (7 - v3).toNat v3 q ∧ trS (tk g n) (nx g n) 7 0 p 0 0 = trS (tk g n) (nx g n) (7 - v3).toNat v3 q v1 v2) → (0 ≤ mI Mq6 22 9 ∧ mI Mq6 22 12 = mI M 22 12 ∧ mI M 22 9 ≤ mI Mq6 22 9) → (mI Mq6 22 13 = mI M 22 13) → (mI Mq6 22 14 = mI M 22 14) → (∀ i : Nat, (i : Int) ≠ 5 * mI M 22 13 + 3 → mI Mq6 25 i = mI M 25 i) → ((v3 = 0 ∧ v1 = 0 ∧ v2 = 0) ∨ (v3 = 1 ∧ v1 ≤ 399 ∧ v2 = 0) ∨ (v3 = 2 ∧ v1 ≤ 399399 ∧ v2 = 0) ∨ (v3 = 3 ∧ v2 = 0) ∨ (v3 = 4 ∧ v2 ≤ 399) ∨ (v3 = 5 ∧ v2 ≤ 399399) ∨ v3 = 6) → (7 - v3).toNat < n6 → VC l mdX4_readTurns 6 [some (aR 22), some (aI v1), some (aI v2), some (aI v3), none] [] Mq6 0 0 (fun q N => ∃ r : Int, q = some (aI r) ∧ BF fQ M N ∧ mI N 23 = mI M 23 ∧ mI N 24 = mI M 24 ∧ mI N 26 = mI M 26 ∧ mI N 27 = mI M 27 ∧ mI N 28 = mI M 28 ∧ 0 ≤ r ∧ r ≤ 1 ∧ (0 ≤ mI N 22 9 ∧ mI N 22 12 = mI M 22 12 ∧ mI M 22 9 ≤ mI N 22 9) ∧ mI N 22 13 = mI M 22 13 ∧ mI N 22 14 = mI M 22 14 ∧ (r = 1 → (∀ i : Nat, (i : Int) = 5 * mI M 22 13 + 3 → mI N 25 i = (trS (tk g n) (nx g n) 7 0 p 0 0).1) ∧ (∀ i : Nat, (i : Int) = 5 * mI M 22 13 + 4 → mI N 25 i = (trS (tk g n) (nx g n) 7 0 p 0 0).2) ∧ ∀ i : Nat, (i : Int) ≠ 5 * mI M 22 13 + 3 → (i : Int) ≠ 5 * mI M 22 13 + 4 → mI N 25 i = mI M 25 i) ∧ CR g n N r (sTurns (tk g n) (nx g n) 7 0 p)) := by
    intro n6
    induction n6 with
    | zero => intro Mq6 v1 v2 v3 hQ6 kp6_23 kp6_24 kp6_26 kp6_27 kp6_28 g6_1a g6_1b g6_2a g6_2b g6_3a g6_3b g6i0 g6i1 g6i2 g6i3 g6i4 g6i5 hm6; exact absurd hm6 (Nat.not_lt_zero _)
    | succ n6 ih6 =>
      intro Mq6 v1 v2 v3 hQ6 kp6_23 kp6_24 kp6_26 kp6_27 kp6_28 g6_1a g6_1b g6_2a g6_2b g6_3a g6_3b g6i0 g6i1 g6i2 g6i3 g6i4 g6i5 hm6
      obtain ⟨q6, hR6, hS6, hV6⟩ := g6i0
      refine vc_iload_n dX4_readTurns_6 rfl ?_
      refine vc_bipush dX4_readTurns_7 rfl ?_
      refine vc_icmp_gt dX4_readTurns_9 (fun h1 => by exfalso; omega) (fun h1 => ?_)
      refine vc_aload_n dX4_readTurns_12 rfl ?_
      refine vc_iload_n dX4_readTurns_13 rfl ?_
      refine vc_cVI dX4_readTurns_14 (sfX4_readTurnF (M := Mq6) hQ6.1  g n q6 hR6 v3 (by omega)) rfl okX4_readTurn viX4_readTurn lkX4_166 (s_22 hQ6.1.1) cl_4 rfl (Nat.le_of_ble_eq_true rfl) ⟨rfl, rfl⟩ (Nat.le_of_ble_eq_true rfl) (Nat.le_of_ble_eq_true rfl) (Nat.le_of_ble_eq_true rfl) ?_
      rintro x2 M3 ⟨hB4, kp5, kp6, kp7, kp8, kp9, h10, h11, h12, h13, h14⟩
      have hB15 : BF fQ M M3 := BF.go hQ6 hB4
      have kp16 : mI M3 23 = mI M 23 := kp_go kp6_23 kp5
      have kp17 : mI M3 24 = mI M 24 := kp_go kp6_24 kp6
      have kp18 : mI M3 26 = mI M 26 := kp_go kp6_26 kp7
      have kp19 : mI M3 27 = mI M 27 := kp_go kp6_27 kp8
      have kp20 : mI M3 28 = mI M 28 := kp_go kp6_28 kp9
      refine vc_istore dX4_readTurns_17 (by decide) rfl (show _ = [some (aR 22), some (aI v1), some (aI v2), some (aI v3), some (aI x2)] from rfl) ?_
      refine vc_iload dX4_readTurns_19 rfl ?_
      refine vc_iconst dX4_readTurns_21 rfl ?_
      refine vc_icmp_ne dX4_readTurns_22 (fun h21 => ?_) (fun h21 => ?_)
      · have e22 := CN.ok h14 (by omega)
        have ct23 := RS.ct e22.2
        unfold CT at ct23
        have rg24 := RS.rg e22.2
        have hto := sTurn_ok e22.1
        have htv := (h13 (by omega)).1
        have htb := isTu_b hto.2.1
        rw [← htv] at htb
        have h625 : ∀ i : Nat, (i : Int) ≠ 5 * mI M 22 13 + 3 → mI M3 25 i = mI M 25 i := fun i hi => ((h13 (by omega)).2 i (by omega)).trans (g6i4 i hi)
        refine vc_iload_n dX4_readTurns_27 rfl ?_
        refine vc_iconst dX4_readTurns_28 rfl ?_
        refine vc_icmp_ge dX4_readTurns_29 (fun h25 => ?_) (fun h25 => ?_)
        · refine vc_iload_n dX4_readTurns_43 rfl ?_
          refine vc_istore_n dX4_readTurns_44 (by decide) rfl (show _ = [some (aR 22), some (aI v1), some (aI v2), some (aI v3), some (aI x2)] from rfl) ?_
          refine vc_iload_n dX4_readTurns_45 rfl ?_
          refine vc_iconst dX4_readTurns_46 rfl ?_
          refine vc_icmp_ge dX4_readTurns_47 (fun h26 => ?_) (fun h26 => by exfalso; omega)
          refine vc_sipush dX4_readTurns_54 rfl ?_
          refine vc_iload_n dX4_readTurns_57 rfl ?_
          refine vc_imulE dX4_readTurns_58 (by omega) (by omega) ?_
          refine vc_iload dX4_readTurns_59 rfl ?_
          refine vc_iaddE dX4_readTurns_61 (by omega) (by omega) ?_
          refine vc_nameI (fun x27 ex27 => ?_)
          refine vc_istore_n dX4_readTurns_62 (by decide) rfl (show _ = [some (aR 22), some (aI v1), some (aI x27), some (aI v3), some (aI x2)] from rfl) ?_
          have hfm : ((v1 : Int), (x27 : Int)) = (if v3 < 3 then 1000 * v1 + tvS (tk g n) (nx g n) q6 else v1, if v3 < 3 then 0 else 1000 * v2 + tvS (tk g n) (nx g n) q6) := by rw [← htv]; first | (rw [if_pos (by omega), if_pos (by omega)]; refine Prod.ext ?_ ?_; (show _ = _; omega); (show _ = _; omega)) | (rw [if_neg (by omega), if_neg (by omega)]; refine Prod.ext ?_ ?_; (show _ = _; omega); (show _ = _; omega))
          refine vc_aload_n dX4_readTurns_63 rfl ?_
          refine vc_bipush dX4_readTurns_64 rfl ?_
          refine vc_cVI dX4_readTurns_66 (sfX4_isSignF (M := M3) hB15.1  44 ) rfl okX4_isSign viX4_isSign lkX4_163 (s_22 hB15.1.1) cl_4 rfl (Nat.le_of_ble_eq_true rfl) ⟨rfl, rfl⟩ (Nat.le_of_ble_eq_true rfl) (Nat.le_of_ble_eq_true rfl) (Nat.le_of_ble_eq_true rfl) ?_
          rintro x28 _ ⟨rfl, h29, h30, h31⟩
          refine vc_if_ne dX4_readTurns_69 (fun h32 => ?_) (fun h32 => ?_)
          · refine vc_aload_n dX4_readTurns_75 rfl ?_
            refine vc_cVI dX4_readTurns_76 (sfX4_takeTokenF (M := M3) hB15.1  g n ((sTurn (tk g n) (nx g n) v3 q6).2) e22.2 (by omega)) rfl okX4_takeToken viX4_takeToken lkX4_65 (s_22 hB15.1.1) cl_4 rfl (Nat.le_of_ble_eq_true rfl) ⟨rfl, rfl⟩ (Nat.le_of_ble_eq_true rfl) (Nat.le_of_ble_eq_true rfl) (Nat.le_of_ble_eq_true rfl) ?_
            rintro x33 M34 ⟨hB35, kp36, kp37, kp38, kp39, kp40, kp41, h42, h43, h44, h45, h46, h47⟩
            have hB48 : BF fQ M M34 := BF.go hB15 hB35
            have kp49 : mI M34 23 = mI M 23 := kp_go kp16 kp36
            have kp50 : mI M34 24 = mI M 24 := kp_go kp17 kp37
            have kp51 : mI M34 26 = mI M 26 := kp_go kp18 kp39
            have kp52 : mI M34 27 = mI M 27 := kp_go kp19 kp40
            have kp53 : mI M34 28 = mI M 28 := kp_go kp20 kp41
            refine vc_pop dX4_readTurns_79 rfl ?_
            have hnext : ∃ q, RS g n M34 q ∧ sTurns (tk g n) (nx g n) 7 0 p = sTurns (tk g n) (nx g n) (7 - (v3 + 1)).toNat (v3 + 1) q ∧ trS (tk g n) (nx g n) 7 0 p 0 0 = trS (tk g n) (nx g n) (7 - (v3 + 1)).toNat (v3 + 1) q (v1) (x27) := ⟨_, h47, by
              rw [hS6, show (7 - v3).toNat = (7 - (v3 + 1)).toNat + 1 by omega]
              exact turns_go e22.1 (by omega), by
              have z1 := congrArg Prod.fst hfm
              have z2 := congrArg Prod.snd hfm
              rw [hV6, show (7 - v3).toNat = (7 - (v3 + 1)).toNat + 1 by omega, tr_go (by rw [← hto.1]; omega), ← hto.1]
              rw [show (if v3 < 3 then 1000 * v1 + tvS (tk g n) (nx g n) q6 else v1) = _ from z1.symm, show (if v3 < 3 then 0 else 1000 * v2 + tvS (tk g n) (nx g n) q6) = _ from z2.symm]⟩
            have h625b : ∀ i : Nat, (i : Int) ≠ 5 * mI M 22 13 + 3 → mI M34 25 i = mI M 25 i := fun i hi => (congrFun kp38 i).trans (h625 i hi)
            refine vc_iincE dX4_readTurns_80 rfl (by omega) (by omega) (by decide) rfl (show _ = [some (aR 22), some (aI v1), some (aI x27), some (aI (v3 + 1)), some (aI x2)] from rfl) ?_
            refine vc_goto dX4_readTurns_83 ?_
            refine vc_less [some (aR 22), some (aI v1), some (aI x27), some (aI (v3 + 1)), none] (lessL_keep (lessL_keep (lessL_keep (lessL_keep (lessL_drop (lessL_nil)))))) ?_
            exact ih6 M34 v1 x27 (v3 + 1) hB48 kp49 kp50 kp51 kp52 kp53 (by omega) (by omega) (by omega) (by omega) (by omega) (by omega) (by first | exact ⟨p, hR, rfl, rfl⟩ | exact hnext) (by omega) (by omega) (by omega) (by first | (intro i hi; rfl) | exact h625b) (by omega) (by omega)
          · have hfin : sTurns (tk g n) (nx g n) 7 0 p = (0, (sTurn (tk g n) (nx g n) v3 q6).2) := hS6.trans (turns_end e22.1 (by omega) (by omega))
            have hpk : trS (tk g n) (nx g n) 7 0 p 0 0 = ((v1 : Int), (x27 : Int)) := by rw [hV6, show (7 - v3).toNat = (7 - (v3 + 1)).toNat + 1 by omega, tr_end (by rw [← hto.1]; omega), hfm]
            refine vc_goto dX4_readTurns_72 ?_
            refine vc_aload_n dX4_readTurns_86 rfl ?_
            refine vc_iconst dX4_readTurns_87 rfl ?_
            refine vc_iload_n dX4_readTurns_88 rfl ?_
            refine vc_cVU dX4_readTurns_89 (sfX4_keepF (M := M3) hB15.1  g n ((sTurn (tk g n) (nx g n) v3 q6).2) e22.2 3 v1 (by omega) (by omega) (by omega)) rfl okX4_keep viX4_keep lkX4_125 (s_22 hB15.1.1) cl_4 rfl (Nat.le_of_ble_eq_true rfl) ⟨rfl, rfl⟩ (Nat.le_of_ble_eq_true rfl) (Nat.le_of_ble_eq_true rfl) (Nat.le_of_ble_eq_true rfl) ?_
            rintro M54 ⟨hB55, kp56, kp57, kp58, kp59, kp60, h61, h62, h63, h64, h65⟩
            have hB66 : BF fQ M M54 := BF.go hB15 hB55
            have kp67 : mI M54 23 = mI M 23 := kp_go kp16 kp56
            have kp68 : mI M54 24 = mI M 24 := kp_go kp17 kp57
            have kp69 : mI M54 26 = mI M 26 := kp_go kp18 kp58
            have kp70 : mI M54 27 = mI M 27 := kp_go kp19 kp59
            have kp71 : mI M54 28 = mI M 28 := kp_go kp20 kp60
            refine vc_aload_n dX4_readTurns_92 rfl ?_
            refine vc_iconst dX4_readTurns_93 rfl ?_
            refine vc_iload_n dX4_readTurns_94 rfl ?_
            refine vc_cVU dX4_readTurns_95 (sfX4_keepF (M := M54) hB66.1  g n ((sTurn (tk g n) (nx g n) v3 q6).2) h65 4 x27 (by omega) (by omega) (by omega)) rfl okX4_keep viX4_keep lkX4_125 (s_22 hB66.1.1) cl_4 rfl (Nat.le_of_ble_eq_true rfl) ⟨rfl, rfl⟩ (Nat.le_of_ble_eq_true rfl) (Nat.le_of_ble_eq_true rfl) (Nat.le_of_ble_eq_true rfl) ?_
            rintro M72 ⟨hB73, kp74, kp75, kp76, kp77, kp78, h79, h80, h81, h82, h83⟩
            have hB84 : BF fQ M M72 := BF.go hB66 hB73
            have kp85 : mI M72 23 = mI M 23 := kp_go kp67 kp74
            have kp86 : mI M72 24 = mI M 24 := kp_go kp68 kp75
            have kp87 : mI M72 26 = mI M 26 := kp_go kp69 kp76
            have kp88 : mI M72 27 = mI M 27 := kp_go kp70 kp77
            have kp89 : mI M72 28 = mI M 28 := kp_go kp71 kp78
            refine vc_iconst dX4_readTurns_98 rfl ?_
            refine vc_zret dX4_readTurns_99 rfl (by first | decide | omega) (Nat.le_of_ble_eq_true rfl) (Nat.le_of_ble_eq_true rfl) ?_
            exact ⟨_, rfl, hB84, kp85, kp86, kp87, kp88, kp89, by omega, by omega, by omega, by omega, by omega, fun _ => ⟨fun i hi => ((h82.2 i (by omega)).trans (h64.1 i (by omega))).trans (congrArg Prod.fst hpk).symm, fun i hi => (h82.1 i (by omega)).trans (congrArg Prod.snd hpk).symm, fun i i1 i2 => ((h82.2 i (by omega)).trans (h64.2 i (by omega))).trans (h625 i (by omega))⟩, CRo (by omega) h83 hfin⟩
        · refine vc_sipush dX4_readTurns_32 rfl ?_
          refine vc_iload_n dX4_readTurns_35 rfl ?_
          refine vc_imulE dX4_readTurns_36 (by omega) (by omega) ?_
          refine vc_iload dX4_readTurns_37 rfl ?_
          refine vc_iaddE dX4_readTurns_39 (by omega) (by omega) ?_
          refine vc_goto dX4_readTurns_40 ?_
          refine vc_nameI (fun x90 ex90 => ?_)
          refine vc_istore_n dX4_readTurns_44 (by decide) rfl (show _ = [some (aR 22), some (aI x90), some (aI v2), some (aI v3), some (aI x2)] from rfl) ?_
          refine vc_iload_n dX4_readTurns_45 rfl ?_
          refine vc_iconst dX4_readTurns_46 rfl ?_
          refine vc_icmp_ge dX4_readTurns_47 (fun h91 => by exfalso; omega) (fun h91 => ?_)
          refine vc_iconst dX4_readTurns_50 rfl ?_
          refine vc_goto dX4_readTurns_51 ?_
          refine vc_istore_n dX4_readTurns_62 (by decide) rfl (show _ = [some (aR 22), some (aI x90), some (aI 0), some (aI v3), some (aI x2)] from rfl) ?_
          have hfm : ((x90 : Int), (0 : Int)) = (if v3 < 3 then 1000 * v1 + tvS (tk g n) (nx g n) q6 else v1, if v3 < 3 then 0 else 1000 * v2 + tvS (tk g n) (nx g n) q6) := by rw [← htv]; first | (rw [if_pos (by omega), if_pos (by omega)]; refine Prod.ext ?_ ?_; (show _ = _; omega); (show _ = _; omega)) | (rw [if_neg (by omega), if_neg (by omega)]; refine Prod.ext ?_ ?_; (show _ = _; omega); (show _ = _; omega))
          refine vc_aload_n dX4_readTurns_63 rfl ?_
          refine vc_bipush dX4_readTurns_64 rfl ?_
          refine vc_cVI dX4_readTurns_66 (sfX4_isSignF (M := M3) hB15.1  44 ) rfl okX4_isSign viX4_isSign lkX4_163 (s_22 hB15.1.1) cl_4 rfl (Nat.le_of_ble_eq_true rfl) ⟨rfl, rfl⟩ (Nat.le_of_ble_eq_true rfl) (Nat.le_of_ble_eq_true rfl) (Nat.le_of_ble_eq_true rfl) ?_
          rintro x92 _ ⟨rfl, h93, h94, h95⟩
          refine vc_if_ne dX4_readTurns_69 (fun h96 => ?_) (fun h96 => ?_)
          · refine vc_aload_n dX4_readTurns_75 rfl ?_
            refine vc_cVI dX4_readTurns_76 (sfX4_takeTokenF (M := M3) hB15.1  g n ((sTurn (tk g n) (nx g n) v3 q6).2) e22.2 (by omega)) rfl okX4_takeToken viX4_takeToken lkX4_65 (s_22 hB15.1.1) cl_4 rfl (Nat.le_of_ble_eq_true rfl) ⟨rfl, rfl⟩ (Nat.le_of_ble_eq_true rfl) (Nat.le_of_ble_eq_true rfl) (Nat.le_of_ble_eq_true rfl) ?_
            rintro x97 M98 ⟨hB99, kp100, kp101, kp102, kp103, kp104, kp105, h106, h107, h108, h109, h110, h111⟩
            have hB112 : BF fQ M M98 := BF.go hB15 hB99
            have kp113 : mI M98 23 = mI M 23 := kp_go kp16 kp100
            have kp114 : mI M98 24 = mI M 24 := kp_go kp17 kp101
            have kp115 : mI M98 26 = mI M 26 := kp_go kp18 kp103
            have kp116 : mI M98 27 = mI M 27 := kp_go kp19 kp104
            have kp117 : mI M98 28 = mI M 28 := kp_go kp20 kp105
            refine vc_pop dX4_readTurns_79 rfl ?_
            have hnext : ∃ q, RS g n M98 q ∧ sTurns (tk g n) (nx g n) 7 0 p = sTurns (tk g n) (nx g n) (7 - (v3 + 1)).toNat (v3 + 1) q ∧ trS (tk g n) (nx g n) 7 0 p 0 0 = trS (tk g n) (nx g n) (7 - (v3 + 1)).toNat (v3 + 1) q (x90) (0) := ⟨_, h111, by
              rw [hS6, show (7 - v3).toNat = (7 - (v3 + 1)).toNat + 1 by omega]
              exact turns_go e22.1 (by omega), by
              have z1 := congrArg Prod.fst hfm
              have z2 := congrArg Prod.snd hfm
              rw [hV6, show (7 - v3).toNat = (7 - (v3 + 1)).toNat + 1 by omega, tr_go (by rw [← hto.1]; omega), ← hto.1]
              rw [show (if v3 < 3 then 1000 * v1 + tvS (tk g n) (nx g n) q6 else v1) = _ from z1.symm, show (if v3 < 3 then 0 else 1000 * v2 + tvS (tk g n) (nx g n) q6) = _ from z2.symm]⟩
            have h625b : ∀ i : Nat, (i : Int) ≠ 5 * mI M 22 13 + 3 → mI M98 25 i = mI M 25 i := fun i hi => (congrFun kp102 i).trans (h625 i hi)
            refine vc_iincE dX4_readTurns_80 rfl (by omega) (by omega) (by decide) rfl (show _ = [some (aR 22), some (aI x90), some (aI 0), some (aI (v3 + 1)), some (aI x2)] from rfl) ?_
            refine vc_goto dX4_readTurns_83 ?_
            refine vc_less [some (aR 22), some (aI x90), some (aI 0), some (aI (v3 + 1)), none] (lessL_keep (lessL_keep (lessL_keep (lessL_keep (lessL_drop (lessL_nil)))))) ?_
            exact ih6 M98 x90 0 (v3 + 1) hB112 kp113 kp114 kp115 kp116 kp117 (by omega) (by omega) (by omega) (by omega) (by omega) (by omega) (by first | exact ⟨p, hR, rfl, rfl⟩ | exact hnext) (by omega) (by omega) (by omega) (by first | (intro i hi; rfl) | exact h625b) (by omega) (by omega)
          · have hfin : sTurns (tk g n) (nx g n) 7 0 p = (0, (sTurn (tk g n) (nx g n) v3 q6).2) := hS6.trans (turns_end e22.1 (by omega) (by omega))
            have hpk : trS (tk g n) (nx g n) 7 0 p 0 0 = ((x90 : Int), (0 : Int)) := by rw [hV6, show (7 - v3).toNat = (7 - (v3 + 1)).toNat + 1 by omega, tr_end (by rw [← hto.1]; omega), hfm]
            refine vc_goto dX4_readTurns_72 ?_
            refine vc_aload_n dX4_readTurns_86 rfl ?_
            refine vc_iconst dX4_readTurns_87 rfl ?_
            refine vc_iload_n dX4_readTurns_88 rfl ?_
            refine vc_cVU dX4_readTurns_89 (sfX4_keepF (M := M3) hB15.1  g n ((sTurn (tk g n) (nx g n) v3 q6).2) e22.2 3 x90 (by omega) (by omega) (by omega)) rfl okX4_keep viX4_keep lkX4_125 (s_22 hB15.1.1) cl_4 rfl (Nat.le_of_ble_eq_true rfl) ⟨rfl, rfl⟩ (Nat.le_of_ble_eq_true rfl) (Nat.le_of_ble_eq_true rfl) (Nat.le_of_ble_eq_true rfl) ?_
            rintro M118 ⟨hB119, kp120, kp121, kp122, kp123, kp124, h125, h126, h127, h128, h129⟩
            have hB130 : BF fQ M M118 := BF.go hB15 hB119
            have kp131 : mI M118 23 = mI M 23 := kp_go kp16 kp120
            have kp132 : mI M118 24 = mI M 24 := kp_go kp17 kp121
            have kp133 : mI M118 26 = mI M 26 := kp_go kp18 kp122
            have kp134 : mI M118 27 = mI M 27 := kp_go kp19 kp123
            have kp135 : mI M118 28 = mI M 28 := kp_go kp20 kp124
            refine vc_aload_n dX4_readTurns_92 rfl ?_
            refine vc_iconst dX4_readTurns_93 rfl ?_
            refine vc_iload_n dX4_readTurns_94 rfl ?_
            refine vc_cVU dX4_readTurns_95 (sfX4_keepF (M := M118) hB130.1  g n ((sTurn (tk g n) (nx g n) v3 q6).2) h129 4 0 (by omega) (by omega) (by omega)) rfl okX4_keep viX4_keep lkX4_125 (s_22 hB130.1.1) cl_4 rfl (Nat.le_of_ble_eq_true rfl) ⟨rfl, rfl⟩ (Nat.le_of_ble_eq_true rfl) (Nat.le_of_ble_eq_true rfl) (Nat.le_of_ble_eq_true rfl) ?_
            rintro M136 ⟨hB137, kp138, kp139, kp140, kp141, kp142, h143, h144, h145, h146, h147⟩
            have hB148 : BF fQ M M136 := BF.go hB130 hB137
            have kp149 : mI M136 23 = mI M 23 := kp_go kp131 kp138
            have kp150 : mI M136 24 = mI M 24 := kp_go kp132 kp139
            have kp151 : mI M136 26 = mI M 26 := kp_go kp133 kp140
            have kp152 : mI M136 27 = mI M 27 := kp_go kp134 kp141
            have kp153 : mI M136 28 = mI M 28 := kp_go kp135 kp142
            refine vc_iconst dX4_readTurns_98 rfl ?_
            refine vc_zret dX4_readTurns_99 rfl (by first | decide | omega) (Nat.le_of_ble_eq_true rfl) (Nat.le_of_ble_eq_true rfl) ?_
            exact ⟨_, rfl, hB148, kp149, kp150, kp151, kp152, kp153, by omega, by omega, by omega, by omega, by omega, fun _ => ⟨fun i hi => ((h146.2 i (by omega)).trans (h128.1 i (by omega))).trans (congrArg Prod.fst hpk).symm, fun i hi => (h146.1 i (by omega)).trans (congrArg Prod.snd hpk).symm, fun i i1 i2 => ((h146.2 i (by omega)).trans (h128.2 i (by omega))).trans (h625 i (by omega))⟩, CRo (by omega) h147 hfin⟩
      · refine vc_iconst dX4_readTurns_25 rfl ?_
        refine vc_zret dX4_readTurns_26 rfl (by first | decide | omega) (Nat.le_of_ble_eq_true rfl) (Nat.le_of_ble_eq_true rfl) ?_
        exact ⟨_, rfl, hB15, kp16, kp17, kp18, kp19, kp20, by omega, by omega, by omega, by omega, by omega, fun hr => absurd hr (by omega), (by rw [hS6]; exact turns_bad h14 (by omega) (by omega))⟩
  exact lp6 _ M 0 0 0 hB0 rfl rfl rfl rfl rfl (by omega) (by omega) (by omega) (by omega) (by omega) (by omega) (by first | exact ⟨p, hR, rfl, rfl⟩ | exact hnext) (by omega) (by omega) (by omega) (by first | (intro i hi; rfl) | exact h625b) (by omega) (Nat.lt_succ_self _)

theorem sFac_ok {k x : Int → Int} {p : Int} (h : (sFac k x p).1 = 0) : (sFac k x p).2 = x (x p) := by
  unfold sFac at h ⊢
  by_cases e : (sTok k x 118 p).1 = 0
  · rw [sBind_ok e] at h ⊢
    rw [(sNum_ok h).1, sTok_ok e]
  · rw [sBind_bad e] at h
    exact absurd h e
set_option maxRecDepth 4000 in
theorem sfX4_readDeedF {l : Launch} {M : Mem} (hB : Box M) (g : Nat → Int) (n p : Int) (hR : RS g n M p) (w : Int) (p0 : 5 ≤ w) (p1 : w ≤ 15) (p2 : mI M 22 13 ≤ 23) : Call l mdX4_readDeed [aR 22, aI w] M (fun q N => ∃ r : Int, q = some (aI r) ∧ BF fQ M N ∧ mI N 23 = mI M 23 ∧ mI N 24 = mI M 24 ∧ mI N 26 = mI M 26 ∧ mI N 27 = mI M 27 ∧ mI N 28 = mI M 28 ∧ 0 ≤ r ∧ r ≤ 1 ∧ (0 ≤ mI N 22 9 ∧ mI N 22 12 = mI M 22 12 ∧ mI M 22 9 ≤ mI N 22 9) ∧ mI N 22 13 = mI M 22 13 ∧ mI N 22 14 = mI M 22 14 ∧ (r = 1 → D25 (tk g n) (nx g n) M N w p) ∧ CR g n N r (sBody (tk g n) (nx g n) w p)) := by
  have hB0 : BF fQ M M := BF.start hB
  refine Call.of [some (aR 22), some (aI w)] rfl (Nat.le_of_ble_eq_true rfl) rfl ?_
  have hrg := RS.rg hR
  refine vc_iload_n dX4_readDeed_0 rfl ?_
  by_cases h1 : w = 5
  · refine vc_tabIn dX4_readDeed_1 5 56 h1 rfl rfl rfl ?_
    refine vc_aload_n dX4_readDeed_56 rfl ?_
    refine vc_iconst dX4_readDeed_57 rfl ?_
    refine vc_iconst dX4_readDeed_58 rfl ?_
    refine vc_iconst dX4_readDeed_59 rfl ?_
    refine vc_cVI dX4_readDeed_60 (sfX4_readNumberF (M := M) hB0.1  g n p hR 1 0 5 (by omega) (by omega) (by omega)) rfl okX4_readNumber viX4_readNumber lkX4_144 (s_22 hB0.1.1) cl_4 rfl (Nat.le_of_ble_eq_true rfl) ⟨rfl, rfl⟩ (Nat.le_of_ble_eq_true rfl) (Nat.le_of_ble_eq_true rfl) (Nat.le_of_ble_eq_true rfl) ?_
    rintro x2 M3 ⟨hB4, kp5, kp6, kp7, kp8, kp9, h10, h11, h12, h13, h14, h15, h16⟩
    have hB17 : BF fQ M M3 := BF.go hB0 hB4
    have kp18 : mI M3 23 = mI M 23 := kp_go rfl kp5
    have kp19 : mI M3 24 = mI M 24 := kp_go rfl kp6
    have kp20 : mI M3 26 = mI M 26 := kp_go rfl kp7
    have kp21 : mI M3 27 = mI M 27 := kp_go rfl kp8
    have kp22 : mI M3 28 = mI M 28 := kp_go rfl kp9
    refine vc_zret dX4_readDeed_63 rfl (by first | decide | omega) (Nat.le_of_ble_eq_true rfl) (Nat.le_of_ble_eq_true rfl) ?_
    exact ⟨_, rfl, hB17, kp18, kp19, kp20, kp21, kp22, by omega, by omega, by omega, by omega, by omega, fun hr => ⟨fun i hi => ((h15 (by omega)).1 i (by omega)).trans (by unfold rw1; rw [if_neg (by omega)]), fun hw => absurd hw (by omega), fun hw => absurd hw (by omega), fun hw => absurd hw (by omega), fun i hi => ((h15 (by omega)).2 i (by omega))⟩, by rw [sB5 (by omega)]; exact CR.cast h16 (by omega)⟩
  by_cases h23 : w = 6
  · refine vc_tabIn dX4_readDeed_1 6 64 h23 rfl rfl rfl ?_
    refine vc_aload_n dX4_readDeed_64 rfl ?_
    refine vc_iconst dX4_readDeed_65 rfl ?_
    refine vc_cVI dX4_readDeed_66 (sfX4_readCornerF (M := M) hB0.1  g n p hR 1 (by omega) (by omega) (by omega)) rfl okX4_readCorner viX4_readCorner lkX4_148 (s_22 hB0.1.1) cl_4 rfl (Nat.le_of_ble_eq_true rfl) ⟨rfl, rfl⟩ (Nat.le_of_ble_eq_true rfl) (Nat.le_of_ble_eq_true rfl) (Nat.le_of_ble_eq_true rfl) ?_
    rintro x24 M25 ⟨hB26, kp27, kp28, kp29, kp30, kp31, h32, h33, h34, h35, h36, h37, h38⟩
    have hB39 : BF fQ M M25 := BF.go hB0 hB26
    have kp40 : mI M25 23 = mI M 23 := kp_go rfl kp27
    have kp41 : mI M25 24 = mI M 24 := kp_go rfl kp28
    have kp42 : mI M25 26 = mI M 26 := kp_go rfl kp29
    have kp43 : mI M25 27 = mI M 27 := kp_go rfl kp30
    have kp44 : mI M25 28 = mI M 28 := kp_go rfl kp31
    refine vc_if_eq dX4_readDeed_69 (fun h45 => ?_) (fun h45 => ?_)
    · refine vc_iconst dX4_readDeed_103 rfl ?_
      refine vc_zret dX4_readDeed_104 rfl (by first | decide | omega) (Nat.le_of_ble_eq_true rfl) (Nat.le_of_ble_eq_true rfl) ?_
      exact ⟨_, rfl, hB39, kp40, kp41, kp42, kp43, kp44, by omega, by omega, by omega, by omega, by omega, fun hr => absurd hr (by omega), by rw [sB6 (by omega)]; exact CR.b_bad h38 (by omega) (by omega)⟩
    · have e46 := CR.ok h38 (by omega)
      refine vc_aload_n dX4_readDeed_72 rfl ?_
      refine vc_iconst dX4_readDeed_73 rfl ?_
      refine vc_iconst dX4_readDeed_74 rfl ?_
      refine vc_iconst dX4_readDeed_75 rfl ?_
      refine vc_cVI dX4_readDeed_76 (sfX4_readNumberF (M := M25) hB39.1  g n ((sNum (tk g n) (nx g n) 0 15 p).2) e46.2 2 0 3 (by omega) (by omega) (by omega)) rfl okX4_readNumber viX4_readNumber lkX4_144 (s_22 hB39.1.1) cl_4 rfl (Nat.le_of_ble_eq_true rfl) ⟨rfl, rfl⟩ (Nat.le_of_ble_eq_true rfl) (Nat.le_of_ble_eq_true rfl) (Nat.le_of_ble_eq_true rfl) ?_
      rintro x47 M48 ⟨hB49, kp50, kp51, kp52, kp53, kp54, h55, h56, h57, h58, h59, h60, h61⟩
      have hB62 : BF fQ M M48 := BF.go hB39 hB49
      have kp63 : mI M48 23 = mI M 23 := kp_go kp40 kp50
      have kp64 : mI M48 24 = mI M 24 := kp_go kp41 kp51
      have kp65 : mI M48 26 = mI M 26 := kp_go kp42 kp52
      have kp66 : mI M48 27 = mI M 27 := kp_go kp43 kp53
      have kp67 : mI M48 28 = mI M 28 := kp_go kp44 kp54
      refine vc_if_eq dX4_readDeed_79 (fun h68 => ?_) (fun h68 => ?_)
      · refine vc_iconst dX4_readDeed_103 rfl ?_
        refine vc_zret dX4_readDeed_104 rfl (by first | decide | omega) (Nat.le_of_ble_eq_true rfl) (Nat.le_of_ble_eq_true rfl) ?_
        exact ⟨_, rfl, hB62, kp63, kp64, kp65, kp66, kp67, by omega, by omega, by omega, by omega, by omega, fun hr => absurd hr (by omega), by rw [sB6 (by omega)]; exact CR.b_ok h38 (by omega) (CR.b_bad h61 (by omega) (by omega))⟩
      · have e69 := CR.ok h61 (by omega)
        refine vc_aload_n dX4_readDeed_82 rfl ?_
        refine vc_bipush dX4_readDeed_83 rfl ?_
        refine vc_cVI dX4_readDeed_85 (sfX4_readWordF (M := M48) hB62.1  g n ((sNum (tk g n) (nx g n) 0 3 ((sNum (tk g n) (nx g n) 0 15 p).2)).2) e69.2 16 (by omega) (by omega)) rfl okX4_readWord viX4_readWord lkX4_151 (s_22 hB62.1.1) cl_4 rfl (Nat.le_of_ble_eq_true rfl) ⟨rfl, rfl⟩ (Nat.le_of_ble_eq_true rfl) (Nat.le_of_ble_eq_true rfl) (Nat.le_of_ble_eq_true rfl) ?_
        rintro x70 M71 ⟨hB72, kp73, kp74, kp75, kp76, kp77, kp78, h79, h80, h81, h82, h83, h84⟩
        have hB85 : BF fQ M M71 := BF.go hB62 hB72
        have kp86 : mI M71 23 = mI M 23 := kp_go kp63 kp73
        have kp87 : mI M71 24 = mI M 24 := kp_go kp64 kp74
        have kp88 : mI M71 26 = mI M 26 := kp_go kp65 kp76
        have kp89 : mI M71 27 = mI M 27 := kp_go kp66 kp77
        have kp90 : mI M71 28 = mI M 28 := kp_go kp67 kp78
        refine vc_if_eq dX4_readDeed_88 (fun h91 => ?_) (fun h91 => ?_)
        · refine vc_iconst dX4_readDeed_103 rfl ?_
          refine vc_zret dX4_readDeed_104 rfl (by first | decide | omega) (Nat.le_of_ble_eq_true rfl) (Nat.le_of_ble_eq_true rfl) ?_
          exact ⟨_, rfl, hB85, kp86, kp87, kp88, kp89, kp90, by omega, by omega, by omega, by omega, by omega, fun hr => absurd hr (by omega), by rw [sB6 (by omega)]; exact CR.b_ok h38 (by omega) (CR.b_ok h61 (by omega) (CR.b_bad h84.cr (by omega) (by omega)))⟩
        · have e92 := CR.ok h84.cr (by omega)
          refine vc_aload_n dX4_readDeed_91 rfl ?_
          refine vc_iconst dX4_readDeed_92 rfl ?_
          refine vc_cVI dX4_readDeed_93 (sfX4_readCornerF (M := M71) hB85.1  g n ((sTok (tk g n) (nx g n) (101 + 16) ((sNum (tk g n) (nx g n) 0 3 ((sNum (tk g n) (nx g n) 0 15 p).2)).2)).2) e92.2 3 (by omega) (by omega) (by omega)) rfl okX4_readCorner viX4_readCorner lkX4_148 (s_22 hB85.1.1) cl_4 rfl (Nat.le_of_ble_eq_true rfl) ⟨rfl, rfl⟩ (Nat.le_of_ble_eq_true rfl) (Nat.le_of_ble_eq_true rfl) (Nat.le_of_ble_eq_true rfl) ?_
          rintro x93 M94 ⟨hB95, kp96, kp97, kp98, kp99, kp100, h101, h102, h103, h104, h105, h106, h107⟩
          have hB108 : BF fQ M M94 := BF.go hB85 hB95
          have kp109 : mI M94 23 = mI M 23 := kp_go kp86 kp96
          have kp110 : mI M94 24 = mI M 24 := kp_go kp87 kp97
          have kp111 : mI M94 26 = mI M 26 := kp_go kp88 kp98
          have kp112 : mI M94 27 = mI M 27 := kp_go kp89 kp99
          have kp113 : mI M94 28 = mI M 28 := kp_go kp90 kp100
          refine vc_if_eq dX4_readDeed_96 (fun h114 => ?_) (fun h114 => ?_)
          · refine vc_iconst dX4_readDeed_103 rfl ?_
            refine vc_zret dX4_readDeed_104 rfl (by first | decide | omega) (Nat.le_of_ble_eq_true rfl) (Nat.le_of_ble_eq_true rfl) ?_
            exact ⟨_, rfl, hB108, kp109, kp110, kp111, kp112, kp113, by omega, by omega, by omega, by omega, by omega, fun hr => absurd hr (by omega), by rw [sB6 (by omega)]; exact CR.b_ok h38 (by omega) (CR.b_ok h61 (by omega) (CR.b_ok h84.cr (by omega) (CR.cast h107 (by omega))))⟩
          · have e115 := CR.ok h107 (by omega)
            refine vc_iconst dX4_readDeed_99 rfl ?_
            refine vc_goto dX4_readDeed_100 ?_
            refine vc_zret dX4_readDeed_104 rfl (by first | decide | omega) (Nat.le_of_ble_eq_true rfl) (Nat.le_of_ble_eq_true rfl) ?_
            have hp0 := (sNum_ok e46.1).1
            have hp1 := (sNum_ok e69.1).1
            have hp2 := sTok_ok e92.1
            exact ⟨_, rfl, hB108, kp109, kp110, kp111, kp112, kp113, by omega, by omega, by omega, by omega, by omega, fun hr => ⟨fun i hi => ((((h106 (by omega)).2 i (by omega)).trans ((congrFun kp75 i).trans ((h60 (by omega)).2 i (by omega)))).trans ((h37 (by omega)).1 i (by omega))).trans (by unfold rw1; rw [if_neg (by omega)]), fun _ i hi => ((((h106 (by omega)).2 i (by omega)).trans (congrFun kp75 i)).trans ((h60 (by omega)).1 i (by omega))).trans (by rw [hp0]; unfold rw2; rw [if_pos (by omega)]), fun _ i hi => ((h106 (by omega)).1 i (by omega)).trans (by rw [hp2, hp1, hp0]; unfold rw3; rw [if_neg (by omega)]), fun hw => absurd hw (by omega), fun i hi => (((h106 (by omega)).2 i (by omega)).trans ((congrFun kp75 i).trans (((h60 (by omega)).2 i (by omega)).trans ((h37 (by omega)).2 i (by omega)))))⟩, by rw [sB6 (by omega)]; exact CR.b_ok h38 (by omega) (CR.b_ok h61 (by omega) (CR.b_ok h84.cr (by omega) (CR.cast h107 (by omega))))⟩
  by_cases h116 : w = 7
  · refine vc_tabIn dX4_readDeed_1 7 64 h116 rfl rfl rfl ?_
    refine vc_aload_n dX4_readDeed_64 rfl ?_
    refine vc_iconst dX4_readDeed_65 rfl ?_
    refine vc_cVI dX4_readDeed_66 (sfX4_readCornerF (M := M) hB0.1  g n p hR 1 (by omega) (by omega) (by omega)) rfl okX4_readCorner viX4_readCorner lkX4_148 (s_22 hB0.1.1) cl_4 rfl (Nat.le_of_ble_eq_true rfl) ⟨rfl, rfl⟩ (Nat.le_of_ble_eq_true rfl) (Nat.le_of_ble_eq_true rfl) (Nat.le_of_ble_eq_true rfl) ?_
    rintro x117 M118 ⟨hB119, kp120, kp121, kp122, kp123, kp124, h125, h126, h127, h128, h129, h130, h131⟩
    have hB132 : BF fQ M M118 := BF.go hB0 hB119
    have kp133 : mI M118 23 = mI M 23 := kp_go rfl kp120
    have kp134 : mI M118 24 = mI M 24 := kp_go rfl kp121
    have kp135 : mI M118 26 = mI M 26 := kp_go rfl kp122
    have kp136 : mI M118 27 = mI M 27 := kp_go rfl kp123
    have kp137 : mI M118 28 = mI M 28 := kp_go rfl kp124
    refine vc_if_eq dX4_readDeed_69 (fun h138 => ?_) (fun h138 => ?_)
    · refine vc_iconst dX4_readDeed_103 rfl ?_
      refine vc_zret dX4_readDeed_104 rfl (by first | decide | omega) (Nat.le_of_ble_eq_true rfl) (Nat.le_of_ble_eq_true rfl) ?_
      exact ⟨_, rfl, hB132, kp133, kp134, kp135, kp136, kp137, by omega, by omega, by omega, by omega, by omega, fun hr => absurd hr (by omega), by rw [sB6 (by omega)]; exact CR.b_bad h131 (by omega) (by omega)⟩
    · have e139 := CR.ok h131 (by omega)
      refine vc_aload_n dX4_readDeed_72 rfl ?_
      refine vc_iconst dX4_readDeed_73 rfl ?_
      refine vc_iconst dX4_readDeed_74 rfl ?_
      refine vc_iconst dX4_readDeed_75 rfl ?_
      refine vc_cVI dX4_readDeed_76 (sfX4_readNumberF (M := M118) hB132.1  g n ((sNum (tk g n) (nx g n) 0 15 p).2) e139.2 2 0 3 (by omega) (by omega) (by omega)) rfl okX4_readNumber viX4_readNumber lkX4_144 (s_22 hB132.1.1) cl_4 rfl (Nat.le_of_ble_eq_true rfl) ⟨rfl, rfl⟩ (Nat.le_of_ble_eq_true rfl) (Nat.le_of_ble_eq_true rfl) (Nat.le_of_ble_eq_true rfl) ?_
      rintro x140 M141 ⟨hB142, kp143, kp144, kp145, kp146, kp147, h148, h149, h150, h151, h152, h153, h154⟩
      have hB155 : BF fQ M M141 := BF.go hB132 hB142
      have kp156 : mI M141 23 = mI M 23 := kp_go kp133 kp143
      have kp157 : mI M141 24 = mI M 24 := kp_go kp134 kp144
      have kp158 : mI M141 26 = mI M 26 := kp_go kp135 kp145
      have kp159 : mI M141 27 = mI M 27 := kp_go kp136 kp146
      have kp160 : mI M141 28 = mI M 28 := kp_go kp137 kp147
      refine vc_if_eq dX4_readDeed_79 (fun h161 => ?_) (fun h161 => ?_)
      · refine vc_iconst dX4_readDeed_103 rfl ?_
        refine vc_zret dX4_readDeed_104 rfl (by first | decide | omega) (Nat.le_of_ble_eq_true rfl) (Nat.le_of_ble_eq_true rfl) ?_
        exact ⟨_, rfl, hB155, kp156, kp157, kp158, kp159, kp160, by omega, by omega, by omega, by omega, by omega, fun hr => absurd hr (by omega), by rw [sB6 (by omega)]; exact CR.b_ok h131 (by omega) (CR.b_bad h154 (by omega) (by omega))⟩
      · have e162 := CR.ok h154 (by omega)
        refine vc_aload_n dX4_readDeed_82 rfl ?_
        refine vc_bipush dX4_readDeed_83 rfl ?_
        refine vc_cVI dX4_readDeed_85 (sfX4_readWordF (M := M141) hB155.1  g n ((sNum (tk g n) (nx g n) 0 3 ((sNum (tk g n) (nx g n) 0 15 p).2)).2) e162.2 16 (by omega) (by omega)) rfl okX4_readWord viX4_readWord lkX4_151 (s_22 hB155.1.1) cl_4 rfl (Nat.le_of_ble_eq_true rfl) ⟨rfl, rfl⟩ (Nat.le_of_ble_eq_true rfl) (Nat.le_of_ble_eq_true rfl) (Nat.le_of_ble_eq_true rfl) ?_
        rintro x163 M164 ⟨hB165, kp166, kp167, kp168, kp169, kp170, kp171, h172, h173, h174, h175, h176, h177⟩
        have hB178 : BF fQ M M164 := BF.go hB155 hB165
        have kp179 : mI M164 23 = mI M 23 := kp_go kp156 kp166
        have kp180 : mI M164 24 = mI M 24 := kp_go kp157 kp167
        have kp181 : mI M164 26 = mI M 26 := kp_go kp158 kp169
        have kp182 : mI M164 27 = mI M 27 := kp_go kp159 kp170
        have kp183 : mI M164 28 = mI M 28 := kp_go kp160 kp171
        refine vc_if_eq dX4_readDeed_88 (fun h184 => ?_) (fun h184 => ?_)
        · refine vc_iconst dX4_readDeed_103 rfl ?_
          refine vc_zret dX4_readDeed_104 rfl (by first | decide | omega) (Nat.le_of_ble_eq_true rfl) (Nat.le_of_ble_eq_true rfl) ?_
          exact ⟨_, rfl, hB178, kp179, kp180, kp181, kp182, kp183, by omega, by omega, by omega, by omega, by omega, fun hr => absurd hr (by omega), by rw [sB6 (by omega)]; exact CR.b_ok h131 (by omega) (CR.b_ok h154 (by omega) (CR.b_bad h177.cr (by omega) (by omega)))⟩
        · have e185 := CR.ok h177.cr (by omega)
          refine vc_aload_n dX4_readDeed_91 rfl ?_
          refine vc_iconst dX4_readDeed_92 rfl ?_
          refine vc_cVI dX4_readDeed_93 (sfX4_readCornerF (M := M164) hB178.1  g n ((sTok (tk g n) (nx g n) (101 + 16) ((sNum (tk g n) (nx g n) 0 3 ((sNum (tk g n) (nx g n) 0 15 p).2)).2)).2) e185.2 3 (by omega) (by omega) (by omega)) rfl okX4_readCorner viX4_readCorner lkX4_148 (s_22 hB178.1.1) cl_4 rfl (Nat.le_of_ble_eq_true rfl) ⟨rfl, rfl⟩ (Nat.le_of_ble_eq_true rfl) (Nat.le_of_ble_eq_true rfl) (Nat.le_of_ble_eq_true rfl) ?_
          rintro x186 M187 ⟨hB188, kp189, kp190, kp191, kp192, kp193, h194, h195, h196, h197, h198, h199, h200⟩
          have hB201 : BF fQ M M187 := BF.go hB178 hB188
          have kp202 : mI M187 23 = mI M 23 := kp_go kp179 kp189
          have kp203 : mI M187 24 = mI M 24 := kp_go kp180 kp190
          have kp204 : mI M187 26 = mI M 26 := kp_go kp181 kp191
          have kp205 : mI M187 27 = mI M 27 := kp_go kp182 kp192
          have kp206 : mI M187 28 = mI M 28 := kp_go kp183 kp193
          refine vc_if_eq dX4_readDeed_96 (fun h207 => ?_) (fun h207 => ?_)
          · refine vc_iconst dX4_readDeed_103 rfl ?_
            refine vc_zret dX4_readDeed_104 rfl (by first | decide | omega) (Nat.le_of_ble_eq_true rfl) (Nat.le_of_ble_eq_true rfl) ?_
            exact ⟨_, rfl, hB201, kp202, kp203, kp204, kp205, kp206, by omega, by omega, by omega, by omega, by omega, fun hr => absurd hr (by omega), by rw [sB6 (by omega)]; exact CR.b_ok h131 (by omega) (CR.b_ok h154 (by omega) (CR.b_ok h177.cr (by omega) (CR.cast h200 (by omega))))⟩
          · have e208 := CR.ok h200 (by omega)
            refine vc_iconst dX4_readDeed_99 rfl ?_
            refine vc_goto dX4_readDeed_100 ?_
            refine vc_zret dX4_readDeed_104 rfl (by first | decide | omega) (Nat.le_of_ble_eq_true rfl) (Nat.le_of_ble_eq_true rfl) ?_
            have hp0 := (sNum_ok e139.1).1
            have hp1 := (sNum_ok e162.1).1
            have hp2 := sTok_ok e185.1
            exact ⟨_, rfl, hB201, kp202, kp203, kp204, kp205, kp206, by omega, by omega, by omega, by omega, by omega, fun hr => ⟨fun i hi => ((((h199 (by omega)).2 i (by omega)).trans ((congrFun kp168 i).trans ((h153 (by omega)).2 i (by omega)))).trans ((h130 (by omega)).1 i (by omega))).trans (by unfold rw1; rw [if_neg (by omega)]), fun _ i hi => ((((h199 (by omega)).2 i (by omega)).trans (congrFun kp168 i)).trans ((h153 (by omega)).1 i (by omega))).trans (by rw [hp0]; unfold rw2; rw [if_pos (by omega)]), fun _ i hi => ((h199 (by omega)).1 i (by omega)).trans (by rw [hp2, hp1, hp0]; unfold rw3; rw [if_neg (by omega)]), fun hw => absurd hw (by omega), fun i hi => (((h199 (by omega)).2 i (by omega)).trans ((congrFun kp168 i).trans (((h153 (by omega)).2 i (by omega)).trans ((h130 (by omega)).2 i (by omega)))))⟩, by rw [sB6 (by omega)]; exact CR.b_ok h131 (by omega) (CR.b_ok h154 (by omega) (CR.b_ok h177.cr (by omega) (CR.cast h200 (by omega))))⟩
  by_cases h209 : w = 8
  · refine vc_tabIn dX4_readDeed_1 8 105 h209 rfl rfl rfl ?_
    refine vc_aload_n dX4_readDeed_105 rfl ?_
    refine vc_iconst dX4_readDeed_106 rfl ?_
    refine vc_cVI dX4_readDeed_107 (sfX4_readCornerF (M := M) hB0.1  g n p hR 1 (by omega) (by omega) (by omega)) rfl okX4_readCorner viX4_readCorner lkX4_148 (s_22 hB0.1.1) cl_4 rfl (Nat.le_of_ble_eq_true rfl) ⟨rfl, rfl⟩ (Nat.le_of_ble_eq_true rfl) (Nat.le_of_ble_eq_true rfl) (Nat.le_of_ble_eq_true rfl) ?_
    rintro x210 M211 ⟨hB212, kp213, kp214, kp215, kp216, kp217, h218, h219, h220, h221, h222, h223, h224⟩
    have hB225 : BF fQ M M211 := BF.go hB0 hB212
    have kp226 : mI M211 23 = mI M 23 := kp_go rfl kp213
    have kp227 : mI M211 24 = mI M 24 := kp_go rfl kp214
    have kp228 : mI M211 26 = mI M 26 := kp_go rfl kp215
    have kp229 : mI M211 27 = mI M 27 := kp_go rfl kp216
    have kp230 : mI M211 28 = mI M 28 := kp_go rfl kp217
    refine vc_zret dX4_readDeed_110 rfl (by first | decide | omega) (Nat.le_of_ble_eq_true rfl) (Nat.le_of_ble_eq_true rfl) ?_
    exact ⟨_, rfl, hB225, kp226, kp227, kp228, kp229, kp230, by omega, by omega, by omega, by omega, by omega, fun hr => ⟨fun i hi => ((h223 (by omega)).1 i (by omega)).trans (by unfold rw1; rw [if_neg (by omega)]), fun hw => absurd hw (by omega), fun hw => absurd hw (by omega), fun hw => absurd hw (by omega), fun i hi => ((h223 (by omega)).2 i (by omega))⟩, by rw [sB8 (by omega)]; exact CR.cast h224 (by omega)⟩
  by_cases h231 : w = 9
  · refine vc_tabIn dX4_readDeed_1 9 105 h231 rfl rfl rfl ?_
    refine vc_aload_n dX4_readDeed_105 rfl ?_
    refine vc_iconst dX4_readDeed_106 rfl ?_
    refine vc_cVI dX4_readDeed_107 (sfX4_readCornerF (M := M) hB0.1  g n p hR 1 (by omega) (by omega) (by omega)) rfl okX4_readCorner viX4_readCorner lkX4_148 (s_22 hB0.1.1) cl_4 rfl (Nat.le_of_ble_eq_true rfl) ⟨rfl, rfl⟩ (Nat.le_of_ble_eq_true rfl) (Nat.le_of_ble_eq_true rfl) (Nat.le_of_ble_eq_true rfl) ?_
    rintro x232 M233 ⟨hB234, kp235, kp236, kp237, kp238, kp239, h240, h241, h242, h243, h244, h245, h246⟩
    have hB247 : BF fQ M M233 := BF.go hB0 hB234
    have kp248 : mI M233 23 = mI M 23 := kp_go rfl kp235
    have kp249 : mI M233 24 = mI M 24 := kp_go rfl kp236
    have kp250 : mI M233 26 = mI M 26 := kp_go rfl kp237
    have kp251 : mI M233 27 = mI M 27 := kp_go rfl kp238
    have kp252 : mI M233 28 = mI M 28 := kp_go rfl kp239
    refine vc_zret dX4_readDeed_110 rfl (by first | decide | omega) (Nat.le_of_ble_eq_true rfl) (Nat.le_of_ble_eq_true rfl) ?_
    exact ⟨_, rfl, hB247, kp248, kp249, kp250, kp251, kp252, by omega, by omega, by omega, by omega, by omega, fun hr => ⟨fun i hi => ((h245 (by omega)).1 i (by omega)).trans (by unfold rw1; rw [if_neg (by omega)]), fun hw => absurd hw (by omega), fun hw => absurd hw (by omega), fun hw => absurd hw (by omega), fun i hi => ((h245 (by omega)).2 i (by omega))⟩, by rw [sB8 (by omega)]; exact CR.cast h246 (by omega)⟩
  by_cases h253 : w = 10
  · refine vc_tabIn dX4_readDeed_1 10 111 h253 rfl rfl rfl ?_
    refine vc_aload_n dX4_readDeed_111 rfl ?_
    refine vc_iconst dX4_readDeed_112 rfl ?_
    refine vc_iconst dX4_readDeed_113 rfl ?_
    refine vc_iconst dX4_readDeed_114 rfl ?_
    refine vc_cVI dX4_readDeed_115 (sfX4_readNumberF (M := M) hB0.1  g n p hR 1 0 5 (by omega) (by omega) (by omega)) rfl okX4_readNumber viX4_readNumber lkX4_144 (s_22 hB0.1.1) cl_4 rfl (Nat.le_of_ble_eq_true rfl) ⟨rfl, rfl⟩ (Nat.le_of_ble_eq_true rfl) (Nat.le_of_ble_eq_true rfl) (Nat.le_of_ble_eq_true rfl) ?_
    rintro x254 M255 ⟨hB256, kp257, kp258, kp259, kp260, kp261, h262, h263, h264, h265, h266, h267, h268⟩
    have hB269 : BF fQ M M255 := BF.go hB0 hB256
    have kp270 : mI M255 23 = mI M 23 := kp_go rfl kp257
    have kp271 : mI M255 24 = mI M 24 := kp_go rfl kp258
    have kp272 : mI M255 26 = mI M 26 := kp_go rfl kp259
    have kp273 : mI M255 27 = mI M 27 := kp_go rfl kp260
    have kp274 : mI M255 28 = mI M 28 := kp_go rfl kp261
    refine vc_if_eq dX4_readDeed_118 (fun h275 => ?_) (fun h275 => ?_)
    · refine vc_iconst dX4_readDeed_148 rfl ?_
      refine vc_zret dX4_readDeed_149 rfl (by first | decide | omega) (Nat.le_of_ble_eq_true rfl) (Nat.le_of_ble_eq_true rfl) ?_
      exact ⟨_, rfl, hB269, kp270, kp271, kp272, kp273, kp274, by omega, by omega, by omega, by omega, by omega, fun hr => absurd hr (by omega), by rw [sB10 (by omega)]; exact CR.b_bad h268 (by omega) (by omega)⟩
    · have e276 := CR.ok h268 (by omega)
      refine vc_aload_n dX4_readDeed_121 rfl ?_
      refine vc_cVI dX4_readDeed_122 (sfX4_readFacingF (M := M255) hB269.1  g n ((sNum (tk g n) (nx g n) 0 5 p).2) e276.2 (by omega)) rfl okX4_readFacing viX4_readFacing lkX4_154 (s_22 hB269.1.1) cl_4 rfl (Nat.le_of_ble_eq_true rfl) ⟨rfl, rfl⟩ (Nat.le_of_ble_eq_true rfl) (Nat.le_of_ble_eq_true rfl) (Nat.le_of_ble_eq_true rfl) ?_
      rintro x277 M278 ⟨hB279, kp280, kp281, kp282, kp283, kp284, h285, h286, h287, h288, h289, h290, h291⟩
      have hB292 : BF fQ M M278 := BF.go hB269 hB279
      have kp293 : mI M278 23 = mI M 23 := kp_go kp270 kp280
      have kp294 : mI M278 24 = mI M 24 := kp_go kp271 kp281
      have kp295 : mI M278 26 = mI M 26 := kp_go kp272 kp282
      have kp296 : mI M278 27 = mI M 27 := kp_go kp273 kp283
      have kp297 : mI M278 28 = mI M 28 := kp_go kp274 kp284
      refine vc_if_eq dX4_readDeed_125 (fun h298 => ?_) (fun h298 => ?_)
      · refine vc_iconst dX4_readDeed_148 rfl ?_
        refine vc_zret dX4_readDeed_149 rfl (by first | decide | omega) (Nat.le_of_ble_eq_true rfl) (Nat.le_of_ble_eq_true rfl) ?_
        exact ⟨_, rfl, hB292, kp293, kp294, kp295, kp296, kp297, by omega, by omega, by omega, by omega, by omega, fun hr => absurd hr (by omega), by rw [sB10 (by omega)]; exact CR.b_ok h268 (by omega) (CR.b_bad h291 (by omega) (by omega))⟩
      · have e299 := CR.ok h291 (by omega)
        refine vc_aload_n dX4_readDeed_128 rfl ?_
        refine vc_bipush dX4_readDeed_129 rfl ?_
        refine vc_cVI dX4_readDeed_131 (sfX4_readSignF (M := M278) hB292.1  g n ((sFac (tk g n) (nx g n) ((sNum (tk g n) (nx g n) 0 5 p).2)).2) e299.2 58 (by omega) (by omega)) rfl okX4_readSign viX4_readSign lkX4_141 (s_22 hB292.1.1) cl_4 rfl (Nat.le_of_ble_eq_true rfl) ⟨rfl, rfl⟩ (Nat.le_of_ble_eq_true rfl) (Nat.le_of_ble_eq_true rfl) (Nat.le_of_ble_eq_true rfl) ?_
        rintro x300 M301 ⟨hB302, kp303, kp304, kp305, kp306, kp307, kp308, h309, h310, h311, h312, h313, h314⟩
        have hB315 : BF fQ M M301 := BF.go hB292 hB302
        have kp316 : mI M301 23 = mI M 23 := kp_go kp293 kp303
        have kp317 : mI M301 24 = mI M 24 := kp_go kp294 kp304
        have kp318 : mI M301 26 = mI M 26 := kp_go kp295 kp306
        have kp319 : mI M301 27 = mI M 27 := kp_go kp296 kp307
        have kp320 : mI M301 28 = mI M 28 := kp_go kp297 kp308
        refine vc_if_eq dX4_readDeed_134 (fun h321 => ?_) (fun h321 => ?_)
        · refine vc_iconst dX4_readDeed_148 rfl ?_
          refine vc_zret dX4_readDeed_149 rfl (by first | decide | omega) (Nat.le_of_ble_eq_true rfl) (Nat.le_of_ble_eq_true rfl) ?_
          exact ⟨_, rfl, hB315, kp316, kp317, kp318, kp319, kp320, by omega, by omega, by omega, by omega, by omega, fun hr => absurd hr (by omega), by rw [sB10 (by omega)]; exact CR.b_ok h268 (by omega) (CR.b_ok h291 (by omega) (CR.b_bad h314.cr (by omega) (by omega)))⟩
        · have e322 := CR.ok h314.cr (by omega)
          refine vc_aload_n dX4_readDeed_137 rfl ?_
          refine vc_cVI dX4_readDeed_138 (sfX4_readTurnsF (M := M301) hB315.1  g n ((sTok (tk g n) (nx g n) (58 - 300) ((sFac (tk g n) (nx g n) ((sNum (tk g n) (nx g n) 0 5 p).2)).2)).2) e322.2 (by omega)) rfl okX4_readTurns viX4_readTurns lkX4_157 (s_22 hB315.1.1) cl_4 rfl (Nat.le_of_ble_eq_true rfl) ⟨rfl, rfl⟩ (Nat.le_of_ble_eq_true rfl) (Nat.le_of_ble_eq_true rfl) (Nat.le_of_ble_eq_true rfl) ?_
          rintro x323 M324 ⟨hB325, kp326, kp327, kp328, kp329, kp330, h331, h332, h333, h334, h335, h336, h337⟩
          have hB338 : BF fQ M M324 := BF.go hB315 hB325
          have kp339 : mI M324 23 = mI M 23 := kp_go kp316 kp326
          have kp340 : mI M324 24 = mI M 24 := kp_go kp317 kp327
          have kp341 : mI M324 26 = mI M 26 := kp_go kp318 kp328
          have kp342 : mI M324 27 = mI M 27 := kp_go kp319 kp329
          have kp343 : mI M324 28 = mI M 28 := kp_go kp320 kp330
          refine vc_if_eq dX4_readDeed_141 (fun h344 => ?_) (fun h344 => ?_)
          · refine vc_iconst dX4_readDeed_148 rfl ?_
            refine vc_zret dX4_readDeed_149 rfl (by first | decide | omega) (Nat.le_of_ble_eq_true rfl) (Nat.le_of_ble_eq_true rfl) ?_
            exact ⟨_, rfl, hB338, kp339, kp340, kp341, kp342, kp343, by omega, by omega, by omega, by omega, by omega, fun hr => absurd hr (by omega), by rw [sB10 (by omega)]; exact CR.b_ok h268 (by omega) (CR.b_ok h291 (by omega) (CR.b_ok h314.cr (by omega) (CR.cast h337 (by omega))))⟩
          · have e345 := CR.ok h337 (by omega)
            refine vc_iconst dX4_readDeed_144 rfl ?_
            refine vc_goto dX4_readDeed_145 ?_
            refine vc_zret dX4_readDeed_149 rfl (by first | decide | omega) (Nat.le_of_ble_eq_true rfl) (Nat.le_of_ble_eq_true rfl) ?_
            have hp0 := (sNum_ok e276.1).1
            have hp1 := sFac_ok e299.1
            have hp2 := sTok_ok e322.1
            exact ⟨_, rfl, hB338, kp339, kp340, kp341, kp342, kp343, by omega, by omega, by omega, by omega, by omega, fun hr => ⟨fun i hi => ((((h336 (by omega)).2.2 i (by omega) (by omega)).trans ((congrFun kp305 i).trans ((h290 (by omega)).2 i (by omega)))).trans ((h267 (by omega)).1 i (by omega))).trans (by unfold rw1; rw [if_neg (by omega)]), fun _ i hi => ((((h336 (by omega)).2.2 i (by omega) (by omega)).trans (congrFun kp305 i)).trans ((h290 (by omega)).1 i (by omega))).trans (by rw [hp0]; unfold rw2; rw [if_neg (by omega)]), fun _ i hi => ((h336 (by omega)).1 i (by omega)).trans (by rw [hp2, hp1, hp0]; unfold rw3; rw [if_pos (by omega)]), fun _ i hi => ((h336 (by omega)).2.1 i (by omega)).trans (by rw [hp2, hp1, hp0]; rfl), fun i hi => (((h336 (by omega)).2.2 i (by omega) (by omega)).trans ((congrFun kp305 i).trans (((h290 (by omega)).2 i (by omega)).trans ((h267 (by omega)).2 i (by omega)))))⟩, by rw [sB10 (by omega)]; exact CR.b_ok h268 (by omega) (CR.b_ok h291 (by omega) (CR.b_ok h314.cr (by omega) (CR.cast h337 (by omega))))⟩
  by_cases h346 : w = 11
  · refine vc_tabIn dX4_readDeed_1 11 150 h346 rfl rfl rfl ?_
    refine vc_aload_n dX4_readDeed_150 rfl ?_
    refine vc_iconst dX4_readDeed_151 rfl ?_
    refine vc_cVI dX4_readDeed_152 (sfX4_readCornerF (M := M) hB0.1  g n p hR 1 (by omega) (by omega) (by omega)) rfl okX4_readCorner viX4_readCorner lkX4_148 (s_22 hB0.1.1) cl_4 rfl (Nat.le_of_ble_eq_true rfl) ⟨rfl, rfl⟩ (Nat.le_of_ble_eq_true rfl) (Nat.le_of_ble_eq_true rfl) (Nat.le_of_ble_eq_true rfl) ?_
    rintro x347 M348 ⟨hB349, kp350, kp351, kp352, kp353, kp354, h355, h356, h357, h358, h359, h360, h361⟩
    have hB362 : BF fQ M M348 := BF.go hB0 hB349
    have kp363 : mI M348 23 = mI M 23 := kp_go rfl kp350
    have kp364 : mI M348 24 = mI M 24 := kp_go rfl kp351
    have kp365 : mI M348 26 = mI M 26 := kp_go rfl kp352
    have kp366 : mI M348 27 = mI M 27 := kp_go rfl kp353
    have kp367 : mI M348 28 = mI M 28 := kp_go rfl kp354
    refine vc_if_eq dX4_readDeed_155 (fun h368 => ?_) (fun h368 => ?_)
    · refine vc_iconst dX4_readDeed_169 rfl ?_
      refine vc_zret dX4_readDeed_170 rfl (by first | decide | omega) (Nat.le_of_ble_eq_true rfl) (Nat.le_of_ble_eq_true rfl) ?_
      exact ⟨_, rfl, hB362, kp363, kp364, kp365, kp366, kp367, by omega, by omega, by omega, by omega, by omega, fun hr => absurd hr (by omega), by rw [sB11 (by omega)]; exact CR.b_bad h361 (by omega) (by omega)⟩
    · have e369 := CR.ok h361 (by omega)
      refine vc_aload_n dX4_readDeed_158 rfl ?_
      refine vc_cVI dX4_readDeed_159 (sfX4_readFacingF (M := M348) hB362.1  g n ((sNum (tk g n) (nx g n) 0 15 p).2) e369.2 (by omega)) rfl okX4_readFacing viX4_readFacing lkX4_154 (s_22 hB362.1.1) cl_4 rfl (Nat.le_of_ble_eq_true rfl) ⟨rfl, rfl⟩ (Nat.le_of_ble_eq_true rfl) (Nat.le_of_ble_eq_true rfl) (Nat.le_of_ble_eq_true rfl) ?_
      rintro x370 M371 ⟨hB372, kp373, kp374, kp375, kp376, kp377, h378, h379, h380, h381, h382, h383, h384⟩
      have hB385 : BF fQ M M371 := BF.go hB362 hB372
      have kp386 : mI M371 23 = mI M 23 := kp_go kp363 kp373
      have kp387 : mI M371 24 = mI M 24 := kp_go kp364 kp374
      have kp388 : mI M371 26 = mI M 26 := kp_go kp365 kp375
      have kp389 : mI M371 27 = mI M 27 := kp_go kp366 kp376
      have kp390 : mI M371 28 = mI M 28 := kp_go kp367 kp377
      refine vc_if_eq dX4_readDeed_162 (fun h391 => ?_) (fun h391 => ?_)
      · refine vc_iconst dX4_readDeed_169 rfl ?_
        refine vc_zret dX4_readDeed_170 rfl (by first | decide | omega) (Nat.le_of_ble_eq_true rfl) (Nat.le_of_ble_eq_true rfl) ?_
        exact ⟨_, rfl, hB385, kp386, kp387, kp388, kp389, kp390, by omega, by omega, by omega, by omega, by omega, fun hr => absurd hr (by omega), by rw [sB11 (by omega)]; exact CR.b_ok h361 (by omega) (CR.cast h384 (by omega))⟩
      · have e392 := CR.ok h384 (by omega)
        refine vc_iconst dX4_readDeed_165 rfl ?_
        refine vc_goto dX4_readDeed_166 ?_
        refine vc_zret dX4_readDeed_170 rfl (by first | decide | omega) (Nat.le_of_ble_eq_true rfl) (Nat.le_of_ble_eq_true rfl) ?_
        have hp0 := (sNum_ok e369.1).1
        exact ⟨_, rfl, hB385, kp386, kp387, kp388, kp389, kp390, by omega, by omega, by omega, by omega, by omega, fun hr => ⟨fun i hi => (((h383 (by omega)).2 i (by omega)).trans ((h360 (by omega)).1 i (by omega))).trans (by unfold rw1; rw [if_neg (by omega)]), fun _ i hi => ((h383 (by omega)).1 i (by omega)).trans (by rw [hp0]; unfold rw2; rw [if_neg (by omega)]), fun hw => absurd hw (by omega), fun hw => absurd hw (by omega), fun i hi => (((h383 (by omega)).2 i (by omega)).trans ((h360 (by omega)).2 i (by omega)))⟩, by rw [sB11 (by omega)]; exact CR.b_ok h361 (by omega) (CR.cast h384 (by omega))⟩
  by_cases h393 : w = 12
  · refine vc_tabIn dX4_readDeed_1 12 171 h393 rfl rfl rfl ?_
    refine vc_aload_n dX4_readDeed_171 rfl ?_
    refine vc_iconst dX4_readDeed_172 rfl ?_
    refine vc_iconst dX4_readDeed_173 rfl ?_
    refine vc_bipush dX4_readDeed_174 rfl ?_
    refine vc_cVI dX4_readDeed_176 (sfX4_readNumberF (M := M) hB0.1  g n p hR 1 1 20 (by omega) (by omega) (by omega)) rfl okX4_readNumber viX4_readNumber lkX4_144 (s_22 hB0.1.1) cl_4 rfl (Nat.le_of_ble_eq_true rfl) ⟨rfl, rfl⟩ (Nat.le_of_ble_eq_true rfl) (Nat.le_of_ble_eq_true rfl) (Nat.le_of_ble_eq_true rfl) ?_
    rintro x394 M395 ⟨hB396, kp397, kp398, kp399, kp400, kp401, h402, h403, h404, h405, h406, h407, h408⟩
    have hB409 : BF fQ M M395 := BF.go hB0 hB396
    have kp410 : mI M395 23 = mI M 23 := kp_go rfl kp397
    have kp411 : mI M395 24 = mI M 24 := kp_go rfl kp398
    have kp412 : mI M395 26 = mI M 26 := kp_go rfl kp399
    have kp413 : mI M395 27 = mI M 27 := kp_go rfl kp400
    have kp414 : mI M395 28 = mI M 28 := kp_go rfl kp401
    refine vc_zret dX4_readDeed_179 rfl (by first | decide | omega) (Nat.le_of_ble_eq_true rfl) (Nat.le_of_ble_eq_true rfl) ?_
    exact ⟨_, rfl, hB409, kp410, kp411, kp412, kp413, kp414, by omega, by omega, by omega, by omega, by omega, fun hr => ⟨fun i hi => ((h407 (by omega)).1 i (by omega)).trans (by unfold rw1; rw [if_neg (by omega)]), fun hw => absurd hw (by omega), fun hw => absurd hw (by omega), fun hw => absurd hw (by omega), fun i hi => ((h407 (by omega)).2 i (by omega))⟩, by rw [sB12 (by omega)]; exact CR.cast h408 (by omega)⟩
  by_cases h415 : w = 13
  · refine vc_tabIn dX4_readDeed_1 13 180 h415 rfl rfl rfl ?_
    refine vc_aload_n dX4_readDeed_180 rfl ?_
    refine vc_iconst dX4_readDeed_181 rfl ?_
    refine vc_cVI dX4_readDeed_182 (sfX4_readSideToF (M := M) hB0.1  g n p hR 1 (by omega) (by omega) (by omega)) rfl okX4_readSideTo viX4_readSideTo lkX4_160 (s_22 hB0.1.1) cl_4 rfl (Nat.le_of_ble_eq_true rfl) ⟨rfl, rfl⟩ (Nat.le_of_ble_eq_true rfl) (Nat.le_of_ble_eq_true rfl) (Nat.le_of_ble_eq_true rfl) ?_
    rintro x416 M417 ⟨hB418, kp419, kp420, kp421, kp422, kp423, h424, h425, h426, h427, h428, h429, h430⟩
    have hB431 : BF fQ M M417 := BF.go hB0 hB418
    have kp432 : mI M417 23 = mI M 23 := kp_go rfl kp419
    have kp433 : mI M417 24 = mI M 24 := kp_go rfl kp420
    have kp434 : mI M417 26 = mI M 26 := kp_go rfl kp421
    have kp435 : mI M417 27 = mI M 27 := kp_go rfl kp422
    have kp436 : mI M417 28 = mI M 28 := kp_go rfl kp423
    refine vc_zret dX4_readDeed_185 rfl (by first | decide | omega) (Nat.le_of_ble_eq_true rfl) (Nat.le_of_ble_eq_true rfl) ?_
    exact ⟨_, rfl, hB431, kp432, kp433, kp434, kp435, kp436, by omega, by omega, by omega, by omega, by omega, fun hr => ⟨fun i hi => ((h429 (by omega)).1 i (by omega)).trans (by rw [show w = 13 by omega]), fun hw => absurd hw (by omega), fun hw => absurd hw (by omega), fun hw => absurd hw (by omega), fun i hi => ((h429 (by omega)).2 i (by omega))⟩, by rw [sB13 (by omega)]; exact CR.cast h430 (by omega)⟩
  by_cases h437 : w = 14
  · refine vc_tabIn dX4_readDeed_1 14 186 h437 rfl rfl rfl ?_
    refine vc_aload_n dX4_readDeed_186 rfl ?_
    refine vc_iconst dX4_readDeed_187 rfl ?_
    refine vc_iconst dX4_readDeed_188 rfl ?_
    refine vc_iconst dX4_readDeed_189 rfl ?_
    refine vc_cVI dX4_readDeed_190 (sfX4_readNumberF (M := M) hB0.1  g n p hR 1 0 5 (by omega) (by omega) (by omega)) rfl okX4_readNumber viX4_readNumber lkX4_144 (s_22 hB0.1.1) cl_4 rfl (Nat.le_of_ble_eq_true rfl) ⟨rfl, rfl⟩ (Nat.le_of_ble_eq_true rfl) (Nat.le_of_ble_eq_true rfl) (Nat.le_of_ble_eq_true rfl) ?_
    rintro x438 M439 ⟨hB440, kp441, kp442, kp443, kp444, kp445, h446, h447, h448, h449, h450, h451, h452⟩
    have hB453 : BF fQ M M439 := BF.go hB0 hB440
    have kp454 : mI M439 23 = mI M 23 := kp_go rfl kp441
    have kp455 : mI M439 24 = mI M 24 := kp_go rfl kp442
    have kp456 : mI M439 26 = mI M 26 := kp_go rfl kp443
    have kp457 : mI M439 27 = mI M 27 := kp_go rfl kp444
    have kp458 : mI M439 28 = mI M 28 := kp_go rfl kp445
    refine vc_zret dX4_readDeed_193 rfl (by first | decide | omega) (Nat.le_of_ble_eq_true rfl) (Nat.le_of_ble_eq_true rfl) ?_
    exact ⟨_, rfl, hB453, kp454, kp455, kp456, kp457, kp458, by omega, by omega, by omega, by omega, by omega, fun hr => ⟨fun i hi => ((h451 (by omega)).1 i (by omega)).trans (by unfold rw1; rw [if_neg (by omega)]), fun hw => absurd hw (by omega), fun hw => absurd hw (by omega), fun hw => absurd hw (by omega), fun i hi => ((h451 (by omega)).2 i (by omega))⟩, by rw [sB14 (by omega)]; exact CR.cast h452 (by omega)⟩
  refine vc_tabOut dX4_readDeed_1 194 (by omega) rfl ?_
  refine vc_aload_n dX4_readDeed_194 rfl ?_
  refine vc_iconst dX4_readDeed_195 rfl ?_
  refine vc_iconst dX4_readDeed_196 rfl ?_
  refine vc_bipush dX4_readDeed_197 rfl ?_
  refine vc_cVI dX4_readDeed_199 (sfX4_readNumberF (M := M) hB0.1  g n p hR 1 0 7 (by omega) (by omega) (by omega)) rfl okX4_readNumber viX4_readNumber lkX4_144 (s_22 hB0.1.1) cl_4 rfl (Nat.le_of_ble_eq_true rfl) ⟨rfl, rfl⟩ (Nat.le_of_ble_eq_true rfl) (Nat.le_of_ble_eq_true rfl) (Nat.le_of_ble_eq_true rfl) ?_
  rintro x459 M460 ⟨hB461, kp462, kp463, kp464, kp465, kp466, h467, h468, h469, h470, h471, h472, h473⟩
  have hB474 : BF fQ M M460 := BF.go hB0 hB461
  have kp475 : mI M460 23 = mI M 23 := kp_go rfl kp462
  have kp476 : mI M460 24 = mI M 24 := kp_go rfl kp463
  have kp477 : mI M460 26 = mI M 26 := kp_go rfl kp464
  have kp478 : mI M460 27 = mI M 27 := kp_go rfl kp465
  have kp479 : mI M460 28 = mI M 28 := kp_go rfl kp466
  refine vc_zret dX4_readDeed_202 rfl (by first | decide | omega) (Nat.le_of_ble_eq_true rfl) (Nat.le_of_ble_eq_true rfl) ?_
  exact ⟨_, rfl, hB474, kp475, kp476, kp477, kp478, kp479, by omega, by omega, by omega, by omega, by omega, fun hr => ⟨fun i hi => ((h472 (by omega)).1 i (by omega)).trans (by unfold rw1; rw [if_neg (by omega)]), fun hw => absurd hw (by omega), fun hw => absurd hw (by omega), fun hw => absurd hw (by omega), fun i hi => ((h472 (by omega)).2 i (by omega))⟩, by rw [sB15 (by omega)]; exact CR.cast h473 (by omega)⟩

set_option maxRecDepth 4000 in
theorem sfX4_beginLawF {l : Launch} {M : Mem} (hB : Box M) (g : Nat → Int) (n p : Int) (hR : RS g n M p) (law : Int) (p0 : 0 ≤ law) (p1 : law ≤ 4) : Call l mdX4_beginLaw [aR 22, aI law] M (fun q N => ∃ r : Int, q = some (aI r) ∧ BF fQ M N ∧ mI N 23 = mI M 23 ∧ mI N 25 = mI M 25 ∧ mI N 26 = mI M 26 ∧ mI N 27 = mI M 27 ∧ mI N 28 = mI M 28 ∧ 1 ≤ r ∧ r ≤ 1 ∧ (0 ≤ mI N 22 9 ∧ mI N 22 12 = mI M 22 12 ∧ mI N 22 9 = mI M 22 9) ∧ mI N 22 13 = mI M 22 13 ∧ mI N 24 (2 * law).toNat = mI M 22 12 ∧ NMk (mI N 22 14) law ∧ (∀ j : Nat, j ≠ (2 * law).toNat → mI N 24 j = mI M 24 j) ∧ mI N 24 (2 * law).toNat ≠ -1 ∧ RS g n N p) := by
  have hB0 : BF fQ M M := BF.start hB
  refine Call.of [some (aR 22), some (aI law)] rfl (Nat.le_of_ble_eq_true rfl) rfl ?_
  have hrg := RS.rg hR
  refine vc_aload_n dX4_beginLaw_0 rfl ?_
  refine vc_iload_n dX4_beginLaw_1 rfl ?_
  refine vc_iconst dX4_beginLaw_2 rfl ?_
  refine vc_icmp_ge dX4_beginLaw_3 (fun h1 => ?_) (fun h1 => ?_)
  · refine vc_iload_n dX4_beginLaw_11 rfl ?_
    refine vc_iconst dX4_beginLaw_12 rfl ?_
    refine vc_icmp_ne dX4_beginLaw_13 (fun h2 => ?_) (fun h2 => ?_)
    · refine vc_bipush dX4_beginLaw_22 rfl ?_
      refine vc_putI dX4_beginLaw_24 (plX4_170 _ rfl) (s_22 hB0.1.1) rfl ?_
      have kp3 : mI (sI M 22 14 7) 23 = mI M 23 := (kp_sI rfl rfl)
      have kp4 : mI (sI M 22 14 7) 25 = mI M 25 := (kp_sI rfl rfl)
      have kp5 : mI (sI M 22 14 7) 26 = mI M 26 := (kp_sI rfl rfl)
      have kp6 : mI (sI M 22 14 7) 27 = mI M 27 := (kp_sI rfl rfl)
      have kp7 : mI (sI M 22 14 7) 28 = mI M 28 := (kp_sI rfl rfl)
      have hB8 : BF fQ M (sI M 22 14 7) := BF.w22_14 hB0 rfl
      refine vc_aload_n dX4_beginLaw_27 rfl ?_
      refine vc_getR dX4_beginLaw_28 flX4_18 (s_22 hB8.1.1) rfl (r_22_2 hB8.1.1) ?_
      refine vc_iconst dX4_beginLaw_31 rfl ?_
      refine vc_iload_n dX4_beginLaw_32 rfl ?_
      refine vc_imulE dX4_beginLaw_33 (by omega) (by omega) ?_
      refine vc_aload_n dX4_beginLaw_34 rfl ?_
      refine vc_getI dX4_beginLaw_35 flX4_50 (s_22 hB8.1.1) rfl ?_
      refine vc_topI (mI M 22 12) rfl ?_
      have k9 : 0 ≤ mI M 22 12 ∧ mI M 22 12 ≤ 300 := b22_12 (M := (sI M 22 14 7)) hB8.1
      refine vc_iastore dX4_beginLaw_38 (s_24 hB8.1.1) (by omega) (by omega) ?_
      have kp10 : mI (sI (sI M 22 14 7) 24 ((2 * law).toNat) (mI M 22 12)) 23 = mI M 23 := (kp_sI kp3 rfl)
      have kp11 : mI (sI (sI M 22 14 7) 24 ((2 * law).toNat) (mI M 22 12)) 25 = mI M 25 := (kp_sI kp4 rfl)
      have kp12 : mI (sI (sI M 22 14 7) 24 ((2 * law).toNat) (mI M 22 12)) 26 = mI M 26 := (kp_sI kp5 rfl)
      have kp13 : mI (sI (sI M 22 14 7) 24 ((2 * law).toNat) (mI M 22 12)) 27 = mI M 27 := (kp_sI kp6 rfl)
      have kp14 : mI (sI (sI M 22 14 7) 24 ((2 * law).toNat) (mI M 22 12)) 28 = mI M 28 := (kp_sI kp7 rfl)
      have hB15 : BF fQ M (sI (sI M 22 14 7) 24 ((2 * law).toNat) (mI M 22 12)) := BF.w24 hB8 (fun _ => rfl) _ (by omega) (by omega)
      refine vc_iconst dX4_beginLaw_39 rfl ?_
      refine vc_zret dX4_beginLaw_40 rfl (by first | decide | omega) (Nat.le_of_ble_eq_true rfl) (Nat.le_of_ble_eq_true rfl) ?_
      have k16 : mI (sI (sI M 22 14 7) 24 ((2 * law).toNat) (mI M 22 12)) 22 7 = mI M 22 7 := rfl
      have k17 : mI (sI (sI M 22 14 7) 24 ((2 * law).toNat) (mI M 22 12)) 22 8 = mI M 22 8 := rfl
      have k18 : mI (sI (sI M 22 14 7) 24 ((2 * law).toNat) (mI M 22 12)) 22 9 = mI M 22 9 := rfl
      have k19 : mI (sI (sI M 22 14 7) 24 ((2 * law).toNat) (mI M 22 12)) 22 10 = mI M 22 10 := rfl
      have k20 : mI (sI (sI M 22 14 7) 24 ((2 * law).toNat) (mI M 22 12)) 22 11 = mI M 22 11 := rfl
      have k21 : mI (sI (sI M 22 14 7) 24 ((2 * law).toNat) (mI M 22 12)) 22 12 = mI M 22 12 := rfl
      have k22 : mI (sI (sI M 22 14 7) 24 ((2 * law).toNat) (mI M 22 12)) 22 13 = mI M 22 13 := rfl
      have k23 : mI (sI (sI M 22 14 7) 24 ((2 * law).toNat) (mI M 22 12)) 22 14 = 7 := rfl
      exact ⟨_, rfl, hB15, kp10, kp11, kp12, kp13, kp14, by omega, by omega, by omega, by omega, (by rw [mI_same]), by unfold NMk; omega, (fun j hj => by rw [mI_sI, if_neg (fun e => hj e.2)]; rfl), (by rw [mI_same]; omega), RS.same hR kp12 kp13 kp14 rfl rfl rfl rfl rfl⟩
    · refine vc_sipush dX4_beginLaw_16 rfl ?_
      refine vc_goto dX4_beginLaw_19 ?_
      refine vc_putI dX4_beginLaw_24 (plX4_170 _ rfl) (s_22 hB0.1.1) rfl ?_
      have kp24 : mI (sI M 22 14 448) 23 = mI M 23 := (kp_sI rfl rfl)
      have kp25 : mI (sI M 22 14 448) 25 = mI M 25 := (kp_sI rfl rfl)
      have kp26 : mI (sI M 22 14 448) 26 = mI M 26 := (kp_sI rfl rfl)
      have kp27 : mI (sI M 22 14 448) 27 = mI M 27 := (kp_sI rfl rfl)
      have kp28 : mI (sI M 22 14 448) 28 = mI M 28 := (kp_sI rfl rfl)
      have hB29 : BF fQ M (sI M 22 14 448) := BF.w22_14 hB0 rfl
      refine vc_aload_n dX4_beginLaw_27 rfl ?_
      refine vc_getR dX4_beginLaw_28 flX4_18 (s_22 hB29.1.1) rfl (r_22_2 hB29.1.1) ?_
      refine vc_iconst dX4_beginLaw_31 rfl ?_
      refine vc_iload_n dX4_beginLaw_32 rfl ?_
      refine vc_imulE dX4_beginLaw_33 (by omega) (by omega) ?_
      refine vc_aload_n dX4_beginLaw_34 rfl ?_
      refine vc_getI dX4_beginLaw_35 flX4_50 (s_22 hB29.1.1) rfl ?_
      refine vc_topI (mI M 22 12) rfl ?_
      have k30 : 0 ≤ mI M 22 12 ∧ mI M 22 12 ≤ 300 := b22_12 (M := (sI M 22 14 448)) hB29.1
      refine vc_iastore dX4_beginLaw_38 (s_24 hB29.1.1) (by omega) (by omega) ?_
      have kp31 : mI (sI (sI M 22 14 448) 24 ((2 * law).toNat) (mI M 22 12)) 23 = mI M 23 := (kp_sI kp24 rfl)
      have kp32 : mI (sI (sI M 22 14 448) 24 ((2 * law).toNat) (mI M 22 12)) 25 = mI M 25 := (kp_sI kp25 rfl)
      have kp33 : mI (sI (sI M 22 14 448) 24 ((2 * law).toNat) (mI M 22 12)) 26 = mI M 26 := (kp_sI kp26 rfl)
      have kp34 : mI (sI (sI M 22 14 448) 24 ((2 * law).toNat) (mI M 22 12)) 27 = mI M 27 := (kp_sI kp27 rfl)
      have kp35 : mI (sI (sI M 22 14 448) 24 ((2 * law).toNat) (mI M 22 12)) 28 = mI M 28 := (kp_sI kp28 rfl)
      have hB36 : BF fQ M (sI (sI M 22 14 448) 24 ((2 * law).toNat) (mI M 22 12)) := BF.w24 hB29 (fun _ => rfl) _ (by omega) (by omega)
      refine vc_iconst dX4_beginLaw_39 rfl ?_
      refine vc_zret dX4_beginLaw_40 rfl (by first | decide | omega) (Nat.le_of_ble_eq_true rfl) (Nat.le_of_ble_eq_true rfl) ?_
      have k37 : mI (sI (sI M 22 14 448) 24 ((2 * law).toNat) (mI M 22 12)) 22 7 = mI M 22 7 := rfl
      have k38 : mI (sI (sI M 22 14 448) 24 ((2 * law).toNat) (mI M 22 12)) 22 8 = mI M 22 8 := rfl
      have k39 : mI (sI (sI M 22 14 448) 24 ((2 * law).toNat) (mI M 22 12)) 22 9 = mI M 22 9 := rfl
      have k40 : mI (sI (sI M 22 14 448) 24 ((2 * law).toNat) (mI M 22 12)) 22 10 = mI M 22 10 := rfl
      have k41 : mI (sI (sI M 22 14 448) 24 ((2 * law).toNat) (mI M 22 12)) 22 11 = mI M 22 11 := rfl
      have k42 : mI (sI (sI M 22 14 448) 24 ((2 * law).toNat) (mI M 22 12)) 22 12 = mI M 22 12 := rfl
      have k43 : mI (sI (sI M 22 14 448) 24 ((2 * law).toNat) (mI M 22 12)) 22 13 = mI M 22 13 := rfl
      have k44 : mI (sI (sI M 22 14 448) 24 ((2 * law).toNat) (mI M 22 12)) 22 14 = 448 := rfl
      exact ⟨_, rfl, hB36, kp31, kp32, kp33, kp34, kp35, by omega, by omega, by omega, by omega, (by rw [mI_same]), by unfold NMk; omega, (fun j hj => by rw [mI_sI, if_neg (fun e => hj e.2)]; rfl), (by rw [mI_same]; omega), RS.same hR kp33 kp34 kp35 rfl rfl rfl rfl rfl⟩
  · refine vc_bipush dX4_beginLaw_6 rfl ?_
    refine vc_goto dX4_beginLaw_8 ?_
    refine vc_putI dX4_beginLaw_24 (plX4_170 _ rfl) (s_22 hB0.1.1) rfl ?_
    have kp45 : mI (sI M 22 14 63) 23 = mI M 23 := (kp_sI rfl rfl)
    have kp46 : mI (sI M 22 14 63) 25 = mI M 25 := (kp_sI rfl rfl)
    have kp47 : mI (sI M 22 14 63) 26 = mI M 26 := (kp_sI rfl rfl)
    have kp48 : mI (sI M 22 14 63) 27 = mI M 27 := (kp_sI rfl rfl)
    have kp49 : mI (sI M 22 14 63) 28 = mI M 28 := (kp_sI rfl rfl)
    have hB50 : BF fQ M (sI M 22 14 63) := BF.w22_14 hB0 rfl
    refine vc_aload_n dX4_beginLaw_27 rfl ?_
    refine vc_getR dX4_beginLaw_28 flX4_18 (s_22 hB50.1.1) rfl (r_22_2 hB50.1.1) ?_
    refine vc_iconst dX4_beginLaw_31 rfl ?_
    refine vc_iload_n dX4_beginLaw_32 rfl ?_
    refine vc_imulE dX4_beginLaw_33 (by omega) (by omega) ?_
    refine vc_aload_n dX4_beginLaw_34 rfl ?_
    refine vc_getI dX4_beginLaw_35 flX4_50 (s_22 hB50.1.1) rfl ?_
    refine vc_topI (mI M 22 12) rfl ?_
    have k51 : 0 ≤ mI M 22 12 ∧ mI M 22 12 ≤ 300 := b22_12 (M := (sI M 22 14 63)) hB50.1
    refine vc_iastore dX4_beginLaw_38 (s_24 hB50.1.1) (by omega) (by omega) ?_
    have kp52 : mI (sI (sI M 22 14 63) 24 ((2 * law).toNat) (mI M 22 12)) 23 = mI M 23 := (kp_sI kp45 rfl)
    have kp53 : mI (sI (sI M 22 14 63) 24 ((2 * law).toNat) (mI M 22 12)) 25 = mI M 25 := (kp_sI kp46 rfl)
    have kp54 : mI (sI (sI M 22 14 63) 24 ((2 * law).toNat) (mI M 22 12)) 26 = mI M 26 := (kp_sI kp47 rfl)
    have kp55 : mI (sI (sI M 22 14 63) 24 ((2 * law).toNat) (mI M 22 12)) 27 = mI M 27 := (kp_sI kp48 rfl)
    have kp56 : mI (sI (sI M 22 14 63) 24 ((2 * law).toNat) (mI M 22 12)) 28 = mI M 28 := (kp_sI kp49 rfl)
    have hB57 : BF fQ M (sI (sI M 22 14 63) 24 ((2 * law).toNat) (mI M 22 12)) := BF.w24 hB50 (fun _ => rfl) _ (by omega) (by omega)
    refine vc_iconst dX4_beginLaw_39 rfl ?_
    refine vc_zret dX4_beginLaw_40 rfl (by first | decide | omega) (Nat.le_of_ble_eq_true rfl) (Nat.le_of_ble_eq_true rfl) ?_
    have k58 : mI (sI (sI M 22 14 63) 24 ((2 * law).toNat) (mI M 22 12)) 22 7 = mI M 22 7 := rfl
    have k59 : mI (sI (sI M 22 14 63) 24 ((2 * law).toNat) (mI M 22 12)) 22 8 = mI M 22 8 := rfl
    have k60 : mI (sI (sI M 22 14 63) 24 ((2 * law).toNat) (mI M 22 12)) 22 9 = mI M 22 9 := rfl
    have k61 : mI (sI (sI M 22 14 63) 24 ((2 * law).toNat) (mI M 22 12)) 22 10 = mI M 22 10 := rfl
    have k62 : mI (sI (sI M 22 14 63) 24 ((2 * law).toNat) (mI M 22 12)) 22 11 = mI M 22 11 := rfl
    have k63 : mI (sI (sI M 22 14 63) 24 ((2 * law).toNat) (mI M 22 12)) 22 12 = mI M 22 12 := rfl
    have k64 : mI (sI (sI M 22 14 63) 24 ((2 * law).toNat) (mI M 22 12)) 22 13 = mI M 22 13 := rfl
    have k65 : mI (sI (sI M 22 14 63) 24 ((2 * law).toNat) (mI M 22 12)) 22 14 = 63 := rfl
    exact ⟨_, rfl, hB57, kp52, kp53, kp54, kp55, kp56, by omega, by omega, by omega, by omega, (by rw [mI_same]), by unfold NMk; omega, (fun j hj => by rw [mI_sI, if_neg (fun e => hj e.2)]; rfl), (by rw [mI_same]; omega), RS.same hR kp54 kp55 kp56 rfl rfl rfl rfl rfl⟩

set_option maxRecDepth 4000 in
theorem sfX4_endLawF {l : Launch} {M : Mem} (hB : Box M) (g : Nat → Int) (n p : Int) (hR : RS g n M p) (law : Int) (p0 : 0 ≤ law) (p1 : law ≤ 4) : Call l mdX4_endLaw [aR 22, aI law] M (fun q N => ∃ r : Int, q = some (aI r) ∧ BF fQ M N ∧ mI N 23 = mI M 23 ∧ mI N 25 = mI M 25 ∧ mI N 26 = mI M 26 ∧ mI N 27 = mI M 27 ∧ mI N 28 = mI M 28 ∧ 1 ≤ r ∧ r ≤ 1 ∧ (0 ≤ mI N 22 9 ∧ mI N 22 12 = mI M 22 12 ∧ mI N 22 9 = mI M 22 9) ∧ mI N 22 13 = mI M 22 13 ∧ mI N 22 14 = mI M 22 14 ∧ mI N 24 (2 * law + 1).toNat = mI M 22 12 ∧ (∀ j : Nat, j ≠ (2 * law + 1).toNat → mI N 24 j = mI M 24 j) ∧ RS g n N p) := by
  have hB0 : BF fQ M M := BF.start hB
  refine Call.of [some (aR 22), some (aI law)] rfl (Nat.le_of_ble_eq_true rfl) rfl ?_
  have hrg := RS.rg hR
  refine vc_aload_n dX4_endLaw_0 rfl ?_
  refine vc_getR dX4_endLaw_1 flX4_18 (s_22 hB0.1.1) rfl (r_22_2 hB0.1.1) ?_
  refine vc_iconst dX4_endLaw_4 rfl ?_
  refine vc_iload_n dX4_endLaw_5 rfl ?_
  refine vc_imulE dX4_endLaw_6 (by omega) (by omega) ?_
  refine vc_iconst dX4_endLaw_7 rfl ?_
  refine vc_iaddE dX4_endLaw_8 (by omega) (by omega) ?_
  refine vc_aload_n dX4_endLaw_9 rfl ?_
  refine vc_getI dX4_endLaw_10 flX4_50 (s_22 hB0.1.1) rfl ?_
  have k1 : 0 ≤ mI M 22 12 ∧ mI M 22 12 ≤ 300 := b22_12 (M := M) hB0.1
  refine vc_iastore dX4_endLaw_13 (s_24 hB0.1.1) (by omega) (by omega) ?_
  have kp2 : mI (sI M 24 (((2 * law) + 1).toNat) (mI M 22 12)) 23 = mI M 23 := (kp_sI rfl rfl)
  have kp3 : mI (sI M 24 (((2 * law) + 1).toNat) (mI M 22 12)) 25 = mI M 25 := (kp_sI rfl rfl)
  have kp4 : mI (sI M 24 (((2 * law) + 1).toNat) (mI M 22 12)) 26 = mI M 26 := (kp_sI rfl rfl)
  have kp5 : mI (sI M 24 (((2 * law) + 1).toNat) (mI M 22 12)) 27 = mI M 27 := (kp_sI rfl rfl)
  have kp6 : mI (sI M 24 (((2 * law) + 1).toNat) (mI M 22 12)) 28 = mI M 28 := (kp_sI rfl rfl)
  have hB7 : BF fQ M (sI M 24 (((2 * law) + 1).toNat) (mI M 22 12)) := BF.w24 hB0 (fun _ => rfl) _ (by omega) (by omega)
  refine vc_iconst dX4_endLaw_14 rfl ?_
  refine vc_zret dX4_endLaw_15 rfl (by first | decide | omega) (Nat.le_of_ble_eq_true rfl) (Nat.le_of_ble_eq_true rfl) ?_
  have k8 : mI (sI M 24 (((2 * law) + 1).toNat) (mI M 22 12)) 22 7 = mI M 22 7 := rfl
  have k9 : mI (sI M 24 (((2 * law) + 1).toNat) (mI M 22 12)) 22 8 = mI M 22 8 := rfl
  have k10 : mI (sI M 24 (((2 * law) + 1).toNat) (mI M 22 12)) 22 9 = mI M 22 9 := rfl
  have k11 : mI (sI M 24 (((2 * law) + 1).toNat) (mI M 22 12)) 22 10 = mI M 22 10 := rfl
  have k12 : mI (sI M 24 (((2 * law) + 1).toNat) (mI M 22 12)) 22 11 = mI M 22 11 := rfl
  have k13 : mI (sI M 24 (((2 * law) + 1).toNat) (mI M 22 12)) 22 12 = mI M 22 12 := rfl
  have k14 : mI (sI M 24 (((2 * law) + 1).toNat) (mI M 22 12)) 22 13 = mI M 22 13 := rfl
  have k15 : mI (sI M 24 (((2 * law) + 1).toNat) (mI M 22 12)) 22 14 = mI M 22 14 := rfl
  exact ⟨_, rfl, hB7, kp2, kp3, kp4, kp5, kp6, by omega, by omega, by omega, by omega, by omega, (by rw [mI_same]), (fun j hj => by rw [mI_sI, if_neg (fun e => hj e.2)]), RS.same hR kp4 kp5 kp6 rfl rfl rfl rfl rfl⟩
