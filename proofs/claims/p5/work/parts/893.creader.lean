/-! THE CLASS'S READER: its state, its answers against the spec -/
def RS (g : Nat → Int) (n : Int) (M : Mem) (q : Int) : Prop := RSp (tk g n) (nx g n) n (mI M 26) (mI M 27) (mI M 28) (mI M 22 9) (mI M 22 10) (mI M 22 11) (mI M 22 7) (mI M 22 8) q
theorem RS.same {g : Nat → Int} {n : Int} {M N : Mem} {q : Int} (h : RS g n M q) (e26 : mI N 26 = mI M 26) (e27 : mI N 27 = mI M 27) (e28 : mI N 28 = mI M 28) (e9 : mI N 22 9 = mI M 22 9) (e10 : mI N 22 10 = mI M 22 10) (e11 : mI N 22 11 = mI M 22 11) (e7 : mI N 22 7 = mI M 22 7) (e8 : mI N 22 8 = mI M 22 8) : RS g n N q := by
  unfold RS
  rw [e26, e27, e28, e9, e10, e11, e7, e8]
  exact h
theorem RS.take {g : Nat → Int} {n : Int} {M N : Mem} {q : Int} (h : RS g n M q) (hk : tk g n q ≠ 0) (e26 : mI N 26 = mI M 26) (e27 : mI N 27 = mI M 27) (e28 : mI N 28 = mI M 28) (e9 : mI N 22 9 = mI M 22 9 + 1) (e10 : mI N 22 10 = mI M 26 (mI M 22 9 + 1).toNat) (e11 : mI N 22 11 = mI M 27 (mI M 22 9 + 1).toNat) (e7 : mI N 22 7 = mI M 22 7) (e8 : mI N 22 8 = mI M 22 8) : RS g n N (nx g n q) := by
  unfold RS
  rw [e26, e27, e28, e7, e8]
  exact RSp.take h hk e9 (by rw [e9]; exact e10) (by rw [e9]; exact e11)
theorem RS.rg {g : Nat → Int} {n : Int} {M : Mem} {q : Int} (h : RS g n M q) : 0 ≤ mI M 22 9 ∧ mI M 22 9 ≤ q ∧ q ≤ n ∧ n ≤ 300 ∧ mI M 22 7 = 0 ∧ mI M 22 8 = -1 ∧ (tk g n q = 0 ∨ (q < n ∧ q < nx g n q ∧ nx g n q ≤ n)) := RSp.rg h
theorem RS.ct {g : Nat → Int} {n : Int} {M : Mem} {q : Int} (h : RS g n M q) : CT (mI M 22 10) (mI M 22 11) (tk g n q) := (RSp.tab h).1
theorem RS.pl {g : Nat → Int} {n : Int} {M : Mem} {q : Int} (h : RS g n M q) : mI M 28 (mI M 22 9).toNat = q := (RSp.tab h).2.1
/-- the answer of a piece -/
def CR (g : Nat → Int) (n : Int) (N : Mem) (r : Int) (s : Int × Int) : Prop := (r = 1 ∧ s.1 = 0 ∧ RS g n N s.2) ∨ (r = 0 ∧ s.1 ≠ 0 ∧ mI N 22 7 = s.1 ∧ mI N 22 8 = s.2)
theorem CR.ok {g : Nat → Int} {n : Int} {N : Mem} {r : Int} {s : Int × Int} (h : CR g n N r s) (h0 : r ≠ 0) : s.1 = 0 ∧ RS g n N s.2 := by
  rcases h with h | h
  · exact h.2
  · exact absurd h.1 h0
theorem CR.bad {g : Nat → Int} {n : Int} {N : Mem} {r : Int} {s : Int × Int} (h : CR g n N r s) (h0 : r = 0) : s.1 ≠ 0 ∧ mI N 22 7 = s.1 ∧ mI N 22 8 = s.2 := by
  rcases h with h | h
  · omega
  · exact h.2
theorem CR.cast {g : Nat → Int} {n : Int} {N : Mem} {r r2 : Int} {s : Int × Int} (h : CR g n N r s) (e : r2 = r) : CR g n N r2 s := by
  rw [e]; exact h
theorem CR.b_bad {g : Nat → Int} {n : Int} {N : Mem} {r r2 : Int} {s : Int × Int} {F : Int → Int × Int} (h : CR g n N r s) (h0 : r = 0) (h2 : r2 = 0) : CR g n N r2 (sBind s F) := by
  have a := h.bad h0
  rw [sBind_bad a.1]
  exact Or.inr ⟨h2, a⟩
theorem CR.b_ok {g : Nat → Int} {n : Int} {M N : Mem} {r r2 : Int} {s : Int × Int} {F : Int → Int × Int} (h : CR g n M r s) (h0 : r ≠ 0) (h2 : CR g n N r2 (F s.2)) : CR g n N r2 (sBind s F) := by
  have a := h.ok h0
  rw [sBind_ok a.1]
  exact h2
theorem CRb {g : Nat → Int} {n : Int} {N : Mem} {r e q : Int} {s : Int × Int} (hr : r = 0) (h7 : mI N 22 7 = e) (h8 : mI N 22 8 = q) (he : e ≠ 0) (hs : s = (e, q)) : CR g n N r s := by
  rw [hs]; exact Or.inr ⟨hr, he, h7, h8⟩
theorem CRo {g : Nat → Int} {n : Int} {N : Mem} {r q : Int} {s : Int × Int} (hr : r = 1) (h : RS g n N q) (hs : s = (0, q)) : CR g n N r s := by
  rw [hs]; exact Or.inl ⟨hr, rfl, h⟩
/-- the answer of one token -/
def TR (g : Nat → Int) (n : Int) (N : Mem) (r t p : Int) : Prop := (r = 1 ∧ tk g n p = t ∧ RS g n N (nx g n p)) ∨ (r = 0 ∧ tk g n p ≠ t ∧ mI N 22 7 = 1 ∧ mI N 22 8 = p)
theorem TR.ok {g : Nat → Int} {n : Int} {N : Mem} {r t p : Int} (h : TR g n N r t p) (h0 : r ≠ 0) : tk g n p = t ∧ RS g n N (nx g n p) := by
  rcases h with h | h
  · exact h.2
  · exact absurd h.1 h0
theorem TR.bad {g : Nat → Int} {n : Int} {N : Mem} {r t p : Int} (h : TR g n N r t p) (h0 : r = 0) : tk g n p ≠ t ∧ mI N 22 7 = 1 ∧ mI N 22 8 = p := by
  rcases h with h | h
  · omega
  · exact h.2
theorem TR.cr {g : Nat → Int} {n : Int} {N : Mem} {r t p : Int} (h : TR g n N r t p) : CR g n N r (sTok (tk g n) (nx g n) t p) := by
  unfold sTok
  rcases h with ⟨a, b, c⟩ | ⟨a, b, c, d⟩
  · rw [if_pos b]; exact Or.inl ⟨a, rfl, c⟩
  · rw [if_neg b]; exact Or.inr ⟨a, by show (1 : Int) ≠ 0; decide, c, d⟩
/-- the answer of a turn: -1 where it has a fault -/
def CN (g : Nat → Int) (n : Int) (N : Mem) (r : Int) (s : Int × Int) : Prop := (r ≠ -1 ∧ s.1 = 0 ∧ RS g n N s.2) ∨ (r = -1 ∧ s.1 ≠ 0 ∧ mI N 22 7 = s.1 ∧ mI N 22 8 = s.2)
theorem CN.ok {g : Nat → Int} {n : Int} {N : Mem} {r : Int} {s : Int × Int} (h : CN g n N r s) (h0 : r ≠ -1) : s.1 = 0 ∧ RS g n N s.2 := by
  rcases h with h | h
  · exact h.2
  · exact absurd h.1 h0
theorem CN.bad {g : Nat → Int} {n : Int} {N : Mem} {r : Int} {s : Int × Int} (h : CN g n N r s) (h0 : r = -1) : s.1 ≠ 0 ∧ mI N 22 7 = s.1 ∧ mI N 22 8 = s.2 := by
  rcases h with h | h
  · exact absurd h0 h.1
  · exact h.2
/-- names of a law -/
def NMk (v w : Int) : Prop := (v = 63 ∧ 0 ≤ w ∧ w ≤ 2) ∨ (v = 448 ∧ w = 3) ∨ (v = 7 ∧ w = 4)
/-- the answer of a sum, a product, a one; E of the place behind -/
def LR (g : Nat → Int) (n w : Int) (sk : List Int) (p : Int) (E : Int → Prop) (N : Mem) (r : Int) : Prop := (r = 1 ∧ ∃ q, p < q ∧ RS g n N q ∧ E q ∧ ∀ o, Rn (tk g n) (nx g n) w (dm sk) true q o → Rn (tk g n) (nx g n) w sk false p o) ∨ (r = 0 ∧ mI N 22 7 ≠ 0 ∧ Rn (tk g n) (nx g n) w sk false p (mI N 22 7, mI N 22 8))
theorem LR.ok {g : Nat → Int} {n w : Int} {sk : List Int} {p : Int} {E : Int → Prop} {N : Mem} {r : Int} (h : LR g n w sk p E N r) (h0 : r ≠ 0) : ∃ q, p < q ∧ RS g n N q ∧ E q ∧ ∀ o, Rn (tk g n) (nx g n) w (dm sk) true q o → Rn (tk g n) (nx g n) w sk false p o := by
  rcases h with h | h
  · exact h.2
  · exact absurd h.1 h0
theorem LR.bad {g : Nat → Int} {n w : Int} {sk : List Int} {p : Int} {E : Int → Prop} {N : Mem} {r : Int} (h : LR g n w sk p E N r) (h0 : r = 0) : mI N 22 7 ≠ 0 ∧ Rn (tk g n) (nx g n) w sk false p (mI N 22 7, mI N 22 8) := by
  rcases h with h | h
  · omega
  · exact h.2
def ETr (g : Nat → Int) (n q : Int) : Prop := True
def EMul (g : Nat → Int) (n q : Int) : Prop := tk g n q ≠ -258 ∧ tk g n q ≠ -253
def EOp (g : Nat → Int) (n q : Int) : Prop := ¬ (tk g n q = -258 ∨ tk g n q = -257 ∨ tk g n q = -255 ∨ tk g n q = -253)
/-- in the loop of a sum, a product -/
def LI (g : Nat → Int) (n w : Int) (sk : List Int) (p : Int) (E : Int → Prop) (N : Mem) (r i : Int) : Prop := (r = 1 ∧ ∃ q, p + i < q ∧ RS g n N q ∧ E q ∧ ∀ o, Rn (tk g n) (nx g n) w sk true q o → Rn (tk g n) (nx g n) w sk false p o) ∨ (r = 0 ∧ mI N 22 7 ≠ 0 ∧ Rn (tk g n) (nx g n) w sk false p (mI N 22 7, mI N 22 8))
theorem LI.ok {g : Nat → Int} {n w : Int} {sk : List Int} {p : Int} {E : Int → Prop} {N : Mem} {r i : Int} (h : LI g n w sk p E N r i) (h0 : r ≠ 0) : ∃ q, p + i < q ∧ RS g n N q ∧ E q ∧ ∀ o, Rn (tk g n) (nx g n) w sk true q o → Rn (tk g n) (nx g n) w sk false p o := by
  rcases h with h | h
  · exact h.2
  · exact absurd h.1 h0
theorem LR.li {g : Nat → Int} {n w : Int} {sk : List Int} {p : Int} {E : Int → Prop} {N : Mem} {r : Int} (h : LR g n w sk p E N r) (hd : dm sk = sk) : LI g n w sk p E N r 0 := by
  rcases h with ⟨a, q, b, c, d, e⟩ | h
  · rw [hd] at e
    exact Or.inl ⟨a, q, by omega, c, d, e⟩
  · exact Or.inr h
theorem LI.nul {g : Nat → Int} {n w : Int} {sk : List Int} {p : Int} {E F : Int → Prop} {N : Mem} {r i : Int} (h : LI g n w sk p E N r i) (h0 : r = 0) : LR g n w sk p F N r := by
  rcases h with h | h
  · omega
  · exact Or.inr h
theorem LI.big {g : Nat → Int} {n w : Int} {sk : List Int} {p : Int} {E F : Int → Prop} {N : Mem} {r i : Int} (h : LI g n w sk p E N r i) (h0 : 300 ≤ i) (hp : 0 ≤ p) : LR g n w sk p F N r := by
  rcases h with ⟨a, q, b, c, d, e⟩ | h
  · have := c.rg
    omega
  · exact Or.inr h
theorem LR.law {g : Nat → Int} {n w : Int} {p : Int} {N : Mem} {r : Int} (h : LR g n w [] p (EOp g n) N r) : CR g n N r (sLaw (tk g n) (nx g n) w p) := by
  rcases h with ⟨a, q, b, c, d, e⟩ | ⟨a, b, c⟩
  · rw [sLaw_eq (e (0, q) (t_fin d))]
    exact Or.inl ⟨a, rfl, c⟩
  · rw [sLaw_eq c]
    exact Or.inr ⟨a, b, rfl, rfl⟩
/-- the laws that were read -/
def ONr (A : Nat → Int) (on : Int → Int) : Prop := ∀ w : Int, 0 ≤ w → w ≤ 4 → (A (2 * w).toNat = -1 ∧ on w ≠ 1) ∨ (A (2 * w).toNat ≠ -1 ∧ on w = 1)

theorem ONr.deed {A B : Nat → Int} {on : Int → Int} {w : Int} (h : ONr A on) (e : B = A) (hw : 5 ≤ w) : ONr B (onA on w) := by
  intro v h0 h4
  rw [e]
  unfold onA
  rw [if_neg (by omega)]
  exact h v h0 h4
theorem ONr.law {A B C D : Nat → Int} {on : Int → Int} {w : Int} (h : ONr A on) (h0 : 0 ≤ w) (h4 : w ≤ 4) (e1 : ∀ j : Nat, j ≠ (2 * w).toNat → B j = A j) (e2 : B (2 * w).toNat ≠ -1) (eC : C = B) (e3 : ∀ j : Nat, j ≠ (2 * w + 1).toNat → D j = C j) : ONr D (onA on w) := by
  subst eC
  intro v a b
  unfold onA
  rw [e3 _ (by omega)]
  by_cases e : v = w
  · rw [if_pos e, e]
    exact Or.inr ⟨e2, rfl⟩
  · rw [if_neg e, e1 _ (by omega)]
    exact h v a b
theorem CNb {g : Nat → Int} {n : Int} {N : Mem} {r e q : Int} {s : Int × Int} (hr : r = -1) (h7 : mI N 22 7 = e) (h8 : mI N 22 8 = q) (he : e ≠ 0) (hs : s = (e, q)) : CN g n N r s := by
  rw [hs]; exact Or.inr ⟨hr, he, h7, h8⟩
theorem CNo {g : Nat → Int} {n : Int} {N : Mem} {r q : Int} {s : Int × Int} (hr : r ≠ -1) (h : RS g n N q) (hs : s = (0, q)) : CN g n N r s := by
  rw [hs]; exact Or.inl ⟨hr, rfl, h⟩
theorem CNc {g : Nat → Int} {n : Int} {N : Mem} {r r1 : Int} {s s1 : Int × Int} (hr : r = -1) (h : CR g n N r1 s1) (h0 : r1 = 0) (hs : s = s1) : CN g n N r s := by
  rw [hs]; exact Or.inr ⟨hr, h.bad h0⟩
theorem sNum_ok {k x : Int → Int} {lo hi p : Int} (h : (sNum k x lo hi p).1 = 0) : (sNum k x lo hi p).2 = x p ∧ 1000 ≤ k p ∧ lo ≤ k p - 1000 ∧ k p - 1000 ≤ hi := by
  unfold sNum at h ⊢
  by_cases a : k p < 1000
  · rw [if_pos a] at h
    exact absurd h (by decide : ¬ (1 : Int) = 0)
  · rw [if_neg a] at h ⊢
    by_cases b : k p - 1000 < lo ∨ hi < k p - 1000
    · rw [if_pos b] at h
      exact absurd h (by decide : ¬ (2 : Int) = 0)
    · rw [if_neg b]
      exact ⟨rfl, by omega, by omega, by omega⟩
theorem turns_bad {g : Nat → Int} {n : Int} {N : Mem} {r i q : Int} {m : Nat} (h : CN g n N r (sTurn (tk g n) (nx g n) i q)) (h0 : r = -1) (hm : m ≠ 0) : CR g n N 0 (sTurns (tk g n) (nx g n) m i q) := by
  cases m with
  | zero => exact absurd rfl hm
  | succ m =>
    have a := h.bad h0
    unfold sTurns
    rw [sBind_bad a.1]
    exact Or.inr ⟨rfl, a⟩
theorem turns_end {k x : Int → Int} {i q : Int} {m : Nat} (h : (sTurn k x i q).1 = 0) (hk : k (sTurn k x i q).2 ≠ -256) (hm : m ≠ 0) : sTurns k x m i q = (0, (sTurn k x i q).2) := by
  cases m with
  | zero => exact absurd rfl hm
  | succ m =>
    unfold sTurns
    rw [sBind_ok h, if_neg hk]
theorem turns_go {k x : Int → Int} {i q : Int} {m : Nat} (h : (sTurn k x i q).1 = 0) (hk : k (sTurn k x i q).2 = -256) : sTurns k x (m + 1) i q = sTurns k x m (i + 1) (x (sTurn k x i q).2) := by
  rw [sTurns.eq_2, sBind_ok h, if_pos hk]
section SB
variable {k x : Int → Int} {w p : Int}
theorem sB4 (h : w ≤ 4) : sBody k x w p = sLaw k x w p := if_pos h
theorem sB5 (h : w = 5) : sBody k x w p = sNum k x 0 5 p := by subst h; unfold sBody; rw [if_neg (by decide), if_pos rfl]
theorem sB6 (h : w = 6 ∨ w = 7) : sBody k x w p = sBind (sNum k x 0 15 p) (fun q => sBind (sNum k x 0 3 q) (fun q => sBind (sTok k x 117 q) (fun q => sNum k x 0 15 q))) := by unfold sBody; rw [if_neg (by omega), if_neg (by omega), if_pos h]
theorem sB8 (h : w = 8 ∨ w = 9) : sBody k x w p = sNum k x 0 15 p := by unfold sBody; rw [if_neg (by omega), if_neg (by omega), if_neg (by omega), if_pos h]
theorem sB10 (h : w = 10) : sBody k x w p = sBind (sNum k x 0 5 p) (fun q => sBind (sFac k x q) (fun q => sBind (sTok k x (-242) q) (fun q => sTurns k x 7 0 q))) := by subst h; unfold sBody; rw [if_neg (by decide), if_neg (by decide), if_neg (by decide), if_neg (by decide), if_pos rfl]
theorem sB11 (h : w = 11) : sBody k x w p = sBind (sNum k x 0 15 p) (fun q => sFac k x q) := by subst h; unfold sBody; rw [if_neg (by decide), if_neg (by decide), if_neg (by decide), if_neg (by decide), if_neg (by decide), if_pos rfl]
theorem sB12 (h : w = 12) : sBody k x w p = sNum k x 1 20 p := by subst h; unfold sBody; rw [if_neg (by decide), if_neg (by decide), if_neg (by decide), if_neg (by decide), if_neg (by decide), if_neg (by decide), if_pos rfl]
theorem sB13 (h : w = 13) : sBody k x w p = sSide k x p := by subst h; unfold sBody; rw [if_neg (by decide), if_neg (by decide), if_neg (by decide), if_neg (by decide), if_neg (by decide), if_neg (by decide), if_neg (by decide), if_pos rfl]
theorem sB14 (h : w = 14) : sBody k x w p = sNum k x 0 5 p := by subst h; unfold sBody; rw [if_neg (by decide), if_neg (by decide), if_neg (by decide), if_neg (by decide), if_neg (by decide), if_neg (by decide), if_neg (by decide), if_neg (by decide), if_pos rfl]
theorem sB15 (h : w = 15) : sBody k x w p = sNum k x 0 7 p := by subst h; unfold sBody; rw [if_neg (by decide), if_neg (by decide), if_neg (by decide), if_neg (by decide), if_neg (by decide), if_neg (by decide), if_neg (by decide), if_neg (by decide), if_neg (by decide)]
end SB

/-! what a clause says, by its place -/
section CO
variable (k x : Int → Int)
/-- a turn at a place, and the place behind it -/
def tvS (p : Int) : Int := if k p = 119 then 100 * (k (x (x p)) - 123) + 10 + (k (x p) - 1000) else 100 * (k (x p) - 123) + (k p - 1000)
def tnS (p : Int) : Int := if k p = 119 then x (x (x p)) else x (x p)
/-- turns packed in two numbers -/
def trS : Nat → Int → Int → Int → Int → Int × Int
  | 0, _, _, f, m => (f, m)
  | q + 1, i, p, f, m => if k (tnS k x p) = -256 then trS q (i + 1) (x (tnS k x p)) (if i < 3 then 1000 * f + tvS k x p else f) (if i < 3 then 0 else 1000 * m + tvS k x p) else (if i < 3 then 1000 * f + tvS k x p else f, if i < 3 then 0 else 1000 * m + tvS k x p)
def rw1 (w p : Int) : Int := if w = 13 then (if k p = 127 then 3 else k p - 123) else k p - 1000
def rw2 (w p : Int) : Int := if w = 6 ∨ w = 7 then k (x p) - 1000 else k (x (x p)) - 1000
def rw3 (w p : Int) : Int := if w = 10 then (trS k x 7 0 (x (x (x (x p)))) 0 0).1 else k (x (x (x p))) - 1000
def rw4 (p : Int) : Int := (trS k x 7 0 (x (x (x (x p)))) 0 0).2
end CO
/-- one number of the clause is kept -/
def W25 (M N : Mem) (c v : Int) : Prop := (∀ i : Nat, (i : Int) = 5 * mI M 22 13 + c → mI N 25 i = v) ∧ ∀ i : Nat, (i : Int) ≠ 5 * mI M 22 13 + c → mI N 25 i = mI M 25 i
/-- a deed's row -/
def D25 (k x : Int → Int) (M N : Mem) (w p : Int) : Prop := (∀ i : Nat, (i : Int) = 5 * mI M 22 13 + 1 → mI N 25 i = rw1 k w p) ∧ (w = 6 ∨ w = 7 ∨ w = 10 ∨ w = 11 → ∀ i : Nat, (i : Int) = 5 * mI M 22 13 + 2 → mI N 25 i = rw2 k x w p) ∧ (w = 6 ∨ w = 7 ∨ w = 10 → ∀ i : Nat, (i : Int) = 5 * mI M 22 13 + 3 → mI N 25 i = rw3 k x w p) ∧ (w = 10 → ∀ i : Nat, (i : Int) = 5 * mI M 22 13 + 4 → mI N 25 i = rw4 k x p) ∧ ∀ i : Nat, (i : Int) ≤ 5 * mI M 22 13 ∨ 5 * mI M 22 13 + 5 ≤ i → mI N 25 i = mI M 25 i
/-- a telling's turns: what a turn changes -/
def T25 (M N : Mem) : Prop := ∀ i : Nat, (i : Int) ≠ 5 * mI M 22 13 + 3 → mI N 25 i = mI M 25 i
theorem tr_end {k x : Int → Int} {q : Nat} {i p f m : Int} (h : k (tnS k x p) ≠ -256) : trS k x (q + 1) i p f m = (if i < 3 then 1000 * f + tvS k x p else f, if i < 3 then 0 else 1000 * m + tvS k x p) := if_neg h
theorem tr_go {k x : Int → Int} {q : Nat} {i p f m : Int} (h : k (tnS k x p) = -256) : trS k x (q + 1) i p f m = trS k x q (i + 1) (x (tnS k x p)) (if i < 3 then 1000 * f + tvS k x p else f) (if i < 3 then 0 else 1000 * m + tvS k x p) := if_pos h
/-- the places of the turns of a telling -/
def tpS (k x : Int → Int) (p : Int) : Nat → Int
  | 0 => p
  | i + 1 => x (tnS k x (tpS k x p i))
/-- m turns from a place on, as the reference keeps them -/
def TT9 (k x : Int → Int) (R : Nat → Int) (b : Int) (p : Int) (m : Int) : Prop := R (b + 3).toNat = m ∧ (∀ i : Nat, (i : Int) < m → R (b + 4 + i).toNat = tvS k x (tpS k x p i) ∧ isTu (tvS k x (tpS k x p i))) ∧ ∀ i : Nat, (i : Int) + 1 < m → k (tnS k x (tpS k x p i)) = -256
/-- a telling's clause, as the reference keeps it -/
def TL9 (k x : Int → Int) (R : Nat → Int) (b p : Int) : Prop := R (b + 1).toNat = k p - 1000 ∧ R (b + 2).toNat = k (x (x p)) - 1000 ∧ ∃ m : Int, (1 ≤ m ∧ m ≤ 6) ∧ TT9 k x R b (x (x (x (x p)))) m ∧ k (tnS k x (tpS k x (x (x (x (x p)))) (m - 1).toNat)) ≠ -256

set_option maxRecDepth 4000 in
theorem sfX4_isBlankF {l : Launch} {M : Mem} (hB : Box M)  (s : Int)  : Call l mdX4_isBlank [aI s] M (fun q N => ∃ r : Int, q = some (aI r) ∧ M = N ∧ 0 ≤ r ∧ r ≤ 1 ∧ ((r = 1 ∧ (s = 32 ∨ s = 10)) ∨ (r = 0 ∧ ¬ (s = 32 ∨ s = 10)))) := by
  have hB0 : BF fQ M M := BF.start hB
  refine Call.of [some (aI s)] rfl (Nat.le_of_ble_eq_true rfl) rfl ?_
  refine vc_ok (fun hoM hoS hoL => ?_)
  have hr0 : -2147483648 ≤ s ∧ s < 2147483648 := hoL 0 _ rfl
  refine vc_iload_n dX4_isBlank_0 rfl ?_
  refine vc_bipush dX4_isBlank_1 rfl ?_
  refine vc_icmp_eq dX4_isBlank_3 (fun h1 => ?_) (fun h1 => ?_)
  · refine vc_iconst dX4_isBlank_12 rfl ?_
    refine vc_goto dX4_isBlank_13 ?_
    refine vc_zret dX4_isBlank_17 rfl (by first | decide | omega) (Nat.le_of_ble_eq_true rfl) (Nat.le_of_ble_eq_true rfl) ?_
    exact ⟨_, rfl, rfl, by omega, by omega, by omega⟩
  · refine vc_iload_n dX4_isBlank_6 rfl ?_
    refine vc_bipush dX4_isBlank_7 rfl ?_
    refine vc_icmp_ne dX4_isBlank_9 (fun h2 => ?_) (fun h2 => ?_)
    · refine vc_iconst dX4_isBlank_16 rfl ?_
      refine vc_zret dX4_isBlank_17 rfl (by first | decide | omega) (Nat.le_of_ble_eq_true rfl) (Nat.le_of_ble_eq_true rfl) ?_
      exact ⟨_, rfl, rfl, by omega, by omega, by omega⟩
    · refine vc_iconst dX4_isBlank_12 rfl ?_
      refine vc_goto dX4_isBlank_13 ?_
      refine vc_zret dX4_isBlank_17 rfl (by first | decide | omega) (Nat.le_of_ble_eq_true rfl) (Nat.le_of_ble_eq_true rfl) ?_
      exact ⟨_, rfl, rfl, by omega, by omega, by omega⟩

set_option maxRecDepth 4000 in
theorem sfX4_isLetterF {l : Launch} {M : Mem} (hB : Box M)  (s : Int)  : Call l mdX4_isLetter [aI s] M (fun q N => ∃ r : Int, q = some (aI r) ∧ M = N ∧ 0 ≤ r ∧ r ≤ 1 ∧ ((r = 1 ∧ ((97 ≤ s ∧ s ≤ 122) ∨ (65 ≤ s ∧ s ≤ 90))) ∨ (r = 0 ∧ ¬ ((97 ≤ s ∧ s ≤ 122) ∨ (65 ≤ s ∧ s ≤ 90))))) := by
  have hB0 : BF fQ M M := BF.start hB
  refine Call.of [some (aI s)] rfl (Nat.le_of_ble_eq_true rfl) rfl ?_
  refine vc_ok (fun hoM hoS hoL => ?_)
  have hr0 : -2147483648 ≤ s ∧ s < 2147483648 := hoL 0 _ rfl
  refine vc_iload_n dX4_isLetter_0 rfl ?_
  refine vc_bipush dX4_isLetter_1 rfl ?_
  refine vc_icmp_lt dX4_isLetter_3 (fun h1 => ?_) (fun h1 => ?_)
  · refine vc_iload_n dX4_isLetter_12 rfl ?_
    refine vc_bipush dX4_isLetter_13 rfl ?_
    refine vc_icmp_lt dX4_isLetter_15 (fun h2 => ?_) (fun h2 => ?_)
    · refine vc_iconst dX4_isLetter_28 rfl ?_
      refine vc_zret dX4_isLetter_29 rfl (by first | decide | omega) (Nat.le_of_ble_eq_true rfl) (Nat.le_of_ble_eq_true rfl) ?_
      exact ⟨_, rfl, rfl, by omega, by omega, by omega⟩
    · refine vc_iload_n dX4_isLetter_18 rfl ?_
      refine vc_bipush dX4_isLetter_19 rfl ?_
      refine vc_icmp_gt dX4_isLetter_21 (fun h3 => ?_) (fun h3 => ?_)
      · refine vc_iconst dX4_isLetter_28 rfl ?_
        refine vc_zret dX4_isLetter_29 rfl (by first | decide | omega) (Nat.le_of_ble_eq_true rfl) (Nat.le_of_ble_eq_true rfl) ?_
        exact ⟨_, rfl, rfl, by omega, by omega, by omega⟩
      · refine vc_iconst dX4_isLetter_24 rfl ?_
        refine vc_goto dX4_isLetter_25 ?_
        refine vc_zret dX4_isLetter_29 rfl (by first | decide | omega) (Nat.le_of_ble_eq_true rfl) (Nat.le_of_ble_eq_true rfl) ?_
        exact ⟨_, rfl, rfl, by omega, by omega, by omega⟩
  · refine vc_iload_n dX4_isLetter_6 rfl ?_
    refine vc_bipush dX4_isLetter_7 rfl ?_
    refine vc_icmp_le dX4_isLetter_9 (fun h4 => ?_) (fun h4 => ?_)
    · refine vc_iconst dX4_isLetter_24 rfl ?_
      refine vc_goto dX4_isLetter_25 ?_
      refine vc_zret dX4_isLetter_29 rfl (by first | decide | omega) (Nat.le_of_ble_eq_true rfl) (Nat.le_of_ble_eq_true rfl) ?_
      exact ⟨_, rfl, rfl, by omega, by omega, by omega⟩
    · refine vc_iload_n dX4_isLetter_12 rfl ?_
      refine vc_bipush dX4_isLetter_13 rfl ?_
      refine vc_icmp_lt dX4_isLetter_15 (fun h5 => by exfalso; omega) (fun h5 => ?_)
      refine vc_iload_n dX4_isLetter_18 rfl ?_
      refine vc_bipush dX4_isLetter_19 rfl ?_
      refine vc_icmp_gt dX4_isLetter_21 (fun h6 => ?_) (fun h6 => by exfalso; omega)
      refine vc_iconst dX4_isLetter_28 rfl ?_
      refine vc_zret dX4_isLetter_29 rfl (by first | decide | omega) (Nat.le_of_ble_eq_true rfl) (Nat.le_of_ble_eq_true rfl) ?_
      exact ⟨_, rfl, rfl, by omega, by omega, by omega⟩

set_option maxRecDepth 4000 in
theorem sfX4_isDigitF {l : Launch} {M : Mem} (hB : Box M)  (s : Int)  : Call l mdX4_isDigit [aI s] M (fun q N => ∃ r : Int, q = some (aI r) ∧ M = N ∧ 0 ≤ r ∧ r ≤ 1 ∧ ((r = 1 ∧ (48 ≤ s ∧ s ≤ 57)) ∨ (r = 0 ∧ ¬ (48 ≤ s ∧ s ≤ 57)))) := by
  have hB0 : BF fQ M M := BF.start hB
  refine Call.of [some (aI s)] rfl (Nat.le_of_ble_eq_true rfl) rfl ?_
  refine vc_ok (fun hoM hoS hoL => ?_)
  have hr0 : -2147483648 ≤ s ∧ s < 2147483648 := hoL 0 _ rfl
  refine vc_iload_n dX4_isDigit_0 rfl ?_
  refine vc_bipush dX4_isDigit_1 rfl ?_
  refine vc_icmp_lt dX4_isDigit_3 (fun h1 => ?_) (fun h1 => ?_)
  · refine vc_iconst dX4_isDigit_16 rfl ?_
    refine vc_zret dX4_isDigit_17 rfl (by first | decide | omega) (Nat.le_of_ble_eq_true rfl) (Nat.le_of_ble_eq_true rfl) ?_
    exact ⟨_, rfl, rfl, by omega, by omega, by omega⟩
  · refine vc_iload_n dX4_isDigit_6 rfl ?_
    refine vc_bipush dX4_isDigit_7 rfl ?_
    refine vc_icmp_gt dX4_isDigit_9 (fun h2 => ?_) (fun h2 => ?_)
    · refine vc_iconst dX4_isDigit_16 rfl ?_
      refine vc_zret dX4_isDigit_17 rfl (by first | decide | omega) (Nat.le_of_ble_eq_true rfl) (Nat.le_of_ble_eq_true rfl) ?_
      exact ⟨_, rfl, rfl, by omega, by omega, by omega⟩
    · refine vc_iconst dX4_isDigit_12 rfl ?_
      refine vc_goto dX4_isDigit_13 ?_
      refine vc_zret dX4_isDigit_17 rfl (by first | decide | omega) (Nat.le_of_ble_eq_true rfl) (Nat.le_of_ble_eq_true rfl) ?_
      exact ⟨_, rfl, rfl, by omega, by omega, by omega⟩

set_option maxRecDepth 4000 in
theorem sfX4_isSignF {l : Launch} {M : Mem} (hB : Box M)  (s : Int)  : Call l mdX4_isSign [aR 22, aI s] M (fun q N => ∃ r : Int, q = some (aI r) ∧ M = N ∧ 0 ≤ r ∧ r ≤ 1 ∧ ((r = 1 ∧ mI M 22 10 = 3 ∧ mI M 22 11 = s) ∨ (r = 0 ∧ ¬ (mI M 22 10 = 3 ∧ mI M 22 11 = s)))) := by
  have hB0 : BF fQ M M := BF.start hB
  refine Call.of [some (aR 22), some (aI s)] rfl (Nat.le_of_ble_eq_true rfl) rfl ?_
  refine vc_ok (fun hoM hoS hoL => ?_)
  have hr1 : -2147483648 ≤ s ∧ s < 2147483648 := hoL 1 _ rfl
  refine vc_aload_n dX4_isSign_0 rfl ?_
  refine vc_getI dX4_isSign_1 flX4_69 (s_22 hB0.1.1) rfl ?_
  refine vc_iconst dX4_isSign_4 rfl ?_
  refine vc_icmp_ne dX4_isSign_5 (fun h1 => ?_) (fun h1 => ?_)
  · refine vc_iconst dX4_isSign_20 rfl ?_
    refine vc_zret dX4_isSign_21 rfl (by first | decide | omega) (Nat.le_of_ble_eq_true rfl) (Nat.le_of_ble_eq_true rfl) ?_
    exact ⟨_, rfl, rfl, by omega, by omega, by omega⟩
  · refine vc_aload_n dX4_isSign_8 rfl ?_
    refine vc_getI dX4_isSign_9 flX4_119 (s_22 hB0.1.1) rfl ?_
    refine vc_iload_n dX4_isSign_12 rfl ?_
    refine vc_icmp_ne dX4_isSign_13 (fun h2 => ?_) (fun h2 => ?_)
    · refine vc_iconst dX4_isSign_20 rfl ?_
      refine vc_zret dX4_isSign_21 rfl (by first | decide | omega) (Nat.le_of_ble_eq_true rfl) (Nat.le_of_ble_eq_true rfl) ?_
      exact ⟨_, rfl, rfl, by omega, by omega, by omega⟩
    · refine vc_iconst dX4_isSign_16 rfl ?_
      refine vc_goto dX4_isSign_17 ?_
      refine vc_zret dX4_isSign_21 rfl (by first | decide | omega) (Nat.le_of_ble_eq_true rfl) (Nat.le_of_ble_eq_true rfl) ?_
      exact ⟨_, rfl, rfl, by omega, by omega, by omega⟩

set_option maxRecDepth 4000 in
theorem sfX4_takeTokenF {l : Launch} {M : Mem} (hB : Box M) (g : Nat → Int) (n p : Int) (hR : RS g n M p)  (p0 : tk g n p ≠ 0) : Call l mdX4_takeToken [aR 22] M (fun q N => ∃ r : Int, q = some (aI r) ∧ BF fQ M N ∧ mI N 24 = mI M 24 ∧ mI N 25 = mI M 25 ∧ mI N 26 = mI M 26 ∧ mI N 27 = mI M 27 ∧ mI N 28 = mI M 28 ∧ 1 ≤ r ∧ r ≤ 1 ∧ 0 ≤ mI N 22 9 ∧ mI N 22 13 = mI M 22 13 ∧ mI N 22 14 = mI M 22 14 ∧ RS g n N (nx g n p)) := by
  have hB0 : BF fQ M M := BF.start hB
  refine Call.of [some (aR 22)] rfl (Nat.le_of_ble_eq_true rfl) rfl ?_
  have ct1 := RS.ct hR
  unfold CT at ct1
  have rg2 := RS.rg hR
  refine vc_aload_n dX4_takeToken_0 rfl ?_
  refine vc_getI dX4_takeToken_1 flX4_62 (s_22 hB0.1.1) rfl ?_
  have k3 : (-1) ≤ mI M 22 9 ∧ mI M 22 9 ≤ 300 := b22_9 (M := M) hB0.1
  refine vc_sipush dX4_takeToken_4 rfl ?_
  refine vc_icmp_ge dX4_takeToken_7 (fun h4 => ?_) (fun h4 => ?_)
  · refine vc_iconst dX4_takeToken_46 rfl ?_
    refine vc_zret dX4_takeToken_47 rfl (by first | decide | omega) (Nat.le_of_ble_eq_true rfl) (Nat.le_of_ble_eq_true rfl) ?_
    exact ⟨_, rfl, hB0, rfl, rfl, rfl, rfl, rfl, by omega, by omega, by omega, by omega, by omega, by first | exact RS.take hR p0 rfl rfl rfl rfl rfl rfl rfl rfl | (exfalso; omega)⟩
  · refine vc_aload_n dX4_takeToken_10 rfl ?_
    refine vc_dup dX4_takeToken_11 rfl ?_
    refine vc_getI dX4_takeToken_12 flX4_62 (s_22 hB0.1.1) rfl ?_
    refine vc_iconst dX4_takeToken_15 rfl ?_
    refine vc_iaddE dX4_takeToken_16 (by omega) (by omega) ?_
    refine vc_putI dX4_takeToken_17 (plX4_62 _ rfl) (s_22 hB0.1.1) rfl ?_
    have kp5 : mI (sI M 22 9 ((mI M 22 9) + 1)) 24 = mI M 24 := (kp_sI rfl rfl)
    have kp6 : mI (sI M 22 9 ((mI M 22 9) + 1)) 25 = mI M 25 := (kp_sI rfl rfl)
    have kp7 : mI (sI M 22 9 ((mI M 22 9) + 1)) 26 = mI M 26 := (kp_sI rfl rfl)
    have kp8 : mI (sI M 22 9 ((mI M 22 9) + 1)) 27 = mI M 27 := (kp_sI rfl rfl)
    have kp9 : mI (sI M 22 9 ((mI M 22 9) + 1)) 28 = mI M 28 := (kp_sI rfl rfl)
    have hB10 : BF fQ M (sI M 22 9 ((mI M 22 9) + 1)) := BF.w22_9 hB0 rfl (by omega) (by omega)
    refine vc_aload_n dX4_takeToken_20 rfl ?_
    refine vc_aload_n dX4_takeToken_21 rfl ?_
    refine vc_getR dX4_takeToken_22 flX4_24 (s_22 hB10.1.1) rfl (r_22_4 hB10.1.1) ?_
    refine vc_aload_n dX4_takeToken_25 rfl ?_
    refine vc_getI dX4_takeToken_26 flX4_62 (s_22 hB10.1.1) rfl ?_
    refine vc_topI ((mI M 22 9) + 1) rfl ?_
    refine vc_iaload dX4_takeToken_29 (s_26 hB10.1.1) (by omega) (by omega) ?_
    refine vc_topI (mI M 26 (((mI M 22 9) + 1).toNat)) rfl ?_
    have k11 : mI M 26 (((mI M 22 9) + 1).toNat) = mI M 26 (((mI M 22 9) + 1).toNat) := congrFun kp7 (((mI M 22 9) + 1).toNat)
    refine vc_putI dX4_takeToken_30 (plX4_69 _ rfl) (s_22 hB10.1.1) rfl ?_
    have kp12 : mI (sI (sI M 22 9 ((mI M 22 9) + 1)) 22 10 (mI M 26 (((mI M 22 9) + 1).toNat))) 24 = mI M 24 := (kp_sI kp5 rfl)
    have kp13 : mI (sI (sI M 22 9 ((mI M 22 9) + 1)) 22 10 (mI M 26 (((mI M 22 9) + 1).toNat))) 25 = mI M 25 := (kp_sI kp6 rfl)
    have kp14 : mI (sI (sI M 22 9 ((mI M 22 9) + 1)) 22 10 (mI M 26 (((mI M 22 9) + 1).toNat))) 26 = mI M 26 := (kp_sI kp7 rfl)
    have kp15 : mI (sI (sI M 22 9 ((mI M 22 9) + 1)) 22 10 (mI M 26 (((mI M 22 9) + 1).toNat))) 27 = mI M 27 := (kp_sI kp8 rfl)
    have kp16 : mI (sI (sI M 22 9 ((mI M 22 9) + 1)) 22 10 (mI M 26 (((mI M 22 9) + 1).toNat))) 28 = mI M 28 := (kp_sI kp9 rfl)
    have hB17 : BF fQ M (sI (sI M 22 9 ((mI M 22 9) + 1)) 22 10 (mI M 26 (((mI M 22 9) + 1).toNat))) := BF.w22_10 hB10 rfl
    refine vc_aload_n dX4_takeToken_33 rfl ?_
    refine vc_aload_n dX4_takeToken_34 rfl ?_
    refine vc_getR dX4_takeToken_35 flX4_27 (s_22 hB17.1.1) rfl (r_22_5 hB17.1.1) ?_
    refine vc_aload_n dX4_takeToken_38 rfl ?_
    refine vc_getI dX4_takeToken_39 flX4_62 (s_22 hB17.1.1) rfl ?_
    refine vc_topI ((mI M 22 9) + 1) rfl ?_
    refine vc_iaload dX4_takeToken_42 (s_27 hB17.1.1) (by omega) (by omega) ?_
    refine vc_topI (mI M 27 (((mI M 22 9) + 1).toNat)) rfl ?_
    have k18 : mI M 27 (((mI M 22 9) + 1).toNat) = mI M 27 (((mI M 22 9) + 1).toNat) := congrFun kp15 (((mI M 22 9) + 1).toNat)
    refine vc_putI dX4_takeToken_43 (plX4_119 _ rfl) (s_22 hB17.1.1) rfl ?_
    have kp19 : mI (sI (sI (sI M 22 9 ((mI M 22 9) + 1)) 22 10 (mI M 26 (((mI M 22 9) + 1).toNat))) 22 11 (mI M 27 (((mI M 22 9) + 1).toNat))) 24 = mI M 24 := (kp_sI kp12 rfl)
    have kp20 : mI (sI (sI (sI M 22 9 ((mI M 22 9) + 1)) 22 10 (mI M 26 (((mI M 22 9) + 1).toNat))) 22 11 (mI M 27 (((mI M 22 9) + 1).toNat))) 25 = mI M 25 := (kp_sI kp13 rfl)
    have kp21 : mI (sI (sI (sI M 22 9 ((mI M 22 9) + 1)) 22 10 (mI M 26 (((mI M 22 9) + 1).toNat))) 22 11 (mI M 27 (((mI M 22 9) + 1).toNat))) 26 = mI M 26 := (kp_sI kp14 rfl)
    have kp22 : mI (sI (sI (sI M 22 9 ((mI M 22 9) + 1)) 22 10 (mI M 26 (((mI M 22 9) + 1).toNat))) 22 11 (mI M 27 (((mI M 22 9) + 1).toNat))) 27 = mI M 27 := (kp_sI kp15 rfl)
    have kp23 : mI (sI (sI (sI M 22 9 ((mI M 22 9) + 1)) 22 10 (mI M 26 (((mI M 22 9) + 1).toNat))) 22 11 (mI M 27 (((mI M 22 9) + 1).toNat))) 28 = mI M 28 := (kp_sI kp16 rfl)
    have hB24 : BF fQ M (sI (sI (sI M 22 9 ((mI M 22 9) + 1)) 22 10 (mI M 26 (((mI M 22 9) + 1).toNat))) 22 11 (mI M 27 (((mI M 22 9) + 1).toNat))) := BF.w22_11 hB17 rfl
    refine vc_iconst dX4_takeToken_46 rfl ?_
    refine vc_zret dX4_takeToken_47 rfl (by first | decide | omega) (Nat.le_of_ble_eq_true rfl) (Nat.le_of_ble_eq_true rfl) ?_
    have k25 : mI (sI (sI (sI M 22 9 ((mI M 22 9) + 1)) 22 10 (mI M 26 (((mI M 22 9) + 1).toNat))) 22 11 (mI M 27 (((mI M 22 9) + 1).toNat))) 22 7 = mI M 22 7 := rfl
    have k26 : mI (sI (sI (sI M 22 9 ((mI M 22 9) + 1)) 22 10 (mI M 26 (((mI M 22 9) + 1).toNat))) 22 11 (mI M 27 (((mI M 22 9) + 1).toNat))) 22 8 = mI M 22 8 := rfl
    have k27 : mI (sI (sI (sI M 22 9 ((mI M 22 9) + 1)) 22 10 (mI M 26 (((mI M 22 9) + 1).toNat))) 22 11 (mI M 27 (((mI M 22 9) + 1).toNat))) 22 9 = (mI M 22 9) + 1 := rfl
    have k28 : mI (sI (sI (sI M 22 9 ((mI M 22 9) + 1)) 22 10 (mI M 26 (((mI M 22 9) + 1).toNat))) 22 11 (mI M 27 (((mI M 22 9) + 1).toNat))) 22 10 = mI M 26 (((mI M 22 9) + 1).toNat) := rfl
    have k29 : mI (sI (sI (sI M 22 9 ((mI M 22 9) + 1)) 22 10 (mI M 26 (((mI M 22 9) + 1).toNat))) 22 11 (mI M 27 (((mI M 22 9) + 1).toNat))) 22 11 = mI M 27 (((mI M 22 9) + 1).toNat) := rfl
    have k30 : mI (sI (sI (sI M 22 9 ((mI M 22 9) + 1)) 22 10 (mI M 26 (((mI M 22 9) + 1).toNat))) 22 11 (mI M 27 (((mI M 22 9) + 1).toNat))) 22 12 = mI M 22 12 := rfl
    have k31 : mI (sI (sI (sI M 22 9 ((mI M 22 9) + 1)) 22 10 (mI M 26 (((mI M 22 9) + 1).toNat))) 22 11 (mI M 27 (((mI M 22 9) + 1).toNat))) 22 13 = mI M 22 13 := rfl
    have k32 : mI (sI (sI (sI M 22 9 ((mI M 22 9) + 1)) 22 10 (mI M 26 (((mI M 22 9) + 1).toNat))) 22 11 (mI M 27 (((mI M 22 9) + 1).toNat))) 22 14 = mI M 22 14 := rfl
    exact ⟨_, rfl, hB24, kp19, kp20, kp21, kp22, kp23, by omega, by omega, by omega, by omega, by omega, by first | exact RS.take hR p0 kp21 kp22 kp23 rfl rfl rfl rfl rfl | (exfalso; omega)⟩

set_option maxRecDepth 4000 in
theorem sfX4_failedF {l : Launch} {M : Mem} (hB : Box M) (g : Nat → Int) (n p : Int) (hR : RS g n M p) (w : Int)  : Call l mdX4_failed [aR 22, aI w] M (fun q N => ∃ r : Int, q = some (aI r) ∧ BF fQ M N ∧ mI N 24 = mI M 24 ∧ mI N 25 = mI M 25 ∧ mI N 26 = mI M 26 ∧ mI N 27 = mI M 27 ∧ mI N 28 = mI M 28 ∧ 0 ≤ r ∧ r ≤ 0 ∧ 0 ≤ mI N 22 9 ∧ mI N 22 13 = mI M 22 13 ∧ mI N 22 14 = mI M 22 14 ∧ mI N 22 7 = w ∧ mI N 22 8 = p) := by
  have hB0 : BF fQ M M := BF.start hB
  refine Call.of [some (aR 22), some (aI w)] rfl (Nat.le_of_ble_eq_true rfl) rfl ?_
  refine vc_ok (fun hoM hoS hoL => ?_)
  have hr1 : -2147483648 ≤ w ∧ w < 2147483648 := hoL 1 _ rfl
  have ct1 := RS.ct hR
  unfold CT at ct1
  have rg2 := RS.rg hR
  refine vc_aload_n dX4_failed_0 rfl ?_
  refine vc_iload_n dX4_failed_1 rfl ?_
  refine vc_putI dX4_failed_2 (plX4_43 _ rfl) (s_22 hB0.1.1) rfl ?_
  have kp3 : mI (sI M 22 7 w) 24 = mI M 24 := (kp_sI rfl rfl)
  have kp4 : mI (sI M 22 7 w) 25 = mI M 25 := (kp_sI rfl rfl)
  have kp5 : mI (sI M 22 7 w) 26 = mI M 26 := (kp_sI rfl rfl)
  have kp6 : mI (sI M 22 7 w) 27 = mI M 27 := (kp_sI rfl rfl)
  have kp7 : mI (sI M 22 7 w) 28 = mI M 28 := (kp_sI rfl rfl)
  have hB8 : BF fQ M (sI M 22 7 w) := BF.w22_7 hB0 rfl
  refine vc_aload_n dX4_failed_5 rfl ?_
  refine vc_aload_n dX4_failed_6 rfl ?_
  refine vc_getR dX4_failed_7 flX4_30 (s_22 hB8.1.1) rfl (r_22_6 hB8.1.1) ?_
  refine vc_aload_n dX4_failed_10 rfl ?_
  refine vc_getI dX4_failed_11 flX4_62 (s_22 hB8.1.1) rfl ?_
  refine vc_topI (mI M 22 9) rfl ?_
  have k9 : (-1) ≤ mI M 22 9 ∧ mI M 22 9 ≤ 300 := b22_9 (M := (sI M 22 7 w)) hB8.1
  refine vc_iaload dX4_failed_14 (s_28 hB8.1.1) (by omega) (by omega) ?_
  refine vc_topI (mI M 28 ((mI M 22 9).toNat)) rfl ?_
  have k10 : mI M 28 ((mI M 22 9).toNat) = mI M 28 ((mI M 22 9).toNat) := congrFun kp7 ((mI M 22 9).toNat)
  refine vc_putI dX4_failed_15 (plX4_47 _ rfl) (s_22 hB8.1.1) rfl ?_
  have kp11 : mI (sI (sI M 22 7 w) 22 8 (mI M 28 ((mI M 22 9).toNat))) 24 = mI M 24 := (kp_sI kp3 rfl)
  have kp12 : mI (sI (sI M 22 7 w) 22 8 (mI M 28 ((mI M 22 9).toNat))) 25 = mI M 25 := (kp_sI kp4 rfl)
  have kp13 : mI (sI (sI M 22 7 w) 22 8 (mI M 28 ((mI M 22 9).toNat))) 26 = mI M 26 := (kp_sI kp5 rfl)
  have kp14 : mI (sI (sI M 22 7 w) 22 8 (mI M 28 ((mI M 22 9).toNat))) 27 = mI M 27 := (kp_sI kp6 rfl)
  have kp15 : mI (sI (sI M 22 7 w) 22 8 (mI M 28 ((mI M 22 9).toNat))) 28 = mI M 28 := (kp_sI kp7 rfl)
  have hB16 : BF fQ M (sI (sI M 22 7 w) 22 8 (mI M 28 ((mI M 22 9).toNat))) := BF.w22_8 hB8 rfl
  refine vc_iconst dX4_failed_18 rfl ?_
  refine vc_zret dX4_failed_19 rfl (by first | decide | omega) (Nat.le_of_ble_eq_true rfl) (Nat.le_of_ble_eq_true rfl) ?_
  have k17 : mI (sI (sI M 22 7 w) 22 8 (mI M 28 ((mI M 22 9).toNat))) 22 7 = w := rfl
  have k18 : mI (sI (sI M 22 7 w) 22 8 (mI M 28 ((mI M 22 9).toNat))) 22 8 = mI M 28 ((mI M 22 9).toNat) := rfl
  have k19 : mI (sI (sI M 22 7 w) 22 8 (mI M 28 ((mI M 22 9).toNat))) 22 9 = mI M 22 9 := rfl
  have k20 : mI (sI (sI M 22 7 w) 22 8 (mI M 28 ((mI M 22 9).toNat))) 22 10 = mI M 22 10 := rfl
  have k21 : mI (sI (sI M 22 7 w) 22 8 (mI M 28 ((mI M 22 9).toNat))) 22 11 = mI M 22 11 := rfl
  have k22 : mI (sI (sI M 22 7 w) 22 8 (mI M 28 ((mI M 22 9).toNat))) 22 12 = mI M 22 12 := rfl
  have k23 : mI (sI (sI M 22 7 w) 22 8 (mI M 28 ((mI M 22 9).toNat))) 22 13 = mI M 22 13 := rfl
  have k24 : mI (sI (sI M 22 7 w) 22 8 (mI M 28 ((mI M 22 9).toNat))) 22 14 = mI M 22 14 := rfl
  exact ⟨_, rfl, hB16, kp11, kp12, kp13, kp14, kp15, by omega, by omega, by omega, by omega, by omega, by omega, (by have hpl := RS.pl hR; first | exact hpl | omega)⟩

set_option maxRecDepth 4000 in
theorem sfX4_keepF {l : Launch} {M : Mem} (hB : Box M) (g : Nat → Int) (n p : Int) (hR : RS g n M p) (c : Int) (v : Int) (p0 : 0 ≤ c) (p1 : c ≤ 4) (p2 : mI M 22 13 ≤ 23) : Call l mdX4_keep [aR 22, aI c, aI v] M (fun q N => q = none ∧ BF fQ M N ∧ mI N 24 = mI M 24 ∧ mI N 26 = mI M 26 ∧ mI N 27 = mI M 27 ∧ mI N 28 = mI M 28 ∧ 0 ≤ mI N 22 9 ∧ mI N 22 13 = mI M 22 13 ∧ mI N 22 14 = mI M 22 14 ∧ W25 M N c v ∧ RS g n N p) := by
  have hB0 : BF fQ M M := BF.start hB
  refine Call.of [some (aR 22), some (aI c), some (aI v), none] rfl (Nat.le_of_ble_eq_true rfl) rfl ?_
  refine vc_ok (fun hoM hoS hoL => ?_)
  have hr2 : -2147483648 ≤ v ∧ v < 2147483648 := hoL 2 _ rfl
  have hrg := RS.rg hR
  refine vc_iconst dX4_keep_0 rfl ?_
  refine vc_aload_n dX4_keep_1 rfl ?_
  refine vc_getI dX4_keep_2 flX4_53 (s_22 hB0.1.1) rfl ?_
  have k1 : 0 ≤ mI M 22 13 ∧ mI M 22 13 ≤ 24 := b22_13 (M := M) hB0.1
  refine vc_imulE dX4_keep_5 (by omega) (by omega) ?_
  refine vc_iload_n dX4_keep_6 rfl ?_
  refine vc_iaddE dX4_keep_7 (by omega) (by omega) ?_
  refine vc_nameI (fun x2 ex2 => ?_)
  refine vc_istore_n dX4_keep_8 (by decide) rfl (show _ = [some (aR 22), some (aI c), some (aI v), some (aI x2)] from rfl) ?_
  refine vc_iload_n dX4_keep_9 rfl ?_
  refine vc_aload_n dX4_keep_10 rfl ?_
  refine vc_getR dX4_keep_11 flX4_21 (s_22 hB0.1.1) rfl (r_22_3 hB0.1.1) ?_
  refine vc_alen dX4_keep_14 (s_25 hB0.1.1) rfl ?_
  refine vc_topI 120 rfl ?_
  refine vc_icmp_ge dX4_keep_15 (fun h3 => ?_) (fun h3 => ?_)
  · refine vc_vret dX4_keep_25 rfl (Nat.le_of_ble_eq_true rfl) (Nat.le_of_ble_eq_true rfl) ?_
    exfalso; omega
  · refine vc_aload_n dX4_keep_18 rfl ?_
    refine vc_getR dX4_keep_19 flX4_21 (s_22 hB0.1.1) rfl (r_22_3 hB0.1.1) ?_
    refine vc_iload_n dX4_keep_22 rfl ?_
    refine vc_iload_n dX4_keep_23 rfl ?_
    refine vc_iastore dX4_keep_24 (s_25 hB0.1.1) (by omega) (by omega) ?_
    have kp4 : mI (sI M 25 x2.toNat v) 24 = mI M 24 := (kp_sI rfl rfl)
    have kp5 : mI (sI M 25 x2.toNat v) 26 = mI M 26 := (kp_sI rfl rfl)
    have kp6 : mI (sI M 25 x2.toNat v) 27 = mI M 27 := (kp_sI rfl rfl)
    have kp7 : mI (sI M 25 x2.toNat v) 28 = mI M 28 := (kp_sI rfl rfl)
    have hB8 : BF fQ M (sI M 25 x2.toNat v) := BF.w25 hB0 (fun _ => rfl) _
    refine vc_vret dX4_keep_25 rfl (Nat.le_of_ble_eq_true rfl) (Nat.le_of_ble_eq_true rfl) ?_
    have k9 : mI (sI M 25 x2.toNat v) 22 7 = mI M 22 7 := rfl
    have k10 : mI (sI M 25 x2.toNat v) 22 8 = mI M 22 8 := rfl
    have k11 : mI (sI M 25 x2.toNat v) 22 9 = mI M 22 9 := rfl
    have k12 : mI (sI M 25 x2.toNat v) 22 10 = mI M 22 10 := rfl
    have k13 : mI (sI M 25 x2.toNat v) 22 11 = mI M 22 11 := rfl
    have k14 : mI (sI M 25 x2.toNat v) 22 12 = mI M 22 12 := rfl
    have k15 : mI (sI M 25 x2.toNat v) 22 13 = mI M 22 13 := rfl
    have k16 : mI (sI M 25 x2.toNat v) 22 14 = mI M 22 14 := rfl
    exact ⟨rfl, hB8, kp4, kp5, kp6, kp7, by omega, by omega, by omega, ⟨fun i hi => by rw [mI_sI, if_pos (by omega)], fun i hi => by rw [mI_sI, if_neg (by omega)]⟩, RS.same hR kp5 kp6 kp7 rfl rfl rfl rfl rfl⟩

set_option maxRecDepth 4000 in
theorem sfX4_emitF {l : Launch} {M : Mem} (hB : Box M) (g : Nat → Int) (n p : Int) (hR : RS g n M p) (op : Int)  : Call l mdX4_emit [aR 22, aI op] M (fun q N => ∃ r : Int, q = some (aI r) ∧ BF fQ M N ∧ mI N 24 = mI M 24 ∧ mI N 25 = mI M 25 ∧ mI N 26 = mI M 26 ∧ mI N 27 = mI M 27 ∧ mI N 28 = mI M 28 ∧ 1 ≤ r ∧ r ≤ 1 ∧ 0 ≤ mI N 22 9 ∧ mI N 22 13 = mI M 22 13 ∧ mI N 22 14 = mI M 22 14 ∧ RS g n N p) := by
  have hB0 : BF fQ M M := BF.start hB
  refine Call.of [some (aR 22), some (aI op)] rfl (Nat.le_of_ble_eq_true rfl) rfl ?_
  refine vc_ok (fun hoM hoS hoL => ?_)
  have hr1 : -2147483648 ≤ op ∧ op < 2147483648 := hoL 1 _ rfl
  have hrg := RS.rg hR
  refine vc_aload_n dX4_emit_0 rfl ?_
  refine vc_getI dX4_emit_1 flX4_50 (s_22 hB0.1.1) rfl ?_
  have k1 : 0 ≤ mI M 22 12 ∧ mI M 22 12 ≤ 300 := b22_12 (M := M) hB0.1
  refine vc_aload_n dX4_emit_4 rfl ?_
  refine vc_getR dX4_emit_5 flX4_15 (s_22 hB0.1.1) rfl (r_22_1 hB0.1.1) ?_
  refine vc_alen dX4_emit_8 (s_23 hB0.1.1) rfl ?_
  refine vc_topI 300 rfl ?_
  refine vc_icmp_ge dX4_emit_9 (fun h2 => ?_) (fun h2 => ?_)
  · refine vc_iconst dX4_emit_32 rfl ?_
    refine vc_zret dX4_emit_33 rfl (by first | decide | omega) (Nat.le_of_ble_eq_true rfl) (Nat.le_of_ble_eq_true rfl) ?_
    exact ⟨_, rfl, hB0, rfl, rfl, rfl, rfl, rfl, by omega, by omega, by omega, by omega, by omega, RS.same hR rfl rfl rfl rfl rfl rfl rfl rfl⟩
  · refine vc_aload_n dX4_emit_12 rfl ?_
    refine vc_getR dX4_emit_13 flX4_15 (s_22 hB0.1.1) rfl (r_22_1 hB0.1.1) ?_
    refine vc_aload_n dX4_emit_16 rfl ?_
    refine vc_getI dX4_emit_17 flX4_50 (s_22 hB0.1.1) rfl ?_
    refine vc_iload_n dX4_emit_20 rfl ?_
    refine vc_iastore dX4_emit_21 (s_23 hB0.1.1) (by omega) (by omega) ?_
    have kp3 : mI (sI M 23 ((mI M 22 12).toNat) op) 24 = mI M 24 := (kp_sI rfl rfl)
    have kp4 : mI (sI M 23 ((mI M 22 12).toNat) op) 25 = mI M 25 := (kp_sI rfl rfl)
    have kp5 : mI (sI M 23 ((mI M 22 12).toNat) op) 26 = mI M 26 := (kp_sI rfl rfl)
    have kp6 : mI (sI M 23 ((mI M 22 12).toNat) op) 27 = mI M 27 := (kp_sI rfl rfl)
    have kp7 : mI (sI M 23 ((mI M 22 12).toNat) op) 28 = mI M 28 := (kp_sI rfl rfl)
    have hB8 : BF fQ M (sI M 23 ((mI M 22 12).toNat) op) := BF.w23 hB0 (fun _ => rfl) _
    refine vc_aload_n dX4_emit_22 rfl ?_
    refine vc_dup dX4_emit_23 rfl ?_
    refine vc_getI dX4_emit_24 flX4_50 (s_22 hB8.1.1) rfl ?_
    refine vc_topI (mI M 22 12) rfl ?_
    have k9 : 0 ≤ mI M 22 12 ∧ mI M 22 12 ≤ 300 := b22_12 (M := (sI M 23 ((mI M 22 12).toNat) op)) hB8.1
    refine vc_iconst dX4_emit_27 rfl ?_
    refine vc_iaddE dX4_emit_28 (by omega) (by omega) ?_
    refine vc_putI dX4_emit_29 (plX4_50 _ rfl) (s_22 hB8.1.1) rfl ?_
    have kp10 : mI (sI (sI M 23 ((mI M 22 12).toNat) op) 22 12 ((mI M 22 12) + 1)) 24 = mI M 24 := (kp_sI kp3 rfl)
    have kp11 : mI (sI (sI M 23 ((mI M 22 12).toNat) op) 22 12 ((mI M 22 12) + 1)) 25 = mI M 25 := (kp_sI kp4 rfl)
    have kp12 : mI (sI (sI M 23 ((mI M 22 12).toNat) op) 22 12 ((mI M 22 12) + 1)) 26 = mI M 26 := (kp_sI kp5 rfl)
    have kp13 : mI (sI (sI M 23 ((mI M 22 12).toNat) op) 22 12 ((mI M 22 12) + 1)) 27 = mI M 27 := (kp_sI kp6 rfl)
    have kp14 : mI (sI (sI M 23 ((mI M 22 12).toNat) op) 22 12 ((mI M 22 12) + 1)) 28 = mI M 28 := (kp_sI kp7 rfl)
    have hB15 : BF fQ M (sI (sI M 23 ((mI M 22 12).toNat) op) 22 12 ((mI M 22 12) + 1)) := BF.w22_12 hB8 rfl (by omega) (by omega)
    refine vc_iconst dX4_emit_32 rfl ?_
    refine vc_zret dX4_emit_33 rfl (by first | decide | omega) (Nat.le_of_ble_eq_true rfl) (Nat.le_of_ble_eq_true rfl) ?_
    have k16 : mI (sI (sI M 23 ((mI M 22 12).toNat) op) 22 12 ((mI M 22 12) + 1)) 22 7 = mI M 22 7 := rfl
    have k17 : mI (sI (sI M 23 ((mI M 22 12).toNat) op) 22 12 ((mI M 22 12) + 1)) 22 8 = mI M 22 8 := rfl
    have k18 : mI (sI (sI M 23 ((mI M 22 12).toNat) op) 22 12 ((mI M 22 12) + 1)) 22 9 = mI M 22 9 := rfl
    have k19 : mI (sI (sI M 23 ((mI M 22 12).toNat) op) 22 12 ((mI M 22 12) + 1)) 22 10 = mI M 22 10 := rfl
    have k20 : mI (sI (sI M 23 ((mI M 22 12).toNat) op) 22 12 ((mI M 22 12) + 1)) 22 11 = mI M 22 11 := rfl
    have k21 : mI (sI (sI M 23 ((mI M 22 12).toNat) op) 22 12 ((mI M 22 12) + 1)) 22 12 = (mI M 22 12) + 1 := rfl
    have k22 : mI (sI (sI M 23 ((mI M 22 12).toNat) op) 22 12 ((mI M 22 12) + 1)) 22 13 = mI M 22 13 := rfl
    have k23 : mI (sI (sI M 23 ((mI M 22 12).toNat) op) 22 12 ((mI M 22 12) + 1)) 22 14 = mI M 22 14 := rfl
    exact ⟨_, rfl, hB15, kp10, kp11, kp12, kp13, kp14, by omega, by omega, by omega, by omega, by omega, RS.same hR kp12 kp13 kp14 rfl rfl rfl rfl rfl⟩

set_option maxRecDepth 4000 in
theorem sfX4_readNumberF {l : Launch} {M : Mem} (hB : Box M) (g : Nat → Int) (n p : Int) (hR : RS g n M p) (c : Int) (lo : Int) (hi : Int) (p0 : 0 ≤ c) (p1 : c ≤ 4) (p2 : mI M 22 13 ≤ 23) : Call l mdX4_readNumber [aR 22, aI c, aI lo, aI hi] M (fun q N => ∃ r : Int, q = some (aI r) ∧ BF fQ M N ∧ mI N 24 = mI M 24 ∧ mI N 26 = mI M 26 ∧ mI N 27 = mI M 27 ∧ mI N 28 = mI M 28 ∧ 0 ≤ r ∧ r ≤ 1 ∧ 0 ≤ mI N 22 9 ∧ mI N 22 13 = mI M 22 13 ∧ mI N 22 14 = mI M 22 14 ∧ (r = 1 → W25 M N c (tk g n p - 1000)) ∧ CR g n N r (sNum (tk g n) (nx g n) lo hi p)) := by
  have hB0 : BF fQ M M := BF.start hB
  refine Call.of [some (aR 22), some (aI c), some (aI lo), some (aI hi)] rfl (Nat.le_of_ble_eq_true rfl) rfl ?_
  refine vc_ok (fun hoM hoS hoL => ?_)
  have hr2 : -2147483648 ≤ lo ∧ lo < 2147483648 := hoL 2 _ rfl
  have hr3 : -2147483648 ≤ hi ∧ hi < 2147483648 := hoL 3 _ rfl
  have ct1 := RS.ct hR
  unfold CT at ct1
  have rg2 := RS.rg hR
  refine vc_aload_n dX4_readNumber_0 rfl ?_
  refine vc_getI dX4_readNumber_1 flX4_69 (s_22 hB0.1.1) rfl ?_
  refine vc_iconst dX4_readNumber_4 rfl ?_
  refine vc_icmp_eq dX4_readNumber_5 (fun h3 => ?_) (fun h3 => ?_)
  · refine vc_aload_n dX4_readNumber_14 rfl ?_
    refine vc_getI dX4_readNumber_15 flX4_119 (s_22 hB0.1.1) rfl ?_
    refine vc_iload_n dX4_readNumber_18 rfl ?_
    refine vc_icmp_lt dX4_readNumber_19 (fun h4 => ?_) (fun h4 => ?_)
    · refine vc_aload_n dX4_readNumber_30 rfl ?_
      refine vc_iconst dX4_readNumber_31 rfl ?_
      refine vc_cVI dX4_readNumber_32 (sfX4_failedF (M := M) hB0.1  g n p hR 2 ) rfl okX4_failed viX4_failed lkX4_122 (s_22 hB0.1.1) cl_4 rfl (Nat.le_of_ble_eq_true rfl) ⟨rfl, rfl⟩ (Nat.le_of_ble_eq_true rfl) (Nat.le_of_ble_eq_true rfl) (Nat.le_of_ble_eq_true rfl) ?_
      rintro x5 M6 ⟨hB7, kp8, kp9, kp10, kp11, kp12, h13, h14, h15, h16, h17, h18, h19⟩
      have hB20 : BF fQ M M6 := BF.go hB0 hB7
      have kp21 : mI M6 24 = mI M 24 := kp_go rfl kp8
      have kp22 : mI M6 26 = mI M 26 := kp_go rfl kp10
      have kp23 : mI M6 27 = mI M 27 := kp_go rfl kp11
      have kp24 : mI M6 28 = mI M 28 := kp_go rfl kp12
      refine vc_zret dX4_readNumber_35 rfl (by first | decide | omega) (Nat.le_of_ble_eq_true rfl) (Nat.le_of_ble_eq_true rfl) ?_
      exact ⟨_, rfl, hB20, kp21, kp22, kp23, kp24, by omega, by omega, by omega, by omega, by omega, fun hr => absurd hr (by omega), CRb (e := 2) (q := p) (by omega) h18 h19 (by omega) (by unfold sNum; (repeat' split) <;> first | rfl | (exfalso; omega))⟩
    · refine vc_aload_n dX4_readNumber_22 rfl ?_
      refine vc_getI dX4_readNumber_23 flX4_119 (s_22 hB0.1.1) rfl ?_
      refine vc_iload_n dX4_readNumber_26 rfl ?_
      refine vc_icmp_le dX4_readNumber_27 (fun h25 => ?_) (fun h25 => ?_)
      · refine vc_aload_n dX4_readNumber_36 rfl ?_
        refine vc_iload_n dX4_readNumber_37 rfl ?_
        refine vc_aload_n dX4_readNumber_38 rfl ?_
        refine vc_getI dX4_readNumber_39 flX4_119 (s_22 hB0.1.1) rfl ?_
        refine vc_cVU dX4_readNumber_42 (sfX4_keepF (M := M) hB0.1  g n p hR c (mI M 22 11) (by omega) (by omega) (by omega)) rfl okX4_keep viX4_keep lkX4_125 (s_22 hB0.1.1) cl_4 rfl (Nat.le_of_ble_eq_true rfl) ⟨rfl, rfl⟩ (Nat.le_of_ble_eq_true rfl) (Nat.le_of_ble_eq_true rfl) (Nat.le_of_ble_eq_true rfl) ?_
        rintro M26 ⟨hB27, kp28, kp29, kp30, kp31, h32, h33, h34, h35, h36⟩
        have hB37 : BF fQ M M26 := BF.go hB0 hB27
        have kp38 : mI M26 24 = mI M 24 := kp_go rfl kp28
        have kp39 : mI M26 26 = mI M 26 := kp_go rfl kp29
        have kp40 : mI M26 27 = mI M 27 := kp_go rfl kp30
        have kp41 : mI M26 28 = mI M 28 := kp_go rfl kp31
        refine vc_aload_n dX4_readNumber_45 rfl ?_
        refine vc_cVI dX4_readNumber_46 (sfX4_takeTokenF (M := M26) hB37.1  g n p h36 (by omega)) rfl okX4_takeToken viX4_takeToken lkX4_65 (s_22 hB37.1.1) cl_4 rfl (Nat.le_of_ble_eq_true rfl) ⟨rfl, rfl⟩ (Nat.le_of_ble_eq_true rfl) (Nat.le_of_ble_eq_true rfl) (Nat.le_of_ble_eq_true rfl) ?_
        rintro x42 M43 ⟨hB44, kp45, kp46, kp47, kp48, kp49, h50, h51, h52, h53, h54, h55⟩
        have hB56 : BF fQ M M43 := BF.go hB37 hB44
        have kp57 : mI M43 24 = mI M 24 := kp_go kp38 kp45
        have kp58 : mI M43 26 = mI M 26 := kp_go kp39 kp47
        have kp59 : mI M43 27 = mI M 27 := kp_go kp40 kp48
        have kp60 : mI M43 28 = mI M 28 := kp_go kp41 kp49
        refine vc_zret dX4_readNumber_49 rfl (by first | decide | omega) (Nat.le_of_ble_eq_true rfl) (Nat.le_of_ble_eq_true rfl) ?_
        exact ⟨_, rfl, hB56, kp57, kp58, kp59, kp60, by omega, by omega, by omega, by omega, by omega, fun _ => ⟨fun i hi => ((congrFun kp46 i).trans (h35.1 i (by omega))).trans (by omega), fun i hi => ((congrFun kp46 i).trans (h35.2 i (by omega)))⟩, CRo (q := (nx g n p)) (by omega) h55 (by unfold sNum; (repeat' split) <;> first | rfl | (exfalso; omega))⟩
      · refine vc_aload_n dX4_readNumber_30 rfl ?_
        refine vc_iconst dX4_readNumber_31 rfl ?_
        refine vc_cVI dX4_readNumber_32 (sfX4_failedF (M := M) hB0.1  g n p hR 2 ) rfl okX4_failed viX4_failed lkX4_122 (s_22 hB0.1.1) cl_4 rfl (Nat.le_of_ble_eq_true rfl) ⟨rfl, rfl⟩ (Nat.le_of_ble_eq_true rfl) (Nat.le_of_ble_eq_true rfl) (Nat.le_of_ble_eq_true rfl) ?_
        rintro x61 M62 ⟨hB63, kp64, kp65, kp66, kp67, kp68, h69, h70, h71, h72, h73, h74, h75⟩
        have hB76 : BF fQ M M62 := BF.go hB0 hB63
        have kp77 : mI M62 24 = mI M 24 := kp_go rfl kp64
        have kp78 : mI M62 26 = mI M 26 := kp_go rfl kp66
        have kp79 : mI M62 27 = mI M 27 := kp_go rfl kp67
        have kp80 : mI M62 28 = mI M 28 := kp_go rfl kp68
        refine vc_zret dX4_readNumber_35 rfl (by first | decide | omega) (Nat.le_of_ble_eq_true rfl) (Nat.le_of_ble_eq_true rfl) ?_
        exact ⟨_, rfl, hB76, kp77, kp78, kp79, kp80, by omega, by omega, by omega, by omega, by omega, fun hr => absurd hr (by omega), CRb (e := 2) (q := p) (by omega) h74 h75 (by omega) (by unfold sNum; (repeat' split) <;> first | rfl | (exfalso; omega))⟩
  · refine vc_aload_n dX4_readNumber_8 rfl ?_
    refine vc_iconst dX4_readNumber_9 rfl ?_
    refine vc_cVI dX4_readNumber_10 (sfX4_failedF (M := M) hB0.1  g n p hR 1 ) rfl okX4_failed viX4_failed lkX4_122 (s_22 hB0.1.1) cl_4 rfl (Nat.le_of_ble_eq_true rfl) ⟨rfl, rfl⟩ (Nat.le_of_ble_eq_true rfl) (Nat.le_of_ble_eq_true rfl) (Nat.le_of_ble_eq_true rfl) ?_
    rintro x81 M82 ⟨hB83, kp84, kp85, kp86, kp87, kp88, h89, h90, h91, h92, h93, h94, h95⟩
    have hB96 : BF fQ M M82 := BF.go hB0 hB83
    have kp97 : mI M82 24 = mI M 24 := kp_go rfl kp84
    have kp98 : mI M82 26 = mI M 26 := kp_go rfl kp86
    have kp99 : mI M82 27 = mI M 27 := kp_go rfl kp87
    have kp100 : mI M82 28 = mI M 28 := kp_go rfl kp88
    refine vc_zret dX4_readNumber_13 rfl (by first | decide | omega) (Nat.le_of_ble_eq_true rfl) (Nat.le_of_ble_eq_true rfl) ?_
    exact ⟨_, rfl, hB96, kp97, kp98, kp99, kp100, by omega, by omega, by omega, by omega, by omega, fun hr => absurd hr (by omega), CRb (e := 1) (q := p) (by omega) h94 h95 (by omega) (by unfold sNum; (repeat' split) <;> first | rfl | (exfalso; omega))⟩

set_option maxRecDepth 4000 in
theorem sfX4_readWordF {l : Launch} {M : Mem} (hB : Box M) (g : Nat → Int) (n p : Int) (hR : RS g n M p) (w : Int) (p0 : 0 ≤ w) (p1 : w ≤ 35) : Call l mdX4_readWord [aR 22, aI w] M (fun q N => ∃ r : Int, q = some (aI r) ∧ BF fQ M N ∧ mI N 24 = mI M 24 ∧ mI N 25 = mI M 25 ∧ mI N 26 = mI M 26 ∧ mI N 27 = mI M 27 ∧ mI N 28 = mI M 28 ∧ 0 ≤ r ∧ r ≤ 1 ∧ 0 ≤ mI N 22 9 ∧ mI N 22 13 = mI M 22 13 ∧ mI N 22 14 = mI M 22 14 ∧ TR g n N r (101 + w) p) := by
  have hB0 : BF fQ M M := BF.start hB
  refine Call.of [some (aR 22), some (aI w)] rfl (Nat.le_of_ble_eq_true rfl) rfl ?_
  refine vc_ok (fun hoM hoS hoL => ?_)
  have hr1 : -2147483648 ≤ w ∧ w < 2147483648 := hoL 1 _ rfl
  have ct1 := RS.ct hR
  unfold CT at ct1
  have rg2 := RS.rg hR
  refine vc_aload_n dX4_readWord_0 rfl ?_
  refine vc_getI dX4_readWord_1 flX4_69 (s_22 hB0.1.1) rfl ?_
  refine vc_iconst dX4_readWord_4 rfl ?_
  refine vc_icmp_ne dX4_readWord_5 (fun h3 => ?_) (fun h3 => ?_)
  · refine vc_aload_n dX4_readWord_16 rfl ?_
    refine vc_iconst dX4_readWord_17 rfl ?_
    refine vc_cVI dX4_readWord_18 (sfX4_failedF (M := M) hB0.1  g n p hR 1 ) rfl okX4_failed viX4_failed lkX4_122 (s_22 hB0.1.1) cl_4 rfl (Nat.le_of_ble_eq_true rfl) ⟨rfl, rfl⟩ (Nat.le_of_ble_eq_true rfl) (Nat.le_of_ble_eq_true rfl) (Nat.le_of_ble_eq_true rfl) ?_
    rintro x4 M5 ⟨hB6, kp7, kp8, kp9, kp10, kp11, h12, h13, h14, h15, h16, h17, h18⟩
    have hB19 : BF fQ M M5 := BF.go hB0 hB6
    have kp20 : mI M5 24 = mI M 24 := kp_go rfl kp7
    have kp21 : mI M5 25 = mI M 25 := kp_go rfl kp8
    have kp22 : mI M5 26 = mI M 26 := kp_go rfl kp9
    have kp23 : mI M5 27 = mI M 27 := kp_go rfl kp10
    have kp24 : mI M5 28 = mI M 28 := kp_go rfl kp11
    refine vc_zret dX4_readWord_21 rfl (by first | decide | omega) (Nat.le_of_ble_eq_true rfl) (Nat.le_of_ble_eq_true rfl) ?_
    exact ⟨_, rfl, hB19, kp20, kp21, kp22, kp23, kp24, by omega, by omega, by omega, by omega, by omega, Or.inr ⟨by omega, by omega, h17, h18⟩⟩
  · refine vc_aload_n dX4_readWord_8 rfl ?_
    refine vc_getI dX4_readWord_9 flX4_119 (s_22 hB0.1.1) rfl ?_
    refine vc_iload_n dX4_readWord_12 rfl ?_
    refine vc_icmp_eq dX4_readWord_13 (fun h25 => ?_) (fun h25 => ?_)
    · refine vc_aload_n dX4_readWord_22 rfl ?_
      refine vc_cVI dX4_readWord_23 (sfX4_takeTokenF (M := M) hB0.1  g n p hR (by omega)) rfl okX4_takeToken viX4_takeToken lkX4_65 (s_22 hB0.1.1) cl_4 rfl (Nat.le_of_ble_eq_true rfl) ⟨rfl, rfl⟩ (Nat.le_of_ble_eq_true rfl) (Nat.le_of_ble_eq_true rfl) (Nat.le_of_ble_eq_true rfl) ?_
      rintro x26 M27 ⟨hB28, kp29, kp30, kp31, kp32, kp33, h34, h35, h36, h37, h38, h39⟩
      have hB40 : BF fQ M M27 := BF.go hB0 hB28
      have kp41 : mI M27 24 = mI M 24 := kp_go rfl kp29
      have kp42 : mI M27 25 = mI M 25 := kp_go rfl kp30
      have kp43 : mI M27 26 = mI M 26 := kp_go rfl kp31
      have kp44 : mI M27 27 = mI M 27 := kp_go rfl kp32
      have kp45 : mI M27 28 = mI M 28 := kp_go rfl kp33
      refine vc_zret dX4_readWord_26 rfl (by first | decide | omega) (Nat.le_of_ble_eq_true rfl) (Nat.le_of_ble_eq_true rfl) ?_
      exact ⟨_, rfl, hB40, kp41, kp42, kp43, kp44, kp45, by omega, by omega, by omega, by omega, by omega, Or.inl ⟨by omega, by omega, h39⟩⟩
    · refine vc_aload_n dX4_readWord_16 rfl ?_
      refine vc_iconst dX4_readWord_17 rfl ?_
      refine vc_cVI dX4_readWord_18 (sfX4_failedF (M := M) hB0.1  g n p hR 1 ) rfl okX4_failed viX4_failed lkX4_122 (s_22 hB0.1.1) cl_4 rfl (Nat.le_of_ble_eq_true rfl) ⟨rfl, rfl⟩ (Nat.le_of_ble_eq_true rfl) (Nat.le_of_ble_eq_true rfl) (Nat.le_of_ble_eq_true rfl) ?_
      rintro x46 M47 ⟨hB48, kp49, kp50, kp51, kp52, kp53, h54, h55, h56, h57, h58, h59, h60⟩
      have hB61 : BF fQ M M47 := BF.go hB0 hB48
      have kp62 : mI M47 24 = mI M 24 := kp_go rfl kp49
      have kp63 : mI M47 25 = mI M 25 := kp_go rfl kp50
      have kp64 : mI M47 26 = mI M 26 := kp_go rfl kp51
      have kp65 : mI M47 27 = mI M 27 := kp_go rfl kp52
      have kp66 : mI M47 28 = mI M 28 := kp_go rfl kp53
      refine vc_zret dX4_readWord_21 rfl (by first | decide | omega) (Nat.le_of_ble_eq_true rfl) (Nat.le_of_ble_eq_true rfl) ?_
      exact ⟨_, rfl, hB61, kp62, kp63, kp64, kp65, kp66, by omega, by omega, by omega, by omega, by omega, Or.inr ⟨by omega, by omega, h59, h60⟩⟩

set_option maxRecDepth 4000 in
theorem sfX4_readSignF {l : Launch} {M : Mem} (hB : Box M) (g : Nat → Int) (n p : Int) (hR : RS g n M p) (s : Int) (p0 : 0 ≤ s) (p1 : s ≤ 255) : Call l mdX4_readSign [aR 22, aI s] M (fun q N => ∃ r : Int, q = some (aI r) ∧ BF fQ M N ∧ mI N 24 = mI M 24 ∧ mI N 25 = mI M 25 ∧ mI N 26 = mI M 26 ∧ mI N 27 = mI M 27 ∧ mI N 28 = mI M 28 ∧ 0 ≤ r ∧ r ≤ 1 ∧ 0 ≤ mI N 22 9 ∧ mI N 22 13 = mI M 22 13 ∧ mI N 22 14 = mI M 22 14 ∧ TR g n N r (s - 300) p) := by
  have hB0 : BF fQ M M := BF.start hB
  refine Call.of [some (aR 22), some (aI s)] rfl (Nat.le_of_ble_eq_true rfl) rfl ?_
  refine vc_ok (fun hoM hoS hoL => ?_)
  have hr1 : -2147483648 ≤ s ∧ s < 2147483648 := hoL 1 _ rfl
  have ct1 := RS.ct hR
  unfold CT at ct1
  have rg2 := RS.rg hR
  refine vc_aload_n dX4_readSign_0 rfl ?_
  refine vc_iload_n dX4_readSign_1 rfl ?_
  refine vc_cVI dX4_readSign_2 (sfX4_isSignF (M := M) hB0.1  s ) rfl okX4_isSign viX4_isSign lkX4_163 (s_22 hB0.1.1) cl_4 rfl (Nat.le_of_ble_eq_true rfl) ⟨rfl, rfl⟩ (Nat.le_of_ble_eq_true rfl) (Nat.le_of_ble_eq_true rfl) (Nat.le_of_ble_eq_true rfl) ?_
  rintro x3 _ ⟨rfl, h4, h5, h6⟩
  refine vc_if_ne dX4_readSign_5 (fun h7 => ?_) (fun h7 => ?_)
  · refine vc_aload_n dX4_readSign_14 rfl ?_
    refine vc_cVI dX4_readSign_15 (sfX4_takeTokenF (M := M) hB0.1  g n p hR (by omega)) rfl okX4_takeToken viX4_takeToken lkX4_65 (s_22 hB0.1.1) cl_4 rfl (Nat.le_of_ble_eq_true rfl) ⟨rfl, rfl⟩ (Nat.le_of_ble_eq_true rfl) (Nat.le_of_ble_eq_true rfl) (Nat.le_of_ble_eq_true rfl) ?_
    rintro x8 M9 ⟨hB10, kp11, kp12, kp13, kp14, kp15, h16, h17, h18, h19, h20, h21⟩
    have hB22 : BF fQ M M9 := BF.go hB0 hB10
    have kp23 : mI M9 24 = mI M 24 := kp_go rfl kp11
    have kp24 : mI M9 25 = mI M 25 := kp_go rfl kp12
    have kp25 : mI M9 26 = mI M 26 := kp_go rfl kp13
    have kp26 : mI M9 27 = mI M 27 := kp_go rfl kp14
    have kp27 : mI M9 28 = mI M 28 := kp_go rfl kp15
    refine vc_zret dX4_readSign_18 rfl (by first | decide | omega) (Nat.le_of_ble_eq_true rfl) (Nat.le_of_ble_eq_true rfl) ?_
    exact ⟨_, rfl, hB22, kp23, kp24, kp25, kp26, kp27, by omega, by omega, by omega, by omega, by omega, Or.inl ⟨by omega, by omega, h21⟩⟩
  · refine vc_aload_n dX4_readSign_8 rfl ?_
    refine vc_iconst dX4_readSign_9 rfl ?_
    refine vc_cVI dX4_readSign_10 (sfX4_failedF (M := M) hB0.1  g n p hR 1 ) rfl okX4_failed viX4_failed lkX4_122 (s_22 hB0.1.1) cl_4 rfl (Nat.le_of_ble_eq_true rfl) ⟨rfl, rfl⟩ (Nat.le_of_ble_eq_true rfl) (Nat.le_of_ble_eq_true rfl) (Nat.le_of_ble_eq_true rfl) ?_
    rintro x28 M29 ⟨hB30, kp31, kp32, kp33, kp34, kp35, h36, h37, h38, h39, h40, h41, h42⟩
    have hB43 : BF fQ M M29 := BF.go hB0 hB30
    have kp44 : mI M29 24 = mI M 24 := kp_go rfl kp31
    have kp45 : mI M29 25 = mI M 25 := kp_go rfl kp32
    have kp46 : mI M29 26 = mI M 26 := kp_go rfl kp33
    have kp47 : mI M29 27 = mI M 27 := kp_go rfl kp34
    have kp48 : mI M29 28 = mI M 28 := kp_go rfl kp35
    refine vc_zret dX4_readSign_13 rfl (by first | decide | omega) (Nat.le_of_ble_eq_true rfl) (Nat.le_of_ble_eq_true rfl) ?_
    exact ⟨_, rfl, hB43, kp44, kp45, kp46, kp47, kp48, by omega, by omega, by omega, by omega, by omega, Or.inr ⟨by omega, by omega, h41, h42⟩⟩

set_option maxRecDepth 4000 in
theorem sfX4_readCornerF {l : Launch} {M : Mem} (hB : Box M) (g : Nat → Int) (n p : Int) (hR : RS g n M p) (c : Int) (p0 : 0 ≤ c) (p1 : c ≤ 4) (p2 : mI M 22 13 ≤ 23) : Call l mdX4_readCorner [aR 22, aI c] M (fun q N => ∃ r : Int, q = some (aI r) ∧ BF fQ M N ∧ mI N 24 = mI M 24 ∧ mI N 26 = mI M 26 ∧ mI N 27 = mI M 27 ∧ mI N 28 = mI M 28 ∧ 0 ≤ r ∧ r ≤ 1 ∧ 0 ≤ mI N 22 9 ∧ mI N 22 13 = mI M 22 13 ∧ mI N 22 14 = mI M 22 14 ∧ (r = 1 → W25 M N c (tk g n p - 1000)) ∧ CR g n N r (sNum (tk g n) (nx g n) 0 15 p)) := by
  have hB0 : BF fQ M M := BF.start hB
  refine Call.of [some (aR 22), some (aI c)] rfl (Nat.le_of_ble_eq_true rfl) rfl ?_
  have hrg := RS.rg hR
  refine vc_aload_n dX4_readCorner_0 rfl ?_
  refine vc_iload_n dX4_readCorner_1 rfl ?_
  refine vc_iconst dX4_readCorner_2 rfl ?_
  refine vc_bipush dX4_readCorner_3 rfl ?_
  refine vc_cVI dX4_readCorner_5 (sfX4_readNumberF (M := M) hB0.1  g n p hR c 0 15 (by omega) (by omega) (by omega)) rfl okX4_readNumber viX4_readNumber lkX4_144 (s_22 hB0.1.1) cl_4 rfl (Nat.le_of_ble_eq_true rfl) ⟨rfl, rfl⟩ (Nat.le_of_ble_eq_true rfl) (Nat.le_of_ble_eq_true rfl) (Nat.le_of_ble_eq_true rfl) ?_
  rintro x1 M2 ⟨hB3, kp4, kp5, kp6, kp7, h8, h9, h10, h11, h12, h13, h14⟩
  have hB15 : BF fQ M M2 := BF.go hB0 hB3
  have kp16 : mI M2 24 = mI M 24 := kp_go rfl kp4
  have kp17 : mI M2 26 = mI M 26 := kp_go rfl kp5
  have kp18 : mI M2 27 = mI M 27 := kp_go rfl kp6
  have kp19 : mI M2 28 = mI M 28 := kp_go rfl kp7
  refine vc_zret dX4_readCorner_8 rfl (by first | decide | omega) (Nat.le_of_ble_eq_true rfl) (Nat.le_of_ble_eq_true rfl) ?_
  exact ⟨_, rfl, hB15, kp16, kp17, kp18, kp19, by omega, by omega, by omega, by omega, by omega, fun hr => h13 (by omega), by exact CR.cast h14 (by omega)⟩

theorem sTok_ok {k x : Int → Int} {t p : Int} (h : (sTok k x t p).1 = 0) : (sTok k x t p).2 = x p := by
  unfold sTok at h ⊢
  by_cases e : k p = t
  · rw [if_pos e]
  · rw [if_neg e] at h
    exact absurd h (by decide : ¬ (1 : Int) = 0)
set_option maxRecDepth 4000 in
theorem sfX4_readFacingF {l : Launch} {M : Mem} (hB : Box M) (g : Nat → Int) (n p : Int) (hR : RS g n M p)  (p0 : mI M 22 13 ≤ 23) : Call l mdX4_readFacing [aR 22] M (fun q N => ∃ r : Int, q = some (aI r) ∧ BF fQ M N ∧ mI N 24 = mI M 24 ∧ mI N 26 = mI M 26 ∧ mI N 27 = mI M 27 ∧ mI N 28 = mI M 28 ∧ 0 ≤ r ∧ r ≤ 1 ∧ 0 ≤ mI N 22 9 ∧ mI N 22 13 = mI M 22 13 ∧ mI N 22 14 = mI M 22 14 ∧ (r = 1 → W25 M N 2 (tk g n (nx g n p) - 1000)) ∧ CR g n N r (sFac (tk g n) (nx g n) p)) := by
  have hB0 : BF fQ M M := BF.start hB
  refine Call.of [some (aR 22)] rfl (Nat.le_of_ble_eq_true rfl) rfl ?_
  have hrg := RS.rg hR
  refine vc_aload_n dX4_readFacing_0 rfl ?_
  refine vc_bipush dX4_readFacing_1 rfl ?_
  refine vc_cVI dX4_readFacing_3 (sfX4_readWordF (M := M) hB0.1  g n p hR 17 (by omega) (by omega)) rfl okX4_readWord viX4_readWord lkX4_151 (s_22 hB0.1.1) cl_4 rfl (Nat.le_of_ble_eq_true rfl) ⟨rfl, rfl⟩ (Nat.le_of_ble_eq_true rfl) (Nat.le_of_ble_eq_true rfl) (Nat.le_of_ble_eq_true rfl) ?_
  rintro x1 M2 ⟨hB3, kp4, kp5, kp6, kp7, kp8, h9, h10, h11, h12, h13, h14⟩
  have hB15 : BF fQ M M2 := BF.go hB0 hB3
  have kp16 : mI M2 24 = mI M 24 := kp_go rfl kp4
  have kp17 : mI M2 26 = mI M 26 := kp_go rfl kp6
  have kp18 : mI M2 27 = mI M 27 := kp_go rfl kp7
  have kp19 : mI M2 28 = mI M 28 := kp_go rfl kp8
  refine vc_if_eq dX4_readFacing_6 (fun h20 => ?_) (fun h20 => ?_)
  · refine vc_iconst dX4_readFacing_23 rfl ?_
    refine vc_zret dX4_readFacing_24 rfl (by first | decide | omega) (Nat.le_of_ble_eq_true rfl) (Nat.le_of_ble_eq_true rfl) ?_
    exact ⟨_, rfl, hB15, kp16, kp17, kp18, kp19, by omega, by omega, by omega, by omega, by omega, fun hr => absurd hr (by omega), by unfold sFac; exact CR.b_bad h14.cr (by omega) (by omega)⟩
  · have e21 := CR.ok h14.cr (by omega)
    refine vc_aload_n dX4_readFacing_9 rfl ?_
    refine vc_iconst dX4_readFacing_10 rfl ?_
    refine vc_iconst dX4_readFacing_11 rfl ?_
    refine vc_iconst dX4_readFacing_12 rfl ?_
    refine vc_cVI dX4_readFacing_13 (sfX4_readNumberF (M := M2) hB15.1  g n ((sTok (tk g n) (nx g n) (101 + 17) p).2) e21.2 2 0 3 (by omega) (by omega) (by omega)) rfl okX4_readNumber viX4_readNumber lkX4_144 (s_22 hB15.1.1) cl_4 rfl (Nat.le_of_ble_eq_true rfl) ⟨rfl, rfl⟩ (Nat.le_of_ble_eq_true rfl) (Nat.le_of_ble_eq_true rfl) (Nat.le_of_ble_eq_true rfl) ?_
    rintro x22 M23 ⟨hB24, kp25, kp26, kp27, kp28, h29, h30, h31, h32, h33, h34, h35⟩
    have hB36 : BF fQ M M23 := BF.go hB15 hB24
    have kp37 : mI M23 24 = mI M 24 := kp_go kp16 kp25
    have kp38 : mI M23 26 = mI M 26 := kp_go kp17 kp26
    have kp39 : mI M23 27 = mI M 27 := kp_go kp18 kp27
    have kp40 : mI M23 28 = mI M 28 := kp_go kp19 kp28
    refine vc_if_eq dX4_readFacing_16 (fun h41 => ?_) (fun h41 => ?_)
    · refine vc_iconst dX4_readFacing_23 rfl ?_
      refine vc_zret dX4_readFacing_24 rfl (by first | decide | omega) (Nat.le_of_ble_eq_true rfl) (Nat.le_of_ble_eq_true rfl) ?_
      exact ⟨_, rfl, hB36, kp37, kp38, kp39, kp40, by omega, by omega, by omega, by omega, by omega, fun hr => absurd hr (by omega), by unfold sFac; exact CR.b_ok h14.cr (by omega) (CR.cast h35 (by omega))⟩
    · have e42 := CR.ok h35 (by omega)
      refine vc_iconst dX4_readFacing_19 rfl ?_
      refine vc_goto dX4_readFacing_20 ?_
      refine vc_zret dX4_readFacing_24 rfl (by first | decide | omega) (Nat.le_of_ble_eq_true rfl) (Nat.le_of_ble_eq_true rfl) ?_
      have hp2 : (sTok (tk g n) (nx g n) (101 + 17) p).2 = nx g n p := sTok_ok e21.1
      exact ⟨_, rfl, hB36, kp37, kp38, kp39, kp40, by omega, by omega, by omega, by omega, by omega, fun hr => ⟨fun i hi => by rw [← hp2]; exact ((h34 (by omega)).1 i (by omega)), fun i hi => (((h34 (by omega)).2 i (by omega)).trans (congrFun kp5 i))⟩, by unfold sFac; exact CR.b_ok h14.cr (by omega) (CR.cast h35 (by omega))⟩

set_option maxRecDepth 4000 in
theorem sfX4_readSideToF {l : Launch} {M : Mem} (hB : Box M) (g : Nat → Int) (n p : Int) (hR : RS g n M p) (c : Int) (p0 : 0 ≤ c) (p1 : c ≤ 4) (p2 : mI M 22 13 ≤ 23) : Call l mdX4_readSideTo [aR 22, aI c] M (fun q N => ∃ r : Int, q = some (aI r) ∧ BF fQ M N ∧ mI N 24 = mI M 24 ∧ mI N 26 = mI M 26 ∧ mI N 27 = mI M 27 ∧ mI N 28 = mI M 28 ∧ 0 ≤ r ∧ r ≤ 1 ∧ 0 ≤ mI N 22 9 ∧ mI N 22 13 = mI M 22 13 ∧ mI N 22 14 = mI M 22 14 ∧ (r = 1 → W25 M N c (rw1 (tk g n) 13 p)) ∧ CR g n N r (sSide (tk g n) (nx g n) p)) := by
  have hB0 : BF fQ M M := BF.start hB
  refine Call.of [some (aR 22), some (aI c)] rfl (Nat.le_of_ble_eq_true rfl) rfl ?_
  have ct1 := RS.ct hR
  unfold CT at ct1
  have rg2 := RS.rg hR
  refine vc_aload_n dX4_readSideTo_0 rfl ?_
  refine vc_getI dX4_readSideTo_1 flX4_69 (s_22 hB0.1.1) rfl ?_
  refine vc_iconst dX4_readSideTo_4 rfl ?_
  refine vc_icmp_ne dX4_readSideTo_5 (fun h3 => ?_) (fun h3 => ?_)
  · refine vc_aload_n dX4_readSideTo_35 rfl ?_
    refine vc_iconst dX4_readSideTo_36 rfl ?_
    refine vc_cVI dX4_readSideTo_37 (sfX4_failedF (M := M) hB0.1  g n p hR 1 ) rfl okX4_failed viX4_failed lkX4_122 (s_22 hB0.1.1) cl_4 rfl (Nat.le_of_ble_eq_true rfl) ⟨rfl, rfl⟩ (Nat.le_of_ble_eq_true rfl) (Nat.le_of_ble_eq_true rfl) (Nat.le_of_ble_eq_true rfl) ?_
    rintro x4 M5 ⟨hB6, kp7, kp8, kp9, kp10, kp11, h12, h13, h14, h15, h16, h17, h18⟩
    have hB19 : BF fQ M M5 := BF.go hB0 hB6
    have kp20 : mI M5 24 = mI M 24 := kp_go rfl kp7
    have kp21 : mI M5 26 = mI M 26 := kp_go rfl kp9
    have kp22 : mI M5 27 = mI M 27 := kp_go rfl kp10
    have kp23 : mI M5 28 = mI M 28 := kp_go rfl kp11
    refine vc_zret dX4_readSideTo_40 rfl (by first | decide | omega) (Nat.le_of_ble_eq_true rfl) (Nat.le_of_ble_eq_true rfl) ?_
    exact ⟨_, rfl, hB19, kp20, kp21, kp22, kp23, by omega, by omega, by omega, by omega, by omega, fun hr => absurd hr (by omega), CRb (e := 1) (q := p) (by omega) h17 h18 (by omega) (by unfold sSide; (repeat' split) <;> first | rfl | (exfalso; omega))⟩
  · refine vc_aload_n dX4_readSideTo_8 rfl ?_
    refine vc_getI dX4_readSideTo_9 flX4_119 (s_22 hB0.1.1) rfl ?_
    refine vc_bipush dX4_readSideTo_12 rfl ?_
    refine vc_icmp_lt dX4_readSideTo_14 (fun h24 => ?_) (fun h24 => ?_)
    · refine vc_aload_n dX4_readSideTo_35 rfl ?_
      refine vc_iconst dX4_readSideTo_36 rfl ?_
      refine vc_cVI dX4_readSideTo_37 (sfX4_failedF (M := M) hB0.1  g n p hR 1 ) rfl okX4_failed viX4_failed lkX4_122 (s_22 hB0.1.1) cl_4 rfl (Nat.le_of_ble_eq_true rfl) ⟨rfl, rfl⟩ (Nat.le_of_ble_eq_true rfl) (Nat.le_of_ble_eq_true rfl) (Nat.le_of_ble_eq_true rfl) ?_
      rintro x25 M26 ⟨hB27, kp28, kp29, kp30, kp31, kp32, h33, h34, h35, h36, h37, h38, h39⟩
      have hB40 : BF fQ M M26 := BF.go hB0 hB27
      have kp41 : mI M26 24 = mI M 24 := kp_go rfl kp28
      have kp42 : mI M26 26 = mI M 26 := kp_go rfl kp30
      have kp43 : mI M26 27 = mI M 27 := kp_go rfl kp31
      have kp44 : mI M26 28 = mI M 28 := kp_go rfl kp32
      refine vc_zret dX4_readSideTo_40 rfl (by first | decide | omega) (Nat.le_of_ble_eq_true rfl) (Nat.le_of_ble_eq_true rfl) ?_
      exact ⟨_, rfl, hB40, kp41, kp42, kp43, kp44, by omega, by omega, by omega, by omega, by omega, fun hr => absurd hr (by omega), CRb (e := 1) (q := p) (by omega) h38 h39 (by omega) (by unfold sSide; (repeat' split) <;> first | rfl | (exfalso; omega))⟩
    · refine vc_aload_n dX4_readSideTo_17 rfl ?_
      refine vc_getI dX4_readSideTo_18 flX4_119 (s_22 hB0.1.1) rfl ?_
      refine vc_bipush dX4_readSideTo_21 rfl ?_
      refine vc_icmp_gt dX4_readSideTo_23 (fun h45 => ?_) (fun h45 => ?_)
      · refine vc_aload_n dX4_readSideTo_35 rfl ?_
        refine vc_iconst dX4_readSideTo_36 rfl ?_
        refine vc_cVI dX4_readSideTo_37 (sfX4_failedF (M := M) hB0.1  g n p hR 1 ) rfl okX4_failed viX4_failed lkX4_122 (s_22 hB0.1.1) cl_4 rfl (Nat.le_of_ble_eq_true rfl) ⟨rfl, rfl⟩ (Nat.le_of_ble_eq_true rfl) (Nat.le_of_ble_eq_true rfl) (Nat.le_of_ble_eq_true rfl) ?_
        rintro x46 M47 ⟨hB48, kp49, kp50, kp51, kp52, kp53, h54, h55, h56, h57, h58, h59, h60⟩
        have hB61 : BF fQ M M47 := BF.go hB0 hB48
        have kp62 : mI M47 24 = mI M 24 := kp_go rfl kp49
        have kp63 : mI M47 26 = mI M 26 := kp_go rfl kp51
        have kp64 : mI M47 27 = mI M 27 := kp_go rfl kp52
        have kp65 : mI M47 28 = mI M 28 := kp_go rfl kp53
        refine vc_zret dX4_readSideTo_40 rfl (by first | decide | omega) (Nat.le_of_ble_eq_true rfl) (Nat.le_of_ble_eq_true rfl) ?_
        exact ⟨_, rfl, hB61, kp62, kp63, kp64, kp65, by omega, by omega, by omega, by omega, by omega, fun hr => absurd hr (by omega), CRb (e := 1) (q := p) (by omega) h59 h60 (by omega) (by unfold sSide; (repeat' split) <;> first | rfl | (exfalso; omega))⟩
      · refine vc_aload_n dX4_readSideTo_26 rfl ?_
        refine vc_getI dX4_readSideTo_27 flX4_119 (s_22 hB0.1.1) rfl ?_
        refine vc_bipush dX4_readSideTo_30 rfl ?_
        refine vc_icmp_ne dX4_readSideTo_32 (fun h66 => ?_) (fun h66 => ?_)
        · refine vc_aload_n dX4_readSideTo_41 rfl ?_
          refine vc_iload_n dX4_readSideTo_42 rfl ?_
          refine vc_aload_n dX4_readSideTo_43 rfl ?_
          refine vc_getI dX4_readSideTo_44 flX4_119 (s_22 hB0.1.1) rfl ?_
          refine vc_bipush dX4_readSideTo_47 rfl ?_
          refine vc_icmp_ne dX4_readSideTo_49 (fun h67 => ?_) (fun h67 => ?_)
          · refine vc_aload_n dX4_readSideTo_56 rfl ?_
            refine vc_getI dX4_readSideTo_57 flX4_119 (s_22 hB0.1.1) rfl ?_
            refine vc_bipush dX4_readSideTo_60 rfl ?_
            refine vc_isubE dX4_readSideTo_62 (by omega) (by omega) ?_
            refine vc_iconst dX4_readSideTo_63 rfl ?_
            refine vc_iaddE dX4_readSideTo_64 (by omega) (by omega) ?_
            refine vc_cVU dX4_readSideTo_65 (sfX4_keepF (M := M) hB0.1  g n p hR c (((mI M 22 11) - 23) + 1) (by omega) (by omega) (by omega)) rfl okX4_keep viX4_keep lkX4_125 (s_22 hB0.1.1) cl_4 rfl (Nat.le_of_ble_eq_true rfl) ⟨rfl, rfl⟩ (Nat.le_of_ble_eq_true rfl) (Nat.le_of_ble_eq_true rfl) (Nat.le_of_ble_eq_true rfl) ?_
            rintro M68 ⟨hB69, kp70, kp71, kp72, kp73, h74, h75, h76, h77, h78⟩
            have hB79 : BF fQ M M68 := BF.go hB0 hB69
            have kp80 : mI M68 24 = mI M 24 := kp_go rfl kp70
            have kp81 : mI M68 26 = mI M 26 := kp_go rfl kp71
            have kp82 : mI M68 27 = mI M 27 := kp_go rfl kp72
            have kp83 : mI M68 28 = mI M 28 := kp_go rfl kp73
            refine vc_aload_n dX4_readSideTo_68 rfl ?_
            refine vc_cVI dX4_readSideTo_69 (sfX4_takeTokenF (M := M68) hB79.1  g n p h78 (by omega)) rfl okX4_takeToken viX4_takeToken lkX4_65 (s_22 hB79.1.1) cl_4 rfl (Nat.le_of_ble_eq_true rfl) ⟨rfl, rfl⟩ (Nat.le_of_ble_eq_true rfl) (Nat.le_of_ble_eq_true rfl) (Nat.le_of_ble_eq_true rfl) ?_
            rintro x84 M85 ⟨hB86, kp87, kp88, kp89, kp90, kp91, h92, h93, h94, h95, h96, h97⟩
            have hB98 : BF fQ M M85 := BF.go hB79 hB86
            have kp99 : mI M85 24 = mI M 24 := kp_go kp80 kp87
            have kp100 : mI M85 26 = mI M 26 := kp_go kp81 kp89
            have kp101 : mI M85 27 = mI M 27 := kp_go kp82 kp90
            have kp102 : mI M85 28 = mI M 28 := kp_go kp83 kp91
            refine vc_zret dX4_readSideTo_72 rfl (by first | decide | omega) (Nat.le_of_ble_eq_true rfl) (Nat.le_of_ble_eq_true rfl) ?_
            exact ⟨_, rfl, hB98, kp99, kp100, kp101, kp102, by omega, by omega, by omega, by omega, by omega, fun _ => ⟨fun i hi => ((congrFun kp88 i).trans (h77.1 i (by omega))).trans (by unfold rw1; rw [if_pos rfl]; (repeat' split) <;> omega), fun i hi => ((congrFun kp88 i).trans (h77.2 i (by omega)))⟩, CRo (q := (nx g n p)) (by omega) h97 (by unfold sSide; (repeat' split) <;> first | rfl | (exfalso; omega))⟩
          · refine vc_iconst dX4_readSideTo_52 rfl ?_
            refine vc_goto dX4_readSideTo_53 ?_
            refine vc_cVU dX4_readSideTo_65 (sfX4_keepF (M := M) hB0.1  g n p hR c 3 (by omega) (by omega) (by omega)) rfl okX4_keep viX4_keep lkX4_125 (s_22 hB0.1.1) cl_4 rfl (Nat.le_of_ble_eq_true rfl) ⟨rfl, rfl⟩ (Nat.le_of_ble_eq_true rfl) (Nat.le_of_ble_eq_true rfl) (Nat.le_of_ble_eq_true rfl) ?_
            rintro M103 ⟨hB104, kp105, kp106, kp107, kp108, h109, h110, h111, h112, h113⟩
            have hB114 : BF fQ M M103 := BF.go hB0 hB104
            have kp115 : mI M103 24 = mI M 24 := kp_go rfl kp105
            have kp116 : mI M103 26 = mI M 26 := kp_go rfl kp106
            have kp117 : mI M103 27 = mI M 27 := kp_go rfl kp107
            have kp118 : mI M103 28 = mI M 28 := kp_go rfl kp108
            refine vc_aload_n dX4_readSideTo_68 rfl ?_
            refine vc_cVI dX4_readSideTo_69 (sfX4_takeTokenF (M := M103) hB114.1  g n p h113 (by omega)) rfl okX4_takeToken viX4_takeToken lkX4_65 (s_22 hB114.1.1) cl_4 rfl (Nat.le_of_ble_eq_true rfl) ⟨rfl, rfl⟩ (Nat.le_of_ble_eq_true rfl) (Nat.le_of_ble_eq_true rfl) (Nat.le_of_ble_eq_true rfl) ?_
            rintro x119 M120 ⟨hB121, kp122, kp123, kp124, kp125, kp126, h127, h128, h129, h130, h131, h132⟩
            have hB133 : BF fQ M M120 := BF.go hB114 hB121
            have kp134 : mI M120 24 = mI M 24 := kp_go kp115 kp122
            have kp135 : mI M120 26 = mI M 26 := kp_go kp116 kp124
            have kp136 : mI M120 27 = mI M 27 := kp_go kp117 kp125
            have kp137 : mI M120 28 = mI M 28 := kp_go kp118 kp126
            refine vc_zret dX4_readSideTo_72 rfl (by first | decide | omega) (Nat.le_of_ble_eq_true rfl) (Nat.le_of_ble_eq_true rfl) ?_
            exact ⟨_, rfl, hB133, kp134, kp135, kp136, kp137, by omega, by omega, by omega, by omega, by omega, fun _ => ⟨fun i hi => ((congrFun kp123 i).trans (h112.1 i (by omega))).trans (by unfold rw1; rw [if_pos rfl]; (repeat' split) <;> omega), fun i hi => ((congrFun kp123 i).trans (h112.2 i (by omega)))⟩, CRo (q := (nx g n p)) (by omega) h132 (by unfold sSide; (repeat' split) <;> first | rfl | (exfalso; omega))⟩
        · refine vc_aload_n dX4_readSideTo_35 rfl ?_
          refine vc_iconst dX4_readSideTo_36 rfl ?_
          refine vc_cVI dX4_readSideTo_37 (sfX4_failedF (M := M) hB0.1  g n p hR 1 ) rfl okX4_failed viX4_failed lkX4_122 (s_22 hB0.1.1) cl_4 rfl (Nat.le_of_ble_eq_true rfl) ⟨rfl, rfl⟩ (Nat.le_of_ble_eq_true rfl) (Nat.le_of_ble_eq_true rfl) (Nat.le_of_ble_eq_true rfl) ?_
          rintro x138 M139 ⟨hB140, kp141, kp142, kp143, kp144, kp145, h146, h147, h148, h149, h150, h151, h152⟩
          have hB153 : BF fQ M M139 := BF.go hB0 hB140
          have kp154 : mI M139 24 = mI M 24 := kp_go rfl kp141
          have kp155 : mI M139 26 = mI M 26 := kp_go rfl kp143
          have kp156 : mI M139 27 = mI M 27 := kp_go rfl kp144
          have kp157 : mI M139 28 = mI M 28 := kp_go rfl kp145
          refine vc_zret dX4_readSideTo_40 rfl (by first | decide | omega) (Nat.le_of_ble_eq_true rfl) (Nat.le_of_ble_eq_true rfl) ?_
          exact ⟨_, rfl, hB153, kp154, kp155, kp156, kp157, by omega, by omega, by omega, by omega, by omega, fun hr => absurd hr (by omega), CRb (e := 1) (q := p) (by omega) h151 h152 (by omega) (by unfold sSide; (repeat' split) <;> first | rfl | (exfalso; omega))⟩

theorem sOn_ok {k x : Int → Int} {p : Int} (h : (sOn k x p).1 = 0) : (sOn k x p).2 = x p ∧ 124 ≤ k p ∧ k p ≤ 126 := by
  unfold sOn at h ⊢
  by_cases e : 124 ≤ k p ∧ k p ≤ 126
  · rw [if_pos e]; exact ⟨rfl, e⟩
  · rw [if_neg e] at h
    exact absurd h (by decide : ¬ (1 : Int) = 0)
/-- a turn that can be read: where it ends, that it is a turn -/
theorem sTurn_ok {k x : Int → Int} {i p : Int} (h : (sTurn k x i p).1 = 0) : (sTurn k x i p).2 = tnS k x p ∧ isTu (tvS k x p) ∧ i < 6 := by
  unfold sTurn at h ⊢
  unfold tnS tvS
  by_cases e : k p = 119
  · rw [if_pos e] at h ⊢
    rw [if_pos e, if_pos e]
    by_cases e2 : 6 ≤ i
    · rw [if_pos e2] at h
      exact absurd h (by decide : ¬ (7 : Int) = 0)
    · rw [if_neg e2] at h ⊢
      by_cases e3 : (sNum k x 1 5 (x p)).1 = 0
      · rw [sBind_ok e3] at h ⊢
        obtain ⟨a, b, c, d⟩ := sNum_ok e3
        rw [a] at h ⊢
        obtain ⟨a2, b2, c2⟩ := sOn_ok h
        refine ⟨a2, ?_, by omega⟩
        unfold isTu
        omega
      · rw [sBind_bad e3] at h
        exact absurd h e3
  · rw [if_neg e] at h ⊢
    rw [if_neg e, if_neg e]
    by_cases e2 : k p < 1000
    · rw [if_pos e2] at h
      exact absurd h (by decide : ¬ (1 : Int) = 0)
    · rw [if_neg e2] at h ⊢
      by_cases e3 : k p - 1000 < 1 ∨ 4 < k p - 1000
      · rw [if_pos e3] at h
        exact absurd h (by decide : ¬ (2 : Int) = 0)
      · rw [if_neg e3] at h ⊢
        by_cases e4 : 6 ≤ i
        · rw [if_pos e4] at h
          exact absurd h (by decide : ¬ (7 : Int) = 0)
        · rw [if_neg e4] at h ⊢
          obtain ⟨a2, b2, c2⟩ := sOn_ok h
          refine ⟨a2, ?_, by omega⟩
          unfold isTu
          omega
set_option maxRecDepth 4000 in
theorem sfX4_readTurnF {l : Launch} {M : Mem} (hB : Box M) (g : Nat → Int) (n p : Int) (hR : RS g n M p) (i : Int) (p0 : mI M 22 13 ≤ 23) : Call l mdX4_readTurn [aR 22, aI i] M (fun q N => ∃ r : Int, q = some (aI r) ∧ BF fQ M N ∧ mI N 24 = mI M 24 ∧ mI N 26 = mI M 26 ∧ mI N 27 = mI M 27 ∧ mI N 28 = mI M 28 ∧ 0 ≤ mI N 22 9 ∧ mI N 22 13 = mI M 22 13 ∧ mI N 22 14 = mI M 22 14 ∧ (r ≠ -1 → r = tvS (tk g n) (nx g n) p ∧ T25 M N) ∧ CN g n N r (sTurn (tk g n) (nx g n) i p)) := by
  have hB0 : BF fQ M M := BF.start hB
  refine Call.of [some (aR 22), some (aI i), none, none, none] rfl (Nat.le_of_ble_eq_true rfl) rfl ?_
  refine vc_ok (fun hoM hoS hoL => ?_)
  have hr1 : -2147483648 ≤ i ∧ i < 2147483648 := hoL 1 _ rfl
  have ct1 := RS.ct hR
  unfold CT at ct1
  have rg2 := RS.rg hR
  refine vc_aload_n dX4_readTurn_0 rfl ?_
  refine vc_getI dX4_readTurn_1 flX4_69 (s_22 hB0.1.1) rfl ?_
  refine vc_iconst dX4_readTurn_4 rfl ?_
  refine vc_icmp_ne dX4_readTurn_5 (fun h3 => ?_) (fun h3 => ?_)
  · refine vc_iconst dX4_readTurn_21 rfl ?_
    refine vc_istore_n dX4_readTurn_22 (by decide) rfl (show _ = [some (aR 22), some (aI i), some (aI 0), none, none] from rfl) ?_
    refine vc_iload_n dX4_readTurn_23 rfl ?_
    refine vc_if_ne dX4_readTurn_24 (fun h4 => by exfalso; omega) (fun h4 => ?_)
    refine vc_aload_n dX4_readTurn_27 rfl ?_
    refine vc_getI dX4_readTurn_28 flX4_69 (s_22 hB0.1.1) rfl ?_
    refine vc_iconst dX4_readTurn_31 rfl ?_
    refine vc_icmp_eq dX4_readTurn_32 (fun h5 => ?_) (fun h5 => ?_)
    · refine vc_iload_n dX4_readTurn_43 rfl ?_
      refine vc_if_ne dX4_readTurn_44 (fun h6 => by exfalso; omega) (fun h6 => ?_)
      refine vc_aload_n dX4_readTurn_47 rfl ?_
      refine vc_getI dX4_readTurn_48 flX4_119 (s_22 hB0.1.1) rfl ?_
      refine vc_iconst dX4_readTurn_51 rfl ?_
      refine vc_icmp_lt dX4_readTurn_52 (fun h7 => ?_) (fun h7 => ?_)
      · refine vc_aload_n dX4_readTurn_63 rfl ?_
        refine vc_iconst dX4_readTurn_64 rfl ?_
        refine vc_cVI dX4_readTurn_65 (sfX4_failedF (M := M) hB0.1  g n p hR 2 ) rfl okX4_failed viX4_failed lkX4_122 (s_22 hB0.1.1) cl_4 rfl (Nat.le_of_ble_eq_true rfl) ⟨rfl, rfl⟩ (Nat.le_of_ble_eq_true rfl) (Nat.le_of_ble_eq_true rfl) (Nat.le_of_ble_eq_true rfl) ?_
        rintro x8 M9 ⟨hB10, kp11, kp12, kp13, kp14, kp15, h16, h17, h18, h19, h20, h21, h22⟩
        have hB23 : BF fQ M M9 := BF.go hB0 hB10
        have kp24 : mI M9 24 = mI M 24 := kp_go rfl kp11
        have kp25 : mI M9 26 = mI M 26 := kp_go rfl kp13
        have kp26 : mI M9 27 = mI M 27 := kp_go rfl kp14
        have kp27 : mI M9 28 = mI M 28 := kp_go rfl kp15
        refine vc_pop dX4_readTurn_68 rfl ?_
        refine vc_iconst dX4_readTurn_69 rfl ?_
        refine vc_iret dX4_readTurn_70 rfl (Nat.le_of_ble_eq_true rfl) (Nat.le_of_ble_eq_true rfl) ?_
        exact ⟨_, rfl, hB23, kp24, kp25, kp26, kp27, by omega, by omega, by omega, fun hr => absurd rfl hr, CNb (e := 2) (q := p) (by omega) h21 h22 (by omega) (by unfold sTurn; rw [if_neg (by omega), if_neg (by omega), if_pos (by omega)])⟩
      · refine vc_aload_n dX4_readTurn_55 rfl ?_
        refine vc_getI dX4_readTurn_56 flX4_119 (s_22 hB0.1.1) rfl ?_
        refine vc_iconst dX4_readTurn_59 rfl ?_
        refine vc_icmp_le dX4_readTurn_60 (fun h28 => ?_) (fun h28 => ?_)
        · refine vc_iload_n dX4_readTurn_71 rfl ?_
          refine vc_bipush dX4_readTurn_72 rfl ?_
          refine vc_icmp_lt dX4_readTurn_74 (fun h29 => ?_) (fun h29 => ?_)
          · refine vc_iload_n dX4_readTurn_86 rfl ?_
            refine vc_if_eq dX4_readTurn_87 (fun h30 => ?_) (fun h30 => by exfalso; omega)
            refine vc_aload_n dX4_readTurn_95 rfl ?_
            refine vc_getI dX4_readTurn_96 flX4_119 (s_22 hB0.1.1) rfl ?_
            refine vc_nameI (fun x31 ex31 => ?_)
            refine vc_istore_n dX4_readTurn_99 (by decide) rfl (show _ = [some (aR 22), some (aI i), some (aI 0), some (aI x31), none] from rfl) ?_
            refine vc_aload_n dX4_readTurn_100 rfl ?_
            refine vc_iconst dX4_readTurn_101 rfl ?_
            refine vc_iconst dX4_readTurn_102 rfl ?_
            refine vc_iconst dX4_readTurn_103 rfl ?_
            refine vc_cVI dX4_readTurn_104 (sfX4_readNumberF (M := M) hB0.1  g n p hR 3 1 5 (by omega) (by omega) (by omega)) rfl okX4_readNumber viX4_readNumber lkX4_144 (s_22 hB0.1.1) cl_4 rfl (Nat.le_of_ble_eq_true rfl) ⟨rfl, rfl⟩ (Nat.le_of_ble_eq_true rfl) (Nat.le_of_ble_eq_true rfl) (Nat.le_of_ble_eq_true rfl) ?_
            rintro x32 M33 ⟨hB34, kp35, kp36, kp37, kp38, h39, h40, h41, h42, h43, h44, h45⟩
            have hB46 : BF fQ M M33 := BF.go hB0 hB34
            have kp47 : mI M33 24 = mI M 24 := kp_go rfl kp35
            have kp48 : mI M33 26 = mI M 26 := kp_go rfl kp36
            have kp49 : mI M33 27 = mI M 27 := kp_go rfl kp37
            have kp50 : mI M33 28 = mI M 28 := kp_go rfl kp38
            refine vc_if_ne dX4_readTurn_107 (fun h51 => ?_) (fun h51 => ?_)
            · have e52 := CR.ok h45 (by omega)
              have hn53 := sNum_ok e52.1
              have hR54 : RS g n M33 (nx g n p) := by
                have q := e52.2
                rw [hn53.1] at q
                exact q
              have ct55 := RS.ct hR54
              unfold CT at ct55
              have rg56 := RS.rg hR54
              refine vc_aload_n dX4_readTurn_112 rfl ?_
              refine vc_getI dX4_readTurn_113 flX4_69 (s_22 hB46.1.1) rfl ?_
              refine vc_iconst dX4_readTurn_116 rfl ?_
              refine vc_icmp_ne dX4_readTurn_117 (fun h57 => ?_) (fun h57 => ?_)
              · refine vc_aload_n dX4_readTurn_138 rfl ?_
                refine vc_iconst dX4_readTurn_139 rfl ?_
                refine vc_cVI dX4_readTurn_140 (sfX4_failedF (M := M33) hB46.1  g n (nx g n p) hR54 1 ) rfl okX4_failed viX4_failed lkX4_122 (s_22 hB46.1.1) cl_4 rfl (Nat.le_of_ble_eq_true rfl) ⟨rfl, rfl⟩ (Nat.le_of_ble_eq_true rfl) (Nat.le_of_ble_eq_true rfl) (Nat.le_of_ble_eq_true rfl) ?_
                rintro x58 M59 ⟨hB60, kp61, kp62, kp63, kp64, kp65, h66, h67, h68, h69, h70, h71, h72⟩
                have hB73 : BF fQ M M59 := BF.go hB46 hB60
                have kp74 : mI M59 24 = mI M 24 := kp_go kp47 kp61
                have kp75 : mI M59 26 = mI M 26 := kp_go kp48 kp63
                have kp76 : mI M59 27 = mI M 27 := kp_go kp49 kp64
                have kp77 : mI M59 28 = mI M 28 := kp_go kp50 kp65
                refine vc_pop dX4_readTurn_143 rfl ?_
                refine vc_iconst dX4_readTurn_144 rfl ?_
                refine vc_iret dX4_readTurn_145 rfl (Nat.le_of_ble_eq_true rfl) (Nat.le_of_ble_eq_true rfl) ?_
                exact ⟨_, rfl, hB73, kp74, kp75, kp76, kp77, by omega, by omega, by omega, fun hr => absurd rfl hr, CNb (e := 1) (q := (nx g n p)) (by omega) h71 h72 (by omega) (by unfold sTurn; rw [if_neg (by omega), if_neg (by omega), if_neg (by omega), if_neg (by omega)]; unfold sOn; rw [if_neg (by omega)])⟩
              · refine vc_aload_n dX4_readTurn_120 rfl ?_
                refine vc_getI dX4_readTurn_121 flX4_119 (s_22 hB46.1.1) rfl ?_
                refine vc_bipush dX4_readTurn_124 rfl ?_
                refine vc_icmp_lt dX4_readTurn_126 (fun h78 => ?_) (fun h78 => ?_)
                · refine vc_aload_n dX4_readTurn_138 rfl ?_
                  refine vc_iconst dX4_readTurn_139 rfl ?_
                  refine vc_cVI dX4_readTurn_140 (sfX4_failedF (M := M33) hB46.1  g n (nx g n p) hR54 1 ) rfl okX4_failed viX4_failed lkX4_122 (s_22 hB46.1.1) cl_4 rfl (Nat.le_of_ble_eq_true rfl) ⟨rfl, rfl⟩ (Nat.le_of_ble_eq_true rfl) (Nat.le_of_ble_eq_true rfl) (Nat.le_of_ble_eq_true rfl) ?_
                  rintro x79 M80 ⟨hB81, kp82, kp83, kp84, kp85, kp86, h87, h88, h89, h90, h91, h92, h93⟩
                  have hB94 : BF fQ M M80 := BF.go hB46 hB81
                  have kp95 : mI M80 24 = mI M 24 := kp_go kp47 kp82
                  have kp96 : mI M80 26 = mI M 26 := kp_go kp48 kp84
                  have kp97 : mI M80 27 = mI M 27 := kp_go kp49 kp85
                  have kp98 : mI M80 28 = mI M 28 := kp_go kp50 kp86
                  refine vc_pop dX4_readTurn_143 rfl ?_
                  refine vc_iconst dX4_readTurn_144 rfl ?_
                  refine vc_iret dX4_readTurn_145 rfl (Nat.le_of_ble_eq_true rfl) (Nat.le_of_ble_eq_true rfl) ?_
                  exact ⟨_, rfl, hB94, kp95, kp96, kp97, kp98, by omega, by omega, by omega, fun hr => absurd rfl hr, CNb (e := 1) (q := (nx g n p)) (by omega) h92 h93 (by omega) (by unfold sTurn; rw [if_neg (by omega), if_neg (by omega), if_neg (by omega), if_neg (by omega)]; unfold sOn; rw [if_neg (by omega)])⟩
                · refine vc_aload_n dX4_readTurn_129 rfl ?_
                  refine vc_getI dX4_readTurn_130 flX4_119 (s_22 hB46.1.1) rfl ?_
                  refine vc_bipush dX4_readTurn_133 rfl ?_
                  refine vc_icmp_le dX4_readTurn_135 (fun h99 => ?_) (fun h99 => ?_)
                  · refine vc_bipush dX4_readTurn_146 rfl ?_
                    refine vc_aload_n dX4_readTurn_148 rfl ?_
                    refine vc_getI dX4_readTurn_149 flX4_119 (s_22 hB46.1.1) rfl ?_
                    refine vc_bipush dX4_readTurn_152 rfl ?_
                    refine vc_isubE dX4_readTurn_154 (by omega) (by omega) ?_
                    refine vc_iconst dX4_readTurn_155 rfl ?_
                    refine vc_iaddE dX4_readTurn_156 (by omega) (by omega) ?_
                    refine vc_imulE dX4_readTurn_157 (by omega) (by omega) ?_
                    refine vc_iload_n dX4_readTurn_158 rfl ?_
                    refine vc_if_eq dX4_readTurn_159 (fun h100 => ?_) (fun h100 => by exfalso; omega)
                    refine vc_iconst dX4_readTurn_167 rfl ?_
                    refine vc_iaddE dX4_readTurn_168 (by omega) (by omega) ?_
                    refine vc_iload_n dX4_readTurn_169 rfl ?_
                    refine vc_iaddE dX4_readTurn_170 (by omega) (by omega) ?_
                    refine vc_nameI (fun x101 ex101 => ?_)
                    refine vc_istore dX4_readTurn_171 (by decide) rfl (show _ = [some (aR 22), some (aI i), some (aI 0), some (aI x31), some (aI x101)] from rfl) ?_
                    refine vc_aload_n dX4_readTurn_173 rfl ?_
                    refine vc_cVI dX4_readTurn_174 (sfX4_takeTokenF (M := M33) hB46.1  g n (nx g n p) hR54 (by omega)) rfl okX4_takeToken viX4_takeToken lkX4_65 (s_22 hB46.1.1) cl_4 rfl (Nat.le_of_ble_eq_true rfl) ⟨rfl, rfl⟩ (Nat.le_of_ble_eq_true rfl) (Nat.le_of_ble_eq_true rfl) (Nat.le_of_ble_eq_true rfl) ?_
                    rintro x102 M103 ⟨hB104, kp105, kp106, kp107, kp108, kp109, h110, h111, h112, h113, h114, h115⟩
                    have hB116 : BF fQ M M103 := BF.go hB46 hB104
                    have kp117 : mI M103 24 = mI M 24 := kp_go kp47 kp105
                    have kp118 : mI M103 26 = mI M 26 := kp_go kp48 kp107
                    have kp119 : mI M103 27 = mI M 27 := kp_go kp49 kp108
                    have kp120 : mI M103 28 = mI M 28 := kp_go kp50 kp109
                    refine vc_pop dX4_readTurn_177 rfl ?_
                    refine vc_iload dX4_readTurn_178 rfl ?_
                    refine vc_iret dX4_readTurn_180 rfl (Nat.le_of_ble_eq_true rfl) (Nat.le_of_ble_eq_true rfl) ?_
                    exact ⟨_, rfl, hB116, kp117, kp118, kp119, kp120, by omega, by omega, by omega, fun _ => ⟨by unfold tvS; first | (rw [if_pos (by omega)]; omega) | (rw [if_neg (by omega)]; omega), fun i hi => ((congrFun kp106 i).trans ((h44 (by omega)).2 i (by omega)))⟩, CNo (q := (nx g n (nx g n p))) (by omega) h115 (by unfold sTurn; rw [if_neg (by omega), if_neg (by omega), if_neg (by omega), if_neg (by omega)]; unfold sOn; rw [if_pos (by omega)])⟩
                  · refine vc_aload_n dX4_readTurn_138 rfl ?_
                    refine vc_iconst dX4_readTurn_139 rfl ?_
                    refine vc_cVI dX4_readTurn_140 (sfX4_failedF (M := M33) hB46.1  g n (nx g n p) hR54 1 ) rfl okX4_failed viX4_failed lkX4_122 (s_22 hB46.1.1) cl_4 rfl (Nat.le_of_ble_eq_true rfl) ⟨rfl, rfl⟩ (Nat.le_of_ble_eq_true rfl) (Nat.le_of_ble_eq_true rfl) (Nat.le_of_ble_eq_true rfl) ?_
                    rintro x121 M122 ⟨hB123, kp124, kp125, kp126, kp127, kp128, h129, h130, h131, h132, h133, h134, h135⟩
                    have hB136 : BF fQ M M122 := BF.go hB46 hB123
                    have kp137 : mI M122 24 = mI M 24 := kp_go kp47 kp124
                    have kp138 : mI M122 26 = mI M 26 := kp_go kp48 kp126
                    have kp139 : mI M122 27 = mI M 27 := kp_go kp49 kp127
                    have kp140 : mI M122 28 = mI M 28 := kp_go kp50 kp128
                    refine vc_pop dX4_readTurn_143 rfl ?_
                    refine vc_iconst dX4_readTurn_144 rfl ?_
                    refine vc_iret dX4_readTurn_145 rfl (Nat.le_of_ble_eq_true rfl) (Nat.le_of_ble_eq_true rfl) ?_
                    exact ⟨_, rfl, hB136, kp137, kp138, kp139, kp140, by omega, by omega, by omega, fun hr => absurd rfl hr, CNb (e := 1) (q := (nx g n p)) (by omega) h134 h135 (by omega) (by unfold sTurn; rw [if_neg (by omega), if_neg (by omega), if_neg (by omega), if_neg (by omega)]; unfold sOn; rw [if_neg (by omega)])⟩
            · refine vc_iconst dX4_readTurn_110 rfl ?_
              refine vc_iret dX4_readTurn_111 rfl (Nat.le_of_ble_eq_true rfl) (Nat.le_of_ble_eq_true rfl) ?_
              exact ⟨_, rfl, hB46, kp47, kp48, kp49, kp50, by omega, by omega, by omega, fun hr => absurd rfl hr, (by exfalso; have q := (CR.bad h45 (by omega)).1; unfold sNum at q; rw [if_neg (by omega), if_neg (by omega)] at q; exact q rfl)⟩
          · refine vc_aload_n dX4_readTurn_77 rfl ?_
            refine vc_bipush dX4_readTurn_78 rfl ?_
            refine vc_cVI dX4_readTurn_80 (sfX4_failedF (M := M) hB0.1  g n p hR 7 ) rfl okX4_failed viX4_failed lkX4_122 (s_22 hB0.1.1) cl_4 rfl (Nat.le_of_ble_eq_true rfl) ⟨rfl, rfl⟩ (Nat.le_of_ble_eq_true rfl) (Nat.le_of_ble_eq_true rfl) (Nat.le_of_ble_eq_true rfl) ?_
            rintro x141 M142 ⟨hB143, kp144, kp145, kp146, kp147, kp148, h149, h150, h151, h152, h153, h154, h155⟩
            have hB156 : BF fQ M M142 := BF.go hB0 hB143
            have kp157 : mI M142 24 = mI M 24 := kp_go rfl kp144
            have kp158 : mI M142 26 = mI M 26 := kp_go rfl kp146
            have kp159 : mI M142 27 = mI M 27 := kp_go rfl kp147
            have kp160 : mI M142 28 = mI M 28 := kp_go rfl kp148
            refine vc_pop dX4_readTurn_83 rfl ?_
            refine vc_iconst dX4_readTurn_84 rfl ?_
            refine vc_iret dX4_readTurn_85 rfl (Nat.le_of_ble_eq_true rfl) (Nat.le_of_ble_eq_true rfl) ?_
            exact ⟨_, rfl, hB156, kp157, kp158, kp159, kp160, by omega, by omega, by omega, fun hr => absurd rfl hr, CNb (e := 7) (q := p) (by omega) h154 h155 (by omega) (by unfold sTurn; rw [if_neg (by omega), if_neg (by omega), if_neg (by omega), if_pos (by omega)])⟩
        · refine vc_aload_n dX4_readTurn_63 rfl ?_
          refine vc_iconst dX4_readTurn_64 rfl ?_
          refine vc_cVI dX4_readTurn_65 (sfX4_failedF (M := M) hB0.1  g n p hR 2 ) rfl okX4_failed viX4_failed lkX4_122 (s_22 hB0.1.1) cl_4 rfl (Nat.le_of_ble_eq_true rfl) ⟨rfl, rfl⟩ (Nat.le_of_ble_eq_true rfl) (Nat.le_of_ble_eq_true rfl) (Nat.le_of_ble_eq_true rfl) ?_
          rintro x161 M162 ⟨hB163, kp164, kp165, kp166, kp167, kp168, h169, h170, h171, h172, h173, h174, h175⟩
          have hB176 : BF fQ M M162 := BF.go hB0 hB163
          have kp177 : mI M162 24 = mI M 24 := kp_go rfl kp164
          have kp178 : mI M162 26 = mI M 26 := kp_go rfl kp166
          have kp179 : mI M162 27 = mI M 27 := kp_go rfl kp167
          have kp180 : mI M162 28 = mI M 28 := kp_go rfl kp168
          refine vc_pop dX4_readTurn_68 rfl ?_
          refine vc_iconst dX4_readTurn_69 rfl ?_
          refine vc_iret dX4_readTurn_70 rfl (Nat.le_of_ble_eq_true rfl) (Nat.le_of_ble_eq_true rfl) ?_
          exact ⟨_, rfl, hB176, kp177, kp178, kp179, kp180, by omega, by omega, by omega, fun hr => absurd rfl hr, CNb (e := 2) (q := p) (by omega) h174 h175 (by omega) (by unfold sTurn; rw [if_neg (by omega), if_neg (by omega), if_pos (by omega)])⟩
    · refine vc_aload_n dX4_readTurn_35 rfl ?_
      refine vc_iconst dX4_readTurn_36 rfl ?_
      refine vc_cVI dX4_readTurn_37 (sfX4_failedF (M := M) hB0.1  g n p hR 1 ) rfl okX4_failed viX4_failed lkX4_122 (s_22 hB0.1.1) cl_4 rfl (Nat.le_of_ble_eq_true rfl) ⟨rfl, rfl⟩ (Nat.le_of_ble_eq_true rfl) (Nat.le_of_ble_eq_true rfl) (Nat.le_of_ble_eq_true rfl) ?_
      rintro x181 M182 ⟨hB183, kp184, kp185, kp186, kp187, kp188, h189, h190, h191, h192, h193, h194, h195⟩
      have hB196 : BF fQ M M182 := BF.go hB0 hB183
      have kp197 : mI M182 24 = mI M 24 := kp_go rfl kp184
      have kp198 : mI M182 26 = mI M 26 := kp_go rfl kp186
      have kp199 : mI M182 27 = mI M 27 := kp_go rfl kp187
      have kp200 : mI M182 28 = mI M 28 := kp_go rfl kp188
      refine vc_pop dX4_readTurn_40 rfl ?_
      refine vc_iconst dX4_readTurn_41 rfl ?_
      refine vc_iret dX4_readTurn_42 rfl (Nat.le_of_ble_eq_true rfl) (Nat.le_of_ble_eq_true rfl) ?_
      exact ⟨_, rfl, hB196, kp197, kp198, kp199, kp200, by omega, by omega, by omega, fun hr => absurd rfl hr, CNb (e := 1) (q := p) (by omega) h194 h195 (by omega) (by unfold sTurn; rw [if_neg (by omega), if_pos (by omega)])⟩
  · refine vc_aload_n dX4_readTurn_8 rfl ?_
    refine vc_getI dX4_readTurn_9 flX4_119 (s_22 hB0.1.1) rfl ?_
    refine vc_bipush dX4_readTurn_12 rfl ?_
    refine vc_icmp_ne dX4_readTurn_14 (fun h201 => ?_) (fun h201 => ?_)
    · refine vc_iconst dX4_readTurn_21 rfl ?_
      refine vc_istore_n dX4_readTurn_22 (by decide) rfl (show _ = [some (aR 22), some (aI i), some (aI 0), none, none] from rfl) ?_
      refine vc_iload_n dX4_readTurn_23 rfl ?_
      refine vc_if_ne dX4_readTurn_24 (fun h202 => by exfalso; omega) (fun h202 => ?_)
      refine vc_aload_n dX4_readTurn_27 rfl ?_
      refine vc_getI dX4_readTurn_28 flX4_69 (s_22 hB0.1.1) rfl ?_
      refine vc_iconst dX4_readTurn_31 rfl ?_
      refine vc_icmp_eq dX4_readTurn_32 (fun h203 => by exfalso; omega) (fun h203 => ?_)
      refine vc_aload_n dX4_readTurn_35 rfl ?_
      refine vc_iconst dX4_readTurn_36 rfl ?_
      refine vc_cVI dX4_readTurn_37 (sfX4_failedF (M := M) hB0.1  g n p hR 1 ) rfl okX4_failed viX4_failed lkX4_122 (s_22 hB0.1.1) cl_4 rfl (Nat.le_of_ble_eq_true rfl) ⟨rfl, rfl⟩ (Nat.le_of_ble_eq_true rfl) (Nat.le_of_ble_eq_true rfl) (Nat.le_of_ble_eq_true rfl) ?_
      rintro x204 M205 ⟨hB206, kp207, kp208, kp209, kp210, kp211, h212, h213, h214, h215, h216, h217, h218⟩
      have hB219 : BF fQ M M205 := BF.go hB0 hB206
      have kp220 : mI M205 24 = mI M 24 := kp_go rfl kp207
      have kp221 : mI M205 26 = mI M 26 := kp_go rfl kp209
      have kp222 : mI M205 27 = mI M 27 := kp_go rfl kp210
      have kp223 : mI M205 28 = mI M 28 := kp_go rfl kp211
      refine vc_pop dX4_readTurn_40 rfl ?_
      refine vc_iconst dX4_readTurn_41 rfl ?_
      refine vc_iret dX4_readTurn_42 rfl (Nat.le_of_ble_eq_true rfl) (Nat.le_of_ble_eq_true rfl) ?_
      exact ⟨_, rfl, hB219, kp220, kp221, kp222, kp223, by omega, by omega, by omega, fun hr => absurd rfl hr, CNb (e := 1) (q := p) (by omega) h217 h218 (by omega) (by unfold sTurn; rw [if_neg (by omega), if_pos (by omega)])⟩
    · refine vc_iconst dX4_readTurn_17 rfl ?_
      refine vc_goto dX4_readTurn_18 ?_
      refine vc_istore_n dX4_readTurn_22 (by decide) rfl (show _ = [some (aR 22), some (aI i), some (aI 1), none, none] from rfl) ?_
      refine vc_iload_n dX4_readTurn_23 rfl ?_
      refine vc_if_ne dX4_readTurn_24 (fun h224 => ?_) (fun h224 => by exfalso; omega)
      refine vc_iload_n dX4_readTurn_43 rfl ?_
      refine vc_if_ne dX4_readTurn_44 (fun h225 => ?_) (fun h225 => by exfalso; omega)
      refine vc_iload_n dX4_readTurn_71 rfl ?_
      refine vc_bipush dX4_readTurn_72 rfl ?_
      refine vc_icmp_lt dX4_readTurn_74 (fun h226 => ?_) (fun h226 => ?_)
      · refine vc_iload_n dX4_readTurn_86 rfl ?_
        refine vc_if_eq dX4_readTurn_87 (fun h227 => by exfalso; omega) (fun h227 => ?_)
        refine vc_aload_n dX4_readTurn_90 rfl ?_
        refine vc_cVI dX4_readTurn_91 (sfX4_takeTokenF (M := M) hB0.1  g n p hR (by omega)) rfl okX4_takeToken viX4_takeToken lkX4_65 (s_22 hB0.1.1) cl_4 rfl (Nat.le_of_ble_eq_true rfl) ⟨rfl, rfl⟩ (Nat.le_of_ble_eq_true rfl) (Nat.le_of_ble_eq_true rfl) (Nat.le_of_ble_eq_true rfl) ?_
        rintro x228 M229 ⟨hB230, kp231, kp232, kp233, kp234, kp235, h236, h237, h238, h239, h240, h241⟩
        have hB242 : BF fQ M M229 := BF.go hB0 hB230
        have kp243 : mI M229 24 = mI M 24 := kp_go rfl kp231
        have kp244 : mI M229 26 = mI M 26 := kp_go rfl kp233
        have kp245 : mI M229 27 = mI M 27 := kp_go rfl kp234
        have kp246 : mI M229 28 = mI M 28 := kp_go rfl kp235
        refine vc_pop dX4_readTurn_94 rfl ?_
        have ct247 := RS.ct h241
        unfold CT at ct247
        have rg248 := RS.rg h241
        refine vc_aload_n dX4_readTurn_95 rfl ?_
        refine vc_getI dX4_readTurn_96 flX4_119 (s_22 hB242.1.1) rfl ?_
        refine vc_nameI (fun x249 ex249 => ?_)
        refine vc_istore_n dX4_readTurn_99 (by decide) rfl (show _ = [some (aR 22), some (aI i), some (aI 1), some (aI x249), none] from rfl) ?_
        refine vc_aload_n dX4_readTurn_100 rfl ?_
        refine vc_iconst dX4_readTurn_101 rfl ?_
        refine vc_iconst dX4_readTurn_102 rfl ?_
        refine vc_iconst dX4_readTurn_103 rfl ?_
        refine vc_cVI dX4_readTurn_104 (sfX4_readNumberF (M := M229) hB242.1  g n (nx g n p) h241 3 1 5 (by omega) (by omega) (by omega)) rfl okX4_readNumber viX4_readNumber lkX4_144 (s_22 hB242.1.1) cl_4 rfl (Nat.le_of_ble_eq_true rfl) ⟨rfl, rfl⟩ (Nat.le_of_ble_eq_true rfl) (Nat.le_of_ble_eq_true rfl) (Nat.le_of_ble_eq_true rfl) ?_
        rintro x250 M251 ⟨hB252, kp253, kp254, kp255, kp256, h257, h258, h259, h260, h261, h262, h263⟩
        have hB264 : BF fQ M M251 := BF.go hB242 hB252
        have kp265 : mI M251 24 = mI M 24 := kp_go kp243 kp253
        have kp266 : mI M251 26 = mI M 26 := kp_go kp244 kp254
        have kp267 : mI M251 27 = mI M 27 := kp_go kp245 kp255
        have kp268 : mI M251 28 = mI M 28 := kp_go kp246 kp256
        refine vc_if_ne dX4_readTurn_107 (fun h269 => ?_) (fun h269 => ?_)
        · have e270 := CR.ok h263 (by omega)
          have hn271 := sNum_ok e270.1
          have hR272 : RS g n M251 (nx g n (nx g n p)) := by
            have q := e270.2
            rw [hn271.1] at q
            exact q
          have ct273 := RS.ct hR272
          unfold CT at ct273
          have rg274 := RS.rg hR272
          refine vc_aload_n dX4_readTurn_112 rfl ?_
          refine vc_getI dX4_readTurn_113 flX4_69 (s_22 hB264.1.1) rfl ?_
          refine vc_iconst dX4_readTurn_116 rfl ?_
          refine vc_icmp_ne dX4_readTurn_117 (fun h275 => ?_) (fun h275 => ?_)
          · refine vc_aload_n dX4_readTurn_138 rfl ?_
            refine vc_iconst dX4_readTurn_139 rfl ?_
            refine vc_cVI dX4_readTurn_140 (sfX4_failedF (M := M251) hB264.1  g n (nx g n (nx g n p)) hR272 1 ) rfl okX4_failed viX4_failed lkX4_122 (s_22 hB264.1.1) cl_4 rfl (Nat.le_of_ble_eq_true rfl) ⟨rfl, rfl⟩ (Nat.le_of_ble_eq_true rfl) (Nat.le_of_ble_eq_true rfl) (Nat.le_of_ble_eq_true rfl) ?_
            rintro x276 M277 ⟨hB278, kp279, kp280, kp281, kp282, kp283, h284, h285, h286, h287, h288, h289, h290⟩
            have hB291 : BF fQ M M277 := BF.go hB264 hB278
            have kp292 : mI M277 24 = mI M 24 := kp_go kp265 kp279
            have kp293 : mI M277 26 = mI M 26 := kp_go kp266 kp281
            have kp294 : mI M277 27 = mI M 27 := kp_go kp267 kp282
            have kp295 : mI M277 28 = mI M 28 := kp_go kp268 kp283
            refine vc_pop dX4_readTurn_143 rfl ?_
            refine vc_iconst dX4_readTurn_144 rfl ?_
            refine vc_iret dX4_readTurn_145 rfl (Nat.le_of_ble_eq_true rfl) (Nat.le_of_ble_eq_true rfl) ?_
            exact ⟨_, rfl, hB291, kp292, kp293, kp294, kp295, by omega, by omega, by omega, fun hr => absurd rfl hr, CNb (e := 1) (q := (nx g n (nx g n p))) (by omega) h289 h290 (by omega) (by unfold sTurn; rw [if_pos (by omega), if_neg (by omega), sBind_ok e270.1, hn271.1]; unfold sOn; rw [if_neg (by omega)])⟩
          · refine vc_aload_n dX4_readTurn_120 rfl ?_
            refine vc_getI dX4_readTurn_121 flX4_119 (s_22 hB264.1.1) rfl ?_
            refine vc_bipush dX4_readTurn_124 rfl ?_
            refine vc_icmp_lt dX4_readTurn_126 (fun h296 => ?_) (fun h296 => ?_)
            · refine vc_aload_n dX4_readTurn_138 rfl ?_
              refine vc_iconst dX4_readTurn_139 rfl ?_
              refine vc_cVI dX4_readTurn_140 (sfX4_failedF (M := M251) hB264.1  g n (nx g n (nx g n p)) hR272 1 ) rfl okX4_failed viX4_failed lkX4_122 (s_22 hB264.1.1) cl_4 rfl (Nat.le_of_ble_eq_true rfl) ⟨rfl, rfl⟩ (Nat.le_of_ble_eq_true rfl) (Nat.le_of_ble_eq_true rfl) (Nat.le_of_ble_eq_true rfl) ?_
              rintro x297 M298 ⟨hB299, kp300, kp301, kp302, kp303, kp304, h305, h306, h307, h308, h309, h310, h311⟩
              have hB312 : BF fQ M M298 := BF.go hB264 hB299
              have kp313 : mI M298 24 = mI M 24 := kp_go kp265 kp300
              have kp314 : mI M298 26 = mI M 26 := kp_go kp266 kp302
              have kp315 : mI M298 27 = mI M 27 := kp_go kp267 kp303
              have kp316 : mI M298 28 = mI M 28 := kp_go kp268 kp304
              refine vc_pop dX4_readTurn_143 rfl ?_
              refine vc_iconst dX4_readTurn_144 rfl ?_
              refine vc_iret dX4_readTurn_145 rfl (Nat.le_of_ble_eq_true rfl) (Nat.le_of_ble_eq_true rfl) ?_
              exact ⟨_, rfl, hB312, kp313, kp314, kp315, kp316, by omega, by omega, by omega, fun hr => absurd rfl hr, CNb (e := 1) (q := (nx g n (nx g n p))) (by omega) h310 h311 (by omega) (by unfold sTurn; rw [if_pos (by omega), if_neg (by omega), sBind_ok e270.1, hn271.1]; unfold sOn; rw [if_neg (by omega)])⟩
            · refine vc_aload_n dX4_readTurn_129 rfl ?_
              refine vc_getI dX4_readTurn_130 flX4_119 (s_22 hB264.1.1) rfl ?_
              refine vc_bipush dX4_readTurn_133 rfl ?_
              refine vc_icmp_le dX4_readTurn_135 (fun h317 => ?_) (fun h317 => ?_)
              · refine vc_bipush dX4_readTurn_146 rfl ?_
                refine vc_aload_n dX4_readTurn_148 rfl ?_
                refine vc_getI dX4_readTurn_149 flX4_119 (s_22 hB264.1.1) rfl ?_
                refine vc_bipush dX4_readTurn_152 rfl ?_
                refine vc_isubE dX4_readTurn_154 (by omega) (by omega) ?_
                refine vc_iconst dX4_readTurn_155 rfl ?_
                refine vc_iaddE dX4_readTurn_156 (by omega) (by omega) ?_
                refine vc_imulE dX4_readTurn_157 (by omega) (by omega) ?_
                refine vc_iload_n dX4_readTurn_158 rfl ?_
                refine vc_if_eq dX4_readTurn_159 (fun h318 => by exfalso; omega) (fun h318 => ?_)
                refine vc_bipush dX4_readTurn_162 rfl ?_
                refine vc_goto dX4_readTurn_164 ?_
                refine vc_iaddE dX4_readTurn_168 (by omega) (by omega) ?_
                refine vc_iload_n dX4_readTurn_169 rfl ?_
                refine vc_iaddE dX4_readTurn_170 (by omega) (by omega) ?_
                refine vc_nameI (fun x319 ex319 => ?_)
                refine vc_istore dX4_readTurn_171 (by decide) rfl (show _ = [some (aR 22), some (aI i), some (aI 1), some (aI x249), some (aI x319)] from rfl) ?_
                refine vc_aload_n dX4_readTurn_173 rfl ?_
                refine vc_cVI dX4_readTurn_174 (sfX4_takeTokenF (M := M251) hB264.1  g n (nx g n (nx g n p)) hR272 (by omega)) rfl okX4_takeToken viX4_takeToken lkX4_65 (s_22 hB264.1.1) cl_4 rfl (Nat.le_of_ble_eq_true rfl) ⟨rfl, rfl⟩ (Nat.le_of_ble_eq_true rfl) (Nat.le_of_ble_eq_true rfl) (Nat.le_of_ble_eq_true rfl) ?_
                rintro x320 M321 ⟨hB322, kp323, kp324, kp325, kp326, kp327, h328, h329, h330, h331, h332, h333⟩
                have hB334 : BF fQ M M321 := BF.go hB264 hB322
                have kp335 : mI M321 24 = mI M 24 := kp_go kp265 kp323
                have kp336 : mI M321 26 = mI M 26 := kp_go kp266 kp325
                have kp337 : mI M321 27 = mI M 27 := kp_go kp267 kp326
                have kp338 : mI M321 28 = mI M 28 := kp_go kp268 kp327
                refine vc_pop dX4_readTurn_177 rfl ?_
                refine vc_iload dX4_readTurn_178 rfl ?_
                refine vc_iret dX4_readTurn_180 rfl (Nat.le_of_ble_eq_true rfl) (Nat.le_of_ble_eq_true rfl) ?_
                exact ⟨_, rfl, hB334, kp335, kp336, kp337, kp338, by omega, by omega, by omega, fun _ => ⟨by unfold tvS; first | (rw [if_pos (by omega)]; omega) | (rw [if_neg (by omega)]; omega), fun i hi => ((congrFun kp324 i).trans (((h262 (by omega)).2 i (by omega)).trans (congrFun kp232 i)))⟩, CNo (q := (nx g n (nx g n (nx g n p)))) (by omega) h333 (by unfold sTurn; rw [if_pos (by omega), if_neg (by omega), sBind_ok e270.1, hn271.1]; unfold sOn; rw [if_pos (by omega)])⟩
              · refine vc_aload_n dX4_readTurn_138 rfl ?_
                refine vc_iconst dX4_readTurn_139 rfl ?_
                refine vc_cVI dX4_readTurn_140 (sfX4_failedF (M := M251) hB264.1  g n (nx g n (nx g n p)) hR272 1 ) rfl okX4_failed viX4_failed lkX4_122 (s_22 hB264.1.1) cl_4 rfl (Nat.le_of_ble_eq_true rfl) ⟨rfl, rfl⟩ (Nat.le_of_ble_eq_true rfl) (Nat.le_of_ble_eq_true rfl) (Nat.le_of_ble_eq_true rfl) ?_
                rintro x339 M340 ⟨hB341, kp342, kp343, kp344, kp345, kp346, h347, h348, h349, h350, h351, h352, h353⟩
                have hB354 : BF fQ M M340 := BF.go hB264 hB341
                have kp355 : mI M340 24 = mI M 24 := kp_go kp265 kp342
                have kp356 : mI M340 26 = mI M 26 := kp_go kp266 kp344
                have kp357 : mI M340 27 = mI M 27 := kp_go kp267 kp345
                have kp358 : mI M340 28 = mI M 28 := kp_go kp268 kp346
                refine vc_pop dX4_readTurn_143 rfl ?_
                refine vc_iconst dX4_readTurn_144 rfl ?_
                refine vc_iret dX4_readTurn_145 rfl (Nat.le_of_ble_eq_true rfl) (Nat.le_of_ble_eq_true rfl) ?_
                exact ⟨_, rfl, hB354, kp355, kp356, kp357, kp358, by omega, by omega, by omega, fun hr => absurd rfl hr, CNb (e := 1) (q := (nx g n (nx g n p))) (by omega) h352 h353 (by omega) (by unfold sTurn; rw [if_pos (by omega), if_neg (by omega), sBind_ok e270.1, hn271.1]; unfold sOn; rw [if_neg (by omega)])⟩
        · refine vc_iconst dX4_readTurn_110 rfl ?_
          refine vc_iret dX4_readTurn_111 rfl (Nat.le_of_ble_eq_true rfl) (Nat.le_of_ble_eq_true rfl) ?_
          exact ⟨_, rfl, hB264, kp265, kp266, kp267, kp268, by omega, by omega, by omega, fun hr => absurd rfl hr, CNc (by omega) h263 (by omega) (by unfold sTurn; rw [if_pos (by omega), if_neg (by omega), sBind_bad (CR.bad h263 (by omega)).1])⟩
      · refine vc_aload_n dX4_readTurn_77 rfl ?_
        refine vc_bipush dX4_readTurn_78 rfl ?_
        refine vc_cVI dX4_readTurn_80 (sfX4_failedF (M := M) hB0.1  g n p hR 7 ) rfl okX4_failed viX4_failed lkX4_122 (s_22 hB0.1.1) cl_4 rfl (Nat.le_of_ble_eq_true rfl) ⟨rfl, rfl⟩ (Nat.le_of_ble_eq_true rfl) (Nat.le_of_ble_eq_true rfl) (Nat.le_of_ble_eq_true rfl) ?_
        rintro x359 M360 ⟨hB361, kp362, kp363, kp364, kp365, kp366, h367, h368, h369, h370, h371, h372, h373⟩
        have hB374 : BF fQ M M360 := BF.go hB0 hB361
        have kp375 : mI M360 24 = mI M 24 := kp_go rfl kp362
        have kp376 : mI M360 26 = mI M 26 := kp_go rfl kp364
        have kp377 : mI M360 27 = mI M 27 := kp_go rfl kp365
        have kp378 : mI M360 28 = mI M 28 := kp_go rfl kp366
        refine vc_pop dX4_readTurn_83 rfl ?_
        refine vc_iconst dX4_readTurn_84 rfl ?_
        refine vc_iret dX4_readTurn_85 rfl (Nat.le_of_ble_eq_true rfl) (Nat.le_of_ble_eq_true rfl) ?_
        exact ⟨_, rfl, hB374, kp375, kp376, kp377, kp378, by omega, by omega, by omega, fun hr => absurd rfl hr, CNb (e := 7) (q := p) (by omega) h372 h373 (by omega) (by unfold sTurn; rw [if_pos (by omega), if_pos (by omega)])⟩

set_option maxRecDepth 4000 in
theorem sfX4_readTurnsF {l : Launch} {M : Mem} (hB : Box M) (g : Nat → Int) (n p : Int) (hR : RS g n M p)  (p0 : mI M 22 13 ≤ 23) : Call l mdX4_readTurns [aR 22] M (fun q N => ∃ r : Int, q = some (aI r) ∧ BF fQ M N ∧ mI N 24 = mI M 24 ∧ mI N 26 = mI M 26 ∧ mI N 27 = mI M 27 ∧ mI N 28 = mI M 28 ∧ 0 ≤ r ∧ r ≤ 1 ∧ 0 ≤ mI N 22 9 ∧ mI N 22 13 = mI M 22 13 ∧ mI N 22 14 = mI M 22 14 ∧ (r = 1 → (∀ i : Nat, (i : Int) = 5 * mI M 22 13 + 3 → mI N 25 i = (trS (tk g n) (nx g n) 7 0 p 0 0).1) ∧ (∀ i : Nat, (i : Int) = 5 * mI M 22 13 + 4 → mI N 25 i = (trS (tk g n) (nx g n) 7 0 p 0 0).2) ∧ ∀ i : Nat, (i : Int) ≠ 5 * mI M 22 13 + 3 → (i : Int) ≠ 5 * mI M 22 13 + 4 → mI N 25 i = mI M 25 i) ∧ CR g n N r (sTurns (tk g n) (nx g n) 7 0 p)) := by
  have hB0 : BF fQ M M := BF.start hB
  refine Call.of [some (aR 22), none, none, none, none] rfl (Nat.le_of_ble_eq_true rfl) rfl ?_
  have hrg := RS.rg hR
  refine vc_iconst dX4_readTurns_0 rfl ?_
  refine vc_istore_n dX4_readTurns_1 (by decide) rfl (show _ = [some (aR 22), some (aI 0), none, none, none] from rfl) ?_
  refine vc_iconst dX4_readTurns_2 rfl ?_
  refine vc_istore_n dX4_readTurns_3 (by decide) rfl (show _ = [some (aR 22), some (aI 0), some (aI 0), none, none] from rfl) ?_
  refine vc_iconst dX4_readTurns_4 rfl ?_
  refine vc_istore_n dX4_readTurns_5 (by decide) rfl (show _ = [some (aR 22), some (aI 0), some (aI 0), some (aI 0), none] from rfl) ?_
  have lp6 : ∀ (n6 : Nat) (Mq6 : Mem) (v1 : Int) (v2 : Int) (v3 : Int), (BF fQ M Mq6) → (mI Mq6 24 = mI M 24) → (mI Mq6 26 = mI M 26) → (mI Mq6 27 = mI M 27) → (mI Mq6 28 = mI M 28) → (0 ≤ v1) → (v1 ≤ 399399399) → (0 ≤ v2) → (v2 ≤ 399399399) → (0 ≤ v3) → (v3 ≤ 6) → (∃ q, RS g n Mq6 q ∧ sTurns (tk g n) (nx g n) 7 0 p = sTurns (tk g n) (nx g n) (7 - v3).toNat v3 q ∧ trS (tk g n) (nx g n) 7 0 p 0 0 = trS (tk g n) (nx g n) (7 - v3).toNat v3 q v1 v2) → (0 ≤ mI Mq6 22 9) → (mI Mq6 22 13 = mI M 22 13) → (mI Mq6 22 14 = mI M 22 14) → (∀ i : Nat, (i : Int) ≠ 5 * mI M 22 13 + 3 → mI Mq6 25 i = mI M 25 i) → ((v3 = 0 ∧ v1 = 0 ∧ v2 = 0) ∨ (v3 = 1 ∧ v1 ≤ 399 ∧ v2 = 0) ∨ (v3 = 2 ∧ v1 ≤ 399399 ∧ v2 = 0) ∨ (v3 = 3 ∧ v2 = 0) ∨ (v3 = 4 ∧ v2 ≤ 399) ∨ (v3 = 5 ∧ v2 ≤ 399399) ∨ v3 = 6) → (7 - v3).toNat < n6 → VC l mdX4_readTurns 6 [some (aR 22), some (aI v1), some (aI v2), some (aI v3), none] [] Mq6 0 0 (fun q N => ∃ r : Int, q = some (aI r) ∧ BF fQ M N ∧ mI N 24 = mI M 24 ∧ mI N 26 = mI M 26 ∧ mI N 27 = mI M 27 ∧ mI N 28 = mI M 28 ∧ 0 ≤ r ∧ r ≤ 1 ∧ 0 ≤ mI N 22 9 ∧ mI N 22 13 = mI M 22 13 ∧ mI N 22 14 = mI M 22 14 ∧ (r = 1 → (∀ i : Nat, (i : Int) = 5 * mI M 22 13 + 3 → mI N 25 i = (trS (tk g n) (nx g n) 7 0 p 0 0).1) ∧ (∀ i : Nat, (i : Int) = 5 * mI M 22 13 + 4 → mI N 25 i = (trS (tk g n) (nx g n) 7 0 p 0 0).2) ∧ ∀ i : Nat, (i : Int) ≠ 5 * mI M 22 13 + 3 → (i : Int) ≠ 5 * mI M 22 13 + 4 → mI N 25 i = mI M 25 i) ∧ CR g n N r (sTurns (tk g n) (nx g n) 7 0 p)) := by
    intro n6
    induction n6 with
    | zero => intro Mq6 v1 v2 v3 hQ6 kp6_24 kp6_26 kp6_27 kp6_28 g6_1a g6_1b g6_2a g6_2b g6_3a g6_3b g6i0 g6i1 g6i2 g6i3 g6i4 g6i5 hm6; exact absurd hm6 (Nat.not_lt_zero _)
    | succ n6 ih6 =>
      intro Mq6 v1 v2 v3 hQ6 kp6_24 kp6_26 kp6_27 kp6_28 g6_1a g6_1b g6_2a g6_2b g6_3a g6_3b g6i0 g6i1 g6i2 g6i3 g6i4 g6i5 hm6
      obtain ⟨q6, hR6, hS6, hV6⟩ := g6i0
      refine vc_iload_n dX4_readTurns_6 rfl ?_
      refine vc_bipush dX4_readTurns_7 rfl ?_
      refine vc_icmp_gt dX4_readTurns_9 (fun h1 => by exfalso; omega) (fun h1 => ?_)
      refine vc_aload_n dX4_readTurns_12 rfl ?_
      refine vc_iload_n dX4_readTurns_13 rfl ?_
      refine vc_cVI dX4_readTurns_14 (sfX4_readTurnF (M := Mq6) hQ6.1  g n q6 hR6 v3 (by omega)) rfl okX4_readTurn viX4_readTurn lkX4_166 (s_22 hQ6.1.1) cl_4 rfl (Nat.le_of_ble_eq_true rfl) ⟨rfl, rfl⟩ (Nat.le_of_ble_eq_true rfl) (Nat.le_of_ble_eq_true rfl) (Nat.le_of_ble_eq_true rfl) ?_
      rintro x2 M3 ⟨hB4, kp5, kp6, kp7, kp8, h9, h10, h11, h12, h13⟩
      have hB14 : BF fQ M M3 := BF.go hQ6 hB4
      have kp15 : mI M3 24 = mI M 24 := kp_go kp6_24 kp5
      have kp16 : mI M3 26 = mI M 26 := kp_go kp6_26 kp6
      have kp17 : mI M3 27 = mI M 27 := kp_go kp6_27 kp7
      have kp18 : mI M3 28 = mI M 28 := kp_go kp6_28 kp8
      refine vc_istore dX4_readTurns_17 (by decide) rfl (show _ = [some (aR 22), some (aI v1), some (aI v2), some (aI v3), some (aI x2)] from rfl) ?_
      refine vc_iload dX4_readTurns_19 rfl ?_
      refine vc_iconst dX4_readTurns_21 rfl ?_
      refine vc_icmp_ne dX4_readTurns_22 (fun h19 => ?_) (fun h19 => ?_)
      · have e20 := CN.ok h13 (by omega)
        have ct21 := RS.ct e20.2
        unfold CT at ct21
        have rg22 := RS.rg e20.2
        have hto := sTurn_ok e20.1
        have htv := (h12 (by omega)).1
        have htb := isTu_b hto.2.1
        rw [← htv] at htb
        have h625 : ∀ i : Nat, (i : Int) ≠ 5 * mI M 22 13 + 3 → mI M3 25 i = mI M 25 i := fun i hi => ((h12 (by omega)).2 i (by omega)).trans (g6i4 i hi)
        refine vc_iload_n dX4_readTurns_27 rfl ?_
        refine vc_iconst dX4_readTurns_28 rfl ?_
        refine vc_icmp_ge dX4_readTurns_29 (fun h23 => ?_) (fun h23 => ?_)
        · refine vc_iload_n dX4_readTurns_43 rfl ?_
          refine vc_istore_n dX4_readTurns_44 (by decide) rfl (show _ = [some (aR 22), some (aI v1), some (aI v2), some (aI v3), some (aI x2)] from rfl) ?_
          refine vc_iload_n dX4_readTurns_45 rfl ?_
          refine vc_iconst dX4_readTurns_46 rfl ?_
          refine vc_icmp_ge dX4_readTurns_47 (fun h24 => ?_) (fun h24 => by exfalso; omega)
          refine vc_sipush dX4_readTurns_54 rfl ?_
          refine vc_iload_n dX4_readTurns_57 rfl ?_
          refine vc_imulE dX4_readTurns_58 (by omega) (by omega) ?_
          refine vc_iload dX4_readTurns_59 rfl ?_
          refine vc_iaddE dX4_readTurns_61 (by omega) (by omega) ?_
          refine vc_nameI (fun x25 ex25 => ?_)
          refine vc_istore_n dX4_readTurns_62 (by decide) rfl (show _ = [some (aR 22), some (aI v1), some (aI x25), some (aI v3), some (aI x2)] from rfl) ?_
          have hfm : ((v1 : Int), (x25 : Int)) = (if v3 < 3 then 1000 * v1 + tvS (tk g n) (nx g n) q6 else v1, if v3 < 3 then 0 else 1000 * v2 + tvS (tk g n) (nx g n) q6) := by rw [← htv]; first | (rw [if_pos (by omega), if_pos (by omega)]; refine Prod.ext ?_ ?_; (show _ = _; omega); (show _ = _; omega)) | (rw [if_neg (by omega), if_neg (by omega)]; refine Prod.ext ?_ ?_; (show _ = _; omega); (show _ = _; omega))
          refine vc_aload_n dX4_readTurns_63 rfl ?_
          refine vc_bipush dX4_readTurns_64 rfl ?_
          refine vc_cVI dX4_readTurns_66 (sfX4_isSignF (M := M3) hB14.1  44 ) rfl okX4_isSign viX4_isSign lkX4_163 (s_22 hB14.1.1) cl_4 rfl (Nat.le_of_ble_eq_true rfl) ⟨rfl, rfl⟩ (Nat.le_of_ble_eq_true rfl) (Nat.le_of_ble_eq_true rfl) (Nat.le_of_ble_eq_true rfl) ?_
          rintro x26 _ ⟨rfl, h27, h28, h29⟩
          refine vc_if_ne dX4_readTurns_69 (fun h30 => ?_) (fun h30 => ?_)
          · refine vc_aload_n dX4_readTurns_75 rfl ?_
            refine vc_cVI dX4_readTurns_76 (sfX4_takeTokenF (M := M3) hB14.1  g n ((sTurn (tk g n) (nx g n) v3 q6).2) e20.2 (by omega)) rfl okX4_takeToken viX4_takeToken lkX4_65 (s_22 hB14.1.1) cl_4 rfl (Nat.le_of_ble_eq_true rfl) ⟨rfl, rfl⟩ (Nat.le_of_ble_eq_true rfl) (Nat.le_of_ble_eq_true rfl) (Nat.le_of_ble_eq_true rfl) ?_
            rintro x31 M32 ⟨hB33, kp34, kp35, kp36, kp37, kp38, h39, h40, h41, h42, h43, h44⟩
            have hB45 : BF fQ M M32 := BF.go hB14 hB33
            have kp46 : mI M32 24 = mI M 24 := kp_go kp15 kp34
            have kp47 : mI M32 26 = mI M 26 := kp_go kp16 kp36
            have kp48 : mI M32 27 = mI M 27 := kp_go kp17 kp37
            have kp49 : mI M32 28 = mI M 28 := kp_go kp18 kp38
            refine vc_pop dX4_readTurns_79 rfl ?_
            have hnext : ∃ q, RS g n M32 q ∧ sTurns (tk g n) (nx g n) 7 0 p = sTurns (tk g n) (nx g n) (7 - (v3 + 1)).toNat (v3 + 1) q ∧ trS (tk g n) (nx g n) 7 0 p 0 0 = trS (tk g n) (nx g n) (7 - (v3 + 1)).toNat (v3 + 1) q (v1) (x25) := ⟨_, h44, by
              rw [hS6, show (7 - v3).toNat = (7 - (v3 + 1)).toNat + 1 by omega]
              exact turns_go e20.1 (by omega), by
              have z1 := congrArg Prod.fst hfm
              have z2 := congrArg Prod.snd hfm
              rw [hV6, show (7 - v3).toNat = (7 - (v3 + 1)).toNat + 1 by omega, tr_go (by rw [← hto.1]; omega), ← hto.1]
              rw [show (if v3 < 3 then 1000 * v1 + tvS (tk g n) (nx g n) q6 else v1) = _ from z1.symm, show (if v3 < 3 then 0 else 1000 * v2 + tvS (tk g n) (nx g n) q6) = _ from z2.symm]⟩
            have h625b : ∀ i : Nat, (i : Int) ≠ 5 * mI M 22 13 + 3 → mI M32 25 i = mI M 25 i := fun i hi => (congrFun kp35 i).trans (h625 i hi)
            refine vc_iincE dX4_readTurns_80 rfl (by omega) (by omega) (by decide) rfl (show _ = [some (aR 22), some (aI v1), some (aI x25), some (aI (v3 + 1)), some (aI x2)] from rfl) ?_
            refine vc_goto dX4_readTurns_83 ?_
            refine vc_less [some (aR 22), some (aI v1), some (aI x25), some (aI (v3 + 1)), none] (lessL_keep (lessL_keep (lessL_keep (lessL_keep (lessL_drop (lessL_nil)))))) ?_
            exact ih6 M32 v1 x25 (v3 + 1) hB45 kp46 kp47 kp48 kp49 (by omega) (by omega) (by omega) (by omega) (by omega) (by omega) (by first | exact ⟨p, hR, rfl, rfl⟩ | exact hnext) (by omega) (by omega) (by omega) (by first | (intro i hi; rfl) | exact h625b) (by omega) (by omega)
          · have hfin : sTurns (tk g n) (nx g n) 7 0 p = (0, (sTurn (tk g n) (nx g n) v3 q6).2) := hS6.trans (turns_end e20.1 (by omega) (by omega))
            have hpk : trS (tk g n) (nx g n) 7 0 p 0 0 = ((v1 : Int), (x25 : Int)) := by rw [hV6, show (7 - v3).toNat = (7 - (v3 + 1)).toNat + 1 by omega, tr_end (by rw [← hto.1]; omega), hfm]
            refine vc_goto dX4_readTurns_72 ?_
            refine vc_aload_n dX4_readTurns_86 rfl ?_
            refine vc_iconst dX4_readTurns_87 rfl ?_
            refine vc_iload_n dX4_readTurns_88 rfl ?_
            refine vc_cVU dX4_readTurns_89 (sfX4_keepF (M := M3) hB14.1  g n ((sTurn (tk g n) (nx g n) v3 q6).2) e20.2 3 v1 (by omega) (by omega) (by omega)) rfl okX4_keep viX4_keep lkX4_125 (s_22 hB14.1.1) cl_4 rfl (Nat.le_of_ble_eq_true rfl) ⟨rfl, rfl⟩ (Nat.le_of_ble_eq_true rfl) (Nat.le_of_ble_eq_true rfl) (Nat.le_of_ble_eq_true rfl) ?_
            rintro M50 ⟨hB51, kp52, kp53, kp54, kp55, h56, h57, h58, h59, h60⟩
            have hB61 : BF fQ M M50 := BF.go hB14 hB51
            have kp62 : mI M50 24 = mI M 24 := kp_go kp15 kp52
            have kp63 : mI M50 26 = mI M 26 := kp_go kp16 kp53
            have kp64 : mI M50 27 = mI M 27 := kp_go kp17 kp54
            have kp65 : mI M50 28 = mI M 28 := kp_go kp18 kp55
            refine vc_aload_n dX4_readTurns_92 rfl ?_
            refine vc_iconst dX4_readTurns_93 rfl ?_
            refine vc_iload_n dX4_readTurns_94 rfl ?_
            refine vc_cVU dX4_readTurns_95 (sfX4_keepF (M := M50) hB61.1  g n ((sTurn (tk g n) (nx g n) v3 q6).2) h60 4 x25 (by omega) (by omega) (by omega)) rfl okX4_keep viX4_keep lkX4_125 (s_22 hB61.1.1) cl_4 rfl (Nat.le_of_ble_eq_true rfl) ⟨rfl, rfl⟩ (Nat.le_of_ble_eq_true rfl) (Nat.le_of_ble_eq_true rfl) (Nat.le_of_ble_eq_true rfl) ?_
            rintro M66 ⟨hB67, kp68, kp69, kp70, kp71, h72, h73, h74, h75, h76⟩
            have hB77 : BF fQ M M66 := BF.go hB61 hB67
            have kp78 : mI M66 24 = mI M 24 := kp_go kp62 kp68
            have kp79 : mI M66 26 = mI M 26 := kp_go kp63 kp69
            have kp80 : mI M66 27 = mI M 27 := kp_go kp64 kp70
            have kp81 : mI M66 28 = mI M 28 := kp_go kp65 kp71
            refine vc_iconst dX4_readTurns_98 rfl ?_
            refine vc_zret dX4_readTurns_99 rfl (by first | decide | omega) (Nat.le_of_ble_eq_true rfl) (Nat.le_of_ble_eq_true rfl) ?_
            exact ⟨_, rfl, hB77, kp78, kp79, kp80, kp81, by omega, by omega, by omega, by omega, by omega, fun _ => ⟨fun i hi => ((h75.2 i (by omega)).trans (h59.1 i (by omega))).trans (congrArg Prod.fst hpk).symm, fun i hi => (h75.1 i (by omega)).trans (congrArg Prod.snd hpk).symm, fun i i1 i2 => ((h75.2 i (by omega)).trans (h59.2 i (by omega))).trans (h625 i (by omega))⟩, CRo (by omega) h76 hfin⟩
        · refine vc_sipush dX4_readTurns_32 rfl ?_
          refine vc_iload_n dX4_readTurns_35 rfl ?_
          refine vc_imulE dX4_readTurns_36 (by omega) (by omega) ?_
          refine vc_iload dX4_readTurns_37 rfl ?_
          refine vc_iaddE dX4_readTurns_39 (by omega) (by omega) ?_
          refine vc_goto dX4_readTurns_40 ?_
          refine vc_nameI (fun x82 ex82 => ?_)
          refine vc_istore_n dX4_readTurns_44 (by decide) rfl (show _ = [some (aR 22), some (aI x82), some (aI v2), some (aI v3), some (aI x2)] from rfl) ?_
          refine vc_iload_n dX4_readTurns_45 rfl ?_
          refine vc_iconst dX4_readTurns_46 rfl ?_
          refine vc_icmp_ge dX4_readTurns_47 (fun h83 => by exfalso; omega) (fun h83 => ?_)
          refine vc_iconst dX4_readTurns_50 rfl ?_
          refine vc_goto dX4_readTurns_51 ?_
          refine vc_istore_n dX4_readTurns_62 (by decide) rfl (show _ = [some (aR 22), some (aI x82), some (aI 0), some (aI v3), some (aI x2)] from rfl) ?_
          have hfm : ((x82 : Int), (0 : Int)) = (if v3 < 3 then 1000 * v1 + tvS (tk g n) (nx g n) q6 else v1, if v3 < 3 then 0 else 1000 * v2 + tvS (tk g n) (nx g n) q6) := by rw [← htv]; first | (rw [if_pos (by omega), if_pos (by omega)]; refine Prod.ext ?_ ?_; (show _ = _; omega); (show _ = _; omega)) | (rw [if_neg (by omega), if_neg (by omega)]; refine Prod.ext ?_ ?_; (show _ = _; omega); (show _ = _; omega))
          refine vc_aload_n dX4_readTurns_63 rfl ?_
          refine vc_bipush dX4_readTurns_64 rfl ?_
          refine vc_cVI dX4_readTurns_66 (sfX4_isSignF (M := M3) hB14.1  44 ) rfl okX4_isSign viX4_isSign lkX4_163 (s_22 hB14.1.1) cl_4 rfl (Nat.le_of_ble_eq_true rfl) ⟨rfl, rfl⟩ (Nat.le_of_ble_eq_true rfl) (Nat.le_of_ble_eq_true rfl) (Nat.le_of_ble_eq_true rfl) ?_
          rintro x84 _ ⟨rfl, h85, h86, h87⟩
          refine vc_if_ne dX4_readTurns_69 (fun h88 => ?_) (fun h88 => ?_)
          · refine vc_aload_n dX4_readTurns_75 rfl ?_
            refine vc_cVI dX4_readTurns_76 (sfX4_takeTokenF (M := M3) hB14.1  g n ((sTurn (tk g n) (nx g n) v3 q6).2) e20.2 (by omega)) rfl okX4_takeToken viX4_takeToken lkX4_65 (s_22 hB14.1.1) cl_4 rfl (Nat.le_of_ble_eq_true rfl) ⟨rfl, rfl⟩ (Nat.le_of_ble_eq_true rfl) (Nat.le_of_ble_eq_true rfl) (Nat.le_of_ble_eq_true rfl) ?_
            rintro x89 M90 ⟨hB91, kp92, kp93, kp94, kp95, kp96, h97, h98, h99, h100, h101, h102⟩
            have hB103 : BF fQ M M90 := BF.go hB14 hB91
            have kp104 : mI M90 24 = mI M 24 := kp_go kp15 kp92
            have kp105 : mI M90 26 = mI M 26 := kp_go kp16 kp94
            have kp106 : mI M90 27 = mI M 27 := kp_go kp17 kp95
            have kp107 : mI M90 28 = mI M 28 := kp_go kp18 kp96
            refine vc_pop dX4_readTurns_79 rfl ?_
            have hnext : ∃ q, RS g n M90 q ∧ sTurns (tk g n) (nx g n) 7 0 p = sTurns (tk g n) (nx g n) (7 - (v3 + 1)).toNat (v3 + 1) q ∧ trS (tk g n) (nx g n) 7 0 p 0 0 = trS (tk g n) (nx g n) (7 - (v3 + 1)).toNat (v3 + 1) q (x82) (0) := ⟨_, h102, by
              rw [hS6, show (7 - v3).toNat = (7 - (v3 + 1)).toNat + 1 by omega]
              exact turns_go e20.1 (by omega), by
              have z1 := congrArg Prod.fst hfm
              have z2 := congrArg Prod.snd hfm
              rw [hV6, show (7 - v3).toNat = (7 - (v3 + 1)).toNat + 1 by omega, tr_go (by rw [← hto.1]; omega), ← hto.1]
              rw [show (if v3 < 3 then 1000 * v1 + tvS (tk g n) (nx g n) q6 else v1) = _ from z1.symm, show (if v3 < 3 then 0 else 1000 * v2 + tvS (tk g n) (nx g n) q6) = _ from z2.symm]⟩
            have h625b : ∀ i : Nat, (i : Int) ≠ 5 * mI M 22 13 + 3 → mI M90 25 i = mI M 25 i := fun i hi => (congrFun kp93 i).trans (h625 i hi)
            refine vc_iincE dX4_readTurns_80 rfl (by omega) (by omega) (by decide) rfl (show _ = [some (aR 22), some (aI x82), some (aI 0), some (aI (v3 + 1)), some (aI x2)] from rfl) ?_
            refine vc_goto dX4_readTurns_83 ?_
            refine vc_less [some (aR 22), some (aI x82), some (aI 0), some (aI (v3 + 1)), none] (lessL_keep (lessL_keep (lessL_keep (lessL_keep (lessL_drop (lessL_nil)))))) ?_
            exact ih6 M90 x82 0 (v3 + 1) hB103 kp104 kp105 kp106 kp107 (by omega) (by omega) (by omega) (by omega) (by omega) (by omega) (by first | exact ⟨p, hR, rfl, rfl⟩ | exact hnext) (by omega) (by omega) (by omega) (by first | (intro i hi; rfl) | exact h625b) (by omega) (by omega)
          · have hfin : sTurns (tk g n) (nx g n) 7 0 p = (0, (sTurn (tk g n) (nx g n) v3 q6).2) := hS6.trans (turns_end e20.1 (by omega) (by omega))
            have hpk : trS (tk g n) (nx g n) 7 0 p 0 0 = ((x82 : Int), (0 : Int)) := by rw [hV6, show (7 - v3).toNat = (7 - (v3 + 1)).toNat + 1 by omega, tr_end (by rw [← hto.1]; omega), hfm]
            refine vc_goto dX4_readTurns_72 ?_
            refine vc_aload_n dX4_readTurns_86 rfl ?_
            refine vc_iconst dX4_readTurns_87 rfl ?_
            refine vc_iload_n dX4_readTurns_88 rfl ?_
            refine vc_cVU dX4_readTurns_89 (sfX4_keepF (M := M3) hB14.1  g n ((sTurn (tk g n) (nx g n) v3 q6).2) e20.2 3 x82 (by omega) (by omega) (by omega)) rfl okX4_keep viX4_keep lkX4_125 (s_22 hB14.1.1) cl_4 rfl (Nat.le_of_ble_eq_true rfl) ⟨rfl, rfl⟩ (Nat.le_of_ble_eq_true rfl) (Nat.le_of_ble_eq_true rfl) (Nat.le_of_ble_eq_true rfl) ?_
            rintro M108 ⟨hB109, kp110, kp111, kp112, kp113, h114, h115, h116, h117, h118⟩
            have hB119 : BF fQ M M108 := BF.go hB14 hB109
            have kp120 : mI M108 24 = mI M 24 := kp_go kp15 kp110
            have kp121 : mI M108 26 = mI M 26 := kp_go kp16 kp111
            have kp122 : mI M108 27 = mI M 27 := kp_go kp17 kp112
            have kp123 : mI M108 28 = mI M 28 := kp_go kp18 kp113
            refine vc_aload_n dX4_readTurns_92 rfl ?_
            refine vc_iconst dX4_readTurns_93 rfl ?_
            refine vc_iload_n dX4_readTurns_94 rfl ?_
            refine vc_cVU dX4_readTurns_95 (sfX4_keepF (M := M108) hB119.1  g n ((sTurn (tk g n) (nx g n) v3 q6).2) h118 4 0 (by omega) (by omega) (by omega)) rfl okX4_keep viX4_keep lkX4_125 (s_22 hB119.1.1) cl_4 rfl (Nat.le_of_ble_eq_true rfl) ⟨rfl, rfl⟩ (Nat.le_of_ble_eq_true rfl) (Nat.le_of_ble_eq_true rfl) (Nat.le_of_ble_eq_true rfl) ?_
            rintro M124 ⟨hB125, kp126, kp127, kp128, kp129, h130, h131, h132, h133, h134⟩
            have hB135 : BF fQ M M124 := BF.go hB119 hB125
            have kp136 : mI M124 24 = mI M 24 := kp_go kp120 kp126
            have kp137 : mI M124 26 = mI M 26 := kp_go kp121 kp127
            have kp138 : mI M124 27 = mI M 27 := kp_go kp122 kp128
            have kp139 : mI M124 28 = mI M 28 := kp_go kp123 kp129
            refine vc_iconst dX4_readTurns_98 rfl ?_
            refine vc_zret dX4_readTurns_99 rfl (by first | decide | omega) (Nat.le_of_ble_eq_true rfl) (Nat.le_of_ble_eq_true rfl) ?_
            exact ⟨_, rfl, hB135, kp136, kp137, kp138, kp139, by omega, by omega, by omega, by omega, by omega, fun _ => ⟨fun i hi => ((h133.2 i (by omega)).trans (h117.1 i (by omega))).trans (congrArg Prod.fst hpk).symm, fun i hi => (h133.1 i (by omega)).trans (congrArg Prod.snd hpk).symm, fun i i1 i2 => ((h133.2 i (by omega)).trans (h117.2 i (by omega))).trans (h625 i (by omega))⟩, CRo (by omega) h134 hfin⟩
      · refine vc_iconst dX4_readTurns_25 rfl ?_
        refine vc_zret dX4_readTurns_26 rfl (by first | decide | omega) (Nat.le_of_ble_eq_true rfl) (Nat.le_of_ble_eq_true rfl) ?_
        exact ⟨_, rfl, hB14, kp15, kp16, kp17, kp18, by omega, by omega, by omega, by omega, by omega, fun hr => absurd hr (by omega), (by rw [hS6]; exact turns_bad h13 (by omega) (by omega))⟩
  exact lp6 _ M 0 0 0 hB0 rfl rfl rfl rfl (by omega) (by omega) (by omega) (by omega) (by omega) (by omega) (by first | exact ⟨p, hR, rfl, rfl⟩ | exact hnext) (by omega) (by omega) (by omega) (by first | (intro i hi; rfl) | exact h625b) (by omega) (Nat.lt_succ_self _)

theorem sFac_ok {k x : Int → Int} {p : Int} (h : (sFac k x p).1 = 0) : (sFac k x p).2 = x (x p) := by
  unfold sFac at h ⊢
  by_cases e : (sTok k x 118 p).1 = 0
  · rw [sBind_ok e] at h ⊢
    rw [(sNum_ok h).1, sTok_ok e]
  · rw [sBind_bad e] at h
    exact absurd h e
set_option maxRecDepth 4000 in
theorem sfX4_readDeedF {l : Launch} {M : Mem} (hB : Box M) (g : Nat → Int) (n p : Int) (hR : RS g n M p) (w : Int) (p0 : 5 ≤ w) (p1 : w ≤ 15) (p2 : mI M 22 13 ≤ 23) : Call l mdX4_readDeed [aR 22, aI w] M (fun q N => ∃ r : Int, q = some (aI r) ∧ BF fQ M N ∧ mI N 24 = mI M 24 ∧ mI N 26 = mI M 26 ∧ mI N 27 = mI M 27 ∧ mI N 28 = mI M 28 ∧ 0 ≤ r ∧ r ≤ 1 ∧ 0 ≤ mI N 22 9 ∧ mI N 22 13 = mI M 22 13 ∧ mI N 22 14 = mI M 22 14 ∧ (r = 1 → D25 (tk g n) (nx g n) M N w p) ∧ CR g n N r (sBody (tk g n) (nx g n) w p)) := by
  have hB0 : BF fQ M M := BF.start hB
  refine Call.of [some (aR 22), some (aI w)] rfl (Nat.le_of_ble_eq_true rfl) rfl ?_
  have hrg := RS.rg hR
  refine vc_iload_n dX4_readDeed_0 rfl ?_
  by_cases h1 : w = 5
  · refine vc_tabIn dX4_readDeed_1 5 56 h1 rfl rfl rfl ?_
    refine vc_aload_n dX4_readDeed_56 rfl ?_
    refine vc_iconst dX4_readDeed_57 rfl ?_
    refine vc_iconst dX4_readDeed_58 rfl ?_
    refine vc_iconst dX4_readDeed_59 rfl ?_
    refine vc_cVI dX4_readDeed_60 (sfX4_readNumberF (M := M) hB0.1  g n p hR 1 0 5 (by omega) (by omega) (by omega)) rfl okX4_readNumber viX4_readNumber lkX4_144 (s_22 hB0.1.1) cl_4 rfl (Nat.le_of_ble_eq_true rfl) ⟨rfl, rfl⟩ (Nat.le_of_ble_eq_true rfl) (Nat.le_of_ble_eq_true rfl) (Nat.le_of_ble_eq_true rfl) ?_
    rintro x2 M3 ⟨hB4, kp5, kp6, kp7, kp8, h9, h10, h11, h12, h13, h14, h15⟩
    have hB16 : BF fQ M M3 := BF.go hB0 hB4
    have kp17 : mI M3 24 = mI M 24 := kp_go rfl kp5
    have kp18 : mI M3 26 = mI M 26 := kp_go rfl kp6
    have kp19 : mI M3 27 = mI M 27 := kp_go rfl kp7
    have kp20 : mI M3 28 = mI M 28 := kp_go rfl kp8
    refine vc_zret dX4_readDeed_63 rfl (by first | decide | omega) (Nat.le_of_ble_eq_true rfl) (Nat.le_of_ble_eq_true rfl) ?_
    exact ⟨_, rfl, hB16, kp17, kp18, kp19, kp20, by omega, by omega, by omega, by omega, by omega, fun hr => ⟨fun i hi => ((h14 (by omega)).1 i (by omega)).trans (by unfold rw1; rw [if_neg (by omega)]), fun hw => absurd hw (by omega), fun hw => absurd hw (by omega), fun hw => absurd hw (by omega), fun i hi => ((h14 (by omega)).2 i (by omega))⟩, by rw [sB5 (by omega)]; exact CR.cast h15 (by omega)⟩
  by_cases h21 : w = 6
  · refine vc_tabIn dX4_readDeed_1 6 64 h21 rfl rfl rfl ?_
    refine vc_aload_n dX4_readDeed_64 rfl ?_
    refine vc_iconst dX4_readDeed_65 rfl ?_
    refine vc_cVI dX4_readDeed_66 (sfX4_readCornerF (M := M) hB0.1  g n p hR 1 (by omega) (by omega) (by omega)) rfl okX4_readCorner viX4_readCorner lkX4_148 (s_22 hB0.1.1) cl_4 rfl (Nat.le_of_ble_eq_true rfl) ⟨rfl, rfl⟩ (Nat.le_of_ble_eq_true rfl) (Nat.le_of_ble_eq_true rfl) (Nat.le_of_ble_eq_true rfl) ?_
    rintro x22 M23 ⟨hB24, kp25, kp26, kp27, kp28, h29, h30, h31, h32, h33, h34, h35⟩
    have hB36 : BF fQ M M23 := BF.go hB0 hB24
    have kp37 : mI M23 24 = mI M 24 := kp_go rfl kp25
    have kp38 : mI M23 26 = mI M 26 := kp_go rfl kp26
    have kp39 : mI M23 27 = mI M 27 := kp_go rfl kp27
    have kp40 : mI M23 28 = mI M 28 := kp_go rfl kp28
    refine vc_if_eq dX4_readDeed_69 (fun h41 => ?_) (fun h41 => ?_)
    · refine vc_iconst dX4_readDeed_103 rfl ?_
      refine vc_zret dX4_readDeed_104 rfl (by first | decide | omega) (Nat.le_of_ble_eq_true rfl) (Nat.le_of_ble_eq_true rfl) ?_
      exact ⟨_, rfl, hB36, kp37, kp38, kp39, kp40, by omega, by omega, by omega, by omega, by omega, fun hr => absurd hr (by omega), by rw [sB6 (by omega)]; exact CR.b_bad h35 (by omega) (by omega)⟩
    · have e42 := CR.ok h35 (by omega)
      refine vc_aload_n dX4_readDeed_72 rfl ?_
      refine vc_iconst dX4_readDeed_73 rfl ?_
      refine vc_iconst dX4_readDeed_74 rfl ?_
      refine vc_iconst dX4_readDeed_75 rfl ?_
      refine vc_cVI dX4_readDeed_76 (sfX4_readNumberF (M := M23) hB36.1  g n ((sNum (tk g n) (nx g n) 0 15 p).2) e42.2 2 0 3 (by omega) (by omega) (by omega)) rfl okX4_readNumber viX4_readNumber lkX4_144 (s_22 hB36.1.1) cl_4 rfl (Nat.le_of_ble_eq_true rfl) ⟨rfl, rfl⟩ (Nat.le_of_ble_eq_true rfl) (Nat.le_of_ble_eq_true rfl) (Nat.le_of_ble_eq_true rfl) ?_
      rintro x43 M44 ⟨hB45, kp46, kp47, kp48, kp49, h50, h51, h52, h53, h54, h55, h56⟩
      have hB57 : BF fQ M M44 := BF.go hB36 hB45
      have kp58 : mI M44 24 = mI M 24 := kp_go kp37 kp46
      have kp59 : mI M44 26 = mI M 26 := kp_go kp38 kp47
      have kp60 : mI M44 27 = mI M 27 := kp_go kp39 kp48
      have kp61 : mI M44 28 = mI M 28 := kp_go kp40 kp49
      refine vc_if_eq dX4_readDeed_79 (fun h62 => ?_) (fun h62 => ?_)
      · refine vc_iconst dX4_readDeed_103 rfl ?_
        refine vc_zret dX4_readDeed_104 rfl (by first | decide | omega) (Nat.le_of_ble_eq_true rfl) (Nat.le_of_ble_eq_true rfl) ?_
        exact ⟨_, rfl, hB57, kp58, kp59, kp60, kp61, by omega, by omega, by omega, by omega, by omega, fun hr => absurd hr (by omega), by rw [sB6 (by omega)]; exact CR.b_ok h35 (by omega) (CR.b_bad h56 (by omega) (by omega))⟩
      · have e63 := CR.ok h56 (by omega)
        refine vc_aload_n dX4_readDeed_82 rfl ?_
        refine vc_bipush dX4_readDeed_83 rfl ?_
        refine vc_cVI dX4_readDeed_85 (sfX4_readWordF (M := M44) hB57.1  g n ((sNum (tk g n) (nx g n) 0 3 ((sNum (tk g n) (nx g n) 0 15 p).2)).2) e63.2 16 (by omega) (by omega)) rfl okX4_readWord viX4_readWord lkX4_151 (s_22 hB57.1.1) cl_4 rfl (Nat.le_of_ble_eq_true rfl) ⟨rfl, rfl⟩ (Nat.le_of_ble_eq_true rfl) (Nat.le_of_ble_eq_true rfl) (Nat.le_of_ble_eq_true rfl) ?_
        rintro x64 M65 ⟨hB66, kp67, kp68, kp69, kp70, kp71, h72, h73, h74, h75, h76, h77⟩
        have hB78 : BF fQ M M65 := BF.go hB57 hB66
        have kp79 : mI M65 24 = mI M 24 := kp_go kp58 kp67
        have kp80 : mI M65 26 = mI M 26 := kp_go kp59 kp69
        have kp81 : mI M65 27 = mI M 27 := kp_go kp60 kp70
        have kp82 : mI M65 28 = mI M 28 := kp_go kp61 kp71
        refine vc_if_eq dX4_readDeed_88 (fun h83 => ?_) (fun h83 => ?_)
        · refine vc_iconst dX4_readDeed_103 rfl ?_
          refine vc_zret dX4_readDeed_104 rfl (by first | decide | omega) (Nat.le_of_ble_eq_true rfl) (Nat.le_of_ble_eq_true rfl) ?_
          exact ⟨_, rfl, hB78, kp79, kp80, kp81, kp82, by omega, by omega, by omega, by omega, by omega, fun hr => absurd hr (by omega), by rw [sB6 (by omega)]; exact CR.b_ok h35 (by omega) (CR.b_ok h56 (by omega) (CR.b_bad h77.cr (by omega) (by omega)))⟩
        · have e84 := CR.ok h77.cr (by omega)
          refine vc_aload_n dX4_readDeed_91 rfl ?_
          refine vc_iconst dX4_readDeed_92 rfl ?_
          refine vc_cVI dX4_readDeed_93 (sfX4_readCornerF (M := M65) hB78.1  g n ((sTok (tk g n) (nx g n) (101 + 16) ((sNum (tk g n) (nx g n) 0 3 ((sNum (tk g n) (nx g n) 0 15 p).2)).2)).2) e84.2 3 (by omega) (by omega) (by omega)) rfl okX4_readCorner viX4_readCorner lkX4_148 (s_22 hB78.1.1) cl_4 rfl (Nat.le_of_ble_eq_true rfl) ⟨rfl, rfl⟩ (Nat.le_of_ble_eq_true rfl) (Nat.le_of_ble_eq_true rfl) (Nat.le_of_ble_eq_true rfl) ?_
          rintro x85 M86 ⟨hB87, kp88, kp89, kp90, kp91, h92, h93, h94, h95, h96, h97, h98⟩
          have hB99 : BF fQ M M86 := BF.go hB78 hB87
          have kp100 : mI M86 24 = mI M 24 := kp_go kp79 kp88
          have kp101 : mI M86 26 = mI M 26 := kp_go kp80 kp89
          have kp102 : mI M86 27 = mI M 27 := kp_go kp81 kp90
          have kp103 : mI M86 28 = mI M 28 := kp_go kp82 kp91
          refine vc_if_eq dX4_readDeed_96 (fun h104 => ?_) (fun h104 => ?_)
          · refine vc_iconst dX4_readDeed_103 rfl ?_
            refine vc_zret dX4_readDeed_104 rfl (by first | decide | omega) (Nat.le_of_ble_eq_true rfl) (Nat.le_of_ble_eq_true rfl) ?_
            exact ⟨_, rfl, hB99, kp100, kp101, kp102, kp103, by omega, by omega, by omega, by omega, by omega, fun hr => absurd hr (by omega), by rw [sB6 (by omega)]; exact CR.b_ok h35 (by omega) (CR.b_ok h56 (by omega) (CR.b_ok h77.cr (by omega) (CR.cast h98 (by omega))))⟩
          · have e105 := CR.ok h98 (by omega)
            refine vc_iconst dX4_readDeed_99 rfl ?_
            refine vc_goto dX4_readDeed_100 ?_
            refine vc_zret dX4_readDeed_104 rfl (by first | decide | omega) (Nat.le_of_ble_eq_true rfl) (Nat.le_of_ble_eq_true rfl) ?_
            have hp0 := (sNum_ok e42.1).1
            have hp1 := (sNum_ok e63.1).1
            have hp2 := sTok_ok e84.1
            exact ⟨_, rfl, hB99, kp100, kp101, kp102, kp103, by omega, by omega, by omega, by omega, by omega, fun hr => ⟨fun i hi => ((((h97 (by omega)).2 i (by omega)).trans ((congrFun kp68 i).trans ((h55 (by omega)).2 i (by omega)))).trans ((h34 (by omega)).1 i (by omega))).trans (by unfold rw1; rw [if_neg (by omega)]), fun _ i hi => ((((h97 (by omega)).2 i (by omega)).trans (congrFun kp68 i)).trans ((h55 (by omega)).1 i (by omega))).trans (by rw [hp0]; unfold rw2; rw [if_pos (by omega)]), fun _ i hi => ((h97 (by omega)).1 i (by omega)).trans (by rw [hp2, hp1, hp0]; unfold rw3; rw [if_neg (by omega)]), fun hw => absurd hw (by omega), fun i hi => (((h97 (by omega)).2 i (by omega)).trans ((congrFun kp68 i).trans (((h55 (by omega)).2 i (by omega)).trans ((h34 (by omega)).2 i (by omega)))))⟩, by rw [sB6 (by omega)]; exact CR.b_ok h35 (by omega) (CR.b_ok h56 (by omega) (CR.b_ok h77.cr (by omega) (CR.cast h98 (by omega))))⟩
  by_cases h106 : w = 7
  · refine vc_tabIn dX4_readDeed_1 7 64 h106 rfl rfl rfl ?_
    refine vc_aload_n dX4_readDeed_64 rfl ?_
    refine vc_iconst dX4_readDeed_65 rfl ?_
    refine vc_cVI dX4_readDeed_66 (sfX4_readCornerF (M := M) hB0.1  g n p hR 1 (by omega) (by omega) (by omega)) rfl okX4_readCorner viX4_readCorner lkX4_148 (s_22 hB0.1.1) cl_4 rfl (Nat.le_of_ble_eq_true rfl) ⟨rfl, rfl⟩ (Nat.le_of_ble_eq_true rfl) (Nat.le_of_ble_eq_true rfl) (Nat.le_of_ble_eq_true rfl) ?_
    rintro x107 M108 ⟨hB109, kp110, kp111, kp112, kp113, h114, h115, h116, h117, h118, h119, h120⟩
    have hB121 : BF fQ M M108 := BF.go hB0 hB109
    have kp122 : mI M108 24 = mI M 24 := kp_go rfl kp110
    have kp123 : mI M108 26 = mI M 26 := kp_go rfl kp111
    have kp124 : mI M108 27 = mI M 27 := kp_go rfl kp112
    have kp125 : mI M108 28 = mI M 28 := kp_go rfl kp113
    refine vc_if_eq dX4_readDeed_69 (fun h126 => ?_) (fun h126 => ?_)
    · refine vc_iconst dX4_readDeed_103 rfl ?_
      refine vc_zret dX4_readDeed_104 rfl (by first | decide | omega) (Nat.le_of_ble_eq_true rfl) (Nat.le_of_ble_eq_true rfl) ?_
      exact ⟨_, rfl, hB121, kp122, kp123, kp124, kp125, by omega, by omega, by omega, by omega, by omega, fun hr => absurd hr (by omega), by rw [sB6 (by omega)]; exact CR.b_bad h120 (by omega) (by omega)⟩
    · have e127 := CR.ok h120 (by omega)
      refine vc_aload_n dX4_readDeed_72 rfl ?_
      refine vc_iconst dX4_readDeed_73 rfl ?_
      refine vc_iconst dX4_readDeed_74 rfl ?_
      refine vc_iconst dX4_readDeed_75 rfl ?_
      refine vc_cVI dX4_readDeed_76 (sfX4_readNumberF (M := M108) hB121.1  g n ((sNum (tk g n) (nx g n) 0 15 p).2) e127.2 2 0 3 (by omega) (by omega) (by omega)) rfl okX4_readNumber viX4_readNumber lkX4_144 (s_22 hB121.1.1) cl_4 rfl (Nat.le_of_ble_eq_true rfl) ⟨rfl, rfl⟩ (Nat.le_of_ble_eq_true rfl) (Nat.le_of_ble_eq_true rfl) (Nat.le_of_ble_eq_true rfl) ?_
      rintro x128 M129 ⟨hB130, kp131, kp132, kp133, kp134, h135, h136, h137, h138, h139, h140, h141⟩
      have hB142 : BF fQ M M129 := BF.go hB121 hB130
      have kp143 : mI M129 24 = mI M 24 := kp_go kp122 kp131
      have kp144 : mI M129 26 = mI M 26 := kp_go kp123 kp132
      have kp145 : mI M129 27 = mI M 27 := kp_go kp124 kp133
      have kp146 : mI M129 28 = mI M 28 := kp_go kp125 kp134
      refine vc_if_eq dX4_readDeed_79 (fun h147 => ?_) (fun h147 => ?_)
      · refine vc_iconst dX4_readDeed_103 rfl ?_
        refine vc_zret dX4_readDeed_104 rfl (by first | decide | omega) (Nat.le_of_ble_eq_true rfl) (Nat.le_of_ble_eq_true rfl) ?_
        exact ⟨_, rfl, hB142, kp143, kp144, kp145, kp146, by omega, by omega, by omega, by omega, by omega, fun hr => absurd hr (by omega), by rw [sB6 (by omega)]; exact CR.b_ok h120 (by omega) (CR.b_bad h141 (by omega) (by omega))⟩
      · have e148 := CR.ok h141 (by omega)
        refine vc_aload_n dX4_readDeed_82 rfl ?_
        refine vc_bipush dX4_readDeed_83 rfl ?_
        refine vc_cVI dX4_readDeed_85 (sfX4_readWordF (M := M129) hB142.1  g n ((sNum (tk g n) (nx g n) 0 3 ((sNum (tk g n) (nx g n) 0 15 p).2)).2) e148.2 16 (by omega) (by omega)) rfl okX4_readWord viX4_readWord lkX4_151 (s_22 hB142.1.1) cl_4 rfl (Nat.le_of_ble_eq_true rfl) ⟨rfl, rfl⟩ (Nat.le_of_ble_eq_true rfl) (Nat.le_of_ble_eq_true rfl) (Nat.le_of_ble_eq_true rfl) ?_
        rintro x149 M150 ⟨hB151, kp152, kp153, kp154, kp155, kp156, h157, h158, h159, h160, h161, h162⟩
        have hB163 : BF fQ M M150 := BF.go hB142 hB151
        have kp164 : mI M150 24 = mI M 24 := kp_go kp143 kp152
        have kp165 : mI M150 26 = mI M 26 := kp_go kp144 kp154
        have kp166 : mI M150 27 = mI M 27 := kp_go kp145 kp155
        have kp167 : mI M150 28 = mI M 28 := kp_go kp146 kp156
        refine vc_if_eq dX4_readDeed_88 (fun h168 => ?_) (fun h168 => ?_)
        · refine vc_iconst dX4_readDeed_103 rfl ?_
          refine vc_zret dX4_readDeed_104 rfl (by first | decide | omega) (Nat.le_of_ble_eq_true rfl) (Nat.le_of_ble_eq_true rfl) ?_
          exact ⟨_, rfl, hB163, kp164, kp165, kp166, kp167, by omega, by omega, by omega, by omega, by omega, fun hr => absurd hr (by omega), by rw [sB6 (by omega)]; exact CR.b_ok h120 (by omega) (CR.b_ok h141 (by omega) (CR.b_bad h162.cr (by omega) (by omega)))⟩
        · have e169 := CR.ok h162.cr (by omega)
          refine vc_aload_n dX4_readDeed_91 rfl ?_
          refine vc_iconst dX4_readDeed_92 rfl ?_
          refine vc_cVI dX4_readDeed_93 (sfX4_readCornerF (M := M150) hB163.1  g n ((sTok (tk g n) (nx g n) (101 + 16) ((sNum (tk g n) (nx g n) 0 3 ((sNum (tk g n) (nx g n) 0 15 p).2)).2)).2) e169.2 3 (by omega) (by omega) (by omega)) rfl okX4_readCorner viX4_readCorner lkX4_148 (s_22 hB163.1.1) cl_4 rfl (Nat.le_of_ble_eq_true rfl) ⟨rfl, rfl⟩ (Nat.le_of_ble_eq_true rfl) (Nat.le_of_ble_eq_true rfl) (Nat.le_of_ble_eq_true rfl) ?_
          rintro x170 M171 ⟨hB172, kp173, kp174, kp175, kp176, h177, h178, h179, h180, h181, h182, h183⟩
          have hB184 : BF fQ M M171 := BF.go hB163 hB172
          have kp185 : mI M171 24 = mI M 24 := kp_go kp164 kp173
          have kp186 : mI M171 26 = mI M 26 := kp_go kp165 kp174
          have kp187 : mI M171 27 = mI M 27 := kp_go kp166 kp175
          have kp188 : mI M171 28 = mI M 28 := kp_go kp167 kp176
          refine vc_if_eq dX4_readDeed_96 (fun h189 => ?_) (fun h189 => ?_)
          · refine vc_iconst dX4_readDeed_103 rfl ?_
            refine vc_zret dX4_readDeed_104 rfl (by first | decide | omega) (Nat.le_of_ble_eq_true rfl) (Nat.le_of_ble_eq_true rfl) ?_
            exact ⟨_, rfl, hB184, kp185, kp186, kp187, kp188, by omega, by omega, by omega, by omega, by omega, fun hr => absurd hr (by omega), by rw [sB6 (by omega)]; exact CR.b_ok h120 (by omega) (CR.b_ok h141 (by omega) (CR.b_ok h162.cr (by omega) (CR.cast h183 (by omega))))⟩
          · have e190 := CR.ok h183 (by omega)
            refine vc_iconst dX4_readDeed_99 rfl ?_
            refine vc_goto dX4_readDeed_100 ?_
            refine vc_zret dX4_readDeed_104 rfl (by first | decide | omega) (Nat.le_of_ble_eq_true rfl) (Nat.le_of_ble_eq_true rfl) ?_
            have hp0 := (sNum_ok e127.1).1
            have hp1 := (sNum_ok e148.1).1
            have hp2 := sTok_ok e169.1
            exact ⟨_, rfl, hB184, kp185, kp186, kp187, kp188, by omega, by omega, by omega, by omega, by omega, fun hr => ⟨fun i hi => ((((h182 (by omega)).2 i (by omega)).trans ((congrFun kp153 i).trans ((h140 (by omega)).2 i (by omega)))).trans ((h119 (by omega)).1 i (by omega))).trans (by unfold rw1; rw [if_neg (by omega)]), fun _ i hi => ((((h182 (by omega)).2 i (by omega)).trans (congrFun kp153 i)).trans ((h140 (by omega)).1 i (by omega))).trans (by rw [hp0]; unfold rw2; rw [if_pos (by omega)]), fun _ i hi => ((h182 (by omega)).1 i (by omega)).trans (by rw [hp2, hp1, hp0]; unfold rw3; rw [if_neg (by omega)]), fun hw => absurd hw (by omega), fun i hi => (((h182 (by omega)).2 i (by omega)).trans ((congrFun kp153 i).trans (((h140 (by omega)).2 i (by omega)).trans ((h119 (by omega)).2 i (by omega)))))⟩, by rw [sB6 (by omega)]; exact CR.b_ok h120 (by omega) (CR.b_ok h141 (by omega) (CR.b_ok h162.cr (by omega) (CR.cast h183 (by omega))))⟩
  by_cases h191 : w = 8
  · refine vc_tabIn dX4_readDeed_1 8 105 h191 rfl rfl rfl ?_
    refine vc_aload_n dX4_readDeed_105 rfl ?_
    refine vc_iconst dX4_readDeed_106 rfl ?_
    refine vc_cVI dX4_readDeed_107 (sfX4_readCornerF (M := M) hB0.1  g n p hR 1 (by omega) (by omega) (by omega)) rfl okX4_readCorner viX4_readCorner lkX4_148 (s_22 hB0.1.1) cl_4 rfl (Nat.le_of_ble_eq_true rfl) ⟨rfl, rfl⟩ (Nat.le_of_ble_eq_true rfl) (Nat.le_of_ble_eq_true rfl) (Nat.le_of_ble_eq_true rfl) ?_
    rintro x192 M193 ⟨hB194, kp195, kp196, kp197, kp198, h199, h200, h201, h202, h203, h204, h205⟩
    have hB206 : BF fQ M M193 := BF.go hB0 hB194
    have kp207 : mI M193 24 = mI M 24 := kp_go rfl kp195
    have kp208 : mI M193 26 = mI M 26 := kp_go rfl kp196
    have kp209 : mI M193 27 = mI M 27 := kp_go rfl kp197
    have kp210 : mI M193 28 = mI M 28 := kp_go rfl kp198
    refine vc_zret dX4_readDeed_110 rfl (by first | decide | omega) (Nat.le_of_ble_eq_true rfl) (Nat.le_of_ble_eq_true rfl) ?_
    exact ⟨_, rfl, hB206, kp207, kp208, kp209, kp210, by omega, by omega, by omega, by omega, by omega, fun hr => ⟨fun i hi => ((h204 (by omega)).1 i (by omega)).trans (by unfold rw1; rw [if_neg (by omega)]), fun hw => absurd hw (by omega), fun hw => absurd hw (by omega), fun hw => absurd hw (by omega), fun i hi => ((h204 (by omega)).2 i (by omega))⟩, by rw [sB8 (by omega)]; exact CR.cast h205 (by omega)⟩
  by_cases h211 : w = 9
  · refine vc_tabIn dX4_readDeed_1 9 105 h211 rfl rfl rfl ?_
    refine vc_aload_n dX4_readDeed_105 rfl ?_
    refine vc_iconst dX4_readDeed_106 rfl ?_
    refine vc_cVI dX4_readDeed_107 (sfX4_readCornerF (M := M) hB0.1  g n p hR 1 (by omega) (by omega) (by omega)) rfl okX4_readCorner viX4_readCorner lkX4_148 (s_22 hB0.1.1) cl_4 rfl (Nat.le_of_ble_eq_true rfl) ⟨rfl, rfl⟩ (Nat.le_of_ble_eq_true rfl) (Nat.le_of_ble_eq_true rfl) (Nat.le_of_ble_eq_true rfl) ?_
    rintro x212 M213 ⟨hB214, kp215, kp216, kp217, kp218, h219, h220, h221, h222, h223, h224, h225⟩
    have hB226 : BF fQ M M213 := BF.go hB0 hB214
    have kp227 : mI M213 24 = mI M 24 := kp_go rfl kp215
    have kp228 : mI M213 26 = mI M 26 := kp_go rfl kp216
    have kp229 : mI M213 27 = mI M 27 := kp_go rfl kp217
    have kp230 : mI M213 28 = mI M 28 := kp_go rfl kp218
    refine vc_zret dX4_readDeed_110 rfl (by first | decide | omega) (Nat.le_of_ble_eq_true rfl) (Nat.le_of_ble_eq_true rfl) ?_
    exact ⟨_, rfl, hB226, kp227, kp228, kp229, kp230, by omega, by omega, by omega, by omega, by omega, fun hr => ⟨fun i hi => ((h224 (by omega)).1 i (by omega)).trans (by unfold rw1; rw [if_neg (by omega)]), fun hw => absurd hw (by omega), fun hw => absurd hw (by omega), fun hw => absurd hw (by omega), fun i hi => ((h224 (by omega)).2 i (by omega))⟩, by rw [sB8 (by omega)]; exact CR.cast h225 (by omega)⟩
  by_cases h231 : w = 10
  · refine vc_tabIn dX4_readDeed_1 10 111 h231 rfl rfl rfl ?_
    refine vc_aload_n dX4_readDeed_111 rfl ?_
    refine vc_iconst dX4_readDeed_112 rfl ?_
    refine vc_iconst dX4_readDeed_113 rfl ?_
    refine vc_iconst dX4_readDeed_114 rfl ?_
    refine vc_cVI dX4_readDeed_115 (sfX4_readNumberF (M := M) hB0.1  g n p hR 1 0 5 (by omega) (by omega) (by omega)) rfl okX4_readNumber viX4_readNumber lkX4_144 (s_22 hB0.1.1) cl_4 rfl (Nat.le_of_ble_eq_true rfl) ⟨rfl, rfl⟩ (Nat.le_of_ble_eq_true rfl) (Nat.le_of_ble_eq_true rfl) (Nat.le_of_ble_eq_true rfl) ?_
    rintro x232 M233 ⟨hB234, kp235, kp236, kp237, kp238, h239, h240, h241, h242, h243, h244, h245⟩
    have hB246 : BF fQ M M233 := BF.go hB0 hB234
    have kp247 : mI M233 24 = mI M 24 := kp_go rfl kp235
    have kp248 : mI M233 26 = mI M 26 := kp_go rfl kp236
    have kp249 : mI M233 27 = mI M 27 := kp_go rfl kp237
    have kp250 : mI M233 28 = mI M 28 := kp_go rfl kp238
    refine vc_if_eq dX4_readDeed_118 (fun h251 => ?_) (fun h251 => ?_)
    · refine vc_iconst dX4_readDeed_148 rfl ?_
      refine vc_zret dX4_readDeed_149 rfl (by first | decide | omega) (Nat.le_of_ble_eq_true rfl) (Nat.le_of_ble_eq_true rfl) ?_
      exact ⟨_, rfl, hB246, kp247, kp248, kp249, kp250, by omega, by omega, by omega, by omega, by omega, fun hr => absurd hr (by omega), by rw [sB10 (by omega)]; exact CR.b_bad h245 (by omega) (by omega)⟩
    · have e252 := CR.ok h245 (by omega)
      refine vc_aload_n dX4_readDeed_121 rfl ?_
      refine vc_cVI dX4_readDeed_122 (sfX4_readFacingF (M := M233) hB246.1  g n ((sNum (tk g n) (nx g n) 0 5 p).2) e252.2 (by omega)) rfl okX4_readFacing viX4_readFacing lkX4_154 (s_22 hB246.1.1) cl_4 rfl (Nat.le_of_ble_eq_true rfl) ⟨rfl, rfl⟩ (Nat.le_of_ble_eq_true rfl) (Nat.le_of_ble_eq_true rfl) (Nat.le_of_ble_eq_true rfl) ?_
      rintro x253 M254 ⟨hB255, kp256, kp257, kp258, kp259, h260, h261, h262, h263, h264, h265, h266⟩
      have hB267 : BF fQ M M254 := BF.go hB246 hB255
      have kp268 : mI M254 24 = mI M 24 := kp_go kp247 kp256
      have kp269 : mI M254 26 = mI M 26 := kp_go kp248 kp257
      have kp270 : mI M254 27 = mI M 27 := kp_go kp249 kp258
      have kp271 : mI M254 28 = mI M 28 := kp_go kp250 kp259
      refine vc_if_eq dX4_readDeed_125 (fun h272 => ?_) (fun h272 => ?_)
      · refine vc_iconst dX4_readDeed_148 rfl ?_
        refine vc_zret dX4_readDeed_149 rfl (by first | decide | omega) (Nat.le_of_ble_eq_true rfl) (Nat.le_of_ble_eq_true rfl) ?_
        exact ⟨_, rfl, hB267, kp268, kp269, kp270, kp271, by omega, by omega, by omega, by omega, by omega, fun hr => absurd hr (by omega), by rw [sB10 (by omega)]; exact CR.b_ok h245 (by omega) (CR.b_bad h266 (by omega) (by omega))⟩
      · have e273 := CR.ok h266 (by omega)
        refine vc_aload_n dX4_readDeed_128 rfl ?_
        refine vc_bipush dX4_readDeed_129 rfl ?_
        refine vc_cVI dX4_readDeed_131 (sfX4_readSignF (M := M254) hB267.1  g n ((sFac (tk g n) (nx g n) ((sNum (tk g n) (nx g n) 0 5 p).2)).2) e273.2 58 (by omega) (by omega)) rfl okX4_readSign viX4_readSign lkX4_141 (s_22 hB267.1.1) cl_4 rfl (Nat.le_of_ble_eq_true rfl) ⟨rfl, rfl⟩ (Nat.le_of_ble_eq_true rfl) (Nat.le_of_ble_eq_true rfl) (Nat.le_of_ble_eq_true rfl) ?_
        rintro x274 M275 ⟨hB276, kp277, kp278, kp279, kp280, kp281, h282, h283, h284, h285, h286, h287⟩
        have hB288 : BF fQ M M275 := BF.go hB267 hB276
        have kp289 : mI M275 24 = mI M 24 := kp_go kp268 kp277
        have kp290 : mI M275 26 = mI M 26 := kp_go kp269 kp279
        have kp291 : mI M275 27 = mI M 27 := kp_go kp270 kp280
        have kp292 : mI M275 28 = mI M 28 := kp_go kp271 kp281
        refine vc_if_eq dX4_readDeed_134 (fun h293 => ?_) (fun h293 => ?_)
        · refine vc_iconst dX4_readDeed_148 rfl ?_
          refine vc_zret dX4_readDeed_149 rfl (by first | decide | omega) (Nat.le_of_ble_eq_true rfl) (Nat.le_of_ble_eq_true rfl) ?_
          exact ⟨_, rfl, hB288, kp289, kp290, kp291, kp292, by omega, by omega, by omega, by omega, by omega, fun hr => absurd hr (by omega), by rw [sB10 (by omega)]; exact CR.b_ok h245 (by omega) (CR.b_ok h266 (by omega) (CR.b_bad h287.cr (by omega) (by omega)))⟩
        · have e294 := CR.ok h287.cr (by omega)
          refine vc_aload_n dX4_readDeed_137 rfl ?_
          refine vc_cVI dX4_readDeed_138 (sfX4_readTurnsF (M := M275) hB288.1  g n ((sTok (tk g n) (nx g n) (58 - 300) ((sFac (tk g n) (nx g n) ((sNum (tk g n) (nx g n) 0 5 p).2)).2)).2) e294.2 (by omega)) rfl okX4_readTurns viX4_readTurns lkX4_157 (s_22 hB288.1.1) cl_4 rfl (Nat.le_of_ble_eq_true rfl) ⟨rfl, rfl⟩ (Nat.le_of_ble_eq_true rfl) (Nat.le_of_ble_eq_true rfl) (Nat.le_of_ble_eq_true rfl) ?_
          rintro x295 M296 ⟨hB297, kp298, kp299, kp300, kp301, h302, h303, h304, h305, h306, h307, h308⟩
          have hB309 : BF fQ M M296 := BF.go hB288 hB297
          have kp310 : mI M296 24 = mI M 24 := kp_go kp289 kp298
          have kp311 : mI M296 26 = mI M 26 := kp_go kp290 kp299
          have kp312 : mI M296 27 = mI M 27 := kp_go kp291 kp300
          have kp313 : mI M296 28 = mI M 28 := kp_go kp292 kp301
          refine vc_if_eq dX4_readDeed_141 (fun h314 => ?_) (fun h314 => ?_)
          · refine vc_iconst dX4_readDeed_148 rfl ?_
            refine vc_zret dX4_readDeed_149 rfl (by first | decide | omega) (Nat.le_of_ble_eq_true rfl) (Nat.le_of_ble_eq_true rfl) ?_
            exact ⟨_, rfl, hB309, kp310, kp311, kp312, kp313, by omega, by omega, by omega, by omega, by omega, fun hr => absurd hr (by omega), by rw [sB10 (by omega)]; exact CR.b_ok h245 (by omega) (CR.b_ok h266 (by omega) (CR.b_ok h287.cr (by omega) (CR.cast h308 (by omega))))⟩
          · have e315 := CR.ok h308 (by omega)
            refine vc_iconst dX4_readDeed_144 rfl ?_
            refine vc_goto dX4_readDeed_145 ?_
            refine vc_zret dX4_readDeed_149 rfl (by first | decide | omega) (Nat.le_of_ble_eq_true rfl) (Nat.le_of_ble_eq_true rfl) ?_
            have hp0 := (sNum_ok e252.1).1
            have hp1 := sFac_ok e273.1
            have hp2 := sTok_ok e294.1
            exact ⟨_, rfl, hB309, kp310, kp311, kp312, kp313, by omega, by omega, by omega, by omega, by omega, fun hr => ⟨fun i hi => ((((h307 (by omega)).2.2 i (by omega) (by omega)).trans ((congrFun kp278 i).trans ((h265 (by omega)).2 i (by omega)))).trans ((h244 (by omega)).1 i (by omega))).trans (by unfold rw1; rw [if_neg (by omega)]), fun _ i hi => ((((h307 (by omega)).2.2 i (by omega) (by omega)).trans (congrFun kp278 i)).trans ((h265 (by omega)).1 i (by omega))).trans (by rw [hp0]; unfold rw2; rw [if_neg (by omega)]), fun _ i hi => ((h307 (by omega)).1 i (by omega)).trans (by rw [hp2, hp1, hp0]; unfold rw3; rw [if_pos (by omega)]), fun _ i hi => ((h307 (by omega)).2.1 i (by omega)).trans (by rw [hp2, hp1, hp0]; rfl), fun i hi => (((h307 (by omega)).2.2 i (by omega) (by omega)).trans ((congrFun kp278 i).trans (((h265 (by omega)).2 i (by omega)).trans ((h244 (by omega)).2 i (by omega)))))⟩, by rw [sB10 (by omega)]; exact CR.b_ok h245 (by omega) (CR.b_ok h266 (by omega) (CR.b_ok h287.cr (by omega) (CR.cast h308 (by omega))))⟩
  by_cases h316 : w = 11
  · refine vc_tabIn dX4_readDeed_1 11 150 h316 rfl rfl rfl ?_
    refine vc_aload_n dX4_readDeed_150 rfl ?_
    refine vc_iconst dX4_readDeed_151 rfl ?_
    refine vc_cVI dX4_readDeed_152 (sfX4_readCornerF (M := M) hB0.1  g n p hR 1 (by omega) (by omega) (by omega)) rfl okX4_readCorner viX4_readCorner lkX4_148 (s_22 hB0.1.1) cl_4 rfl (Nat.le_of_ble_eq_true rfl) ⟨rfl, rfl⟩ (Nat.le_of_ble_eq_true rfl) (Nat.le_of_ble_eq_true rfl) (Nat.le_of_ble_eq_true rfl) ?_
    rintro x317 M318 ⟨hB319, kp320, kp321, kp322, kp323, h324, h325, h326, h327, h328, h329, h330⟩
    have hB331 : BF fQ M M318 := BF.go hB0 hB319
    have kp332 : mI M318 24 = mI M 24 := kp_go rfl kp320
    have kp333 : mI M318 26 = mI M 26 := kp_go rfl kp321
    have kp334 : mI M318 27 = mI M 27 := kp_go rfl kp322
    have kp335 : mI M318 28 = mI M 28 := kp_go rfl kp323
    refine vc_if_eq dX4_readDeed_155 (fun h336 => ?_) (fun h336 => ?_)
    · refine vc_iconst dX4_readDeed_169 rfl ?_
      refine vc_zret dX4_readDeed_170 rfl (by first | decide | omega) (Nat.le_of_ble_eq_true rfl) (Nat.le_of_ble_eq_true rfl) ?_
      exact ⟨_, rfl, hB331, kp332, kp333, kp334, kp335, by omega, by omega, by omega, by omega, by omega, fun hr => absurd hr (by omega), by rw [sB11 (by omega)]; exact CR.b_bad h330 (by omega) (by omega)⟩
    · have e337 := CR.ok h330 (by omega)
      refine vc_aload_n dX4_readDeed_158 rfl ?_
      refine vc_cVI dX4_readDeed_159 (sfX4_readFacingF (M := M318) hB331.1  g n ((sNum (tk g n) (nx g n) 0 15 p).2) e337.2 (by omega)) rfl okX4_readFacing viX4_readFacing lkX4_154 (s_22 hB331.1.1) cl_4 rfl (Nat.le_of_ble_eq_true rfl) ⟨rfl, rfl⟩ (Nat.le_of_ble_eq_true rfl) (Nat.le_of_ble_eq_true rfl) (Nat.le_of_ble_eq_true rfl) ?_
      rintro x338 M339 ⟨hB340, kp341, kp342, kp343, kp344, h345, h346, h347, h348, h349, h350, h351⟩
      have hB352 : BF fQ M M339 := BF.go hB331 hB340
      have kp353 : mI M339 24 = mI M 24 := kp_go kp332 kp341
      have kp354 : mI M339 26 = mI M 26 := kp_go kp333 kp342
      have kp355 : mI M339 27 = mI M 27 := kp_go kp334 kp343
      have kp356 : mI M339 28 = mI M 28 := kp_go kp335 kp344
      refine vc_if_eq dX4_readDeed_162 (fun h357 => ?_) (fun h357 => ?_)
      · refine vc_iconst dX4_readDeed_169 rfl ?_
        refine vc_zret dX4_readDeed_170 rfl (by first | decide | omega) (Nat.le_of_ble_eq_true rfl) (Nat.le_of_ble_eq_true rfl) ?_
        exact ⟨_, rfl, hB352, kp353, kp354, kp355, kp356, by omega, by omega, by omega, by omega, by omega, fun hr => absurd hr (by omega), by rw [sB11 (by omega)]; exact CR.b_ok h330 (by omega) (CR.cast h351 (by omega))⟩
      · have e358 := CR.ok h351 (by omega)
        refine vc_iconst dX4_readDeed_165 rfl ?_
        refine vc_goto dX4_readDeed_166 ?_
        refine vc_zret dX4_readDeed_170 rfl (by first | decide | omega) (Nat.le_of_ble_eq_true rfl) (Nat.le_of_ble_eq_true rfl) ?_
        have hp0 := (sNum_ok e337.1).1
        exact ⟨_, rfl, hB352, kp353, kp354, kp355, kp356, by omega, by omega, by omega, by omega, by omega, fun hr => ⟨fun i hi => (((h350 (by omega)).2 i (by omega)).trans ((h329 (by omega)).1 i (by omega))).trans (by unfold rw1; rw [if_neg (by omega)]), fun _ i hi => ((h350 (by omega)).1 i (by omega)).trans (by rw [hp0]; unfold rw2; rw [if_neg (by omega)]), fun hw => absurd hw (by omega), fun hw => absurd hw (by omega), fun i hi => (((h350 (by omega)).2 i (by omega)).trans ((h329 (by omega)).2 i (by omega)))⟩, by rw [sB11 (by omega)]; exact CR.b_ok h330 (by omega) (CR.cast h351 (by omega))⟩
  by_cases h359 : w = 12
  · refine vc_tabIn dX4_readDeed_1 12 171 h359 rfl rfl rfl ?_
    refine vc_aload_n dX4_readDeed_171 rfl ?_
    refine vc_iconst dX4_readDeed_172 rfl ?_
    refine vc_iconst dX4_readDeed_173 rfl ?_
    refine vc_bipush dX4_readDeed_174 rfl ?_
    refine vc_cVI dX4_readDeed_176 (sfX4_readNumberF (M := M) hB0.1  g n p hR 1 1 20 (by omega) (by omega) (by omega)) rfl okX4_readNumber viX4_readNumber lkX4_144 (s_22 hB0.1.1) cl_4 rfl (Nat.le_of_ble_eq_true rfl) ⟨rfl, rfl⟩ (Nat.le_of_ble_eq_true rfl) (Nat.le_of_ble_eq_true rfl) (Nat.le_of_ble_eq_true rfl) ?_
    rintro x360 M361 ⟨hB362, kp363, kp364, kp365, kp366, h367, h368, h369, h370, h371, h372, h373⟩
    have hB374 : BF fQ M M361 := BF.go hB0 hB362
    have kp375 : mI M361 24 = mI M 24 := kp_go rfl kp363
    have kp376 : mI M361 26 = mI M 26 := kp_go rfl kp364
    have kp377 : mI M361 27 = mI M 27 := kp_go rfl kp365
    have kp378 : mI M361 28 = mI M 28 := kp_go rfl kp366
    refine vc_zret dX4_readDeed_179 rfl (by first | decide | omega) (Nat.le_of_ble_eq_true rfl) (Nat.le_of_ble_eq_true rfl) ?_
    exact ⟨_, rfl, hB374, kp375, kp376, kp377, kp378, by omega, by omega, by omega, by omega, by omega, fun hr => ⟨fun i hi => ((h372 (by omega)).1 i (by omega)).trans (by unfold rw1; rw [if_neg (by omega)]), fun hw => absurd hw (by omega), fun hw => absurd hw (by omega), fun hw => absurd hw (by omega), fun i hi => ((h372 (by omega)).2 i (by omega))⟩, by rw [sB12 (by omega)]; exact CR.cast h373 (by omega)⟩
  by_cases h379 : w = 13
  · refine vc_tabIn dX4_readDeed_1 13 180 h379 rfl rfl rfl ?_
    refine vc_aload_n dX4_readDeed_180 rfl ?_
    refine vc_iconst dX4_readDeed_181 rfl ?_
    refine vc_cVI dX4_readDeed_182 (sfX4_readSideToF (M := M) hB0.1  g n p hR 1 (by omega) (by omega) (by omega)) rfl okX4_readSideTo viX4_readSideTo lkX4_160 (s_22 hB0.1.1) cl_4 rfl (Nat.le_of_ble_eq_true rfl) ⟨rfl, rfl⟩ (Nat.le_of_ble_eq_true rfl) (Nat.le_of_ble_eq_true rfl) (Nat.le_of_ble_eq_true rfl) ?_
    rintro x380 M381 ⟨hB382, kp383, kp384, kp385, kp386, h387, h388, h389, h390, h391, h392, h393⟩
    have hB394 : BF fQ M M381 := BF.go hB0 hB382
    have kp395 : mI M381 24 = mI M 24 := kp_go rfl kp383
    have kp396 : mI M381 26 = mI M 26 := kp_go rfl kp384
    have kp397 : mI M381 27 = mI M 27 := kp_go rfl kp385
    have kp398 : mI M381 28 = mI M 28 := kp_go rfl kp386
    refine vc_zret dX4_readDeed_185 rfl (by first | decide | omega) (Nat.le_of_ble_eq_true rfl) (Nat.le_of_ble_eq_true rfl) ?_
    exact ⟨_, rfl, hB394, kp395, kp396, kp397, kp398, by omega, by omega, by omega, by omega, by omega, fun hr => ⟨fun i hi => ((h392 (by omega)).1 i (by omega)).trans (by rw [show w = 13 by omega]), fun hw => absurd hw (by omega), fun hw => absurd hw (by omega), fun hw => absurd hw (by omega), fun i hi => ((h392 (by omega)).2 i (by omega))⟩, by rw [sB13 (by omega)]; exact CR.cast h393 (by omega)⟩
  by_cases h399 : w = 14
  · refine vc_tabIn dX4_readDeed_1 14 186 h399 rfl rfl rfl ?_
    refine vc_aload_n dX4_readDeed_186 rfl ?_
    refine vc_iconst dX4_readDeed_187 rfl ?_
    refine vc_iconst dX4_readDeed_188 rfl ?_
    refine vc_iconst dX4_readDeed_189 rfl ?_
    refine vc_cVI dX4_readDeed_190 (sfX4_readNumberF (M := M) hB0.1  g n p hR 1 0 5 (by omega) (by omega) (by omega)) rfl okX4_readNumber viX4_readNumber lkX4_144 (s_22 hB0.1.1) cl_4 rfl (Nat.le_of_ble_eq_true rfl) ⟨rfl, rfl⟩ (Nat.le_of_ble_eq_true rfl) (Nat.le_of_ble_eq_true rfl) (Nat.le_of_ble_eq_true rfl) ?_
    rintro x400 M401 ⟨hB402, kp403, kp404, kp405, kp406, h407, h408, h409, h410, h411, h412, h413⟩
    have hB414 : BF fQ M M401 := BF.go hB0 hB402
    have kp415 : mI M401 24 = mI M 24 := kp_go rfl kp403
    have kp416 : mI M401 26 = mI M 26 := kp_go rfl kp404
    have kp417 : mI M401 27 = mI M 27 := kp_go rfl kp405
    have kp418 : mI M401 28 = mI M 28 := kp_go rfl kp406
    refine vc_zret dX4_readDeed_193 rfl (by first | decide | omega) (Nat.le_of_ble_eq_true rfl) (Nat.le_of_ble_eq_true rfl) ?_
    exact ⟨_, rfl, hB414, kp415, kp416, kp417, kp418, by omega, by omega, by omega, by omega, by omega, fun hr => ⟨fun i hi => ((h412 (by omega)).1 i (by omega)).trans (by unfold rw1; rw [if_neg (by omega)]), fun hw => absurd hw (by omega), fun hw => absurd hw (by omega), fun hw => absurd hw (by omega), fun i hi => ((h412 (by omega)).2 i (by omega))⟩, by rw [sB14 (by omega)]; exact CR.cast h413 (by omega)⟩
  refine vc_tabOut dX4_readDeed_1 194 (by omega) rfl ?_
  refine vc_aload_n dX4_readDeed_194 rfl ?_
  refine vc_iconst dX4_readDeed_195 rfl ?_
  refine vc_iconst dX4_readDeed_196 rfl ?_
  refine vc_bipush dX4_readDeed_197 rfl ?_
  refine vc_cVI dX4_readDeed_199 (sfX4_readNumberF (M := M) hB0.1  g n p hR 1 0 7 (by omega) (by omega) (by omega)) rfl okX4_readNumber viX4_readNumber lkX4_144 (s_22 hB0.1.1) cl_4 rfl (Nat.le_of_ble_eq_true rfl) ⟨rfl, rfl⟩ (Nat.le_of_ble_eq_true rfl) (Nat.le_of_ble_eq_true rfl) (Nat.le_of_ble_eq_true rfl) ?_
  rintro x419 M420 ⟨hB421, kp422, kp423, kp424, kp425, h426, h427, h428, h429, h430, h431, h432⟩
  have hB433 : BF fQ M M420 := BF.go hB0 hB421
  have kp434 : mI M420 24 = mI M 24 := kp_go rfl kp422
  have kp435 : mI M420 26 = mI M 26 := kp_go rfl kp423
  have kp436 : mI M420 27 = mI M 27 := kp_go rfl kp424
  have kp437 : mI M420 28 = mI M 28 := kp_go rfl kp425
  refine vc_zret dX4_readDeed_202 rfl (by first | decide | omega) (Nat.le_of_ble_eq_true rfl) (Nat.le_of_ble_eq_true rfl) ?_
  exact ⟨_, rfl, hB433, kp434, kp435, kp436, kp437, by omega, by omega, by omega, by omega, by omega, fun hr => ⟨fun i hi => ((h431 (by omega)).1 i (by omega)).trans (by unfold rw1; rw [if_neg (by omega)]), fun hw => absurd hw (by omega), fun hw => absurd hw (by omega), fun hw => absurd hw (by omega), fun i hi => ((h431 (by omega)).2 i (by omega))⟩, by rw [sB15 (by omega)]; exact CR.cast h432 (by omega)⟩

set_option maxRecDepth 4000 in
theorem sfX4_beginLawF {l : Launch} {M : Mem} (hB : Box M) (g : Nat → Int) (n p : Int) (hR : RS g n M p) (law : Int) (p0 : 0 ≤ law) (p1 : law ≤ 4) : Call l mdX4_beginLaw [aR 22, aI law] M (fun q N => ∃ r : Int, q = some (aI r) ∧ BF fQ M N ∧ mI N 25 = mI M 25 ∧ mI N 26 = mI M 26 ∧ mI N 27 = mI M 27 ∧ mI N 28 = mI M 28 ∧ 1 ≤ r ∧ r ≤ 1 ∧ 0 ≤ mI N 22 9 ∧ mI N 22 13 = mI M 22 13 ∧ NMk (mI N 22 14) law ∧ (∀ j : Nat, j ≠ (2 * law).toNat → mI N 24 j = mI M 24 j) ∧ mI N 24 (2 * law).toNat ≠ -1 ∧ RS g n N p) := by
  have hB0 : BF fQ M M := BF.start hB
  refine Call.of [some (aR 22), some (aI law)] rfl (Nat.le_of_ble_eq_true rfl) rfl ?_
  have hrg := RS.rg hR
  refine vc_aload_n dX4_beginLaw_0 rfl ?_
  refine vc_iload_n dX4_beginLaw_1 rfl ?_
  refine vc_iconst dX4_beginLaw_2 rfl ?_
  refine vc_icmp_ge dX4_beginLaw_3 (fun h1 => ?_) (fun h1 => ?_)
  · refine vc_iload_n dX4_beginLaw_11 rfl ?_
    refine vc_iconst dX4_beginLaw_12 rfl ?_
    refine vc_icmp_ne dX4_beginLaw_13 (fun h2 => ?_) (fun h2 => ?_)
    · refine vc_bipush dX4_beginLaw_22 rfl ?_
      refine vc_putI dX4_beginLaw_24 (plX4_170 _ rfl) (s_22 hB0.1.1) rfl ?_
      have kp3 : mI (sI M 22 14 7) 25 = mI M 25 := (kp_sI rfl rfl)
      have kp4 : mI (sI M 22 14 7) 26 = mI M 26 := (kp_sI rfl rfl)
      have kp5 : mI (sI M 22 14 7) 27 = mI M 27 := (kp_sI rfl rfl)
      have kp6 : mI (sI M 22 14 7) 28 = mI M 28 := (kp_sI rfl rfl)
      have hB7 : BF fQ M (sI M 22 14 7) := BF.w22_14 hB0 rfl
      refine vc_aload_n dX4_beginLaw_27 rfl ?_
      refine vc_getR dX4_beginLaw_28 flX4_18 (s_22 hB7.1.1) rfl (r_22_2 hB7.1.1) ?_
      refine vc_iconst dX4_beginLaw_31 rfl ?_
      refine vc_iload_n dX4_beginLaw_32 rfl ?_
      refine vc_imulE dX4_beginLaw_33 (by omega) (by omega) ?_
      refine vc_aload_n dX4_beginLaw_34 rfl ?_
      refine vc_getI dX4_beginLaw_35 flX4_50 (s_22 hB7.1.1) rfl ?_
      refine vc_topI (mI M 22 12) rfl ?_
      have k8 : 0 ≤ mI M 22 12 ∧ mI M 22 12 ≤ 300 := b22_12 (M := (sI M 22 14 7)) hB7.1
      refine vc_iastore dX4_beginLaw_38 (s_24 hB7.1.1) (by omega) (by omega) ?_
      have kp9 : mI (sI (sI M 22 14 7) 24 ((2 * law).toNat) (mI M 22 12)) 25 = mI M 25 := (kp_sI kp3 rfl)
      have kp10 : mI (sI (sI M 22 14 7) 24 ((2 * law).toNat) (mI M 22 12)) 26 = mI M 26 := (kp_sI kp4 rfl)
      have kp11 : mI (sI (sI M 22 14 7) 24 ((2 * law).toNat) (mI M 22 12)) 27 = mI M 27 := (kp_sI kp5 rfl)
      have kp12 : mI (sI (sI M 22 14 7) 24 ((2 * law).toNat) (mI M 22 12)) 28 = mI M 28 := (kp_sI kp6 rfl)
      have hB13 : BF fQ M (sI (sI M 22 14 7) 24 ((2 * law).toNat) (mI M 22 12)) := BF.w24 hB7 (fun _ => rfl) _ (by omega) (by omega)
      refine vc_iconst dX4_beginLaw_39 rfl ?_
      refine vc_zret dX4_beginLaw_40 rfl (by first | decide | omega) (Nat.le_of_ble_eq_true rfl) (Nat.le_of_ble_eq_true rfl) ?_
      have k14 : mI (sI (sI M 22 14 7) 24 ((2 * law).toNat) (mI M 22 12)) 22 7 = mI M 22 7 := rfl
      have k15 : mI (sI (sI M 22 14 7) 24 ((2 * law).toNat) (mI M 22 12)) 22 8 = mI M 22 8 := rfl
      have k16 : mI (sI (sI M 22 14 7) 24 ((2 * law).toNat) (mI M 22 12)) 22 9 = mI M 22 9 := rfl
      have k17 : mI (sI (sI M 22 14 7) 24 ((2 * law).toNat) (mI M 22 12)) 22 10 = mI M 22 10 := rfl
      have k18 : mI (sI (sI M 22 14 7) 24 ((2 * law).toNat) (mI M 22 12)) 22 11 = mI M 22 11 := rfl
      have k19 : mI (sI (sI M 22 14 7) 24 ((2 * law).toNat) (mI M 22 12)) 22 12 = mI M 22 12 := rfl
      have k20 : mI (sI (sI M 22 14 7) 24 ((2 * law).toNat) (mI M 22 12)) 22 13 = mI M 22 13 := rfl
      have k21 : mI (sI (sI M 22 14 7) 24 ((2 * law).toNat) (mI M 22 12)) 22 14 = 7 := rfl
      exact ⟨_, rfl, hB13, kp9, kp10, kp11, kp12, by omega, by omega, by omega, by omega, by unfold NMk; omega, (fun j hj => by rw [mI_sI, if_neg (fun e => hj e.2)]; rfl), (by rw [mI_same]; omega), RS.same hR kp10 kp11 kp12 rfl rfl rfl rfl rfl⟩
    · refine vc_sipush dX4_beginLaw_16 rfl ?_
      refine vc_goto dX4_beginLaw_19 ?_
      refine vc_putI dX4_beginLaw_24 (plX4_170 _ rfl) (s_22 hB0.1.1) rfl ?_
      have kp22 : mI (sI M 22 14 448) 25 = mI M 25 := (kp_sI rfl rfl)
      have kp23 : mI (sI M 22 14 448) 26 = mI M 26 := (kp_sI rfl rfl)
      have kp24 : mI (sI M 22 14 448) 27 = mI M 27 := (kp_sI rfl rfl)
      have kp25 : mI (sI M 22 14 448) 28 = mI M 28 := (kp_sI rfl rfl)
      have hB26 : BF fQ M (sI M 22 14 448) := BF.w22_14 hB0 rfl
      refine vc_aload_n dX4_beginLaw_27 rfl ?_
      refine vc_getR dX4_beginLaw_28 flX4_18 (s_22 hB26.1.1) rfl (r_22_2 hB26.1.1) ?_
      refine vc_iconst dX4_beginLaw_31 rfl ?_
      refine vc_iload_n dX4_beginLaw_32 rfl ?_
      refine vc_imulE dX4_beginLaw_33 (by omega) (by omega) ?_
      refine vc_aload_n dX4_beginLaw_34 rfl ?_
      refine vc_getI dX4_beginLaw_35 flX4_50 (s_22 hB26.1.1) rfl ?_
      refine vc_topI (mI M 22 12) rfl ?_
      have k27 : 0 ≤ mI M 22 12 ∧ mI M 22 12 ≤ 300 := b22_12 (M := (sI M 22 14 448)) hB26.1
      refine vc_iastore dX4_beginLaw_38 (s_24 hB26.1.1) (by omega) (by omega) ?_
      have kp28 : mI (sI (sI M 22 14 448) 24 ((2 * law).toNat) (mI M 22 12)) 25 = mI M 25 := (kp_sI kp22 rfl)
      have kp29 : mI (sI (sI M 22 14 448) 24 ((2 * law).toNat) (mI M 22 12)) 26 = mI M 26 := (kp_sI kp23 rfl)
      have kp30 : mI (sI (sI M 22 14 448) 24 ((2 * law).toNat) (mI M 22 12)) 27 = mI M 27 := (kp_sI kp24 rfl)
      have kp31 : mI (sI (sI M 22 14 448) 24 ((2 * law).toNat) (mI M 22 12)) 28 = mI M 28 := (kp_sI kp25 rfl)
      have hB32 : BF fQ M (sI (sI M 22 14 448) 24 ((2 * law).toNat) (mI M 22 12)) := BF.w24 hB26 (fun _ => rfl) _ (by omega) (by omega)
      refine vc_iconst dX4_beginLaw_39 rfl ?_
      refine vc_zret dX4_beginLaw_40 rfl (by first | decide | omega) (Nat.le_of_ble_eq_true rfl) (Nat.le_of_ble_eq_true rfl) ?_
      have k33 : mI (sI (sI M 22 14 448) 24 ((2 * law).toNat) (mI M 22 12)) 22 7 = mI M 22 7 := rfl
      have k34 : mI (sI (sI M 22 14 448) 24 ((2 * law).toNat) (mI M 22 12)) 22 8 = mI M 22 8 := rfl
      have k35 : mI (sI (sI M 22 14 448) 24 ((2 * law).toNat) (mI M 22 12)) 22 9 = mI M 22 9 := rfl
      have k36 : mI (sI (sI M 22 14 448) 24 ((2 * law).toNat) (mI M 22 12)) 22 10 = mI M 22 10 := rfl
      have k37 : mI (sI (sI M 22 14 448) 24 ((2 * law).toNat) (mI M 22 12)) 22 11 = mI M 22 11 := rfl
      have k38 : mI (sI (sI M 22 14 448) 24 ((2 * law).toNat) (mI M 22 12)) 22 12 = mI M 22 12 := rfl
      have k39 : mI (sI (sI M 22 14 448) 24 ((2 * law).toNat) (mI M 22 12)) 22 13 = mI M 22 13 := rfl
      have k40 : mI (sI (sI M 22 14 448) 24 ((2 * law).toNat) (mI M 22 12)) 22 14 = 448 := rfl
      exact ⟨_, rfl, hB32, kp28, kp29, kp30, kp31, by omega, by omega, by omega, by omega, by unfold NMk; omega, (fun j hj => by rw [mI_sI, if_neg (fun e => hj e.2)]; rfl), (by rw [mI_same]; omega), RS.same hR kp29 kp30 kp31 rfl rfl rfl rfl rfl⟩
  · refine vc_bipush dX4_beginLaw_6 rfl ?_
    refine vc_goto dX4_beginLaw_8 ?_
    refine vc_putI dX4_beginLaw_24 (plX4_170 _ rfl) (s_22 hB0.1.1) rfl ?_
    have kp41 : mI (sI M 22 14 63) 25 = mI M 25 := (kp_sI rfl rfl)
    have kp42 : mI (sI M 22 14 63) 26 = mI M 26 := (kp_sI rfl rfl)
    have kp43 : mI (sI M 22 14 63) 27 = mI M 27 := (kp_sI rfl rfl)
    have kp44 : mI (sI M 22 14 63) 28 = mI M 28 := (kp_sI rfl rfl)
    have hB45 : BF fQ M (sI M 22 14 63) := BF.w22_14 hB0 rfl
    refine vc_aload_n dX4_beginLaw_27 rfl ?_
    refine vc_getR dX4_beginLaw_28 flX4_18 (s_22 hB45.1.1) rfl (r_22_2 hB45.1.1) ?_
    refine vc_iconst dX4_beginLaw_31 rfl ?_
    refine vc_iload_n dX4_beginLaw_32 rfl ?_
    refine vc_imulE dX4_beginLaw_33 (by omega) (by omega) ?_
    refine vc_aload_n dX4_beginLaw_34 rfl ?_
    refine vc_getI dX4_beginLaw_35 flX4_50 (s_22 hB45.1.1) rfl ?_
    refine vc_topI (mI M 22 12) rfl ?_
    have k46 : 0 ≤ mI M 22 12 ∧ mI M 22 12 ≤ 300 := b22_12 (M := (sI M 22 14 63)) hB45.1
    refine vc_iastore dX4_beginLaw_38 (s_24 hB45.1.1) (by omega) (by omega) ?_
    have kp47 : mI (sI (sI M 22 14 63) 24 ((2 * law).toNat) (mI M 22 12)) 25 = mI M 25 := (kp_sI kp41 rfl)
    have kp48 : mI (sI (sI M 22 14 63) 24 ((2 * law).toNat) (mI M 22 12)) 26 = mI M 26 := (kp_sI kp42 rfl)
    have kp49 : mI (sI (sI M 22 14 63) 24 ((2 * law).toNat) (mI M 22 12)) 27 = mI M 27 := (kp_sI kp43 rfl)
    have kp50 : mI (sI (sI M 22 14 63) 24 ((2 * law).toNat) (mI M 22 12)) 28 = mI M 28 := (kp_sI kp44 rfl)
    have hB51 : BF fQ M (sI (sI M 22 14 63) 24 ((2 * law).toNat) (mI M 22 12)) := BF.w24 hB45 (fun _ => rfl) _ (by omega) (by omega)
    refine vc_iconst dX4_beginLaw_39 rfl ?_
    refine vc_zret dX4_beginLaw_40 rfl (by first | decide | omega) (Nat.le_of_ble_eq_true rfl) (Nat.le_of_ble_eq_true rfl) ?_
    have k52 : mI (sI (sI M 22 14 63) 24 ((2 * law).toNat) (mI M 22 12)) 22 7 = mI M 22 7 := rfl
    have k53 : mI (sI (sI M 22 14 63) 24 ((2 * law).toNat) (mI M 22 12)) 22 8 = mI M 22 8 := rfl
    have k54 : mI (sI (sI M 22 14 63) 24 ((2 * law).toNat) (mI M 22 12)) 22 9 = mI M 22 9 := rfl
    have k55 : mI (sI (sI M 22 14 63) 24 ((2 * law).toNat) (mI M 22 12)) 22 10 = mI M 22 10 := rfl
    have k56 : mI (sI (sI M 22 14 63) 24 ((2 * law).toNat) (mI M 22 12)) 22 11 = mI M 22 11 := rfl
    have k57 : mI (sI (sI M 22 14 63) 24 ((2 * law).toNat) (mI M 22 12)) 22 12 = mI M 22 12 := rfl
    have k58 : mI (sI (sI M 22 14 63) 24 ((2 * law).toNat) (mI M 22 12)) 22 13 = mI M 22 13 := rfl
    have k59 : mI (sI (sI M 22 14 63) 24 ((2 * law).toNat) (mI M 22 12)) 22 14 = 63 := rfl
    exact ⟨_, rfl, hB51, kp47, kp48, kp49, kp50, by omega, by omega, by omega, by omega, by unfold NMk; omega, (fun j hj => by rw [mI_sI, if_neg (fun e => hj e.2)]; rfl), (by rw [mI_same]; omega), RS.same hR kp48 kp49 kp50 rfl rfl rfl rfl rfl⟩

set_option maxRecDepth 4000 in
theorem sfX4_endLawF {l : Launch} {M : Mem} (hB : Box M) (g : Nat → Int) (n p : Int) (hR : RS g n M p) (law : Int) (p0 : 0 ≤ law) (p1 : law ≤ 4) : Call l mdX4_endLaw [aR 22, aI law] M (fun q N => ∃ r : Int, q = some (aI r) ∧ BF fQ M N ∧ mI N 25 = mI M 25 ∧ mI N 26 = mI M 26 ∧ mI N 27 = mI M 27 ∧ mI N 28 = mI M 28 ∧ 1 ≤ r ∧ r ≤ 1 ∧ 0 ≤ mI N 22 9 ∧ mI N 22 13 = mI M 22 13 ∧ mI N 22 14 = mI M 22 14 ∧ (∀ j : Nat, j ≠ (2 * law + 1).toNat → mI N 24 j = mI M 24 j) ∧ RS g n N p) := by
  have hB0 : BF fQ M M := BF.start hB
  refine Call.of [some (aR 22), some (aI law)] rfl (Nat.le_of_ble_eq_true rfl) rfl ?_
  have hrg := RS.rg hR
  refine vc_aload_n dX4_endLaw_0 rfl ?_
  refine vc_getR dX4_endLaw_1 flX4_18 (s_22 hB0.1.1) rfl (r_22_2 hB0.1.1) ?_
  refine vc_iconst dX4_endLaw_4 rfl ?_
  refine vc_iload_n dX4_endLaw_5 rfl ?_
  refine vc_imulE dX4_endLaw_6 (by omega) (by omega) ?_
  refine vc_iconst dX4_endLaw_7 rfl ?_
  refine vc_iaddE dX4_endLaw_8 (by omega) (by omega) ?_
  refine vc_aload_n dX4_endLaw_9 rfl ?_
  refine vc_getI dX4_endLaw_10 flX4_50 (s_22 hB0.1.1) rfl ?_
  have k1 : 0 ≤ mI M 22 12 ∧ mI M 22 12 ≤ 300 := b22_12 (M := M) hB0.1
  refine vc_iastore dX4_endLaw_13 (s_24 hB0.1.1) (by omega) (by omega) ?_
  have kp2 : mI (sI M 24 (((2 * law) + 1).toNat) (mI M 22 12)) 25 = mI M 25 := (kp_sI rfl rfl)
  have kp3 : mI (sI M 24 (((2 * law) + 1).toNat) (mI M 22 12)) 26 = mI M 26 := (kp_sI rfl rfl)
  have kp4 : mI (sI M 24 (((2 * law) + 1).toNat) (mI M 22 12)) 27 = mI M 27 := (kp_sI rfl rfl)
  have kp5 : mI (sI M 24 (((2 * law) + 1).toNat) (mI M 22 12)) 28 = mI M 28 := (kp_sI rfl rfl)
  have hB6 : BF fQ M (sI M 24 (((2 * law) + 1).toNat) (mI M 22 12)) := BF.w24 hB0 (fun _ => rfl) _ (by omega) (by omega)
  refine vc_iconst dX4_endLaw_14 rfl ?_
  refine vc_zret dX4_endLaw_15 rfl (by first | decide | omega) (Nat.le_of_ble_eq_true rfl) (Nat.le_of_ble_eq_true rfl) ?_
  have k7 : mI (sI M 24 (((2 * law) + 1).toNat) (mI M 22 12)) 22 7 = mI M 22 7 := rfl
  have k8 : mI (sI M 24 (((2 * law) + 1).toNat) (mI M 22 12)) 22 8 = mI M 22 8 := rfl
  have k9 : mI (sI M 24 (((2 * law) + 1).toNat) (mI M 22 12)) 22 9 = mI M 22 9 := rfl
  have k10 : mI (sI M 24 (((2 * law) + 1).toNat) (mI M 22 12)) 22 10 = mI M 22 10 := rfl
  have k11 : mI (sI M 24 (((2 * law) + 1).toNat) (mI M 22 12)) 22 11 = mI M 22 11 := rfl
  have k12 : mI (sI M 24 (((2 * law) + 1).toNat) (mI M 22 12)) 22 12 = mI M 22 12 := rfl
  have k13 : mI (sI M 24 (((2 * law) + 1).toNat) (mI M 22 12)) 22 13 = mI M 22 13 := rfl
  have k14 : mI (sI M 24 (((2 * law) + 1).toNat) (mI M 22 12)) 22 14 = mI M 22 14 := rfl
  exact ⟨_, rfl, hB6, kp2, kp3, kp4, kp5, by omega, by omega, by omega, by omega, by omega, (fun j hj => by rw [mI_sI, if_neg (fun e => hj e.2)]), RS.same hR kp3 kp4 kp5 rfl rfl rfl rfl rfl⟩

theorem nm_iff {v w m : Int} (h : NMk v w) (h0 : 0 ≤ m) (h8 : m ≤ 8) : shrI v m % 2 = 0 ↔ ¬ okN w m := by
  have hm : m = 0 ∨ m = 1 ∨ m = 2 ∨ m = 3 ∨ m = 4 ∨ m = 5 ∨ m = 6 ∨ m = 7 ∨ m = 8 := by omega
  unfold NMk at h
  unfold okN
  rcases h with ⟨e, a, b⟩ | ⟨e, a⟩ | ⟨e, a⟩
  · subst e
    have e2 : shrI 63 m % 2 = if m ≤ 5 then 1 else 0 := by rcases hm with e | e | e | e | e | e | e | e | e <;> subst e <;> decide
    rw [e2]
    split <;> omega
  · subst e
    have e2 : shrI 448 m % 2 = if 6 ≤ m then 1 else 0 := by rcases hm with e | e | e | e | e | e | e | e | e <;> subst e <;> decide
    rw [e2]
    split <;> omega
  · subst e
    have e2 : shrI 7 m % 2 = if m ≤ 2 then 1 else 0 := by rcases hm with e | e | e | e | e | e | e | e | e <;> subst e <;> decide
    rw [e2]
    split <;> omega

def LdO (l : Launch) (nf : Nat) : Prop := ∀ {M : Mem} (hB : Box M)  (d : Int) (p0 : 0 ≤ d) (p1 : d ≤ 8) (g : Nat → Int) (n p : Int) (hR : RS g n M p) (w : Int) (sk : List Int) (hl : (sk.length : Int) = d) (hw : NMk (mI M 22 14) w) (hnf : (8 - d).toNat < nf), Call l (mdX4_readOne (11 + 3 * nf)) [aR 22, aI d] M (fun q N => ∃ r : Int, q = some (aI r) ∧ BF fQ M N ∧ mI N 24 = mI M 24 ∧ mI N 25 = mI M 25 ∧ mI N 26 = mI M 26 ∧ mI N 27 = mI M 27 ∧ mI N 28 = mI M 28 ∧ 0 ≤ r ∧ r ≤ 1 ∧ 0 ≤ mI N 22 9 ∧ mI N 22 13 = mI M 22 13 ∧ mI N 22 14 = mI M 22 14 ∧ LR g n w sk p (ETr g n) N r)
def LdP (l : Launch) (nf : Nat) : Prop := ∀ {M : Mem} (hB : Box M)  (d : Int) (p0 : 0 ≤ d) (p1 : d ≤ 8) (g : Nat → Int) (n p : Int) (hR : RS g n M p) (w : Int) (sk : List Int) (hl : (sk.length : Int) = d) (hd : dm sk = sk) (hw : NMk (mI M 22 14) w) (hnf : (8 - d).toNat < nf), Call l (mdX4_readProduct (12 + 3 * nf)) [aR 22, aI d] M (fun q N => ∃ r : Int, q = some (aI r) ∧ BF fQ M N ∧ mI N 24 = mI M 24 ∧ mI N 25 = mI M 25 ∧ mI N 26 = mI M 26 ∧ mI N 27 = mI M 27 ∧ mI N 28 = mI M 28 ∧ 0 ≤ r ∧ r ≤ 1 ∧ 0 ≤ mI N 22 9 ∧ mI N 22 13 = mI M 22 13 ∧ mI N 22 14 = mI M 22 14 ∧ LR g n w sk p (EMul g n) N r)
def LdS (l : Launch) (nf : Nat) : Prop := ∀ {M : Mem} (hB : Box M)  (d : Int) (p0 : 0 ≤ d) (p1 : d ≤ 8) (g : Nat → Int) (n p : Int) (hR : RS g n M p) (w : Int) (sk : List Int) (hl : (sk.length : Int) = d) (hd : dm sk = sk) (hw : NMk (mI M 22 14) w) (hnf : (8 - d).toNat < nf), Call l (mdX4_readSum (13 + 3 * nf)) [aR 22, aI d] M (fun q N => ∃ r : Int, q = some (aI r) ∧ BF fQ M N ∧ mI N 24 = mI M 24 ∧ mI N 25 = mI M 25 ∧ mI N 26 = mI M 26 ∧ mI N 27 = mI M 27 ∧ mI N 28 = mI M 28 ∧ 0 ≤ r ∧ r ≤ 1 ∧ 0 ≤ mI N 22 9 ∧ mI N 22 13 = mI M 22 13 ∧ mI N 22 14 = mI M 22 14 ∧ LR g n w sk p (EOp g n) N r)
set_option maxRecDepth 4000 in
theorem ld_one {l : Launch} {nf : Nat} (hs : LdS l nf) (ho : LdO l nf) : LdO l (nf + 1) := by
  intro M hB d p0 p1 g n p hR w sk hl hw hnf
  have hB0 : BF fQ M M := BF.start hB
  refine Call.of [some (aR 22), some (aI d), none, none] rfl (Nat.le_of_ble_eq_true rfl) rfl ?_
  have ct1 := RS.ct hR
  unfold CT at ct1
  have rg2 := RS.rg hR
  refine vc_aload_n dX4_readOne_0 rfl ?_
  refine vc_getI dX4_readOne_1 flX4_69 (s_22 hB0.1.1) rfl ?_
  refine vc_iconst dX4_readOne_4 rfl ?_
  refine vc_icmp_ne dX4_readOne_5 (fun h3 => ?_) (fun h3 => ?_)
  · refine vc_aload_n dX4_readOne_50 rfl ?_
    refine vc_getI dX4_readOne_51 flX4_69 (s_22 hB0.1.1) rfl ?_
    refine vc_iconst dX4_readOne_54 rfl ?_
    refine vc_icmp_ne dX4_readOne_55 (fun h4 => ?_) (fun h4 => ?_)
    · refine vc_aload_n dX4_readOne_119 rfl ?_
      refine vc_getI dX4_readOne_120 flX4_69 (s_22 hB0.1.1) rfl ?_
      refine vc_iconst dX4_readOne_123 rfl ?_
      refine vc_icmp_ne dX4_readOne_124 (fun h5 => ?_) (fun h5 => ?_)
      · refine vc_iconst dX4_readOne_149 rfl ?_
        refine vc_istore_n dX4_readOne_150 (Nat.le_of_ble_eq_true rfl) rfl (show _ = [some (aR 22), some (aI d), some (aI 0), none] from rfl) ?_
        refine vc_iload_n dX4_readOne_151 rfl ?_
        refine vc_if_ne dX4_readOne_152 (fun h6 => by exfalso; omega) (fun h6 => ?_)
        refine vc_aload_n dX4_readOne_155 rfl ?_
        refine vc_bipush dX4_readOne_156 rfl ?_
        refine vc_cVI dX4_readOne_158 (sfX4_isSignF (M := M) hB0.1  40 ) rfl okX4_isSign viX4_isSign lkX4_163 (s_22 hB0.1.1) cl_4 rfl (by show 0 < 11 + 3 * (nf + 1); omega) ⟨rfl, rfl⟩ (Nat.le_of_ble_eq_true rfl) (Nat.le_of_ble_eq_true rfl) (Nat.le_of_ble_eq_true rfl) ?_
        rintro x7 _ ⟨rfl, h8, h9, h10⟩
        refine vc_if_ne dX4_readOne_161 (fun h11 => ?_) (fun h11 => ?_)
        · refine vc_iload_n dX4_readOne_179 rfl ?_
          refine vc_bipush dX4_readOne_180 rfl ?_
          refine vc_icmp_lt dX4_readOne_182 (fun h12 => ?_) (fun h12 => ?_)
          · refine vc_aload_n dX4_readOne_191 rfl ?_
            refine vc_getI dX4_readOne_192 flX4_119 (s_22 hB0.1.1) rfl ?_
            refine vc_nameI (fun x13 ex13 => ?_)
            refine vc_istore_n dX4_readOne_195 (Nat.le_of_ble_eq_true rfl) rfl (show _ = [some (aR 22), some (aI d), some (aI 0), some (aI x13)] from rfl) ?_
            refine vc_aload_n dX4_readOne_196 rfl ?_
            refine vc_cVI dX4_readOne_197 (sfX4_takeTokenF (M := M) hB0.1  g n p hR (by omega)) rfl okX4_takeToken viX4_takeToken lkX4_65 (s_22 hB0.1.1) cl_4 rfl (by show 0 < 11 + 3 * (nf + 1); omega) ⟨rfl, rfl⟩ (Nat.le_of_ble_eq_true rfl) (Nat.le_of_ble_eq_true rfl) (Nat.le_of_ble_eq_true rfl) ?_
            rintro x14 M15 ⟨hB16, kp17, kp18, kp19, kp20, kp21, h22, h23, h24, h25, h26, h27⟩
            have hB28 : BF fQ M M15 := BF.go hB0 hB16
            have kp29 : mI M15 24 = mI M 24 := kp_go rfl kp17
            have kp30 : mI M15 25 = mI M 25 := kp_go rfl kp18
            have kp31 : mI M15 26 = mI M 26 := kp_go rfl kp19
            have kp32 : mI M15 27 = mI M 27 := kp_go rfl kp20
            have kp33 : mI M15 28 = mI M 28 := kp_go rfl kp21
            refine vc_pop dX4_readOne_200 rfl ?_
            refine vc_iload_n dX4_readOne_201 rfl ?_
            refine vc_if_eq dX4_readOne_202 (fun h34 => ?_) (fun h34 => by exfalso; omega)
            refine vc_iload_n dX4_readOne_280 rfl ?_
            refine vc_bipush dX4_readOne_281 rfl ?_
            refine vc_icmp_ne dX4_readOne_283 (fun h35 => ?_) (fun h35 => ?_)
            · have kt36 : ∀ o, Rn (tk g n) (nx g n) w (2 :: sk) false (nx g n p) o → Rn (tk g n) (nx g n) w sk false p o := fun o r => r_neg (by omega) (by omega) r
              refine vc_aload_n dX4_readOne_311 rfl ?_
              refine vc_iload_n dX4_readOne_312 rfl ?_
              refine vc_iconst dX4_readOne_313 rfl ?_
              refine vc_iaddE dX4_readOne_314 (by omega) (by omega) ?_
              refine vc_cVI dX4_readOne_315 (ho (M := M15) hB28.1  (d + 1) (by omega) (by omega) g n (nx g n p) h27 w (2 :: sk) (by first | (rw [List.length_cons]; omega) | omega) (by rw [show mI M15 22 14 = mI M 22 14 by omega]; exact hw) (by omega)) rfl (okX4_readOne (11 + 3 * nf)) (viX4_readOne (11 + 3 * nf)) (lkX4_179 (11 + 3 * nf)) (s_22 hB28.1.1) cl_4 rfl (by show (11 + 3 * nf) < 11 + 3 * (nf + 1); omega) ⟨rfl, rfl⟩ (Nat.le_of_ble_eq_true rfl) (Nat.le_of_ble_eq_true rfl) (Nat.le_of_ble_eq_true rfl) ?_
              rintro x37 M38 ⟨hB39, kp40, kp41, kp42, kp43, kp44, h45, h46, h47, h48, h49, h50⟩
              have hB51 : BF fQ M M38 := BF.go hB28 hB39
              have kp52 : mI M38 24 = mI M 24 := kp_go kp29 kp40
              have kp53 : mI M38 25 = mI M 25 := kp_go kp30 kp41
              have kp54 : mI M38 26 = mI M 26 := kp_go kp31 kp42
              have kp55 : mI M38 27 = mI M 27 := kp_go kp32 kp43
              have kp56 : mI M38 28 = mI M 28 := kp_go kp33 kp44
              refine vc_if_eq dX4_readOne_318 (fun h57 => ?_) (fun h57 => ?_)
              · refine vc_iconst dX4_readOne_335 rfl ?_
                refine vc_zret dX4_readOne_336 rfl (by first | decide | omega) (Nat.le_of_ble_eq_true rfl) (Nat.le_of_ble_eq_true rfl) ?_
                exact ⟨_, rfl, hB51, kp52, kp53, kp54, kp55, kp56, by omega, by omega, by omega, by omega, by omega, Or.inr ⟨by omega, (LR.bad h50 (by omega)).1, kt36 _ (LR.bad h50 (by omega)).2⟩⟩
              · obtain ⟨q58, hl59, hR60, hE61, hk62⟩ := LR.ok h50 (by omega)
                have kt63 : ∀ o, Rn (tk g n) (nx g n) w (dm sk) true q58 o → Rn (tk g n) (nx g n) w sk false p o := fun o r => kt36 o (hk62 o r)
                refine vc_aload_n dX4_readOne_321 rfl ?_
                refine vc_sipush dX4_readOne_322 rfl ?_
                refine vc_cVI dX4_readOne_325 (sfX4_emitF (M := M38) hB51.1  g n q58 hR60 20006 ) rfl okX4_emit viX4_emit lkX4_176 (s_22 hB51.1.1) cl_4 rfl (by show 0 < 11 + 3 * (nf + 1); omega) ⟨rfl, rfl⟩ (Nat.le_of_ble_eq_true rfl) (Nat.le_of_ble_eq_true rfl) (Nat.le_of_ble_eq_true rfl) ?_
                rintro x64 M65 ⟨hB66, kp67, kp68, kp69, kp70, kp71, h72, h73, h74, h75, h76, h77⟩
                have hB78 : BF fQ M M65 := BF.go hB51 hB66
                have kp79 : mI M65 24 = mI M 24 := kp_go kp52 kp67
                have kp80 : mI M65 25 = mI M 25 := kp_go kp53 kp68
                have kp81 : mI M65 26 = mI M 26 := kp_go kp54 kp69
                have kp82 : mI M65 27 = mI M 27 := kp_go kp55 kp70
                have kp83 : mI M65 28 = mI M 28 := kp_go kp56 kp71
                refine vc_if_eq dX4_readOne_328 (fun h84 => by exfalso; omega) (fun h84 => ?_)
                refine vc_iconst dX4_readOne_331 rfl ?_
                refine vc_goto dX4_readOne_332 ?_
                refine vc_zret dX4_readOne_336 rfl (by first | decide | omega) (Nat.le_of_ble_eq_true rfl) (Nat.le_of_ble_eq_true rfl) ?_
                exact ⟨_, rfl, hB78, kp79, kp80, kp81, kp82, kp83, by omega, by omega, by omega, by omega, by omega, Or.inl ⟨by omega, q58, by omega, h77, trivial, kt63⟩⟩
            · have kt85 : ∀ o, Rn (tk g n) (nx g n) w (40 :: sk) false (nx g n p) o → Rn (tk g n) (nx g n) w sk false p o := fun o r => r_par (by omega) (by omega) r
              refine vc_aload_n dX4_readOne_286 rfl ?_
              refine vc_iload_n dX4_readOne_287 rfl ?_
              refine vc_iconst dX4_readOne_288 rfl ?_
              refine vc_iaddE dX4_readOne_289 (by omega) (by omega) ?_
              refine vc_cVI dX4_readOne_290 (hs (M := M15) hB28.1  (d + 1) (by omega) (by omega) g n (nx g n p) h27 w (40 :: sk) (by first | (rw [List.length_cons]; omega) | omega) rfl (by rw [show mI M15 22 14 = mI M 22 14 by omega]; exact hw) (by omega)) rfl (okX4_readSum (13 + 3 * nf)) (viX4_readSum (13 + 3 * nf)) (lkX4_132 (13 + 3 * nf)) (s_22 hB28.1.1) cl_4 rfl (by show (13 + 3 * nf) < 11 + 3 * (nf + 1); omega) ⟨rfl, rfl⟩ (Nat.le_of_ble_eq_true rfl) (Nat.le_of_ble_eq_true rfl) (Nat.le_of_ble_eq_true rfl) ?_
              rintro x86 M87 ⟨hB88, kp89, kp90, kp91, kp92, kp93, h94, h95, h96, h97, h98, h99⟩
              have hB100 : BF fQ M M87 := BF.go hB28 hB88
              have kp101 : mI M87 24 = mI M 24 := kp_go kp29 kp89
              have kp102 : mI M87 25 = mI M 25 := kp_go kp30 kp90
              have kp103 : mI M87 26 = mI M 26 := kp_go kp31 kp91
              have kp104 : mI M87 27 = mI M 27 := kp_go kp32 kp92
              have kp105 : mI M87 28 = mI M 28 := kp_go kp33 kp93
              refine vc_if_eq dX4_readOne_293 (fun h106 => ?_) (fun h106 => ?_)
              · refine vc_iconst dX4_readOne_309 rfl ?_
                refine vc_zret dX4_readOne_310 rfl (by first | decide | omega) (Nat.le_of_ble_eq_true rfl) (Nat.le_of_ble_eq_true rfl) ?_
                exact ⟨_, rfl, hB100, kp101, kp102, kp103, kp104, kp105, by omega, by omega, by omega, by omega, by omega, Or.inr ⟨by omega, (LR.bad h99 (by omega)).1, kt85 _ (LR.bad h99 (by omega)).2⟩⟩
              · obtain ⟨q107, hl108, hR109, hE110, hk111⟩ := LR.ok h99 (by omega)
                unfold EOp at hE110
                have kt112 : ∀ o, Rn (tk g n) (nx g n) w (40 :: sk) true q107 o → Rn (tk g n) (nx g n) w sk false p o := fun o r => kt85 o (hk111 o r)
                refine vc_aload_n dX4_readOne_296 rfl ?_
                refine vc_bipush dX4_readOne_297 rfl ?_
                refine vc_cVI dX4_readOne_299 (sfX4_readSignF (M := M87) hB100.1  g n q107 hR109 41 (by omega) (by omega)) rfl okX4_readSign viX4_readSign lkX4_141 (s_22 hB100.1.1) cl_4 rfl (by show 1 < 11 + 3 * (nf + 1); omega) ⟨rfl, rfl⟩ (Nat.le_of_ble_eq_true rfl) (Nat.le_of_ble_eq_true rfl) (Nat.le_of_ble_eq_true rfl) ?_
                rintro x113 M114 ⟨hB115, kp116, kp117, kp118, kp119, kp120, h121, h122, h123, h124, h125, h126⟩
                have hB127 : BF fQ M M114 := BF.go hB100 hB115
                have kp128 : mI M114 24 = mI M 24 := kp_go kp101 kp116
                have kp129 : mI M114 25 = mI M 25 := kp_go kp102 kp117
                have kp130 : mI M114 26 = mI M 26 := kp_go kp103 kp118
                have kp131 : mI M114 27 = mI M 27 := kp_go kp104 kp119
                have kp132 : mI M114 28 = mI M 28 := kp_go kp105 kp120
                refine vc_if_eq dX4_readOne_302 (fun h133 => ?_) (fun h133 => ?_)
                · refine vc_iconst dX4_readOne_309 rfl ?_
                  refine vc_zret dX4_readOne_310 rfl (by first | decide | omega) (Nat.le_of_ble_eq_true rfl) (Nat.le_of_ble_eq_true rfl) ?_
                  have hb134 := TR.bad h126 (by omega)
                  exact ⟨_, rfl, hB127, kp128, kp129, kp130, kp131, kp132, by omega, by omega, by omega, by omega, by omega, Or.inr ⟨by omega, by omega, by rw [hb134.2.1, hb134.2.2]; exact kt112 _ (t_b40 hE110 (by omega))⟩⟩
                · have e135 := TR.ok h126 (by omega)
                  have he136 := e135.1
                  have rg137 := RS.rg hR109
                  have kt138 : ∀ o, Rn (tk g n) (nx g n) w (dm sk) true (nx g n q107) o → Rn (tk g n) (nx g n) w sk false p o := fun o r => kt112 o (t_shut (by omega) r)
                  refine vc_iconst dX4_readOne_305 rfl ?_
                  refine vc_goto dX4_readOne_306 ?_
                  refine vc_zret dX4_readOne_310 rfl (by first | decide | omega) (Nat.le_of_ble_eq_true rfl) (Nat.le_of_ble_eq_true rfl) ?_
                  exact ⟨_, rfl, hB127, kp128, kp129, kp130, kp131, kp132, by omega, by omega, by omega, by omega, by omega, Or.inl ⟨by omega, nx g n q107, by omega, e135.2, trivial, kt138⟩⟩
          · refine vc_aload_n dX4_readOne_185 rfl ?_
            refine vc_iconst dX4_readOne_186 rfl ?_
            refine vc_cVI dX4_readOne_187 (sfX4_failedF (M := M) hB0.1  g n p hR 3 ) rfl okX4_failed viX4_failed lkX4_122 (s_22 hB0.1.1) cl_4 rfl (by show 0 < 11 + 3 * (nf + 1); omega) ⟨rfl, rfl⟩ (Nat.le_of_ble_eq_true rfl) (Nat.le_of_ble_eq_true rfl) (Nat.le_of_ble_eq_true rfl) ?_
            rintro x139 M140 ⟨hB141, kp142, kp143, kp144, kp145, kp146, h147, h148, h149, h150, h151, h152, h153⟩
            have hB154 : BF fQ M M140 := BF.go hB0 hB141
            have kp155 : mI M140 24 = mI M 24 := kp_go rfl kp142
            have kp156 : mI M140 25 = mI M 25 := kp_go rfl kp143
            have kp157 : mI M140 26 = mI M 26 := kp_go rfl kp144
            have kp158 : mI M140 27 = mI M 27 := kp_go rfl kp145
            have kp159 : mI M140 28 = mI M 28 := kp_go rfl kp146
            refine vc_zret dX4_readOne_190 rfl (by first | decide | omega) (Nat.le_of_ble_eq_true rfl) (Nat.le_of_ble_eq_true rfl) ?_
            exact ⟨_, rfl, hB154, kp155, kp156, kp157, kp158, kp159, by omega, by omega, by omega, by omega, by omega, Or.inr ⟨by omega, by omega, by rw [h152, h153]; first | exact r_two3 (by omega) (by omega) | exact r_par3 (by omega) (by omega) | exact r_neg3 (by omega) (by omega)⟩⟩
        · refine vc_aload_n dX4_readOne_164 rfl ?_
          refine vc_bipush dX4_readOne_165 rfl ?_
          refine vc_cVI dX4_readOne_167 (sfX4_isSignF (M := M) hB0.1  45 ) rfl okX4_isSign viX4_isSign lkX4_163 (s_22 hB0.1.1) cl_4 rfl (by show 0 < 11 + 3 * (nf + 1); omega) ⟨rfl, rfl⟩ (Nat.le_of_ble_eq_true rfl) (Nat.le_of_ble_eq_true rfl) (Nat.le_of_ble_eq_true rfl) ?_
          rintro x160 _ ⟨rfl, h161, h162, h163⟩
          refine vc_if_ne dX4_readOne_170 (fun h164 => ?_) (fun h164 => ?_)
          · refine vc_iload_n dX4_readOne_179 rfl ?_
            refine vc_bipush dX4_readOne_180 rfl ?_
            refine vc_icmp_lt dX4_readOne_182 (fun h165 => ?_) (fun h165 => ?_)
            · refine vc_aload_n dX4_readOne_191 rfl ?_
              refine vc_getI dX4_readOne_192 flX4_119 (s_22 hB0.1.1) rfl ?_
              refine vc_nameI (fun x166 ex166 => ?_)
              refine vc_istore_n dX4_readOne_195 (Nat.le_of_ble_eq_true rfl) rfl (show _ = [some (aR 22), some (aI d), some (aI 0), some (aI x166)] from rfl) ?_
              refine vc_aload_n dX4_readOne_196 rfl ?_
              refine vc_cVI dX4_readOne_197 (sfX4_takeTokenF (M := M) hB0.1  g n p hR (by omega)) rfl okX4_takeToken viX4_takeToken lkX4_65 (s_22 hB0.1.1) cl_4 rfl (by show 0 < 11 + 3 * (nf + 1); omega) ⟨rfl, rfl⟩ (Nat.le_of_ble_eq_true rfl) (Nat.le_of_ble_eq_true rfl) (Nat.le_of_ble_eq_true rfl) ?_
              rintro x167 M168 ⟨hB169, kp170, kp171, kp172, kp173, kp174, h175, h176, h177, h178, h179, h180⟩
              have hB181 : BF fQ M M168 := BF.go hB0 hB169
              have kp182 : mI M168 24 = mI M 24 := kp_go rfl kp170
              have kp183 : mI M168 25 = mI M 25 := kp_go rfl kp171
              have kp184 : mI M168 26 = mI M 26 := kp_go rfl kp172
              have kp185 : mI M168 27 = mI M 27 := kp_go rfl kp173
              have kp186 : mI M168 28 = mI M 28 := kp_go rfl kp174
              refine vc_pop dX4_readOne_200 rfl ?_
              refine vc_iload_n dX4_readOne_201 rfl ?_
              refine vc_if_eq dX4_readOne_202 (fun h187 => ?_) (fun h187 => by exfalso; omega)
              refine vc_iload_n dX4_readOne_280 rfl ?_
              refine vc_bipush dX4_readOne_281 rfl ?_
              refine vc_icmp_ne dX4_readOne_283 (fun h188 => ?_) (fun h188 => ?_)
              · have kt189 : ∀ o, Rn (tk g n) (nx g n) w (2 :: sk) false (nx g n p) o → Rn (tk g n) (nx g n) w sk false p o := fun o r => r_neg (by omega) (by omega) r
                refine vc_aload_n dX4_readOne_311 rfl ?_
                refine vc_iload_n dX4_readOne_312 rfl ?_
                refine vc_iconst dX4_readOne_313 rfl ?_
                refine vc_iaddE dX4_readOne_314 (by omega) (by omega) ?_
                refine vc_cVI dX4_readOne_315 (ho (M := M168) hB181.1  (d + 1) (by omega) (by omega) g n (nx g n p) h180 w (2 :: sk) (by first | (rw [List.length_cons]; omega) | omega) (by rw [show mI M168 22 14 = mI M 22 14 by omega]; exact hw) (by omega)) rfl (okX4_readOne (11 + 3 * nf)) (viX4_readOne (11 + 3 * nf)) (lkX4_179 (11 + 3 * nf)) (s_22 hB181.1.1) cl_4 rfl (by show (11 + 3 * nf) < 11 + 3 * (nf + 1); omega) ⟨rfl, rfl⟩ (Nat.le_of_ble_eq_true rfl) (Nat.le_of_ble_eq_true rfl) (Nat.le_of_ble_eq_true rfl) ?_
                rintro x190 M191 ⟨hB192, kp193, kp194, kp195, kp196, kp197, h198, h199, h200, h201, h202, h203⟩
                have hB204 : BF fQ M M191 := BF.go hB181 hB192
                have kp205 : mI M191 24 = mI M 24 := kp_go kp182 kp193
                have kp206 : mI M191 25 = mI M 25 := kp_go kp183 kp194
                have kp207 : mI M191 26 = mI M 26 := kp_go kp184 kp195
                have kp208 : mI M191 27 = mI M 27 := kp_go kp185 kp196
                have kp209 : mI M191 28 = mI M 28 := kp_go kp186 kp197
                refine vc_if_eq dX4_readOne_318 (fun h210 => ?_) (fun h210 => ?_)
                · refine vc_iconst dX4_readOne_335 rfl ?_
                  refine vc_zret dX4_readOne_336 rfl (by first | decide | omega) (Nat.le_of_ble_eq_true rfl) (Nat.le_of_ble_eq_true rfl) ?_
                  exact ⟨_, rfl, hB204, kp205, kp206, kp207, kp208, kp209, by omega, by omega, by omega, by omega, by omega, Or.inr ⟨by omega, (LR.bad h203 (by omega)).1, kt189 _ (LR.bad h203 (by omega)).2⟩⟩
                · obtain ⟨q211, hl212, hR213, hE214, hk215⟩ := LR.ok h203 (by omega)
                  have kt216 : ∀ o, Rn (tk g n) (nx g n) w (dm sk) true q211 o → Rn (tk g n) (nx g n) w sk false p o := fun o r => kt189 o (hk215 o r)
                  refine vc_aload_n dX4_readOne_321 rfl ?_
                  refine vc_sipush dX4_readOne_322 rfl ?_
                  refine vc_cVI dX4_readOne_325 (sfX4_emitF (M := M191) hB204.1  g n q211 hR213 20006 ) rfl okX4_emit viX4_emit lkX4_176 (s_22 hB204.1.1) cl_4 rfl (by show 0 < 11 + 3 * (nf + 1); omega) ⟨rfl, rfl⟩ (Nat.le_of_ble_eq_true rfl) (Nat.le_of_ble_eq_true rfl) (Nat.le_of_ble_eq_true rfl) ?_
                  rintro x217 M218 ⟨hB219, kp220, kp221, kp222, kp223, kp224, h225, h226, h227, h228, h229, h230⟩
                  have hB231 : BF fQ M M218 := BF.go hB204 hB219
                  have kp232 : mI M218 24 = mI M 24 := kp_go kp205 kp220
                  have kp233 : mI M218 25 = mI M 25 := kp_go kp206 kp221
                  have kp234 : mI M218 26 = mI M 26 := kp_go kp207 kp222
                  have kp235 : mI M218 27 = mI M 27 := kp_go kp208 kp223
                  have kp236 : mI M218 28 = mI M 28 := kp_go kp209 kp224
                  refine vc_if_eq dX4_readOne_328 (fun h237 => by exfalso; omega) (fun h237 => ?_)
                  refine vc_iconst dX4_readOne_331 rfl ?_
                  refine vc_goto dX4_readOne_332 ?_
                  refine vc_zret dX4_readOne_336 rfl (by first | decide | omega) (Nat.le_of_ble_eq_true rfl) (Nat.le_of_ble_eq_true rfl) ?_
                  exact ⟨_, rfl, hB231, kp232, kp233, kp234, kp235, kp236, by omega, by omega, by omega, by omega, by omega, Or.inl ⟨by omega, q211, by omega, h230, trivial, kt216⟩⟩
              · have kt238 : ∀ o, Rn (tk g n) (nx g n) w (40 :: sk) false (nx g n p) o → Rn (tk g n) (nx g n) w sk false p o := fun o r => r_par (by omega) (by omega) r
                refine vc_aload_n dX4_readOne_286 rfl ?_
                refine vc_iload_n dX4_readOne_287 rfl ?_
                refine vc_iconst dX4_readOne_288 rfl ?_
                refine vc_iaddE dX4_readOne_289 (by omega) (by omega) ?_
                refine vc_cVI dX4_readOne_290 (hs (M := M168) hB181.1  (d + 1) (by omega) (by omega) g n (nx g n p) h180 w (40 :: sk) (by first | (rw [List.length_cons]; omega) | omega) rfl (by rw [show mI M168 22 14 = mI M 22 14 by omega]; exact hw) (by omega)) rfl (okX4_readSum (13 + 3 * nf)) (viX4_readSum (13 + 3 * nf)) (lkX4_132 (13 + 3 * nf)) (s_22 hB181.1.1) cl_4 rfl (by show (13 + 3 * nf) < 11 + 3 * (nf + 1); omega) ⟨rfl, rfl⟩ (Nat.le_of_ble_eq_true rfl) (Nat.le_of_ble_eq_true rfl) (Nat.le_of_ble_eq_true rfl) ?_
                rintro x239 M240 ⟨hB241, kp242, kp243, kp244, kp245, kp246, h247, h248, h249, h250, h251, h252⟩
                have hB253 : BF fQ M M240 := BF.go hB181 hB241
                have kp254 : mI M240 24 = mI M 24 := kp_go kp182 kp242
                have kp255 : mI M240 25 = mI M 25 := kp_go kp183 kp243
                have kp256 : mI M240 26 = mI M 26 := kp_go kp184 kp244
                have kp257 : mI M240 27 = mI M 27 := kp_go kp185 kp245
                have kp258 : mI M240 28 = mI M 28 := kp_go kp186 kp246
                refine vc_if_eq dX4_readOne_293 (fun h259 => ?_) (fun h259 => ?_)
                · refine vc_iconst dX4_readOne_309 rfl ?_
                  refine vc_zret dX4_readOne_310 rfl (by first | decide | omega) (Nat.le_of_ble_eq_true rfl) (Nat.le_of_ble_eq_true rfl) ?_
                  exact ⟨_, rfl, hB253, kp254, kp255, kp256, kp257, kp258, by omega, by omega, by omega, by omega, by omega, Or.inr ⟨by omega, (LR.bad h252 (by omega)).1, kt238 _ (LR.bad h252 (by omega)).2⟩⟩
                · obtain ⟨q260, hl261, hR262, hE263, hk264⟩ := LR.ok h252 (by omega)
                  unfold EOp at hE263
                  have kt265 : ∀ o, Rn (tk g n) (nx g n) w (40 :: sk) true q260 o → Rn (tk g n) (nx g n) w sk false p o := fun o r => kt238 o (hk264 o r)
                  refine vc_aload_n dX4_readOne_296 rfl ?_
                  refine vc_bipush dX4_readOne_297 rfl ?_
                  refine vc_cVI dX4_readOne_299 (sfX4_readSignF (M := M240) hB253.1  g n q260 hR262 41 (by omega) (by omega)) rfl okX4_readSign viX4_readSign lkX4_141 (s_22 hB253.1.1) cl_4 rfl (by show 1 < 11 + 3 * (nf + 1); omega) ⟨rfl, rfl⟩ (Nat.le_of_ble_eq_true rfl) (Nat.le_of_ble_eq_true rfl) (Nat.le_of_ble_eq_true rfl) ?_
                  rintro x266 M267 ⟨hB268, kp269, kp270, kp271, kp272, kp273, h274, h275, h276, h277, h278, h279⟩
                  have hB280 : BF fQ M M267 := BF.go hB253 hB268
                  have kp281 : mI M267 24 = mI M 24 := kp_go kp254 kp269
                  have kp282 : mI M267 25 = mI M 25 := kp_go kp255 kp270
                  have kp283 : mI M267 26 = mI M 26 := kp_go kp256 kp271
                  have kp284 : mI M267 27 = mI M 27 := kp_go kp257 kp272
                  have kp285 : mI M267 28 = mI M 28 := kp_go kp258 kp273
                  refine vc_if_eq dX4_readOne_302 (fun h286 => ?_) (fun h286 => ?_)
                  · refine vc_iconst dX4_readOne_309 rfl ?_
                    refine vc_zret dX4_readOne_310 rfl (by first | decide | omega) (Nat.le_of_ble_eq_true rfl) (Nat.le_of_ble_eq_true rfl) ?_
                    have hb287 := TR.bad h279 (by omega)
                    exact ⟨_, rfl, hB280, kp281, kp282, kp283, kp284, kp285, by omega, by omega, by omega, by omega, by omega, Or.inr ⟨by omega, by omega, by rw [hb287.2.1, hb287.2.2]; exact kt265 _ (t_b40 hE263 (by omega))⟩⟩
                  · have e288 := TR.ok h279 (by omega)
                    have he289 := e288.1
                    have rg290 := RS.rg hR262
                    have kt291 : ∀ o, Rn (tk g n) (nx g n) w (dm sk) true (nx g n q260) o → Rn (tk g n) (nx g n) w sk false p o := fun o r => kt265 o (t_shut (by omega) r)
                    refine vc_iconst dX4_readOne_305 rfl ?_
                    refine vc_goto dX4_readOne_306 ?_
                    refine vc_zret dX4_readOne_310 rfl (by first | decide | omega) (Nat.le_of_ble_eq_true rfl) (Nat.le_of_ble_eq_true rfl) ?_
                    exact ⟨_, rfl, hB280, kp281, kp282, kp283, kp284, kp285, by omega, by omega, by omega, by omega, by omega, Or.inl ⟨by omega, nx g n q260, by omega, e288.2, trivial, kt291⟩⟩
            · refine vc_aload_n dX4_readOne_185 rfl ?_
              refine vc_iconst dX4_readOne_186 rfl ?_
              refine vc_cVI dX4_readOne_187 (sfX4_failedF (M := M) hB0.1  g n p hR 3 ) rfl okX4_failed viX4_failed lkX4_122 (s_22 hB0.1.1) cl_4 rfl (by show 0 < 11 + 3 * (nf + 1); omega) ⟨rfl, rfl⟩ (Nat.le_of_ble_eq_true rfl) (Nat.le_of_ble_eq_true rfl) (Nat.le_of_ble_eq_true rfl) ?_
              rintro x292 M293 ⟨hB294, kp295, kp296, kp297, kp298, kp299, h300, h301, h302, h303, h304, h305, h306⟩
              have hB307 : BF fQ M M293 := BF.go hB0 hB294
              have kp308 : mI M293 24 = mI M 24 := kp_go rfl kp295
              have kp309 : mI M293 25 = mI M 25 := kp_go rfl kp296
              have kp310 : mI M293 26 = mI M 26 := kp_go rfl kp297
              have kp311 : mI M293 27 = mI M 27 := kp_go rfl kp298
              have kp312 : mI M293 28 = mI M 28 := kp_go rfl kp299
              refine vc_zret dX4_readOne_190 rfl (by first | decide | omega) (Nat.le_of_ble_eq_true rfl) (Nat.le_of_ble_eq_true rfl) ?_
              exact ⟨_, rfl, hB307, kp308, kp309, kp310, kp311, kp312, by omega, by omega, by omega, by omega, by omega, Or.inr ⟨by omega, by omega, by rw [h305, h306]; first | exact r_two3 (by omega) (by omega) | exact r_par3 (by omega) (by omega) | exact r_neg3 (by omega) (by omega)⟩⟩
          · refine vc_aload_n dX4_readOne_173 rfl ?_
            refine vc_iconst dX4_readOne_174 rfl ?_
            refine vc_cVI dX4_readOne_175 (sfX4_failedF (M := M) hB0.1  g n p hR 1 ) rfl okX4_failed viX4_failed lkX4_122 (s_22 hB0.1.1) cl_4 rfl (by show 0 < 11 + 3 * (nf + 1); omega) ⟨rfl, rfl⟩ (Nat.le_of_ble_eq_true rfl) (Nat.le_of_ble_eq_true rfl) (Nat.le_of_ble_eq_true rfl) ?_
            rintro x313 M314 ⟨hB315, kp316, kp317, kp318, kp319, kp320, h321, h322, h323, h324, h325, h326, h327⟩
            have hB328 : BF fQ M M314 := BF.go hB0 hB315
            have kp329 : mI M314 24 = mI M 24 := kp_go rfl kp316
            have kp330 : mI M314 25 = mI M 25 := kp_go rfl kp317
            have kp331 : mI M314 26 = mI M 26 := kp_go rfl kp318
            have kp332 : mI M314 27 = mI M 27 := kp_go rfl kp319
            have kp333 : mI M314 28 = mI M 28 := kp_go rfl kp320
            refine vc_zret dX4_readOne_178 rfl (by first | decide | omega) (Nat.le_of_ble_eq_true rfl) (Nat.le_of_ble_eq_true rfl) ?_
            exact ⟨_, rfl, hB328, kp329, kp330, kp331, kp332, kp333, by omega, by omega, by omega, by omega, by omega, Or.inr ⟨by omega, by omega, by rw [h326, h327]; exact r_no (by omega) (by omega) (by omega) (by omega) (by omega)⟩⟩
      · refine vc_aload_n dX4_readOne_127 rfl ?_
        refine vc_getI dX4_readOne_128 flX4_119 (s_22 hB0.1.1) rfl ?_
        refine vc_bipush dX4_readOne_131 rfl ?_
        refine vc_icmp_eq dX4_readOne_133 (fun h334 => ?_) (fun h334 => ?_)
        · refine vc_iconst dX4_readOne_145 rfl ?_
          refine vc_goto dX4_readOne_146 ?_
          refine vc_istore_n dX4_readOne_150 (Nat.le_of_ble_eq_true rfl) rfl (show _ = [some (aR 22), some (aI d), some (aI 1), none] from rfl) ?_
          refine vc_iload_n dX4_readOne_151 rfl ?_
          refine vc_if_ne dX4_readOne_152 (fun h335 => ?_) (fun h335 => by exfalso; omega)
          refine vc_iload_n dX4_readOne_179 rfl ?_
          refine vc_bipush dX4_readOne_180 rfl ?_
          refine vc_icmp_lt dX4_readOne_182 (fun h336 => ?_) (fun h336 => ?_)
          · refine vc_aload_n dX4_readOne_191 rfl ?_
            refine vc_getI dX4_readOne_192 flX4_119 (s_22 hB0.1.1) rfl ?_
            refine vc_nameI (fun x337 ex337 => ?_)
            refine vc_istore_n dX4_readOne_195 (Nat.le_of_ble_eq_true rfl) rfl (show _ = [some (aR 22), some (aI d), some (aI 1), some (aI x337)] from rfl) ?_
            refine vc_aload_n dX4_readOne_196 rfl ?_
            refine vc_cVI dX4_readOne_197 (sfX4_takeTokenF (M := M) hB0.1  g n p hR (by omega)) rfl okX4_takeToken viX4_takeToken lkX4_65 (s_22 hB0.1.1) cl_4 rfl (by show 0 < 11 + 3 * (nf + 1); omega) ⟨rfl, rfl⟩ (Nat.le_of_ble_eq_true rfl) (Nat.le_of_ble_eq_true rfl) (Nat.le_of_ble_eq_true rfl) ?_
            rintro x338 M339 ⟨hB340, kp341, kp342, kp343, kp344, kp345, h346, h347, h348, h349, h350, h351⟩
            have hB352 : BF fQ M M339 := BF.go hB0 hB340
            have kp353 : mI M339 24 = mI M 24 := kp_go rfl kp341
            have kp354 : mI M339 25 = mI M 25 := kp_go rfl kp342
            have kp355 : mI M339 26 = mI M 26 := kp_go rfl kp343
            have kp356 : mI M339 27 = mI M 27 := kp_go rfl kp344
            have kp357 : mI M339 28 = mI M 28 := kp_go rfl kp345
            refine vc_pop dX4_readOne_200 rfl ?_
            refine vc_iload_n dX4_readOne_201 rfl ?_
            refine vc_if_eq dX4_readOne_202 (fun h358 => by exfalso; omega) (fun h358 => ?_)
            refine vc_aload_n dX4_readOne_205 rfl ?_
            refine vc_bipush dX4_readOne_206 rfl ?_
            refine vc_cVI dX4_readOne_208 (sfX4_readWordF (M := M339) hB352.1  g n (nx g n p) h351 19 (by omega) (by omega)) rfl okX4_readWord viX4_readWord lkX4_151 (s_22 hB352.1.1) cl_4 rfl (by show 1 < 11 + 3 * (nf + 1); omega) ⟨rfl, rfl⟩ (Nat.le_of_ble_eq_true rfl) (Nat.le_of_ble_eq_true rfl) (Nat.le_of_ble_eq_true rfl) ?_
            rintro x359 M360 ⟨hB361, kp362, kp363, kp364, kp365, kp366, h367, h368, h369, h370, h371, h372⟩
            have hB373 : BF fQ M M360 := BF.go hB352 hB361
            have kp374 : mI M360 24 = mI M 24 := kp_go kp353 kp362
            have kp375 : mI M360 25 = mI M 25 := kp_go kp354 kp363
            have kp376 : mI M360 26 = mI M 26 := kp_go kp355 kp364
            have kp377 : mI M360 27 = mI M 27 := kp_go kp356 kp365
            have kp378 : mI M360 28 = mI M 28 := kp_go kp357 kp366
            refine vc_if_eq dX4_readOne_211 (fun h379 => ?_) (fun h379 => ?_)
            · refine vc_iconst dX4_readOne_278 rfl ?_
              refine vc_zret dX4_readOne_279 rfl (by first | decide | omega) (Nat.le_of_ble_eq_true rfl) (Nat.le_of_ble_eq_true rfl) ?_
              have hb380 := TR.bad h372 (by omega)
              exact ⟨_, rfl, hB373, kp374, kp375, kp376, kp377, kp378, by omega, by omega, by omega, by omega, by omega, Or.inr ⟨by omega, by omega, by rw [hb380.2.1, hb380.2.2]; exact r_two1 (by omega) (by omega) (by omega)⟩⟩
            · have e381 := TR.ok h372 (by omega)
              have he382 := e381.1
              have rg383 := RS.rg h351
              have kt384 : ∀ o, Rn (tk g n) (nx g n) w (41 :: sk) false (nx g n (nx g n p)) o → Rn (tk g n) (nx g n) w sk false p o := fun o r => r_two (by omega) (by omega) (by omega) r
              refine vc_aload_n dX4_readOne_214 rfl ?_
              refine vc_iload_n dX4_readOne_215 rfl ?_
              refine vc_iconst dX4_readOne_216 rfl ?_
              refine vc_iaddE dX4_readOne_217 (by omega) (by omega) ?_
              refine vc_cVI dX4_readOne_218 (hs (M := M360) hB373.1  (d + 1) (by omega) (by omega) g n (nx g n (nx g n p)) e381.2 w (41 :: sk) (by first | (rw [List.length_cons]; omega) | omega) rfl (by rw [show mI M360 22 14 = mI M 22 14 by omega]; exact hw) (by omega)) rfl (okX4_readSum (13 + 3 * nf)) (viX4_readSum (13 + 3 * nf)) (lkX4_132 (13 + 3 * nf)) (s_22 hB373.1.1) cl_4 rfl (by show (13 + 3 * nf) < 11 + 3 * (nf + 1); omega) ⟨rfl, rfl⟩ (Nat.le_of_ble_eq_true rfl) (Nat.le_of_ble_eq_true rfl) (Nat.le_of_ble_eq_true rfl) ?_
              rintro x385 M386 ⟨hB387, kp388, kp389, kp390, kp391, kp392, h393, h394, h395, h396, h397, h398⟩
              have hB399 : BF fQ M M386 := BF.go hB373 hB387
              have kp400 : mI M386 24 = mI M 24 := kp_go kp374 kp388
              have kp401 : mI M386 25 = mI M 25 := kp_go kp375 kp389
              have kp402 : mI M386 26 = mI M 26 := kp_go kp376 kp390
              have kp403 : mI M386 27 = mI M 27 := kp_go kp377 kp391
              have kp404 : mI M386 28 = mI M 28 := kp_go kp378 kp392
              refine vc_if_eq dX4_readOne_221 (fun h405 => ?_) (fun h405 => ?_)
              · refine vc_iconst dX4_readOne_278 rfl ?_
                refine vc_zret dX4_readOne_279 rfl (by first | decide | omega) (Nat.le_of_ble_eq_true rfl) (Nat.le_of_ble_eq_true rfl) ?_
                exact ⟨_, rfl, hB399, kp400, kp401, kp402, kp403, kp404, by omega, by omega, by omega, by omega, by omega, Or.inr ⟨by omega, (LR.bad h398 (by omega)).1, kt384 _ (LR.bad h398 (by omega)).2⟩⟩
              · obtain ⟨q406, hl407, hR408, hE409, hk410⟩ := LR.ok h398 (by omega)
                unfold EOp at hE409
                have kt411 : ∀ o, Rn (tk g n) (nx g n) w (41 :: sk) true q406 o → Rn (tk g n) (nx g n) w sk false p o := fun o r => kt384 o (hk410 o r)
                refine vc_aload_n dX4_readOne_224 rfl ?_
                refine vc_bipush dX4_readOne_225 rfl ?_
                refine vc_cVI dX4_readOne_227 (sfX4_readSignF (M := M386) hB399.1  g n q406 hR408 44 (by omega) (by omega)) rfl okX4_readSign viX4_readSign lkX4_141 (s_22 hB399.1.1) cl_4 rfl (by show 1 < 11 + 3 * (nf + 1); omega) ⟨rfl, rfl⟩ (Nat.le_of_ble_eq_true rfl) (Nat.le_of_ble_eq_true rfl) (Nat.le_of_ble_eq_true rfl) ?_
                rintro x412 M413 ⟨hB414, kp415, kp416, kp417, kp418, kp419, h420, h421, h422, h423, h424, h425⟩
                have hB426 : BF fQ M M413 := BF.go hB399 hB414
                have kp427 : mI M413 24 = mI M 24 := kp_go kp400 kp415
                have kp428 : mI M413 25 = mI M 25 := kp_go kp401 kp416
                have kp429 : mI M413 26 = mI M 26 := kp_go kp402 kp417
                have kp430 : mI M413 27 = mI M 27 := kp_go kp403 kp418
                have kp431 : mI M413 28 = mI M 28 := kp_go kp404 kp419
                refine vc_if_eq dX4_readOne_230 (fun h432 => ?_) (fun h432 => ?_)
                · refine vc_iconst dX4_readOne_278 rfl ?_
                  refine vc_zret dX4_readOne_279 rfl (by first | decide | omega) (Nat.le_of_ble_eq_true rfl) (Nat.le_of_ble_eq_true rfl) ?_
                  have hb433 := TR.bad h425 (by omega)
                  exact ⟨_, rfl, hB426, kp427, kp428, kp429, kp430, kp431, by omega, by omega, by omega, by omega, by omega, Or.inr ⟨by omega, by omega, by rw [hb433.2.1, hb433.2.2]; exact kt411 _ (t_b41 hE409 (by omega))⟩⟩
                · have e434 := TR.ok h425 (by omega)
                  have he435 := e434.1
                  have rg436 := RS.rg hR408
                  have kt437 : ∀ o, Rn (tk g n) (nx g n) w (42 :: sk) false (nx g n q406) o → Rn (tk g n) (nx g n) w sk false p o := fun o r => kt411 o (t_com (by omega) r)
                  refine vc_aload_n dX4_readOne_233 rfl ?_
                  refine vc_iload_n dX4_readOne_234 rfl ?_
                  refine vc_iconst dX4_readOne_235 rfl ?_
                  refine vc_iaddE dX4_readOne_236 (by omega) (by omega) ?_
                  refine vc_cVI dX4_readOne_237 (hs (M := M413) hB426.1  (d + 1) (by omega) (by omega) g n (nx g n q406) e434.2 w (42 :: sk) (by first | (rw [List.length_cons]; omega) | omega) rfl (by rw [show mI M413 22 14 = mI M 22 14 by omega]; exact hw) (by omega)) rfl (okX4_readSum (13 + 3 * nf)) (viX4_readSum (13 + 3 * nf)) (lkX4_132 (13 + 3 * nf)) (s_22 hB426.1.1) cl_4 rfl (by show (13 + 3 * nf) < 11 + 3 * (nf + 1); omega) ⟨rfl, rfl⟩ (Nat.le_of_ble_eq_true rfl) (Nat.le_of_ble_eq_true rfl) (Nat.le_of_ble_eq_true rfl) ?_
                  rintro x438 M439 ⟨hB440, kp441, kp442, kp443, kp444, kp445, h446, h447, h448, h449, h450, h451⟩
                  have hB452 : BF fQ M M439 := BF.go hB426 hB440
                  have kp453 : mI M439 24 = mI M 24 := kp_go kp427 kp441
                  have kp454 : mI M439 25 = mI M 25 := kp_go kp428 kp442
                  have kp455 : mI M439 26 = mI M 26 := kp_go kp429 kp443
                  have kp456 : mI M439 27 = mI M 27 := kp_go kp430 kp444
                  have kp457 : mI M439 28 = mI M 28 := kp_go kp431 kp445
                  refine vc_if_eq dX4_readOne_240 (fun h458 => ?_) (fun h458 => ?_)
                  · refine vc_iconst dX4_readOne_278 rfl ?_
                    refine vc_zret dX4_readOne_279 rfl (by first | decide | omega) (Nat.le_of_ble_eq_true rfl) (Nat.le_of_ble_eq_true rfl) ?_
                    exact ⟨_, rfl, hB452, kp453, kp454, kp455, kp456, kp457, by omega, by omega, by omega, by omega, by omega, Or.inr ⟨by omega, (LR.bad h451 (by omega)).1, kt437 _ (LR.bad h451 (by omega)).2⟩⟩
                  · obtain ⟨q459, hl460, hR461, hE462, hk463⟩ := LR.ok h451 (by omega)
                    unfold EOp at hE462
                    have kt464 : ∀ o, Rn (tk g n) (nx g n) w (42 :: sk) true q459 o → Rn (tk g n) (nx g n) w sk false p o := fun o r => kt437 o (hk463 o r)
                    refine vc_aload_n dX4_readOne_243 rfl ?_
                    refine vc_bipush dX4_readOne_244 rfl ?_
                    refine vc_cVI dX4_readOne_246 (sfX4_readWordF (M := M439) hB452.1  g n q459 hR461 20 (by omega) (by omega)) rfl okX4_readWord viX4_readWord lkX4_151 (s_22 hB452.1.1) cl_4 rfl (by show 1 < 11 + 3 * (nf + 1); omega) ⟨rfl, rfl⟩ (Nat.le_of_ble_eq_true rfl) (Nat.le_of_ble_eq_true rfl) (Nat.le_of_ble_eq_true rfl) ?_
                    rintro x465 M466 ⟨hB467, kp468, kp469, kp470, kp471, kp472, h473, h474, h475, h476, h477, h478⟩
                    have hB479 : BF fQ M M466 := BF.go hB452 hB467
                    have kp480 : mI M466 24 = mI M 24 := kp_go kp453 kp468
                    have kp481 : mI M466 25 = mI M 25 := kp_go kp454 kp469
                    have kp482 : mI M466 26 = mI M 26 := kp_go kp455 kp470
                    have kp483 : mI M466 27 = mI M 27 := kp_go kp456 kp471
                    have kp484 : mI M466 28 = mI M 28 := kp_go kp457 kp472
                    refine vc_if_eq dX4_readOne_249 (fun h485 => ?_) (fun h485 => ?_)
                    · refine vc_iconst dX4_readOne_278 rfl ?_
                      refine vc_zret dX4_readOne_279 rfl (by first | decide | omega) (Nat.le_of_ble_eq_true rfl) (Nat.le_of_ble_eq_true rfl) ?_
                      have hb486 := TR.bad h478 (by omega)
                      exact ⟨_, rfl, hB479, kp480, kp481, kp482, kp483, kp484, by omega, by omega, by omega, by omega, by omega, Or.inr ⟨by omega, by omega, by rw [hb486.2.1, hb486.2.2]; exact kt464 _ (t_b42 hE462 (by omega))⟩⟩
                    · have e487 := TR.ok h478 (by omega)
                      have he488 := e487.1
                      have rg489 := RS.rg hR461
                      have kt490 : ∀ o, Rn (tk g n) (nx g n) w (dm sk) true (nx g n q459) o → Rn (tk g n) (nx g n) w sk false p o := fun o r => kt464 o (t_end (by omega) r)
                      refine vc_aload_n dX4_readOne_252 rfl ?_
                      refine vc_iload_n dX4_readOne_253 rfl ?_
                      refine vc_bipush dX4_readOne_254 rfl ?_
                      refine vc_icmp_ne dX4_readOne_256 (fun h491 => by exfalso; omega) (fun h491 => ?_)
                      refine vc_sipush dX4_readOne_259 rfl ?_
                      refine vc_goto dX4_readOne_262 ?_
                      refine vc_cVI dX4_readOne_268 (sfX4_emitF (M := M466) hB479.1  g n (nx g n q459) e487.2 20004 ) rfl okX4_emit viX4_emit lkX4_176 (s_22 hB479.1.1) cl_4 rfl (by show 0 < 11 + 3 * (nf + 1); omega) ⟨rfl, rfl⟩ (Nat.le_of_ble_eq_true rfl) (Nat.le_of_ble_eq_true rfl) (Nat.le_of_ble_eq_true rfl) ?_
                      rintro x492 M493 ⟨hB494, kp495, kp496, kp497, kp498, kp499, h500, h501, h502, h503, h504, h505⟩
                      have hB506 : BF fQ M M493 := BF.go hB479 hB494
                      have kp507 : mI M493 24 = mI M 24 := kp_go kp480 kp495
                      have kp508 : mI M493 25 = mI M 25 := kp_go kp481 kp496
                      have kp509 : mI M493 26 = mI M 26 := kp_go kp482 kp497
                      have kp510 : mI M493 27 = mI M 27 := kp_go kp483 kp498
                      have kp511 : mI M493 28 = mI M 28 := kp_go kp484 kp499
                      refine vc_if_eq dX4_readOne_271 (fun h512 => by exfalso; omega) (fun h512 => ?_)
                      refine vc_iconst dX4_readOne_274 rfl ?_
                      refine vc_goto dX4_readOne_275 ?_
                      refine vc_zret dX4_readOne_279 rfl (by first | decide | omega) (Nat.le_of_ble_eq_true rfl) (Nat.le_of_ble_eq_true rfl) ?_
                      exact ⟨_, rfl, hB506, kp507, kp508, kp509, kp510, kp511, by omega, by omega, by omega, by omega, by omega, Or.inl ⟨by omega, nx g n q459, by omega, h505, trivial, kt490⟩⟩
          · refine vc_aload_n dX4_readOne_185 rfl ?_
            refine vc_iconst dX4_readOne_186 rfl ?_
            refine vc_cVI dX4_readOne_187 (sfX4_failedF (M := M) hB0.1  g n p hR 3 ) rfl okX4_failed viX4_failed lkX4_122 (s_22 hB0.1.1) cl_4 rfl (by show 0 < 11 + 3 * (nf + 1); omega) ⟨rfl, rfl⟩ (Nat.le_of_ble_eq_true rfl) (Nat.le_of_ble_eq_true rfl) (Nat.le_of_ble_eq_true rfl) ?_
            rintro x513 M514 ⟨hB515, kp516, kp517, kp518, kp519, kp520, h521, h522, h523, h524, h525, h526, h527⟩
            have hB528 : BF fQ M M514 := BF.go hB0 hB515
            have kp529 : mI M514 24 = mI M 24 := kp_go rfl kp516
            have kp530 : mI M514 25 = mI M 25 := kp_go rfl kp517
            have kp531 : mI M514 26 = mI M 26 := kp_go rfl kp518
            have kp532 : mI M514 27 = mI M 27 := kp_go rfl kp519
            have kp533 : mI M514 28 = mI M 28 := kp_go rfl kp520
            refine vc_zret dX4_readOne_190 rfl (by first | decide | omega) (Nat.le_of_ble_eq_true rfl) (Nat.le_of_ble_eq_true rfl) ?_
            exact ⟨_, rfl, hB528, kp529, kp530, kp531, kp532, kp533, by omega, by omega, by omega, by omega, by omega, Or.inr ⟨by omega, by omega, by rw [h526, h527]; first | exact r_two3 (by omega) (by omega) | exact r_par3 (by omega) (by omega) | exact r_neg3 (by omega) (by omega)⟩⟩
        · refine vc_aload_n dX4_readOne_136 rfl ?_
          refine vc_getI dX4_readOne_137 flX4_119 (s_22 hB0.1.1) rfl ?_
          refine vc_bipush dX4_readOne_140 rfl ?_
          refine vc_icmp_ne dX4_readOne_142 (fun h534 => ?_) (fun h534 => ?_)
          · refine vc_iconst dX4_readOne_149 rfl ?_
            refine vc_istore_n dX4_readOne_150 (Nat.le_of_ble_eq_true rfl) rfl (show _ = [some (aR 22), some (aI d), some (aI 0), none] from rfl) ?_
            refine vc_iload_n dX4_readOne_151 rfl ?_
            refine vc_if_ne dX4_readOne_152 (fun h535 => by exfalso; omega) (fun h535 => ?_)
            refine vc_aload_n dX4_readOne_155 rfl ?_
            refine vc_bipush dX4_readOne_156 rfl ?_
            refine vc_cVI dX4_readOne_158 (sfX4_isSignF (M := M) hB0.1  40 ) rfl okX4_isSign viX4_isSign lkX4_163 (s_22 hB0.1.1) cl_4 rfl (by show 0 < 11 + 3 * (nf + 1); omega) ⟨rfl, rfl⟩ (Nat.le_of_ble_eq_true rfl) (Nat.le_of_ble_eq_true rfl) (Nat.le_of_ble_eq_true rfl) ?_
            rintro x536 _ ⟨rfl, h537, h538, h539⟩
            refine vc_if_ne dX4_readOne_161 (fun h540 => ?_) (fun h540 => ?_)
            · refine vc_iload_n dX4_readOne_179 rfl ?_
              refine vc_bipush dX4_readOne_180 rfl ?_
              refine vc_icmp_lt dX4_readOne_182 (fun h541 => ?_) (fun h541 => ?_)
              · refine vc_aload_n dX4_readOne_191 rfl ?_
                refine vc_getI dX4_readOne_192 flX4_119 (s_22 hB0.1.1) rfl ?_
                refine vc_nameI (fun x542 ex542 => ?_)
                refine vc_istore_n dX4_readOne_195 (Nat.le_of_ble_eq_true rfl) rfl (show _ = [some (aR 22), some (aI d), some (aI 0), some (aI x542)] from rfl) ?_
                refine vc_aload_n dX4_readOne_196 rfl ?_
                refine vc_cVI dX4_readOne_197 (sfX4_takeTokenF (M := M) hB0.1  g n p hR (by omega)) rfl okX4_takeToken viX4_takeToken lkX4_65 (s_22 hB0.1.1) cl_4 rfl (by show 0 < 11 + 3 * (nf + 1); omega) ⟨rfl, rfl⟩ (Nat.le_of_ble_eq_true rfl) (Nat.le_of_ble_eq_true rfl) (Nat.le_of_ble_eq_true rfl) ?_
                rintro x543 M544 ⟨hB545, kp546, kp547, kp548, kp549, kp550, h551, h552, h553, h554, h555, h556⟩
                have hB557 : BF fQ M M544 := BF.go hB0 hB545
                have kp558 : mI M544 24 = mI M 24 := kp_go rfl kp546
                have kp559 : mI M544 25 = mI M 25 := kp_go rfl kp547
                have kp560 : mI M544 26 = mI M 26 := kp_go rfl kp548
                have kp561 : mI M544 27 = mI M 27 := kp_go rfl kp549
                have kp562 : mI M544 28 = mI M 28 := kp_go rfl kp550
                refine vc_pop dX4_readOne_200 rfl ?_
                refine vc_iload_n dX4_readOne_201 rfl ?_
                refine vc_if_eq dX4_readOne_202 (fun h563 => ?_) (fun h563 => by exfalso; omega)
                refine vc_iload_n dX4_readOne_280 rfl ?_
                refine vc_bipush dX4_readOne_281 rfl ?_
                refine vc_icmp_ne dX4_readOne_283 (fun h564 => ?_) (fun h564 => ?_)
                · have kt565 : ∀ o, Rn (tk g n) (nx g n) w (2 :: sk) false (nx g n p) o → Rn (tk g n) (nx g n) w sk false p o := fun o r => r_neg (by omega) (by omega) r
                  refine vc_aload_n dX4_readOne_311 rfl ?_
                  refine vc_iload_n dX4_readOne_312 rfl ?_
                  refine vc_iconst dX4_readOne_313 rfl ?_
                  refine vc_iaddE dX4_readOne_314 (by omega) (by omega) ?_
                  refine vc_cVI dX4_readOne_315 (ho (M := M544) hB557.1  (d + 1) (by omega) (by omega) g n (nx g n p) h556 w (2 :: sk) (by first | (rw [List.length_cons]; omega) | omega) (by rw [show mI M544 22 14 = mI M 22 14 by omega]; exact hw) (by omega)) rfl (okX4_readOne (11 + 3 * nf)) (viX4_readOne (11 + 3 * nf)) (lkX4_179 (11 + 3 * nf)) (s_22 hB557.1.1) cl_4 rfl (by show (11 + 3 * nf) < 11 + 3 * (nf + 1); omega) ⟨rfl, rfl⟩ (Nat.le_of_ble_eq_true rfl) (Nat.le_of_ble_eq_true rfl) (Nat.le_of_ble_eq_true rfl) ?_
                  rintro x566 M567 ⟨hB568, kp569, kp570, kp571, kp572, kp573, h574, h575, h576, h577, h578, h579⟩
                  have hB580 : BF fQ M M567 := BF.go hB557 hB568
                  have kp581 : mI M567 24 = mI M 24 := kp_go kp558 kp569
                  have kp582 : mI M567 25 = mI M 25 := kp_go kp559 kp570
                  have kp583 : mI M567 26 = mI M 26 := kp_go kp560 kp571
                  have kp584 : mI M567 27 = mI M 27 := kp_go kp561 kp572
                  have kp585 : mI M567 28 = mI M 28 := kp_go kp562 kp573
                  refine vc_if_eq dX4_readOne_318 (fun h586 => ?_) (fun h586 => ?_)
                  · refine vc_iconst dX4_readOne_335 rfl ?_
                    refine vc_zret dX4_readOne_336 rfl (by first | decide | omega) (Nat.le_of_ble_eq_true rfl) (Nat.le_of_ble_eq_true rfl) ?_
                    exact ⟨_, rfl, hB580, kp581, kp582, kp583, kp584, kp585, by omega, by omega, by omega, by omega, by omega, Or.inr ⟨by omega, (LR.bad h579 (by omega)).1, kt565 _ (LR.bad h579 (by omega)).2⟩⟩
                  · obtain ⟨q587, hl588, hR589, hE590, hk591⟩ := LR.ok h579 (by omega)
                    have kt592 : ∀ o, Rn (tk g n) (nx g n) w (dm sk) true q587 o → Rn (tk g n) (nx g n) w sk false p o := fun o r => kt565 o (hk591 o r)
                    refine vc_aload_n dX4_readOne_321 rfl ?_
                    refine vc_sipush dX4_readOne_322 rfl ?_
                    refine vc_cVI dX4_readOne_325 (sfX4_emitF (M := M567) hB580.1  g n q587 hR589 20006 ) rfl okX4_emit viX4_emit lkX4_176 (s_22 hB580.1.1) cl_4 rfl (by show 0 < 11 + 3 * (nf + 1); omega) ⟨rfl, rfl⟩ (Nat.le_of_ble_eq_true rfl) (Nat.le_of_ble_eq_true rfl) (Nat.le_of_ble_eq_true rfl) ?_
                    rintro x593 M594 ⟨hB595, kp596, kp597, kp598, kp599, kp600, h601, h602, h603, h604, h605, h606⟩
                    have hB607 : BF fQ M M594 := BF.go hB580 hB595
                    have kp608 : mI M594 24 = mI M 24 := kp_go kp581 kp596
                    have kp609 : mI M594 25 = mI M 25 := kp_go kp582 kp597
                    have kp610 : mI M594 26 = mI M 26 := kp_go kp583 kp598
                    have kp611 : mI M594 27 = mI M 27 := kp_go kp584 kp599
                    have kp612 : mI M594 28 = mI M 28 := kp_go kp585 kp600
                    refine vc_if_eq dX4_readOne_328 (fun h613 => by exfalso; omega) (fun h613 => ?_)
                    refine vc_iconst dX4_readOne_331 rfl ?_
                    refine vc_goto dX4_readOne_332 ?_
                    refine vc_zret dX4_readOne_336 rfl (by first | decide | omega) (Nat.le_of_ble_eq_true rfl) (Nat.le_of_ble_eq_true rfl) ?_
                    exact ⟨_, rfl, hB607, kp608, kp609, kp610, kp611, kp612, by omega, by omega, by omega, by omega, by omega, Or.inl ⟨by omega, q587, by omega, h606, trivial, kt592⟩⟩
                · have kt614 : ∀ o, Rn (tk g n) (nx g n) w (40 :: sk) false (nx g n p) o → Rn (tk g n) (nx g n) w sk false p o := fun o r => r_par (by omega) (by omega) r
                  refine vc_aload_n dX4_readOne_286 rfl ?_
                  refine vc_iload_n dX4_readOne_287 rfl ?_
                  refine vc_iconst dX4_readOne_288 rfl ?_
                  refine vc_iaddE dX4_readOne_289 (by omega) (by omega) ?_
                  refine vc_cVI dX4_readOne_290 (hs (M := M544) hB557.1  (d + 1) (by omega) (by omega) g n (nx g n p) h556 w (40 :: sk) (by first | (rw [List.length_cons]; omega) | omega) rfl (by rw [show mI M544 22 14 = mI M 22 14 by omega]; exact hw) (by omega)) rfl (okX4_readSum (13 + 3 * nf)) (viX4_readSum (13 + 3 * nf)) (lkX4_132 (13 + 3 * nf)) (s_22 hB557.1.1) cl_4 rfl (by show (13 + 3 * nf) < 11 + 3 * (nf + 1); omega) ⟨rfl, rfl⟩ (Nat.le_of_ble_eq_true rfl) (Nat.le_of_ble_eq_true rfl) (Nat.le_of_ble_eq_true rfl) ?_
                  rintro x615 M616 ⟨hB617, kp618, kp619, kp620, kp621, kp622, h623, h624, h625, h626, h627, h628⟩
                  have hB629 : BF fQ M M616 := BF.go hB557 hB617
                  have kp630 : mI M616 24 = mI M 24 := kp_go kp558 kp618
                  have kp631 : mI M616 25 = mI M 25 := kp_go kp559 kp619
                  have kp632 : mI M616 26 = mI M 26 := kp_go kp560 kp620
                  have kp633 : mI M616 27 = mI M 27 := kp_go kp561 kp621
                  have kp634 : mI M616 28 = mI M 28 := kp_go kp562 kp622
                  refine vc_if_eq dX4_readOne_293 (fun h635 => ?_) (fun h635 => ?_)
                  · refine vc_iconst dX4_readOne_309 rfl ?_
                    refine vc_zret dX4_readOne_310 rfl (by first | decide | omega) (Nat.le_of_ble_eq_true rfl) (Nat.le_of_ble_eq_true rfl) ?_
                    exact ⟨_, rfl, hB629, kp630, kp631, kp632, kp633, kp634, by omega, by omega, by omega, by omega, by omega, Or.inr ⟨by omega, (LR.bad h628 (by omega)).1, kt614 _ (LR.bad h628 (by omega)).2⟩⟩
                  · obtain ⟨q636, hl637, hR638, hE639, hk640⟩ := LR.ok h628 (by omega)
                    unfold EOp at hE639
                    have kt641 : ∀ o, Rn (tk g n) (nx g n) w (40 :: sk) true q636 o → Rn (tk g n) (nx g n) w sk false p o := fun o r => kt614 o (hk640 o r)
                    refine vc_aload_n dX4_readOne_296 rfl ?_
                    refine vc_bipush dX4_readOne_297 rfl ?_
                    refine vc_cVI dX4_readOne_299 (sfX4_readSignF (M := M616) hB629.1  g n q636 hR638 41 (by omega) (by omega)) rfl okX4_readSign viX4_readSign lkX4_141 (s_22 hB629.1.1) cl_4 rfl (by show 1 < 11 + 3 * (nf + 1); omega) ⟨rfl, rfl⟩ (Nat.le_of_ble_eq_true rfl) (Nat.le_of_ble_eq_true rfl) (Nat.le_of_ble_eq_true rfl) ?_
                    rintro x642 M643 ⟨hB644, kp645, kp646, kp647, kp648, kp649, h650, h651, h652, h653, h654, h655⟩
                    have hB656 : BF fQ M M643 := BF.go hB629 hB644
                    have kp657 : mI M643 24 = mI M 24 := kp_go kp630 kp645
                    have kp658 : mI M643 25 = mI M 25 := kp_go kp631 kp646
                    have kp659 : mI M643 26 = mI M 26 := kp_go kp632 kp647
                    have kp660 : mI M643 27 = mI M 27 := kp_go kp633 kp648
                    have kp661 : mI M643 28 = mI M 28 := kp_go kp634 kp649
                    refine vc_if_eq dX4_readOne_302 (fun h662 => ?_) (fun h662 => ?_)
                    · refine vc_iconst dX4_readOne_309 rfl ?_
                      refine vc_zret dX4_readOne_310 rfl (by first | decide | omega) (Nat.le_of_ble_eq_true rfl) (Nat.le_of_ble_eq_true rfl) ?_
                      have hb663 := TR.bad h655 (by omega)
                      exact ⟨_, rfl, hB656, kp657, kp658, kp659, kp660, kp661, by omega, by omega, by omega, by omega, by omega, Or.inr ⟨by omega, by omega, by rw [hb663.2.1, hb663.2.2]; exact kt641 _ (t_b40 hE639 (by omega))⟩⟩
                    · have e664 := TR.ok h655 (by omega)
                      have he665 := e664.1
                      have rg666 := RS.rg hR638
                      have kt667 : ∀ o, Rn (tk g n) (nx g n) w (dm sk) true (nx g n q636) o → Rn (tk g n) (nx g n) w sk false p o := fun o r => kt641 o (t_shut (by omega) r)
                      refine vc_iconst dX4_readOne_305 rfl ?_
                      refine vc_goto dX4_readOne_306 ?_
                      refine vc_zret dX4_readOne_310 rfl (by first | decide | omega) (Nat.le_of_ble_eq_true rfl) (Nat.le_of_ble_eq_true rfl) ?_
                      exact ⟨_, rfl, hB656, kp657, kp658, kp659, kp660, kp661, by omega, by omega, by omega, by omega, by omega, Or.inl ⟨by omega, nx g n q636, by omega, e664.2, trivial, kt667⟩⟩
              · refine vc_aload_n dX4_readOne_185 rfl ?_
                refine vc_iconst dX4_readOne_186 rfl ?_
                refine vc_cVI dX4_readOne_187 (sfX4_failedF (M := M) hB0.1  g n p hR 3 ) rfl okX4_failed viX4_failed lkX4_122 (s_22 hB0.1.1) cl_4 rfl (by show 0 < 11 + 3 * (nf + 1); omega) ⟨rfl, rfl⟩ (Nat.le_of_ble_eq_true rfl) (Nat.le_of_ble_eq_true rfl) (Nat.le_of_ble_eq_true rfl) ?_
                rintro x668 M669 ⟨hB670, kp671, kp672, kp673, kp674, kp675, h676, h677, h678, h679, h680, h681, h682⟩
                have hB683 : BF fQ M M669 := BF.go hB0 hB670
                have kp684 : mI M669 24 = mI M 24 := kp_go rfl kp671
                have kp685 : mI M669 25 = mI M 25 := kp_go rfl kp672
                have kp686 : mI M669 26 = mI M 26 := kp_go rfl kp673
                have kp687 : mI M669 27 = mI M 27 := kp_go rfl kp674
                have kp688 : mI M669 28 = mI M 28 := kp_go rfl kp675
                refine vc_zret dX4_readOne_190 rfl (by first | decide | omega) (Nat.le_of_ble_eq_true rfl) (Nat.le_of_ble_eq_true rfl) ?_
                exact ⟨_, rfl, hB683, kp684, kp685, kp686, kp687, kp688, by omega, by omega, by omega, by omega, by omega, Or.inr ⟨by omega, by omega, by rw [h681, h682]; first | exact r_two3 (by omega) (by omega) | exact r_par3 (by omega) (by omega) | exact r_neg3 (by omega) (by omega)⟩⟩
            · refine vc_aload_n dX4_readOne_164 rfl ?_
              refine vc_bipush dX4_readOne_165 rfl ?_
              refine vc_cVI dX4_readOne_167 (sfX4_isSignF (M := M) hB0.1  45 ) rfl okX4_isSign viX4_isSign lkX4_163 (s_22 hB0.1.1) cl_4 rfl (by show 0 < 11 + 3 * (nf + 1); omega) ⟨rfl, rfl⟩ (Nat.le_of_ble_eq_true rfl) (Nat.le_of_ble_eq_true rfl) (Nat.le_of_ble_eq_true rfl) ?_
              rintro x689 _ ⟨rfl, h690, h691, h692⟩
              refine vc_if_ne dX4_readOne_170 (fun h693 => ?_) (fun h693 => ?_)
              · refine vc_iload_n dX4_readOne_179 rfl ?_
                refine vc_bipush dX4_readOne_180 rfl ?_
                refine vc_icmp_lt dX4_readOne_182 (fun h694 => ?_) (fun h694 => ?_)
                · refine vc_aload_n dX4_readOne_191 rfl ?_
                  refine vc_getI dX4_readOne_192 flX4_119 (s_22 hB0.1.1) rfl ?_
                  refine vc_nameI (fun x695 ex695 => ?_)
                  refine vc_istore_n dX4_readOne_195 (Nat.le_of_ble_eq_true rfl) rfl (show _ = [some (aR 22), some (aI d), some (aI 0), some (aI x695)] from rfl) ?_
                  refine vc_aload_n dX4_readOne_196 rfl ?_
                  refine vc_cVI dX4_readOne_197 (sfX4_takeTokenF (M := M) hB0.1  g n p hR (by omega)) rfl okX4_takeToken viX4_takeToken lkX4_65 (s_22 hB0.1.1) cl_4 rfl (by show 0 < 11 + 3 * (nf + 1); omega) ⟨rfl, rfl⟩ (Nat.le_of_ble_eq_true rfl) (Nat.le_of_ble_eq_true rfl) (Nat.le_of_ble_eq_true rfl) ?_
                  rintro x696 M697 ⟨hB698, kp699, kp700, kp701, kp702, kp703, h704, h705, h706, h707, h708, h709⟩
                  have hB710 : BF fQ M M697 := BF.go hB0 hB698
                  have kp711 : mI M697 24 = mI M 24 := kp_go rfl kp699
                  have kp712 : mI M697 25 = mI M 25 := kp_go rfl kp700
                  have kp713 : mI M697 26 = mI M 26 := kp_go rfl kp701
                  have kp714 : mI M697 27 = mI M 27 := kp_go rfl kp702
                  have kp715 : mI M697 28 = mI M 28 := kp_go rfl kp703
                  refine vc_pop dX4_readOne_200 rfl ?_
                  refine vc_iload_n dX4_readOne_201 rfl ?_
                  refine vc_if_eq dX4_readOne_202 (fun h716 => ?_) (fun h716 => by exfalso; omega)
                  refine vc_iload_n dX4_readOne_280 rfl ?_
                  refine vc_bipush dX4_readOne_281 rfl ?_
                  refine vc_icmp_ne dX4_readOne_283 (fun h717 => ?_) (fun h717 => ?_)
                  · have kt718 : ∀ o, Rn (tk g n) (nx g n) w (2 :: sk) false (nx g n p) o → Rn (tk g n) (nx g n) w sk false p o := fun o r => r_neg (by omega) (by omega) r
                    refine vc_aload_n dX4_readOne_311 rfl ?_
                    refine vc_iload_n dX4_readOne_312 rfl ?_
                    refine vc_iconst dX4_readOne_313 rfl ?_
                    refine vc_iaddE dX4_readOne_314 (by omega) (by omega) ?_
                    refine vc_cVI dX4_readOne_315 (ho (M := M697) hB710.1  (d + 1) (by omega) (by omega) g n (nx g n p) h709 w (2 :: sk) (by first | (rw [List.length_cons]; omega) | omega) (by rw [show mI M697 22 14 = mI M 22 14 by omega]; exact hw) (by omega)) rfl (okX4_readOne (11 + 3 * nf)) (viX4_readOne (11 + 3 * nf)) (lkX4_179 (11 + 3 * nf)) (s_22 hB710.1.1) cl_4 rfl (by show (11 + 3 * nf) < 11 + 3 * (nf + 1); omega) ⟨rfl, rfl⟩ (Nat.le_of_ble_eq_true rfl) (Nat.le_of_ble_eq_true rfl) (Nat.le_of_ble_eq_true rfl) ?_
                    rintro x719 M720 ⟨hB721, kp722, kp723, kp724, kp725, kp726, h727, h728, h729, h730, h731, h732⟩
                    have hB733 : BF fQ M M720 := BF.go hB710 hB721
                    have kp734 : mI M720 24 = mI M 24 := kp_go kp711 kp722
                    have kp735 : mI M720 25 = mI M 25 := kp_go kp712 kp723
                    have kp736 : mI M720 26 = mI M 26 := kp_go kp713 kp724
                    have kp737 : mI M720 27 = mI M 27 := kp_go kp714 kp725
                    have kp738 : mI M720 28 = mI M 28 := kp_go kp715 kp726
                    refine vc_if_eq dX4_readOne_318 (fun h739 => ?_) (fun h739 => ?_)
                    · refine vc_iconst dX4_readOne_335 rfl ?_
                      refine vc_zret dX4_readOne_336 rfl (by first | decide | omega) (Nat.le_of_ble_eq_true rfl) (Nat.le_of_ble_eq_true rfl) ?_
                      exact ⟨_, rfl, hB733, kp734, kp735, kp736, kp737, kp738, by omega, by omega, by omega, by omega, by omega, Or.inr ⟨by omega, (LR.bad h732 (by omega)).1, kt718 _ (LR.bad h732 (by omega)).2⟩⟩
                    · obtain ⟨q740, hl741, hR742, hE743, hk744⟩ := LR.ok h732 (by omega)
                      have kt745 : ∀ o, Rn (tk g n) (nx g n) w (dm sk) true q740 o → Rn (tk g n) (nx g n) w sk false p o := fun o r => kt718 o (hk744 o r)
                      refine vc_aload_n dX4_readOne_321 rfl ?_
                      refine vc_sipush dX4_readOne_322 rfl ?_
                      refine vc_cVI dX4_readOne_325 (sfX4_emitF (M := M720) hB733.1  g n q740 hR742 20006 ) rfl okX4_emit viX4_emit lkX4_176 (s_22 hB733.1.1) cl_4 rfl (by show 0 < 11 + 3 * (nf + 1); omega) ⟨rfl, rfl⟩ (Nat.le_of_ble_eq_true rfl) (Nat.le_of_ble_eq_true rfl) (Nat.le_of_ble_eq_true rfl) ?_
                      rintro x746 M747 ⟨hB748, kp749, kp750, kp751, kp752, kp753, h754, h755, h756, h757, h758, h759⟩
                      have hB760 : BF fQ M M747 := BF.go hB733 hB748
                      have kp761 : mI M747 24 = mI M 24 := kp_go kp734 kp749
                      have kp762 : mI M747 25 = mI M 25 := kp_go kp735 kp750
                      have kp763 : mI M747 26 = mI M 26 := kp_go kp736 kp751
                      have kp764 : mI M747 27 = mI M 27 := kp_go kp737 kp752
                      have kp765 : mI M747 28 = mI M 28 := kp_go kp738 kp753
                      refine vc_if_eq dX4_readOne_328 (fun h766 => by exfalso; omega) (fun h766 => ?_)
                      refine vc_iconst dX4_readOne_331 rfl ?_
                      refine vc_goto dX4_readOne_332 ?_
                      refine vc_zret dX4_readOne_336 rfl (by first | decide | omega) (Nat.le_of_ble_eq_true rfl) (Nat.le_of_ble_eq_true rfl) ?_
                      exact ⟨_, rfl, hB760, kp761, kp762, kp763, kp764, kp765, by omega, by omega, by omega, by omega, by omega, Or.inl ⟨by omega, q740, by omega, h759, trivial, kt745⟩⟩
                  · have kt767 : ∀ o, Rn (tk g n) (nx g n) w (40 :: sk) false (nx g n p) o → Rn (tk g n) (nx g n) w sk false p o := fun o r => r_par (by omega) (by omega) r
                    refine vc_aload_n dX4_readOne_286 rfl ?_
                    refine vc_iload_n dX4_readOne_287 rfl ?_
                    refine vc_iconst dX4_readOne_288 rfl ?_
                    refine vc_iaddE dX4_readOne_289 (by omega) (by omega) ?_
                    refine vc_cVI dX4_readOne_290 (hs (M := M697) hB710.1  (d + 1) (by omega) (by omega) g n (nx g n p) h709 w (40 :: sk) (by first | (rw [List.length_cons]; omega) | omega) rfl (by rw [show mI M697 22 14 = mI M 22 14 by omega]; exact hw) (by omega)) rfl (okX4_readSum (13 + 3 * nf)) (viX4_readSum (13 + 3 * nf)) (lkX4_132 (13 + 3 * nf)) (s_22 hB710.1.1) cl_4 rfl (by show (13 + 3 * nf) < 11 + 3 * (nf + 1); omega) ⟨rfl, rfl⟩ (Nat.le_of_ble_eq_true rfl) (Nat.le_of_ble_eq_true rfl) (Nat.le_of_ble_eq_true rfl) ?_
                    rintro x768 M769 ⟨hB770, kp771, kp772, kp773, kp774, kp775, h776, h777, h778, h779, h780, h781⟩
                    have hB782 : BF fQ M M769 := BF.go hB710 hB770
                    have kp783 : mI M769 24 = mI M 24 := kp_go kp711 kp771
                    have kp784 : mI M769 25 = mI M 25 := kp_go kp712 kp772
                    have kp785 : mI M769 26 = mI M 26 := kp_go kp713 kp773
                    have kp786 : mI M769 27 = mI M 27 := kp_go kp714 kp774
                    have kp787 : mI M769 28 = mI M 28 := kp_go kp715 kp775
                    refine vc_if_eq dX4_readOne_293 (fun h788 => ?_) (fun h788 => ?_)
                    · refine vc_iconst dX4_readOne_309 rfl ?_
                      refine vc_zret dX4_readOne_310 rfl (by first | decide | omega) (Nat.le_of_ble_eq_true rfl) (Nat.le_of_ble_eq_true rfl) ?_
                      exact ⟨_, rfl, hB782, kp783, kp784, kp785, kp786, kp787, by omega, by omega, by omega, by omega, by omega, Or.inr ⟨by omega, (LR.bad h781 (by omega)).1, kt767 _ (LR.bad h781 (by omega)).2⟩⟩
                    · obtain ⟨q789, hl790, hR791, hE792, hk793⟩ := LR.ok h781 (by omega)
                      unfold EOp at hE792
                      have kt794 : ∀ o, Rn (tk g n) (nx g n) w (40 :: sk) true q789 o → Rn (tk g n) (nx g n) w sk false p o := fun o r => kt767 o (hk793 o r)
                      refine vc_aload_n dX4_readOne_296 rfl ?_
                      refine vc_bipush dX4_readOne_297 rfl ?_
                      refine vc_cVI dX4_readOne_299 (sfX4_readSignF (M := M769) hB782.1  g n q789 hR791 41 (by omega) (by omega)) rfl okX4_readSign viX4_readSign lkX4_141 (s_22 hB782.1.1) cl_4 rfl (by show 1 < 11 + 3 * (nf + 1); omega) ⟨rfl, rfl⟩ (Nat.le_of_ble_eq_true rfl) (Nat.le_of_ble_eq_true rfl) (Nat.le_of_ble_eq_true rfl) ?_
                      rintro x795 M796 ⟨hB797, kp798, kp799, kp800, kp801, kp802, h803, h804, h805, h806, h807, h808⟩
                      have hB809 : BF fQ M M796 := BF.go hB782 hB797
                      have kp810 : mI M796 24 = mI M 24 := kp_go kp783 kp798
                      have kp811 : mI M796 25 = mI M 25 := kp_go kp784 kp799
                      have kp812 : mI M796 26 = mI M 26 := kp_go kp785 kp800
                      have kp813 : mI M796 27 = mI M 27 := kp_go kp786 kp801
                      have kp814 : mI M796 28 = mI M 28 := kp_go kp787 kp802
                      refine vc_if_eq dX4_readOne_302 (fun h815 => ?_) (fun h815 => ?_)
                      · refine vc_iconst dX4_readOne_309 rfl ?_
                        refine vc_zret dX4_readOne_310 rfl (by first | decide | omega) (Nat.le_of_ble_eq_true rfl) (Nat.le_of_ble_eq_true rfl) ?_
                        have hb816 := TR.bad h808 (by omega)
                        exact ⟨_, rfl, hB809, kp810, kp811, kp812, kp813, kp814, by omega, by omega, by omega, by omega, by omega, Or.inr ⟨by omega, by omega, by rw [hb816.2.1, hb816.2.2]; exact kt794 _ (t_b40 hE792 (by omega))⟩⟩
                      · have e817 := TR.ok h808 (by omega)
                        have he818 := e817.1
                        have rg819 := RS.rg hR791
                        have kt820 : ∀ o, Rn (tk g n) (nx g n) w (dm sk) true (nx g n q789) o → Rn (tk g n) (nx g n) w sk false p o := fun o r => kt794 o (t_shut (by omega) r)
                        refine vc_iconst dX4_readOne_305 rfl ?_
                        refine vc_goto dX4_readOne_306 ?_
                        refine vc_zret dX4_readOne_310 rfl (by first | decide | omega) (Nat.le_of_ble_eq_true rfl) (Nat.le_of_ble_eq_true rfl) ?_
                        exact ⟨_, rfl, hB809, kp810, kp811, kp812, kp813, kp814, by omega, by omega, by omega, by omega, by omega, Or.inl ⟨by omega, nx g n q789, by omega, e817.2, trivial, kt820⟩⟩
                · refine vc_aload_n dX4_readOne_185 rfl ?_
                  refine vc_iconst dX4_readOne_186 rfl ?_
                  refine vc_cVI dX4_readOne_187 (sfX4_failedF (M := M) hB0.1  g n p hR 3 ) rfl okX4_failed viX4_failed lkX4_122 (s_22 hB0.1.1) cl_4 rfl (by show 0 < 11 + 3 * (nf + 1); omega) ⟨rfl, rfl⟩ (Nat.le_of_ble_eq_true rfl) (Nat.le_of_ble_eq_true rfl) (Nat.le_of_ble_eq_true rfl) ?_
                  rintro x821 M822 ⟨hB823, kp824, kp825, kp826, kp827, kp828, h829, h830, h831, h832, h833, h834, h835⟩
                  have hB836 : BF fQ M M822 := BF.go hB0 hB823
                  have kp837 : mI M822 24 = mI M 24 := kp_go rfl kp824
                  have kp838 : mI M822 25 = mI M 25 := kp_go rfl kp825
                  have kp839 : mI M822 26 = mI M 26 := kp_go rfl kp826
                  have kp840 : mI M822 27 = mI M 27 := kp_go rfl kp827
                  have kp841 : mI M822 28 = mI M 28 := kp_go rfl kp828
                  refine vc_zret dX4_readOne_190 rfl (by first | decide | omega) (Nat.le_of_ble_eq_true rfl) (Nat.le_of_ble_eq_true rfl) ?_
                  exact ⟨_, rfl, hB836, kp837, kp838, kp839, kp840, kp841, by omega, by omega, by omega, by omega, by omega, Or.inr ⟨by omega, by omega, by rw [h834, h835]; first | exact r_two3 (by omega) (by omega) | exact r_par3 (by omega) (by omega) | exact r_neg3 (by omega) (by omega)⟩⟩
              · refine vc_aload_n dX4_readOne_173 rfl ?_
                refine vc_iconst dX4_readOne_174 rfl ?_
                refine vc_cVI dX4_readOne_175 (sfX4_failedF (M := M) hB0.1  g n p hR 1 ) rfl okX4_failed viX4_failed lkX4_122 (s_22 hB0.1.1) cl_4 rfl (by show 0 < 11 + 3 * (nf + 1); omega) ⟨rfl, rfl⟩ (Nat.le_of_ble_eq_true rfl) (Nat.le_of_ble_eq_true rfl) (Nat.le_of_ble_eq_true rfl) ?_
                rintro x842 M843 ⟨hB844, kp845, kp846, kp847, kp848, kp849, h850, h851, h852, h853, h854, h855, h856⟩
                have hB857 : BF fQ M M843 := BF.go hB0 hB844
                have kp858 : mI M843 24 = mI M 24 := kp_go rfl kp845
                have kp859 : mI M843 25 = mI M 25 := kp_go rfl kp846
                have kp860 : mI M843 26 = mI M 26 := kp_go rfl kp847
                have kp861 : mI M843 27 = mI M 27 := kp_go rfl kp848
                have kp862 : mI M843 28 = mI M 28 := kp_go rfl kp849
                refine vc_zret dX4_readOne_178 rfl (by first | decide | omega) (Nat.le_of_ble_eq_true rfl) (Nat.le_of_ble_eq_true rfl) ?_
                exact ⟨_, rfl, hB857, kp858, kp859, kp860, kp861, kp862, by omega, by omega, by omega, by omega, by omega, Or.inr ⟨by omega, by omega, by rw [h855, h856]; exact r_no (by omega) (by omega) (by omega) (by omega) (by omega)⟩⟩
          · refine vc_iconst dX4_readOne_145 rfl ?_
            refine vc_goto dX4_readOne_146 ?_
            refine vc_istore_n dX4_readOne_150 (Nat.le_of_ble_eq_true rfl) rfl (show _ = [some (aR 22), some (aI d), some (aI 1), none] from rfl) ?_
            refine vc_iload_n dX4_readOne_151 rfl ?_
            refine vc_if_ne dX4_readOne_152 (fun h863 => ?_) (fun h863 => by exfalso; omega)
            refine vc_iload_n dX4_readOne_179 rfl ?_
            refine vc_bipush dX4_readOne_180 rfl ?_
            refine vc_icmp_lt dX4_readOne_182 (fun h864 => ?_) (fun h864 => ?_)
            · refine vc_aload_n dX4_readOne_191 rfl ?_
              refine vc_getI dX4_readOne_192 flX4_119 (s_22 hB0.1.1) rfl ?_
              refine vc_nameI (fun x865 ex865 => ?_)
              refine vc_istore_n dX4_readOne_195 (Nat.le_of_ble_eq_true rfl) rfl (show _ = [some (aR 22), some (aI d), some (aI 1), some (aI x865)] from rfl) ?_
              refine vc_aload_n dX4_readOne_196 rfl ?_
              refine vc_cVI dX4_readOne_197 (sfX4_takeTokenF (M := M) hB0.1  g n p hR (by omega)) rfl okX4_takeToken viX4_takeToken lkX4_65 (s_22 hB0.1.1) cl_4 rfl (by show 0 < 11 + 3 * (nf + 1); omega) ⟨rfl, rfl⟩ (Nat.le_of_ble_eq_true rfl) (Nat.le_of_ble_eq_true rfl) (Nat.le_of_ble_eq_true rfl) ?_
              rintro x866 M867 ⟨hB868, kp869, kp870, kp871, kp872, kp873, h874, h875, h876, h877, h878, h879⟩
              have hB880 : BF fQ M M867 := BF.go hB0 hB868
              have kp881 : mI M867 24 = mI M 24 := kp_go rfl kp869
              have kp882 : mI M867 25 = mI M 25 := kp_go rfl kp870
              have kp883 : mI M867 26 = mI M 26 := kp_go rfl kp871
              have kp884 : mI M867 27 = mI M 27 := kp_go rfl kp872
              have kp885 : mI M867 28 = mI M 28 := kp_go rfl kp873
              refine vc_pop dX4_readOne_200 rfl ?_
              refine vc_iload_n dX4_readOne_201 rfl ?_
              refine vc_if_eq dX4_readOne_202 (fun h886 => by exfalso; omega) (fun h886 => ?_)
              refine vc_aload_n dX4_readOne_205 rfl ?_
              refine vc_bipush dX4_readOne_206 rfl ?_
              refine vc_cVI dX4_readOne_208 (sfX4_readWordF (M := M867) hB880.1  g n (nx g n p) h879 19 (by omega) (by omega)) rfl okX4_readWord viX4_readWord lkX4_151 (s_22 hB880.1.1) cl_4 rfl (by show 1 < 11 + 3 * (nf + 1); omega) ⟨rfl, rfl⟩ (Nat.le_of_ble_eq_true rfl) (Nat.le_of_ble_eq_true rfl) (Nat.le_of_ble_eq_true rfl) ?_
              rintro x887 M888 ⟨hB889, kp890, kp891, kp892, kp893, kp894, h895, h896, h897, h898, h899, h900⟩
              have hB901 : BF fQ M M888 := BF.go hB880 hB889
              have kp902 : mI M888 24 = mI M 24 := kp_go kp881 kp890
              have kp903 : mI M888 25 = mI M 25 := kp_go kp882 kp891
              have kp904 : mI M888 26 = mI M 26 := kp_go kp883 kp892
              have kp905 : mI M888 27 = mI M 27 := kp_go kp884 kp893
              have kp906 : mI M888 28 = mI M 28 := kp_go kp885 kp894
              refine vc_if_eq dX4_readOne_211 (fun h907 => ?_) (fun h907 => ?_)
              · refine vc_iconst dX4_readOne_278 rfl ?_
                refine vc_zret dX4_readOne_279 rfl (by first | decide | omega) (Nat.le_of_ble_eq_true rfl) (Nat.le_of_ble_eq_true rfl) ?_
                have hb908 := TR.bad h900 (by omega)
                exact ⟨_, rfl, hB901, kp902, kp903, kp904, kp905, kp906, by omega, by omega, by omega, by omega, by omega, Or.inr ⟨by omega, by omega, by rw [hb908.2.1, hb908.2.2]; exact r_two1 (by omega) (by omega) (by omega)⟩⟩
              · have e909 := TR.ok h900 (by omega)
                have he910 := e909.1
                have rg911 := RS.rg h879
                have kt912 : ∀ o, Rn (tk g n) (nx g n) w (41 :: sk) false (nx g n (nx g n p)) o → Rn (tk g n) (nx g n) w sk false p o := fun o r => r_two (by omega) (by omega) (by omega) r
                refine vc_aload_n dX4_readOne_214 rfl ?_
                refine vc_iload_n dX4_readOne_215 rfl ?_
                refine vc_iconst dX4_readOne_216 rfl ?_
                refine vc_iaddE dX4_readOne_217 (by omega) (by omega) ?_
                refine vc_cVI dX4_readOne_218 (hs (M := M888) hB901.1  (d + 1) (by omega) (by omega) g n (nx g n (nx g n p)) e909.2 w (41 :: sk) (by first | (rw [List.length_cons]; omega) | omega) rfl (by rw [show mI M888 22 14 = mI M 22 14 by omega]; exact hw) (by omega)) rfl (okX4_readSum (13 + 3 * nf)) (viX4_readSum (13 + 3 * nf)) (lkX4_132 (13 + 3 * nf)) (s_22 hB901.1.1) cl_4 rfl (by show (13 + 3 * nf) < 11 + 3 * (nf + 1); omega) ⟨rfl, rfl⟩ (Nat.le_of_ble_eq_true rfl) (Nat.le_of_ble_eq_true rfl) (Nat.le_of_ble_eq_true rfl) ?_
                rintro x913 M914 ⟨hB915, kp916, kp917, kp918, kp919, kp920, h921, h922, h923, h924, h925, h926⟩
                have hB927 : BF fQ M M914 := BF.go hB901 hB915
                have kp928 : mI M914 24 = mI M 24 := kp_go kp902 kp916
                have kp929 : mI M914 25 = mI M 25 := kp_go kp903 kp917
                have kp930 : mI M914 26 = mI M 26 := kp_go kp904 kp918
                have kp931 : mI M914 27 = mI M 27 := kp_go kp905 kp919
                have kp932 : mI M914 28 = mI M 28 := kp_go kp906 kp920
                refine vc_if_eq dX4_readOne_221 (fun h933 => ?_) (fun h933 => ?_)
                · refine vc_iconst dX4_readOne_278 rfl ?_
                  refine vc_zret dX4_readOne_279 rfl (by first | decide | omega) (Nat.le_of_ble_eq_true rfl) (Nat.le_of_ble_eq_true rfl) ?_
                  exact ⟨_, rfl, hB927, kp928, kp929, kp930, kp931, kp932, by omega, by omega, by omega, by omega, by omega, Or.inr ⟨by omega, (LR.bad h926 (by omega)).1, kt912 _ (LR.bad h926 (by omega)).2⟩⟩
                · obtain ⟨q934, hl935, hR936, hE937, hk938⟩ := LR.ok h926 (by omega)
                  unfold EOp at hE937
                  have kt939 : ∀ o, Rn (tk g n) (nx g n) w (41 :: sk) true q934 o → Rn (tk g n) (nx g n) w sk false p o := fun o r => kt912 o (hk938 o r)
                  refine vc_aload_n dX4_readOne_224 rfl ?_
                  refine vc_bipush dX4_readOne_225 rfl ?_
                  refine vc_cVI dX4_readOne_227 (sfX4_readSignF (M := M914) hB927.1  g n q934 hR936 44 (by omega) (by omega)) rfl okX4_readSign viX4_readSign lkX4_141 (s_22 hB927.1.1) cl_4 rfl (by show 1 < 11 + 3 * (nf + 1); omega) ⟨rfl, rfl⟩ (Nat.le_of_ble_eq_true rfl) (Nat.le_of_ble_eq_true rfl) (Nat.le_of_ble_eq_true rfl) ?_
                  rintro x940 M941 ⟨hB942, kp943, kp944, kp945, kp946, kp947, h948, h949, h950, h951, h952, h953⟩
                  have hB954 : BF fQ M M941 := BF.go hB927 hB942
                  have kp955 : mI M941 24 = mI M 24 := kp_go kp928 kp943
                  have kp956 : mI M941 25 = mI M 25 := kp_go kp929 kp944
                  have kp957 : mI M941 26 = mI M 26 := kp_go kp930 kp945
                  have kp958 : mI M941 27 = mI M 27 := kp_go kp931 kp946
                  have kp959 : mI M941 28 = mI M 28 := kp_go kp932 kp947
                  refine vc_if_eq dX4_readOne_230 (fun h960 => ?_) (fun h960 => ?_)
                  · refine vc_iconst dX4_readOne_278 rfl ?_
                    refine vc_zret dX4_readOne_279 rfl (by first | decide | omega) (Nat.le_of_ble_eq_true rfl) (Nat.le_of_ble_eq_true rfl) ?_
                    have hb961 := TR.bad h953 (by omega)
                    exact ⟨_, rfl, hB954, kp955, kp956, kp957, kp958, kp959, by omega, by omega, by omega, by omega, by omega, Or.inr ⟨by omega, by omega, by rw [hb961.2.1, hb961.2.2]; exact kt939 _ (t_b41 hE937 (by omega))⟩⟩
                  · have e962 := TR.ok h953 (by omega)
                    have he963 := e962.1
                    have rg964 := RS.rg hR936
                    have kt965 : ∀ o, Rn (tk g n) (nx g n) w (42 :: sk) false (nx g n q934) o → Rn (tk g n) (nx g n) w sk false p o := fun o r => kt939 o (t_com (by omega) r)
                    refine vc_aload_n dX4_readOne_233 rfl ?_
                    refine vc_iload_n dX4_readOne_234 rfl ?_
                    refine vc_iconst dX4_readOne_235 rfl ?_
                    refine vc_iaddE dX4_readOne_236 (by omega) (by omega) ?_
                    refine vc_cVI dX4_readOne_237 (hs (M := M941) hB954.1  (d + 1) (by omega) (by omega) g n (nx g n q934) e962.2 w (42 :: sk) (by first | (rw [List.length_cons]; omega) | omega) rfl (by rw [show mI M941 22 14 = mI M 22 14 by omega]; exact hw) (by omega)) rfl (okX4_readSum (13 + 3 * nf)) (viX4_readSum (13 + 3 * nf)) (lkX4_132 (13 + 3 * nf)) (s_22 hB954.1.1) cl_4 rfl (by show (13 + 3 * nf) < 11 + 3 * (nf + 1); omega) ⟨rfl, rfl⟩ (Nat.le_of_ble_eq_true rfl) (Nat.le_of_ble_eq_true rfl) (Nat.le_of_ble_eq_true rfl) ?_
                    rintro x966 M967 ⟨hB968, kp969, kp970, kp971, kp972, kp973, h974, h975, h976, h977, h978, h979⟩
                    have hB980 : BF fQ M M967 := BF.go hB954 hB968
                    have kp981 : mI M967 24 = mI M 24 := kp_go kp955 kp969
                    have kp982 : mI M967 25 = mI M 25 := kp_go kp956 kp970
                    have kp983 : mI M967 26 = mI M 26 := kp_go kp957 kp971
                    have kp984 : mI M967 27 = mI M 27 := kp_go kp958 kp972
                    have kp985 : mI M967 28 = mI M 28 := kp_go kp959 kp973
                    refine vc_if_eq dX4_readOne_240 (fun h986 => ?_) (fun h986 => ?_)
                    · refine vc_iconst dX4_readOne_278 rfl ?_
                      refine vc_zret dX4_readOne_279 rfl (by first | decide | omega) (Nat.le_of_ble_eq_true rfl) (Nat.le_of_ble_eq_true rfl) ?_
                      exact ⟨_, rfl, hB980, kp981, kp982, kp983, kp984, kp985, by omega, by omega, by omega, by omega, by omega, Or.inr ⟨by omega, (LR.bad h979 (by omega)).1, kt965 _ (LR.bad h979 (by omega)).2⟩⟩
                    · obtain ⟨q987, hl988, hR989, hE990, hk991⟩ := LR.ok h979 (by omega)
                      unfold EOp at hE990
                      have kt992 : ∀ o, Rn (tk g n) (nx g n) w (42 :: sk) true q987 o → Rn (tk g n) (nx g n) w sk false p o := fun o r => kt965 o (hk991 o r)
                      refine vc_aload_n dX4_readOne_243 rfl ?_
                      refine vc_bipush dX4_readOne_244 rfl ?_
                      refine vc_cVI dX4_readOne_246 (sfX4_readWordF (M := M967) hB980.1  g n q987 hR989 20 (by omega) (by omega)) rfl okX4_readWord viX4_readWord lkX4_151 (s_22 hB980.1.1) cl_4 rfl (by show 1 < 11 + 3 * (nf + 1); omega) ⟨rfl, rfl⟩ (Nat.le_of_ble_eq_true rfl) (Nat.le_of_ble_eq_true rfl) (Nat.le_of_ble_eq_true rfl) ?_
                      rintro x993 M994 ⟨hB995, kp996, kp997, kp998, kp999, kp1000, h1001, h1002, h1003, h1004, h1005, h1006⟩
                      have hB1007 : BF fQ M M994 := BF.go hB980 hB995
                      have kp1008 : mI M994 24 = mI M 24 := kp_go kp981 kp996
                      have kp1009 : mI M994 25 = mI M 25 := kp_go kp982 kp997
                      have kp1010 : mI M994 26 = mI M 26 := kp_go kp983 kp998
                      have kp1011 : mI M994 27 = mI M 27 := kp_go kp984 kp999
                      have kp1012 : mI M994 28 = mI M 28 := kp_go kp985 kp1000
                      refine vc_if_eq dX4_readOne_249 (fun h1013 => ?_) (fun h1013 => ?_)
                      · refine vc_iconst dX4_readOne_278 rfl ?_
                        refine vc_zret dX4_readOne_279 rfl (by first | decide | omega) (Nat.le_of_ble_eq_true rfl) (Nat.le_of_ble_eq_true rfl) ?_
                        have hb1014 := TR.bad h1006 (by omega)
                        exact ⟨_, rfl, hB1007, kp1008, kp1009, kp1010, kp1011, kp1012, by omega, by omega, by omega, by omega, by omega, Or.inr ⟨by omega, by omega, by rw [hb1014.2.1, hb1014.2.2]; exact kt992 _ (t_b42 hE990 (by omega))⟩⟩
                      · have e1015 := TR.ok h1006 (by omega)
                        have he1016 := e1015.1
                        have rg1017 := RS.rg hR989
                        have kt1018 : ∀ o, Rn (tk g n) (nx g n) w (dm sk) true (nx g n q987) o → Rn (tk g n) (nx g n) w sk false p o := fun o r => kt992 o (t_end (by omega) r)
                        refine vc_aload_n dX4_readOne_252 rfl ?_
                        refine vc_iload_n dX4_readOne_253 rfl ?_
                        refine vc_bipush dX4_readOne_254 rfl ?_
                        refine vc_icmp_ne dX4_readOne_256 (fun h1019 => ?_) (fun h1019 => by exfalso; omega)
                        refine vc_sipush dX4_readOne_265 rfl ?_
                        refine vc_cVI dX4_readOne_268 (sfX4_emitF (M := M994) hB1007.1  g n (nx g n q987) e1015.2 20005 ) rfl okX4_emit viX4_emit lkX4_176 (s_22 hB1007.1.1) cl_4 rfl (by show 0 < 11 + 3 * (nf + 1); omega) ⟨rfl, rfl⟩ (Nat.le_of_ble_eq_true rfl) (Nat.le_of_ble_eq_true rfl) (Nat.le_of_ble_eq_true rfl) ?_
                        rintro x1020 M1021 ⟨hB1022, kp1023, kp1024, kp1025, kp1026, kp1027, h1028, h1029, h1030, h1031, h1032, h1033⟩
                        have hB1034 : BF fQ M M1021 := BF.go hB1007 hB1022
                        have kp1035 : mI M1021 24 = mI M 24 := kp_go kp1008 kp1023
                        have kp1036 : mI M1021 25 = mI M 25 := kp_go kp1009 kp1024
                        have kp1037 : mI M1021 26 = mI M 26 := kp_go kp1010 kp1025
                        have kp1038 : mI M1021 27 = mI M 27 := kp_go kp1011 kp1026
                        have kp1039 : mI M1021 28 = mI M 28 := kp_go kp1012 kp1027
                        refine vc_if_eq dX4_readOne_271 (fun h1040 => by exfalso; omega) (fun h1040 => ?_)
                        refine vc_iconst dX4_readOne_274 rfl ?_
                        refine vc_goto dX4_readOne_275 ?_
                        refine vc_zret dX4_readOne_279 rfl (by first | decide | omega) (Nat.le_of_ble_eq_true rfl) (Nat.le_of_ble_eq_true rfl) ?_
                        exact ⟨_, rfl, hB1034, kp1035, kp1036, kp1037, kp1038, kp1039, by omega, by omega, by omega, by omega, by omega, Or.inl ⟨by omega, nx g n q987, by omega, h1033, trivial, kt1018⟩⟩
            · refine vc_aload_n dX4_readOne_185 rfl ?_
              refine vc_iconst dX4_readOne_186 rfl ?_
              refine vc_cVI dX4_readOne_187 (sfX4_failedF (M := M) hB0.1  g n p hR 3 ) rfl okX4_failed viX4_failed lkX4_122 (s_22 hB0.1.1) cl_4 rfl (by show 0 < 11 + 3 * (nf + 1); omega) ⟨rfl, rfl⟩ (Nat.le_of_ble_eq_true rfl) (Nat.le_of_ble_eq_true rfl) (Nat.le_of_ble_eq_true rfl) ?_
              rintro x1041 M1042 ⟨hB1043, kp1044, kp1045, kp1046, kp1047, kp1048, h1049, h1050, h1051, h1052, h1053, h1054, h1055⟩
              have hB1056 : BF fQ M M1042 := BF.go hB0 hB1043
              have kp1057 : mI M1042 24 = mI M 24 := kp_go rfl kp1044
              have kp1058 : mI M1042 25 = mI M 25 := kp_go rfl kp1045
              have kp1059 : mI M1042 26 = mI M 26 := kp_go rfl kp1046
              have kp1060 : mI M1042 27 = mI M 27 := kp_go rfl kp1047
              have kp1061 : mI M1042 28 = mI M 28 := kp_go rfl kp1048
              refine vc_zret dX4_readOne_190 rfl (by first | decide | omega) (Nat.le_of_ble_eq_true rfl) (Nat.le_of_ble_eq_true rfl) ?_
              exact ⟨_, rfl, hB1056, kp1057, kp1058, kp1059, kp1060, kp1061, by omega, by omega, by omega, by omega, by omega, Or.inr ⟨by omega, by omega, by rw [h1054, h1055]; first | exact r_two3 (by omega) (by omega) | exact r_par3 (by omega) (by omega) | exact r_neg3 (by omega) (by omega)⟩⟩
    · refine vc_aload_n dX4_readOne_58 rfl ?_
      refine vc_getI dX4_readOne_59 flX4_119 (s_22 hB0.1.1) rfl ?_
      refine vc_bipush dX4_readOne_62 rfl ?_
      refine vc_icmp_lt dX4_readOne_64 (fun h1062 => ?_) (fun h1062 => ?_)
      · refine vc_aload_n dX4_readOne_119 rfl ?_
        refine vc_getI dX4_readOne_120 flX4_69 (s_22 hB0.1.1) rfl ?_
        refine vc_iconst dX4_readOne_123 rfl ?_
        refine vc_icmp_ne dX4_readOne_124 (fun h1063 => by exfalso; omega) (fun h1063 => ?_)
        refine vc_aload_n dX4_readOne_127 rfl ?_
        refine vc_getI dX4_readOne_128 flX4_119 (s_22 hB0.1.1) rfl ?_
        refine vc_bipush dX4_readOne_131 rfl ?_
        refine vc_icmp_eq dX4_readOne_133 (fun h1064 => ?_) (fun h1064 => ?_)
        · refine vc_iconst dX4_readOne_145 rfl ?_
          refine vc_goto dX4_readOne_146 ?_
          refine vc_istore_n dX4_readOne_150 (Nat.le_of_ble_eq_true rfl) rfl (show _ = [some (aR 22), some (aI d), some (aI 1), none] from rfl) ?_
          refine vc_iload_n dX4_readOne_151 rfl ?_
          refine vc_if_ne dX4_readOne_152 (fun h1065 => ?_) (fun h1065 => by exfalso; omega)
          refine vc_iload_n dX4_readOne_179 rfl ?_
          refine vc_bipush dX4_readOne_180 rfl ?_
          refine vc_icmp_lt dX4_readOne_182 (fun h1066 => ?_) (fun h1066 => ?_)
          · refine vc_aload_n dX4_readOne_191 rfl ?_
            refine vc_getI dX4_readOne_192 flX4_119 (s_22 hB0.1.1) rfl ?_
            refine vc_nameI (fun x1067 ex1067 => ?_)
            refine vc_istore_n dX4_readOne_195 (Nat.le_of_ble_eq_true rfl) rfl (show _ = [some (aR 22), some (aI d), some (aI 1), some (aI x1067)] from rfl) ?_
            refine vc_aload_n dX4_readOne_196 rfl ?_
            refine vc_cVI dX4_readOne_197 (sfX4_takeTokenF (M := M) hB0.1  g n p hR (by omega)) rfl okX4_takeToken viX4_takeToken lkX4_65 (s_22 hB0.1.1) cl_4 rfl (by show 0 < 11 + 3 * (nf + 1); omega) ⟨rfl, rfl⟩ (Nat.le_of_ble_eq_true rfl) (Nat.le_of_ble_eq_true rfl) (Nat.le_of_ble_eq_true rfl) ?_
            rintro x1068 M1069 ⟨hB1070, kp1071, kp1072, kp1073, kp1074, kp1075, h1076, h1077, h1078, h1079, h1080, h1081⟩
            have hB1082 : BF fQ M M1069 := BF.go hB0 hB1070
            have kp1083 : mI M1069 24 = mI M 24 := kp_go rfl kp1071
            have kp1084 : mI M1069 25 = mI M 25 := kp_go rfl kp1072
            have kp1085 : mI M1069 26 = mI M 26 := kp_go rfl kp1073
            have kp1086 : mI M1069 27 = mI M 27 := kp_go rfl kp1074
            have kp1087 : mI M1069 28 = mI M 28 := kp_go rfl kp1075
            refine vc_pop dX4_readOne_200 rfl ?_
            refine vc_iload_n dX4_readOne_201 rfl ?_
            refine vc_if_eq dX4_readOne_202 (fun h1088 => by exfalso; omega) (fun h1088 => ?_)
            refine vc_aload_n dX4_readOne_205 rfl ?_
            refine vc_bipush dX4_readOne_206 rfl ?_
            refine vc_cVI dX4_readOne_208 (sfX4_readWordF (M := M1069) hB1082.1  g n (nx g n p) h1081 19 (by omega) (by omega)) rfl okX4_readWord viX4_readWord lkX4_151 (s_22 hB1082.1.1) cl_4 rfl (by show 1 < 11 + 3 * (nf + 1); omega) ⟨rfl, rfl⟩ (Nat.le_of_ble_eq_true rfl) (Nat.le_of_ble_eq_true rfl) (Nat.le_of_ble_eq_true rfl) ?_
            rintro x1089 M1090 ⟨hB1091, kp1092, kp1093, kp1094, kp1095, kp1096, h1097, h1098, h1099, h1100, h1101, h1102⟩
            have hB1103 : BF fQ M M1090 := BF.go hB1082 hB1091
            have kp1104 : mI M1090 24 = mI M 24 := kp_go kp1083 kp1092
            have kp1105 : mI M1090 25 = mI M 25 := kp_go kp1084 kp1093
            have kp1106 : mI M1090 26 = mI M 26 := kp_go kp1085 kp1094
            have kp1107 : mI M1090 27 = mI M 27 := kp_go kp1086 kp1095
            have kp1108 : mI M1090 28 = mI M 28 := kp_go kp1087 kp1096
            refine vc_if_eq dX4_readOne_211 (fun h1109 => ?_) (fun h1109 => ?_)
            · refine vc_iconst dX4_readOne_278 rfl ?_
              refine vc_zret dX4_readOne_279 rfl (by first | decide | omega) (Nat.le_of_ble_eq_true rfl) (Nat.le_of_ble_eq_true rfl) ?_
              have hb1110 := TR.bad h1102 (by omega)
              exact ⟨_, rfl, hB1103, kp1104, kp1105, kp1106, kp1107, kp1108, by omega, by omega, by omega, by omega, by omega, Or.inr ⟨by omega, by omega, by rw [hb1110.2.1, hb1110.2.2]; exact r_two1 (by omega) (by omega) (by omega)⟩⟩
            · have e1111 := TR.ok h1102 (by omega)
              have he1112 := e1111.1
              have rg1113 := RS.rg h1081
              have kt1114 : ∀ o, Rn (tk g n) (nx g n) w (41 :: sk) false (nx g n (nx g n p)) o → Rn (tk g n) (nx g n) w sk false p o := fun o r => r_two (by omega) (by omega) (by omega) r
              refine vc_aload_n dX4_readOne_214 rfl ?_
              refine vc_iload_n dX4_readOne_215 rfl ?_
              refine vc_iconst dX4_readOne_216 rfl ?_
              refine vc_iaddE dX4_readOne_217 (by omega) (by omega) ?_
              refine vc_cVI dX4_readOne_218 (hs (M := M1090) hB1103.1  (d + 1) (by omega) (by omega) g n (nx g n (nx g n p)) e1111.2 w (41 :: sk) (by first | (rw [List.length_cons]; omega) | omega) rfl (by rw [show mI M1090 22 14 = mI M 22 14 by omega]; exact hw) (by omega)) rfl (okX4_readSum (13 + 3 * nf)) (viX4_readSum (13 + 3 * nf)) (lkX4_132 (13 + 3 * nf)) (s_22 hB1103.1.1) cl_4 rfl (by show (13 + 3 * nf) < 11 + 3 * (nf + 1); omega) ⟨rfl, rfl⟩ (Nat.le_of_ble_eq_true rfl) (Nat.le_of_ble_eq_true rfl) (Nat.le_of_ble_eq_true rfl) ?_
              rintro x1115 M1116 ⟨hB1117, kp1118, kp1119, kp1120, kp1121, kp1122, h1123, h1124, h1125, h1126, h1127, h1128⟩
              have hB1129 : BF fQ M M1116 := BF.go hB1103 hB1117
              have kp1130 : mI M1116 24 = mI M 24 := kp_go kp1104 kp1118
              have kp1131 : mI M1116 25 = mI M 25 := kp_go kp1105 kp1119
              have kp1132 : mI M1116 26 = mI M 26 := kp_go kp1106 kp1120
              have kp1133 : mI M1116 27 = mI M 27 := kp_go kp1107 kp1121
              have kp1134 : mI M1116 28 = mI M 28 := kp_go kp1108 kp1122
              refine vc_if_eq dX4_readOne_221 (fun h1135 => ?_) (fun h1135 => ?_)
              · refine vc_iconst dX4_readOne_278 rfl ?_
                refine vc_zret dX4_readOne_279 rfl (by first | decide | omega) (Nat.le_of_ble_eq_true rfl) (Nat.le_of_ble_eq_true rfl) ?_
                exact ⟨_, rfl, hB1129, kp1130, kp1131, kp1132, kp1133, kp1134, by omega, by omega, by omega, by omega, by omega, Or.inr ⟨by omega, (LR.bad h1128 (by omega)).1, kt1114 _ (LR.bad h1128 (by omega)).2⟩⟩
              · obtain ⟨q1136, hl1137, hR1138, hE1139, hk1140⟩ := LR.ok h1128 (by omega)
                unfold EOp at hE1139
                have kt1141 : ∀ o, Rn (tk g n) (nx g n) w (41 :: sk) true q1136 o → Rn (tk g n) (nx g n) w sk false p o := fun o r => kt1114 o (hk1140 o r)
                refine vc_aload_n dX4_readOne_224 rfl ?_
                refine vc_bipush dX4_readOne_225 rfl ?_
                refine vc_cVI dX4_readOne_227 (sfX4_readSignF (M := M1116) hB1129.1  g n q1136 hR1138 44 (by omega) (by omega)) rfl okX4_readSign viX4_readSign lkX4_141 (s_22 hB1129.1.1) cl_4 rfl (by show 1 < 11 + 3 * (nf + 1); omega) ⟨rfl, rfl⟩ (Nat.le_of_ble_eq_true rfl) (Nat.le_of_ble_eq_true rfl) (Nat.le_of_ble_eq_true rfl) ?_
                rintro x1142 M1143 ⟨hB1144, kp1145, kp1146, kp1147, kp1148, kp1149, h1150, h1151, h1152, h1153, h1154, h1155⟩
                have hB1156 : BF fQ M M1143 := BF.go hB1129 hB1144
                have kp1157 : mI M1143 24 = mI M 24 := kp_go kp1130 kp1145
                have kp1158 : mI M1143 25 = mI M 25 := kp_go kp1131 kp1146
                have kp1159 : mI M1143 26 = mI M 26 := kp_go kp1132 kp1147
                have kp1160 : mI M1143 27 = mI M 27 := kp_go kp1133 kp1148
                have kp1161 : mI M1143 28 = mI M 28 := kp_go kp1134 kp1149
                refine vc_if_eq dX4_readOne_230 (fun h1162 => ?_) (fun h1162 => ?_)
                · refine vc_iconst dX4_readOne_278 rfl ?_
                  refine vc_zret dX4_readOne_279 rfl (by first | decide | omega) (Nat.le_of_ble_eq_true rfl) (Nat.le_of_ble_eq_true rfl) ?_
                  have hb1163 := TR.bad h1155 (by omega)
                  exact ⟨_, rfl, hB1156, kp1157, kp1158, kp1159, kp1160, kp1161, by omega, by omega, by omega, by omega, by omega, Or.inr ⟨by omega, by omega, by rw [hb1163.2.1, hb1163.2.2]; exact kt1141 _ (t_b41 hE1139 (by omega))⟩⟩
                · have e1164 := TR.ok h1155 (by omega)
                  have he1165 := e1164.1
                  have rg1166 := RS.rg hR1138
                  have kt1167 : ∀ o, Rn (tk g n) (nx g n) w (42 :: sk) false (nx g n q1136) o → Rn (tk g n) (nx g n) w sk false p o := fun o r => kt1141 o (t_com (by omega) r)
                  refine vc_aload_n dX4_readOne_233 rfl ?_
                  refine vc_iload_n dX4_readOne_234 rfl ?_
                  refine vc_iconst dX4_readOne_235 rfl ?_
                  refine vc_iaddE dX4_readOne_236 (by omega) (by omega) ?_
                  refine vc_cVI dX4_readOne_237 (hs (M := M1143) hB1156.1  (d + 1) (by omega) (by omega) g n (nx g n q1136) e1164.2 w (42 :: sk) (by first | (rw [List.length_cons]; omega) | omega) rfl (by rw [show mI M1143 22 14 = mI M 22 14 by omega]; exact hw) (by omega)) rfl (okX4_readSum (13 + 3 * nf)) (viX4_readSum (13 + 3 * nf)) (lkX4_132 (13 + 3 * nf)) (s_22 hB1156.1.1) cl_4 rfl (by show (13 + 3 * nf) < 11 + 3 * (nf + 1); omega) ⟨rfl, rfl⟩ (Nat.le_of_ble_eq_true rfl) (Nat.le_of_ble_eq_true rfl) (Nat.le_of_ble_eq_true rfl) ?_
                  rintro x1168 M1169 ⟨hB1170, kp1171, kp1172, kp1173, kp1174, kp1175, h1176, h1177, h1178, h1179, h1180, h1181⟩
                  have hB1182 : BF fQ M M1169 := BF.go hB1156 hB1170
                  have kp1183 : mI M1169 24 = mI M 24 := kp_go kp1157 kp1171
                  have kp1184 : mI M1169 25 = mI M 25 := kp_go kp1158 kp1172
                  have kp1185 : mI M1169 26 = mI M 26 := kp_go kp1159 kp1173
                  have kp1186 : mI M1169 27 = mI M 27 := kp_go kp1160 kp1174
                  have kp1187 : mI M1169 28 = mI M 28 := kp_go kp1161 kp1175
                  refine vc_if_eq dX4_readOne_240 (fun h1188 => ?_) (fun h1188 => ?_)
                  · refine vc_iconst dX4_readOne_278 rfl ?_
                    refine vc_zret dX4_readOne_279 rfl (by first | decide | omega) (Nat.le_of_ble_eq_true rfl) (Nat.le_of_ble_eq_true rfl) ?_
                    exact ⟨_, rfl, hB1182, kp1183, kp1184, kp1185, kp1186, kp1187, by omega, by omega, by omega, by omega, by omega, Or.inr ⟨by omega, (LR.bad h1181 (by omega)).1, kt1167 _ (LR.bad h1181 (by omega)).2⟩⟩
                  · obtain ⟨q1189, hl1190, hR1191, hE1192, hk1193⟩ := LR.ok h1181 (by omega)
                    unfold EOp at hE1192
                    have kt1194 : ∀ o, Rn (tk g n) (nx g n) w (42 :: sk) true q1189 o → Rn (tk g n) (nx g n) w sk false p o := fun o r => kt1167 o (hk1193 o r)
                    refine vc_aload_n dX4_readOne_243 rfl ?_
                    refine vc_bipush dX4_readOne_244 rfl ?_
                    refine vc_cVI dX4_readOne_246 (sfX4_readWordF (M := M1169) hB1182.1  g n q1189 hR1191 20 (by omega) (by omega)) rfl okX4_readWord viX4_readWord lkX4_151 (s_22 hB1182.1.1) cl_4 rfl (by show 1 < 11 + 3 * (nf + 1); omega) ⟨rfl, rfl⟩ (Nat.le_of_ble_eq_true rfl) (Nat.le_of_ble_eq_true rfl) (Nat.le_of_ble_eq_true rfl) ?_
                    rintro x1195 M1196 ⟨hB1197, kp1198, kp1199, kp1200, kp1201, kp1202, h1203, h1204, h1205, h1206, h1207, h1208⟩
                    have hB1209 : BF fQ M M1196 := BF.go hB1182 hB1197
                    have kp1210 : mI M1196 24 = mI M 24 := kp_go kp1183 kp1198
                    have kp1211 : mI M1196 25 = mI M 25 := kp_go kp1184 kp1199
                    have kp1212 : mI M1196 26 = mI M 26 := kp_go kp1185 kp1200
                    have kp1213 : mI M1196 27 = mI M 27 := kp_go kp1186 kp1201
                    have kp1214 : mI M1196 28 = mI M 28 := kp_go kp1187 kp1202
                    refine vc_if_eq dX4_readOne_249 (fun h1215 => ?_) (fun h1215 => ?_)
                    · refine vc_iconst dX4_readOne_278 rfl ?_
                      refine vc_zret dX4_readOne_279 rfl (by first | decide | omega) (Nat.le_of_ble_eq_true rfl) (Nat.le_of_ble_eq_true rfl) ?_
                      have hb1216 := TR.bad h1208 (by omega)
                      exact ⟨_, rfl, hB1209, kp1210, kp1211, kp1212, kp1213, kp1214, by omega, by omega, by omega, by omega, by omega, Or.inr ⟨by omega, by omega, by rw [hb1216.2.1, hb1216.2.2]; exact kt1194 _ (t_b42 hE1192 (by omega))⟩⟩
                    · have e1217 := TR.ok h1208 (by omega)
                      have he1218 := e1217.1
                      have rg1219 := RS.rg hR1191
                      have kt1220 : ∀ o, Rn (tk g n) (nx g n) w (dm sk) true (nx g n q1189) o → Rn (tk g n) (nx g n) w sk false p o := fun o r => kt1194 o (t_end (by omega) r)
                      refine vc_aload_n dX4_readOne_252 rfl ?_
                      refine vc_iload_n dX4_readOne_253 rfl ?_
                      refine vc_bipush dX4_readOne_254 rfl ?_
                      refine vc_icmp_ne dX4_readOne_256 (fun h1221 => by exfalso; omega) (fun h1221 => ?_)
                      refine vc_sipush dX4_readOne_259 rfl ?_
                      refine vc_goto dX4_readOne_262 ?_
                      refine vc_cVI dX4_readOne_268 (sfX4_emitF (M := M1196) hB1209.1  g n (nx g n q1189) e1217.2 20004 ) rfl okX4_emit viX4_emit lkX4_176 (s_22 hB1209.1.1) cl_4 rfl (by show 0 < 11 + 3 * (nf + 1); omega) ⟨rfl, rfl⟩ (Nat.le_of_ble_eq_true rfl) (Nat.le_of_ble_eq_true rfl) (Nat.le_of_ble_eq_true rfl) ?_
                      rintro x1222 M1223 ⟨hB1224, kp1225, kp1226, kp1227, kp1228, kp1229, h1230, h1231, h1232, h1233, h1234, h1235⟩
                      have hB1236 : BF fQ M M1223 := BF.go hB1209 hB1224
                      have kp1237 : mI M1223 24 = mI M 24 := kp_go kp1210 kp1225
                      have kp1238 : mI M1223 25 = mI M 25 := kp_go kp1211 kp1226
                      have kp1239 : mI M1223 26 = mI M 26 := kp_go kp1212 kp1227
                      have kp1240 : mI M1223 27 = mI M 27 := kp_go kp1213 kp1228
                      have kp1241 : mI M1223 28 = mI M 28 := kp_go kp1214 kp1229
                      refine vc_if_eq dX4_readOne_271 (fun h1242 => by exfalso; omega) (fun h1242 => ?_)
                      refine vc_iconst dX4_readOne_274 rfl ?_
                      refine vc_goto dX4_readOne_275 ?_
                      refine vc_zret dX4_readOne_279 rfl (by first | decide | omega) (Nat.le_of_ble_eq_true rfl) (Nat.le_of_ble_eq_true rfl) ?_
                      exact ⟨_, rfl, hB1236, kp1237, kp1238, kp1239, kp1240, kp1241, by omega, by omega, by omega, by omega, by omega, Or.inl ⟨by omega, nx g n q1189, by omega, h1235, trivial, kt1220⟩⟩
          · refine vc_aload_n dX4_readOne_185 rfl ?_
            refine vc_iconst dX4_readOne_186 rfl ?_
            refine vc_cVI dX4_readOne_187 (sfX4_failedF (M := M) hB0.1  g n p hR 3 ) rfl okX4_failed viX4_failed lkX4_122 (s_22 hB0.1.1) cl_4 rfl (by show 0 < 11 + 3 * (nf + 1); omega) ⟨rfl, rfl⟩ (Nat.le_of_ble_eq_true rfl) (Nat.le_of_ble_eq_true rfl) (Nat.le_of_ble_eq_true rfl) ?_
            rintro x1243 M1244 ⟨hB1245, kp1246, kp1247, kp1248, kp1249, kp1250, h1251, h1252, h1253, h1254, h1255, h1256, h1257⟩
            have hB1258 : BF fQ M M1244 := BF.go hB0 hB1245
            have kp1259 : mI M1244 24 = mI M 24 := kp_go rfl kp1246
            have kp1260 : mI M1244 25 = mI M 25 := kp_go rfl kp1247
            have kp1261 : mI M1244 26 = mI M 26 := kp_go rfl kp1248
            have kp1262 : mI M1244 27 = mI M 27 := kp_go rfl kp1249
            have kp1263 : mI M1244 28 = mI M 28 := kp_go rfl kp1250
            refine vc_zret dX4_readOne_190 rfl (by first | decide | omega) (Nat.le_of_ble_eq_true rfl) (Nat.le_of_ble_eq_true rfl) ?_
            exact ⟨_, rfl, hB1258, kp1259, kp1260, kp1261, kp1262, kp1263, by omega, by omega, by omega, by omega, by omega, Or.inr ⟨by omega, by omega, by rw [h1256, h1257]; first | exact r_two3 (by omega) (by omega) | exact r_par3 (by omega) (by omega) | exact r_neg3 (by omega) (by omega)⟩⟩
        · refine vc_aload_n dX4_readOne_136 rfl ?_
          refine vc_getI dX4_readOne_137 flX4_119 (s_22 hB0.1.1) rfl ?_
          refine vc_bipush dX4_readOne_140 rfl ?_
          refine vc_icmp_ne dX4_readOne_142 (fun h1264 => ?_) (fun h1264 => ?_)
          · refine vc_iconst dX4_readOne_149 rfl ?_
            refine vc_istore_n dX4_readOne_150 (Nat.le_of_ble_eq_true rfl) rfl (show _ = [some (aR 22), some (aI d), some (aI 0), none] from rfl) ?_
            refine vc_iload_n dX4_readOne_151 rfl ?_
            refine vc_if_ne dX4_readOne_152 (fun h1265 => by exfalso; omega) (fun h1265 => ?_)
            refine vc_aload_n dX4_readOne_155 rfl ?_
            refine vc_bipush dX4_readOne_156 rfl ?_
            refine vc_cVI dX4_readOne_158 (sfX4_isSignF (M := M) hB0.1  40 ) rfl okX4_isSign viX4_isSign lkX4_163 (s_22 hB0.1.1) cl_4 rfl (by show 0 < 11 + 3 * (nf + 1); omega) ⟨rfl, rfl⟩ (Nat.le_of_ble_eq_true rfl) (Nat.le_of_ble_eq_true rfl) (Nat.le_of_ble_eq_true rfl) ?_
            rintro x1266 _ ⟨rfl, h1267, h1268, h1269⟩
            refine vc_if_ne dX4_readOne_161 (fun h1270 => ?_) (fun h1270 => ?_)
            · refine vc_iload_n dX4_readOne_179 rfl ?_
              refine vc_bipush dX4_readOne_180 rfl ?_
              refine vc_icmp_lt dX4_readOne_182 (fun h1271 => ?_) (fun h1271 => ?_)
              · refine vc_aload_n dX4_readOne_191 rfl ?_
                refine vc_getI dX4_readOne_192 flX4_119 (s_22 hB0.1.1) rfl ?_
                refine vc_nameI (fun x1272 ex1272 => ?_)
                refine vc_istore_n dX4_readOne_195 (Nat.le_of_ble_eq_true rfl) rfl (show _ = [some (aR 22), some (aI d), some (aI 0), some (aI x1272)] from rfl) ?_
                refine vc_aload_n dX4_readOne_196 rfl ?_
                refine vc_cVI dX4_readOne_197 (sfX4_takeTokenF (M := M) hB0.1  g n p hR (by omega)) rfl okX4_takeToken viX4_takeToken lkX4_65 (s_22 hB0.1.1) cl_4 rfl (by show 0 < 11 + 3 * (nf + 1); omega) ⟨rfl, rfl⟩ (Nat.le_of_ble_eq_true rfl) (Nat.le_of_ble_eq_true rfl) (Nat.le_of_ble_eq_true rfl) ?_
                rintro x1273 M1274 ⟨hB1275, kp1276, kp1277, kp1278, kp1279, kp1280, h1281, h1282, h1283, h1284, h1285, h1286⟩
                have hB1287 : BF fQ M M1274 := BF.go hB0 hB1275
                have kp1288 : mI M1274 24 = mI M 24 := kp_go rfl kp1276
                have kp1289 : mI M1274 25 = mI M 25 := kp_go rfl kp1277
                have kp1290 : mI M1274 26 = mI M 26 := kp_go rfl kp1278
                have kp1291 : mI M1274 27 = mI M 27 := kp_go rfl kp1279
                have kp1292 : mI M1274 28 = mI M 28 := kp_go rfl kp1280
                refine vc_pop dX4_readOne_200 rfl ?_
                refine vc_iload_n dX4_readOne_201 rfl ?_
                refine vc_if_eq dX4_readOne_202 (fun h1293 => ?_) (fun h1293 => by exfalso; omega)
                refine vc_iload_n dX4_readOne_280 rfl ?_
                refine vc_bipush dX4_readOne_281 rfl ?_
                refine vc_icmp_ne dX4_readOne_283 (fun h1294 => ?_) (fun h1294 => by exfalso; omega)
                have kt1295 : ∀ o, Rn (tk g n) (nx g n) w (2 :: sk) false (nx g n p) o → Rn (tk g n) (nx g n) w sk false p o := fun o r => r_neg (by omega) (by omega) r
                refine vc_aload_n dX4_readOne_311 rfl ?_
                refine vc_iload_n dX4_readOne_312 rfl ?_
                refine vc_iconst dX4_readOne_313 rfl ?_
                refine vc_iaddE dX4_readOne_314 (by omega) (by omega) ?_
                refine vc_cVI dX4_readOne_315 (ho (M := M1274) hB1287.1  (d + 1) (by omega) (by omega) g n (nx g n p) h1286 w (2 :: sk) (by first | (rw [List.length_cons]; omega) | omega) (by rw [show mI M1274 22 14 = mI M 22 14 by omega]; exact hw) (by omega)) rfl (okX4_readOne (11 + 3 * nf)) (viX4_readOne (11 + 3 * nf)) (lkX4_179 (11 + 3 * nf)) (s_22 hB1287.1.1) cl_4 rfl (by show (11 + 3 * nf) < 11 + 3 * (nf + 1); omega) ⟨rfl, rfl⟩ (Nat.le_of_ble_eq_true rfl) (Nat.le_of_ble_eq_true rfl) (Nat.le_of_ble_eq_true rfl) ?_
                rintro x1296 M1297 ⟨hB1298, kp1299, kp1300, kp1301, kp1302, kp1303, h1304, h1305, h1306, h1307, h1308, h1309⟩
                have hB1310 : BF fQ M M1297 := BF.go hB1287 hB1298
                have kp1311 : mI M1297 24 = mI M 24 := kp_go kp1288 kp1299
                have kp1312 : mI M1297 25 = mI M 25 := kp_go kp1289 kp1300
                have kp1313 : mI M1297 26 = mI M 26 := kp_go kp1290 kp1301
                have kp1314 : mI M1297 27 = mI M 27 := kp_go kp1291 kp1302
                have kp1315 : mI M1297 28 = mI M 28 := kp_go kp1292 kp1303
                refine vc_if_eq dX4_readOne_318 (fun h1316 => ?_) (fun h1316 => ?_)
                · refine vc_iconst dX4_readOne_335 rfl ?_
                  refine vc_zret dX4_readOne_336 rfl (by first | decide | omega) (Nat.le_of_ble_eq_true rfl) (Nat.le_of_ble_eq_true rfl) ?_
                  exact ⟨_, rfl, hB1310, kp1311, kp1312, kp1313, kp1314, kp1315, by omega, by omega, by omega, by omega, by omega, Or.inr ⟨by omega, (LR.bad h1309 (by omega)).1, kt1295 _ (LR.bad h1309 (by omega)).2⟩⟩
                · obtain ⟨q1317, hl1318, hR1319, hE1320, hk1321⟩ := LR.ok h1309 (by omega)
                  have kt1322 : ∀ o, Rn (tk g n) (nx g n) w (dm sk) true q1317 o → Rn (tk g n) (nx g n) w sk false p o := fun o r => kt1295 o (hk1321 o r)
                  refine vc_aload_n dX4_readOne_321 rfl ?_
                  refine vc_sipush dX4_readOne_322 rfl ?_
                  refine vc_cVI dX4_readOne_325 (sfX4_emitF (M := M1297) hB1310.1  g n q1317 hR1319 20006 ) rfl okX4_emit viX4_emit lkX4_176 (s_22 hB1310.1.1) cl_4 rfl (by show 0 < 11 + 3 * (nf + 1); omega) ⟨rfl, rfl⟩ (Nat.le_of_ble_eq_true rfl) (Nat.le_of_ble_eq_true rfl) (Nat.le_of_ble_eq_true rfl) ?_
                  rintro x1323 M1324 ⟨hB1325, kp1326, kp1327, kp1328, kp1329, kp1330, h1331, h1332, h1333, h1334, h1335, h1336⟩
                  have hB1337 : BF fQ M M1324 := BF.go hB1310 hB1325
                  have kp1338 : mI M1324 24 = mI M 24 := kp_go kp1311 kp1326
                  have kp1339 : mI M1324 25 = mI M 25 := kp_go kp1312 kp1327
                  have kp1340 : mI M1324 26 = mI M 26 := kp_go kp1313 kp1328
                  have kp1341 : mI M1324 27 = mI M 27 := kp_go kp1314 kp1329
                  have kp1342 : mI M1324 28 = mI M 28 := kp_go kp1315 kp1330
                  refine vc_if_eq dX4_readOne_328 (fun h1343 => by exfalso; omega) (fun h1343 => ?_)
                  refine vc_iconst dX4_readOne_331 rfl ?_
                  refine vc_goto dX4_readOne_332 ?_
                  refine vc_zret dX4_readOne_336 rfl (by first | decide | omega) (Nat.le_of_ble_eq_true rfl) (Nat.le_of_ble_eq_true rfl) ?_
                  exact ⟨_, rfl, hB1337, kp1338, kp1339, kp1340, kp1341, kp1342, by omega, by omega, by omega, by omega, by omega, Or.inl ⟨by omega, q1317, by omega, h1336, trivial, kt1322⟩⟩
              · refine vc_aload_n dX4_readOne_185 rfl ?_
                refine vc_iconst dX4_readOne_186 rfl ?_
                refine vc_cVI dX4_readOne_187 (sfX4_failedF (M := M) hB0.1  g n p hR 3 ) rfl okX4_failed viX4_failed lkX4_122 (s_22 hB0.1.1) cl_4 rfl (by show 0 < 11 + 3 * (nf + 1); omega) ⟨rfl, rfl⟩ (Nat.le_of_ble_eq_true rfl) (Nat.le_of_ble_eq_true rfl) (Nat.le_of_ble_eq_true rfl) ?_
                rintro x1344 M1345 ⟨hB1346, kp1347, kp1348, kp1349, kp1350, kp1351, h1352, h1353, h1354, h1355, h1356, h1357, h1358⟩
                have hB1359 : BF fQ M M1345 := BF.go hB0 hB1346
                have kp1360 : mI M1345 24 = mI M 24 := kp_go rfl kp1347
                have kp1361 : mI M1345 25 = mI M 25 := kp_go rfl kp1348
                have kp1362 : mI M1345 26 = mI M 26 := kp_go rfl kp1349
                have kp1363 : mI M1345 27 = mI M 27 := kp_go rfl kp1350
                have kp1364 : mI M1345 28 = mI M 28 := kp_go rfl kp1351
                refine vc_zret dX4_readOne_190 rfl (by first | decide | omega) (Nat.le_of_ble_eq_true rfl) (Nat.le_of_ble_eq_true rfl) ?_
                exact ⟨_, rfl, hB1359, kp1360, kp1361, kp1362, kp1363, kp1364, by omega, by omega, by omega, by omega, by omega, Or.inr ⟨by omega, by omega, by rw [h1357, h1358]; first | exact r_two3 (by omega) (by omega) | exact r_par3 (by omega) (by omega) | exact r_neg3 (by omega) (by omega)⟩⟩
            · refine vc_aload_n dX4_readOne_164 rfl ?_
              refine vc_bipush dX4_readOne_165 rfl ?_
              refine vc_cVI dX4_readOne_167 (sfX4_isSignF (M := M) hB0.1  45 ) rfl okX4_isSign viX4_isSign lkX4_163 (s_22 hB0.1.1) cl_4 rfl (by show 0 < 11 + 3 * (nf + 1); omega) ⟨rfl, rfl⟩ (Nat.le_of_ble_eq_true rfl) (Nat.le_of_ble_eq_true rfl) (Nat.le_of_ble_eq_true rfl) ?_
              rintro x1365 _ ⟨rfl, h1366, h1367, h1368⟩
              refine vc_if_ne dX4_readOne_170 (fun h1369 => ?_) (fun h1369 => ?_)
              · refine vc_iload_n dX4_readOne_179 rfl ?_
                refine vc_bipush dX4_readOne_180 rfl ?_
                refine vc_icmp_lt dX4_readOne_182 (fun h1370 => ?_) (fun h1370 => ?_)
                · refine vc_aload_n dX4_readOne_191 rfl ?_
                  refine vc_getI dX4_readOne_192 flX4_119 (s_22 hB0.1.1) rfl ?_
                  refine vc_nameI (fun x1371 ex1371 => ?_)
                  refine vc_istore_n dX4_readOne_195 (Nat.le_of_ble_eq_true rfl) rfl (show _ = [some (aR 22), some (aI d), some (aI 0), some (aI x1371)] from rfl) ?_
                  refine vc_aload_n dX4_readOne_196 rfl ?_
                  refine vc_cVI dX4_readOne_197 (sfX4_takeTokenF (M := M) hB0.1  g n p hR (by omega)) rfl okX4_takeToken viX4_takeToken lkX4_65 (s_22 hB0.1.1) cl_4 rfl (by show 0 < 11 + 3 * (nf + 1); omega) ⟨rfl, rfl⟩ (Nat.le_of_ble_eq_true rfl) (Nat.le_of_ble_eq_true rfl) (Nat.le_of_ble_eq_true rfl) ?_
                  rintro x1372 M1373 ⟨hB1374, kp1375, kp1376, kp1377, kp1378, kp1379, h1380, h1381, h1382, h1383, h1384, h1385⟩
                  have hB1386 : BF fQ M M1373 := BF.go hB0 hB1374
                  have kp1387 : mI M1373 24 = mI M 24 := kp_go rfl kp1375
                  have kp1388 : mI M1373 25 = mI M 25 := kp_go rfl kp1376
                  have kp1389 : mI M1373 26 = mI M 26 := kp_go rfl kp1377
                  have kp1390 : mI M1373 27 = mI M 27 := kp_go rfl kp1378
                  have kp1391 : mI M1373 28 = mI M 28 := kp_go rfl kp1379
                  refine vc_pop dX4_readOne_200 rfl ?_
                  refine vc_iload_n dX4_readOne_201 rfl ?_
                  refine vc_if_eq dX4_readOne_202 (fun h1392 => ?_) (fun h1392 => by exfalso; omega)
                  refine vc_iload_n dX4_readOne_280 rfl ?_
                  refine vc_bipush dX4_readOne_281 rfl ?_
                  refine vc_icmp_ne dX4_readOne_283 (fun h1393 => ?_) (fun h1393 => by exfalso; omega)
                  have kt1394 : ∀ o, Rn (tk g n) (nx g n) w (2 :: sk) false (nx g n p) o → Rn (tk g n) (nx g n) w sk false p o := fun o r => r_neg (by omega) (by omega) r
                  refine vc_aload_n dX4_readOne_311 rfl ?_
                  refine vc_iload_n dX4_readOne_312 rfl ?_
                  refine vc_iconst dX4_readOne_313 rfl ?_
                  refine vc_iaddE dX4_readOne_314 (by omega) (by omega) ?_
                  refine vc_cVI dX4_readOne_315 (ho (M := M1373) hB1386.1  (d + 1) (by omega) (by omega) g n (nx g n p) h1385 w (2 :: sk) (by first | (rw [List.length_cons]; omega) | omega) (by rw [show mI M1373 22 14 = mI M 22 14 by omega]; exact hw) (by omega)) rfl (okX4_readOne (11 + 3 * nf)) (viX4_readOne (11 + 3 * nf)) (lkX4_179 (11 + 3 * nf)) (s_22 hB1386.1.1) cl_4 rfl (by show (11 + 3 * nf) < 11 + 3 * (nf + 1); omega) ⟨rfl, rfl⟩ (Nat.le_of_ble_eq_true rfl) (Nat.le_of_ble_eq_true rfl) (Nat.le_of_ble_eq_true rfl) ?_
                  rintro x1395 M1396 ⟨hB1397, kp1398, kp1399, kp1400, kp1401, kp1402, h1403, h1404, h1405, h1406, h1407, h1408⟩
                  have hB1409 : BF fQ M M1396 := BF.go hB1386 hB1397
                  have kp1410 : mI M1396 24 = mI M 24 := kp_go kp1387 kp1398
                  have kp1411 : mI M1396 25 = mI M 25 := kp_go kp1388 kp1399
                  have kp1412 : mI M1396 26 = mI M 26 := kp_go kp1389 kp1400
                  have kp1413 : mI M1396 27 = mI M 27 := kp_go kp1390 kp1401
                  have kp1414 : mI M1396 28 = mI M 28 := kp_go kp1391 kp1402
                  refine vc_if_eq dX4_readOne_318 (fun h1415 => ?_) (fun h1415 => ?_)
                  · refine vc_iconst dX4_readOne_335 rfl ?_
                    refine vc_zret dX4_readOne_336 rfl (by first | decide | omega) (Nat.le_of_ble_eq_true rfl) (Nat.le_of_ble_eq_true rfl) ?_
                    exact ⟨_, rfl, hB1409, kp1410, kp1411, kp1412, kp1413, kp1414, by omega, by omega, by omega, by omega, by omega, Or.inr ⟨by omega, (LR.bad h1408 (by omega)).1, kt1394 _ (LR.bad h1408 (by omega)).2⟩⟩
                  · obtain ⟨q1416, hl1417, hR1418, hE1419, hk1420⟩ := LR.ok h1408 (by omega)
                    have kt1421 : ∀ o, Rn (tk g n) (nx g n) w (dm sk) true q1416 o → Rn (tk g n) (nx g n) w sk false p o := fun o r => kt1394 o (hk1420 o r)
                    refine vc_aload_n dX4_readOne_321 rfl ?_
                    refine vc_sipush dX4_readOne_322 rfl ?_
                    refine vc_cVI dX4_readOne_325 (sfX4_emitF (M := M1396) hB1409.1  g n q1416 hR1418 20006 ) rfl okX4_emit viX4_emit lkX4_176 (s_22 hB1409.1.1) cl_4 rfl (by show 0 < 11 + 3 * (nf + 1); omega) ⟨rfl, rfl⟩ (Nat.le_of_ble_eq_true rfl) (Nat.le_of_ble_eq_true rfl) (Nat.le_of_ble_eq_true rfl) ?_
                    rintro x1422 M1423 ⟨hB1424, kp1425, kp1426, kp1427, kp1428, kp1429, h1430, h1431, h1432, h1433, h1434, h1435⟩
                    have hB1436 : BF fQ M M1423 := BF.go hB1409 hB1424
                    have kp1437 : mI M1423 24 = mI M 24 := kp_go kp1410 kp1425
                    have kp1438 : mI M1423 25 = mI M 25 := kp_go kp1411 kp1426
                    have kp1439 : mI M1423 26 = mI M 26 := kp_go kp1412 kp1427
                    have kp1440 : mI M1423 27 = mI M 27 := kp_go kp1413 kp1428
                    have kp1441 : mI M1423 28 = mI M 28 := kp_go kp1414 kp1429
                    refine vc_if_eq dX4_readOne_328 (fun h1442 => by exfalso; omega) (fun h1442 => ?_)
                    refine vc_iconst dX4_readOne_331 rfl ?_
                    refine vc_goto dX4_readOne_332 ?_
                    refine vc_zret dX4_readOne_336 rfl (by first | decide | omega) (Nat.le_of_ble_eq_true rfl) (Nat.le_of_ble_eq_true rfl) ?_
                    exact ⟨_, rfl, hB1436, kp1437, kp1438, kp1439, kp1440, kp1441, by omega, by omega, by omega, by omega, by omega, Or.inl ⟨by omega, q1416, by omega, h1435, trivial, kt1421⟩⟩
                · refine vc_aload_n dX4_readOne_185 rfl ?_
                  refine vc_iconst dX4_readOne_186 rfl ?_
                  refine vc_cVI dX4_readOne_187 (sfX4_failedF (M := M) hB0.1  g n p hR 3 ) rfl okX4_failed viX4_failed lkX4_122 (s_22 hB0.1.1) cl_4 rfl (by show 0 < 11 + 3 * (nf + 1); omega) ⟨rfl, rfl⟩ (Nat.le_of_ble_eq_true rfl) (Nat.le_of_ble_eq_true rfl) (Nat.le_of_ble_eq_true rfl) ?_
                  rintro x1443 M1444 ⟨hB1445, kp1446, kp1447, kp1448, kp1449, kp1450, h1451, h1452, h1453, h1454, h1455, h1456, h1457⟩
                  have hB1458 : BF fQ M M1444 := BF.go hB0 hB1445
                  have kp1459 : mI M1444 24 = mI M 24 := kp_go rfl kp1446
                  have kp1460 : mI M1444 25 = mI M 25 := kp_go rfl kp1447
                  have kp1461 : mI M1444 26 = mI M 26 := kp_go rfl kp1448
                  have kp1462 : mI M1444 27 = mI M 27 := kp_go rfl kp1449
                  have kp1463 : mI M1444 28 = mI M 28 := kp_go rfl kp1450
                  refine vc_zret dX4_readOne_190 rfl (by first | decide | omega) (Nat.le_of_ble_eq_true rfl) (Nat.le_of_ble_eq_true rfl) ?_
                  exact ⟨_, rfl, hB1458, kp1459, kp1460, kp1461, kp1462, kp1463, by omega, by omega, by omega, by omega, by omega, Or.inr ⟨by omega, by omega, by rw [h1456, h1457]; first | exact r_two3 (by omega) (by omega) | exact r_par3 (by omega) (by omega) | exact r_neg3 (by omega) (by omega)⟩⟩
              · refine vc_aload_n dX4_readOne_173 rfl ?_
                refine vc_iconst dX4_readOne_174 rfl ?_
                refine vc_cVI dX4_readOne_175 (sfX4_failedF (M := M) hB0.1  g n p hR 1 ) rfl okX4_failed viX4_failed lkX4_122 (s_22 hB0.1.1) cl_4 rfl (by show 0 < 11 + 3 * (nf + 1); omega) ⟨rfl, rfl⟩ (Nat.le_of_ble_eq_true rfl) (Nat.le_of_ble_eq_true rfl) (Nat.le_of_ble_eq_true rfl) ?_
                rintro x1464 M1465 ⟨hB1466, kp1467, kp1468, kp1469, kp1470, kp1471, h1472, h1473, h1474, h1475, h1476, h1477, h1478⟩
                have hB1479 : BF fQ M M1465 := BF.go hB0 hB1466
                have kp1480 : mI M1465 24 = mI M 24 := kp_go rfl kp1467
                have kp1481 : mI M1465 25 = mI M 25 := kp_go rfl kp1468
                have kp1482 : mI M1465 26 = mI M 26 := kp_go rfl kp1469
                have kp1483 : mI M1465 27 = mI M 27 := kp_go rfl kp1470
                have kp1484 : mI M1465 28 = mI M 28 := kp_go rfl kp1471
                refine vc_zret dX4_readOne_178 rfl (by first | decide | omega) (Nat.le_of_ble_eq_true rfl) (Nat.le_of_ble_eq_true rfl) ?_
                exact ⟨_, rfl, hB1479, kp1480, kp1481, kp1482, kp1483, kp1484, by omega, by omega, by omega, by omega, by omega, Or.inr ⟨by omega, by omega, by rw [h1477, h1478]; exact r_no (by omega) (by omega) (by omega) (by omega) (by omega)⟩⟩
          · refine vc_iconst dX4_readOne_145 rfl ?_
            refine vc_goto dX4_readOne_146 ?_
            refine vc_istore_n dX4_readOne_150 (Nat.le_of_ble_eq_true rfl) rfl (show _ = [some (aR 22), some (aI d), some (aI 1), none] from rfl) ?_
            refine vc_iload_n dX4_readOne_151 rfl ?_
            refine vc_if_ne dX4_readOne_152 (fun h1485 => ?_) (fun h1485 => by exfalso; omega)
            refine vc_iload_n dX4_readOne_179 rfl ?_
            refine vc_bipush dX4_readOne_180 rfl ?_
            refine vc_icmp_lt dX4_readOne_182 (fun h1486 => ?_) (fun h1486 => ?_)
            · refine vc_aload_n dX4_readOne_191 rfl ?_
              refine vc_getI dX4_readOne_192 flX4_119 (s_22 hB0.1.1) rfl ?_
              refine vc_nameI (fun x1487 ex1487 => ?_)
              refine vc_istore_n dX4_readOne_195 (Nat.le_of_ble_eq_true rfl) rfl (show _ = [some (aR 22), some (aI d), some (aI 1), some (aI x1487)] from rfl) ?_
              refine vc_aload_n dX4_readOne_196 rfl ?_
              refine vc_cVI dX4_readOne_197 (sfX4_takeTokenF (M := M) hB0.1  g n p hR (by omega)) rfl okX4_takeToken viX4_takeToken lkX4_65 (s_22 hB0.1.1) cl_4 rfl (by show 0 < 11 + 3 * (nf + 1); omega) ⟨rfl, rfl⟩ (Nat.le_of_ble_eq_true rfl) (Nat.le_of_ble_eq_true rfl) (Nat.le_of_ble_eq_true rfl) ?_
              rintro x1488 M1489 ⟨hB1490, kp1491, kp1492, kp1493, kp1494, kp1495, h1496, h1497, h1498, h1499, h1500, h1501⟩
              have hB1502 : BF fQ M M1489 := BF.go hB0 hB1490
              have kp1503 : mI M1489 24 = mI M 24 := kp_go rfl kp1491
              have kp1504 : mI M1489 25 = mI M 25 := kp_go rfl kp1492
              have kp1505 : mI M1489 26 = mI M 26 := kp_go rfl kp1493
              have kp1506 : mI M1489 27 = mI M 27 := kp_go rfl kp1494
              have kp1507 : mI M1489 28 = mI M 28 := kp_go rfl kp1495
              refine vc_pop dX4_readOne_200 rfl ?_
              refine vc_iload_n dX4_readOne_201 rfl ?_
              refine vc_if_eq dX4_readOne_202 (fun h1508 => by exfalso; omega) (fun h1508 => ?_)
              refine vc_aload_n dX4_readOne_205 rfl ?_
              refine vc_bipush dX4_readOne_206 rfl ?_
              refine vc_cVI dX4_readOne_208 (sfX4_readWordF (M := M1489) hB1502.1  g n (nx g n p) h1501 19 (by omega) (by omega)) rfl okX4_readWord viX4_readWord lkX4_151 (s_22 hB1502.1.1) cl_4 rfl (by show 1 < 11 + 3 * (nf + 1); omega) ⟨rfl, rfl⟩ (Nat.le_of_ble_eq_true rfl) (Nat.le_of_ble_eq_true rfl) (Nat.le_of_ble_eq_true rfl) ?_
              rintro x1509 M1510 ⟨hB1511, kp1512, kp1513, kp1514, kp1515, kp1516, h1517, h1518, h1519, h1520, h1521, h1522⟩
              have hB1523 : BF fQ M M1510 := BF.go hB1502 hB1511
              have kp1524 : mI M1510 24 = mI M 24 := kp_go kp1503 kp1512
              have kp1525 : mI M1510 25 = mI M 25 := kp_go kp1504 kp1513
              have kp1526 : mI M1510 26 = mI M 26 := kp_go kp1505 kp1514
              have kp1527 : mI M1510 27 = mI M 27 := kp_go kp1506 kp1515
              have kp1528 : mI M1510 28 = mI M 28 := kp_go kp1507 kp1516
              refine vc_if_eq dX4_readOne_211 (fun h1529 => ?_) (fun h1529 => ?_)
              · refine vc_iconst dX4_readOne_278 rfl ?_
                refine vc_zret dX4_readOne_279 rfl (by first | decide | omega) (Nat.le_of_ble_eq_true rfl) (Nat.le_of_ble_eq_true rfl) ?_
                have hb1530 := TR.bad h1522 (by omega)
                exact ⟨_, rfl, hB1523, kp1524, kp1525, kp1526, kp1527, kp1528, by omega, by omega, by omega, by omega, by omega, Or.inr ⟨by omega, by omega, by rw [hb1530.2.1, hb1530.2.2]; exact r_two1 (by omega) (by omega) (by omega)⟩⟩
              · have e1531 := TR.ok h1522 (by omega)
                have he1532 := e1531.1
                have rg1533 := RS.rg h1501
                have kt1534 : ∀ o, Rn (tk g n) (nx g n) w (41 :: sk) false (nx g n (nx g n p)) o → Rn (tk g n) (nx g n) w sk false p o := fun o r => r_two (by omega) (by omega) (by omega) r
                refine vc_aload_n dX4_readOne_214 rfl ?_
                refine vc_iload_n dX4_readOne_215 rfl ?_
                refine vc_iconst dX4_readOne_216 rfl ?_
                refine vc_iaddE dX4_readOne_217 (by omega) (by omega) ?_
                refine vc_cVI dX4_readOne_218 (hs (M := M1510) hB1523.1  (d + 1) (by omega) (by omega) g n (nx g n (nx g n p)) e1531.2 w (41 :: sk) (by first | (rw [List.length_cons]; omega) | omega) rfl (by rw [show mI M1510 22 14 = mI M 22 14 by omega]; exact hw) (by omega)) rfl (okX4_readSum (13 + 3 * nf)) (viX4_readSum (13 + 3 * nf)) (lkX4_132 (13 + 3 * nf)) (s_22 hB1523.1.1) cl_4 rfl (by show (13 + 3 * nf) < 11 + 3 * (nf + 1); omega) ⟨rfl, rfl⟩ (Nat.le_of_ble_eq_true rfl) (Nat.le_of_ble_eq_true rfl) (Nat.le_of_ble_eq_true rfl) ?_
                rintro x1535 M1536 ⟨hB1537, kp1538, kp1539, kp1540, kp1541, kp1542, h1543, h1544, h1545, h1546, h1547, h1548⟩
                have hB1549 : BF fQ M M1536 := BF.go hB1523 hB1537
                have kp1550 : mI M1536 24 = mI M 24 := kp_go kp1524 kp1538
                have kp1551 : mI M1536 25 = mI M 25 := kp_go kp1525 kp1539
                have kp1552 : mI M1536 26 = mI M 26 := kp_go kp1526 kp1540
                have kp1553 : mI M1536 27 = mI M 27 := kp_go kp1527 kp1541
                have kp1554 : mI M1536 28 = mI M 28 := kp_go kp1528 kp1542
                refine vc_if_eq dX4_readOne_221 (fun h1555 => ?_) (fun h1555 => ?_)
                · refine vc_iconst dX4_readOne_278 rfl ?_
                  refine vc_zret dX4_readOne_279 rfl (by first | decide | omega) (Nat.le_of_ble_eq_true rfl) (Nat.le_of_ble_eq_true rfl) ?_
                  exact ⟨_, rfl, hB1549, kp1550, kp1551, kp1552, kp1553, kp1554, by omega, by omega, by omega, by omega, by omega, Or.inr ⟨by omega, (LR.bad h1548 (by omega)).1, kt1534 _ (LR.bad h1548 (by omega)).2⟩⟩
                · obtain ⟨q1556, hl1557, hR1558, hE1559, hk1560⟩ := LR.ok h1548 (by omega)
                  unfold EOp at hE1559
                  have kt1561 : ∀ o, Rn (tk g n) (nx g n) w (41 :: sk) true q1556 o → Rn (tk g n) (nx g n) w sk false p o := fun o r => kt1534 o (hk1560 o r)
                  refine vc_aload_n dX4_readOne_224 rfl ?_
                  refine vc_bipush dX4_readOne_225 rfl ?_
                  refine vc_cVI dX4_readOne_227 (sfX4_readSignF (M := M1536) hB1549.1  g n q1556 hR1558 44 (by omega) (by omega)) rfl okX4_readSign viX4_readSign lkX4_141 (s_22 hB1549.1.1) cl_4 rfl (by show 1 < 11 + 3 * (nf + 1); omega) ⟨rfl, rfl⟩ (Nat.le_of_ble_eq_true rfl) (Nat.le_of_ble_eq_true rfl) (Nat.le_of_ble_eq_true rfl) ?_
                  rintro x1562 M1563 ⟨hB1564, kp1565, kp1566, kp1567, kp1568, kp1569, h1570, h1571, h1572, h1573, h1574, h1575⟩
                  have hB1576 : BF fQ M M1563 := BF.go hB1549 hB1564
                  have kp1577 : mI M1563 24 = mI M 24 := kp_go kp1550 kp1565
                  have kp1578 : mI M1563 25 = mI M 25 := kp_go kp1551 kp1566
                  have kp1579 : mI M1563 26 = mI M 26 := kp_go kp1552 kp1567
                  have kp1580 : mI M1563 27 = mI M 27 := kp_go kp1553 kp1568
                  have kp1581 : mI M1563 28 = mI M 28 := kp_go kp1554 kp1569
                  refine vc_if_eq dX4_readOne_230 (fun h1582 => ?_) (fun h1582 => ?_)
                  · refine vc_iconst dX4_readOne_278 rfl ?_
                    refine vc_zret dX4_readOne_279 rfl (by first | decide | omega) (Nat.le_of_ble_eq_true rfl) (Nat.le_of_ble_eq_true rfl) ?_
                    have hb1583 := TR.bad h1575 (by omega)
                    exact ⟨_, rfl, hB1576, kp1577, kp1578, kp1579, kp1580, kp1581, by omega, by omega, by omega, by omega, by omega, Or.inr ⟨by omega, by omega, by rw [hb1583.2.1, hb1583.2.2]; exact kt1561 _ (t_b41 hE1559 (by omega))⟩⟩
                  · have e1584 := TR.ok h1575 (by omega)
                    have he1585 := e1584.1
                    have rg1586 := RS.rg hR1558
                    have kt1587 : ∀ o, Rn (tk g n) (nx g n) w (42 :: sk) false (nx g n q1556) o → Rn (tk g n) (nx g n) w sk false p o := fun o r => kt1561 o (t_com (by omega) r)
                    refine vc_aload_n dX4_readOne_233 rfl ?_
                    refine vc_iload_n dX4_readOne_234 rfl ?_
                    refine vc_iconst dX4_readOne_235 rfl ?_
                    refine vc_iaddE dX4_readOne_236 (by omega) (by omega) ?_
                    refine vc_cVI dX4_readOne_237 (hs (M := M1563) hB1576.1  (d + 1) (by omega) (by omega) g n (nx g n q1556) e1584.2 w (42 :: sk) (by first | (rw [List.length_cons]; omega) | omega) rfl (by rw [show mI M1563 22 14 = mI M 22 14 by omega]; exact hw) (by omega)) rfl (okX4_readSum (13 + 3 * nf)) (viX4_readSum (13 + 3 * nf)) (lkX4_132 (13 + 3 * nf)) (s_22 hB1576.1.1) cl_4 rfl (by show (13 + 3 * nf) < 11 + 3 * (nf + 1); omega) ⟨rfl, rfl⟩ (Nat.le_of_ble_eq_true rfl) (Nat.le_of_ble_eq_true rfl) (Nat.le_of_ble_eq_true rfl) ?_
                    rintro x1588 M1589 ⟨hB1590, kp1591, kp1592, kp1593, kp1594, kp1595, h1596, h1597, h1598, h1599, h1600, h1601⟩
                    have hB1602 : BF fQ M M1589 := BF.go hB1576 hB1590
                    have kp1603 : mI M1589 24 = mI M 24 := kp_go kp1577 kp1591
                    have kp1604 : mI M1589 25 = mI M 25 := kp_go kp1578 kp1592
                    have kp1605 : mI M1589 26 = mI M 26 := kp_go kp1579 kp1593
                    have kp1606 : mI M1589 27 = mI M 27 := kp_go kp1580 kp1594
                    have kp1607 : mI M1589 28 = mI M 28 := kp_go kp1581 kp1595
                    refine vc_if_eq dX4_readOne_240 (fun h1608 => ?_) (fun h1608 => ?_)
                    · refine vc_iconst dX4_readOne_278 rfl ?_
                      refine vc_zret dX4_readOne_279 rfl (by first | decide | omega) (Nat.le_of_ble_eq_true rfl) (Nat.le_of_ble_eq_true rfl) ?_
                      exact ⟨_, rfl, hB1602, kp1603, kp1604, kp1605, kp1606, kp1607, by omega, by omega, by omega, by omega, by omega, Or.inr ⟨by omega, (LR.bad h1601 (by omega)).1, kt1587 _ (LR.bad h1601 (by omega)).2⟩⟩
                    · obtain ⟨q1609, hl1610, hR1611, hE1612, hk1613⟩ := LR.ok h1601 (by omega)
                      unfold EOp at hE1612
                      have kt1614 : ∀ o, Rn (tk g n) (nx g n) w (42 :: sk) true q1609 o → Rn (tk g n) (nx g n) w sk false p o := fun o r => kt1587 o (hk1613 o r)
                      refine vc_aload_n dX4_readOne_243 rfl ?_
                      refine vc_bipush dX4_readOne_244 rfl ?_
                      refine vc_cVI dX4_readOne_246 (sfX4_readWordF (M := M1589) hB1602.1  g n q1609 hR1611 20 (by omega) (by omega)) rfl okX4_readWord viX4_readWord lkX4_151 (s_22 hB1602.1.1) cl_4 rfl (by show 1 < 11 + 3 * (nf + 1); omega) ⟨rfl, rfl⟩ (Nat.le_of_ble_eq_true rfl) (Nat.le_of_ble_eq_true rfl) (Nat.le_of_ble_eq_true rfl) ?_
                      rintro x1615 M1616 ⟨hB1617, kp1618, kp1619, kp1620, kp1621, kp1622, h1623, h1624, h1625, h1626, h1627, h1628⟩
                      have hB1629 : BF fQ M M1616 := BF.go hB1602 hB1617
                      have kp1630 : mI M1616 24 = mI M 24 := kp_go kp1603 kp1618
                      have kp1631 : mI M1616 25 = mI M 25 := kp_go kp1604 kp1619
                      have kp1632 : mI M1616 26 = mI M 26 := kp_go kp1605 kp1620
                      have kp1633 : mI M1616 27 = mI M 27 := kp_go kp1606 kp1621
                      have kp1634 : mI M1616 28 = mI M 28 := kp_go kp1607 kp1622
                      refine vc_if_eq dX4_readOne_249 (fun h1635 => ?_) (fun h1635 => ?_)
                      · refine vc_iconst dX4_readOne_278 rfl ?_
                        refine vc_zret dX4_readOne_279 rfl (by first | decide | omega) (Nat.le_of_ble_eq_true rfl) (Nat.le_of_ble_eq_true rfl) ?_
                        have hb1636 := TR.bad h1628 (by omega)
                        exact ⟨_, rfl, hB1629, kp1630, kp1631, kp1632, kp1633, kp1634, by omega, by omega, by omega, by omega, by omega, Or.inr ⟨by omega, by omega, by rw [hb1636.2.1, hb1636.2.2]; exact kt1614 _ (t_b42 hE1612 (by omega))⟩⟩
                      · have e1637 := TR.ok h1628 (by omega)
                        have he1638 := e1637.1
                        have rg1639 := RS.rg hR1611
                        have kt1640 : ∀ o, Rn (tk g n) (nx g n) w (dm sk) true (nx g n q1609) o → Rn (tk g n) (nx g n) w sk false p o := fun o r => kt1614 o (t_end (by omega) r)
                        refine vc_aload_n dX4_readOne_252 rfl ?_
                        refine vc_iload_n dX4_readOne_253 rfl ?_
                        refine vc_bipush dX4_readOne_254 rfl ?_
                        refine vc_icmp_ne dX4_readOne_256 (fun h1641 => ?_) (fun h1641 => by exfalso; omega)
                        refine vc_sipush dX4_readOne_265 rfl ?_
                        refine vc_cVI dX4_readOne_268 (sfX4_emitF (M := M1616) hB1629.1  g n (nx g n q1609) e1637.2 20005 ) rfl okX4_emit viX4_emit lkX4_176 (s_22 hB1629.1.1) cl_4 rfl (by show 0 < 11 + 3 * (nf + 1); omega) ⟨rfl, rfl⟩ (Nat.le_of_ble_eq_true rfl) (Nat.le_of_ble_eq_true rfl) (Nat.le_of_ble_eq_true rfl) ?_
                        rintro x1642 M1643 ⟨hB1644, kp1645, kp1646, kp1647, kp1648, kp1649, h1650, h1651, h1652, h1653, h1654, h1655⟩
                        have hB1656 : BF fQ M M1643 := BF.go hB1629 hB1644
                        have kp1657 : mI M1643 24 = mI M 24 := kp_go kp1630 kp1645
                        have kp1658 : mI M1643 25 = mI M 25 := kp_go kp1631 kp1646
                        have kp1659 : mI M1643 26 = mI M 26 := kp_go kp1632 kp1647
                        have kp1660 : mI M1643 27 = mI M 27 := kp_go kp1633 kp1648
                        have kp1661 : mI M1643 28 = mI M 28 := kp_go kp1634 kp1649
                        refine vc_if_eq dX4_readOne_271 (fun h1662 => by exfalso; omega) (fun h1662 => ?_)
                        refine vc_iconst dX4_readOne_274 rfl ?_
                        refine vc_goto dX4_readOne_275 ?_
                        refine vc_zret dX4_readOne_279 rfl (by first | decide | omega) (Nat.le_of_ble_eq_true rfl) (Nat.le_of_ble_eq_true rfl) ?_
                        exact ⟨_, rfl, hB1656, kp1657, kp1658, kp1659, kp1660, kp1661, by omega, by omega, by omega, by omega, by omega, Or.inl ⟨by omega, nx g n q1609, by omega, h1655, trivial, kt1640⟩⟩
            · refine vc_aload_n dX4_readOne_185 rfl ?_
              refine vc_iconst dX4_readOne_186 rfl ?_
              refine vc_cVI dX4_readOne_187 (sfX4_failedF (M := M) hB0.1  g n p hR 3 ) rfl okX4_failed viX4_failed lkX4_122 (s_22 hB0.1.1) cl_4 rfl (by show 0 < 11 + 3 * (nf + 1); omega) ⟨rfl, rfl⟩ (Nat.le_of_ble_eq_true rfl) (Nat.le_of_ble_eq_true rfl) (Nat.le_of_ble_eq_true rfl) ?_
              rintro x1663 M1664 ⟨hB1665, kp1666, kp1667, kp1668, kp1669, kp1670, h1671, h1672, h1673, h1674, h1675, h1676, h1677⟩
              have hB1678 : BF fQ M M1664 := BF.go hB0 hB1665
              have kp1679 : mI M1664 24 = mI M 24 := kp_go rfl kp1666
              have kp1680 : mI M1664 25 = mI M 25 := kp_go rfl kp1667
              have kp1681 : mI M1664 26 = mI M 26 := kp_go rfl kp1668
              have kp1682 : mI M1664 27 = mI M 27 := kp_go rfl kp1669
              have kp1683 : mI M1664 28 = mI M 28 := kp_go rfl kp1670
              refine vc_zret dX4_readOne_190 rfl (by first | decide | omega) (Nat.le_of_ble_eq_true rfl) (Nat.le_of_ble_eq_true rfl) ?_
              exact ⟨_, rfl, hB1678, kp1679, kp1680, kp1681, kp1682, kp1683, by omega, by omega, by omega, by omega, by omega, Or.inr ⟨by omega, by omega, by rw [h1676, h1677]; first | exact r_two3 (by omega) (by omega) | exact r_par3 (by omega) (by omega) | exact r_neg3 (by omega) (by omega)⟩⟩
      · refine vc_aload_n dX4_readOne_67 rfl ?_
        refine vc_getI dX4_readOne_68 flX4_119 (s_22 hB0.1.1) rfl ?_
        refine vc_bipush dX4_readOne_71 rfl ?_
        refine vc_isubE dX4_readOne_73 (by omega) (by omega) ?_
        refine vc_nameI (fun x1684 ex1684 => ?_)
        refine vc_istore_n dX4_readOne_74 (Nat.le_of_ble_eq_true rfl) rfl (show _ = [some (aR 22), some (aI d), some (aI x1684), none] from rfl) ?_
        have hnm := nm_iff (m := x1684) hw (by omega) (by omega)
        refine vc_aload_n dX4_readOne_75 rfl ?_
        refine vc_getI dX4_readOne_76 flX4_170 (s_22 hB0.1.1) rfl ?_
        refine vc_iload_n dX4_readOne_79 rfl ?_
        refine vc_ishr dX4_readOne_80 ?_
        refine vc_iconst dX4_readOne_81 rfl ?_
        refine vc_iandM dX4_readOne_82 2 1 rfl (Nat.le_of_ble_eq_true rfl) rfl ?_
        refine vc_if_ne dX4_readOne_83 (fun h1685 => ?_) (fun h1685 => ?_)
        · refine vc_aload_n dX4_readOne_94 rfl ?_
          refine vc_sipush dX4_readOne_95 rfl ?_
          refine vc_iload_n dX4_readOne_98 rfl ?_
          refine vc_iaddE dX4_readOne_99 (by omega) (by omega) ?_
          refine vc_cVI dX4_readOne_100 (sfX4_emitF (M := M) hB0.1  g n p hR (10000 + x1684) ) rfl okX4_emit viX4_emit lkX4_176 (s_22 hB0.1.1) cl_4 rfl (by show 0 < 11 + 3 * (nf + 1); omega) ⟨rfl, rfl⟩ (Nat.le_of_ble_eq_true rfl) (Nat.le_of_ble_eq_true rfl) (Nat.le_of_ble_eq_true rfl) ?_
          rintro x1686 M1687 ⟨hB1688, kp1689, kp1690, kp1691, kp1692, kp1693, h1694, h1695, h1696, h1697, h1698, h1699⟩
          have hB1700 : BF fQ M M1687 := BF.go hB0 hB1688
          have kp1701 : mI M1687 24 = mI M 24 := kp_go rfl kp1689
          have kp1702 : mI M1687 25 = mI M 25 := kp_go rfl kp1690
          have kp1703 : mI M1687 26 = mI M 26 := kp_go rfl kp1691
          have kp1704 : mI M1687 27 = mI M 27 := kp_go rfl kp1692
          have kp1705 : mI M1687 28 = mI M 28 := kp_go rfl kp1693
          refine vc_if_eq dX4_readOne_103 (fun h1706 => by exfalso; omega) (fun h1706 => ?_)
          refine vc_aload_n dX4_readOne_106 rfl ?_
          refine vc_cVI dX4_readOne_107 (sfX4_takeTokenF (M := M1687) hB1700.1  g n p h1699 (by omega)) rfl okX4_takeToken viX4_takeToken lkX4_65 (s_22 hB1700.1.1) cl_4 rfl (by show 0 < 11 + 3 * (nf + 1); omega) ⟨rfl, rfl⟩ (Nat.le_of_ble_eq_true rfl) (Nat.le_of_ble_eq_true rfl) (Nat.le_of_ble_eq_true rfl) ?_
          rintro x1707 M1708 ⟨hB1709, kp1710, kp1711, kp1712, kp1713, kp1714, h1715, h1716, h1717, h1718, h1719, h1720⟩
          have hB1721 : BF fQ M M1708 := BF.go hB1700 hB1709
          have kp1722 : mI M1708 24 = mI M 24 := kp_go kp1701 kp1710
          have kp1723 : mI M1708 25 = mI M 25 := kp_go kp1702 kp1711
          have kp1724 : mI M1708 26 = mI M 26 := kp_go kp1703 kp1712
          have kp1725 : mI M1708 27 = mI M 27 := kp_go kp1704 kp1713
          have kp1726 : mI M1708 28 = mI M 28 := kp_go kp1705 kp1714
          refine vc_if_eq dX4_readOne_110 (fun h1727 => by exfalso; omega) (fun h1727 => ?_)
          refine vc_iconst dX4_readOne_113 rfl ?_
          refine vc_goto dX4_readOne_114 ?_
          refine vc_zret dX4_readOne_118 rfl (by first | decide | omega) (Nat.le_of_ble_eq_true rfl) (Nat.le_of_ble_eq_true rfl) ?_
          exact ⟨_, rfl, hB1721, kp1722, kp1723, kp1724, kp1725, kp1726, by omega, by omega, by omega, by omega, by omega, Or.inl ⟨by omega, nx g n p, by omega, h1720, trivial, (fun o r => r_nam (by omega) (by omega) (by rw [show tk g n p - 128 = x1684 by omega]; exact Decidable.of_not_not (fun hh => by have := hnm.mpr hh; omega)) r)⟩⟩
        · refine vc_aload_n dX4_readOne_86 rfl ?_
          refine vc_iconst dX4_readOne_87 rfl ?_
          refine vc_cVI dX4_readOne_88 (sfX4_failedF (M := M) hB0.1  g n p hR 5 ) rfl okX4_failed viX4_failed lkX4_122 (s_22 hB0.1.1) cl_4 rfl (by show 0 < 11 + 3 * (nf + 1); omega) ⟨rfl, rfl⟩ (Nat.le_of_ble_eq_true rfl) (Nat.le_of_ble_eq_true rfl) (Nat.le_of_ble_eq_true rfl) ?_
          rintro x1728 M1729 ⟨hB1730, kp1731, kp1732, kp1733, kp1734, kp1735, h1736, h1737, h1738, h1739, h1740, h1741, h1742⟩
          have hB1743 : BF fQ M M1729 := BF.go hB0 hB1730
          have kp1744 : mI M1729 24 = mI M 24 := kp_go rfl kp1731
          have kp1745 : mI M1729 25 = mI M 25 := kp_go rfl kp1732
          have kp1746 : mI M1729 26 = mI M 26 := kp_go rfl kp1733
          have kp1747 : mI M1729 27 = mI M 27 := kp_go rfl kp1734
          have kp1748 : mI M1729 28 = mI M 28 := kp_go rfl kp1735
          refine vc_goto dX4_readOne_91 ?_
          refine vc_zret dX4_readOne_118 rfl (by first | decide | omega) (Nat.le_of_ble_eq_true rfl) (Nat.le_of_ble_eq_true rfl) ?_
          exact ⟨_, rfl, hB1743, kp1744, kp1745, kp1746, kp1747, kp1748, by omega, by omega, by omega, by omega, by omega, Or.inr ⟨by omega, by omega, by rw [h1741, h1742]; exact r_bad (by omega) (by omega) (by rw [show tk g n p - 128 = x1684 by omega]; exact hnm.mp (by omega))⟩⟩
  · refine vc_aload_n dX4_readOne_8 rfl ?_
    refine vc_getI dX4_readOne_9 flX4_119 (s_22 hB0.1.1) rfl ?_
    refine vc_sipush dX4_readOne_12 rfl ?_
    refine vc_icmp_le dX4_readOne_15 (fun h1749 => ?_) (fun h1749 => ?_)
    · refine vc_aload_n dX4_readOne_26 rfl ?_
      refine vc_aload_n dX4_readOne_27 rfl ?_
      refine vc_getI dX4_readOne_28 flX4_119 (s_22 hB0.1.1) rfl ?_
      refine vc_cVI dX4_readOne_31 (sfX4_emitF (M := M) hB0.1  g n p hR (mI M 22 11) ) rfl okX4_emit viX4_emit lkX4_176 (s_22 hB0.1.1) cl_4 rfl (by show 0 < 11 + 3 * (nf + 1); omega) ⟨rfl, rfl⟩ (Nat.le_of_ble_eq_true rfl) (Nat.le_of_ble_eq_true rfl) (Nat.le_of_ble_eq_true rfl) ?_
      rintro x1750 M1751 ⟨hB1752, kp1753, kp1754, kp1755, kp1756, kp1757, h1758, h1759, h1760, h1761, h1762, h1763⟩
      have hB1764 : BF fQ M M1751 := BF.go hB0 hB1752
      have kp1765 : mI M1751 24 = mI M 24 := kp_go rfl kp1753
      have kp1766 : mI M1751 25 = mI M 25 := kp_go rfl kp1754
      have kp1767 : mI M1751 26 = mI M 26 := kp_go rfl kp1755
      have kp1768 : mI M1751 27 = mI M 27 := kp_go rfl kp1756
      have kp1769 : mI M1751 28 = mI M 28 := kp_go rfl kp1757
      refine vc_if_eq dX4_readOne_34 (fun h1770 => by exfalso; omega) (fun h1770 => ?_)
      refine vc_aload_n dX4_readOne_37 rfl ?_
      refine vc_cVI dX4_readOne_38 (sfX4_takeTokenF (M := M1751) hB1764.1  g n p h1763 (by omega)) rfl okX4_takeToken viX4_takeToken lkX4_65 (s_22 hB1764.1.1) cl_4 rfl (by show 0 < 11 + 3 * (nf + 1); omega) ⟨rfl, rfl⟩ (Nat.le_of_ble_eq_true rfl) (Nat.le_of_ble_eq_true rfl) (Nat.le_of_ble_eq_true rfl) ?_
      rintro x1771 M1772 ⟨hB1773, kp1774, kp1775, kp1776, kp1777, kp1778, h1779, h1780, h1781, h1782, h1783, h1784⟩
      have hB1785 : BF fQ M M1772 := BF.go hB1764 hB1773
      have kp1786 : mI M1772 24 = mI M 24 := kp_go kp1765 kp1774
      have kp1787 : mI M1772 25 = mI M 25 := kp_go kp1766 kp1775
      have kp1788 : mI M1772 26 = mI M 26 := kp_go kp1767 kp1776
      have kp1789 : mI M1772 27 = mI M 27 := kp_go kp1768 kp1777
      have kp1790 : mI M1772 28 = mI M 28 := kp_go kp1769 kp1778
      refine vc_if_eq dX4_readOne_41 (fun h1791 => by exfalso; omega) (fun h1791 => ?_)
      refine vc_iconst dX4_readOne_44 rfl ?_
      refine vc_goto dX4_readOne_45 ?_
      refine vc_zret dX4_readOne_49 rfl (by first | decide | omega) (Nat.le_of_ble_eq_true rfl) (Nat.le_of_ble_eq_true rfl) ?_
      exact ⟨_, rfl, hB1785, kp1786, kp1787, kp1788, kp1789, kp1790, by omega, by omega, by omega, by omega, by omega, Or.inl ⟨by omega, nx g n p, by omega, h1784, trivial, (fun o r => r_num (by omega) (by omega) r)⟩⟩
    · refine vc_aload_n dX4_readOne_18 rfl ?_
      refine vc_iconst dX4_readOne_19 rfl ?_
      refine vc_cVI dX4_readOne_20 (sfX4_failedF (M := M) hB0.1  g n p hR 2 ) rfl okX4_failed viX4_failed lkX4_122 (s_22 hB0.1.1) cl_4 rfl (by show 0 < 11 + 3 * (nf + 1); omega) ⟨rfl, rfl⟩ (Nat.le_of_ble_eq_true rfl) (Nat.le_of_ble_eq_true rfl) (Nat.le_of_ble_eq_true rfl) ?_
      rintro x1792 M1793 ⟨hB1794, kp1795, kp1796, kp1797, kp1798, kp1799, h1800, h1801, h1802, h1803, h1804, h1805, h1806⟩
      have hB1807 : BF fQ M M1793 := BF.go hB0 hB1794
      have kp1808 : mI M1793 24 = mI M 24 := kp_go rfl kp1795
      have kp1809 : mI M1793 25 = mI M 25 := kp_go rfl kp1796
      have kp1810 : mI M1793 26 = mI M 26 := kp_go rfl kp1797
      have kp1811 : mI M1793 27 = mI M 27 := kp_go rfl kp1798
      have kp1812 : mI M1793 28 = mI M 28 := kp_go rfl kp1799
      refine vc_goto dX4_readOne_23 ?_
      refine vc_zret dX4_readOne_49 rfl (by first | decide | omega) (Nat.le_of_ble_eq_true rfl) (Nat.le_of_ble_eq_true rfl) ?_
      exact ⟨_, rfl, hB1807, kp1808, kp1809, kp1810, kp1811, kp1812, by omega, by omega, by omega, by omega, by omega, Or.inr ⟨by omega, by omega, by rw [h1805, h1806]; exact r_big (by omega)⟩⟩

set_option maxRecDepth 4000 in
theorem ld_prod {l : Launch} {nf : Nat} (ho : LdO l nf) : LdP l nf := by
  intro M hB d p0 p1 g n p hR w sk hl hd hw hnf
  have hB0 : BF fQ M M := BF.start hB
  refine Call.of [some (aR 22), some (aI d), none, none, none] rfl (Nat.le_of_ble_eq_true rfl) rfl ?_
  have ct1 := RS.ct hR
  unfold CT at ct1
  have rg2 := RS.rg hR
  refine vc_aload_n dX4_readProduct_0 rfl ?_
  refine vc_iload_n dX4_readProduct_1 rfl ?_
  refine vc_cVI dX4_readProduct_2 (ho (M := M) hB0.1  d (by omega) (by omega) g n p hR w sk (by first | (rw [List.length_cons]; omega) | omega) (by rw [show mI M 22 14 = mI M 22 14 by omega]; exact hw) (by omega)) rfl (okX4_readOne (11 + 3 * nf)) (viX4_readOne (11 + 3 * nf)) (lkX4_179 (11 + 3 * nf)) (s_22 hB0.1.1) cl_4 rfl (by show (11 + 3 * nf) < 12 + 3 * nf; omega) ⟨rfl, rfl⟩ (Nat.le_of_ble_eq_true rfl) (Nat.le_of_ble_eq_true rfl) (Nat.le_of_ble_eq_true rfl) ?_
  rintro x3 M4 ⟨hB5, kp6, kp7, kp8, kp9, kp10, h11, h12, h13, h14, h15, h16⟩
  have hB17 : BF fQ M M4 := BF.go hB0 hB5
  have kp18 : mI M4 24 = mI M 24 := kp_go rfl kp6
  have kp19 : mI M4 25 = mI M 25 := kp_go rfl kp7
  have kp20 : mI M4 26 = mI M 26 := kp_go rfl kp8
  have kp21 : mI M4 27 = mI M 27 := kp_go rfl kp9
  have kp22 : mI M4 28 = mI M 28 := kp_go rfl kp10
  refine vc_istore_n dX4_readProduct_5 (Nat.le_of_ble_eq_true rfl) rfl (show _ = [some (aR 22), some (aI d), some (aI x3), none, none] from rfl) ?_
  have hfirst : LI g n w sk p (ETr g n) M4 x3 0 := LR.li h16 hd
  refine vc_iconst dX4_readProduct_6 rfl ?_
  refine vc_istore_n dX4_readProduct_7 (Nat.le_of_ble_eq_true rfl) rfl (show _ = [some (aR 22), some (aI d), some (aI x3), some (aI 0), none] from rfl) ?_
  have lp8 : ∀ (n8 : Nat) (Mq8 : Mem) (v2 : Int) (v3 : Int), (BF fQ M Mq8) → (mI Mq8 24 = mI M 24) → (mI Mq8 25 = mI M 25) → (mI Mq8 26 = mI M 26) → (mI Mq8 27 = mI M 27) → (mI Mq8 28 = mI M 28) → (0 ≤ v2) → (v2 ≤ 1) → (0 ≤ v3) → (v3 ≤ 300) → (LI g n w sk p (ETr g n) Mq8 v2 v3) → (0 ≤ mI Mq8 22 9) → (mI Mq8 22 13 = mI M 22 13) → (mI Mq8 22 14 = mI M 22 14) → (300 - v3).toNat < n8 → VC l (mdX4_readProduct (12 + 3 * nf)) 8 [some (aR 22), some (aI d), some (aI v2), some (aI v3), none] [] Mq8 0 0 (fun q N => ∃ r : Int, q = some (aI r) ∧ BF fQ M N ∧ mI N 24 = mI M 24 ∧ mI N 25 = mI M 25 ∧ mI N 26 = mI M 26 ∧ mI N 27 = mI M 27 ∧ mI N 28 = mI M 28 ∧ 0 ≤ r ∧ r ≤ 1 ∧ 0 ≤ mI N 22 9 ∧ mI N 22 13 = mI M 22 13 ∧ mI N 22 14 = mI M 22 14 ∧ LR g n w sk p (EMul g n) N r) := by
    intro n8
    induction n8 with
    | zero => intro Mq8 v2 v3 hQ8 kp8_24 kp8_25 kp8_26 kp8_27 kp8_28 g8_2a g8_2b g8_3a g8_3b g8i0 g8i1 g8i2 g8i3 hm8; exact absurd hm8 (Nat.not_lt_zero _)
    | succ n8 ih8 =>
      intro Mq8 v2 v3 hQ8 kp8_24 kp8_25 kp8_26 kp8_27 kp8_28 g8_2a g8_2b g8_3a g8_3b g8i0 g8i1 g8i2 g8i3 hm8
      refine vc_iload_n dX4_readProduct_8 rfl ?_
      refine vc_sipush dX4_readProduct_9 rfl ?_
      refine vc_icmp_ge dX4_readProduct_12 (fun h23 => ?_) (fun h23 => ?_)
      · refine vc_iload_n dX4_readProduct_91 rfl ?_
        refine vc_zret dX4_readProduct_92 rfl (by first | decide | omega) (Nat.le_of_ble_eq_true rfl) (Nat.le_of_ble_eq_true rfl) ?_
        exact ⟨_, rfl, hQ8, kp8_24, kp8_25, kp8_26, kp8_27, kp8_28, by omega, by omega, by omega, by omega, by omega, (by first | exact LI.nul g8i0 (by omega) | exact LI.big g8i0 (by omega) (by omega))⟩
      · refine vc_iload_n dX4_readProduct_15 rfl ?_
        refine vc_if_eq dX4_readProduct_16 (fun h24 => ?_) (fun h24 => ?_)
        · refine vc_iload_n dX4_readProduct_91 rfl ?_
          refine vc_zret dX4_readProduct_92 rfl (by first | decide | omega) (Nat.le_of_ble_eq_true rfl) (Nat.le_of_ble_eq_true rfl) ?_
          exact ⟨_, rfl, hQ8, kp8_24, kp8_25, kp8_26, kp8_27, kp8_28, by omega, by omega, by omega, by omega, by omega, (by first | exact LI.nul g8i0 (by omega) | exact LI.big g8i0 (by omega) (by omega))⟩
        · obtain ⟨q25, hl26, hR27, hE28, hk29⟩ := LI.ok g8i0 (by omega)
          have ct30 := RS.ct hR27
          unfold CT at ct30
          have rg31 := RS.rg hR27
          refine vc_aload_n dX4_readProduct_19 rfl ?_
          refine vc_bipush dX4_readProduct_20 rfl ?_
          refine vc_cVI dX4_readProduct_22 (sfX4_isSignF (M := Mq8) hQ8.1  42 ) rfl okX4_isSign viX4_isSign lkX4_163 (s_22 hQ8.1.1) cl_4 rfl (by show 0 < 12 + 3 * nf; omega) ⟨rfl, rfl⟩ (Nat.le_of_ble_eq_true rfl) (Nat.le_of_ble_eq_true rfl) (Nat.le_of_ble_eq_true rfl) ?_
          rintro x32 _ ⟨rfl, h33, h34, h35⟩
          refine vc_if_ne dX4_readProduct_25 (fun h36 => ?_) (fun h36 => ?_)
          · refine vc_aload_n dX4_readProduct_37 rfl ?_
            refine vc_getI dX4_readProduct_38 flX4_119 (s_22 hQ8.1.1) rfl ?_
            refine vc_bipush dX4_readProduct_41 rfl ?_
            refine vc_icmp_ne dX4_readProduct_43 (fun h37 => ?_) (fun h37 => ?_)
            · refine vc_sipush dX4_readProduct_52 rfl ?_
              refine vc_istore dX4_readProduct_55 (Nat.le_of_ble_eq_true rfl) rfl (show _ = [some (aR 22), some (aI d), some (aI v2), some (aI v3), some (aI 20003)] from rfl) ?_
              have kt38 : ∀ o, Rn (tk g n) (nx g n) w sk false (nx g n q25) o → Rn (tk g n) (nx g n) w sk false p o := fun o r => hk29 o (t_op (by omega) r)
              refine vc_aload_n dX4_readProduct_57 rfl ?_
              refine vc_cVI dX4_readProduct_58 (sfX4_takeTokenF (M := Mq8) hQ8.1  g n q25 hR27 (by omega)) rfl okX4_takeToken viX4_takeToken lkX4_65 (s_22 hQ8.1.1) cl_4 rfl (by show 0 < 12 + 3 * nf; omega) ⟨rfl, rfl⟩ (Nat.le_of_ble_eq_true rfl) (Nat.le_of_ble_eq_true rfl) (Nat.le_of_ble_eq_true rfl) ?_
              rintro x39 M40 ⟨hB41, kp42, kp43, kp44, kp45, kp46, h47, h48, h49, h50, h51, h52⟩
              have hB53 : BF fQ M M40 := BF.go hQ8 hB41
              have kp54 : mI M40 24 = mI M 24 := kp_go kp8_24 kp42
              have kp55 : mI M40 25 = mI M 25 := kp_go kp8_25 kp43
              have kp56 : mI M40 26 = mI M 26 := kp_go kp8_26 kp44
              have kp57 : mI M40 27 = mI M 27 := kp_go kp8_27 kp45
              have kp58 : mI M40 28 = mI M 28 := kp_go kp8_28 kp46
              refine vc_pop dX4_readProduct_61 rfl ?_
              refine vc_aload_n dX4_readProduct_62 rfl ?_
              refine vc_iload_n dX4_readProduct_63 rfl ?_
              refine vc_cVI dX4_readProduct_64 (ho (M := M40) hB53.1  d (by omega) (by omega) g n (nx g n q25) h52 w sk (by first | (rw [List.length_cons]; omega) | omega) (by rw [show mI M40 22 14 = mI M 22 14 by omega]; exact hw) (by omega)) rfl (okX4_readOne (11 + 3 * nf)) (viX4_readOne (11 + 3 * nf)) (lkX4_179 (11 + 3 * nf)) (s_22 hB53.1.1) cl_4 rfl (by show (11 + 3 * nf) < 12 + 3 * nf; omega) ⟨rfl, rfl⟩ (Nat.le_of_ble_eq_true rfl) (Nat.le_of_ble_eq_true rfl) (Nat.le_of_ble_eq_true rfl) ?_
              rintro x59 M60 ⟨hB61, kp62, kp63, kp64, kp65, kp66, h67, h68, h69, h70, h71, h72⟩
              have hB73 : BF fQ M M60 := BF.go hB53 hB61
              have kp74 : mI M60 24 = mI M 24 := kp_go kp54 kp62
              have kp75 : mI M60 25 = mI M 25 := kp_go kp55 kp63
              have kp76 : mI M60 26 = mI M 26 := kp_go kp56 kp64
              have kp77 : mI M60 27 = mI M 27 := kp_go kp57 kp65
              have kp78 : mI M60 28 = mI M 28 := kp_go kp58 kp66
              refine vc_if_eq dX4_readProduct_67 (fun h79 => ?_) (fun h79 => ?_)
              · refine vc_iconst dX4_readProduct_83 rfl ?_
                refine vc_istore_n dX4_readProduct_84 (Nat.le_of_ble_eq_true rfl) rfl (show _ = [some (aR 22), some (aI d), some (aI 0), some (aI v3), some (aI 20003)] from rfl) ?_
                have hnext : LI g n w sk p (ETr g n) M60 0 (v3 + 1) := Or.inr ⟨rfl, (LR.bad h72 (by omega)).1, kt38 _ (LR.bad h72 (by omega)).2⟩
                refine vc_iincE dX4_readProduct_85 rfl (by omega) (by omega) (Nat.le_of_ble_eq_true rfl) rfl (show _ = [some (aR 22), some (aI d), some (aI 0), some (aI (v3 + 1)), some (aI 20003)] from rfl) ?_
                refine vc_goto dX4_readProduct_88 ?_
                refine vc_less [some (aR 22), some (aI d), some (aI 0), some (aI (v3 + 1)), none] (lessL_keep (lessL_keep (lessL_keep (lessL_keep (lessL_drop (lessL_nil)))))) ?_
                exact ih8 M60 0 (v3 + 1) hB73 kp74 kp75 kp76 kp77 kp78 (by omega) (by omega) (by omega) (by omega) (by first | exact hfirst | exact hnext) (by omega) (by omega) (by omega) (by omega)
              · obtain ⟨q80, hl81, hR82, hE83, hk84⟩ := LR.ok h72 (by omega)
                refine vc_aload_n dX4_readProduct_70 rfl ?_
                refine vc_iload dX4_readProduct_71 rfl ?_
                refine vc_cVI dX4_readProduct_73 (sfX4_emitF (M := M60) hB73.1  g n q80 hR82 20003 ) rfl okX4_emit viX4_emit lkX4_176 (s_22 hB73.1.1) cl_4 rfl (by show 0 < 12 + 3 * nf; omega) ⟨rfl, rfl⟩ (Nat.le_of_ble_eq_true rfl) (Nat.le_of_ble_eq_true rfl) (Nat.le_of_ble_eq_true rfl) ?_
                rintro x85 M86 ⟨hB87, kp88, kp89, kp90, kp91, kp92, h93, h94, h95, h96, h97, h98⟩
                have hB99 : BF fQ M M86 := BF.go hB73 hB87
                have kp100 : mI M86 24 = mI M 24 := kp_go kp74 kp88
                have kp101 : mI M86 25 = mI M 25 := kp_go kp75 kp89
                have kp102 : mI M86 26 = mI M 26 := kp_go kp76 kp90
                have kp103 : mI M86 27 = mI M 27 := kp_go kp77 kp91
                have kp104 : mI M86 28 = mI M 28 := kp_go kp78 kp92
                refine vc_if_eq dX4_readProduct_76 (fun h105 => by exfalso; omega) (fun h105 => ?_)
                refine vc_iconst dX4_readProduct_79 rfl ?_
                refine vc_goto dX4_readProduct_80 ?_
                refine vc_istore_n dX4_readProduct_84 (Nat.le_of_ble_eq_true rfl) rfl (show _ = [some (aR 22), some (aI d), some (aI 1), some (aI v3), some (aI 20003)] from rfl) ?_
                have hnext : LI g n w sk p (ETr g n) M86 1 (v3 + 1) := Or.inl ⟨rfl, q80, by omega, h98, hE83, fun o r => kt38 o (hk84 o (by rw [hd]; exact r))⟩
                refine vc_iincE dX4_readProduct_85 rfl (by omega) (by omega) (Nat.le_of_ble_eq_true rfl) rfl (show _ = [some (aR 22), some (aI d), some (aI 1), some (aI (v3 + 1)), some (aI 20003)] from rfl) ?_
                refine vc_goto dX4_readProduct_88 ?_
                refine vc_less [some (aR 22), some (aI d), some (aI 1), some (aI (v3 + 1)), none] (lessL_keep (lessL_keep (lessL_keep (lessL_keep (lessL_drop (lessL_nil)))))) ?_
                exact ih8 M86 1 (v3 + 1) hB99 kp100 kp101 kp102 kp103 kp104 (by omega) (by omega) (by omega) (by omega) (by first | exact hfirst | exact hnext) (by omega) (by omega) (by omega) (by omega)
            · refine vc_sipush dX4_readProduct_46 rfl ?_
              refine vc_goto dX4_readProduct_49 ?_
              refine vc_istore dX4_readProduct_55 (Nat.le_of_ble_eq_true rfl) rfl (show _ = [some (aR 22), some (aI d), some (aI v2), some (aI v3), some (aI 20002)] from rfl) ?_
              have kt106 : ∀ o, Rn (tk g n) (nx g n) w sk false (nx g n q25) o → Rn (tk g n) (nx g n) w sk false p o := fun o r => hk29 o (t_op (by omega) r)
              refine vc_aload_n dX4_readProduct_57 rfl ?_
              refine vc_cVI dX4_readProduct_58 (sfX4_takeTokenF (M := Mq8) hQ8.1  g n q25 hR27 (by omega)) rfl okX4_takeToken viX4_takeToken lkX4_65 (s_22 hQ8.1.1) cl_4 rfl (by show 0 < 12 + 3 * nf; omega) ⟨rfl, rfl⟩ (Nat.le_of_ble_eq_true rfl) (Nat.le_of_ble_eq_true rfl) (Nat.le_of_ble_eq_true rfl) ?_
              rintro x107 M108 ⟨hB109, kp110, kp111, kp112, kp113, kp114, h115, h116, h117, h118, h119, h120⟩
              have hB121 : BF fQ M M108 := BF.go hQ8 hB109
              have kp122 : mI M108 24 = mI M 24 := kp_go kp8_24 kp110
              have kp123 : mI M108 25 = mI M 25 := kp_go kp8_25 kp111
              have kp124 : mI M108 26 = mI M 26 := kp_go kp8_26 kp112
              have kp125 : mI M108 27 = mI M 27 := kp_go kp8_27 kp113
              have kp126 : mI M108 28 = mI M 28 := kp_go kp8_28 kp114
              refine vc_pop dX4_readProduct_61 rfl ?_
              refine vc_aload_n dX4_readProduct_62 rfl ?_
              refine vc_iload_n dX4_readProduct_63 rfl ?_
              refine vc_cVI dX4_readProduct_64 (ho (M := M108) hB121.1  d (by omega) (by omega) g n (nx g n q25) h120 w sk (by first | (rw [List.length_cons]; omega) | omega) (by rw [show mI M108 22 14 = mI M 22 14 by omega]; exact hw) (by omega)) rfl (okX4_readOne (11 + 3 * nf)) (viX4_readOne (11 + 3 * nf)) (lkX4_179 (11 + 3 * nf)) (s_22 hB121.1.1) cl_4 rfl (by show (11 + 3 * nf) < 12 + 3 * nf; omega) ⟨rfl, rfl⟩ (Nat.le_of_ble_eq_true rfl) (Nat.le_of_ble_eq_true rfl) (Nat.le_of_ble_eq_true rfl) ?_
              rintro x127 M128 ⟨hB129, kp130, kp131, kp132, kp133, kp134, h135, h136, h137, h138, h139, h140⟩
              have hB141 : BF fQ M M128 := BF.go hB121 hB129
              have kp142 : mI M128 24 = mI M 24 := kp_go kp122 kp130
              have kp143 : mI M128 25 = mI M 25 := kp_go kp123 kp131
              have kp144 : mI M128 26 = mI M 26 := kp_go kp124 kp132
              have kp145 : mI M128 27 = mI M 27 := kp_go kp125 kp133
              have kp146 : mI M128 28 = mI M 28 := kp_go kp126 kp134
              refine vc_if_eq dX4_readProduct_67 (fun h147 => ?_) (fun h147 => ?_)
              · refine vc_iconst dX4_readProduct_83 rfl ?_
                refine vc_istore_n dX4_readProduct_84 (Nat.le_of_ble_eq_true rfl) rfl (show _ = [some (aR 22), some (aI d), some (aI 0), some (aI v3), some (aI 20002)] from rfl) ?_
                have hnext : LI g n w sk p (ETr g n) M128 0 (v3 + 1) := Or.inr ⟨rfl, (LR.bad h140 (by omega)).1, kt106 _ (LR.bad h140 (by omega)).2⟩
                refine vc_iincE dX4_readProduct_85 rfl (by omega) (by omega) (Nat.le_of_ble_eq_true rfl) rfl (show _ = [some (aR 22), some (aI d), some (aI 0), some (aI (v3 + 1)), some (aI 20002)] from rfl) ?_
                refine vc_goto dX4_readProduct_88 ?_
                refine vc_less [some (aR 22), some (aI d), some (aI 0), some (aI (v3 + 1)), none] (lessL_keep (lessL_keep (lessL_keep (lessL_keep (lessL_drop (lessL_nil)))))) ?_
                exact ih8 M128 0 (v3 + 1) hB141 kp142 kp143 kp144 kp145 kp146 (by omega) (by omega) (by omega) (by omega) (by first | exact hfirst | exact hnext) (by omega) (by omega) (by omega) (by omega)
              · obtain ⟨q148, hl149, hR150, hE151, hk152⟩ := LR.ok h140 (by omega)
                refine vc_aload_n dX4_readProduct_70 rfl ?_
                refine vc_iload dX4_readProduct_71 rfl ?_
                refine vc_cVI dX4_readProduct_73 (sfX4_emitF (M := M128) hB141.1  g n q148 hR150 20002 ) rfl okX4_emit viX4_emit lkX4_176 (s_22 hB141.1.1) cl_4 rfl (by show 0 < 12 + 3 * nf; omega) ⟨rfl, rfl⟩ (Nat.le_of_ble_eq_true rfl) (Nat.le_of_ble_eq_true rfl) (Nat.le_of_ble_eq_true rfl) ?_
                rintro x153 M154 ⟨hB155, kp156, kp157, kp158, kp159, kp160, h161, h162, h163, h164, h165, h166⟩
                have hB167 : BF fQ M M154 := BF.go hB141 hB155
                have kp168 : mI M154 24 = mI M 24 := kp_go kp142 kp156
                have kp169 : mI M154 25 = mI M 25 := kp_go kp143 kp157
                have kp170 : mI M154 26 = mI M 26 := kp_go kp144 kp158
                have kp171 : mI M154 27 = mI M 27 := kp_go kp145 kp159
                have kp172 : mI M154 28 = mI M 28 := kp_go kp146 kp160
                refine vc_if_eq dX4_readProduct_76 (fun h173 => by exfalso; omega) (fun h173 => ?_)
                refine vc_iconst dX4_readProduct_79 rfl ?_
                refine vc_goto dX4_readProduct_80 ?_
                refine vc_istore_n dX4_readProduct_84 (Nat.le_of_ble_eq_true rfl) rfl (show _ = [some (aR 22), some (aI d), some (aI 1), some (aI v3), some (aI 20002)] from rfl) ?_
                have hnext : LI g n w sk p (ETr g n) M154 1 (v3 + 1) := Or.inl ⟨rfl, q148, by omega, h166, hE151, fun o r => kt106 o (hk152 o (by rw [hd]; exact r))⟩
                refine vc_iincE dX4_readProduct_85 rfl (by omega) (by omega) (Nat.le_of_ble_eq_true rfl) rfl (show _ = [some (aR 22), some (aI d), some (aI 1), some (aI (v3 + 1)), some (aI 20002)] from rfl) ?_
                refine vc_goto dX4_readProduct_88 ?_
                refine vc_less [some (aR 22), some (aI d), some (aI 1), some (aI (v3 + 1)), none] (lessL_keep (lessL_keep (lessL_keep (lessL_keep (lessL_drop (lessL_nil)))))) ?_
                exact ih8 M154 1 (v3 + 1) hB167 kp168 kp169 kp170 kp171 kp172 (by omega) (by omega) (by omega) (by omega) (by first | exact hfirst | exact hnext) (by omega) (by omega) (by omega) (by omega)
          · refine vc_aload_n dX4_readProduct_28 rfl ?_
            refine vc_bipush dX4_readProduct_29 rfl ?_
            refine vc_cVI dX4_readProduct_31 (sfX4_isSignF (M := Mq8) hQ8.1  47 ) rfl okX4_isSign viX4_isSign lkX4_163 (s_22 hQ8.1.1) cl_4 rfl (by show 0 < 12 + 3 * nf; omega) ⟨rfl, rfl⟩ (Nat.le_of_ble_eq_true rfl) (Nat.le_of_ble_eq_true rfl) (Nat.le_of_ble_eq_true rfl) ?_
            rintro x174 _ ⟨rfl, h175, h176, h177⟩
            refine vc_if_eq dX4_readProduct_34 (fun h178 => ?_) (fun h178 => ?_)
            · refine vc_iload_n dX4_readProduct_91 rfl ?_
              refine vc_zret dX4_readProduct_92 rfl (by first | decide | omega) (Nat.le_of_ble_eq_true rfl) (Nat.le_of_ble_eq_true rfl) ?_
              exact ⟨_, rfl, hQ8, kp8_24, kp8_25, kp8_26, kp8_27, kp8_28, by omega, by omega, by omega, by omega, by omega, Or.inl ⟨by omega, q25, by omega, hR27, (by unfold EMul; omega), fun o r => hk29 o (by rw [hd] at r; exact r)⟩⟩
            · refine vc_aload_n dX4_readProduct_37 rfl ?_
              refine vc_getI dX4_readProduct_38 flX4_119 (s_22 hQ8.1.1) rfl ?_
              refine vc_bipush dX4_readProduct_41 rfl ?_
              refine vc_icmp_ne dX4_readProduct_43 (fun h179 => ?_) (fun h179 => ?_)
              · refine vc_sipush dX4_readProduct_52 rfl ?_
                refine vc_istore dX4_readProduct_55 (Nat.le_of_ble_eq_true rfl) rfl (show _ = [some (aR 22), some (aI d), some (aI v2), some (aI v3), some (aI 20003)] from rfl) ?_
                have kt180 : ∀ o, Rn (tk g n) (nx g n) w sk false (nx g n q25) o → Rn (tk g n) (nx g n) w sk false p o := fun o r => hk29 o (t_op (by omega) r)
                refine vc_aload_n dX4_readProduct_57 rfl ?_
                refine vc_cVI dX4_readProduct_58 (sfX4_takeTokenF (M := Mq8) hQ8.1  g n q25 hR27 (by omega)) rfl okX4_takeToken viX4_takeToken lkX4_65 (s_22 hQ8.1.1) cl_4 rfl (by show 0 < 12 + 3 * nf; omega) ⟨rfl, rfl⟩ (Nat.le_of_ble_eq_true rfl) (Nat.le_of_ble_eq_true rfl) (Nat.le_of_ble_eq_true rfl) ?_
                rintro x181 M182 ⟨hB183, kp184, kp185, kp186, kp187, kp188, h189, h190, h191, h192, h193, h194⟩
                have hB195 : BF fQ M M182 := BF.go hQ8 hB183
                have kp196 : mI M182 24 = mI M 24 := kp_go kp8_24 kp184
                have kp197 : mI M182 25 = mI M 25 := kp_go kp8_25 kp185
                have kp198 : mI M182 26 = mI M 26 := kp_go kp8_26 kp186
                have kp199 : mI M182 27 = mI M 27 := kp_go kp8_27 kp187
                have kp200 : mI M182 28 = mI M 28 := kp_go kp8_28 kp188
                refine vc_pop dX4_readProduct_61 rfl ?_
                refine vc_aload_n dX4_readProduct_62 rfl ?_
                refine vc_iload_n dX4_readProduct_63 rfl ?_
                refine vc_cVI dX4_readProduct_64 (ho (M := M182) hB195.1  d (by omega) (by omega) g n (nx g n q25) h194 w sk (by first | (rw [List.length_cons]; omega) | omega) (by rw [show mI M182 22 14 = mI M 22 14 by omega]; exact hw) (by omega)) rfl (okX4_readOne (11 + 3 * nf)) (viX4_readOne (11 + 3 * nf)) (lkX4_179 (11 + 3 * nf)) (s_22 hB195.1.1) cl_4 rfl (by show (11 + 3 * nf) < 12 + 3 * nf; omega) ⟨rfl, rfl⟩ (Nat.le_of_ble_eq_true rfl) (Nat.le_of_ble_eq_true rfl) (Nat.le_of_ble_eq_true rfl) ?_
                rintro x201 M202 ⟨hB203, kp204, kp205, kp206, kp207, kp208, h209, h210, h211, h212, h213, h214⟩
                have hB215 : BF fQ M M202 := BF.go hB195 hB203
                have kp216 : mI M202 24 = mI M 24 := kp_go kp196 kp204
                have kp217 : mI M202 25 = mI M 25 := kp_go kp197 kp205
                have kp218 : mI M202 26 = mI M 26 := kp_go kp198 kp206
                have kp219 : mI M202 27 = mI M 27 := kp_go kp199 kp207
                have kp220 : mI M202 28 = mI M 28 := kp_go kp200 kp208
                refine vc_if_eq dX4_readProduct_67 (fun h221 => ?_) (fun h221 => ?_)
                · refine vc_iconst dX4_readProduct_83 rfl ?_
                  refine vc_istore_n dX4_readProduct_84 (Nat.le_of_ble_eq_true rfl) rfl (show _ = [some (aR 22), some (aI d), some (aI 0), some (aI v3), some (aI 20003)] from rfl) ?_
                  have hnext : LI g n w sk p (ETr g n) M202 0 (v3 + 1) := Or.inr ⟨rfl, (LR.bad h214 (by omega)).1, kt180 _ (LR.bad h214 (by omega)).2⟩
                  refine vc_iincE dX4_readProduct_85 rfl (by omega) (by omega) (Nat.le_of_ble_eq_true rfl) rfl (show _ = [some (aR 22), some (aI d), some (aI 0), some (aI (v3 + 1)), some (aI 20003)] from rfl) ?_
                  refine vc_goto dX4_readProduct_88 ?_
                  refine vc_less [some (aR 22), some (aI d), some (aI 0), some (aI (v3 + 1)), none] (lessL_keep (lessL_keep (lessL_keep (lessL_keep (lessL_drop (lessL_nil)))))) ?_
                  exact ih8 M202 0 (v3 + 1) hB215 kp216 kp217 kp218 kp219 kp220 (by omega) (by omega) (by omega) (by omega) (by first | exact hfirst | exact hnext) (by omega) (by omega) (by omega) (by omega)
                · obtain ⟨q222, hl223, hR224, hE225, hk226⟩ := LR.ok h214 (by omega)
                  refine vc_aload_n dX4_readProduct_70 rfl ?_
                  refine vc_iload dX4_readProduct_71 rfl ?_
                  refine vc_cVI dX4_readProduct_73 (sfX4_emitF (M := M202) hB215.1  g n q222 hR224 20003 ) rfl okX4_emit viX4_emit lkX4_176 (s_22 hB215.1.1) cl_4 rfl (by show 0 < 12 + 3 * nf; omega) ⟨rfl, rfl⟩ (Nat.le_of_ble_eq_true rfl) (Nat.le_of_ble_eq_true rfl) (Nat.le_of_ble_eq_true rfl) ?_
                  rintro x227 M228 ⟨hB229, kp230, kp231, kp232, kp233, kp234, h235, h236, h237, h238, h239, h240⟩
                  have hB241 : BF fQ M M228 := BF.go hB215 hB229
                  have kp242 : mI M228 24 = mI M 24 := kp_go kp216 kp230
                  have kp243 : mI M228 25 = mI M 25 := kp_go kp217 kp231
                  have kp244 : mI M228 26 = mI M 26 := kp_go kp218 kp232
                  have kp245 : mI M228 27 = mI M 27 := kp_go kp219 kp233
                  have kp246 : mI M228 28 = mI M 28 := kp_go kp220 kp234
                  refine vc_if_eq dX4_readProduct_76 (fun h247 => by exfalso; omega) (fun h247 => ?_)
                  refine vc_iconst dX4_readProduct_79 rfl ?_
                  refine vc_goto dX4_readProduct_80 ?_
                  refine vc_istore_n dX4_readProduct_84 (Nat.le_of_ble_eq_true rfl) rfl (show _ = [some (aR 22), some (aI d), some (aI 1), some (aI v3), some (aI 20003)] from rfl) ?_
                  have hnext : LI g n w sk p (ETr g n) M228 1 (v3 + 1) := Or.inl ⟨rfl, q222, by omega, h240, hE225, fun o r => kt180 o (hk226 o (by rw [hd]; exact r))⟩
                  refine vc_iincE dX4_readProduct_85 rfl (by omega) (by omega) (Nat.le_of_ble_eq_true rfl) rfl (show _ = [some (aR 22), some (aI d), some (aI 1), some (aI (v3 + 1)), some (aI 20003)] from rfl) ?_
                  refine vc_goto dX4_readProduct_88 ?_
                  refine vc_less [some (aR 22), some (aI d), some (aI 1), some (aI (v3 + 1)), none] (lessL_keep (lessL_keep (lessL_keep (lessL_keep (lessL_drop (lessL_nil)))))) ?_
                  exact ih8 M228 1 (v3 + 1) hB241 kp242 kp243 kp244 kp245 kp246 (by omega) (by omega) (by omega) (by omega) (by first | exact hfirst | exact hnext) (by omega) (by omega) (by omega) (by omega)
              · refine vc_sipush dX4_readProduct_46 rfl ?_
                refine vc_goto dX4_readProduct_49 ?_
                refine vc_istore dX4_readProduct_55 (Nat.le_of_ble_eq_true rfl) rfl (show _ = [some (aR 22), some (aI d), some (aI v2), some (aI v3), some (aI 20002)] from rfl) ?_
                have kt248 : ∀ o, Rn (tk g n) (nx g n) w sk false (nx g n q25) o → Rn (tk g n) (nx g n) w sk false p o := fun o r => hk29 o (t_op (by omega) r)
                refine vc_aload_n dX4_readProduct_57 rfl ?_
                refine vc_cVI dX4_readProduct_58 (sfX4_takeTokenF (M := Mq8) hQ8.1  g n q25 hR27 (by omega)) rfl okX4_takeToken viX4_takeToken lkX4_65 (s_22 hQ8.1.1) cl_4 rfl (by show 0 < 12 + 3 * nf; omega) ⟨rfl, rfl⟩ (Nat.le_of_ble_eq_true rfl) (Nat.le_of_ble_eq_true rfl) (Nat.le_of_ble_eq_true rfl) ?_
                rintro x249 M250 ⟨hB251, kp252, kp253, kp254, kp255, kp256, h257, h258, h259, h260, h261, h262⟩
                have hB263 : BF fQ M M250 := BF.go hQ8 hB251
                have kp264 : mI M250 24 = mI M 24 := kp_go kp8_24 kp252
                have kp265 : mI M250 25 = mI M 25 := kp_go kp8_25 kp253
                have kp266 : mI M250 26 = mI M 26 := kp_go kp8_26 kp254
                have kp267 : mI M250 27 = mI M 27 := kp_go kp8_27 kp255
                have kp268 : mI M250 28 = mI M 28 := kp_go kp8_28 kp256
                refine vc_pop dX4_readProduct_61 rfl ?_
                refine vc_aload_n dX4_readProduct_62 rfl ?_
                refine vc_iload_n dX4_readProduct_63 rfl ?_
                refine vc_cVI dX4_readProduct_64 (ho (M := M250) hB263.1  d (by omega) (by omega) g n (nx g n q25) h262 w sk (by first | (rw [List.length_cons]; omega) | omega) (by rw [show mI M250 22 14 = mI M 22 14 by omega]; exact hw) (by omega)) rfl (okX4_readOne (11 + 3 * nf)) (viX4_readOne (11 + 3 * nf)) (lkX4_179 (11 + 3 * nf)) (s_22 hB263.1.1) cl_4 rfl (by show (11 + 3 * nf) < 12 + 3 * nf; omega) ⟨rfl, rfl⟩ (Nat.le_of_ble_eq_true rfl) (Nat.le_of_ble_eq_true rfl) (Nat.le_of_ble_eq_true rfl) ?_
                rintro x269 M270 ⟨hB271, kp272, kp273, kp274, kp275, kp276, h277, h278, h279, h280, h281, h282⟩
                have hB283 : BF fQ M M270 := BF.go hB263 hB271
                have kp284 : mI M270 24 = mI M 24 := kp_go kp264 kp272
                have kp285 : mI M270 25 = mI M 25 := kp_go kp265 kp273
                have kp286 : mI M270 26 = mI M 26 := kp_go kp266 kp274
                have kp287 : mI M270 27 = mI M 27 := kp_go kp267 kp275
                have kp288 : mI M270 28 = mI M 28 := kp_go kp268 kp276
                refine vc_if_eq dX4_readProduct_67 (fun h289 => ?_) (fun h289 => ?_)
                · refine vc_iconst dX4_readProduct_83 rfl ?_
                  refine vc_istore_n dX4_readProduct_84 (Nat.le_of_ble_eq_true rfl) rfl (show _ = [some (aR 22), some (aI d), some (aI 0), some (aI v3), some (aI 20002)] from rfl) ?_
                  have hnext : LI g n w sk p (ETr g n) M270 0 (v3 + 1) := Or.inr ⟨rfl, (LR.bad h282 (by omega)).1, kt248 _ (LR.bad h282 (by omega)).2⟩
                  refine vc_iincE dX4_readProduct_85 rfl (by omega) (by omega) (Nat.le_of_ble_eq_true rfl) rfl (show _ = [some (aR 22), some (aI d), some (aI 0), some (aI (v3 + 1)), some (aI 20002)] from rfl) ?_
                  refine vc_goto dX4_readProduct_88 ?_
                  refine vc_less [some (aR 22), some (aI d), some (aI 0), some (aI (v3 + 1)), none] (lessL_keep (lessL_keep (lessL_keep (lessL_keep (lessL_drop (lessL_nil)))))) ?_
                  exact ih8 M270 0 (v3 + 1) hB283 kp284 kp285 kp286 kp287 kp288 (by omega) (by omega) (by omega) (by omega) (by first | exact hfirst | exact hnext) (by omega) (by omega) (by omega) (by omega)
                · obtain ⟨q290, hl291, hR292, hE293, hk294⟩ := LR.ok h282 (by omega)
                  refine vc_aload_n dX4_readProduct_70 rfl ?_
                  refine vc_iload dX4_readProduct_71 rfl ?_
                  refine vc_cVI dX4_readProduct_73 (sfX4_emitF (M := M270) hB283.1  g n q290 hR292 20002 ) rfl okX4_emit viX4_emit lkX4_176 (s_22 hB283.1.1) cl_4 rfl (by show 0 < 12 + 3 * nf; omega) ⟨rfl, rfl⟩ (Nat.le_of_ble_eq_true rfl) (Nat.le_of_ble_eq_true rfl) (Nat.le_of_ble_eq_true rfl) ?_
                  rintro x295 M296 ⟨hB297, kp298, kp299, kp300, kp301, kp302, h303, h304, h305, h306, h307, h308⟩
                  have hB309 : BF fQ M M296 := BF.go hB283 hB297
                  have kp310 : mI M296 24 = mI M 24 := kp_go kp284 kp298
                  have kp311 : mI M296 25 = mI M 25 := kp_go kp285 kp299
                  have kp312 : mI M296 26 = mI M 26 := kp_go kp286 kp300
                  have kp313 : mI M296 27 = mI M 27 := kp_go kp287 kp301
                  have kp314 : mI M296 28 = mI M 28 := kp_go kp288 kp302
                  refine vc_if_eq dX4_readProduct_76 (fun h315 => by exfalso; omega) (fun h315 => ?_)
                  refine vc_iconst dX4_readProduct_79 rfl ?_
                  refine vc_goto dX4_readProduct_80 ?_
                  refine vc_istore_n dX4_readProduct_84 (Nat.le_of_ble_eq_true rfl) rfl (show _ = [some (aR 22), some (aI d), some (aI 1), some (aI v3), some (aI 20002)] from rfl) ?_
                  have hnext : LI g n w sk p (ETr g n) M296 1 (v3 + 1) := Or.inl ⟨rfl, q290, by omega, h308, hE293, fun o r => kt248 o (hk294 o (by rw [hd]; exact r))⟩
                  refine vc_iincE dX4_readProduct_85 rfl (by omega) (by omega) (Nat.le_of_ble_eq_true rfl) rfl (show _ = [some (aR 22), some (aI d), some (aI 1), some (aI (v3 + 1)), some (aI 20002)] from rfl) ?_
                  refine vc_goto dX4_readProduct_88 ?_
                  refine vc_less [some (aR 22), some (aI d), some (aI 1), some (aI (v3 + 1)), none] (lessL_keep (lessL_keep (lessL_keep (lessL_keep (lessL_drop (lessL_nil)))))) ?_
                  exact ih8 M296 1 (v3 + 1) hB309 kp310 kp311 kp312 kp313 kp314 (by omega) (by omega) (by omega) (by omega) (by first | exact hfirst | exact hnext) (by omega) (by omega) (by omega) (by omega)
  exact lp8 _ M4 x3 0 hB17 kp18 kp19 kp20 kp21 kp22 (by omega) (by omega) (by omega) (by omega) (by first | exact hfirst | exact hnext) (by omega) (by omega) (by omega) (Nat.lt_succ_self _)

set_option maxRecDepth 4000 in
theorem ld_sum {l : Launch} {nf : Nat} (hp : LdP l nf) : LdS l nf := by
  intro M hB d p0 p1 g n p hR w sk hl hd hw hnf
  have hB0 : BF fQ M M := BF.start hB
  refine Call.of [some (aR 22), some (aI d), none, none, none] rfl (Nat.le_of_ble_eq_true rfl) rfl ?_
  have ct1 := RS.ct hR
  unfold CT at ct1
  have rg2 := RS.rg hR
  refine vc_aload_n dX4_readSum_0 rfl ?_
  refine vc_iload_n dX4_readSum_1 rfl ?_
  refine vc_cVI dX4_readSum_2 (hp (M := M) hB0.1  d (by omega) (by omega) g n p hR w sk (by first | (rw [List.length_cons]; omega) | omega) hd (by rw [show mI M 22 14 = mI M 22 14 by omega]; exact hw) (by omega)) rfl (okX4_readProduct (12 + 3 * nf)) (viX4_readProduct (12 + 3 * nf)) (lkX4_173 (12 + 3 * nf)) (s_22 hB0.1.1) cl_4 rfl (by show (12 + 3 * nf) < 13 + 3 * nf; omega) ⟨rfl, rfl⟩ (Nat.le_of_ble_eq_true rfl) (Nat.le_of_ble_eq_true rfl) (Nat.le_of_ble_eq_true rfl) ?_
  rintro x3 M4 ⟨hB5, kp6, kp7, kp8, kp9, kp10, h11, h12, h13, h14, h15, h16⟩
  have hB17 : BF fQ M M4 := BF.go hB0 hB5
  have kp18 : mI M4 24 = mI M 24 := kp_go rfl kp6
  have kp19 : mI M4 25 = mI M 25 := kp_go rfl kp7
  have kp20 : mI M4 26 = mI M 26 := kp_go rfl kp8
  have kp21 : mI M4 27 = mI M 27 := kp_go rfl kp9
  have kp22 : mI M4 28 = mI M 28 := kp_go rfl kp10
  refine vc_istore_n dX4_readSum_5 (Nat.le_of_ble_eq_true rfl) rfl (show _ = [some (aR 22), some (aI d), some (aI x3), none, none] from rfl) ?_
  have hfirst : LI g n w sk p (EMul g n) M4 x3 0 := LR.li h16 hd
  refine vc_iconst dX4_readSum_6 rfl ?_
  refine vc_istore_n dX4_readSum_7 (Nat.le_of_ble_eq_true rfl) rfl (show _ = [some (aR 22), some (aI d), some (aI x3), some (aI 0), none] from rfl) ?_
  have lp8 : ∀ (n8 : Nat) (Mq8 : Mem) (v2 : Int) (v3 : Int), (BF fQ M Mq8) → (mI Mq8 24 = mI M 24) → (mI Mq8 25 = mI M 25) → (mI Mq8 26 = mI M 26) → (mI Mq8 27 = mI M 27) → (mI Mq8 28 = mI M 28) → (0 ≤ v2) → (v2 ≤ 1) → (0 ≤ v3) → (v3 ≤ 300) → (LI g n w sk p (EMul g n) Mq8 v2 v3) → (0 ≤ mI Mq8 22 9) → (mI Mq8 22 13 = mI M 22 13) → (mI Mq8 22 14 = mI M 22 14) → (300 - v3).toNat < n8 → VC l (mdX4_readSum (13 + 3 * nf)) 8 [some (aR 22), some (aI d), some (aI v2), some (aI v3), none] [] Mq8 0 0 (fun q N => ∃ r : Int, q = some (aI r) ∧ BF fQ M N ∧ mI N 24 = mI M 24 ∧ mI N 25 = mI M 25 ∧ mI N 26 = mI M 26 ∧ mI N 27 = mI M 27 ∧ mI N 28 = mI M 28 ∧ 0 ≤ r ∧ r ≤ 1 ∧ 0 ≤ mI N 22 9 ∧ mI N 22 13 = mI M 22 13 ∧ mI N 22 14 = mI M 22 14 ∧ LR g n w sk p (EOp g n) N r) := by
    intro n8
    induction n8 with
    | zero => intro Mq8 v2 v3 hQ8 kp8_24 kp8_25 kp8_26 kp8_27 kp8_28 g8_2a g8_2b g8_3a g8_3b g8i0 g8i1 g8i2 g8i3 hm8; exact absurd hm8 (Nat.not_lt_zero _)
    | succ n8 ih8 =>
      intro Mq8 v2 v3 hQ8 kp8_24 kp8_25 kp8_26 kp8_27 kp8_28 g8_2a g8_2b g8_3a g8_3b g8i0 g8i1 g8i2 g8i3 hm8
      refine vc_iload_n dX4_readSum_8 rfl ?_
      refine vc_sipush dX4_readSum_9 rfl ?_
      refine vc_icmp_ge dX4_readSum_12 (fun h23 => ?_) (fun h23 => ?_)
      · refine vc_iload_n dX4_readSum_91 rfl ?_
        refine vc_zret dX4_readSum_92 rfl (by first | decide | omega) (Nat.le_of_ble_eq_true rfl) (Nat.le_of_ble_eq_true rfl) ?_
        exact ⟨_, rfl, hQ8, kp8_24, kp8_25, kp8_26, kp8_27, kp8_28, by omega, by omega, by omega, by omega, by omega, (by first | exact LI.nul g8i0 (by omega) | exact LI.big g8i0 (by omega) (by omega))⟩
      · refine vc_iload_n dX4_readSum_15 rfl ?_
        refine vc_if_eq dX4_readSum_16 (fun h24 => ?_) (fun h24 => ?_)
        · refine vc_iload_n dX4_readSum_91 rfl ?_
          refine vc_zret dX4_readSum_92 rfl (by first | decide | omega) (Nat.le_of_ble_eq_true rfl) (Nat.le_of_ble_eq_true rfl) ?_
          exact ⟨_, rfl, hQ8, kp8_24, kp8_25, kp8_26, kp8_27, kp8_28, by omega, by omega, by omega, by omega, by omega, (by first | exact LI.nul g8i0 (by omega) | exact LI.big g8i0 (by omega) (by omega))⟩
        · obtain ⟨q25, hl26, hR27, hE28, hk29⟩ := LI.ok g8i0 (by omega)
          unfold EMul at hE28
          have ct30 := RS.ct hR27
          unfold CT at ct30
          have rg31 := RS.rg hR27
          refine vc_aload_n dX4_readSum_19 rfl ?_
          refine vc_bipush dX4_readSum_20 rfl ?_
          refine vc_cVI dX4_readSum_22 (sfX4_isSignF (M := Mq8) hQ8.1  43 ) rfl okX4_isSign viX4_isSign lkX4_163 (s_22 hQ8.1.1) cl_4 rfl (by show 0 < 13 + 3 * nf; omega) ⟨rfl, rfl⟩ (Nat.le_of_ble_eq_true rfl) (Nat.le_of_ble_eq_true rfl) (Nat.le_of_ble_eq_true rfl) ?_
          rintro x32 _ ⟨rfl, h33, h34, h35⟩
          refine vc_if_ne dX4_readSum_25 (fun h36 => ?_) (fun h36 => ?_)
          · refine vc_aload_n dX4_readSum_37 rfl ?_
            refine vc_getI dX4_readSum_38 flX4_119 (s_22 hQ8.1.1) rfl ?_
            refine vc_bipush dX4_readSum_41 rfl ?_
            refine vc_icmp_ne dX4_readSum_43 (fun h37 => ?_) (fun h37 => ?_)
            · refine vc_sipush dX4_readSum_52 rfl ?_
              refine vc_istore dX4_readSum_55 (Nat.le_of_ble_eq_true rfl) rfl (show _ = [some (aR 22), some (aI d), some (aI v2), some (aI v3), some (aI 20001)] from rfl) ?_
              have kt38 : ∀ o, Rn (tk g n) (nx g n) w sk false (nx g n q25) o → Rn (tk g n) (nx g n) w sk false p o := fun o r => hk29 o (t_op (by omega) r)
              refine vc_aload_n dX4_readSum_57 rfl ?_
              refine vc_cVI dX4_readSum_58 (sfX4_takeTokenF (M := Mq8) hQ8.1  g n q25 hR27 (by omega)) rfl okX4_takeToken viX4_takeToken lkX4_65 (s_22 hQ8.1.1) cl_4 rfl (by show 0 < 13 + 3 * nf; omega) ⟨rfl, rfl⟩ (Nat.le_of_ble_eq_true rfl) (Nat.le_of_ble_eq_true rfl) (Nat.le_of_ble_eq_true rfl) ?_
              rintro x39 M40 ⟨hB41, kp42, kp43, kp44, kp45, kp46, h47, h48, h49, h50, h51, h52⟩
              have hB53 : BF fQ M M40 := BF.go hQ8 hB41
              have kp54 : mI M40 24 = mI M 24 := kp_go kp8_24 kp42
              have kp55 : mI M40 25 = mI M 25 := kp_go kp8_25 kp43
              have kp56 : mI M40 26 = mI M 26 := kp_go kp8_26 kp44
              have kp57 : mI M40 27 = mI M 27 := kp_go kp8_27 kp45
              have kp58 : mI M40 28 = mI M 28 := kp_go kp8_28 kp46
              refine vc_pop dX4_readSum_61 rfl ?_
              refine vc_aload_n dX4_readSum_62 rfl ?_
              refine vc_iload_n dX4_readSum_63 rfl ?_
              refine vc_cVI dX4_readSum_64 (hp (M := M40) hB53.1  d (by omega) (by omega) g n (nx g n q25) h52 w sk (by first | (rw [List.length_cons]; omega) | omega) hd (by rw [show mI M40 22 14 = mI M 22 14 by omega]; exact hw) (by omega)) rfl (okX4_readProduct (12 + 3 * nf)) (viX4_readProduct (12 + 3 * nf)) (lkX4_173 (12 + 3 * nf)) (s_22 hB53.1.1) cl_4 rfl (by show (12 + 3 * nf) < 13 + 3 * nf; omega) ⟨rfl, rfl⟩ (Nat.le_of_ble_eq_true rfl) (Nat.le_of_ble_eq_true rfl) (Nat.le_of_ble_eq_true rfl) ?_
              rintro x59 M60 ⟨hB61, kp62, kp63, kp64, kp65, kp66, h67, h68, h69, h70, h71, h72⟩
              have hB73 : BF fQ M M60 := BF.go hB53 hB61
              have kp74 : mI M60 24 = mI M 24 := kp_go kp54 kp62
              have kp75 : mI M60 25 = mI M 25 := kp_go kp55 kp63
              have kp76 : mI M60 26 = mI M 26 := kp_go kp56 kp64
              have kp77 : mI M60 27 = mI M 27 := kp_go kp57 kp65
              have kp78 : mI M60 28 = mI M 28 := kp_go kp58 kp66
              refine vc_if_eq dX4_readSum_67 (fun h79 => ?_) (fun h79 => ?_)
              · refine vc_iconst dX4_readSum_83 rfl ?_
                refine vc_istore_n dX4_readSum_84 (Nat.le_of_ble_eq_true rfl) rfl (show _ = [some (aR 22), some (aI d), some (aI 0), some (aI v3), some (aI 20001)] from rfl) ?_
                have hnext : LI g n w sk p (EMul g n) M60 0 (v3 + 1) := Or.inr ⟨rfl, (LR.bad h72 (by omega)).1, kt38 _ (LR.bad h72 (by omega)).2⟩
                refine vc_iincE dX4_readSum_85 rfl (by omega) (by omega) (Nat.le_of_ble_eq_true rfl) rfl (show _ = [some (aR 22), some (aI d), some (aI 0), some (aI (v3 + 1)), some (aI 20001)] from rfl) ?_
                refine vc_goto dX4_readSum_88 ?_
                refine vc_less [some (aR 22), some (aI d), some (aI 0), some (aI (v3 + 1)), none] (lessL_keep (lessL_keep (lessL_keep (lessL_keep (lessL_drop (lessL_nil)))))) ?_
                exact ih8 M60 0 (v3 + 1) hB73 kp74 kp75 kp76 kp77 kp78 (by omega) (by omega) (by omega) (by omega) (by first | exact hfirst | exact hnext) (by omega) (by omega) (by omega) (by omega)
              · obtain ⟨q80, hl81, hR82, hE83, hk84⟩ := LR.ok h72 (by omega)
                unfold EMul at hE83
                refine vc_aload_n dX4_readSum_70 rfl ?_
                refine vc_iload dX4_readSum_71 rfl ?_
                refine vc_cVI dX4_readSum_73 (sfX4_emitF (M := M60) hB73.1  g n q80 hR82 20001 ) rfl okX4_emit viX4_emit lkX4_176 (s_22 hB73.1.1) cl_4 rfl (by show 0 < 13 + 3 * nf; omega) ⟨rfl, rfl⟩ (Nat.le_of_ble_eq_true rfl) (Nat.le_of_ble_eq_true rfl) (Nat.le_of_ble_eq_true rfl) ?_
                rintro x85 M86 ⟨hB87, kp88, kp89, kp90, kp91, kp92, h93, h94, h95, h96, h97, h98⟩
                have hB99 : BF fQ M M86 := BF.go hB73 hB87
                have kp100 : mI M86 24 = mI M 24 := kp_go kp74 kp88
                have kp101 : mI M86 25 = mI M 25 := kp_go kp75 kp89
                have kp102 : mI M86 26 = mI M 26 := kp_go kp76 kp90
                have kp103 : mI M86 27 = mI M 27 := kp_go kp77 kp91
                have kp104 : mI M86 28 = mI M 28 := kp_go kp78 kp92
                refine vc_if_eq dX4_readSum_76 (fun h105 => by exfalso; omega) (fun h105 => ?_)
                refine vc_iconst dX4_readSum_79 rfl ?_
                refine vc_goto dX4_readSum_80 ?_
                refine vc_istore_n dX4_readSum_84 (Nat.le_of_ble_eq_true rfl) rfl (show _ = [some (aR 22), some (aI d), some (aI 1), some (aI v3), some (aI 20001)] from rfl) ?_
                have hnext : LI g n w sk p (EMul g n) M86 1 (v3 + 1) := Or.inl ⟨rfl, q80, by omega, h98, (by unfold EMul; omega), fun o r => kt38 o (hk84 o (by rw [hd]; exact r))⟩
                refine vc_iincE dX4_readSum_85 rfl (by omega) (by omega) (Nat.le_of_ble_eq_true rfl) rfl (show _ = [some (aR 22), some (aI d), some (aI 1), some (aI (v3 + 1)), some (aI 20001)] from rfl) ?_
                refine vc_goto dX4_readSum_88 ?_
                refine vc_less [some (aR 22), some (aI d), some (aI 1), some (aI (v3 + 1)), none] (lessL_keep (lessL_keep (lessL_keep (lessL_keep (lessL_drop (lessL_nil)))))) ?_
                exact ih8 M86 1 (v3 + 1) hB99 kp100 kp101 kp102 kp103 kp104 (by omega) (by omega) (by omega) (by omega) (by first | exact hfirst | exact hnext) (by omega) (by omega) (by omega) (by omega)
            · refine vc_sipush dX4_readSum_46 rfl ?_
              refine vc_goto dX4_readSum_49 ?_
              refine vc_istore dX4_readSum_55 (Nat.le_of_ble_eq_true rfl) rfl (show _ = [some (aR 22), some (aI d), some (aI v2), some (aI v3), some (aI 20000)] from rfl) ?_
              have kt106 : ∀ o, Rn (tk g n) (nx g n) w sk false (nx g n q25) o → Rn (tk g n) (nx g n) w sk false p o := fun o r => hk29 o (t_op (by omega) r)
              refine vc_aload_n dX4_readSum_57 rfl ?_
              refine vc_cVI dX4_readSum_58 (sfX4_takeTokenF (M := Mq8) hQ8.1  g n q25 hR27 (by omega)) rfl okX4_takeToken viX4_takeToken lkX4_65 (s_22 hQ8.1.1) cl_4 rfl (by show 0 < 13 + 3 * nf; omega) ⟨rfl, rfl⟩ (Nat.le_of_ble_eq_true rfl) (Nat.le_of_ble_eq_true rfl) (Nat.le_of_ble_eq_true rfl) ?_
              rintro x107 M108 ⟨hB109, kp110, kp111, kp112, kp113, kp114, h115, h116, h117, h118, h119, h120⟩
              have hB121 : BF fQ M M108 := BF.go hQ8 hB109
              have kp122 : mI M108 24 = mI M 24 := kp_go kp8_24 kp110
              have kp123 : mI M108 25 = mI M 25 := kp_go kp8_25 kp111
              have kp124 : mI M108 26 = mI M 26 := kp_go kp8_26 kp112
              have kp125 : mI M108 27 = mI M 27 := kp_go kp8_27 kp113
              have kp126 : mI M108 28 = mI M 28 := kp_go kp8_28 kp114
              refine vc_pop dX4_readSum_61 rfl ?_
              refine vc_aload_n dX4_readSum_62 rfl ?_
              refine vc_iload_n dX4_readSum_63 rfl ?_
              refine vc_cVI dX4_readSum_64 (hp (M := M108) hB121.1  d (by omega) (by omega) g n (nx g n q25) h120 w sk (by first | (rw [List.length_cons]; omega) | omega) hd (by rw [show mI M108 22 14 = mI M 22 14 by omega]; exact hw) (by omega)) rfl (okX4_readProduct (12 + 3 * nf)) (viX4_readProduct (12 + 3 * nf)) (lkX4_173 (12 + 3 * nf)) (s_22 hB121.1.1) cl_4 rfl (by show (12 + 3 * nf) < 13 + 3 * nf; omega) ⟨rfl, rfl⟩ (Nat.le_of_ble_eq_true rfl) (Nat.le_of_ble_eq_true rfl) (Nat.le_of_ble_eq_true rfl) ?_
              rintro x127 M128 ⟨hB129, kp130, kp131, kp132, kp133, kp134, h135, h136, h137, h138, h139, h140⟩
              have hB141 : BF fQ M M128 := BF.go hB121 hB129
              have kp142 : mI M128 24 = mI M 24 := kp_go kp122 kp130
              have kp143 : mI M128 25 = mI M 25 := kp_go kp123 kp131
              have kp144 : mI M128 26 = mI M 26 := kp_go kp124 kp132
              have kp145 : mI M128 27 = mI M 27 := kp_go kp125 kp133
              have kp146 : mI M128 28 = mI M 28 := kp_go kp126 kp134
              refine vc_if_eq dX4_readSum_67 (fun h147 => ?_) (fun h147 => ?_)
              · refine vc_iconst dX4_readSum_83 rfl ?_
                refine vc_istore_n dX4_readSum_84 (Nat.le_of_ble_eq_true rfl) rfl (show _ = [some (aR 22), some (aI d), some (aI 0), some (aI v3), some (aI 20000)] from rfl) ?_
                have hnext : LI g n w sk p (EMul g n) M128 0 (v3 + 1) := Or.inr ⟨rfl, (LR.bad h140 (by omega)).1, kt106 _ (LR.bad h140 (by omega)).2⟩
                refine vc_iincE dX4_readSum_85 rfl (by omega) (by omega) (Nat.le_of_ble_eq_true rfl) rfl (show _ = [some (aR 22), some (aI d), some (aI 0), some (aI (v3 + 1)), some (aI 20000)] from rfl) ?_
                refine vc_goto dX4_readSum_88 ?_
                refine vc_less [some (aR 22), some (aI d), some (aI 0), some (aI (v3 + 1)), none] (lessL_keep (lessL_keep (lessL_keep (lessL_keep (lessL_drop (lessL_nil)))))) ?_
                exact ih8 M128 0 (v3 + 1) hB141 kp142 kp143 kp144 kp145 kp146 (by omega) (by omega) (by omega) (by omega) (by first | exact hfirst | exact hnext) (by omega) (by omega) (by omega) (by omega)
              · obtain ⟨q148, hl149, hR150, hE151, hk152⟩ := LR.ok h140 (by omega)
                unfold EMul at hE151
                refine vc_aload_n dX4_readSum_70 rfl ?_
                refine vc_iload dX4_readSum_71 rfl ?_
                refine vc_cVI dX4_readSum_73 (sfX4_emitF (M := M128) hB141.1  g n q148 hR150 20000 ) rfl okX4_emit viX4_emit lkX4_176 (s_22 hB141.1.1) cl_4 rfl (by show 0 < 13 + 3 * nf; omega) ⟨rfl, rfl⟩ (Nat.le_of_ble_eq_true rfl) (Nat.le_of_ble_eq_true rfl) (Nat.le_of_ble_eq_true rfl) ?_
                rintro x153 M154 ⟨hB155, kp156, kp157, kp158, kp159, kp160, h161, h162, h163, h164, h165, h166⟩
                have hB167 : BF fQ M M154 := BF.go hB141 hB155
                have kp168 : mI M154 24 = mI M 24 := kp_go kp142 kp156
                have kp169 : mI M154 25 = mI M 25 := kp_go kp143 kp157
                have kp170 : mI M154 26 = mI M 26 := kp_go kp144 kp158
                have kp171 : mI M154 27 = mI M 27 := kp_go kp145 kp159
                have kp172 : mI M154 28 = mI M 28 := kp_go kp146 kp160
                refine vc_if_eq dX4_readSum_76 (fun h173 => by exfalso; omega) (fun h173 => ?_)
                refine vc_iconst dX4_readSum_79 rfl ?_
                refine vc_goto dX4_readSum_80 ?_
                refine vc_istore_n dX4_readSum_84 (Nat.le_of_ble_eq_true rfl) rfl (show _ = [some (aR 22), some (aI d), some (aI 1), some (aI v3), some (aI 20000)] from rfl) ?_
                have hnext : LI g n w sk p (EMul g n) M154 1 (v3 + 1) := Or.inl ⟨rfl, q148, by omega, h166, (by unfold EMul; omega), fun o r => kt106 o (hk152 o (by rw [hd]; exact r))⟩
                refine vc_iincE dX4_readSum_85 rfl (by omega) (by omega) (Nat.le_of_ble_eq_true rfl) rfl (show _ = [some (aR 22), some (aI d), some (aI 1), some (aI (v3 + 1)), some (aI 20000)] from rfl) ?_
                refine vc_goto dX4_readSum_88 ?_
                refine vc_less [some (aR 22), some (aI d), some (aI 1), some (aI (v3 + 1)), none] (lessL_keep (lessL_keep (lessL_keep (lessL_keep (lessL_drop (lessL_nil)))))) ?_
                exact ih8 M154 1 (v3 + 1) hB167 kp168 kp169 kp170 kp171 kp172 (by omega) (by omega) (by omega) (by omega) (by first | exact hfirst | exact hnext) (by omega) (by omega) (by omega) (by omega)
          · refine vc_aload_n dX4_readSum_28 rfl ?_
            refine vc_bipush dX4_readSum_29 rfl ?_
            refine vc_cVI dX4_readSum_31 (sfX4_isSignF (M := Mq8) hQ8.1  45 ) rfl okX4_isSign viX4_isSign lkX4_163 (s_22 hQ8.1.1) cl_4 rfl (by show 0 < 13 + 3 * nf; omega) ⟨rfl, rfl⟩ (Nat.le_of_ble_eq_true rfl) (Nat.le_of_ble_eq_true rfl) (Nat.le_of_ble_eq_true rfl) ?_
            rintro x174 _ ⟨rfl, h175, h176, h177⟩
            refine vc_if_eq dX4_readSum_34 (fun h178 => ?_) (fun h178 => ?_)
            · refine vc_iload_n dX4_readSum_91 rfl ?_
              refine vc_zret dX4_readSum_92 rfl (by first | decide | omega) (Nat.le_of_ble_eq_true rfl) (Nat.le_of_ble_eq_true rfl) ?_
              exact ⟨_, rfl, hQ8, kp8_24, kp8_25, kp8_26, kp8_27, kp8_28, by omega, by omega, by omega, by omega, by omega, Or.inl ⟨by omega, q25, by omega, hR27, (by unfold EOp; omega), fun o r => hk29 o (by rw [hd] at r; exact r)⟩⟩
            · refine vc_aload_n dX4_readSum_37 rfl ?_
              refine vc_getI dX4_readSum_38 flX4_119 (s_22 hQ8.1.1) rfl ?_
              refine vc_bipush dX4_readSum_41 rfl ?_
              refine vc_icmp_ne dX4_readSum_43 (fun h179 => ?_) (fun h179 => ?_)
              · refine vc_sipush dX4_readSum_52 rfl ?_
                refine vc_istore dX4_readSum_55 (Nat.le_of_ble_eq_true rfl) rfl (show _ = [some (aR 22), some (aI d), some (aI v2), some (aI v3), some (aI 20001)] from rfl) ?_
                have kt180 : ∀ o, Rn (tk g n) (nx g n) w sk false (nx g n q25) o → Rn (tk g n) (nx g n) w sk false p o := fun o r => hk29 o (t_op (by omega) r)
                refine vc_aload_n dX4_readSum_57 rfl ?_
                refine vc_cVI dX4_readSum_58 (sfX4_takeTokenF (M := Mq8) hQ8.1  g n q25 hR27 (by omega)) rfl okX4_takeToken viX4_takeToken lkX4_65 (s_22 hQ8.1.1) cl_4 rfl (by show 0 < 13 + 3 * nf; omega) ⟨rfl, rfl⟩ (Nat.le_of_ble_eq_true rfl) (Nat.le_of_ble_eq_true rfl) (Nat.le_of_ble_eq_true rfl) ?_
                rintro x181 M182 ⟨hB183, kp184, kp185, kp186, kp187, kp188, h189, h190, h191, h192, h193, h194⟩
                have hB195 : BF fQ M M182 := BF.go hQ8 hB183
                have kp196 : mI M182 24 = mI M 24 := kp_go kp8_24 kp184
                have kp197 : mI M182 25 = mI M 25 := kp_go kp8_25 kp185
                have kp198 : mI M182 26 = mI M 26 := kp_go kp8_26 kp186
                have kp199 : mI M182 27 = mI M 27 := kp_go kp8_27 kp187
                have kp200 : mI M182 28 = mI M 28 := kp_go kp8_28 kp188
                refine vc_pop dX4_readSum_61 rfl ?_
                refine vc_aload_n dX4_readSum_62 rfl ?_
                refine vc_iload_n dX4_readSum_63 rfl ?_
                refine vc_cVI dX4_readSum_64 (hp (M := M182) hB195.1  d (by omega) (by omega) g n (nx g n q25) h194 w sk (by first | (rw [List.length_cons]; omega) | omega) hd (by rw [show mI M182 22 14 = mI M 22 14 by omega]; exact hw) (by omega)) rfl (okX4_readProduct (12 + 3 * nf)) (viX4_readProduct (12 + 3 * nf)) (lkX4_173 (12 + 3 * nf)) (s_22 hB195.1.1) cl_4 rfl (by show (12 + 3 * nf) < 13 + 3 * nf; omega) ⟨rfl, rfl⟩ (Nat.le_of_ble_eq_true rfl) (Nat.le_of_ble_eq_true rfl) (Nat.le_of_ble_eq_true rfl) ?_
                rintro x201 M202 ⟨hB203, kp204, kp205, kp206, kp207, kp208, h209, h210, h211, h212, h213, h214⟩
                have hB215 : BF fQ M M202 := BF.go hB195 hB203
                have kp216 : mI M202 24 = mI M 24 := kp_go kp196 kp204
                have kp217 : mI M202 25 = mI M 25 := kp_go kp197 kp205
                have kp218 : mI M202 26 = mI M 26 := kp_go kp198 kp206
                have kp219 : mI M202 27 = mI M 27 := kp_go kp199 kp207
                have kp220 : mI M202 28 = mI M 28 := kp_go kp200 kp208
                refine vc_if_eq dX4_readSum_67 (fun h221 => ?_) (fun h221 => ?_)
                · refine vc_iconst dX4_readSum_83 rfl ?_
                  refine vc_istore_n dX4_readSum_84 (Nat.le_of_ble_eq_true rfl) rfl (show _ = [some (aR 22), some (aI d), some (aI 0), some (aI v3), some (aI 20001)] from rfl) ?_
                  have hnext : LI g n w sk p (EMul g n) M202 0 (v3 + 1) := Or.inr ⟨rfl, (LR.bad h214 (by omega)).1, kt180 _ (LR.bad h214 (by omega)).2⟩
                  refine vc_iincE dX4_readSum_85 rfl (by omega) (by omega) (Nat.le_of_ble_eq_true rfl) rfl (show _ = [some (aR 22), some (aI d), some (aI 0), some (aI (v3 + 1)), some (aI 20001)] from rfl) ?_
                  refine vc_goto dX4_readSum_88 ?_
                  refine vc_less [some (aR 22), some (aI d), some (aI 0), some (aI (v3 + 1)), none] (lessL_keep (lessL_keep (lessL_keep (lessL_keep (lessL_drop (lessL_nil)))))) ?_
                  exact ih8 M202 0 (v3 + 1) hB215 kp216 kp217 kp218 kp219 kp220 (by omega) (by omega) (by omega) (by omega) (by first | exact hfirst | exact hnext) (by omega) (by omega) (by omega) (by omega)
                · obtain ⟨q222, hl223, hR224, hE225, hk226⟩ := LR.ok h214 (by omega)
                  unfold EMul at hE225
                  refine vc_aload_n dX4_readSum_70 rfl ?_
                  refine vc_iload dX4_readSum_71 rfl ?_
                  refine vc_cVI dX4_readSum_73 (sfX4_emitF (M := M202) hB215.1  g n q222 hR224 20001 ) rfl okX4_emit viX4_emit lkX4_176 (s_22 hB215.1.1) cl_4 rfl (by show 0 < 13 + 3 * nf; omega) ⟨rfl, rfl⟩ (Nat.le_of_ble_eq_true rfl) (Nat.le_of_ble_eq_true rfl) (Nat.le_of_ble_eq_true rfl) ?_
                  rintro x227 M228 ⟨hB229, kp230, kp231, kp232, kp233, kp234, h235, h236, h237, h238, h239, h240⟩
                  have hB241 : BF fQ M M228 := BF.go hB215 hB229
                  have kp242 : mI M228 24 = mI M 24 := kp_go kp216 kp230
                  have kp243 : mI M228 25 = mI M 25 := kp_go kp217 kp231
                  have kp244 : mI M228 26 = mI M 26 := kp_go kp218 kp232
                  have kp245 : mI M228 27 = mI M 27 := kp_go kp219 kp233
                  have kp246 : mI M228 28 = mI M 28 := kp_go kp220 kp234
                  refine vc_if_eq dX4_readSum_76 (fun h247 => by exfalso; omega) (fun h247 => ?_)
                  refine vc_iconst dX4_readSum_79 rfl ?_
                  refine vc_goto dX4_readSum_80 ?_
                  refine vc_istore_n dX4_readSum_84 (Nat.le_of_ble_eq_true rfl) rfl (show _ = [some (aR 22), some (aI d), some (aI 1), some (aI v3), some (aI 20001)] from rfl) ?_
                  have hnext : LI g n w sk p (EMul g n) M228 1 (v3 + 1) := Or.inl ⟨rfl, q222, by omega, h240, (by unfold EMul; omega), fun o r => kt180 o (hk226 o (by rw [hd]; exact r))⟩
                  refine vc_iincE dX4_readSum_85 rfl (by omega) (by omega) (Nat.le_of_ble_eq_true rfl) rfl (show _ = [some (aR 22), some (aI d), some (aI 1), some (aI (v3 + 1)), some (aI 20001)] from rfl) ?_
                  refine vc_goto dX4_readSum_88 ?_
                  refine vc_less [some (aR 22), some (aI d), some (aI 1), some (aI (v3 + 1)), none] (lessL_keep (lessL_keep (lessL_keep (lessL_keep (lessL_drop (lessL_nil)))))) ?_
                  exact ih8 M228 1 (v3 + 1) hB241 kp242 kp243 kp244 kp245 kp246 (by omega) (by omega) (by omega) (by omega) (by first | exact hfirst | exact hnext) (by omega) (by omega) (by omega) (by omega)
              · refine vc_sipush dX4_readSum_46 rfl ?_
                refine vc_goto dX4_readSum_49 ?_
                refine vc_istore dX4_readSum_55 (Nat.le_of_ble_eq_true rfl) rfl (show _ = [some (aR 22), some (aI d), some (aI v2), some (aI v3), some (aI 20000)] from rfl) ?_
                have kt248 : ∀ o, Rn (tk g n) (nx g n) w sk false (nx g n q25) o → Rn (tk g n) (nx g n) w sk false p o := fun o r => hk29 o (t_op (by omega) r)
                refine vc_aload_n dX4_readSum_57 rfl ?_
                refine vc_cVI dX4_readSum_58 (sfX4_takeTokenF (M := Mq8) hQ8.1  g n q25 hR27 (by omega)) rfl okX4_takeToken viX4_takeToken lkX4_65 (s_22 hQ8.1.1) cl_4 rfl (by show 0 < 13 + 3 * nf; omega) ⟨rfl, rfl⟩ (Nat.le_of_ble_eq_true rfl) (Nat.le_of_ble_eq_true rfl) (Nat.le_of_ble_eq_true rfl) ?_
                rintro x249 M250 ⟨hB251, kp252, kp253, kp254, kp255, kp256, h257, h258, h259, h260, h261, h262⟩
                have hB263 : BF fQ M M250 := BF.go hQ8 hB251
                have kp264 : mI M250 24 = mI M 24 := kp_go kp8_24 kp252
                have kp265 : mI M250 25 = mI M 25 := kp_go kp8_25 kp253
                have kp266 : mI M250 26 = mI M 26 := kp_go kp8_26 kp254
                have kp267 : mI M250 27 = mI M 27 := kp_go kp8_27 kp255
                have kp268 : mI M250 28 = mI M 28 := kp_go kp8_28 kp256
                refine vc_pop dX4_readSum_61 rfl ?_
                refine vc_aload_n dX4_readSum_62 rfl ?_
                refine vc_iload_n dX4_readSum_63 rfl ?_
                refine vc_cVI dX4_readSum_64 (hp (M := M250) hB263.1  d (by omega) (by omega) g n (nx g n q25) h262 w sk (by first | (rw [List.length_cons]; omega) | omega) hd (by rw [show mI M250 22 14 = mI M 22 14 by omega]; exact hw) (by omega)) rfl (okX4_readProduct (12 + 3 * nf)) (viX4_readProduct (12 + 3 * nf)) (lkX4_173 (12 + 3 * nf)) (s_22 hB263.1.1) cl_4 rfl (by show (12 + 3 * nf) < 13 + 3 * nf; omega) ⟨rfl, rfl⟩ (Nat.le_of_ble_eq_true rfl) (Nat.le_of_ble_eq_true rfl) (Nat.le_of_ble_eq_true rfl) ?_
                rintro x269 M270 ⟨hB271, kp272, kp273, kp274, kp275, kp276, h277, h278, h279, h280, h281, h282⟩
                have hB283 : BF fQ M M270 := BF.go hB263 hB271
                have kp284 : mI M270 24 = mI M 24 := kp_go kp264 kp272
                have kp285 : mI M270 25 = mI M 25 := kp_go kp265 kp273
                have kp286 : mI M270 26 = mI M 26 := kp_go kp266 kp274
                have kp287 : mI M270 27 = mI M 27 := kp_go kp267 kp275
                have kp288 : mI M270 28 = mI M 28 := kp_go kp268 kp276
                refine vc_if_eq dX4_readSum_67 (fun h289 => ?_) (fun h289 => ?_)
                · refine vc_iconst dX4_readSum_83 rfl ?_
                  refine vc_istore_n dX4_readSum_84 (Nat.le_of_ble_eq_true rfl) rfl (show _ = [some (aR 22), some (aI d), some (aI 0), some (aI v3), some (aI 20000)] from rfl) ?_
                  have hnext : LI g n w sk p (EMul g n) M270 0 (v3 + 1) := Or.inr ⟨rfl, (LR.bad h282 (by omega)).1, kt248 _ (LR.bad h282 (by omega)).2⟩
                  refine vc_iincE dX4_readSum_85 rfl (by omega) (by omega) (Nat.le_of_ble_eq_true rfl) rfl (show _ = [some (aR 22), some (aI d), some (aI 0), some (aI (v3 + 1)), some (aI 20000)] from rfl) ?_
                  refine vc_goto dX4_readSum_88 ?_
                  refine vc_less [some (aR 22), some (aI d), some (aI 0), some (aI (v3 + 1)), none] (lessL_keep (lessL_keep (lessL_keep (lessL_keep (lessL_drop (lessL_nil)))))) ?_
                  exact ih8 M270 0 (v3 + 1) hB283 kp284 kp285 kp286 kp287 kp288 (by omega) (by omega) (by omega) (by omega) (by first | exact hfirst | exact hnext) (by omega) (by omega) (by omega) (by omega)
                · obtain ⟨q290, hl291, hR292, hE293, hk294⟩ := LR.ok h282 (by omega)
                  unfold EMul at hE293
                  refine vc_aload_n dX4_readSum_70 rfl ?_
                  refine vc_iload dX4_readSum_71 rfl ?_
                  refine vc_cVI dX4_readSum_73 (sfX4_emitF (M := M270) hB283.1  g n q290 hR292 20000 ) rfl okX4_emit viX4_emit lkX4_176 (s_22 hB283.1.1) cl_4 rfl (by show 0 < 13 + 3 * nf; omega) ⟨rfl, rfl⟩ (Nat.le_of_ble_eq_true rfl) (Nat.le_of_ble_eq_true rfl) (Nat.le_of_ble_eq_true rfl) ?_
                  rintro x295 M296 ⟨hB297, kp298, kp299, kp300, kp301, kp302, h303, h304, h305, h306, h307, h308⟩
                  have hB309 : BF fQ M M296 := BF.go hB283 hB297
                  have kp310 : mI M296 24 = mI M 24 := kp_go kp284 kp298
                  have kp311 : mI M296 25 = mI M 25 := kp_go kp285 kp299
                  have kp312 : mI M296 26 = mI M 26 := kp_go kp286 kp300
                  have kp313 : mI M296 27 = mI M 27 := kp_go kp287 kp301
                  have kp314 : mI M296 28 = mI M 28 := kp_go kp288 kp302
                  refine vc_if_eq dX4_readSum_76 (fun h315 => by exfalso; omega) (fun h315 => ?_)
                  refine vc_iconst dX4_readSum_79 rfl ?_
                  refine vc_goto dX4_readSum_80 ?_
                  refine vc_istore_n dX4_readSum_84 (Nat.le_of_ble_eq_true rfl) rfl (show _ = [some (aR 22), some (aI d), some (aI 1), some (aI v3), some (aI 20000)] from rfl) ?_
                  have hnext : LI g n w sk p (EMul g n) M296 1 (v3 + 1) := Or.inl ⟨rfl, q290, by omega, h308, (by unfold EMul; omega), fun o r => kt248 o (hk294 o (by rw [hd]; exact r))⟩
                  refine vc_iincE dX4_readSum_85 rfl (by omega) (by omega) (Nat.le_of_ble_eq_true rfl) rfl (show _ = [some (aR 22), some (aI d), some (aI 1), some (aI (v3 + 1)), some (aI 20000)] from rfl) ?_
                  refine vc_goto dX4_readSum_88 ?_
                  refine vc_less [some (aR 22), some (aI d), some (aI 1), some (aI (v3 + 1)), none] (lessL_keep (lessL_keep (lessL_keep (lessL_keep (lessL_drop (lessL_nil)))))) ?_
                  exact ih8 M296 1 (v3 + 1) hB309 kp310 kp311 kp312 kp313 kp314 (by omega) (by omega) (by omega) (by omega) (by first | exact hfirst | exact hnext) (by omega) (by omega) (by omega) (by omega)
  exact lp8 _ M4 x3 0 hB17 kp18 kp19 kp20 kp21 kp22 (by omega) (by omega) (by omega) (by omega) (by first | exact hfirst | exact hnext) (by omega) (by omega) (by omega) (Nat.lt_succ_self _)

theorem ld_all {l : Launch} (nf : Nat) : LdO l nf ∧ LdS l nf := by
  induction nf with
  | zero =>
    constructor
    · intro M hB d _ _ g n p hR w sk hl hw h
      exact absurd h (Nat.not_lt_zero _)
    · intro M hB d _ _ g n p hR w sk hl hd hw h
      exact absurd h (Nat.not_lt_zero _)
  | succ nf ih => exact ⟨ld_one ih.2 ih.1, ld_sum (ld_prod (ld_one ih.2 ih.1))⟩