/-! THE CLASS'S READER: its state, its answers against the spec -/
def RS (g : Nat → Int) (n : Int) (M : Mem) (q : Int) : Prop := RSp (tk g n) (nx g n) n (mI M 26) (mI M 27) (mI M 28) (mI M 22 9) (mI M 22 10) (mI M 22 11) (mI M 22 7) (mI M 22 8) q
theorem RS.same {g : Nat → Int} {n : Int} {M N : Mem} {q : Int} (h : RS g n M q) (e26 : mI N 26 = mI M 26) (e27 : mI N 27 = mI M 27) (e28 : mI N 28 = mI M 28) (e9 : mI N 22 9 = mI M 22 9) (e10 : mI N 22 10 = mI M 22 10) (e11 : mI N 22 11 = mI M 22 11) (e7 : mI N 22 7 = mI M 22 7) (e8 : mI N 22 8 = mI M 22 8) : RS g n N q := by
  unfold RS
  rw [e26, e27, e28, e9, e10, e11, e7, e8]
  exact h
theorem RS.take {g : Nat → Int} {n : Int} {M N : Mem} {q : Int} (h : RS g n M q) (hk : tk g n q ≠ 0) (e26 : mI N 26 = mI M 26) (e27 : mI N 27 = mI M 27) (e28 : mI N 28 = mI M 28) (e9 : mI N 22 9 = mI M 22 9 + 1) (e10 : mI N 22 10 = mI M 26 (mI M 22 9 + 1).toNat) (e11 : mI N 22 11 = mI M 27 (mI M 22 9 + 1).toNat) (e7 : mI N 22 7 = mI M 22 7) (e8 : mI N 22 8 = mI M 22 8) : RS g n N (nx g n q) := by
  unfold RS
  rw [e26, e27, e28, e7, e8]
  exact RSp.take h hk e9 (by rw [e9]; exact e10) (by rw [e9]; exact e11)
theorem RS.rg {g : Nat → Int} {n : Int} {M : Mem} {q : Int} (h : RS g n M q) : 0 ≤ mI M 22 9 ∧ mI M 22 9 ≤ q ∧ q ≤ n ∧ n ≤ 300 ∧ mI M 22 7 = 0 ∧ mI M 22 8 = -1 ∧ (tk g n q = 0 ∨ (q < n ∧ q < nx g n q ∧ nx g n q ≤ n)) := RSp.rg h
theorem RS.ct {g : Nat → Int} {n : Int} {M : Mem} {q : Int} (h : RS g n M q) : CT (mI M 22 10) (mI M 22 11) (tk g n q) := (RSp.tab h).1
theorem RS.pl {g : Nat → Int} {n : Int} {M : Mem} {q : Int} (h : RS g n M q) : mI M 28 (mI M 22 9).toNat = q := (RSp.tab h).2.1
/-- the answer of a piece -/
def CR (g : Nat → Int) (n : Int) (N : Mem) (r : Int) (s : Int × Int) : Prop := (r = 1 ∧ s.1 = 0 ∧ RS g n N s.2) ∨ (r = 0 ∧ s.1 ≠ 0 ∧ mI N 22 7 = s.1 ∧ mI N 22 8 = s.2)
theorem CR.ok {g : Nat → Int} {n : Int} {N : Mem} {r : Int} {s : Int × Int} (h : CR g n N r s) (h0 : r ≠ 0) : s.1 = 0 ∧ RS g n N s.2 := by
  rcases h with h | h
  · exact h.2
  · exact absurd h.1 h0
theorem CR.bad {g : Nat → Int} {n : Int} {N : Mem} {r : Int} {s : Int × Int} (h : CR g n N r s) (h0 : r = 0) : s.1 ≠ 0 ∧ mI N 22 7 = s.1 ∧ mI N 22 8 = s.2 := by
  rcases h with h | h
  · omega
  · exact h.2
theorem CR.cast {g : Nat → Int} {n : Int} {N : Mem} {r r2 : Int} {s : Int × Int} (h : CR g n N r s) (e : r2 = r) : CR g n N r2 s := by
  rw [e]; exact h
theorem CR.b_bad {g : Nat → Int} {n : Int} {N : Mem} {r r2 : Int} {s : Int × Int} {F : Int → Int × Int} (h : CR g n N r s) (h0 : r = 0) (h2 : r2 = 0) : CR g n N r2 (sBind s F) := by
  have a := h.bad h0
  rw [sBind_bad a.1]
  exact Or.inr ⟨h2, a⟩
theorem CR.b_ok {g : Nat → Int} {n : Int} {M N : Mem} {r r2 : Int} {s : Int × Int} {F : Int → Int × Int} (h : CR g n M r s) (h0 : r ≠ 0) (h2 : CR g n N r2 (F s.2)) : CR g n N r2 (sBind s F) := by
  have a := h.ok h0
  rw [sBind_ok a.1]
  exact h2
theorem CRb {g : Nat → Int} {n : Int} {N : Mem} {r e q : Int} {s : Int × Int} (hr : r = 0) (h7 : mI N 22 7 = e) (h8 : mI N 22 8 = q) (he : e ≠ 0) (hs : s = (e, q)) : CR g n N r s := by
  rw [hs]; exact Or.inr ⟨hr, he, h7, h8⟩
theorem CRo {g : Nat → Int} {n : Int} {N : Mem} {r q : Int} {s : Int × Int} (hr : r = 1) (h : RS g n N q) (hs : s = (0, q)) : CR g n N r s := by
  rw [hs]; exact Or.inl ⟨hr, rfl, h⟩
/-- the answer of one token -/
def TR (g : Nat → Int) (n : Int) (N : Mem) (r t p : Int) : Prop := (r = 1 ∧ tk g n p = t ∧ RS g n N (nx g n p)) ∨ (r = 0 ∧ tk g n p ≠ t ∧ mI N 22 7 = 1 ∧ mI N 22 8 = p)
theorem TR.ok {g : Nat → Int} {n : Int} {N : Mem} {r t p : Int} (h : TR g n N r t p) (h0 : r ≠ 0) : tk g n p = t ∧ RS g n N (nx g n p) := by
  rcases h with h | h
  · exact h.2
  · exact absurd h.1 h0
theorem TR.bad {g : Nat → Int} {n : Int} {N : Mem} {r t p : Int} (h : TR g n N r t p) (h0 : r = 0) : tk g n p ≠ t ∧ mI N 22 7 = 1 ∧ mI N 22 8 = p := by
  rcases h with h | h
  · omega
  · exact h.2
theorem TR.cr {g : Nat → Int} {n : Int} {N : Mem} {r t p : Int} (h : TR g n N r t p) : CR g n N r (sTok (tk g n) (nx g n) t p) := by
  unfold sTok
  rcases h with ⟨a, b, c⟩ | ⟨a, b, c, d⟩
  · rw [if_pos b]; exact Or.inl ⟨a, rfl, c⟩
  · rw [if_neg b]; exact Or.inr ⟨a, by show (1 : Int) ≠ 0; decide, c, d⟩
/-- the answer of a turn: -1 where it has a fault -/
def CN (g : Nat → Int) (n : Int) (N : Mem) (r : Int) (s : Int × Int) : Prop := (r ≠ -1 ∧ s.1 = 0 ∧ RS g n N s.2) ∨ (r = -1 ∧ s.1 ≠ 0 ∧ mI N 22 7 = s.1 ∧ mI N 22 8 = s.2)
theorem CN.ok {g : Nat → Int} {n : Int} {N : Mem} {r : Int} {s : Int × Int} (h : CN g n N r s) (h0 : r ≠ -1) : s.1 = 0 ∧ RS g n N s.2 := by
  rcases h with h | h
  · exact h.2
  · exact absurd h.1 h0
theorem CN.bad {g : Nat → Int} {n : Int} {N : Mem} {r : Int} {s : Int × Int} (h : CN g n N r s) (h0 : r = -1) : s.1 ≠ 0 ∧ mI N 22 7 = s.1 ∧ mI N 22 8 = s.2 := by
  rcases h with h | h
  · exact absurd h0 h.1
  · exact h.2
/-- names of a law -/
def NMk (v w : Int) : Prop := (v = 63 ∧ 0 ≤ w ∧ w ≤ 2) ∨ (v = 448 ∧ w = 3) ∨ (v = 7 ∧ w = 4)
/-- the answer of a sum, a product, a one; E of the place behind -/
def LR (g : Nat → Int) (n w : Int) (sk : List Int) (p : Int) (E : Int → Prop) (N : Mem) (r : Int) : Prop := (r = 1 ∧ ∃ q, p < q ∧ RS g n N q ∧ E q ∧ ∀ o, Rn (tk g n) (nx g n) w (dm sk) true q o → Rn (tk g n) (nx g n) w sk false p o) ∨ (r = 0 ∧ mI N 22 7 ≠ 0 ∧ Rn (tk g n) (nx g n) w sk false p (mI N 22 7, mI N 22 8))
theorem LR.ok {g : Nat → Int} {n w : Int} {sk : List Int} {p : Int} {E : Int → Prop} {N : Mem} {r : Int} (h : LR g n w sk p E N r) (h0 : r ≠ 0) : ∃ q, p < q ∧ RS g n N q ∧ E q ∧ ∀ o, Rn (tk g n) (nx g n) w (dm sk) true q o → Rn (tk g n) (nx g n) w sk false p o := by
  rcases h with h | h
  · exact h.2
  · exact absurd h.1 h0
theorem LR.bad {g : Nat → Int} {n w : Int} {sk : List Int} {p : Int} {E : Int → Prop} {N : Mem} {r : Int} (h : LR g n w sk p E N r) (h0 : r = 0) : mI N 22 7 ≠ 0 ∧ Rn (tk g n) (nx g n) w sk false p (mI N 22 7, mI N 22 8) := by
  rcases h with h | h
  · omega
  · exact h.2
def ETr (g : Nat → Int) (n q : Int) : Prop := True
def EMul (g : Nat → Int) (n q : Int) : Prop := tk g n q ≠ -258 ∧ tk g n q ≠ -253
def EOp (g : Nat → Int) (n q : Int) : Prop := ¬ (tk g n q = -258 ∨ tk g n q = -257 ∨ tk g n q = -255 ∨ tk g n q = -253)
/-- in the loop of a sum, a product -/
def LI (g : Nat → Int) (n w : Int) (sk : List Int) (p : Int) (E : Int → Prop) (N : Mem) (r i : Int) : Prop := (r = 1 ∧ ∃ q, p + i < q ∧ RS g n N q ∧ E q ∧ ∀ o, Rn (tk g n) (nx g n) w sk true q o → Rn (tk g n) (nx g n) w sk false p o) ∨ (r = 0 ∧ mI N 22 7 ≠ 0 ∧ Rn (tk g n) (nx g n) w sk false p (mI N 22 7, mI N 22 8))
theorem LI.ok {g : Nat → Int} {n w : Int} {sk : List Int} {p : Int} {E : Int → Prop} {N : Mem} {r i : Int} (h : LI g n w sk p E N r i) (h0 : r ≠ 0) : ∃ q, p + i < q ∧ RS g n N q ∧ E q ∧ ∀ o, Rn (tk g n) (nx g n) w sk true q o → Rn (tk g n) (nx g n) w sk false p o := by
  rcases h with h | h
  · exact h.2
  · exact absurd h.1 h0
theorem LR.li {g : Nat → Int} {n w : Int} {sk : List Int} {p : Int} {E : Int → Prop} {N : Mem} {r : Int} (h : LR g n w sk p E N r) (hd : dm sk = sk) : LI g n w sk p E N r 0 := by
  rcases h with ⟨a, q, b, c, d, e⟩ | h
  · rw [hd] at e
    exact Or.inl ⟨a, q, by omega, c, d, e⟩
  · exact Or.inr h
theorem LI.nul {g : Nat → Int} {n w : Int} {sk : List Int} {p : Int} {E F : Int → Prop} {N : Mem} {r i : Int} (h : LI g n w sk p E N r i) (h0 : r = 0) : LR g n w sk p F N r := by
  rcases h with h | h
  · omega
  · exact Or.inr h
theorem LI.big {g : Nat → Int} {n w : Int} {sk : List Int} {p : Int} {E F : Int → Prop} {N : Mem} {r i : Int} (h : LI g n w sk p E N r i) (h0 : 300 ≤ i) (hp : 0 ≤ p) : LR g n w sk p F N r := by
  rcases h with ⟨a, q, b, c, d, e⟩ | h
  · have := c.rg
    omega
  · exact Or.inr h
theorem LR.law {g : Nat → Int} {n w : Int} {p : Int} {N : Mem} {r : Int} (h : LR g n w [] p (EOp g n) N r) : CR g n N r (sLaw (tk g n) (nx g n) w p) := by
  rcases h with ⟨a, q, b, c, d, e⟩ | ⟨a, b, c⟩
  · rw [sLaw_eq (e (0, q) (t_fin d))]
    exact Or.inl ⟨a, rfl, c⟩
  · rw [sLaw_eq c]
    exact Or.inr ⟨a, b, rfl, rfl⟩
/-- the laws that were read -/
def ONr (A : Nat → Int) (on : Int → Int) : Prop := ∀ w : Int, 0 ≤ w → w ≤ 4 → (A (2 * w).toNat = -1 ∧ on w ≠ 1) ∨ (A (2 * w).toNat ≠ -1 ∧ on w = 1)

theorem ONr.deed {A B : Nat → Int} {on : Int → Int} {w : Int} (h : ONr A on) (e : B = A) (hw : 5 ≤ w) : ONr B (onA on w) := by
  intro v h0 h4
  rw [e]
  unfold onA
  rw [if_neg (by omega)]
  exact h v h0 h4
theorem ONr.law {A B C D : Nat → Int} {on : Int → Int} {w : Int} (h : ONr A on) (h0 : 0 ≤ w) (h4 : w ≤ 4) (e1 : ∀ j : Nat, j ≠ (2 * w).toNat → B j = A j) (e2 : B (2 * w).toNat ≠ -1) (eC : C = B) (e3 : ∀ j : Nat, j ≠ (2 * w + 1).toNat → D j = C j) : ONr D (onA on w) := by
  subst eC
  intro v a b
  unfold onA
  rw [e3 _ (by omega)]
  by_cases e : v = w
  · rw [if_pos e, e]
    exact Or.inr ⟨e2, rfl⟩
  · rw [if_neg e, e1 _ (by omega)]
    exact h v a b
theorem CNb {g : Nat → Int} {n : Int} {N : Mem} {r e q : Int} {s : Int × Int} (hr : r = -1) (h7 : mI N 22 7 = e) (h8 : mI N 22 8 = q) (he : e ≠ 0) (hs : s = (e, q)) : CN g n N r s := by
  rw [hs]; exact Or.inr ⟨hr, he, h7, h8⟩
theorem CNo {g : Nat → Int} {n : Int} {N : Mem} {r q : Int} {s : Int × Int} (hr : r ≠ -1) (h : RS g n N q) (hs : s = (0, q)) : CN g n N r s := by
  rw [hs]; exact Or.inl ⟨hr, rfl, h⟩
theorem CNc {g : Nat → Int} {n : Int} {N : Mem} {r r1 : Int} {s s1 : Int × Int} (hr : r = -1) (h : CR g n N r1 s1) (h0 : r1 = 0) (hs : s = s1) : CN g n N r s := by
  rw [hs]; exact Or.inr ⟨hr, h.bad h0⟩
theorem sNum_ok {k x : Int → Int} {lo hi p : Int} (h : (sNum k x lo hi p).1 = 0) : (sNum k x lo hi p).2 = x p ∧ 1000 ≤ k p ∧ lo ≤ k p - 1000 ∧ k p - 1000 ≤ hi := by
  unfold sNum at h ⊢
  by_cases a : k p < 1000
  · rw [if_pos a] at h
    exact absurd h (by decide : ¬ (1 : Int) = 0)
  · rw [if_neg a] at h ⊢
    by_cases b : k p - 1000 < lo ∨ hi < k p - 1000
    · rw [if_pos b] at h
      exact absurd h (by decide : ¬ (2 : Int) = 0)
    · rw [if_neg b]
      exact ⟨rfl, by omega, by omega, by omega⟩
theorem turns_bad {g : Nat → Int} {n : Int} {N : Mem} {r i q : Int} {m : Nat} (h : CN g n N r (sTurn (tk g n) (nx g n) i q)) (h0 : r = -1) (hm : m ≠ 0) : CR g n N 0 (sTurns (tk g n) (nx g n) m i q) := by
  cases m with
  | zero => exact absurd rfl hm
  | succ m =>
    have a := h.bad h0
    unfold sTurns
    rw [sBind_bad a.1]
    exact Or.inr ⟨rfl, a⟩
theorem turns_end {k x : Int → Int} {i q : Int} {m : Nat} (h : (sTurn k x i q).1 = 0) (hk : k (sTurn k x i q).2 ≠ -256) (hm : m ≠ 0) : sTurns k x m i q = (0, (sTurn k x i q).2) := by
  cases m with
  | zero => exact absurd rfl hm
  | succ m =>
    unfold sTurns
    rw [sBind_ok h, if_neg hk]
theorem turns_go {k x : Int → Int} {i q : Int} {m : Nat} (h : (sTurn k x i q).1 = 0) (hk : k (sTurn k x i q).2 = -256) : sTurns k x (m + 1) i q = sTurns k x m (i + 1) (x (sTurn k x i q).2) := by
  rw [sTurns.eq_2, sBind_ok h, if_pos hk]
section SB
variable {k x : Int → Int} {w p : Int}
theorem sB4 (h : w ≤ 4) : sBody k x w p = sLaw k x w p := if_pos h
theorem sB5 (h : w = 5) : sBody k x w p = sNum k x 0 5 p := by subst h; unfold sBody; rw [if_neg (by decide), if_pos rfl]
theorem sB6 (h : w = 6 ∨ w = 7) : sBody k x w p = sBind (sNum k x 0 15 p) (fun q => sBind (sNum k x 0 3 q) (fun q => sBind (sTok k x 117 q) (fun q => sNum k x 0 15 q))) := by unfold sBody; rw [if_neg (by omega), if_neg (by omega), if_pos h]
theorem sB8 (h : w = 8 ∨ w = 9) : sBody k x w p = sNum k x 0 15 p := by unfold sBody; rw [if_neg (by omega), if_neg (by omega), if_neg (by omega), if_pos h]
theorem sB10 (h : w = 10) : sBody k x w p = sBind (sNum k x 0 5 p) (fun q => sBind (sFac k x q) (fun q => sBind (sTok k x (-242) q) (fun q => sTurns k x 7 0 q))) := by subst h; unfold sBody; rw [if_neg (by decide), if_neg (by decide), if_neg (by decide), if_neg (by decide), if_pos rfl]
theorem sB11 (h : w = 11) : sBody k x w p = sBind (sNum k x 0 15 p) (fun q => sFac k x q) := by subst h; unfold sBody; rw [if_neg (by decide), if_neg (by decide), if_neg (by decide), if_neg (by decide), if_neg (by decide), if_pos rfl]
theorem sB12 (h : w = 12) : sBody k x w p = sNum k x 1 20 p := by subst h; unfold sBody; rw [if_neg (by decide), if_neg (by decide), if_neg (by decide), if_neg (by decide), if_neg (by decide), if_neg (by decide), if_pos rfl]
theorem sB13 (h : w = 13) : sBody k x w p = sSide k x p := by subst h; unfold sBody; rw [if_neg (by decide), if_neg (by decide), if_neg (by decide), if_neg (by decide), if_neg (by decide), if_neg (by decide), if_neg (by decide), if_pos rfl]
theorem sB14 (h : w = 14) : sBody k x w p = sNum k x 0 5 p := by subst h; unfold sBody; rw [if_neg (by decide), if_neg (by decide), if_neg (by decide), if_neg (by decide), if_neg (by decide), if_neg (by decide), if_neg (by decide), if_neg (by decide), if_pos rfl]
theorem sB15 (h : w = 15) : sBody k x w p = sNum k x 0 7 p := by subst h; unfold sBody; rw [if_neg (by decide), if_neg (by decide), if_neg (by decide), if_neg (by decide), if_neg (by decide), if_neg (by decide), if_neg (by decide), if_neg (by decide), if_neg (by decide)]
end SB

set_option maxRecDepth 4000 in
theorem sfX4_isBlankF {l : Launch} {M : Mem} (hB : Box M)  (s : Int)  : Call l mdX4_isBlank [aI s] M (fun q N => ∃ r : Int, q = some (aI r) ∧ M = N ∧ 0 ≤ r ∧ r ≤ 1 ∧ ((r = 1 ∧ (s = 32 ∨ s = 10)) ∨ (r = 0 ∧ ¬ (s = 32 ∨ s = 10)))) := by
  have hB0 := BD.start hB
  refine Call.of [some (aI s)] rfl (Nat.le_of_ble_eq_true rfl) rfl ?_
  refine vc_ok (fun hoM hoS hoL => ?_)
  have hr0 : -2147483648 ≤ s ∧ s < 2147483648 := hoL 0 _ rfl
  refine vc_iload_n dX4_isBlank_0 rfl ?_
  refine vc_bipush dX4_isBlank_1 rfl ?_
  refine vc_icmp_eq dX4_isBlank_3 (fun h1 => ?_) (fun h1 => ?_)
  · refine vc_iconst dX4_isBlank_12 rfl ?_
    refine vc_goto dX4_isBlank_13 ?_
    refine vc_zret dX4_isBlank_17 rfl (by first | decide | omega) (Nat.le_of_ble_eq_true rfl) (Nat.le_of_ble_eq_true rfl) ?_
    exact ⟨_, rfl, rfl, by omega, by omega, by omega⟩
  · refine vc_iload_n dX4_isBlank_6 rfl ?_
    refine vc_bipush dX4_isBlank_7 rfl ?_
    refine vc_icmp_ne dX4_isBlank_9 (fun h2 => ?_) (fun h2 => ?_)
    · refine vc_iconst dX4_isBlank_16 rfl ?_
      refine vc_zret dX4_isBlank_17 rfl (by first | decide | omega) (Nat.le_of_ble_eq_true rfl) (Nat.le_of_ble_eq_true rfl) ?_
      exact ⟨_, rfl, rfl, by omega, by omega, by omega⟩
    · refine vc_iconst dX4_isBlank_12 rfl ?_
      refine vc_goto dX4_isBlank_13 ?_
      refine vc_zret dX4_isBlank_17 rfl (by first | decide | omega) (Nat.le_of_ble_eq_true rfl) (Nat.le_of_ble_eq_true rfl) ?_
      exact ⟨_, rfl, rfl, by omega, by omega, by omega⟩

set_option maxRecDepth 4000 in
theorem sfX4_isLetterF {l : Launch} {M : Mem} (hB : Box M)  (s : Int)  : Call l mdX4_isLetter [aI s] M (fun q N => ∃ r : Int, q = some (aI r) ∧ M = N ∧ 0 ≤ r ∧ r ≤ 1 ∧ ((r = 1 ∧ ((97 ≤ s ∧ s ≤ 122) ∨ (65 ≤ s ∧ s ≤ 90))) ∨ (r = 0 ∧ ¬ ((97 ≤ s ∧ s ≤ 122) ∨ (65 ≤ s ∧ s ≤ 90))))) := by
  have hB0 := BD.start hB
  refine Call.of [some (aI s)] rfl (Nat.le_of_ble_eq_true rfl) rfl ?_
  refine vc_ok (fun hoM hoS hoL => ?_)
  have hr0 : -2147483648 ≤ s ∧ s < 2147483648 := hoL 0 _ rfl
  refine vc_iload_n dX4_isLetter_0 rfl ?_
  refine vc_bipush dX4_isLetter_1 rfl ?_
  refine vc_icmp_lt dX4_isLetter_3 (fun h1 => ?_) (fun h1 => ?_)
  · refine vc_iload_n dX4_isLetter_12 rfl ?_
    refine vc_bipush dX4_isLetter_13 rfl ?_
    refine vc_icmp_lt dX4_isLetter_15 (fun h2 => ?_) (fun h2 => ?_)
    · refine vc_iconst dX4_isLetter_28 rfl ?_
      refine vc_zret dX4_isLetter_29 rfl (by first | decide | omega) (Nat.le_of_ble_eq_true rfl) (Nat.le_of_ble_eq_true rfl) ?_
      exact ⟨_, rfl, rfl, by omega, by omega, by omega⟩
    · refine vc_iload_n dX4_isLetter_18 rfl ?_
      refine vc_bipush dX4_isLetter_19 rfl ?_
      refine vc_icmp_gt dX4_isLetter_21 (fun h3 => ?_) (fun h3 => ?_)
      · refine vc_iconst dX4_isLetter_28 rfl ?_
        refine vc_zret dX4_isLetter_29 rfl (by first | decide | omega) (Nat.le_of_ble_eq_true rfl) (Nat.le_of_ble_eq_true rfl) ?_
        exact ⟨_, rfl, rfl, by omega, by omega, by omega⟩
      · refine vc_iconst dX4_isLetter_24 rfl ?_
        refine vc_goto dX4_isLetter_25 ?_
        refine vc_zret dX4_isLetter_29 rfl (by first | decide | omega) (Nat.le_of_ble_eq_true rfl) (Nat.le_of_ble_eq_true rfl) ?_
        exact ⟨_, rfl, rfl, by omega, by omega, by omega⟩
  · refine vc_iload_n dX4_isLetter_6 rfl ?_
    refine vc_bipush dX4_isLetter_7 rfl ?_
    refine vc_icmp_le dX4_isLetter_9 (fun h4 => ?_) (fun h4 => ?_)
    · refine vc_iconst dX4_isLetter_24 rfl ?_
      refine vc_goto dX4_isLetter_25 ?_
      refine vc_zret dX4_isLetter_29 rfl (by first | decide | omega) (Nat.le_of_ble_eq_true rfl) (Nat.le_of_ble_eq_true rfl) ?_
      exact ⟨_, rfl, rfl, by omega, by omega, by omega⟩
    · refine vc_iload_n dX4_isLetter_12 rfl ?_
      refine vc_bipush dX4_isLetter_13 rfl ?_
      refine vc_icmp_lt dX4_isLetter_15 (fun h5 => by exfalso; omega) (fun h5 => ?_)
      refine vc_iload_n dX4_isLetter_18 rfl ?_
      refine vc_bipush dX4_isLetter_19 rfl ?_
      refine vc_icmp_gt dX4_isLetter_21 (fun h6 => ?_) (fun h6 => by exfalso; omega)
      refine vc_iconst dX4_isLetter_28 rfl ?_
      refine vc_zret dX4_isLetter_29 rfl (by first | decide | omega) (Nat.le_of_ble_eq_true rfl) (Nat.le_of_ble_eq_true rfl) ?_
      exact ⟨_, rfl, rfl, by omega, by omega, by omega⟩

set_option maxRecDepth 4000 in
theorem sfX4_isDigitF {l : Launch} {M : Mem} (hB : Box M)  (s : Int)  : Call l mdX4_isDigit [aI s] M (fun q N => ∃ r : Int, q = some (aI r) ∧ M = N ∧ 0 ≤ r ∧ r ≤ 1 ∧ ((r = 1 ∧ (48 ≤ s ∧ s ≤ 57)) ∨ (r = 0 ∧ ¬ (48 ≤ s ∧ s ≤ 57)))) := by
  have hB0 := BD.start hB
  refine Call.of [some (aI s)] rfl (Nat.le_of_ble_eq_true rfl) rfl ?_
  refine vc_ok (fun hoM hoS hoL => ?_)
  have hr0 : -2147483648 ≤ s ∧ s < 2147483648 := hoL 0 _ rfl
  refine vc_iload_n dX4_isDigit_0 rfl ?_
  refine vc_bipush dX4_isDigit_1 rfl ?_
  refine vc_icmp_lt dX4_isDigit_3 (fun h1 => ?_) (fun h1 => ?_)
  · refine vc_iconst dX4_isDigit_16 rfl ?_
    refine vc_zret dX4_isDigit_17 rfl (by first | decide | omega) (Nat.le_of_ble_eq_true rfl) (Nat.le_of_ble_eq_true rfl) ?_
    exact ⟨_, rfl, rfl, by omega, by omega, by omega⟩
  · refine vc_iload_n dX4_isDigit_6 rfl ?_
    refine vc_bipush dX4_isDigit_7 rfl ?_
    refine vc_icmp_gt dX4_isDigit_9 (fun h2 => ?_) (fun h2 => ?_)
    · refine vc_iconst dX4_isDigit_16 rfl ?_
      refine vc_zret dX4_isDigit_17 rfl (by first | decide | omega) (Nat.le_of_ble_eq_true rfl) (Nat.le_of_ble_eq_true rfl) ?_
      exact ⟨_, rfl, rfl, by omega, by omega, by omega⟩
    · refine vc_iconst dX4_isDigit_12 rfl ?_
      refine vc_goto dX4_isDigit_13 ?_
      refine vc_zret dX4_isDigit_17 rfl (by first | decide | omega) (Nat.le_of_ble_eq_true rfl) (Nat.le_of_ble_eq_true rfl) ?_
      exact ⟨_, rfl, rfl, by omega, by omega, by omega⟩

set_option maxRecDepth 4000 in
theorem sfX4_isSignF {l : Launch} {M : Mem} (hB : Box M)  (s : Int)  : Call l mdX4_isSign [aR 22, aI s] M (fun q N => ∃ r : Int, q = some (aI r) ∧ M = N ∧ 0 ≤ r ∧ r ≤ 1 ∧ ((r = 1 ∧ mI M 22 10 = 3 ∧ mI M 22 11 = s) ∨ (r = 0 ∧ ¬ (mI M 22 10 = 3 ∧ mI M 22 11 = s)))) := by
  have hB0 := BD.start hB
  refine Call.of [some (aR 22), some (aI s)] rfl (Nat.le_of_ble_eq_true rfl) rfl ?_
  refine vc_ok (fun hoM hoS hoL => ?_)
  have hr1 : -2147483648 ≤ s ∧ s < 2147483648 := hoL 1 _ rfl
  refine vc_aload_n dX4_isSign_0 rfl ?_
  refine vc_getI dX4_isSign_1 flX4_69 (s_22 hB0.1.1) rfl ?_
  refine vc_iconst dX4_isSign_4 rfl ?_
  refine vc_icmp_ne dX4_isSign_5 (fun h1 => ?_) (fun h1 => ?_)
  · refine vc_iconst dX4_isSign_20 rfl ?_
    refine vc_zret dX4_isSign_21 rfl (by first | decide | omega) (Nat.le_of_ble_eq_true rfl) (Nat.le_of_ble_eq_true rfl) ?_
    exact ⟨_, rfl, rfl, by omega, by omega, by omega⟩
  · refine vc_aload_n dX4_isSign_8 rfl ?_
    refine vc_getI dX4_isSign_9 flX4_119 (s_22 hB0.1.1) rfl ?_
    refine vc_iload_n dX4_isSign_12 rfl ?_
    refine vc_icmp_ne dX4_isSign_13 (fun h2 => ?_) (fun h2 => ?_)
    · refine vc_iconst dX4_isSign_20 rfl ?_
      refine vc_zret dX4_isSign_21 rfl (by first | decide | omega) (Nat.le_of_ble_eq_true rfl) (Nat.le_of_ble_eq_true rfl) ?_
      exact ⟨_, rfl, rfl, by omega, by omega, by omega⟩
    · refine vc_iconst dX4_isSign_16 rfl ?_
      refine vc_goto dX4_isSign_17 ?_
      refine vc_zret dX4_isSign_21 rfl (by first | decide | omega) (Nat.le_of_ble_eq_true rfl) (Nat.le_of_ble_eq_true rfl) ?_
      exact ⟨_, rfl, rfl, by omega, by omega, by omega⟩

set_option maxRecDepth 4000 in
theorem sfX4_takeTokenF {l : Launch} {M : Mem} (hB : Box M) (g : Nat → Int) (n p : Int) (hR : RS g n M p)  (p0 : tk g n p ≠ 0) : Call l mdX4_takeToken [aR 22] M (fun q N => ∃ r : Int, q = some (aI r) ∧ BD M N ∧ mI N 24 = mI M 24 ∧ mI N 26 = mI M 26 ∧ mI N 27 = mI M 27 ∧ mI N 28 = mI M 28 ∧ 1 ≤ r ∧ r ≤ 1 ∧ 0 ≤ mI N 22 9 ∧ mI N 22 13 = mI M 22 13 ∧ mI N 22 14 = mI M 22 14 ∧ RS g n N (nx g n p)) := by
  have hB0 := BD.start hB
  refine Call.of [some (aR 22)] rfl (Nat.le_of_ble_eq_true rfl) rfl ?_
  have ct1 := RS.ct hR
  unfold CT at ct1
  have rg2 := RS.rg hR
  refine vc_aload_n dX4_takeToken_0 rfl ?_
  refine vc_getI dX4_takeToken_1 flX4_62 (s_22 hB0.1.1) rfl ?_
  have k3 : (-1) ≤ mI M 22 9 ∧ mI M 22 9 ≤ 300 := b22_9 (M := M) hB0.1
  refine vc_sipush dX4_takeToken_4 rfl ?_
  refine vc_icmp_ge dX4_takeToken_7 (fun h4 => ?_) (fun h4 => ?_)
  · refine vc_iconst dX4_takeToken_46 rfl ?_
    refine vc_zret dX4_takeToken_47 rfl (by first | decide | omega) (Nat.le_of_ble_eq_true rfl) (Nat.le_of_ble_eq_true rfl) ?_
    exact ⟨_, rfl, hB0, rfl, rfl, rfl, rfl, by omega, by omega, by omega, by omega, by omega, by first | exact RS.take hR p0 rfl rfl rfl rfl rfl rfl rfl rfl | (exfalso; omega)⟩
  · refine vc_aload_n dX4_takeToken_10 rfl ?_
    refine vc_dup dX4_takeToken_11 rfl ?_
    refine vc_getI dX4_takeToken_12 flX4_62 (s_22 hB0.1.1) rfl ?_
    refine vc_iconst dX4_takeToken_15 rfl ?_
    refine vc_iaddE dX4_takeToken_16 (by omega) (by omega) ?_
    refine vc_putI dX4_takeToken_17 (plX4_62 _ rfl) (s_22 hB0.1.1) rfl ?_
    have kp5 : mI (sI M 22 9 ((mI M 22 9) + 1)) 24 = mI M 24 := (kp_sI rfl rfl)
    have kp6 : mI (sI M 22 9 ((mI M 22 9) + 1)) 26 = mI M 26 := (kp_sI rfl rfl)
    have kp7 : mI (sI M 22 9 ((mI M 22 9) + 1)) 27 = mI M 27 := (kp_sI rfl rfl)
    have kp8 : mI (sI M 22 9 ((mI M 22 9) + 1)) 28 = mI M 28 := (kp_sI rfl rfl)
    have hB9 : BD M (sI M 22 9 ((mI M 22 9) + 1)) := BD.w22_9 hB0 (by omega) (by omega)
    refine vc_aload_n dX4_takeToken_20 rfl ?_
    refine vc_aload_n dX4_takeToken_21 rfl ?_
    refine vc_getR dX4_takeToken_22 flX4_24 (s_22 hB9.1.1) rfl (r_22_4 hB9.1.1) ?_
    refine vc_aload_n dX4_takeToken_25 rfl ?_
    refine vc_getI dX4_takeToken_26 flX4_62 (s_22 hB9.1.1) rfl ?_
    refine vc_topI ((mI M 22 9) + 1) rfl ?_
    refine vc_iaload dX4_takeToken_29 (s_26 hB9.1.1) (by omega) (by omega) ?_
    refine vc_topI (mI M 26 (((mI M 22 9) + 1).toNat)) rfl ?_
    have k10 : mI M 26 (((mI M 22 9) + 1).toNat) = mI M 26 (((mI M 22 9) + 1).toNat) := congrFun kp6 (((mI M 22 9) + 1).toNat)
    refine vc_putI dX4_takeToken_30 (plX4_69 _ rfl) (s_22 hB9.1.1) rfl ?_
    have kp11 : mI (sI (sI M 22 9 ((mI M 22 9) + 1)) 22 10 (mI M 26 (((mI M 22 9) + 1).toNat))) 24 = mI M 24 := (kp_sI kp5 rfl)
    have kp12 : mI (sI (sI M 22 9 ((mI M 22 9) + 1)) 22 10 (mI M 26 (((mI M 22 9) + 1).toNat))) 26 = mI M 26 := (kp_sI kp6 rfl)
    have kp13 : mI (sI (sI M 22 9 ((mI M 22 9) + 1)) 22 10 (mI M 26 (((mI M 22 9) + 1).toNat))) 27 = mI M 27 := (kp_sI kp7 rfl)
    have kp14 : mI (sI (sI M 22 9 ((mI M 22 9) + 1)) 22 10 (mI M 26 (((mI M 22 9) + 1).toNat))) 28 = mI M 28 := (kp_sI kp8 rfl)
    have hB15 : BD M (sI (sI M 22 9 ((mI M 22 9) + 1)) 22 10 (mI M 26 (((mI M 22 9) + 1).toNat))) := BD.w22_10 hB9
    refine vc_aload_n dX4_takeToken_33 rfl ?_
    refine vc_aload_n dX4_takeToken_34 rfl ?_
    refine vc_getR dX4_takeToken_35 flX4_27 (s_22 hB15.1.1) rfl (r_22_5 hB15.1.1) ?_
    refine vc_aload_n dX4_takeToken_38 rfl ?_
    refine vc_getI dX4_takeToken_39 flX4_62 (s_22 hB15.1.1) rfl ?_
    refine vc_topI ((mI M 22 9) + 1) rfl ?_
    refine vc_iaload dX4_takeToken_42 (s_27 hB15.1.1) (by omega) (by omega) ?_
    refine vc_topI (mI M 27 (((mI M 22 9) + 1).toNat)) rfl ?_
    have k16 : mI M 27 (((mI M 22 9) + 1).toNat) = mI M 27 (((mI M 22 9) + 1).toNat) := congrFun kp13 (((mI M 22 9) + 1).toNat)
    refine vc_putI dX4_takeToken_43 (plX4_119 _ rfl) (s_22 hB15.1.1) rfl ?_
    have kp17 : mI (sI (sI (sI M 22 9 ((mI M 22 9) + 1)) 22 10 (mI M 26 (((mI M 22 9) + 1).toNat))) 22 11 (mI M 27 (((mI M 22 9) + 1).toNat))) 24 = mI M 24 := (kp_sI kp11 rfl)
    have kp18 : mI (sI (sI (sI M 22 9 ((mI M 22 9) + 1)) 22 10 (mI M 26 (((mI M 22 9) + 1).toNat))) 22 11 (mI M 27 (((mI M 22 9) + 1).toNat))) 26 = mI M 26 := (kp_sI kp12 rfl)
    have kp19 : mI (sI (sI (sI M 22 9 ((mI M 22 9) + 1)) 22 10 (mI M 26 (((mI M 22 9) + 1).toNat))) 22 11 (mI M 27 (((mI M 22 9) + 1).toNat))) 27 = mI M 27 := (kp_sI kp13 rfl)
    have kp20 : mI (sI (sI (sI M 22 9 ((mI M 22 9) + 1)) 22 10 (mI M 26 (((mI M 22 9) + 1).toNat))) 22 11 (mI M 27 (((mI M 22 9) + 1).toNat))) 28 = mI M 28 := (kp_sI kp14 rfl)
    have hB21 : BD M (sI (sI (sI M 22 9 ((mI M 22 9) + 1)) 22 10 (mI M 26 (((mI M 22 9) + 1).toNat))) 22 11 (mI M 27 (((mI M 22 9) + 1).toNat))) := BD.w22_11 hB15
    refine vc_iconst dX4_takeToken_46 rfl ?_
    refine vc_zret dX4_takeToken_47 rfl (by first | decide | omega) (Nat.le_of_ble_eq_true rfl) (Nat.le_of_ble_eq_true rfl) ?_
    have k22 : mI (sI (sI (sI M 22 9 ((mI M 22 9) + 1)) 22 10 (mI M 26 (((mI M 22 9) + 1).toNat))) 22 11 (mI M 27 (((mI M 22 9) + 1).toNat))) 22 7 = mI M 22 7 := rfl
    have k23 : mI (sI (sI (sI M 22 9 ((mI M 22 9) + 1)) 22 10 (mI M 26 (((mI M 22 9) + 1).toNat))) 22 11 (mI M 27 (((mI M 22 9) + 1).toNat))) 22 8 = mI M 22 8 := rfl
    have k24 : mI (sI (sI (sI M 22 9 ((mI M 22 9) + 1)) 22 10 (mI M 26 (((mI M 22 9) + 1).toNat))) 22 11 (mI M 27 (((mI M 22 9) + 1).toNat))) 22 9 = (mI M 22 9) + 1 := rfl
    have k25 : mI (sI (sI (sI M 22 9 ((mI M 22 9) + 1)) 22 10 (mI M 26 (((mI M 22 9) + 1).toNat))) 22 11 (mI M 27 (((mI M 22 9) + 1).toNat))) 22 10 = mI M 26 (((mI M 22 9) + 1).toNat) := rfl
    have k26 : mI (sI (sI (sI M 22 9 ((mI M 22 9) + 1)) 22 10 (mI M 26 (((mI M 22 9) + 1).toNat))) 22 11 (mI M 27 (((mI M 22 9) + 1).toNat))) 22 11 = mI M 27 (((mI M 22 9) + 1).toNat) := rfl
    have k27 : mI (sI (sI (sI M 22 9 ((mI M 22 9) + 1)) 22 10 (mI M 26 (((mI M 22 9) + 1).toNat))) 22 11 (mI M 27 (((mI M 22 9) + 1).toNat))) 22 12 = mI M 22 12 := rfl
    have k28 : mI (sI (sI (sI M 22 9 ((mI M 22 9) + 1)) 22 10 (mI M 26 (((mI M 22 9) + 1).toNat))) 22 11 (mI M 27 (((mI M 22 9) + 1).toNat))) 22 13 = mI M 22 13 := rfl
    have k29 : mI (sI (sI (sI M 22 9 ((mI M 22 9) + 1)) 22 10 (mI M 26 (((mI M 22 9) + 1).toNat))) 22 11 (mI M 27 (((mI M 22 9) + 1).toNat))) 22 14 = mI M 22 14 := rfl
    exact ⟨_, rfl, hB21, kp17, kp18, kp19, kp20, by omega, by omega, by omega, by omega, by omega, by first | exact RS.take hR p0 kp18 kp19 kp20 rfl rfl rfl rfl rfl | (exfalso; omega)⟩

set_option maxRecDepth 4000 in
theorem sfX4_failedF {l : Launch} {M : Mem} (hB : Box M) (g : Nat → Int) (n p : Int) (hR : RS g n M p) (w : Int)  : Call l mdX4_failed [aR 22, aI w] M (fun q N => ∃ r : Int, q = some (aI r) ∧ BD M N ∧ mI N 24 = mI M 24 ∧ mI N 26 = mI M 26 ∧ mI N 27 = mI M 27 ∧ mI N 28 = mI M 28 ∧ 0 ≤ r ∧ r ≤ 0 ∧ 0 ≤ mI N 22 9 ∧ mI N 22 13 = mI M 22 13 ∧ mI N 22 14 = mI M 22 14 ∧ mI N 22 7 = w ∧ mI N 22 8 = p) := by
  have hB0 := BD.start hB
  refine Call.of [some (aR 22), some (aI w)] rfl (Nat.le_of_ble_eq_true rfl) rfl ?_
  refine vc_ok (fun hoM hoS hoL => ?_)
  have hr1 : -2147483648 ≤ w ∧ w < 2147483648 := hoL 1 _ rfl
  have ct1 := RS.ct hR
  unfold CT at ct1
  have rg2 := RS.rg hR
  refine vc_aload_n dX4_failed_0 rfl ?_
  refine vc_iload_n dX4_failed_1 rfl ?_
  refine vc_putI dX4_failed_2 (plX4_43 _ rfl) (s_22 hB0.1.1) rfl ?_
  have kp3 : mI (sI M 22 7 w) 24 = mI M 24 := (kp_sI rfl rfl)
  have kp4 : mI (sI M 22 7 w) 26 = mI M 26 := (kp_sI rfl rfl)
  have kp5 : mI (sI M 22 7 w) 27 = mI M 27 := (kp_sI rfl rfl)
  have kp6 : mI (sI M 22 7 w) 28 = mI M 28 := (kp_sI rfl rfl)
  have hB7 : BD M (sI M 22 7 w) := BD.w22_7 hB0
  refine vc_aload_n dX4_failed_5 rfl ?_
  refine vc_aload_n dX4_failed_6 rfl ?_
  refine vc_getR dX4_failed_7 flX4_30 (s_22 hB7.1.1) rfl (r_22_6 hB7.1.1) ?_
  refine vc_aload_n dX4_failed_10 rfl ?_
  refine vc_getI dX4_failed_11 flX4_62 (s_22 hB7.1.1) rfl ?_
  refine vc_topI (mI M 22 9) rfl ?_
  have k8 : (-1) ≤ mI M 22 9 ∧ mI M 22 9 ≤ 300 := b22_9 (M := (sI M 22 7 w)) hB7.1
  refine vc_iaload dX4_failed_14 (s_28 hB7.1.1) (by omega) (by omega) ?_
  refine vc_topI (mI M 28 ((mI M 22 9).toNat)) rfl ?_
  have k9 : mI M 28 ((mI M 22 9).toNat) = mI M 28 ((mI M 22 9).toNat) := congrFun kp6 ((mI M 22 9).toNat)
  refine vc_putI dX4_failed_15 (plX4_47 _ rfl) (s_22 hB7.1.1) rfl ?_
  have kp10 : mI (sI (sI M 22 7 w) 22 8 (mI M 28 ((mI M 22 9).toNat))) 24 = mI M 24 := (kp_sI kp3 rfl)
  have kp11 : mI (sI (sI M 22 7 w) 22 8 (mI M 28 ((mI M 22 9).toNat))) 26 = mI M 26 := (kp_sI kp4 rfl)
  have kp12 : mI (sI (sI M 22 7 w) 22 8 (mI M 28 ((mI M 22 9).toNat))) 27 = mI M 27 := (kp_sI kp5 rfl)
  have kp13 : mI (sI (sI M 22 7 w) 22 8 (mI M 28 ((mI M 22 9).toNat))) 28 = mI M 28 := (kp_sI kp6 rfl)
  have hB14 : BD M (sI (sI M 22 7 w) 22 8 (mI M 28 ((mI M 22 9).toNat))) := BD.w22_8 hB7
  refine vc_iconst dX4_failed_18 rfl ?_
  refine vc_zret dX4_failed_19 rfl (by first | decide | omega) (Nat.le_of_ble_eq_true rfl) (Nat.le_of_ble_eq_true rfl) ?_
  have k15 : mI (sI (sI M 22 7 w) 22 8 (mI M 28 ((mI M 22 9).toNat))) 22 7 = w := rfl
  have k16 : mI (sI (sI M 22 7 w) 22 8 (mI M 28 ((mI M 22 9).toNat))) 22 8 = mI M 28 ((mI M 22 9).toNat) := rfl
  have k17 : mI (sI (sI M 22 7 w) 22 8 (mI M 28 ((mI M 22 9).toNat))) 22 9 = mI M 22 9 := rfl
  have k18 : mI (sI (sI M 22 7 w) 22 8 (mI M 28 ((mI M 22 9).toNat))) 22 10 = mI M 22 10 := rfl
  have k19 : mI (sI (sI M 22 7 w) 22 8 (mI M 28 ((mI M 22 9).toNat))) 22 11 = mI M 22 11 := rfl
  have k20 : mI (sI (sI M 22 7 w) 22 8 (mI M 28 ((mI M 22 9).toNat))) 22 12 = mI M 22 12 := rfl
  have k21 : mI (sI (sI M 22 7 w) 22 8 (mI M 28 ((mI M 22 9).toNat))) 22 13 = mI M 22 13 := rfl
  have k22 : mI (sI (sI M 22 7 w) 22 8 (mI M 28 ((mI M 22 9).toNat))) 22 14 = mI M 22 14 := rfl
  exact ⟨_, rfl, hB14, kp10, kp11, kp12, kp13, by omega, by omega, by omega, by omega, by omega, by omega, (by have hpl := RS.pl hR; first | exact hpl | omega)⟩

set_option maxRecDepth 4000 in
theorem sfX4_keepF {l : Launch} {M : Mem} (hB : Box M) (g : Nat → Int) (n p : Int) (hR : RS g n M p) (c : Int) (v : Int) (p0 : 0 ≤ c) (p1 : c ≤ 4) : Call l mdX4_keep [aR 22, aI c, aI v] M (fun q N => q = none ∧ BD M N ∧ mI N 24 = mI M 24 ∧ mI N 26 = mI M 26 ∧ mI N 27 = mI M 27 ∧ mI N 28 = mI M 28 ∧ 0 ≤ mI N 22 9 ∧ mI N 22 13 = mI M 22 13 ∧ mI N 22 14 = mI M 22 14 ∧ RS g n N p) := by
  have hB0 := BD.start hB
  refine Call.of [some (aR 22), some (aI c), some (aI v), none] rfl (Nat.le_of_ble_eq_true rfl) rfl ?_
  refine vc_ok (fun hoM hoS hoL => ?_)
  have hr2 : -2147483648 ≤ v ∧ v < 2147483648 := hoL 2 _ rfl
  have hrg := RS.rg hR
  refine vc_iconst dX4_keep_0 rfl ?_
  refine vc_aload_n dX4_keep_1 rfl ?_
  refine vc_getI dX4_keep_2 flX4_53 (s_22 hB0.1.1) rfl ?_
  have k1 : 0 ≤ mI M 22 13 ∧ mI M 22 13 ≤ 24 := b22_13 (M := M) hB0.1
  refine vc_imulE dX4_keep_5 (by omega) (by omega) ?_
  refine vc_iload_n dX4_keep_6 rfl ?_
  refine vc_iaddE dX4_keep_7 (by omega) (by omega) ?_
  refine vc_nameI (fun x2 ex2 => ?_)
  refine vc_istore_n dX4_keep_8 (by decide) rfl (show _ = [some (aR 22), some (aI c), some (aI v), some (aI x2)] from rfl) ?_
  refine vc_iload_n dX4_keep_9 rfl ?_
  refine vc_aload_n dX4_keep_10 rfl ?_
  refine vc_getR dX4_keep_11 flX4_21 (s_22 hB0.1.1) rfl (r_22_3 hB0.1.1) ?_
  refine vc_alen dX4_keep_14 (s_25 hB0.1.1) rfl ?_
  refine vc_topI 120 rfl ?_
  refine vc_icmp_ge dX4_keep_15 (fun h3 => ?_) (fun h3 => ?_)
  · refine vc_vret dX4_keep_25 rfl (Nat.le_of_ble_eq_true rfl) (Nat.le_of_ble_eq_true rfl) ?_
    exact ⟨rfl, hB0, rfl, rfl, rfl, rfl, by omega, by omega, by omega, RS.same hR rfl rfl rfl rfl rfl rfl rfl rfl⟩
  · refine vc_aload_n dX4_keep_18 rfl ?_
    refine vc_getR dX4_keep_19 flX4_21 (s_22 hB0.1.1) rfl (r_22_3 hB0.1.1) ?_
    refine vc_iload_n dX4_keep_22 rfl ?_
    refine vc_iload_n dX4_keep_23 rfl ?_
    refine vc_iastore dX4_keep_24 (s_25 hB0.1.1) (by omega) (by omega) ?_
    have kp4 : mI (sI M 25 x2.toNat v) 24 = mI M 24 := (kp_sI rfl rfl)
    have kp5 : mI (sI M 25 x2.toNat v) 26 = mI M 26 := (kp_sI rfl rfl)
    have kp6 : mI (sI M 25 x2.toNat v) 27 = mI M 27 := (kp_sI rfl rfl)
    have kp7 : mI (sI M 25 x2.toNat v) 28 = mI M 28 := (kp_sI rfl rfl)
    have hB8 : BD M (sI M 25 x2.toNat v) := BD.w25 hB0 _
    refine vc_vret dX4_keep_25 rfl (Nat.le_of_ble_eq_true rfl) (Nat.le_of_ble_eq_true rfl) ?_
    have k9 : mI (sI M 25 x2.toNat v) 22 7 = mI M 22 7 := rfl
    have k10 : mI (sI M 25 x2.toNat v) 22 8 = mI M 22 8 := rfl
    have k11 : mI (sI M 25 x2.toNat v) 22 9 = mI M 22 9 := rfl
    have k12 : mI (sI M 25 x2.toNat v) 22 10 = mI M 22 10 := rfl
    have k13 : mI (sI M 25 x2.toNat v) 22 11 = mI M 22 11 := rfl
    have k14 : mI (sI M 25 x2.toNat v) 22 12 = mI M 22 12 := rfl
    have k15 : mI (sI M 25 x2.toNat v) 22 13 = mI M 22 13 := rfl
    have k16 : mI (sI M 25 x2.toNat v) 22 14 = mI M 22 14 := rfl
    exact ⟨rfl, hB8, kp4, kp5, kp6, kp7, by omega, by omega, by omega, RS.same hR kp5 kp6 kp7 rfl rfl rfl rfl rfl⟩

set_option maxRecDepth 4000 in
theorem sfX4_emitF {l : Launch} {M : Mem} (hB : Box M) (g : Nat → Int) (n p : Int) (hR : RS g n M p) (op : Int)  : Call l mdX4_emit [aR 22, aI op] M (fun q N => ∃ r : Int, q = some (aI r) ∧ BD M N ∧ mI N 24 = mI M 24 ∧ mI N 26 = mI M 26 ∧ mI N 27 = mI M 27 ∧ mI N 28 = mI M 28 ∧ 1 ≤ r ∧ r ≤ 1 ∧ 0 ≤ mI N 22 9 ∧ mI N 22 13 = mI M 22 13 ∧ mI N 22 14 = mI M 22 14 ∧ RS g n N p) := by
  have hB0 := BD.start hB
  refine Call.of [some (aR 22), some (aI op)] rfl (Nat.le_of_ble_eq_true rfl) rfl ?_
  refine vc_ok (fun hoM hoS hoL => ?_)
  have hr1 : -2147483648 ≤ op ∧ op < 2147483648 := hoL 1 _ rfl
  have hrg := RS.rg hR
  refine vc_aload_n dX4_emit_0 rfl ?_
  refine vc_getI dX4_emit_1 flX4_50 (s_22 hB0.1.1) rfl ?_
  have k1 : 0 ≤ mI M 22 12 ∧ mI M 22 12 ≤ 300 := b22_12 (M := M) hB0.1
  refine vc_aload_n dX4_emit_4 rfl ?_
  refine vc_getR dX4_emit_5 flX4_15 (s_22 hB0.1.1) rfl (r_22_1 hB0.1.1) ?_
  refine vc_alen dX4_emit_8 (s_23 hB0.1.1) rfl ?_
  refine vc_topI 300 rfl ?_
  refine vc_icmp_ge dX4_emit_9 (fun h2 => ?_) (fun h2 => ?_)
  · refine vc_iconst dX4_emit_32 rfl ?_
    refine vc_zret dX4_emit_33 rfl (by first | decide | omega) (Nat.le_of_ble_eq_true rfl) (Nat.le_of_ble_eq_true rfl) ?_
    exact ⟨_, rfl, hB0, rfl, rfl, rfl, rfl, by omega, by omega, by omega, by omega, by omega, RS.same hR rfl rfl rfl rfl rfl rfl rfl rfl⟩
  · refine vc_aload_n dX4_emit_12 rfl ?_
    refine vc_getR dX4_emit_13 flX4_15 (s_22 hB0.1.1) rfl (r_22_1 hB0.1.1) ?_
    refine vc_aload_n dX4_emit_16 rfl ?_
    refine vc_getI dX4_emit_17 flX4_50 (s_22 hB0.1.1) rfl ?_
    refine vc_iload_n dX4_emit_20 rfl ?_
    refine vc_iastore dX4_emit_21 (s_23 hB0.1.1) (by omega) (by omega) ?_
    have kp3 : mI (sI M 23 ((mI M 22 12).toNat) op) 24 = mI M 24 := (kp_sI rfl rfl)
    have kp4 : mI (sI M 23 ((mI M 22 12).toNat) op) 26 = mI M 26 := (kp_sI rfl rfl)
    have kp5 : mI (sI M 23 ((mI M 22 12).toNat) op) 27 = mI M 27 := (kp_sI rfl rfl)
    have kp6 : mI (sI M 23 ((mI M 22 12).toNat) op) 28 = mI M 28 := (kp_sI rfl rfl)
    have hB7 : BD M (sI M 23 ((mI M 22 12).toNat) op) := BD.w23 hB0 _
    refine vc_aload_n dX4_emit_22 rfl ?_
    refine vc_dup dX4_emit_23 rfl ?_
    refine vc_getI dX4_emit_24 flX4_50 (s_22 hB7.1.1) rfl ?_
    refine vc_topI (mI M 22 12) rfl ?_
    have k8 : 0 ≤ mI M 22 12 ∧ mI M 22 12 ≤ 300 := b22_12 (M := (sI M 23 ((mI M 22 12).toNat) op)) hB7.1
    refine vc_iconst dX4_emit_27 rfl ?_
    refine vc_iaddE dX4_emit_28 (by omega) (by omega) ?_
    refine vc_putI dX4_emit_29 (plX4_50 _ rfl) (s_22 hB7.1.1) rfl ?_
    have kp9 : mI (sI (sI M 23 ((mI M 22 12).toNat) op) 22 12 ((mI M 22 12) + 1)) 24 = mI M 24 := (kp_sI kp3 rfl)
    have kp10 : mI (sI (sI M 23 ((mI M 22 12).toNat) op) 22 12 ((mI M 22 12) + 1)) 26 = mI M 26 := (kp_sI kp4 rfl)
    have kp11 : mI (sI (sI M 23 ((mI M 22 12).toNat) op) 22 12 ((mI M 22 12) + 1)) 27 = mI M 27 := (kp_sI kp5 rfl)
    have kp12 : mI (sI (sI M 23 ((mI M 22 12).toNat) op) 22 12 ((mI M 22 12) + 1)) 28 = mI M 28 := (kp_sI kp6 rfl)
    have hB13 : BD M (sI (sI M 23 ((mI M 22 12).toNat) op) 22 12 ((mI M 22 12) + 1)) := BD.w22_12 hB7 (by omega) (by omega)
    refine vc_iconst dX4_emit_32 rfl ?_
    refine vc_zret dX4_emit_33 rfl (by first | decide | omega) (Nat.le_of_ble_eq_true rfl) (Nat.le_of_ble_eq_true rfl) ?_
    have k14 : mI (sI (sI M 23 ((mI M 22 12).toNat) op) 22 12 ((mI M 22 12) + 1)) 22 7 = mI M 22 7 := rfl
    have k15 : mI (sI (sI M 23 ((mI M 22 12).toNat) op) 22 12 ((mI M 22 12) + 1)) 22 8 = mI M 22 8 := rfl
    have k16 : mI (sI (sI M 23 ((mI M 22 12).toNat) op) 22 12 ((mI M 22 12) + 1)) 22 9 = mI M 22 9 := rfl
    have k17 : mI (sI (sI M 23 ((mI M 22 12).toNat) op) 22 12 ((mI M 22 12) + 1)) 22 10 = mI M 22 10 := rfl
    have k18 : mI (sI (sI M 23 ((mI M 22 12).toNat) op) 22 12 ((mI M 22 12) + 1)) 22 11 = mI M 22 11 := rfl
    have k19 : mI (sI (sI M 23 ((mI M 22 12).toNat) op) 22 12 ((mI M 22 12) + 1)) 22 12 = (mI M 22 12) + 1 := rfl
    have k20 : mI (sI (sI M 23 ((mI M 22 12).toNat) op) 22 12 ((mI M 22 12) + 1)) 22 13 = mI M 22 13 := rfl
    have k21 : mI (sI (sI M 23 ((mI M 22 12).toNat) op) 22 12 ((mI M 22 12) + 1)) 22 14 = mI M 22 14 := rfl
    exact ⟨_, rfl, hB13, kp9, kp10, kp11, kp12, by omega, by omega, by omega, by omega, by omega, RS.same hR kp10 kp11 kp12 rfl rfl rfl rfl rfl⟩

set_option maxRecDepth 4000 in
theorem sfX4_readNumberF {l : Launch} {M : Mem} (hB : Box M) (g : Nat → Int) (n p : Int) (hR : RS g n M p) (c : Int) (lo : Int) (hi : Int) (p0 : 0 ≤ c) (p1 : c ≤ 4) : Call l mdX4_readNumber [aR 22, aI c, aI lo, aI hi] M (fun q N => ∃ r : Int, q = some (aI r) ∧ BD M N ∧ mI N 24 = mI M 24 ∧ mI N 26 = mI M 26 ∧ mI N 27 = mI M 27 ∧ mI N 28 = mI M 28 ∧ 0 ≤ r ∧ r ≤ 1 ∧ 0 ≤ mI N 22 9 ∧ mI N 22 13 = mI M 22 13 ∧ mI N 22 14 = mI M 22 14 ∧ CR g n N r (sNum (tk g n) (nx g n) lo hi p)) := by
  have hB0 := BD.start hB
  refine Call.of [some (aR 22), some (aI c), some (aI lo), some (aI hi)] rfl (Nat.le_of_ble_eq_true rfl) rfl ?_
  refine vc_ok (fun hoM hoS hoL => ?_)
  have hr2 : -2147483648 ≤ lo ∧ lo < 2147483648 := hoL 2 _ rfl
  have hr3 : -2147483648 ≤ hi ∧ hi < 2147483648 := hoL 3 _ rfl
  have ct1 := RS.ct hR
  unfold CT at ct1
  have rg2 := RS.rg hR
  refine vc_aload_n dX4_readNumber_0 rfl ?_
  refine vc_getI dX4_readNumber_1 flX4_69 (s_22 hB0.1.1) rfl ?_
  refine vc_iconst dX4_readNumber_4 rfl ?_
  refine vc_icmp_eq dX4_readNumber_5 (fun h3 => ?_) (fun h3 => ?_)
  · refine vc_aload_n dX4_readNumber_14 rfl ?_
    refine vc_getI dX4_readNumber_15 flX4_119 (s_22 hB0.1.1) rfl ?_
    refine vc_iload_n dX4_readNumber_18 rfl ?_
    refine vc_icmp_lt dX4_readNumber_19 (fun h4 => ?_) (fun h4 => ?_)
    · refine vc_aload_n dX4_readNumber_30 rfl ?_
      refine vc_iconst dX4_readNumber_31 rfl ?_
      refine vc_cVI dX4_readNumber_32 (sfX4_failedF (M := M) hB0.1  g n p hR 2 ) rfl okX4_failed viX4_failed lkX4_122 (s_22 hB0.1.1) cl_4 rfl (Nat.le_of_ble_eq_true rfl) ⟨rfl, rfl⟩ (Nat.le_of_ble_eq_true rfl) (Nat.le_of_ble_eq_true rfl) (Nat.le_of_ble_eq_true rfl) ?_
      rintro x5 M6 ⟨hB7, kp8, kp9, kp10, kp11, h12, h13, h14, h15, h16, h17, h18⟩
      have hB19 : BD M M6 := BD.go hB0 hB7
      have kp20 : mI M6 24 = mI M 24 := kp_go rfl kp8
      have kp21 : mI M6 26 = mI M 26 := kp_go rfl kp9
      have kp22 : mI M6 27 = mI M 27 := kp_go rfl kp10
      have kp23 : mI M6 28 = mI M 28 := kp_go rfl kp11
      refine vc_zret dX4_readNumber_35 rfl (by first | decide | omega) (Nat.le_of_ble_eq_true rfl) (Nat.le_of_ble_eq_true rfl) ?_
      exact ⟨_, rfl, hB19, kp20, kp21, kp22, kp23, by omega, by omega, by omega, by omega, by omega, CRb (e := 2) (q := p) (by omega) h17 h18 (by omega) (by unfold sNum; (repeat' split) <;> first | rfl | (exfalso; omega))⟩
    · refine vc_aload_n dX4_readNumber_22 rfl ?_
      refine vc_getI dX4_readNumber_23 flX4_119 (s_22 hB0.1.1) rfl ?_
      refine vc_iload_n dX4_readNumber_26 rfl ?_
      refine vc_icmp_le dX4_readNumber_27 (fun h24 => ?_) (fun h24 => ?_)
      · refine vc_aload_n dX4_readNumber_36 rfl ?_
        refine vc_iload_n dX4_readNumber_37 rfl ?_
        refine vc_aload_n dX4_readNumber_38 rfl ?_
        refine vc_getI dX4_readNumber_39 flX4_119 (s_22 hB0.1.1) rfl ?_
        refine vc_cVU dX4_readNumber_42 (sfX4_keepF (M := M) hB0.1  g n p hR c (mI M 22 11) (by omega) (by omega)) rfl okX4_keep viX4_keep lkX4_125 (s_22 hB0.1.1) cl_4 rfl (Nat.le_of_ble_eq_true rfl) ⟨rfl, rfl⟩ (Nat.le_of_ble_eq_true rfl) (Nat.le_of_ble_eq_true rfl) (Nat.le_of_ble_eq_true rfl) ?_
        rintro M25 ⟨hB26, kp27, kp28, kp29, kp30, h31, h32, h33, h34⟩
        have hB35 : BD M M25 := BD.go hB0 hB26
        have kp36 : mI M25 24 = mI M 24 := kp_go rfl kp27
        have kp37 : mI M25 26 = mI M 26 := kp_go rfl kp28
        have kp38 : mI M25 27 = mI M 27 := kp_go rfl kp29
        have kp39 : mI M25 28 = mI M 28 := kp_go rfl kp30
        refine vc_aload_n dX4_readNumber_45 rfl ?_
        refine vc_cVI dX4_readNumber_46 (sfX4_takeTokenF (M := M25) hB35.1  g n p h34 (by omega)) rfl okX4_takeToken viX4_takeToken lkX4_65 (s_22 hB35.1.1) cl_4 rfl (Nat.le_of_ble_eq_true rfl) ⟨rfl, rfl⟩ (Nat.le_of_ble_eq_true rfl) (Nat.le_of_ble_eq_true rfl) (Nat.le_of_ble_eq_true rfl) ?_
        rintro x40 M41 ⟨hB42, kp43, kp44, kp45, kp46, h47, h48, h49, h50, h51, h52⟩
        have hB53 : BD M M41 := BD.go hB35 hB42
        have kp54 : mI M41 24 = mI M 24 := kp_go kp36 kp43
        have kp55 : mI M41 26 = mI M 26 := kp_go kp37 kp44
        have kp56 : mI M41 27 = mI M 27 := kp_go kp38 kp45
        have kp57 : mI M41 28 = mI M 28 := kp_go kp39 kp46
        refine vc_zret dX4_readNumber_49 rfl (by first | decide | omega) (Nat.le_of_ble_eq_true rfl) (Nat.le_of_ble_eq_true rfl) ?_
        exact ⟨_, rfl, hB53, kp54, kp55, kp56, kp57, by omega, by omega, by omega, by omega, by omega, CRo (q := (nx g n p)) (by omega) h52 (by unfold sNum; (repeat' split) <;> first | rfl | (exfalso; omega))⟩
      · refine vc_aload_n dX4_readNumber_30 rfl ?_
        refine vc_iconst dX4_readNumber_31 rfl ?_
        refine vc_cVI dX4_readNumber_32 (sfX4_failedF (M := M) hB0.1  g n p hR 2 ) rfl okX4_failed viX4_failed lkX4_122 (s_22 hB0.1.1) cl_4 rfl (Nat.le_of_ble_eq_true rfl) ⟨rfl, rfl⟩ (Nat.le_of_ble_eq_true rfl) (Nat.le_of_ble_eq_true rfl) (Nat.le_of_ble_eq_true rfl) ?_
        rintro x58 M59 ⟨hB60, kp61, kp62, kp63, kp64, h65, h66, h67, h68, h69, h70, h71⟩
        have hB72 : BD M M59 := BD.go hB0 hB60
        have kp73 : mI M59 24 = mI M 24 := kp_go rfl kp61
        have kp74 : mI M59 26 = mI M 26 := kp_go rfl kp62
        have kp75 : mI M59 27 = mI M 27 := kp_go rfl kp63
        have kp76 : mI M59 28 = mI M 28 := kp_go rfl kp64
        refine vc_zret dX4_readNumber_35 rfl (by first | decide | omega) (Nat.le_of_ble_eq_true rfl) (Nat.le_of_ble_eq_true rfl) ?_
        exact ⟨_, rfl, hB72, kp73, kp74, kp75, kp76, by omega, by omega, by omega, by omega, by omega, CRb (e := 2) (q := p) (by omega) h70 h71 (by omega) (by unfold sNum; (repeat' split) <;> first | rfl | (exfalso; omega))⟩
  · refine vc_aload_n dX4_readNumber_8 rfl ?_
    refine vc_iconst dX4_readNumber_9 rfl ?_
    refine vc_cVI dX4_readNumber_10 (sfX4_failedF (M := M) hB0.1  g n p hR 1 ) rfl okX4_failed viX4_failed lkX4_122 (s_22 hB0.1.1) cl_4 rfl (Nat.le_of_ble_eq_true rfl) ⟨rfl, rfl⟩ (Nat.le_of_ble_eq_true rfl) (Nat.le_of_ble_eq_true rfl) (Nat.le_of_ble_eq_true rfl) ?_
    rintro x77 M78 ⟨hB79, kp80, kp81, kp82, kp83, h84, h85, h86, h87, h88, h89, h90⟩
    have hB91 : BD M M78 := BD.go hB0 hB79
    have kp92 : mI M78 24 = mI M 24 := kp_go rfl kp80
    have kp93 : mI M78 26 = mI M 26 := kp_go rfl kp81
    have kp94 : mI M78 27 = mI M 27 := kp_go rfl kp82
    have kp95 : mI M78 28 = mI M 28 := kp_go rfl kp83
    refine vc_zret dX4_readNumber_13 rfl (by first | decide | omega) (Nat.le_of_ble_eq_true rfl) (Nat.le_of_ble_eq_true rfl) ?_
    exact ⟨_, rfl, hB91, kp92, kp93, kp94, kp95, by omega, by omega, by omega, by omega, by omega, CRb (e := 1) (q := p) (by omega) h89 h90 (by omega) (by unfold sNum; (repeat' split) <;> first | rfl | (exfalso; omega))⟩

set_option maxRecDepth 4000 in
theorem sfX4_readWordF {l : Launch} {M : Mem} (hB : Box M) (g : Nat → Int) (n p : Int) (hR : RS g n M p) (w : Int) (p0 : 0 ≤ w) (p1 : w ≤ 35) : Call l mdX4_readWord [aR 22, aI w] M (fun q N => ∃ r : Int, q = some (aI r) ∧ BD M N ∧ mI N 24 = mI M 24 ∧ mI N 26 = mI M 26 ∧ mI N 27 = mI M 27 ∧ mI N 28 = mI M 28 ∧ 0 ≤ r ∧ r ≤ 1 ∧ 0 ≤ mI N 22 9 ∧ mI N 22 13 = mI M 22 13 ∧ mI N 22 14 = mI M 22 14 ∧ TR g n N r (101 + w) p) := by
  have hB0 := BD.start hB
  refine Call.of [some (aR 22), some (aI w)] rfl (Nat.le_of_ble_eq_true rfl) rfl ?_
  refine vc_ok (fun hoM hoS hoL => ?_)
  have hr1 : -2147483648 ≤ w ∧ w < 2147483648 := hoL 1 _ rfl
  have ct1 := RS.ct hR
  unfold CT at ct1
  have rg2 := RS.rg hR
  refine vc_aload_n dX4_readWord_0 rfl ?_
  refine vc_getI dX4_readWord_1 flX4_69 (s_22 hB0.1.1) rfl ?_
  refine vc_iconst dX4_readWord_4 rfl ?_
  refine vc_icmp_ne dX4_readWord_5 (fun h3 => ?_) (fun h3 => ?_)
  · refine vc_aload_n dX4_readWord_16 rfl ?_
    refine vc_iconst dX4_readWord_17 rfl ?_
    refine vc_cVI dX4_readWord_18 (sfX4_failedF (M := M) hB0.1  g n p hR 1 ) rfl okX4_failed viX4_failed lkX4_122 (s_22 hB0.1.1) cl_4 rfl (Nat.le_of_ble_eq_true rfl) ⟨rfl, rfl⟩ (Nat.le_of_ble_eq_true rfl) (Nat.le_of_ble_eq_true rfl) (Nat.le_of_ble_eq_true rfl) ?_
    rintro x4 M5 ⟨hB6, kp7, kp8, kp9, kp10, h11, h12, h13, h14, h15, h16, h17⟩
    have hB18 : BD M M5 := BD.go hB0 hB6
    have kp19 : mI M5 24 = mI M 24 := kp_go rfl kp7
    have kp20 : mI M5 26 = mI M 26 := kp_go rfl kp8
    have kp21 : mI M5 27 = mI M 27 := kp_go rfl kp9
    have kp22 : mI M5 28 = mI M 28 := kp_go rfl kp10
    refine vc_zret dX4_readWord_21 rfl (by first | decide | omega) (Nat.le_of_ble_eq_true rfl) (Nat.le_of_ble_eq_true rfl) ?_
    exact ⟨_, rfl, hB18, kp19, kp20, kp21, kp22, by omega, by omega, by omega, by omega, by omega, Or.inr ⟨by omega, by omega, h16, h17⟩⟩
  · refine vc_aload_n dX4_readWord_8 rfl ?_
    refine vc_getI dX4_readWord_9 flX4_119 (s_22 hB0.1.1) rfl ?_
    refine vc_iload_n dX4_readWord_12 rfl ?_
    refine vc_icmp_eq dX4_readWord_13 (fun h23 => ?_) (fun h23 => ?_)
    · refine vc_aload_n dX4_readWord_22 rfl ?_
      refine vc_cVI dX4_readWord_23 (sfX4_takeTokenF (M := M) hB0.1  g n p hR (by omega)) rfl okX4_takeToken viX4_takeToken lkX4_65 (s_22 hB0.1.1) cl_4 rfl (Nat.le_of_ble_eq_true rfl) ⟨rfl, rfl⟩ (Nat.le_of_ble_eq_true rfl) (Nat.le_of_ble_eq_true rfl) (Nat.le_of_ble_eq_true rfl) ?_
      rintro x24 M25 ⟨hB26, kp27, kp28, kp29, kp30, h31, h32, h33, h34, h35, h36⟩
      have hB37 : BD M M25 := BD.go hB0 hB26
      have kp38 : mI M25 24 = mI M 24 := kp_go rfl kp27
      have kp39 : mI M25 26 = mI M 26 := kp_go rfl kp28
      have kp40 : mI M25 27 = mI M 27 := kp_go rfl kp29
      have kp41 : mI M25 28 = mI M 28 := kp_go rfl kp30
      refine vc_zret dX4_readWord_26 rfl (by first | decide | omega) (Nat.le_of_ble_eq_true rfl) (Nat.le_of_ble_eq_true rfl) ?_
      exact ⟨_, rfl, hB37, kp38, kp39, kp40, kp41, by omega, by omega, by omega, by omega, by omega, Or.inl ⟨by omega, by omega, h36⟩⟩
    · refine vc_aload_n dX4_readWord_16 rfl ?_
      refine vc_iconst dX4_readWord_17 rfl ?_
      refine vc_cVI dX4_readWord_18 (sfX4_failedF (M := M) hB0.1  g n p hR 1 ) rfl okX4_failed viX4_failed lkX4_122 (s_22 hB0.1.1) cl_4 rfl (Nat.le_of_ble_eq_true rfl) ⟨rfl, rfl⟩ (Nat.le_of_ble_eq_true rfl) (Nat.le_of_ble_eq_true rfl) (Nat.le_of_ble_eq_true rfl) ?_
      rintro x42 M43 ⟨hB44, kp45, kp46, kp47, kp48, h49, h50, h51, h52, h53, h54, h55⟩
      have hB56 : BD M M43 := BD.go hB0 hB44
      have kp57 : mI M43 24 = mI M 24 := kp_go rfl kp45
      have kp58 : mI M43 26 = mI M 26 := kp_go rfl kp46
      have kp59 : mI M43 27 = mI M 27 := kp_go rfl kp47
      have kp60 : mI M43 28 = mI M 28 := kp_go rfl kp48
      refine vc_zret dX4_readWord_21 rfl (by first | decide | omega) (Nat.le_of_ble_eq_true rfl) (Nat.le_of_ble_eq_true rfl) ?_
      exact ⟨_, rfl, hB56, kp57, kp58, kp59, kp60, by omega, by omega, by omega, by omega, by omega, Or.inr ⟨by omega, by omega, h54, h55⟩⟩

set_option maxRecDepth 4000 in
theorem sfX4_readSignF {l : Launch} {M : Mem} (hB : Box M) (g : Nat → Int) (n p : Int) (hR : RS g n M p) (s : Int) (p0 : 0 ≤ s) (p1 : s ≤ 255) : Call l mdX4_readSign [aR 22, aI s] M (fun q N => ∃ r : Int, q = some (aI r) ∧ BD M N ∧ mI N 24 = mI M 24 ∧ mI N 26 = mI M 26 ∧ mI N 27 = mI M 27 ∧ mI N 28 = mI M 28 ∧ 0 ≤ r ∧ r ≤ 1 ∧ 0 ≤ mI N 22 9 ∧ mI N 22 13 = mI M 22 13 ∧ mI N 22 14 = mI M 22 14 ∧ TR g n N r (s - 300) p) := by
  have hB0 := BD.start hB
  refine Call.of [some (aR 22), some (aI s)] rfl (Nat.le_of_ble_eq_true rfl) rfl ?_
  refine vc_ok (fun hoM hoS hoL => ?_)
  have hr1 : -2147483648 ≤ s ∧ s < 2147483648 := hoL 1 _ rfl
  have ct1 := RS.ct hR
  unfold CT at ct1
  have rg2 := RS.rg hR
  refine vc_aload_n dX4_readSign_0 rfl ?_
  refine vc_iload_n dX4_readSign_1 rfl ?_
  refine vc_cVI dX4_readSign_2 (sfX4_isSignF (M := M) hB0.1  s ) rfl okX4_isSign viX4_isSign lkX4_163 (s_22 hB0.1.1) cl_4 rfl (Nat.le_of_ble_eq_true rfl) ⟨rfl, rfl⟩ (Nat.le_of_ble_eq_true rfl) (Nat.le_of_ble_eq_true rfl) (Nat.le_of_ble_eq_true rfl) ?_
  rintro x3 _ ⟨rfl, h4, h5, h6⟩
  refine vc_if_ne dX4_readSign_5 (fun h7 => ?_) (fun h7 => ?_)
  · refine vc_aload_n dX4_readSign_14 rfl ?_
    refine vc_cVI dX4_readSign_15 (sfX4_takeTokenF (M := M) hB0.1  g n p hR (by omega)) rfl okX4_takeToken viX4_takeToken lkX4_65 (s_22 hB0.1.1) cl_4 rfl (Nat.le_of_ble_eq_true rfl) ⟨rfl, rfl⟩ (Nat.le_of_ble_eq_true rfl) (Nat.le_of_ble_eq_true rfl) (Nat.le_of_ble_eq_true rfl) ?_
    rintro x8 M9 ⟨hB10, kp11, kp12, kp13, kp14, h15, h16, h17, h18, h19, h20⟩
    have hB21 : BD M M9 := BD.go hB0 hB10
    have kp22 : mI M9 24 = mI M 24 := kp_go rfl kp11
    have kp23 : mI M9 26 = mI M 26 := kp_go rfl kp12
    have kp24 : mI M9 27 = mI M 27 := kp_go rfl kp13
    have kp25 : mI M9 28 = mI M 28 := kp_go rfl kp14
    refine vc_zret dX4_readSign_18 rfl (by first | decide | omega) (Nat.le_of_ble_eq_true rfl) (Nat.le_of_ble_eq_true rfl) ?_
    exact ⟨_, rfl, hB21, kp22, kp23, kp24, kp25, by omega, by omega, by omega, by omega, by omega, Or.inl ⟨by omega, by omega, h20⟩⟩
  · refine vc_aload_n dX4_readSign_8 rfl ?_
    refine vc_iconst dX4_readSign_9 rfl ?_
    refine vc_cVI dX4_readSign_10 (sfX4_failedF (M := M) hB0.1  g n p hR 1 ) rfl okX4_failed viX4_failed lkX4_122 (s_22 hB0.1.1) cl_4 rfl (Nat.le_of_ble_eq_true rfl) ⟨rfl, rfl⟩ (Nat.le_of_ble_eq_true rfl) (Nat.le_of_ble_eq_true rfl) (Nat.le_of_ble_eq_true rfl) ?_
    rintro x26 M27 ⟨hB28, kp29, kp30, kp31, kp32, h33, h34, h35, h36, h37, h38, h39⟩
    have hB40 : BD M M27 := BD.go hB0 hB28
    have kp41 : mI M27 24 = mI M 24 := kp_go rfl kp29
    have kp42 : mI M27 26 = mI M 26 := kp_go rfl kp30
    have kp43 : mI M27 27 = mI M 27 := kp_go rfl kp31
    have kp44 : mI M27 28 = mI M 28 := kp_go rfl kp32
    refine vc_zret dX4_readSign_13 rfl (by first | decide | omega) (Nat.le_of_ble_eq_true rfl) (Nat.le_of_ble_eq_true rfl) ?_
    exact ⟨_, rfl, hB40, kp41, kp42, kp43, kp44, by omega, by omega, by omega, by omega, by omega, Or.inr ⟨by omega, by omega, h38, h39⟩⟩

set_option maxRecDepth 4000 in
theorem sfX4_readCornerF {l : Launch} {M : Mem} (hB : Box M) (g : Nat → Int) (n p : Int) (hR : RS g n M p) (c : Int) (p0 : 0 ≤ c) (p1 : c ≤ 4) : Call l mdX4_readCorner [aR 22, aI c] M (fun q N => ∃ r : Int, q = some (aI r) ∧ BD M N ∧ mI N 24 = mI M 24 ∧ mI N 26 = mI M 26 ∧ mI N 27 = mI M 27 ∧ mI N 28 = mI M 28 ∧ 0 ≤ r ∧ r ≤ 1 ∧ 0 ≤ mI N 22 9 ∧ mI N 22 13 = mI M 22 13 ∧ mI N 22 14 = mI M 22 14 ∧ CR g n N r (sNum (tk g n) (nx g n) 0 15 p)) := by
  have hB0 := BD.start hB
  refine Call.of [some (aR 22), some (aI c)] rfl (Nat.le_of_ble_eq_true rfl) rfl ?_
  have hrg := RS.rg hR
  refine vc_aload_n dX4_readCorner_0 rfl ?_
  refine vc_iload_n dX4_readCorner_1 rfl ?_
  refine vc_iconst dX4_readCorner_2 rfl ?_
  refine vc_bipush dX4_readCorner_3 rfl ?_
  refine vc_cVI dX4_readCorner_5 (sfX4_readNumberF (M := M) hB0.1  g n p hR c 0 15 (by omega) (by omega)) rfl okX4_readNumber viX4_readNumber lkX4_144 (s_22 hB0.1.1) cl_4 rfl (Nat.le_of_ble_eq_true rfl) ⟨rfl, rfl⟩ (Nat.le_of_ble_eq_true rfl) (Nat.le_of_ble_eq_true rfl) (Nat.le_of_ble_eq_true rfl) ?_
  rintro x1 M2 ⟨hB3, kp4, kp5, kp6, kp7, h8, h9, h10, h11, h12, h13⟩
  have hB14 : BD M M2 := BD.go hB0 hB3
  have kp15 : mI M2 24 = mI M 24 := kp_go rfl kp4
  have kp16 : mI M2 26 = mI M 26 := kp_go rfl kp5
  have kp17 : mI M2 27 = mI M 27 := kp_go rfl kp6
  have kp18 : mI M2 28 = mI M 28 := kp_go rfl kp7
  refine vc_zret dX4_readCorner_8 rfl (by first | decide | omega) (Nat.le_of_ble_eq_true rfl) (Nat.le_of_ble_eq_true rfl) ?_
  exact ⟨_, rfl, hB14, kp15, kp16, kp17, kp18, by omega, by omega, by omega, by omega, by omega, by exact CR.cast h13 (by omega)⟩

set_option maxRecDepth 4000 in
theorem sfX4_readFacingF {l : Launch} {M : Mem} (hB : Box M) (g : Nat → Int) (n p : Int) (hR : RS g n M p)   : Call l mdX4_readFacing [aR 22] M (fun q N => ∃ r : Int, q = some (aI r) ∧ BD M N ∧ mI N 24 = mI M 24 ∧ mI N 26 = mI M 26 ∧ mI N 27 = mI M 27 ∧ mI N 28 = mI M 28 ∧ 0 ≤ r ∧ r ≤ 1 ∧ 0 ≤ mI N 22 9 ∧ mI N 22 13 = mI M 22 13 ∧ mI N 22 14 = mI M 22 14 ∧ CR g n N r (sFac (tk g n) (nx g n) p)) := by
  have hB0 := BD.start hB
  refine Call.of [some (aR 22)] rfl (Nat.le_of_ble_eq_true rfl) rfl ?_
  have hrg := RS.rg hR
  refine vc_aload_n dX4_readFacing_0 rfl ?_
  refine vc_bipush dX4_readFacing_1 rfl ?_
  refine vc_cVI dX4_readFacing_3 (sfX4_readWordF (M := M) hB0.1  g n p hR 17 (by omega) (by omega)) rfl okX4_readWord viX4_readWord lkX4_151 (s_22 hB0.1.1) cl_4 rfl (Nat.le_of_ble_eq_true rfl) ⟨rfl, rfl⟩ (Nat.le_of_ble_eq_true rfl) (Nat.le_of_ble_eq_true rfl) (Nat.le_of_ble_eq_true rfl) ?_
  rintro x1 M2 ⟨hB3, kp4, kp5, kp6, kp7, h8, h9, h10, h11, h12, h13⟩
  have hB14 : BD M M2 := BD.go hB0 hB3
  have kp15 : mI M2 24 = mI M 24 := kp_go rfl kp4
  have kp16 : mI M2 26 = mI M 26 := kp_go rfl kp5
  have kp17 : mI M2 27 = mI M 27 := kp_go rfl kp6
  have kp18 : mI M2 28 = mI M 28 := kp_go rfl kp7
  refine vc_if_eq dX4_readFacing_6 (fun h19 => ?_) (fun h19 => ?_)
  · refine vc_iconst dX4_readFacing_23 rfl ?_
    refine vc_zret dX4_readFacing_24 rfl (by first | decide | omega) (Nat.le_of_ble_eq_true rfl) (Nat.le_of_ble_eq_true rfl) ?_
    exact ⟨_, rfl, hB14, kp15, kp16, kp17, kp18, by omega, by omega, by omega, by omega, by omega, by unfold sFac; exact CR.b_bad h13.cr (by omega) (by omega)⟩
  · have e20 := CR.ok h13.cr (by omega)
    refine vc_aload_n dX4_readFacing_9 rfl ?_
    refine vc_iconst dX4_readFacing_10 rfl ?_
    refine vc_iconst dX4_readFacing_11 rfl ?_
    refine vc_iconst dX4_readFacing_12 rfl ?_
    refine vc_cVI dX4_readFacing_13 (sfX4_readNumberF (M := M2) hB14.1  g n ((sTok (tk g n) (nx g n) (101 + 17) p).2) e20.2 2 0 3 (by omega) (by omega)) rfl okX4_readNumber viX4_readNumber lkX4_144 (s_22 hB14.1.1) cl_4 rfl (Nat.le_of_ble_eq_true rfl) ⟨rfl, rfl⟩ (Nat.le_of_ble_eq_true rfl) (Nat.le_of_ble_eq_true rfl) (Nat.le_of_ble_eq_true rfl) ?_
    rintro x21 M22 ⟨hB23, kp24, kp25, kp26, kp27, h28, h29, h30, h31, h32, h33⟩
    have hB34 : BD M M22 := BD.go hB14 hB23
    have kp35 : mI M22 24 = mI M 24 := kp_go kp15 kp24
    have kp36 : mI M22 26 = mI M 26 := kp_go kp16 kp25
    have kp37 : mI M22 27 = mI M 27 := kp_go kp17 kp26
    have kp38 : mI M22 28 = mI M 28 := kp_go kp18 kp27
    refine vc_if_eq dX4_readFacing_16 (fun h39 => ?_) (fun h39 => ?_)
    · refine vc_iconst dX4_readFacing_23 rfl ?_
      refine vc_zret dX4_readFacing_24 rfl (by first | decide | omega) (Nat.le_of_ble_eq_true rfl) (Nat.le_of_ble_eq_true rfl) ?_
      exact ⟨_, rfl, hB34, kp35, kp36, kp37, kp38, by omega, by omega, by omega, by omega, by omega, by unfold sFac; exact CR.b_ok h13.cr (by omega) (CR.cast h33 (by omega))⟩
    · have e40 := CR.ok h33 (by omega)
      refine vc_iconst dX4_readFacing_19 rfl ?_
      refine vc_goto dX4_readFacing_20 ?_
      refine vc_zret dX4_readFacing_24 rfl (by first | decide | omega) (Nat.le_of_ble_eq_true rfl) (Nat.le_of_ble_eq_true rfl) ?_
      exact ⟨_, rfl, hB34, kp35, kp36, kp37, kp38, by omega, by omega, by omega, by omega, by omega, by unfold sFac; exact CR.b_ok h13.cr (by omega) (CR.cast h33 (by omega))⟩

set_option maxRecDepth 4000 in
theorem sfX4_readSideToF {l : Launch} {M : Mem} (hB : Box M) (g : Nat → Int) (n p : Int) (hR : RS g n M p) (c : Int) (p0 : 0 ≤ c) (p1 : c ≤ 4) : Call l mdX4_readSideTo [aR 22, aI c] M (fun q N => ∃ r : Int, q = some (aI r) ∧ BD M N ∧ mI N 24 = mI M 24 ∧ mI N 26 = mI M 26 ∧ mI N 27 = mI M 27 ∧ mI N 28 = mI M 28 ∧ 0 ≤ r ∧ r ≤ 1 ∧ 0 ≤ mI N 22 9 ∧ mI N 22 13 = mI M 22 13 ∧ mI N 22 14 = mI M 22 14 ∧ CR g n N r (sSide (tk g n) (nx g n) p)) := by
  have hB0 := BD.start hB
  refine Call.of [some (aR 22), some (aI c)] rfl (Nat.le_of_ble_eq_true rfl) rfl ?_
  have ct1 := RS.ct hR
  unfold CT at ct1
  have rg2 := RS.rg hR
  refine vc_aload_n dX4_readSideTo_0 rfl ?_
  refine vc_getI dX4_readSideTo_1 flX4_69 (s_22 hB0.1.1) rfl ?_
  refine vc_iconst dX4_readSideTo_4 rfl ?_
  refine vc_icmp_ne dX4_readSideTo_5 (fun h3 => ?_) (fun h3 => ?_)
  · refine vc_aload_n dX4_readSideTo_35 rfl ?_
    refine vc_iconst dX4_readSideTo_36 rfl ?_
    refine vc_cVI dX4_readSideTo_37 (sfX4_failedF (M := M) hB0.1  g n p hR 1 ) rfl okX4_failed viX4_failed lkX4_122 (s_22 hB0.1.1) cl_4 rfl (Nat.le_of_ble_eq_true rfl) ⟨rfl, rfl⟩ (Nat.le_of_ble_eq_true rfl) (Nat.le_of_ble_eq_true rfl) (Nat.le_of_ble_eq_true rfl) ?_
    rintro x4 M5 ⟨hB6, kp7, kp8, kp9, kp10, h11, h12, h13, h14, h15, h16, h17⟩
    have hB18 : BD M M5 := BD.go hB0 hB6
    have kp19 : mI M5 24 = mI M 24 := kp_go rfl kp7
    have kp20 : mI M5 26 = mI M 26 := kp_go rfl kp8
    have kp21 : mI M5 27 = mI M 27 := kp_go rfl kp9
    have kp22 : mI M5 28 = mI M 28 := kp_go rfl kp10
    refine vc_zret dX4_readSideTo_40 rfl (by first | decide | omega) (Nat.le_of_ble_eq_true rfl) (Nat.le_of_ble_eq_true rfl) ?_
    exact ⟨_, rfl, hB18, kp19, kp20, kp21, kp22, by omega, by omega, by omega, by omega, by omega, CRb (e := 1) (q := p) (by omega) h16 h17 (by omega) (by unfold sSide; (repeat' split) <;> first | rfl | (exfalso; omega))⟩
  · refine vc_aload_n dX4_readSideTo_8 rfl ?_
    refine vc_getI dX4_readSideTo_9 flX4_119 (s_22 hB0.1.1) rfl ?_
    refine vc_bipush dX4_readSideTo_12 rfl ?_
    refine vc_icmp_lt dX4_readSideTo_14 (fun h23 => ?_) (fun h23 => ?_)
    · refine vc_aload_n dX4_readSideTo_35 rfl ?_
      refine vc_iconst dX4_readSideTo_36 rfl ?_
      refine vc_cVI dX4_readSideTo_37 (sfX4_failedF (M := M) hB0.1  g n p hR 1 ) rfl okX4_failed viX4_failed lkX4_122 (s_22 hB0.1.1) cl_4 rfl (Nat.le_of_ble_eq_true rfl) ⟨rfl, rfl⟩ (Nat.le_of_ble_eq_true rfl) (Nat.le_of_ble_eq_true rfl) (Nat.le_of_ble_eq_true rfl) ?_
      rintro x24 M25 ⟨hB26, kp27, kp28, kp29, kp30, h31, h32, h33, h34, h35, h36, h37⟩
      have hB38 : BD M M25 := BD.go hB0 hB26
      have kp39 : mI M25 24 = mI M 24 := kp_go rfl kp27
      have kp40 : mI M25 26 = mI M 26 := kp_go rfl kp28
      have kp41 : mI M25 27 = mI M 27 := kp_go rfl kp29
      have kp42 : mI M25 28 = mI M 28 := kp_go rfl kp30
      refine vc_zret dX4_readSideTo_40 rfl (by first | decide | omega) (Nat.le_of_ble_eq_true rfl) (Nat.le_of_ble_eq_true rfl) ?_
      exact ⟨_, rfl, hB38, kp39, kp40, kp41, kp42, by omega, by omega, by omega, by omega, by omega, CRb (e := 1) (q := p) (by omega) h36 h37 (by omega) (by unfold sSide; (repeat' split) <;> first | rfl | (exfalso; omega))⟩
    · refine vc_aload_n dX4_readSideTo_17 rfl ?_
      refine vc_getI dX4_readSideTo_18 flX4_119 (s_22 hB0.1.1) rfl ?_
      refine vc_bipush dX4_readSideTo_21 rfl ?_
      refine vc_icmp_gt dX4_readSideTo_23 (fun h43 => ?_) (fun h43 => ?_)
      · refine vc_aload_n dX4_readSideTo_35 rfl ?_
        refine vc_iconst dX4_readSideTo_36 rfl ?_
        refine vc_cVI dX4_readSideTo_37 (sfX4_failedF (M := M) hB0.1  g n p hR 1 ) rfl okX4_failed viX4_failed lkX4_122 (s_22 hB0.1.1) cl_4 rfl (Nat.le_of_ble_eq_true rfl) ⟨rfl, rfl⟩ (Nat.le_of_ble_eq_true rfl) (Nat.le_of_ble_eq_true rfl) (Nat.le_of_ble_eq_true rfl) ?_
        rintro x44 M45 ⟨hB46, kp47, kp48, kp49, kp50, h51, h52, h53, h54, h55, h56, h57⟩
        have hB58 : BD M M45 := BD.go hB0 hB46
        have kp59 : mI M45 24 = mI M 24 := kp_go rfl kp47
        have kp60 : mI M45 26 = mI M 26 := kp_go rfl kp48
        have kp61 : mI M45 27 = mI M 27 := kp_go rfl kp49
        have kp62 : mI M45 28 = mI M 28 := kp_go rfl kp50
        refine vc_zret dX4_readSideTo_40 rfl (by first | decide | omega) (Nat.le_of_ble_eq_true rfl) (Nat.le_of_ble_eq_true rfl) ?_
        exact ⟨_, rfl, hB58, kp59, kp60, kp61, kp62, by omega, by omega, by omega, by omega, by omega, CRb (e := 1) (q := p) (by omega) h56 h57 (by omega) (by unfold sSide; (repeat' split) <;> first | rfl | (exfalso; omega))⟩
      · refine vc_aload_n dX4_readSideTo_26 rfl ?_
        refine vc_getI dX4_readSideTo_27 flX4_119 (s_22 hB0.1.1) rfl ?_
        refine vc_bipush dX4_readSideTo_30 rfl ?_
        refine vc_icmp_ne dX4_readSideTo_32 (fun h63 => ?_) (fun h63 => ?_)
        · refine vc_aload_n dX4_readSideTo_41 rfl ?_
          refine vc_iload_n dX4_readSideTo_42 rfl ?_
          refine vc_aload_n dX4_readSideTo_43 rfl ?_
          refine vc_getI dX4_readSideTo_44 flX4_119 (s_22 hB0.1.1) rfl ?_
          refine vc_bipush dX4_readSideTo_47 rfl ?_
          refine vc_icmp_ne dX4_readSideTo_49 (fun h64 => ?_) (fun h64 => ?_)
          · refine vc_aload_n dX4_readSideTo_56 rfl ?_
            refine vc_getI dX4_readSideTo_57 flX4_119 (s_22 hB0.1.1) rfl ?_
            refine vc_bipush dX4_readSideTo_60 rfl ?_
            refine vc_isubE dX4_readSideTo_62 (by omega) (by omega) ?_
            refine vc_iconst dX4_readSideTo_63 rfl ?_
            refine vc_iaddE dX4_readSideTo_64 (by omega) (by omega) ?_
            refine vc_cVU dX4_readSideTo_65 (sfX4_keepF (M := M) hB0.1  g n p hR c (((mI M 22 11) - 23) + 1) (by omega) (by omega)) rfl okX4_keep viX4_keep lkX4_125 (s_22 hB0.1.1) cl_4 rfl (Nat.le_of_ble_eq_true rfl) ⟨rfl, rfl⟩ (Nat.le_of_ble_eq_true rfl) (Nat.le_of_ble_eq_true rfl) (Nat.le_of_ble_eq_true rfl) ?_
            rintro M65 ⟨hB66, kp67, kp68, kp69, kp70, h71, h72, h73, h74⟩
            have hB75 : BD M M65 := BD.go hB0 hB66
            have kp76 : mI M65 24 = mI M 24 := kp_go rfl kp67
            have kp77 : mI M65 26 = mI M 26 := kp_go rfl kp68
            have kp78 : mI M65 27 = mI M 27 := kp_go rfl kp69
            have kp79 : mI M65 28 = mI M 28 := kp_go rfl kp70
            refine vc_aload_n dX4_readSideTo_68 rfl ?_
            refine vc_cVI dX4_readSideTo_69 (sfX4_takeTokenF (M := M65) hB75.1  g n p h74 (by omega)) rfl okX4_takeToken viX4_takeToken lkX4_65 (s_22 hB75.1.1) cl_4 rfl (Nat.le_of_ble_eq_true rfl) ⟨rfl, rfl⟩ (Nat.le_of_ble_eq_true rfl) (Nat.le_of_ble_eq_true rfl) (Nat.le_of_ble_eq_true rfl) ?_
            rintro x80 M81 ⟨hB82, kp83, kp84, kp85, kp86, h87, h88, h89, h90, h91, h92⟩
            have hB93 : BD M M81 := BD.go hB75 hB82
            have kp94 : mI M81 24 = mI M 24 := kp_go kp76 kp83
            have kp95 : mI M81 26 = mI M 26 := kp_go kp77 kp84
            have kp96 : mI M81 27 = mI M 27 := kp_go kp78 kp85
            have kp97 : mI M81 28 = mI M 28 := kp_go kp79 kp86
            refine vc_zret dX4_readSideTo_72 rfl (by first | decide | omega) (Nat.le_of_ble_eq_true rfl) (Nat.le_of_ble_eq_true rfl) ?_
            exact ⟨_, rfl, hB93, kp94, kp95, kp96, kp97, by omega, by omega, by omega, by omega, by omega, CRo (q := (nx g n p)) (by omega) h92 (by unfold sSide; (repeat' split) <;> first | rfl | (exfalso; omega))⟩
          · refine vc_iconst dX4_readSideTo_52 rfl ?_
            refine vc_goto dX4_readSideTo_53 ?_
            refine vc_cVU dX4_readSideTo_65 (sfX4_keepF (M := M) hB0.1  g n p hR c 3 (by omega) (by omega)) rfl okX4_keep viX4_keep lkX4_125 (s_22 hB0.1.1) cl_4 rfl (Nat.le_of_ble_eq_true rfl) ⟨rfl, rfl⟩ (Nat.le_of_ble_eq_true rfl) (Nat.le_of_ble_eq_true rfl) (Nat.le_of_ble_eq_true rfl) ?_
            rintro M98 ⟨hB99, kp100, kp101, kp102, kp103, h104, h105, h106, h107⟩
            have hB108 : BD M M98 := BD.go hB0 hB99
            have kp109 : mI M98 24 = mI M 24 := kp_go rfl kp100
            have kp110 : mI M98 26 = mI M 26 := kp_go rfl kp101
            have kp111 : mI M98 27 = mI M 27 := kp_go rfl kp102
            have kp112 : mI M98 28 = mI M 28 := kp_go rfl kp103
            refine vc_aload_n dX4_readSideTo_68 rfl ?_
            refine vc_cVI dX4_readSideTo_69 (sfX4_takeTokenF (M := M98) hB108.1  g n p h107 (by omega)) rfl okX4_takeToken viX4_takeToken lkX4_65 (s_22 hB108.1.1) cl_4 rfl (Nat.le_of_ble_eq_true rfl) ⟨rfl, rfl⟩ (Nat.le_of_ble_eq_true rfl) (Nat.le_of_ble_eq_true rfl) (Nat.le_of_ble_eq_true rfl) ?_
            rintro x113 M114 ⟨hB115, kp116, kp117, kp118, kp119, h120, h121, h122, h123, h124, h125⟩
            have hB126 : BD M M114 := BD.go hB108 hB115
            have kp127 : mI M114 24 = mI M 24 := kp_go kp109 kp116
            have kp128 : mI M114 26 = mI M 26 := kp_go kp110 kp117
            have kp129 : mI M114 27 = mI M 27 := kp_go kp111 kp118
            have kp130 : mI M114 28 = mI M 28 := kp_go kp112 kp119
            refine vc_zret dX4_readSideTo_72 rfl (by first | decide | omega) (Nat.le_of_ble_eq_true rfl) (Nat.le_of_ble_eq_true rfl) ?_
            exact ⟨_, rfl, hB126, kp127, kp128, kp129, kp130, by omega, by omega, by omega, by omega, by omega, CRo (q := (nx g n p)) (by omega) h125 (by unfold sSide; (repeat' split) <;> first | rfl | (exfalso; omega))⟩
        · refine vc_aload_n dX4_readSideTo_35 rfl ?_
          refine vc_iconst dX4_readSideTo_36 rfl ?_
          refine vc_cVI dX4_readSideTo_37 (sfX4_failedF (M := M) hB0.1  g n p hR 1 ) rfl okX4_failed viX4_failed lkX4_122 (s_22 hB0.1.1) cl_4 rfl (Nat.le_of_ble_eq_true rfl) ⟨rfl, rfl⟩ (Nat.le_of_ble_eq_true rfl) (Nat.le_of_ble_eq_true rfl) (Nat.le_of_ble_eq_true rfl) ?_
          rintro x131 M132 ⟨hB133, kp134, kp135, kp136, kp137, h138, h139, h140, h141, h142, h143, h144⟩
          have hB145 : BD M M132 := BD.go hB0 hB133
          have kp146 : mI M132 24 = mI M 24 := kp_go rfl kp134
          have kp147 : mI M132 26 = mI M 26 := kp_go rfl kp135
          have kp148 : mI M132 27 = mI M 27 := kp_go rfl kp136
          have kp149 : mI M132 28 = mI M 28 := kp_go rfl kp137
          refine vc_zret dX4_readSideTo_40 rfl (by first | decide | omega) (Nat.le_of_ble_eq_true rfl) (Nat.le_of_ble_eq_true rfl) ?_
          exact ⟨_, rfl, hB145, kp146, kp147, kp148, kp149, by omega, by omega, by omega, by omega, by omega, CRb (e := 1) (q := p) (by omega) h143 h144 (by omega) (by unfold sSide; (repeat' split) <;> first | rfl | (exfalso; omega))⟩

set_option maxRecDepth 4000 in
theorem sfX4_readTurnF {l : Launch} {M : Mem} (hB : Box M) (g : Nat → Int) (n p : Int) (hR : RS g n M p) (i : Int)  : Call l mdX4_readTurn [aR 22, aI i] M (fun q N => ∃ r : Int, q = some (aI r) ∧ BD M N ∧ mI N 24 = mI M 24 ∧ mI N 26 = mI M 26 ∧ mI N 27 = mI M 27 ∧ mI N 28 = mI M 28 ∧ 0 ≤ mI N 22 9 ∧ mI N 22 13 = mI M 22 13 ∧ mI N 22 14 = mI M 22 14 ∧ CN g n N r (sTurn (tk g n) (nx g n) i p)) := by
  have hB0 := BD.start hB
  refine Call.of [some (aR 22), some (aI i), none, none, none] rfl (Nat.le_of_ble_eq_true rfl) rfl ?_
  refine vc_ok (fun hoM hoS hoL => ?_)
  have hr1 : -2147483648 ≤ i ∧ i < 2147483648 := hoL 1 _ rfl
  have ct1 := RS.ct hR
  unfold CT at ct1
  have rg2 := RS.rg hR
  refine vc_aload_n dX4_readTurn_0 rfl ?_
  refine vc_getI dX4_readTurn_1 flX4_69 (s_22 hB0.1.1) rfl ?_
  refine vc_iconst dX4_readTurn_4 rfl ?_
  refine vc_icmp_ne dX4_readTurn_5 (fun h3 => ?_) (fun h3 => ?_)
  · refine vc_iconst dX4_readTurn_21 rfl ?_
    refine vc_istore_n dX4_readTurn_22 (by decide) rfl (show _ = [some (aR 22), some (aI i), some (aI 0), none, none] from rfl) ?_
    refine vc_iload_n dX4_readTurn_23 rfl ?_
    refine vc_if_ne dX4_readTurn_24 (fun h4 => by exfalso; omega) (fun h4 => ?_)
    refine vc_aload_n dX4_readTurn_27 rfl ?_
    refine vc_getI dX4_readTurn_28 flX4_69 (s_22 hB0.1.1) rfl ?_
    refine vc_iconst dX4_readTurn_31 rfl ?_
    refine vc_icmp_eq dX4_readTurn_32 (fun h5 => ?_) (fun h5 => ?_)
    · refine vc_iload_n dX4_readTurn_43 rfl ?_
      refine vc_if_ne dX4_readTurn_44 (fun h6 => by exfalso; omega) (fun h6 => ?_)
      refine vc_aload_n dX4_readTurn_47 rfl ?_
      refine vc_getI dX4_readTurn_48 flX4_119 (s_22 hB0.1.1) rfl ?_
      refine vc_iconst dX4_readTurn_51 rfl ?_
      refine vc_icmp_lt dX4_readTurn_52 (fun h7 => ?_) (fun h7 => ?_)
      · refine vc_aload_n dX4_readTurn_63 rfl ?_
        refine vc_iconst dX4_readTurn_64 rfl ?_
        refine vc_cVI dX4_readTurn_65 (sfX4_failedF (M := M) hB0.1  g n p hR 2 ) rfl okX4_failed viX4_failed lkX4_122 (s_22 hB0.1.1) cl_4 rfl (Nat.le_of_ble_eq_true rfl) ⟨rfl, rfl⟩ (Nat.le_of_ble_eq_true rfl) (Nat.le_of_ble_eq_true rfl) (Nat.le_of_ble_eq_true rfl) ?_
        rintro x8 M9 ⟨hB10, kp11, kp12, kp13, kp14, h15, h16, h17, h18, h19, h20, h21⟩
        have hB22 : BD M M9 := BD.go hB0 hB10
        have kp23 : mI M9 24 = mI M 24 := kp_go rfl kp11
        have kp24 : mI M9 26 = mI M 26 := kp_go rfl kp12
        have kp25 : mI M9 27 = mI M 27 := kp_go rfl kp13
        have kp26 : mI M9 28 = mI M 28 := kp_go rfl kp14
        refine vc_pop dX4_readTurn_68 rfl ?_
        refine vc_iconst dX4_readTurn_69 rfl ?_
        refine vc_iret dX4_readTurn_70 rfl (Nat.le_of_ble_eq_true rfl) (Nat.le_of_ble_eq_true rfl) ?_
        exact ⟨_, rfl, hB22, kp23, kp24, kp25, kp26, by omega, by omega, by omega, CNb (e := 2) (q := p) (by omega) h20 h21 (by omega) (by unfold sTurn; rw [if_neg (by omega), if_neg (by omega), if_pos (by omega)])⟩
      · refine vc_aload_n dX4_readTurn_55 rfl ?_
        refine vc_getI dX4_readTurn_56 flX4_119 (s_22 hB0.1.1) rfl ?_
        refine vc_iconst dX4_readTurn_59 rfl ?_
        refine vc_icmp_le dX4_readTurn_60 (fun h27 => ?_) (fun h27 => ?_)
        · refine vc_iload_n dX4_readTurn_71 rfl ?_
          refine vc_bipush dX4_readTurn_72 rfl ?_
          refine vc_icmp_lt dX4_readTurn_74 (fun h28 => ?_) (fun h28 => ?_)
          · refine vc_iload_n dX4_readTurn_86 rfl ?_
            refine vc_if_eq dX4_readTurn_87 (fun h29 => ?_) (fun h29 => by exfalso; omega)
            refine vc_aload_n dX4_readTurn_95 rfl ?_
            refine vc_getI dX4_readTurn_96 flX4_119 (s_22 hB0.1.1) rfl ?_
            refine vc_nameI (fun x30 ex30 => ?_)
            refine vc_istore_n dX4_readTurn_99 (by decide) rfl (show _ = [some (aR 22), some (aI i), some (aI 0), some (aI x30), none] from rfl) ?_
            refine vc_aload_n dX4_readTurn_100 rfl ?_
            refine vc_iconst dX4_readTurn_101 rfl ?_
            refine vc_iconst dX4_readTurn_102 rfl ?_
            refine vc_iconst dX4_readTurn_103 rfl ?_
            refine vc_cVI dX4_readTurn_104 (sfX4_readNumberF (M := M) hB0.1  g n p hR 3 1 5 (by omega) (by omega)) rfl okX4_readNumber viX4_readNumber lkX4_144 (s_22 hB0.1.1) cl_4 rfl (Nat.le_of_ble_eq_true rfl) ⟨rfl, rfl⟩ (Nat.le_of_ble_eq_true rfl) (Nat.le_of_ble_eq_true rfl) (Nat.le_of_ble_eq_true rfl) ?_
            rintro x31 M32 ⟨hB33, kp34, kp35, kp36, kp37, h38, h39, h40, h41, h42, h43⟩
            have hB44 : BD M M32 := BD.go hB0 hB33
            have kp45 : mI M32 24 = mI M 24 := kp_go rfl kp34
            have kp46 : mI M32 26 = mI M 26 := kp_go rfl kp35
            have kp47 : mI M32 27 = mI M 27 := kp_go rfl kp36
            have kp48 : mI M32 28 = mI M 28 := kp_go rfl kp37
            refine vc_if_ne dX4_readTurn_107 (fun h49 => ?_) (fun h49 => ?_)
            · have e50 := CR.ok h43 (by omega)
              have hn51 := sNum_ok e50.1
              have hR52 : RS g n M32 (nx g n p) := by
                have q := e50.2
                rw [hn51.1] at q
                exact q
              have ct53 := RS.ct hR52
              unfold CT at ct53
              have rg54 := RS.rg hR52
              refine vc_aload_n dX4_readTurn_112 rfl ?_
              refine vc_getI dX4_readTurn_113 flX4_69 (s_22 hB44.1.1) rfl ?_
              refine vc_iconst dX4_readTurn_116 rfl ?_
              refine vc_icmp_ne dX4_readTurn_117 (fun h55 => ?_) (fun h55 => ?_)
              · refine vc_aload_n dX4_readTurn_138 rfl ?_
                refine vc_iconst dX4_readTurn_139 rfl ?_
                refine vc_cVI dX4_readTurn_140 (sfX4_failedF (M := M32) hB44.1  g n (nx g n p) hR52 1 ) rfl okX4_failed viX4_failed lkX4_122 (s_22 hB44.1.1) cl_4 rfl (Nat.le_of_ble_eq_true rfl) ⟨rfl, rfl⟩ (Nat.le_of_ble_eq_true rfl) (Nat.le_of_ble_eq_true rfl) (Nat.le_of_ble_eq_true rfl) ?_
                rintro x56 M57 ⟨hB58, kp59, kp60, kp61, kp62, h63, h64, h65, h66, h67, h68, h69⟩
                have hB70 : BD M M57 := BD.go hB44 hB58
                have kp71 : mI M57 24 = mI M 24 := kp_go kp45 kp59
                have kp72 : mI M57 26 = mI M 26 := kp_go kp46 kp60
                have kp73 : mI M57 27 = mI M 27 := kp_go kp47 kp61
                have kp74 : mI M57 28 = mI M 28 := kp_go kp48 kp62
                refine vc_pop dX4_readTurn_143 rfl ?_
                refine vc_iconst dX4_readTurn_144 rfl ?_
                refine vc_iret dX4_readTurn_145 rfl (Nat.le_of_ble_eq_true rfl) (Nat.le_of_ble_eq_true rfl) ?_
                exact ⟨_, rfl, hB70, kp71, kp72, kp73, kp74, by omega, by omega, by omega, CNb (e := 1) (q := (nx g n p)) (by omega) h68 h69 (by omega) (by unfold sTurn; rw [if_neg (by omega), if_neg (by omega), if_neg (by omega), if_neg (by omega)]; unfold sOn; rw [if_neg (by omega)])⟩
              · refine vc_aload_n dX4_readTurn_120 rfl ?_
                refine vc_getI dX4_readTurn_121 flX4_119 (s_22 hB44.1.1) rfl ?_
                refine vc_bipush dX4_readTurn_124 rfl ?_
                refine vc_icmp_lt dX4_readTurn_126 (fun h75 => ?_) (fun h75 => ?_)
                · refine vc_aload_n dX4_readTurn_138 rfl ?_
                  refine vc_iconst dX4_readTurn_139 rfl ?_
                  refine vc_cVI dX4_readTurn_140 (sfX4_failedF (M := M32) hB44.1  g n (nx g n p) hR52 1 ) rfl okX4_failed viX4_failed lkX4_122 (s_22 hB44.1.1) cl_4 rfl (Nat.le_of_ble_eq_true rfl) ⟨rfl, rfl⟩ (Nat.le_of_ble_eq_true rfl) (Nat.le_of_ble_eq_true rfl) (Nat.le_of_ble_eq_true rfl) ?_
                  rintro x76 M77 ⟨hB78, kp79, kp80, kp81, kp82, h83, h84, h85, h86, h87, h88, h89⟩
                  have hB90 : BD M M77 := BD.go hB44 hB78
                  have kp91 : mI M77 24 = mI M 24 := kp_go kp45 kp79
                  have kp92 : mI M77 26 = mI M 26 := kp_go kp46 kp80
                  have kp93 : mI M77 27 = mI M 27 := kp_go kp47 kp81
                  have kp94 : mI M77 28 = mI M 28 := kp_go kp48 kp82
                  refine vc_pop dX4_readTurn_143 rfl ?_
                  refine vc_iconst dX4_readTurn_144 rfl ?_
                  refine vc_iret dX4_readTurn_145 rfl (Nat.le_of_ble_eq_true rfl) (Nat.le_of_ble_eq_true rfl) ?_
                  exact ⟨_, rfl, hB90, kp91, kp92, kp93, kp94, by omega, by omega, by omega, CNb (e := 1) (q := (nx g n p)) (by omega) h88 h89 (by omega) (by unfold sTurn; rw [if_neg (by omega), if_neg (by omega), if_neg (by omega), if_neg (by omega)]; unfold sOn; rw [if_neg (by omega)])⟩
                · refine vc_aload_n dX4_readTurn_129 rfl ?_
                  refine vc_getI dX4_readTurn_130 flX4_119 (s_22 hB44.1.1) rfl ?_
                  refine vc_bipush dX4_readTurn_133 rfl ?_
                  refine vc_icmp_le dX4_readTurn_135 (fun h95 => ?_) (fun h95 => ?_)
                  · refine vc_bipush dX4_readTurn_146 rfl ?_
                    refine vc_aload_n dX4_readTurn_148 rfl ?_
                    refine vc_getI dX4_readTurn_149 flX4_119 (s_22 hB44.1.1) rfl ?_
                    refine vc_bipush dX4_readTurn_152 rfl ?_
                    refine vc_isubE dX4_readTurn_154 (by omega) (by omega) ?_
                    refine vc_iconst dX4_readTurn_155 rfl ?_
                    refine vc_iaddE dX4_readTurn_156 (by omega) (by omega) ?_
                    refine vc_imulE dX4_readTurn_157 (by omega) (by omega) ?_
                    refine vc_iload_n dX4_readTurn_158 rfl ?_
                    refine vc_if_eq dX4_readTurn_159 (fun h96 => ?_) (fun h96 => by exfalso; omega)
                    refine vc_iconst dX4_readTurn_167 rfl ?_
                    refine vc_iaddE dX4_readTurn_168 (by omega) (by omega) ?_
                    refine vc_iload_n dX4_readTurn_169 rfl ?_
                    refine vc_iaddE dX4_readTurn_170 (by omega) (by omega) ?_
                    refine vc_nameI (fun x97 ex97 => ?_)
                    refine vc_istore dX4_readTurn_171 (by decide) rfl (show _ = [some (aR 22), some (aI i), some (aI 0), some (aI x30), some (aI x97)] from rfl) ?_
                    refine vc_aload_n dX4_readTurn_173 rfl ?_
                    refine vc_cVI dX4_readTurn_174 (sfX4_takeTokenF (M := M32) hB44.1  g n (nx g n p) hR52 (by omega)) rfl okX4_takeToken viX4_takeToken lkX4_65 (s_22 hB44.1.1) cl_4 rfl (Nat.le_of_ble_eq_true rfl) ⟨rfl, rfl⟩ (Nat.le_of_ble_eq_true rfl) (Nat.le_of_ble_eq_true rfl) (Nat.le_of_ble_eq_true rfl) ?_
                    rintro x98 M99 ⟨hB100, kp101, kp102, kp103, kp104, h105, h106, h107, h108, h109, h110⟩
                    have hB111 : BD M M99 := BD.go hB44 hB100
                    have kp112 : mI M99 24 = mI M 24 := kp_go kp45 kp101
                    have kp113 : mI M99 26 = mI M 26 := kp_go kp46 kp102
                    have kp114 : mI M99 27 = mI M 27 := kp_go kp47 kp103
                    have kp115 : mI M99 28 = mI M 28 := kp_go kp48 kp104
                    refine vc_pop dX4_readTurn_177 rfl ?_
                    refine vc_iload dX4_readTurn_178 rfl ?_
                    refine vc_iret dX4_readTurn_180 rfl (Nat.le_of_ble_eq_true rfl) (Nat.le_of_ble_eq_true rfl) ?_
                    exact ⟨_, rfl, hB111, kp112, kp113, kp114, kp115, by omega, by omega, by omega, CNo (q := (nx g n (nx g n p))) (by omega) h110 (by unfold sTurn; rw [if_neg (by omega), if_neg (by omega), if_neg (by omega), if_neg (by omega)]; unfold sOn; rw [if_pos (by omega)])⟩
                  · refine vc_aload_n dX4_readTurn_138 rfl ?_
                    refine vc_iconst dX4_readTurn_139 rfl ?_
                    refine vc_cVI dX4_readTurn_140 (sfX4_failedF (M := M32) hB44.1  g n (nx g n p) hR52 1 ) rfl okX4_failed viX4_failed lkX4_122 (s_22 hB44.1.1) cl_4 rfl (Nat.le_of_ble_eq_true rfl) ⟨rfl, rfl⟩ (Nat.le_of_ble_eq_true rfl) (Nat.le_of_ble_eq_true rfl) (Nat.le_of_ble_eq_true rfl) ?_
                    rintro x116 M117 ⟨hB118, kp119, kp120, kp121, kp122, h123, h124, h125, h126, h127, h128, h129⟩
                    have hB130 : BD M M117 := BD.go hB44 hB118
                    have kp131 : mI M117 24 = mI M 24 := kp_go kp45 kp119
                    have kp132 : mI M117 26 = mI M 26 := kp_go kp46 kp120
                    have kp133 : mI M117 27 = mI M 27 := kp_go kp47 kp121
                    have kp134 : mI M117 28 = mI M 28 := kp_go kp48 kp122
                    refine vc_pop dX4_readTurn_143 rfl ?_
                    refine vc_iconst dX4_readTurn_144 rfl ?_
                    refine vc_iret dX4_readTurn_145 rfl (Nat.le_of_ble_eq_true rfl) (Nat.le_of_ble_eq_true rfl) ?_
                    exact ⟨_, rfl, hB130, kp131, kp132, kp133, kp134, by omega, by omega, by omega, CNb (e := 1) (q := (nx g n p)) (by omega) h128 h129 (by omega) (by unfold sTurn; rw [if_neg (by omega), if_neg (by omega), if_neg (by omega), if_neg (by omega)]; unfold sOn; rw [if_neg (by omega)])⟩
            · refine vc_iconst dX4_readTurn_110 rfl ?_
              refine vc_iret dX4_readTurn_111 rfl (Nat.le_of_ble_eq_true rfl) (Nat.le_of_ble_eq_true rfl) ?_
              exact ⟨_, rfl, hB44, kp45, kp46, kp47, kp48, by omega, by omega, by omega, (by exfalso; have q := (CR.bad h43 (by omega)).1; unfold sNum at q; rw [if_neg (by omega), if_neg (by omega)] at q; exact q rfl)⟩
          · refine vc_aload_n dX4_readTurn_77 rfl ?_
            refine vc_bipush dX4_readTurn_78 rfl ?_
            refine vc_cVI dX4_readTurn_80 (sfX4_failedF (M := M) hB0.1  g n p hR 7 ) rfl okX4_failed viX4_failed lkX4_122 (s_22 hB0.1.1) cl_4 rfl (Nat.le_of_ble_eq_true rfl) ⟨rfl, rfl⟩ (Nat.le_of_ble_eq_true rfl) (Nat.le_of_ble_eq_true rfl) (Nat.le_of_ble_eq_true rfl) ?_
            rintro x135 M136 ⟨hB137, kp138, kp139, kp140, kp141, h142, h143, h144, h145, h146, h147, h148⟩
            have hB149 : BD M M136 := BD.go hB0 hB137
            have kp150 : mI M136 24 = mI M 24 := kp_go rfl kp138
            have kp151 : mI M136 26 = mI M 26 := kp_go rfl kp139
            have kp152 : mI M136 27 = mI M 27 := kp_go rfl kp140
            have kp153 : mI M136 28 = mI M 28 := kp_go rfl kp141
            refine vc_pop dX4_readTurn_83 rfl ?_
            refine vc_iconst dX4_readTurn_84 rfl ?_
            refine vc_iret dX4_readTurn_85 rfl (Nat.le_of_ble_eq_true rfl) (Nat.le_of_ble_eq_true rfl) ?_
            exact ⟨_, rfl, hB149, kp150, kp151, kp152, kp153, by omega, by omega, by omega, CNb (e := 7) (q := p) (by omega) h147 h148 (by omega) (by unfold sTurn; rw [if_neg (by omega), if_neg (by omega), if_neg (by omega), if_pos (by omega)])⟩
        · refine vc_aload_n dX4_readTurn_63 rfl ?_
          refine vc_iconst dX4_readTurn_64 rfl ?_
          refine vc_cVI dX4_readTurn_65 (sfX4_failedF (M := M) hB0.1  g n p hR 2 ) rfl okX4_failed viX4_failed lkX4_122 (s_22 hB0.1.1) cl_4 rfl (Nat.le_of_ble_eq_true rfl) ⟨rfl, rfl⟩ (Nat.le_of_ble_eq_true rfl) (Nat.le_of_ble_eq_true rfl) (Nat.le_of_ble_eq_true rfl) ?_
          rintro x154 M155 ⟨hB156, kp157, kp158, kp159, kp160, h161, h162, h163, h164, h165, h166, h167⟩
          have hB168 : BD M M155 := BD.go hB0 hB156
          have kp169 : mI M155 24 = mI M 24 := kp_go rfl kp157
          have kp170 : mI M155 26 = mI M 26 := kp_go rfl kp158
          have kp171 : mI M155 27 = mI M 27 := kp_go rfl kp159
          have kp172 : mI M155 28 = mI M 28 := kp_go rfl kp160
          refine vc_pop dX4_readTurn_68 rfl ?_
          refine vc_iconst dX4_readTurn_69 rfl ?_
          refine vc_iret dX4_readTurn_70 rfl (Nat.le_of_ble_eq_true rfl) (Nat.le_of_ble_eq_true rfl) ?_
          exact ⟨_, rfl, hB168, kp169, kp170, kp171, kp172, by omega, by omega, by omega, CNb (e := 2) (q := p) (by omega) h166 h167 (by omega) (by unfold sTurn; rw [if_neg (by omega), if_neg (by omega), if_pos (by omega)])⟩
    · refine vc_aload_n dX4_readTurn_35 rfl ?_
      refine vc_iconst dX4_readTurn_36 rfl ?_
      refine vc_cVI dX4_readTurn_37 (sfX4_failedF (M := M) hB0.1  g n p hR 1 ) rfl okX4_failed viX4_failed lkX4_122 (s_22 hB0.1.1) cl_4 rfl (Nat.le_of_ble_eq_true rfl) ⟨rfl, rfl⟩ (Nat.le_of_ble_eq_true rfl) (Nat.le_of_ble_eq_true rfl) (Nat.le_of_ble_eq_true rfl) ?_
      rintro x173 M174 ⟨hB175, kp176, kp177, kp178, kp179, h180, h181, h182, h183, h184, h185, h186⟩
      have hB187 : BD M M174 := BD.go hB0 hB175
      have kp188 : mI M174 24 = mI M 24 := kp_go rfl kp176
      have kp189 : mI M174 26 = mI M 26 := kp_go rfl kp177
      have kp190 : mI M174 27 = mI M 27 := kp_go rfl kp178
      have kp191 : mI M174 28 = mI M 28 := kp_go rfl kp179
      refine vc_pop dX4_readTurn_40 rfl ?_
      refine vc_iconst dX4_readTurn_41 rfl ?_
      refine vc_iret dX4_readTurn_42 rfl (Nat.le_of_ble_eq_true rfl) (Nat.le_of_ble_eq_true rfl) ?_
      exact ⟨_, rfl, hB187, kp188, kp189, kp190, kp191, by omega, by omega, by omega, CNb (e := 1) (q := p) (by omega) h185 h186 (by omega) (by unfold sTurn; rw [if_neg (by omega), if_pos (by omega)])⟩
  · refine vc_aload_n dX4_readTurn_8 rfl ?_
    refine vc_getI dX4_readTurn_9 flX4_119 (s_22 hB0.1.1) rfl ?_
    refine vc_bipush dX4_readTurn_12 rfl ?_
    refine vc_icmp_ne dX4_readTurn_14 (fun h192 => ?_) (fun h192 => ?_)
    · refine vc_iconst dX4_readTurn_21 rfl ?_
      refine vc_istore_n dX4_readTurn_22 (by decide) rfl (show _ = [some (aR 22), some (aI i), some (aI 0), none, none] from rfl) ?_
      refine vc_iload_n dX4_readTurn_23 rfl ?_
      refine vc_if_ne dX4_readTurn_24 (fun h193 => by exfalso; omega) (fun h193 => ?_)
      refine vc_aload_n dX4_readTurn_27 rfl ?_
      refine vc_getI dX4_readTurn_28 flX4_69 (s_22 hB0.1.1) rfl ?_
      refine vc_iconst dX4_readTurn_31 rfl ?_
      refine vc_icmp_eq dX4_readTurn_32 (fun h194 => by exfalso; omega) (fun h194 => ?_)
      refine vc_aload_n dX4_readTurn_35 rfl ?_
      refine vc_iconst dX4_readTurn_36 rfl ?_
      refine vc_cVI dX4_readTurn_37 (sfX4_failedF (M := M) hB0.1  g n p hR 1 ) rfl okX4_failed viX4_failed lkX4_122 (s_22 hB0.1.1) cl_4 rfl (Nat.le_of_ble_eq_true rfl) ⟨rfl, rfl⟩ (Nat.le_of_ble_eq_true rfl) (Nat.le_of_ble_eq_true rfl) (Nat.le_of_ble_eq_true rfl) ?_
      rintro x195 M196 ⟨hB197, kp198, kp199, kp200, kp201, h202, h203, h204, h205, h206, h207, h208⟩
      have hB209 : BD M M196 := BD.go hB0 hB197
      have kp210 : mI M196 24 = mI M 24 := kp_go rfl kp198
      have kp211 : mI M196 26 = mI M 26 := kp_go rfl kp199
      have kp212 : mI M196 27 = mI M 27 := kp_go rfl kp200
      have kp213 : mI M196 28 = mI M 28 := kp_go rfl kp201
      refine vc_pop dX4_readTurn_40 rfl ?_
      refine vc_iconst dX4_readTurn_41 rfl ?_
      refine vc_iret dX4_readTurn_42 rfl (Nat.le_of_ble_eq_true rfl) (Nat.le_of_ble_eq_true rfl) ?_
      exact ⟨_, rfl, hB209, kp210, kp211, kp212, kp213, by omega, by omega, by omega, CNb (e := 1) (q := p) (by omega) h207 h208 (by omega) (by unfold sTurn; rw [if_neg (by omega), if_pos (by omega)])⟩
    · refine vc_iconst dX4_readTurn_17 rfl ?_
      refine vc_goto dX4_readTurn_18 ?_
      refine vc_istore_n dX4_readTurn_22 (by decide) rfl (show _ = [some (aR 22), some (aI i), some (aI 1), none, none] from rfl) ?_
      refine vc_iload_n dX4_readTurn_23 rfl ?_
      refine vc_if_ne dX4_readTurn_24 (fun h214 => ?_) (fun h214 => by exfalso; omega)
      refine vc_iload_n dX4_readTurn_43 rfl ?_
      refine vc_if_ne dX4_readTurn_44 (fun h215 => ?_) (fun h215 => by exfalso; omega)
      refine vc_iload_n dX4_readTurn_71 rfl ?_
      refine vc_bipush dX4_readTurn_72 rfl ?_
      refine vc_icmp_lt dX4_readTurn_74 (fun h216 => ?_) (fun h216 => ?_)
      · refine vc_iload_n dX4_readTurn_86 rfl ?_
        refine vc_if_eq dX4_readTurn_87 (fun h217 => by exfalso; omega) (fun h217 => ?_)
        refine vc_aload_n dX4_readTurn_90 rfl ?_
        refine vc_cVI dX4_readTurn_91 (sfX4_takeTokenF (M := M) hB0.1  g n p hR (by omega)) rfl okX4_takeToken viX4_takeToken lkX4_65 (s_22 hB0.1.1) cl_4 rfl (Nat.le_of_ble_eq_true rfl) ⟨rfl, rfl⟩ (Nat.le_of_ble_eq_true rfl) (Nat.le_of_ble_eq_true rfl) (Nat.le_of_ble_eq_true rfl) ?_
        rintro x218 M219 ⟨hB220, kp221, kp222, kp223, kp224, h225, h226, h227, h228, h229, h230⟩
        have hB231 : BD M M219 := BD.go hB0 hB220
        have kp232 : mI M219 24 = mI M 24 := kp_go rfl kp221
        have kp233 : mI M219 26 = mI M 26 := kp_go rfl kp222
        have kp234 : mI M219 27 = mI M 27 := kp_go rfl kp223
        have kp235 : mI M219 28 = mI M 28 := kp_go rfl kp224
        refine vc_pop dX4_readTurn_94 rfl ?_
        have ct236 := RS.ct h230
        unfold CT at ct236
        have rg237 := RS.rg h230
        refine vc_aload_n dX4_readTurn_95 rfl ?_
        refine vc_getI dX4_readTurn_96 flX4_119 (s_22 hB231.1.1) rfl ?_
        refine vc_nameI (fun x238 ex238 => ?_)
        refine vc_istore_n dX4_readTurn_99 (by decide) rfl (show _ = [some (aR 22), some (aI i), some (aI 1), some (aI x238), none] from rfl) ?_
        refine vc_aload_n dX4_readTurn_100 rfl ?_
        refine vc_iconst dX4_readTurn_101 rfl ?_
        refine vc_iconst dX4_readTurn_102 rfl ?_
        refine vc_iconst dX4_readTurn_103 rfl ?_
        refine vc_cVI dX4_readTurn_104 (sfX4_readNumberF (M := M219) hB231.1  g n (nx g n p) h230 3 1 5 (by omega) (by omega)) rfl okX4_readNumber viX4_readNumber lkX4_144 (s_22 hB231.1.1) cl_4 rfl (Nat.le_of_ble_eq_true rfl) ⟨rfl, rfl⟩ (Nat.le_of_ble_eq_true rfl) (Nat.le_of_ble_eq_true rfl) (Nat.le_of_ble_eq_true rfl) ?_
        rintro x239 M240 ⟨hB241, kp242, kp243, kp244, kp245, h246, h247, h248, h249, h250, h251⟩
        have hB252 : BD M M240 := BD.go hB231 hB241
        have kp253 : mI M240 24 = mI M 24 := kp_go kp232 kp242
        have kp254 : mI M240 26 = mI M 26 := kp_go kp233 kp243
        have kp255 : mI M240 27 = mI M 27 := kp_go kp234 kp244
        have kp256 : mI M240 28 = mI M 28 := kp_go kp235 kp245
        refine vc_if_ne dX4_readTurn_107 (fun h257 => ?_) (fun h257 => ?_)
        · have e258 := CR.ok h251 (by omega)
          have hn259 := sNum_ok e258.1
          have hR260 : RS g n M240 (nx g n (nx g n p)) := by
            have q := e258.2
            rw [hn259.1] at q
            exact q
          have ct261 := RS.ct hR260
          unfold CT at ct261
          have rg262 := RS.rg hR260
          refine vc_aload_n dX4_readTurn_112 rfl ?_
          refine vc_getI dX4_readTurn_113 flX4_69 (s_22 hB252.1.1) rfl ?_
          refine vc_iconst dX4_readTurn_116 rfl ?_
          refine vc_icmp_ne dX4_readTurn_117 (fun h263 => ?_) (fun h263 => ?_)
          · refine vc_aload_n dX4_readTurn_138 rfl ?_
            refine vc_iconst dX4_readTurn_139 rfl ?_
            refine vc_cVI dX4_readTurn_140 (sfX4_failedF (M := M240) hB252.1  g n (nx g n (nx g n p)) hR260 1 ) rfl okX4_failed viX4_failed lkX4_122 (s_22 hB252.1.1) cl_4 rfl (Nat.le_of_ble_eq_true rfl) ⟨rfl, rfl⟩ (Nat.le_of_ble_eq_true rfl) (Nat.le_of_ble_eq_true rfl) (Nat.le_of_ble_eq_true rfl) ?_
            rintro x264 M265 ⟨hB266, kp267, kp268, kp269, kp270, h271, h272, h273, h274, h275, h276, h277⟩
            have hB278 : BD M M265 := BD.go hB252 hB266
            have kp279 : mI M265 24 = mI M 24 := kp_go kp253 kp267
            have kp280 : mI M265 26 = mI M 26 := kp_go kp254 kp268
            have kp281 : mI M265 27 = mI M 27 := kp_go kp255 kp269
            have kp282 : mI M265 28 = mI M 28 := kp_go kp256 kp270
            refine vc_pop dX4_readTurn_143 rfl ?_
            refine vc_iconst dX4_readTurn_144 rfl ?_
            refine vc_iret dX4_readTurn_145 rfl (Nat.le_of_ble_eq_true rfl) (Nat.le_of_ble_eq_true rfl) ?_
            exact ⟨_, rfl, hB278, kp279, kp280, kp281, kp282, by omega, by omega, by omega, CNb (e := 1) (q := (nx g n (nx g n p))) (by omega) h276 h277 (by omega) (by unfold sTurn; rw [if_pos (by omega), if_neg (by omega), sBind_ok e258.1, hn259.1]; unfold sOn; rw [if_neg (by omega)])⟩
          · refine vc_aload_n dX4_readTurn_120 rfl ?_
            refine vc_getI dX4_readTurn_121 flX4_119 (s_22 hB252.1.1) rfl ?_
            refine vc_bipush dX4_readTurn_124 rfl ?_
            refine vc_icmp_lt dX4_readTurn_126 (fun h283 => ?_) (fun h283 => ?_)
            · refine vc_aload_n dX4_readTurn_138 rfl ?_
              refine vc_iconst dX4_readTurn_139 rfl ?_
              refine vc_cVI dX4_readTurn_140 (sfX4_failedF (M := M240) hB252.1  g n (nx g n (nx g n p)) hR260 1 ) rfl okX4_failed viX4_failed lkX4_122 (s_22 hB252.1.1) cl_4 rfl (Nat.le_of_ble_eq_true rfl) ⟨rfl, rfl⟩ (Nat.le_of_ble_eq_true rfl) (Nat.le_of_ble_eq_true rfl) (Nat.le_of_ble_eq_true rfl) ?_
              rintro x284 M285 ⟨hB286, kp287, kp288, kp289, kp290, h291, h292, h293, h294, h295, h296, h297⟩
              have hB298 : BD M M285 := BD.go hB252 hB286
              have kp299 : mI M285 24 = mI M 24 := kp_go kp253 kp287
              have kp300 : mI M285 26 = mI M 26 := kp_go kp254 kp288
              have kp301 : mI M285 27 = mI M 27 := kp_go kp255 kp289
              have kp302 : mI M285 28 = mI M 28 := kp_go kp256 kp290
              refine vc_pop dX4_readTurn_143 rfl ?_
              refine vc_iconst dX4_readTurn_144 rfl ?_
              refine vc_iret dX4_readTurn_145 rfl (Nat.le_of_ble_eq_true rfl) (Nat.le_of_ble_eq_true rfl) ?_
              exact ⟨_, rfl, hB298, kp299, kp300, kp301, kp302, by omega, by omega, by omega, CNb (e := 1) (q := (nx g n (nx g n p))) (by omega) h296 h297 (by omega) (by unfold sTurn; rw [if_pos (by omega), if_neg (by omega), sBind_ok e258.1, hn259.1]; unfold sOn; rw [if_neg (by omega)])⟩
            · refine vc_aload_n dX4_readTurn_129 rfl ?_
              refine vc_getI dX4_readTurn_130 flX4_119 (s_22 hB252.1.1) rfl ?_
              refine vc_bipush dX4_readTurn_133 rfl ?_
              refine vc_icmp_le dX4_readTurn_135 (fun h303 => ?_) (fun h303 => ?_)
              · refine vc_bipush dX4_readTurn_146 rfl ?_
                refine vc_aload_n dX4_readTurn_148 rfl ?_
                refine vc_getI dX4_readTurn_149 flX4_119 (s_22 hB252.1.1) rfl ?_
                refine vc_bipush dX4_readTurn_152 rfl ?_
                refine vc_isubE dX4_readTurn_154 (by omega) (by omega) ?_
                refine vc_iconst dX4_readTurn_155 rfl ?_
                refine vc_iaddE dX4_readTurn_156 (by omega) (by omega) ?_
                refine vc_imulE dX4_readTurn_157 (by omega) (by omega) ?_
                refine vc_iload_n dX4_readTurn_158 rfl ?_
                refine vc_if_eq dX4_readTurn_159 (fun h304 => by exfalso; omega) (fun h304 => ?_)
                refine vc_bipush dX4_readTurn_162 rfl ?_
                refine vc_goto dX4_readTurn_164 ?_
                refine vc_iaddE dX4_readTurn_168 (by omega) (by omega) ?_
                refine vc_iload_n dX4_readTurn_169 rfl ?_
                refine vc_iaddE dX4_readTurn_170 (by omega) (by omega) ?_
                refine vc_nameI (fun x305 ex305 => ?_)
                refine vc_istore dX4_readTurn_171 (by decide) rfl (show _ = [some (aR 22), some (aI i), some (aI 1), some (aI x238), some (aI x305)] from rfl) ?_
                refine vc_aload_n dX4_readTurn_173 rfl ?_
                refine vc_cVI dX4_readTurn_174 (sfX4_takeTokenF (M := M240) hB252.1  g n (nx g n (nx g n p)) hR260 (by omega)) rfl okX4_takeToken viX4_takeToken lkX4_65 (s_22 hB252.1.1) cl_4 rfl (Nat.le_of_ble_eq_true rfl) ⟨rfl, rfl⟩ (Nat.le_of_ble_eq_true rfl) (Nat.le_of_ble_eq_true rfl) (Nat.le_of_ble_eq_true rfl) ?_
                rintro x306 M307 ⟨hB308, kp309, kp310, kp311, kp312, h313, h314, h315, h316, h317, h318⟩
                have hB319 : BD M M307 := BD.go hB252 hB308
                have kp320 : mI M307 24 = mI M 24 := kp_go kp253 kp309
                have kp321 : mI M307 26 = mI M 26 := kp_go kp254 kp310
                have kp322 : mI M307 27 = mI M 27 := kp_go kp255 kp311
                have kp323 : mI M307 28 = mI M 28 := kp_go kp256 kp312
                refine vc_pop dX4_readTurn_177 rfl ?_
                refine vc_iload dX4_readTurn_178 rfl ?_
                refine vc_iret dX4_readTurn_180 rfl (Nat.le_of_ble_eq_true rfl) (Nat.le_of_ble_eq_true rfl) ?_
                exact ⟨_, rfl, hB319, kp320, kp321, kp322, kp323, by omega, by omega, by omega, CNo (q := (nx g n (nx g n (nx g n p)))) (by omega) h318 (by unfold sTurn; rw [if_pos (by omega), if_neg (by omega), sBind_ok e258.1, hn259.1]; unfold sOn; rw [if_pos (by omega)])⟩
              · refine vc_aload_n dX4_readTurn_138 rfl ?_
                refine vc_iconst dX4_readTurn_139 rfl ?_
                refine vc_cVI dX4_readTurn_140 (sfX4_failedF (M := M240) hB252.1  g n (nx g n (nx g n p)) hR260 1 ) rfl okX4_failed viX4_failed lkX4_122 (s_22 hB252.1.1) cl_4 rfl (Nat.le_of_ble_eq_true rfl) ⟨rfl, rfl⟩ (Nat.le_of_ble_eq_true rfl) (Nat.le_of_ble_eq_true rfl) (Nat.le_of_ble_eq_true rfl) ?_
                rintro x324 M325 ⟨hB326, kp327, kp328, kp329, kp330, h331, h332, h333, h334, h335, h336, h337⟩
                have hB338 : BD M M325 := BD.go hB252 hB326
                have kp339 : mI M325 24 = mI M 24 := kp_go kp253 kp327
                have kp340 : mI M325 26 = mI M 26 := kp_go kp254 kp328
                have kp341 : mI M325 27 = mI M 27 := kp_go kp255 kp329
                have kp342 : mI M325 28 = mI M 28 := kp_go kp256 kp330
                refine vc_pop dX4_readTurn_143 rfl ?_
                refine vc_iconst dX4_readTurn_144 rfl ?_
                refine vc_iret dX4_readTurn_145 rfl (Nat.le_of_ble_eq_true rfl) (Nat.le_of_ble_eq_true rfl) ?_
                exact ⟨_, rfl, hB338, kp339, kp340, kp341, kp342, by omega, by omega, by omega, CNb (e := 1) (q := (nx g n (nx g n p))) (by omega) h336 h337 (by omega) (by unfold sTurn; rw [if_pos (by omega), if_neg (by omega), sBind_ok e258.1, hn259.1]; unfold sOn; rw [if_neg (by omega)])⟩
        · refine vc_iconst dX4_readTurn_110 rfl ?_
          refine vc_iret dX4_readTurn_111 rfl (Nat.le_of_ble_eq_true rfl) (Nat.le_of_ble_eq_true rfl) ?_
          exact ⟨_, rfl, hB252, kp253, kp254, kp255, kp256, by omega, by omega, by omega, CNc (by omega) h251 (by omega) (by unfold sTurn; rw [if_pos (by omega), if_neg (by omega), sBind_bad (CR.bad h251 (by omega)).1])⟩
      · refine vc_aload_n dX4_readTurn_77 rfl ?_
        refine vc_bipush dX4_readTurn_78 rfl ?_
        refine vc_cVI dX4_readTurn_80 (sfX4_failedF (M := M) hB0.1  g n p hR 7 ) rfl okX4_failed viX4_failed lkX4_122 (s_22 hB0.1.1) cl_4 rfl (Nat.le_of_ble_eq_true rfl) ⟨rfl, rfl⟩ (Nat.le_of_ble_eq_true rfl) (Nat.le_of_ble_eq_true rfl) (Nat.le_of_ble_eq_true rfl) ?_
        rintro x343 M344 ⟨hB345, kp346, kp347, kp348, kp349, h350, h351, h352, h353, h354, h355, h356⟩
        have hB357 : BD M M344 := BD.go hB0 hB345
        have kp358 : mI M344 24 = mI M 24 := kp_go rfl kp346
        have kp359 : mI M344 26 = mI M 26 := kp_go rfl kp347
        have kp360 : mI M344 27 = mI M 27 := kp_go rfl kp348
        have kp361 : mI M344 28 = mI M 28 := kp_go rfl kp349
        refine vc_pop dX4_readTurn_83 rfl ?_
        refine vc_iconst dX4_readTurn_84 rfl ?_
        refine vc_iret dX4_readTurn_85 rfl (Nat.le_of_ble_eq_true rfl) (Nat.le_of_ble_eq_true rfl) ?_
        exact ⟨_, rfl, hB357, kp358, kp359, kp360, kp361, by omega, by omega, by omega, CNb (e := 7) (q := p) (by omega) h355 h356 (by omega) (by unfold sTurn; rw [if_pos (by omega), if_pos (by omega)])⟩

set_option maxRecDepth 4000 in
theorem sfX4_readTurnsF {l : Launch} {M : Mem} (hB : Box M) (g : Nat → Int) (n p : Int) (hR : RS g n M p)   : Call l mdX4_readTurns [aR 22] M (fun q N => ∃ r : Int, q = some (aI r) ∧ BD M N ∧ mI N 24 = mI M 24 ∧ mI N 26 = mI M 26 ∧ mI N 27 = mI M 27 ∧ mI N 28 = mI M 28 ∧ 0 ≤ r ∧ r ≤ 1 ∧ 0 ≤ mI N 22 9 ∧ mI N 22 13 = mI M 22 13 ∧ mI N 22 14 = mI M 22 14 ∧ CR g n N r (sTurns (tk g n) (nx g n) 7 0 p)) := by
  have hB0 := BD.start hB
  refine Call.of [some (aR 22), none, none, none, none] rfl (Nat.le_of_ble_eq_true rfl) rfl ?_
  have hrg := RS.rg hR
  refine vc_iconst dX4_readTurns_0 rfl ?_
  refine vc_istore_n dX4_readTurns_1 (by decide) rfl (show _ = [some (aR 22), some (aI 0), none, none, none] from rfl) ?_
  refine vc_iconst dX4_readTurns_2 rfl ?_
  refine vc_istore_n dX4_readTurns_3 (by decide) rfl (show _ = [some (aR 22), some (aI 0), some (aI 0), none, none] from rfl) ?_
  refine vc_iconst dX4_readTurns_4 rfl ?_
  refine vc_istore_n dX4_readTurns_5 (by decide) rfl (show _ = [some (aR 22), some (aI 0), some (aI 0), some (aI 0), none] from rfl) ?_
  have lp6 : ∀ (n6 : Nat) (Mq6 : Mem) (v1 : Int) (v2 : Int) (v3 : Int), (BD M Mq6) → (mI Mq6 24 = mI M 24) → (mI Mq6 26 = mI M 26) → (mI Mq6 27 = mI M 27) → (mI Mq6 28 = mI M 28) → (0 ≤ v3) → (v3 ≤ 7) → (∃ q, RS g n Mq6 q ∧ sTurns (tk g n) (nx g n) 7 0 p = sTurns (tk g n) (nx g n) (7 - v3).toNat v3 q) → (0 ≤ mI Mq6 22 9) → (mI Mq6 22 13 = mI M 22 13) → (mI Mq6 22 14 = mI M 22 14) → (7 - v3).toNat < n6 → VC l mdX4_readTurns 6 [some (aR 22), some (aI v1), some (aI v2), some (aI v3), none] [] Mq6 0 0 (fun q N => ∃ r : Int, q = some (aI r) ∧ BD M N ∧ mI N 24 = mI M 24 ∧ mI N 26 = mI M 26 ∧ mI N 27 = mI M 27 ∧ mI N 28 = mI M 28 ∧ 0 ≤ r ∧ r ≤ 1 ∧ 0 ≤ mI N 22 9 ∧ mI N 22 13 = mI M 22 13 ∧ mI N 22 14 = mI M 22 14 ∧ CR g n N r (sTurns (tk g n) (nx g n) 7 0 p)) := by
    intro n6
    induction n6 with
    | zero => intro Mq6 v1 v2 v3 hQ6 kp6_24 kp6_26 kp6_27 kp6_28 g6_3a g6_3b g6i0 g6i1 g6i2 g6i3 hm6; exact absurd hm6 (Nat.not_lt_zero _)
    | succ n6 ih6 =>
      intro Mq6 v1 v2 v3 hQ6 kp6_24 kp6_26 kp6_27 kp6_28 g6_3a g6_3b g6i0 g6i1 g6i2 g6i3 hm6
      obtain ⟨q6, hR6, hS6⟩ := g6i0
      refine vc_iload_n dX4_readTurns_6 rfl ?_
      refine vc_bipush dX4_readTurns_7 rfl ?_
      refine vc_icmp_gt dX4_readTurns_9 (fun h1 => ?_) (fun h1 => ?_)
      · have hfin : sTurns (tk g n) (nx g n) 7 0 p = (0, q6) := by rw [hS6, show (7 - v3).toNat = 0 by omega]; rfl
        refine vc_aload_n dX4_readTurns_86 rfl ?_
        refine vc_iconst dX4_readTurns_87 rfl ?_
        refine vc_iload_n dX4_readTurns_88 rfl ?_
        refine vc_cVU dX4_readTurns_89 (sfX4_keepF (M := Mq6) hQ6.1  g n q6 hR6 3 v1 (by omega) (by omega)) rfl okX4_keep viX4_keep lkX4_125 (s_22 hQ6.1.1) cl_4 rfl (Nat.le_of_ble_eq_true rfl) ⟨rfl, rfl⟩ (Nat.le_of_ble_eq_true rfl) (Nat.le_of_ble_eq_true rfl) (Nat.le_of_ble_eq_true rfl) ?_
        rintro M2 ⟨hB3, kp4, kp5, kp6, kp7, h8, h9, h10, h11⟩
        have hB12 : BD M M2 := BD.go hQ6 hB3
        have kp13 : mI M2 24 = mI M 24 := kp_go kp6_24 kp4
        have kp14 : mI M2 26 = mI M 26 := kp_go kp6_26 kp5
        have kp15 : mI M2 27 = mI M 27 := kp_go kp6_27 kp6
        have kp16 : mI M2 28 = mI M 28 := kp_go kp6_28 kp7
        refine vc_aload_n dX4_readTurns_92 rfl ?_
        refine vc_iconst dX4_readTurns_93 rfl ?_
        refine vc_iload_n dX4_readTurns_94 rfl ?_
        refine vc_cVU dX4_readTurns_95 (sfX4_keepF (M := M2) hB12.1  g n q6 h11 4 v2 (by omega) (by omega)) rfl okX4_keep viX4_keep lkX4_125 (s_22 hB12.1.1) cl_4 rfl (Nat.le_of_ble_eq_true rfl) ⟨rfl, rfl⟩ (Nat.le_of_ble_eq_true rfl) (Nat.le_of_ble_eq_true rfl) (Nat.le_of_ble_eq_true rfl) ?_
        rintro M17 ⟨hB18, kp19, kp20, kp21, kp22, h23, h24, h25, h26⟩
        have hB27 : BD M M17 := BD.go hB12 hB18
        have kp28 : mI M17 24 = mI M 24 := kp_go kp13 kp19
        have kp29 : mI M17 26 = mI M 26 := kp_go kp14 kp20
        have kp30 : mI M17 27 = mI M 27 := kp_go kp15 kp21
        have kp31 : mI M17 28 = mI M 28 := kp_go kp16 kp22
        refine vc_iconst dX4_readTurns_98 rfl ?_
        refine vc_zret dX4_readTurns_99 rfl (by first | decide | omega) (Nat.le_of_ble_eq_true rfl) (Nat.le_of_ble_eq_true rfl) ?_
        exact ⟨_, rfl, hB27, kp28, kp29, kp30, kp31, by omega, by omega, by omega, by omega, by omega, CRo (by omega) h26 hfin⟩
      · refine vc_aload_n dX4_readTurns_12 rfl ?_
        refine vc_iload_n dX4_readTurns_13 rfl ?_
        refine vc_cVI dX4_readTurns_14 (sfX4_readTurnF (M := Mq6) hQ6.1  g n q6 hR6 v3 ) rfl okX4_readTurn viX4_readTurn lkX4_166 (s_22 hQ6.1.1) cl_4 rfl (Nat.le_of_ble_eq_true rfl) ⟨rfl, rfl⟩ (Nat.le_of_ble_eq_true rfl) (Nat.le_of_ble_eq_true rfl) (Nat.le_of_ble_eq_true rfl) ?_
        rintro x32 M33 ⟨hB34, kp35, kp36, kp37, kp38, h39, h40, h41, h42⟩
        have hB43 : BD M M33 := BD.go hQ6 hB34
        have kp44 : mI M33 24 = mI M 24 := kp_go kp6_24 kp35
        have kp45 : mI M33 26 = mI M 26 := kp_go kp6_26 kp36
        have kp46 : mI M33 27 = mI M 27 := kp_go kp6_27 kp37
        have kp47 : mI M33 28 = mI M 28 := kp_go kp6_28 kp38
        refine vc_istore dX4_readTurns_17 (by decide) rfl (show _ = [some (aR 22), some (aI v1), some (aI v2), some (aI v3), some (aI x32)] from rfl) ?_
        refine vc_iload dX4_readTurns_19 rfl ?_
        refine vc_iconst dX4_readTurns_21 rfl ?_
        refine vc_icmp_ne dX4_readTurns_22 (fun h48 => ?_) (fun h48 => ?_)
        · have e49 := CN.ok h42 (by omega)
          have ct50 := RS.ct e49.2
          unfold CT at ct50
          have rg51 := RS.rg e49.2
          refine vc_iload_n dX4_readTurns_27 rfl ?_
          refine vc_iconst dX4_readTurns_28 rfl ?_
          refine vc_icmp_ge dX4_readTurns_29 (fun h52 => ?_) (fun h52 => ?_)
          · refine vc_iload_n dX4_readTurns_43 rfl ?_
            refine vc_istore_n dX4_readTurns_44 (by decide) rfl (show _ = [some (aR 22), some (aI v1), some (aI v2), some (aI v3), some (aI x32)] from rfl) ?_
            refine vc_iload_n dX4_readTurns_45 rfl ?_
            refine vc_iconst dX4_readTurns_46 rfl ?_
            refine vc_icmp_ge dX4_readTurns_47 (fun h53 => ?_) (fun h53 => by exfalso; omega)
            refine vc_sipush dX4_readTurns_54 rfl ?_
            refine vc_iload_n dX4_readTurns_57 rfl ?_
            refine vc_imul dX4_readTurns_58 ?_
            refine vc_iload dX4_readTurns_59 rfl ?_
            refine vc_iadd dX4_readTurns_61 ?_
            refine vc_nameI (fun x54 ex54 => ?_)
            refine vc_istore_n dX4_readTurns_62 (by decide) rfl (show _ = [some (aR 22), some (aI v1), some (aI x54), some (aI v3), some (aI x32)] from rfl) ?_
            refine vc_aload_n dX4_readTurns_63 rfl ?_
            refine vc_bipush dX4_readTurns_64 rfl ?_
            refine vc_cVI dX4_readTurns_66 (sfX4_isSignF (M := M33) hB43.1  44 ) rfl okX4_isSign viX4_isSign lkX4_163 (s_22 hB43.1.1) cl_4 rfl (Nat.le_of_ble_eq_true rfl) ⟨rfl, rfl⟩ (Nat.le_of_ble_eq_true rfl) (Nat.le_of_ble_eq_true rfl) (Nat.le_of_ble_eq_true rfl) ?_
            rintro x55 _ ⟨rfl, h56, h57, h58⟩
            refine vc_if_ne dX4_readTurns_69 (fun h59 => ?_) (fun h59 => ?_)
            · refine vc_aload_n dX4_readTurns_75 rfl ?_
              refine vc_cVI dX4_readTurns_76 (sfX4_takeTokenF (M := M33) hB43.1  g n ((sTurn (tk g n) (nx g n) v3 q6).2) e49.2 (by omega)) rfl okX4_takeToken viX4_takeToken lkX4_65 (s_22 hB43.1.1) cl_4 rfl (Nat.le_of_ble_eq_true rfl) ⟨rfl, rfl⟩ (Nat.le_of_ble_eq_true rfl) (Nat.le_of_ble_eq_true rfl) (Nat.le_of_ble_eq_true rfl) ?_
              rintro x60 M61 ⟨hB62, kp63, kp64, kp65, kp66, h67, h68, h69, h70, h71, h72⟩
              have hB73 : BD M M61 := BD.go hB43 hB62
              have kp74 : mI M61 24 = mI M 24 := kp_go kp44 kp63
              have kp75 : mI M61 26 = mI M 26 := kp_go kp45 kp64
              have kp76 : mI M61 27 = mI M 27 := kp_go kp46 kp65
              have kp77 : mI M61 28 = mI M 28 := kp_go kp47 kp66
              refine vc_pop dX4_readTurns_79 rfl ?_
              have hnext : ∃ q, RS g n M61 q ∧ sTurns (tk g n) (nx g n) 7 0 p = sTurns (tk g n) (nx g n) (7 - (v3 + 1)).toNat (v3 + 1) q := ⟨_, h72, by
                rw [hS6, show (7 - v3).toNat = (7 - (v3 + 1)).toNat + 1 by omega]
                exact turns_go e49.1 (by omega)⟩
              refine vc_iincE dX4_readTurns_80 rfl (by omega) (by omega) (by decide) rfl (show _ = [some (aR 22), some (aI v1), some (aI x54), some (aI (v3 + 1)), some (aI x32)] from rfl) ?_
              refine vc_goto dX4_readTurns_83 ?_
              refine vc_less [some (aR 22), some (aI v1), some (aI x54), some (aI (v3 + 1)), none] (lessL_keep (lessL_keep (lessL_keep (lessL_keep (lessL_drop (lessL_nil)))))) ?_
              exact ih6 M61 v1 x54 (v3 + 1) hB73 kp74 kp75 kp76 kp77 (by omega) (by omega) (by first | exact ⟨p, hR, rfl⟩ | exact hnext) (by omega) (by omega) (by omega) (by omega)
            · have hfin : sTurns (tk g n) (nx g n) 7 0 p = (0, (sTurn (tk g n) (nx g n) v3 q6).2) := hS6.trans (turns_end e49.1 (by omega) (by omega))
              refine vc_goto dX4_readTurns_72 ?_
              refine vc_aload_n dX4_readTurns_86 rfl ?_
              refine vc_iconst dX4_readTurns_87 rfl ?_
              refine vc_iload_n dX4_readTurns_88 rfl ?_
              refine vc_cVU dX4_readTurns_89 (sfX4_keepF (M := M33) hB43.1  g n ((sTurn (tk g n) (nx g n) v3 q6).2) e49.2 3 v1 (by omega) (by omega)) rfl okX4_keep viX4_keep lkX4_125 (s_22 hB43.1.1) cl_4 rfl (Nat.le_of_ble_eq_true rfl) ⟨rfl, rfl⟩ (Nat.le_of_ble_eq_true rfl) (Nat.le_of_ble_eq_true rfl) (Nat.le_of_ble_eq_true rfl) ?_
              rintro M78 ⟨hB79, kp80, kp81, kp82, kp83, h84, h85, h86, h87⟩
              have hB88 : BD M M78 := BD.go hB43 hB79
              have kp89 : mI M78 24 = mI M 24 := kp_go kp44 kp80
              have kp90 : mI M78 26 = mI M 26 := kp_go kp45 kp81
              have kp91 : mI M78 27 = mI M 27 := kp_go kp46 kp82
              have kp92 : mI M78 28 = mI M 28 := kp_go kp47 kp83
              refine vc_aload_n dX4_readTurns_92 rfl ?_
              refine vc_iconst dX4_readTurns_93 rfl ?_
              refine vc_iload_n dX4_readTurns_94 rfl ?_
              refine vc_cVU dX4_readTurns_95 (sfX4_keepF (M := M78) hB88.1  g n ((sTurn (tk g n) (nx g n) v3 q6).2) h87 4 x54 (by omega) (by omega)) rfl okX4_keep viX4_keep lkX4_125 (s_22 hB88.1.1) cl_4 rfl (Nat.le_of_ble_eq_true rfl) ⟨rfl, rfl⟩ (Nat.le_of_ble_eq_true rfl) (Nat.le_of_ble_eq_true rfl) (Nat.le_of_ble_eq_true rfl) ?_
              rintro M93 ⟨hB94, kp95, kp96, kp97, kp98, h99, h100, h101, h102⟩
              have hB103 : BD M M93 := BD.go hB88 hB94
              have kp104 : mI M93 24 = mI M 24 := kp_go kp89 kp95
              have kp105 : mI M93 26 = mI M 26 := kp_go kp90 kp96
              have kp106 : mI M93 27 = mI M 27 := kp_go kp91 kp97
              have kp107 : mI M93 28 = mI M 28 := kp_go kp92 kp98
              refine vc_iconst dX4_readTurns_98 rfl ?_
              refine vc_zret dX4_readTurns_99 rfl (by first | decide | omega) (Nat.le_of_ble_eq_true rfl) (Nat.le_of_ble_eq_true rfl) ?_
              exact ⟨_, rfl, hB103, kp104, kp105, kp106, kp107, by omega, by omega, by omega, by omega, by omega, CRo (by omega) h102 hfin⟩
          · refine vc_sipush dX4_readTurns_32 rfl ?_
            refine vc_iload_n dX4_readTurns_35 rfl ?_
            refine vc_imul dX4_readTurns_36 ?_
            refine vc_iload dX4_readTurns_37 rfl ?_
            refine vc_iadd dX4_readTurns_39 ?_
            refine vc_goto dX4_readTurns_40 ?_
            refine vc_nameI (fun x108 ex108 => ?_)
            refine vc_istore_n dX4_readTurns_44 (by decide) rfl (show _ = [some (aR 22), some (aI x108), some (aI v2), some (aI v3), some (aI x32)] from rfl) ?_
            refine vc_iload_n dX4_readTurns_45 rfl ?_
            refine vc_iconst dX4_readTurns_46 rfl ?_
            refine vc_icmp_ge dX4_readTurns_47 (fun h109 => by exfalso; omega) (fun h109 => ?_)
            refine vc_iconst dX4_readTurns_50 rfl ?_
            refine vc_goto dX4_readTurns_51 ?_
            refine vc_istore_n dX4_readTurns_62 (by decide) rfl (show _ = [some (aR 22), some (aI x108), some (aI 0), some (aI v3), some (aI x32)] from rfl) ?_
            refine vc_aload_n dX4_readTurns_63 rfl ?_
            refine vc_bipush dX4_readTurns_64 rfl ?_
            refine vc_cVI dX4_readTurns_66 (sfX4_isSignF (M := M33) hB43.1  44 ) rfl okX4_isSign viX4_isSign lkX4_163 (s_22 hB43.1.1) cl_4 rfl (Nat.le_of_ble_eq_true rfl) ⟨rfl, rfl⟩ (Nat.le_of_ble_eq_true rfl) (Nat.le_of_ble_eq_true rfl) (Nat.le_of_ble_eq_true rfl) ?_
            rintro x110 _ ⟨rfl, h111, h112, h113⟩
            refine vc_if_ne dX4_readTurns_69 (fun h114 => ?_) (fun h114 => ?_)
            · refine vc_aload_n dX4_readTurns_75 rfl ?_
              refine vc_cVI dX4_readTurns_76 (sfX4_takeTokenF (M := M33) hB43.1  g n ((sTurn (tk g n) (nx g n) v3 q6).2) e49.2 (by omega)) rfl okX4_takeToken viX4_takeToken lkX4_65 (s_22 hB43.1.1) cl_4 rfl (Nat.le_of_ble_eq_true rfl) ⟨rfl, rfl⟩ (Nat.le_of_ble_eq_true rfl) (Nat.le_of_ble_eq_true rfl) (Nat.le_of_ble_eq_true rfl) ?_
              rintro x115 M116 ⟨hB117, kp118, kp119, kp120, kp121, h122, h123, h124, h125, h126, h127⟩
              have hB128 : BD M M116 := BD.go hB43 hB117
              have kp129 : mI M116 24 = mI M 24 := kp_go kp44 kp118
              have kp130 : mI M116 26 = mI M 26 := kp_go kp45 kp119
              have kp131 : mI M116 27 = mI M 27 := kp_go kp46 kp120
              have kp132 : mI M116 28 = mI M 28 := kp_go kp47 kp121
              refine vc_pop dX4_readTurns_79 rfl ?_
              have hnext : ∃ q, RS g n M116 q ∧ sTurns (tk g n) (nx g n) 7 0 p = sTurns (tk g n) (nx g n) (7 - (v3 + 1)).toNat (v3 + 1) q := ⟨_, h127, by
                rw [hS6, show (7 - v3).toNat = (7 - (v3 + 1)).toNat + 1 by omega]
                exact turns_go e49.1 (by omega)⟩
              refine vc_iincE dX4_readTurns_80 rfl (by omega) (by omega) (by decide) rfl (show _ = [some (aR 22), some (aI x108), some (aI 0), some (aI (v3 + 1)), some (aI x32)] from rfl) ?_
              refine vc_goto dX4_readTurns_83 ?_
              refine vc_less [some (aR 22), some (aI x108), some (aI 0), some (aI (v3 + 1)), none] (lessL_keep (lessL_keep (lessL_keep (lessL_keep (lessL_drop (lessL_nil)))))) ?_
              exact ih6 M116 x108 0 (v3 + 1) hB128 kp129 kp130 kp131 kp132 (by omega) (by omega) (by first | exact ⟨p, hR, rfl⟩ | exact hnext) (by omega) (by omega) (by omega) (by omega)
            · have hfin : sTurns (tk g n) (nx g n) 7 0 p = (0, (sTurn (tk g n) (nx g n) v3 q6).2) := hS6.trans (turns_end e49.1 (by omega) (by omega))
              refine vc_goto dX4_readTurns_72 ?_
              refine vc_aload_n dX4_readTurns_86 rfl ?_
              refine vc_iconst dX4_readTurns_87 rfl ?_
              refine vc_iload_n dX4_readTurns_88 rfl ?_
              refine vc_cVU dX4_readTurns_89 (sfX4_keepF (M := M33) hB43.1  g n ((sTurn (tk g n) (nx g n) v3 q6).2) e49.2 3 x108 (by omega) (by omega)) rfl okX4_keep viX4_keep lkX4_125 (s_22 hB43.1.1) cl_4 rfl (Nat.le_of_ble_eq_true rfl) ⟨rfl, rfl⟩ (Nat.le_of_ble_eq_true rfl) (Nat.le_of_ble_eq_true rfl) (Nat.le_of_ble_eq_true rfl) ?_
              rintro M133 ⟨hB134, kp135, kp136, kp137, kp138, h139, h140, h141, h142⟩
              have hB143 : BD M M133 := BD.go hB43 hB134
              have kp144 : mI M133 24 = mI M 24 := kp_go kp44 kp135
              have kp145 : mI M133 26 = mI M 26 := kp_go kp45 kp136
              have kp146 : mI M133 27 = mI M 27 := kp_go kp46 kp137
              have kp147 : mI M133 28 = mI M 28 := kp_go kp47 kp138
              refine vc_aload_n dX4_readTurns_92 rfl ?_
              refine vc_iconst dX4_readTurns_93 rfl ?_
              refine vc_iload_n dX4_readTurns_94 rfl ?_
              refine vc_cVU dX4_readTurns_95 (sfX4_keepF (M := M133) hB143.1  g n ((sTurn (tk g n) (nx g n) v3 q6).2) h142 4 0 (by omega) (by omega)) rfl okX4_keep viX4_keep lkX4_125 (s_22 hB143.1.1) cl_4 rfl (Nat.le_of_ble_eq_true rfl) ⟨rfl, rfl⟩ (Nat.le_of_ble_eq_true rfl) (Nat.le_of_ble_eq_true rfl) (Nat.le_of_ble_eq_true rfl) ?_
              rintro M148 ⟨hB149, kp150, kp151, kp152, kp153, h154, h155, h156, h157⟩
              have hB158 : BD M M148 := BD.go hB143 hB149
              have kp159 : mI M148 24 = mI M 24 := kp_go kp144 kp150
              have kp160 : mI M148 26 = mI M 26 := kp_go kp145 kp151
              have kp161 : mI M148 27 = mI M 27 := kp_go kp146 kp152
              have kp162 : mI M148 28 = mI M 28 := kp_go kp147 kp153
              refine vc_iconst dX4_readTurns_98 rfl ?_
              refine vc_zret dX4_readTurns_99 rfl (by first | decide | omega) (Nat.le_of_ble_eq_true rfl) (Nat.le_of_ble_eq_true rfl) ?_
              exact ⟨_, rfl, hB158, kp159, kp160, kp161, kp162, by omega, by omega, by omega, by omega, by omega, CRo (by omega) h157 hfin⟩
        · refine vc_iconst dX4_readTurns_25 rfl ?_
          refine vc_zret dX4_readTurns_26 rfl (by first | decide | omega) (Nat.le_of_ble_eq_true rfl) (Nat.le_of_ble_eq_true rfl) ?_
          exact ⟨_, rfl, hB43, kp44, kp45, kp46, kp47, by omega, by omega, by omega, by omega, by omega, (by rw [hS6]; exact turns_bad h42 (by omega) (by omega))⟩
  exact lp6 _ M 0 0 0 hB0 rfl rfl rfl rfl (by omega) (by omega) (by first | exact ⟨p, hR, rfl⟩ | exact hnext) (by omega) (by omega) (by omega) (Nat.lt_succ_self _)

set_option maxRecDepth 4000 in
theorem sfX4_readDeedF {l : Launch} {M : Mem} (hB : Box M) (g : Nat → Int) (n p : Int) (hR : RS g n M p) (w : Int) (p0 : 5 ≤ w) (p1 : w ≤ 15) : Call l mdX4_readDeed [aR 22, aI w] M (fun q N => ∃ r : Int, q = some (aI r) ∧ BD M N ∧ mI N 24 = mI M 24 ∧ mI N 26 = mI M 26 ∧ mI N 27 = mI M 27 ∧ mI N 28 = mI M 28 ∧ 0 ≤ r ∧ r ≤ 1 ∧ 0 ≤ mI N 22 9 ∧ mI N 22 13 = mI M 22 13 ∧ mI N 22 14 = mI M 22 14 ∧ CR g n N r (sBody (tk g n) (nx g n) w p)) := by
  have hB0 := BD.start hB
  refine Call.of [some (aR 22), some (aI w)] rfl (Nat.le_of_ble_eq_true rfl) rfl ?_
  have hrg := RS.rg hR
  refine vc_iload_n dX4_readDeed_0 rfl ?_
  by_cases h1 : w = 5
  · refine vc_tabIn dX4_readDeed_1 5 56 h1 rfl rfl rfl ?_
    refine vc_aload_n dX4_readDeed_56 rfl ?_
    refine vc_iconst dX4_readDeed_57 rfl ?_
    refine vc_iconst dX4_readDeed_58 rfl ?_
    refine vc_iconst dX4_readDeed_59 rfl ?_
    refine vc_cVI dX4_readDeed_60 (sfX4_readNumberF (M := M) hB0.1  g n p hR 1 0 5 (by omega) (by omega)) rfl okX4_readNumber viX4_readNumber lkX4_144 (s_22 hB0.1.1) cl_4 rfl (Nat.le_of_ble_eq_true rfl) ⟨rfl, rfl⟩ (Nat.le_of_ble_eq_true rfl) (Nat.le_of_ble_eq_true rfl) (Nat.le_of_ble_eq_true rfl) ?_
    rintro x2 M3 ⟨hB4, kp5, kp6, kp7, kp8, h9, h10, h11, h12, h13, h14⟩
    have hB15 : BD M M3 := BD.go hB0 hB4
    have kp16 : mI M3 24 = mI M 24 := kp_go rfl kp5
    have kp17 : mI M3 26 = mI M 26 := kp_go rfl kp6
    have kp18 : mI M3 27 = mI M 27 := kp_go rfl kp7
    have kp19 : mI M3 28 = mI M 28 := kp_go rfl kp8
    refine vc_zret dX4_readDeed_63 rfl (by first | decide | omega) (Nat.le_of_ble_eq_true rfl) (Nat.le_of_ble_eq_true rfl) ?_
    exact ⟨_, rfl, hB15, kp16, kp17, kp18, kp19, by omega, by omega, by omega, by omega, by omega, by rw [sB5 (by omega)]; exact CR.cast h14 (by omega)⟩
  by_cases h20 : w = 6
  · refine vc_tabIn dX4_readDeed_1 6 64 h20 rfl rfl rfl ?_
    refine vc_aload_n dX4_readDeed_64 rfl ?_
    refine vc_iconst dX4_readDeed_65 rfl ?_
    refine vc_cVI dX4_readDeed_66 (sfX4_readCornerF (M := M) hB0.1  g n p hR 1 (by omega) (by omega)) rfl okX4_readCorner viX4_readCorner lkX4_148 (s_22 hB0.1.1) cl_4 rfl (Nat.le_of_ble_eq_true rfl) ⟨rfl, rfl⟩ (Nat.le_of_ble_eq_true rfl) (Nat.le_of_ble_eq_true rfl) (Nat.le_of_ble_eq_true rfl) ?_
    rintro x21 M22 ⟨hB23, kp24, kp25, kp26, kp27, h28, h29, h30, h31, h32, h33⟩
    have hB34 : BD M M22 := BD.go hB0 hB23
    have kp35 : mI M22 24 = mI M 24 := kp_go rfl kp24
    have kp36 : mI M22 26 = mI M 26 := kp_go rfl kp25
    have kp37 : mI M22 27 = mI M 27 := kp_go rfl kp26
    have kp38 : mI M22 28 = mI M 28 := kp_go rfl kp27
    refine vc_if_eq dX4_readDeed_69 (fun h39 => ?_) (fun h39 => ?_)
    · refine vc_iconst dX4_readDeed_103 rfl ?_
      refine vc_zret dX4_readDeed_104 rfl (by first | decide | omega) (Nat.le_of_ble_eq_true rfl) (Nat.le_of_ble_eq_true rfl) ?_
      exact ⟨_, rfl, hB34, kp35, kp36, kp37, kp38, by omega, by omega, by omega, by omega, by omega, by rw [sB6 (by omega)]; exact CR.b_bad h33 (by omega) (by omega)⟩
    · have e40 := CR.ok h33 (by omega)
      refine vc_aload_n dX4_readDeed_72 rfl ?_
      refine vc_iconst dX4_readDeed_73 rfl ?_
      refine vc_iconst dX4_readDeed_74 rfl ?_
      refine vc_iconst dX4_readDeed_75 rfl ?_
      refine vc_cVI dX4_readDeed_76 (sfX4_readNumberF (M := M22) hB34.1  g n ((sNum (tk g n) (nx g n) 0 15 p).2) e40.2 2 0 3 (by omega) (by omega)) rfl okX4_readNumber viX4_readNumber lkX4_144 (s_22 hB34.1.1) cl_4 rfl (Nat.le_of_ble_eq_true rfl) ⟨rfl, rfl⟩ (Nat.le_of_ble_eq_true rfl) (Nat.le_of_ble_eq_true rfl) (Nat.le_of_ble_eq_true rfl) ?_
      rintro x41 M42 ⟨hB43, kp44, kp45, kp46, kp47, h48, h49, h50, h51, h52, h53⟩
      have hB54 : BD M M42 := BD.go hB34 hB43
      have kp55 : mI M42 24 = mI M 24 := kp_go kp35 kp44
      have kp56 : mI M42 26 = mI M 26 := kp_go kp36 kp45
      have kp57 : mI M42 27 = mI M 27 := kp_go kp37 kp46
      have kp58 : mI M42 28 = mI M 28 := kp_go kp38 kp47
      refine vc_if_eq dX4_readDeed_79 (fun h59 => ?_) (fun h59 => ?_)
      · refine vc_iconst dX4_readDeed_103 rfl ?_
        refine vc_zret dX4_readDeed_104 rfl (by first | decide | omega) (Nat.le_of_ble_eq_true rfl) (Nat.le_of_ble_eq_true rfl) ?_
        exact ⟨_, rfl, hB54, kp55, kp56, kp57, kp58, by omega, by omega, by omega, by omega, by omega, by rw [sB6 (by omega)]; exact CR.b_ok h33 (by omega) (CR.b_bad h53 (by omega) (by omega))⟩
      · have e60 := CR.ok h53 (by omega)
        refine vc_aload_n dX4_readDeed_82 rfl ?_
        refine vc_bipush dX4_readDeed_83 rfl ?_
        refine vc_cVI dX4_readDeed_85 (sfX4_readWordF (M := M42) hB54.1  g n ((sNum (tk g n) (nx g n) 0 3 ((sNum (tk g n) (nx g n) 0 15 p).2)).2) e60.2 16 (by omega) (by omega)) rfl okX4_readWord viX4_readWord lkX4_151 (s_22 hB54.1.1) cl_4 rfl (Nat.le_of_ble_eq_true rfl) ⟨rfl, rfl⟩ (Nat.le_of_ble_eq_true rfl) (Nat.le_of_ble_eq_true rfl) (Nat.le_of_ble_eq_true rfl) ?_
        rintro x61 M62 ⟨hB63, kp64, kp65, kp66, kp67, h68, h69, h70, h71, h72, h73⟩
        have hB74 : BD M M62 := BD.go hB54 hB63
        have kp75 : mI M62 24 = mI M 24 := kp_go kp55 kp64
        have kp76 : mI M62 26 = mI M 26 := kp_go kp56 kp65
        have kp77 : mI M62 27 = mI M 27 := kp_go kp57 kp66
        have kp78 : mI M62 28 = mI M 28 := kp_go kp58 kp67
        refine vc_if_eq dX4_readDeed_88 (fun h79 => ?_) (fun h79 => ?_)
        · refine vc_iconst dX4_readDeed_103 rfl ?_
          refine vc_zret dX4_readDeed_104 rfl (by first | decide | omega) (Nat.le_of_ble_eq_true rfl) (Nat.le_of_ble_eq_true rfl) ?_
          exact ⟨_, rfl, hB74, kp75, kp76, kp77, kp78, by omega, by omega, by omega, by omega, by omega, by rw [sB6 (by omega)]; exact CR.b_ok h33 (by omega) (CR.b_ok h53 (by omega) (CR.b_bad h73.cr (by omega) (by omega)))⟩
        · have e80 := CR.ok h73.cr (by omega)
          refine vc_aload_n dX4_readDeed_91 rfl ?_
          refine vc_iconst dX4_readDeed_92 rfl ?_
          refine vc_cVI dX4_readDeed_93 (sfX4_readCornerF (M := M62) hB74.1  g n ((sTok (tk g n) (nx g n) (101 + 16) ((sNum (tk g n) (nx g n) 0 3 ((sNum (tk g n) (nx g n) 0 15 p).2)).2)).2) e80.2 3 (by omega) (by omega)) rfl okX4_readCorner viX4_readCorner lkX4_148 (s_22 hB74.1.1) cl_4 rfl (Nat.le_of_ble_eq_true rfl) ⟨rfl, rfl⟩ (Nat.le_of_ble_eq_true rfl) (Nat.le_of_ble_eq_true rfl) (Nat.le_of_ble_eq_true rfl) ?_
          rintro x81 M82 ⟨hB83, kp84, kp85, kp86, kp87, h88, h89, h90, h91, h92, h93⟩
          have hB94 : BD M M82 := BD.go hB74 hB83
          have kp95 : mI M82 24 = mI M 24 := kp_go kp75 kp84
          have kp96 : mI M82 26 = mI M 26 := kp_go kp76 kp85
          have kp97 : mI M82 27 = mI M 27 := kp_go kp77 kp86
          have kp98 : mI M82 28 = mI M 28 := kp_go kp78 kp87
          refine vc_if_eq dX4_readDeed_96 (fun h99 => ?_) (fun h99 => ?_)
          · refine vc_iconst dX4_readDeed_103 rfl ?_
            refine vc_zret dX4_readDeed_104 rfl (by first | decide | omega) (Nat.le_of_ble_eq_true rfl) (Nat.le_of_ble_eq_true rfl) ?_
            exact ⟨_, rfl, hB94, kp95, kp96, kp97, kp98, by omega, by omega, by omega, by omega, by omega, by rw [sB6 (by omega)]; exact CR.b_ok h33 (by omega) (CR.b_ok h53 (by omega) (CR.b_ok h73.cr (by omega) (CR.cast h93 (by omega))))⟩
          · have e100 := CR.ok h93 (by omega)
            refine vc_iconst dX4_readDeed_99 rfl ?_
            refine vc_goto dX4_readDeed_100 ?_
            refine vc_zret dX4_readDeed_104 rfl (by first | decide | omega) (Nat.le_of_ble_eq_true rfl) (Nat.le_of_ble_eq_true rfl) ?_
            exact ⟨_, rfl, hB94, kp95, kp96, kp97, kp98, by omega, by omega, by omega, by omega, by omega, by rw [sB6 (by omega)]; exact CR.b_ok h33 (by omega) (CR.b_ok h53 (by omega) (CR.b_ok h73.cr (by omega) (CR.cast h93 (by omega))))⟩
  by_cases h101 : w = 7
  · refine vc_tabIn dX4_readDeed_1 7 64 h101 rfl rfl rfl ?_
    refine vc_aload_n dX4_readDeed_64 rfl ?_
    refine vc_iconst dX4_readDeed_65 rfl ?_
    refine vc_cVI dX4_readDeed_66 (sfX4_readCornerF (M := M) hB0.1  g n p hR 1 (by omega) (by omega)) rfl okX4_readCorner viX4_readCorner lkX4_148 (s_22 hB0.1.1) cl_4 rfl (Nat.le_of_ble_eq_true rfl) ⟨rfl, rfl⟩ (Nat.le_of_ble_eq_true rfl) (Nat.le_of_ble_eq_true rfl) (Nat.le_of_ble_eq_true rfl) ?_
    rintro x102 M103 ⟨hB104, kp105, kp106, kp107, kp108, h109, h110, h111, h112, h113, h114⟩
    have hB115 : BD M M103 := BD.go hB0 hB104
    have kp116 : mI M103 24 = mI M 24 := kp_go rfl kp105
    have kp117 : mI M103 26 = mI M 26 := kp_go rfl kp106
    have kp118 : mI M103 27 = mI M 27 := kp_go rfl kp107
    have kp119 : mI M103 28 = mI M 28 := kp_go rfl kp108
    refine vc_if_eq dX4_readDeed_69 (fun h120 => ?_) (fun h120 => ?_)
    · refine vc_iconst dX4_readDeed_103 rfl ?_
      refine vc_zret dX4_readDeed_104 rfl (by first | decide | omega) (Nat.le_of_ble_eq_true rfl) (Nat.le_of_ble_eq_true rfl) ?_
      exact ⟨_, rfl, hB115, kp116, kp117, kp118, kp119, by omega, by omega, by omega, by omega, by omega, by rw [sB6 (by omega)]; exact CR.b_bad h114 (by omega) (by omega)⟩
    · have e121 := CR.ok h114 (by omega)
      refine vc_aload_n dX4_readDeed_72 rfl ?_
      refine vc_iconst dX4_readDeed_73 rfl ?_
      refine vc_iconst dX4_readDeed_74 rfl ?_
      refine vc_iconst dX4_readDeed_75 rfl ?_
      refine vc_cVI dX4_readDeed_76 (sfX4_readNumberF (M := M103) hB115.1  g n ((sNum (tk g n) (nx g n) 0 15 p).2) e121.2 2 0 3 (by omega) (by omega)) rfl okX4_readNumber viX4_readNumber lkX4_144 (s_22 hB115.1.1) cl_4 rfl (Nat.le_of_ble_eq_true rfl) ⟨rfl, rfl⟩ (Nat.le_of_ble_eq_true rfl) (Nat.le_of_ble_eq_true rfl) (Nat.le_of_ble_eq_true rfl) ?_
      rintro x122 M123 ⟨hB124, kp125, kp126, kp127, kp128, h129, h130, h131, h132, h133, h134⟩
      have hB135 : BD M M123 := BD.go hB115 hB124
      have kp136 : mI M123 24 = mI M 24 := kp_go kp116 kp125
      have kp137 : mI M123 26 = mI M 26 := kp_go kp117 kp126
      have kp138 : mI M123 27 = mI M 27 := kp_go kp118 kp127
      have kp139 : mI M123 28 = mI M 28 := kp_go kp119 kp128
      refine vc_if_eq dX4_readDeed_79 (fun h140 => ?_) (fun h140 => ?_)
      · refine vc_iconst dX4_readDeed_103 rfl ?_
        refine vc_zret dX4_readDeed_104 rfl (by first | decide | omega) (Nat.le_of_ble_eq_true rfl) (Nat.le_of_ble_eq_true rfl) ?_
        exact ⟨_, rfl, hB135, kp136, kp137, kp138, kp139, by omega, by omega, by omega, by omega, by omega, by rw [sB6 (by omega)]; exact CR.b_ok h114 (by omega) (CR.b_bad h134 (by omega) (by omega))⟩
      · have e141 := CR.ok h134 (by omega)
        refine vc_aload_n dX4_readDeed_82 rfl ?_
        refine vc_bipush dX4_readDeed_83 rfl ?_
        refine vc_cVI dX4_readDeed_85 (sfX4_readWordF (M := M123) hB135.1  g n ((sNum (tk g n) (nx g n) 0 3 ((sNum (tk g n) (nx g n) 0 15 p).2)).2) e141.2 16 (by omega) (by omega)) rfl okX4_readWord viX4_readWord lkX4_151 (s_22 hB135.1.1) cl_4 rfl (Nat.le_of_ble_eq_true rfl) ⟨rfl, rfl⟩ (Nat.le_of_ble_eq_true rfl) (Nat.le_of_ble_eq_true rfl) (Nat.le_of_ble_eq_true rfl) ?_
        rintro x142 M143 ⟨hB144, kp145, kp146, kp147, kp148, h149, h150, h151, h152, h153, h154⟩
        have hB155 : BD M M143 := BD.go hB135 hB144
        have kp156 : mI M143 24 = mI M 24 := kp_go kp136 kp145
        have kp157 : mI M143 26 = mI M 26 := kp_go kp137 kp146
        have kp158 : mI M143 27 = mI M 27 := kp_go kp138 kp147
        have kp159 : mI M143 28 = mI M 28 := kp_go kp139 kp148
        refine vc_if_eq dX4_readDeed_88 (fun h160 => ?_) (fun h160 => ?_)
        · refine vc_iconst dX4_readDeed_103 rfl ?_
          refine vc_zret dX4_readDeed_104 rfl (by first | decide | omega) (Nat.le_of_ble_eq_true rfl) (Nat.le_of_ble_eq_true rfl) ?_
          exact ⟨_, rfl, hB155, kp156, kp157, kp158, kp159, by omega, by omega, by omega, by omega, by omega, by rw [sB6 (by omega)]; exact CR.b_ok h114 (by omega) (CR.b_ok h134 (by omega) (CR.b_bad h154.cr (by omega) (by omega)))⟩
        · have e161 := CR.ok h154.cr (by omega)
          refine vc_aload_n dX4_readDeed_91 rfl ?_
          refine vc_iconst dX4_readDeed_92 rfl ?_
          refine vc_cVI dX4_readDeed_93 (sfX4_readCornerF (M := M143) hB155.1  g n ((sTok (tk g n) (nx g n) (101 + 16) ((sNum (tk g n) (nx g n) 0 3 ((sNum (tk g n) (nx g n) 0 15 p).2)).2)).2) e161.2 3 (by omega) (by omega)) rfl okX4_readCorner viX4_readCorner lkX4_148 (s_22 hB155.1.1) cl_4 rfl (Nat.le_of_ble_eq_true rfl) ⟨rfl, rfl⟩ (Nat.le_of_ble_eq_true rfl) (Nat.le_of_ble_eq_true rfl) (Nat.le_of_ble_eq_true rfl) ?_
          rintro x162 M163 ⟨hB164, kp165, kp166, kp167, kp168, h169, h170, h171, h172, h173, h174⟩
          have hB175 : BD M M163 := BD.go hB155 hB164
          have kp176 : mI M163 24 = mI M 24 := kp_go kp156 kp165
          have kp177 : mI M163 26 = mI M 26 := kp_go kp157 kp166
          have kp178 : mI M163 27 = mI M 27 := kp_go kp158 kp167
          have kp179 : mI M163 28 = mI M 28 := kp_go kp159 kp168
          refine vc_if_eq dX4_readDeed_96 (fun h180 => ?_) (fun h180 => ?_)
          · refine vc_iconst dX4_readDeed_103 rfl ?_
            refine vc_zret dX4_readDeed_104 rfl (by first | decide | omega) (Nat.le_of_ble_eq_true rfl) (Nat.le_of_ble_eq_true rfl) ?_
            exact ⟨_, rfl, hB175, kp176, kp177, kp178, kp179, by omega, by omega, by omega, by omega, by omega, by rw [sB6 (by omega)]; exact CR.b_ok h114 (by omega) (CR.b_ok h134 (by omega) (CR.b_ok h154.cr (by omega) (CR.cast h174 (by omega))))⟩
          · have e181 := CR.ok h174 (by omega)
            refine vc_iconst dX4_readDeed_99 rfl ?_
            refine vc_goto dX4_readDeed_100 ?_
            refine vc_zret dX4_readDeed_104 rfl (by first | decide | omega) (Nat.le_of_ble_eq_true rfl) (Nat.le_of_ble_eq_true rfl) ?_
            exact ⟨_, rfl, hB175, kp176, kp177, kp178, kp179, by omega, by omega, by omega, by omega, by omega, by rw [sB6 (by omega)]; exact CR.b_ok h114 (by omega) (CR.b_ok h134 (by omega) (CR.b_ok h154.cr (by omega) (CR.cast h174 (by omega))))⟩
  by_cases h182 : w = 8
  · refine vc_tabIn dX4_readDeed_1 8 105 h182 rfl rfl rfl ?_
    refine vc_aload_n dX4_readDeed_105 rfl ?_
    refine vc_iconst dX4_readDeed_106 rfl ?_
    refine vc_cVI dX4_readDeed_107 (sfX4_readCornerF (M := M) hB0.1  g n p hR 1 (by omega) (by omega)) rfl okX4_readCorner viX4_readCorner lkX4_148 (s_22 hB0.1.1) cl_4 rfl (Nat.le_of_ble_eq_true rfl) ⟨rfl, rfl⟩ (Nat.le_of_ble_eq_true rfl) (Nat.le_of_ble_eq_true rfl) (Nat.le_of_ble_eq_true rfl) ?_
    rintro x183 M184 ⟨hB185, kp186, kp187, kp188, kp189, h190, h191, h192, h193, h194, h195⟩
    have hB196 : BD M M184 := BD.go hB0 hB185
    have kp197 : mI M184 24 = mI M 24 := kp_go rfl kp186
    have kp198 : mI M184 26 = mI M 26 := kp_go rfl kp187
    have kp199 : mI M184 27 = mI M 27 := kp_go rfl kp188
    have kp200 : mI M184 28 = mI M 28 := kp_go rfl kp189
    refine vc_zret dX4_readDeed_110 rfl (by first | decide | omega) (Nat.le_of_ble_eq_true rfl) (Nat.le_of_ble_eq_true rfl) ?_
    exact ⟨_, rfl, hB196, kp197, kp198, kp199, kp200, by omega, by omega, by omega, by omega, by omega, by rw [sB8 (by omega)]; exact CR.cast h195 (by omega)⟩
  by_cases h201 : w = 9
  · refine vc_tabIn dX4_readDeed_1 9 105 h201 rfl rfl rfl ?_
    refine vc_aload_n dX4_readDeed_105 rfl ?_
    refine vc_iconst dX4_readDeed_106 rfl ?_
    refine vc_cVI dX4_readDeed_107 (sfX4_readCornerF (M := M) hB0.1  g n p hR 1 (by omega) (by omega)) rfl okX4_readCorner viX4_readCorner lkX4_148 (s_22 hB0.1.1) cl_4 rfl (Nat.le_of_ble_eq_true rfl) ⟨rfl, rfl⟩ (Nat.le_of_ble_eq_true rfl) (Nat.le_of_ble_eq_true rfl) (Nat.le_of_ble_eq_true rfl) ?_
    rintro x202 M203 ⟨hB204, kp205, kp206, kp207, kp208, h209, h210, h211, h212, h213, h214⟩
    have hB215 : BD M M203 := BD.go hB0 hB204
    have kp216 : mI M203 24 = mI M 24 := kp_go rfl kp205
    have kp217 : mI M203 26 = mI M 26 := kp_go rfl kp206
    have kp218 : mI M203 27 = mI M 27 := kp_go rfl kp207
    have kp219 : mI M203 28 = mI M 28 := kp_go rfl kp208
    refine vc_zret dX4_readDeed_110 rfl (by first | decide | omega) (Nat.le_of_ble_eq_true rfl) (Nat.le_of_ble_eq_true rfl) ?_
    exact ⟨_, rfl, hB215, kp216, kp217, kp218, kp219, by omega, by omega, by omega, by omega, by omega, by rw [sB8 (by omega)]; exact CR.cast h214 (by omega)⟩
  by_cases h220 : w = 10
  · refine vc_tabIn dX4_readDeed_1 10 111 h220 rfl rfl rfl ?_
    refine vc_aload_n dX4_readDeed_111 rfl ?_
    refine vc_iconst dX4_readDeed_112 rfl ?_
    refine vc_iconst dX4_readDeed_113 rfl ?_
    refine vc_iconst dX4_readDeed_114 rfl ?_
    refine vc_cVI dX4_readDeed_115 (sfX4_readNumberF (M := M) hB0.1  g n p hR 1 0 5 (by omega) (by omega)) rfl okX4_readNumber viX4_readNumber lkX4_144 (s_22 hB0.1.1) cl_4 rfl (Nat.le_of_ble_eq_true rfl) ⟨rfl, rfl⟩ (Nat.le_of_ble_eq_true rfl) (Nat.le_of_ble_eq_true rfl) (Nat.le_of_ble_eq_true rfl) ?_
    rintro x221 M222 ⟨hB223, kp224, kp225, kp226, kp227, h228, h229, h230, h231, h232, h233⟩
    have hB234 : BD M M222 := BD.go hB0 hB223
    have kp235 : mI M222 24 = mI M 24 := kp_go rfl kp224
    have kp236 : mI M222 26 = mI M 26 := kp_go rfl kp225
    have kp237 : mI M222 27 = mI M 27 := kp_go rfl kp226
    have kp238 : mI M222 28 = mI M 28 := kp_go rfl kp227
    refine vc_if_eq dX4_readDeed_118 (fun h239 => ?_) (fun h239 => ?_)
    · refine vc_iconst dX4_readDeed_148 rfl ?_
      refine vc_zret dX4_readDeed_149 rfl (by first | decide | omega) (Nat.le_of_ble_eq_true rfl) (Nat.le_of_ble_eq_true rfl) ?_
      exact ⟨_, rfl, hB234, kp235, kp236, kp237, kp238, by omega, by omega, by omega, by omega, by omega, by rw [sB10 (by omega)]; exact CR.b_bad h233 (by omega) (by omega)⟩
    · have e240 := CR.ok h233 (by omega)
      refine vc_aload_n dX4_readDeed_121 rfl ?_
      refine vc_cVI dX4_readDeed_122 (sfX4_readFacingF (M := M222) hB234.1  g n ((sNum (tk g n) (nx g n) 0 5 p).2) e240.2 ) rfl okX4_readFacing viX4_readFacing lkX4_154 (s_22 hB234.1.1) cl_4 rfl (Nat.le_of_ble_eq_true rfl) ⟨rfl, rfl⟩ (Nat.le_of_ble_eq_true rfl) (Nat.le_of_ble_eq_true rfl) (Nat.le_of_ble_eq_true rfl) ?_
      rintro x241 M242 ⟨hB243, kp244, kp245, kp246, kp247, h248, h249, h250, h251, h252, h253⟩
      have hB254 : BD M M242 := BD.go hB234 hB243
      have kp255 : mI M242 24 = mI M 24 := kp_go kp235 kp244
      have kp256 : mI M242 26 = mI M 26 := kp_go kp236 kp245
      have kp257 : mI M242 27 = mI M 27 := kp_go kp237 kp246
      have kp258 : mI M242 28 = mI M 28 := kp_go kp238 kp247
      refine vc_if_eq dX4_readDeed_125 (fun h259 => ?_) (fun h259 => ?_)
      · refine vc_iconst dX4_readDeed_148 rfl ?_
        refine vc_zret dX4_readDeed_149 rfl (by first | decide | omega) (Nat.le_of_ble_eq_true rfl) (Nat.le_of_ble_eq_true rfl) ?_
        exact ⟨_, rfl, hB254, kp255, kp256, kp257, kp258, by omega, by omega, by omega, by omega, by omega, by rw [sB10 (by omega)]; exact CR.b_ok h233 (by omega) (CR.b_bad h253 (by omega) (by omega))⟩
      · have e260 := CR.ok h253 (by omega)
        refine vc_aload_n dX4_readDeed_128 rfl ?_
        refine vc_bipush dX4_readDeed_129 rfl ?_
        refine vc_cVI dX4_readDeed_131 (sfX4_readSignF (M := M242) hB254.1  g n ((sFac (tk g n) (nx g n) ((sNum (tk g n) (nx g n) 0 5 p).2)).2) e260.2 58 (by omega) (by omega)) rfl okX4_readSign viX4_readSign lkX4_141 (s_22 hB254.1.1) cl_4 rfl (Nat.le_of_ble_eq_true rfl) ⟨rfl, rfl⟩ (Nat.le_of_ble_eq_true rfl) (Nat.le_of_ble_eq_true rfl) (Nat.le_of_ble_eq_true rfl) ?_
        rintro x261 M262 ⟨hB263, kp264, kp265, kp266, kp267, h268, h269, h270, h271, h272, h273⟩
        have hB274 : BD M M262 := BD.go hB254 hB263
        have kp275 : mI M262 24 = mI M 24 := kp_go kp255 kp264
        have kp276 : mI M262 26 = mI M 26 := kp_go kp256 kp265
        have kp277 : mI M262 27 = mI M 27 := kp_go kp257 kp266
        have kp278 : mI M262 28 = mI M 28 := kp_go kp258 kp267
        refine vc_if_eq dX4_readDeed_134 (fun h279 => ?_) (fun h279 => ?_)
        · refine vc_iconst dX4_readDeed_148 rfl ?_
          refine vc_zret dX4_readDeed_149 rfl (by first | decide | omega) (Nat.le_of_ble_eq_true rfl) (Nat.le_of_ble_eq_true rfl) ?_
          exact ⟨_, rfl, hB274, kp275, kp276, kp277, kp278, by omega, by omega, by omega, by omega, by omega, by rw [sB10 (by omega)]; exact CR.b_ok h233 (by omega) (CR.b_ok h253 (by omega) (CR.b_bad h273.cr (by omega) (by omega)))⟩
        · have e280 := CR.ok h273.cr (by omega)
          refine vc_aload_n dX4_readDeed_137 rfl ?_
          refine vc_cVI dX4_readDeed_138 (sfX4_readTurnsF (M := M262) hB274.1  g n ((sTok (tk g n) (nx g n) (58 - 300) ((sFac (tk g n) (nx g n) ((sNum (tk g n) (nx g n) 0 5 p).2)).2)).2) e280.2 ) rfl okX4_readTurns viX4_readTurns lkX4_157 (s_22 hB274.1.1) cl_4 rfl (Nat.le_of_ble_eq_true rfl) ⟨rfl, rfl⟩ (Nat.le_of_ble_eq_true rfl) (Nat.le_of_ble_eq_true rfl) (Nat.le_of_ble_eq_true rfl) ?_
          rintro x281 M282 ⟨hB283, kp284, kp285, kp286, kp287, h288, h289, h290, h291, h292, h293⟩
          have hB294 : BD M M282 := BD.go hB274 hB283
          have kp295 : mI M282 24 = mI M 24 := kp_go kp275 kp284
          have kp296 : mI M282 26 = mI M 26 := kp_go kp276 kp285
          have kp297 : mI M282 27 = mI M 27 := kp_go kp277 kp286
          have kp298 : mI M282 28 = mI M 28 := kp_go kp278 kp287
          refine vc_if_eq dX4_readDeed_141 (fun h299 => ?_) (fun h299 => ?_)
          · refine vc_iconst dX4_readDeed_148 rfl ?_
            refine vc_zret dX4_readDeed_149 rfl (by first | decide | omega) (Nat.le_of_ble_eq_true rfl) (Nat.le_of_ble_eq_true rfl) ?_
            exact ⟨_, rfl, hB294, kp295, kp296, kp297, kp298, by omega, by omega, by omega, by omega, by omega, by rw [sB10 (by omega)]; exact CR.b_ok h233 (by omega) (CR.b_ok h253 (by omega) (CR.b_ok h273.cr (by omega) (CR.cast h293 (by omega))))⟩
          · have e300 := CR.ok h293 (by omega)
            refine vc_iconst dX4_readDeed_144 rfl ?_
            refine vc_goto dX4_readDeed_145 ?_
            refine vc_zret dX4_readDeed_149 rfl (by first | decide | omega) (Nat.le_of_ble_eq_true rfl) (Nat.le_of_ble_eq_true rfl) ?_
            exact ⟨_, rfl, hB294, kp295, kp296, kp297, kp298, by omega, by omega, by omega, by omega, by omega, by rw [sB10 (by omega)]; exact CR.b_ok h233 (by omega) (CR.b_ok h253 (by omega) (CR.b_ok h273.cr (by omega) (CR.cast h293 (by omega))))⟩
  by_cases h301 : w = 11
  · refine vc_tabIn dX4_readDeed_1 11 150 h301 rfl rfl rfl ?_
    refine vc_aload_n dX4_readDeed_150 rfl ?_
    refine vc_iconst dX4_readDeed_151 rfl ?_
    refine vc_cVI dX4_readDeed_152 (sfX4_readCornerF (M := M) hB0.1  g n p hR 1 (by omega) (by omega)) rfl okX4_readCorner viX4_readCorner lkX4_148 (s_22 hB0.1.1) cl_4 rfl (Nat.le_of_ble_eq_true rfl) ⟨rfl, rfl⟩ (Nat.le_of_ble_eq_true rfl) (Nat.le_of_ble_eq_true rfl) (Nat.le_of_ble_eq_true rfl) ?_
    rintro x302 M303 ⟨hB304, kp305, kp306, kp307, kp308, h309, h310, h311, h312, h313, h314⟩
    have hB315 : BD M M303 := BD.go hB0 hB304
    have kp316 : mI M303 24 = mI M 24 := kp_go rfl kp305
    have kp317 : mI M303 26 = mI M 26 := kp_go rfl kp306
    have kp318 : mI M303 27 = mI M 27 := kp_go rfl kp307
    have kp319 : mI M303 28 = mI M 28 := kp_go rfl kp308
    refine vc_if_eq dX4_readDeed_155 (fun h320 => ?_) (fun h320 => ?_)
    · refine vc_iconst dX4_readDeed_169 rfl ?_
      refine vc_zret dX4_readDeed_170 rfl (by first | decide | omega) (Nat.le_of_ble_eq_true rfl) (Nat.le_of_ble_eq_true rfl) ?_
      exact ⟨_, rfl, hB315, kp316, kp317, kp318, kp319, by omega, by omega, by omega, by omega, by omega, by rw [sB11 (by omega)]; exact CR.b_bad h314 (by omega) (by omega)⟩
    · have e321 := CR.ok h314 (by omega)
      refine vc_aload_n dX4_readDeed_158 rfl ?_
      refine vc_cVI dX4_readDeed_159 (sfX4_readFacingF (M := M303) hB315.1  g n ((sNum (tk g n) (nx g n) 0 15 p).2) e321.2 ) rfl okX4_readFacing viX4_readFacing lkX4_154 (s_22 hB315.1.1) cl_4 rfl (Nat.le_of_ble_eq_true rfl) ⟨rfl, rfl⟩ (Nat.le_of_ble_eq_true rfl) (Nat.le_of_ble_eq_true rfl) (Nat.le_of_ble_eq_true rfl) ?_
      rintro x322 M323 ⟨hB324, kp325, kp326, kp327, kp328, h329, h330, h331, h332, h333, h334⟩
      have hB335 : BD M M323 := BD.go hB315 hB324
      have kp336 : mI M323 24 = mI M 24 := kp_go kp316 kp325
      have kp337 : mI M323 26 = mI M 26 := kp_go kp317 kp326
      have kp338 : mI M323 27 = mI M 27 := kp_go kp318 kp327
      have kp339 : mI M323 28 = mI M 28 := kp_go kp319 kp328
      refine vc_if_eq dX4_readDeed_162 (fun h340 => ?_) (fun h340 => ?_)
      · refine vc_iconst dX4_readDeed_169 rfl ?_
        refine vc_zret dX4_readDeed_170 rfl (by first | decide | omega) (Nat.le_of_ble_eq_true rfl) (Nat.le_of_ble_eq_true rfl) ?_
        exact ⟨_, rfl, hB335, kp336, kp337, kp338, kp339, by omega, by omega, by omega, by omega, by omega, by rw [sB11 (by omega)]; exact CR.b_ok h314 (by omega) (CR.cast h334 (by omega))⟩
      · have e341 := CR.ok h334 (by omega)
        refine vc_iconst dX4_readDeed_165 rfl ?_
        refine vc_goto dX4_readDeed_166 ?_
        refine vc_zret dX4_readDeed_170 rfl (by first | decide | omega) (Nat.le_of_ble_eq_true rfl) (Nat.le_of_ble_eq_true rfl) ?_
        exact ⟨_, rfl, hB335, kp336, kp337, kp338, kp339, by omega, by omega, by omega, by omega, by omega, by rw [sB11 (by omega)]; exact CR.b_ok h314 (by omega) (CR.cast h334 (by omega))⟩
  by_cases h342 : w = 12
  · refine vc_tabIn dX4_readDeed_1 12 171 h342 rfl rfl rfl ?_
    refine vc_aload_n dX4_readDeed_171 rfl ?_
    refine vc_iconst dX4_readDeed_172 rfl ?_
    refine vc_iconst dX4_readDeed_173 rfl ?_
    refine vc_bipush dX4_readDeed_174 rfl ?_
    refine vc_cVI dX4_readDeed_176 (sfX4_readNumberF (M := M) hB0.1  g n p hR 1 1 20 (by omega) (by omega)) rfl okX4_readNumber viX4_readNumber lkX4_144 (s_22 hB0.1.1) cl_4 rfl (Nat.le_of_ble_eq_true rfl) ⟨rfl, rfl⟩ (Nat.le_of_ble_eq_true rfl) (Nat.le_of_ble_eq_true rfl) (Nat.le_of_ble_eq_true rfl) ?_
    rintro x343 M344 ⟨hB345, kp346, kp347, kp348, kp349, h350, h351, h352, h353, h354, h355⟩
    have hB356 : BD M M344 := BD.go hB0 hB345
    have kp357 : mI M344 24 = mI M 24 := kp_go rfl kp346
    have kp358 : mI M344 26 = mI M 26 := kp_go rfl kp347
    have kp359 : mI M344 27 = mI M 27 := kp_go rfl kp348
    have kp360 : mI M344 28 = mI M 28 := kp_go rfl kp349
    refine vc_zret dX4_readDeed_179 rfl (by first | decide | omega) (Nat.le_of_ble_eq_true rfl) (Nat.le_of_ble_eq_true rfl) ?_
    exact ⟨_, rfl, hB356, kp357, kp358, kp359, kp360, by omega, by omega, by omega, by omega, by omega, by rw [sB12 (by omega)]; exact CR.cast h355 (by omega)⟩
  by_cases h361 : w = 13
  · refine vc_tabIn dX4_readDeed_1 13 180 h361 rfl rfl rfl ?_
    refine vc_aload_n dX4_readDeed_180 rfl ?_
    refine vc_iconst dX4_readDeed_181 rfl ?_
    refine vc_cVI dX4_readDeed_182 (sfX4_readSideToF (M := M) hB0.1  g n p hR 1 (by omega) (by omega)) rfl okX4_readSideTo viX4_readSideTo lkX4_160 (s_22 hB0.1.1) cl_4 rfl (Nat.le_of_ble_eq_true rfl) ⟨rfl, rfl⟩ (Nat.le_of_ble_eq_true rfl) (Nat.le_of_ble_eq_true rfl) (Nat.le_of_ble_eq_true rfl) ?_
    rintro x362 M363 ⟨hB364, kp365, kp366, kp367, kp368, h369, h370, h371, h372, h373, h374⟩
    have hB375 : BD M M363 := BD.go hB0 hB364
    have kp376 : mI M363 24 = mI M 24 := kp_go rfl kp365
    have kp377 : mI M363 26 = mI M 26 := kp_go rfl kp366
    have kp378 : mI M363 27 = mI M 27 := kp_go rfl kp367
    have kp379 : mI M363 28 = mI M 28 := kp_go rfl kp368
    refine vc_zret dX4_readDeed_185 rfl (by first | decide | omega) (Nat.le_of_ble_eq_true rfl) (Nat.le_of_ble_eq_true rfl) ?_
    exact ⟨_, rfl, hB375, kp376, kp377, kp378, kp379, by omega, by omega, by omega, by omega, by omega, by rw [sB13 (by omega)]; exact CR.cast h374 (by omega)⟩
  by_cases h380 : w = 14
  · refine vc_tabIn dX4_readDeed_1 14 186 h380 rfl rfl rfl ?_
    refine vc_aload_n dX4_readDeed_186 rfl ?_
    refine vc_iconst dX4_readDeed_187 rfl ?_
    refine vc_iconst dX4_readDeed_188 rfl ?_
    refine vc_iconst dX4_readDeed_189 rfl ?_
    refine vc_cVI dX4_readDeed_190 (sfX4_readNumberF (M := M) hB0.1  g n p hR 1 0 5 (by omega) (by omega)) rfl okX4_readNumber viX4_readNumber lkX4_144 (s_22 hB0.1.1) cl_4 rfl (Nat.le_of_ble_eq_true rfl) ⟨rfl, rfl⟩ (Nat.le_of_ble_eq_true rfl) (Nat.le_of_ble_eq_true rfl) (Nat.le_of_ble_eq_true rfl) ?_
    rintro x381 M382 ⟨hB383, kp384, kp385, kp386, kp387, h388, h389, h390, h391, h392, h393⟩
    have hB394 : BD M M382 := BD.go hB0 hB383
    have kp395 : mI M382 24 = mI M 24 := kp_go rfl kp384
    have kp396 : mI M382 26 = mI M 26 := kp_go rfl kp385
    have kp397 : mI M382 27 = mI M 27 := kp_go rfl kp386
    have kp398 : mI M382 28 = mI M 28 := kp_go rfl kp387
    refine vc_zret dX4_readDeed_193 rfl (by first | decide | omega) (Nat.le_of_ble_eq_true rfl) (Nat.le_of_ble_eq_true rfl) ?_
    exact ⟨_, rfl, hB394, kp395, kp396, kp397, kp398, by omega, by omega, by omega, by omega, by omega, by rw [sB14 (by omega)]; exact CR.cast h393 (by omega)⟩
  refine vc_tabOut dX4_readDeed_1 194 (by omega) rfl ?_
  refine vc_aload_n dX4_readDeed_194 rfl ?_
  refine vc_iconst dX4_readDeed_195 rfl ?_
  refine vc_iconst dX4_readDeed_196 rfl ?_
  refine vc_bipush dX4_readDeed_197 rfl ?_
  refine vc_cVI dX4_readDeed_199 (sfX4_readNumberF (M := M) hB0.1  g n p hR 1 0 7 (by omega) (by omega)) rfl okX4_readNumber viX4_readNumber lkX4_144 (s_22 hB0.1.1) cl_4 rfl (Nat.le_of_ble_eq_true rfl) ⟨rfl, rfl⟩ (Nat.le_of_ble_eq_true rfl) (Nat.le_of_ble_eq_true rfl) (Nat.le_of_ble_eq_true rfl) ?_
  rintro x399 M400 ⟨hB401, kp402, kp403, kp404, kp405, h406, h407, h408, h409, h410, h411⟩
  have hB412 : BD M M400 := BD.go hB0 hB401
  have kp413 : mI M400 24 = mI M 24 := kp_go rfl kp402
  have kp414 : mI M400 26 = mI M 26 := kp_go rfl kp403
  have kp415 : mI M400 27 = mI M 27 := kp_go rfl kp404
  have kp416 : mI M400 28 = mI M 28 := kp_go rfl kp405
  refine vc_zret dX4_readDeed_202 rfl (by first | decide | omega) (Nat.le_of_ble_eq_true rfl) (Nat.le_of_ble_eq_true rfl) ?_
  exact ⟨_, rfl, hB412, kp413, kp414, kp415, kp416, by omega, by omega, by omega, by omega, by omega, by rw [sB15 (by omega)]; exact CR.cast h411 (by omega)⟩

set_option maxRecDepth 4000 in
theorem sfX4_beginLawF {l : Launch} {M : Mem} (hB : Box M) (g : Nat → Int) (n p : Int) (hR : RS g n M p) (law : Int) (p0 : 0 ≤ law) (p1 : law ≤ 4) : Call l mdX4_beginLaw [aR 22, aI law] M (fun q N => ∃ r : Int, q = some (aI r) ∧ BD M N ∧ mI N 26 = mI M 26 ∧ mI N 27 = mI M 27 ∧ mI N 28 = mI M 28 ∧ 1 ≤ r ∧ r ≤ 1 ∧ 0 ≤ mI N 22 9 ∧ mI N 22 13 = mI M 22 13 ∧ NMk (mI N 22 14) law ∧ (∀ j : Nat, j ≠ (2 * law).toNat → mI N 24 j = mI M 24 j) ∧ mI N 24 (2 * law).toNat ≠ -1 ∧ RS g n N p) := by
  have hB0 := BD.start hB
  refine Call.of [some (aR 22), some (aI law)] rfl (Nat.le_of_ble_eq_true rfl) rfl ?_
  have hrg := RS.rg hR
  refine vc_aload_n dX4_beginLaw_0 rfl ?_
  refine vc_iload_n dX4_beginLaw_1 rfl ?_
  refine vc_iconst dX4_beginLaw_2 rfl ?_
  refine vc_icmp_ge dX4_beginLaw_3 (fun h1 => ?_) (fun h1 => ?_)
  · refine vc_iload_n dX4_beginLaw_11 rfl ?_
    refine vc_iconst dX4_beginLaw_12 rfl ?_
    refine vc_icmp_ne dX4_beginLaw_13 (fun h2 => ?_) (fun h2 => ?_)
    · refine vc_bipush dX4_beginLaw_22 rfl ?_
      refine vc_putI dX4_beginLaw_24 (plX4_170 _ rfl) (s_22 hB0.1.1) rfl ?_
      have kp3 : mI (sI M 22 14 7) 26 = mI M 26 := (kp_sI rfl rfl)
      have kp4 : mI (sI M 22 14 7) 27 = mI M 27 := (kp_sI rfl rfl)
      have kp5 : mI (sI M 22 14 7) 28 = mI M 28 := (kp_sI rfl rfl)
      have hB6 : BD M (sI M 22 14 7) := BD.w22_14 hB0
      refine vc_aload_n dX4_beginLaw_27 rfl ?_
      refine vc_getR dX4_beginLaw_28 flX4_18 (s_22 hB6.1.1) rfl (r_22_2 hB6.1.1) ?_
      refine vc_iconst dX4_beginLaw_31 rfl ?_
      refine vc_iload_n dX4_beginLaw_32 rfl ?_
      refine vc_imulE dX4_beginLaw_33 (by omega) (by omega) ?_
      refine vc_aload_n dX4_beginLaw_34 rfl ?_
      refine vc_getI dX4_beginLaw_35 flX4_50 (s_22 hB6.1.1) rfl ?_
      refine vc_topI (mI M 22 12) rfl ?_
      have k7 : 0 ≤ mI M 22 12 ∧ mI M 22 12 ≤ 300 := b22_12 (M := (sI M 22 14 7)) hB6.1
      refine vc_iastore dX4_beginLaw_38 (s_24 hB6.1.1) (by omega) (by omega) ?_
      have kp8 : mI (sI (sI M 22 14 7) 24 ((2 * law).toNat) (mI M 22 12)) 26 = mI M 26 := (kp_sI kp3 rfl)
      have kp9 : mI (sI (sI M 22 14 7) 24 ((2 * law).toNat) (mI M 22 12)) 27 = mI M 27 := (kp_sI kp4 rfl)
      have kp10 : mI (sI (sI M 22 14 7) 24 ((2 * law).toNat) (mI M 22 12)) 28 = mI M 28 := (kp_sI kp5 rfl)
      have hB11 : BD M (sI (sI M 22 14 7) 24 ((2 * law).toNat) (mI M 22 12)) := BD.w24 hB6 _ (by omega) (by omega)
      refine vc_iconst dX4_beginLaw_39 rfl ?_
      refine vc_zret dX4_beginLaw_40 rfl (by first | decide | omega) (Nat.le_of_ble_eq_true rfl) (Nat.le_of_ble_eq_true rfl) ?_
      have k12 : mI (sI (sI M 22 14 7) 24 ((2 * law).toNat) (mI M 22 12)) 22 7 = mI M 22 7 := rfl
      have k13 : mI (sI (sI M 22 14 7) 24 ((2 * law).toNat) (mI M 22 12)) 22 8 = mI M 22 8 := rfl
      have k14 : mI (sI (sI M 22 14 7) 24 ((2 * law).toNat) (mI M 22 12)) 22 9 = mI M 22 9 := rfl
      have k15 : mI (sI (sI M 22 14 7) 24 ((2 * law).toNat) (mI M 22 12)) 22 10 = mI M 22 10 := rfl
      have k16 : mI (sI (sI M 22 14 7) 24 ((2 * law).toNat) (mI M 22 12)) 22 11 = mI M 22 11 := rfl
      have k17 : mI (sI (sI M 22 14 7) 24 ((2 * law).toNat) (mI M 22 12)) 22 12 = mI M 22 12 := rfl
      have k18 : mI (sI (sI M 22 14 7) 24 ((2 * law).toNat) (mI M 22 12)) 22 13 = mI M 22 13 := rfl
      have k19 : mI (sI (sI M 22 14 7) 24 ((2 * law).toNat) (mI M 22 12)) 22 14 = 7 := rfl
      exact ⟨_, rfl, hB11, kp8, kp9, kp10, by omega, by omega, by omega, by omega, by unfold NMk; omega, (fun j hj => by rw [mI_sI, if_neg (fun e => hj e.2)]; rfl), (by rw [mI_same]; omega), RS.same hR kp8 kp9 kp10 rfl rfl rfl rfl rfl⟩
    · refine vc_sipush dX4_beginLaw_16 rfl ?_
      refine vc_goto dX4_beginLaw_19 ?_
      refine vc_putI dX4_beginLaw_24 (plX4_170 _ rfl) (s_22 hB0.1.1) rfl ?_
      have kp20 : mI (sI M 22 14 448) 26 = mI M 26 := (kp_sI rfl rfl)
      have kp21 : mI (sI M 22 14 448) 27 = mI M 27 := (kp_sI rfl rfl)
      have kp22 : mI (sI M 22 14 448) 28 = mI M 28 := (kp_sI rfl rfl)
      have hB23 : BD M (sI M 22 14 448) := BD.w22_14 hB0
      refine vc_aload_n dX4_beginLaw_27 rfl ?_
      refine vc_getR dX4_beginLaw_28 flX4_18 (s_22 hB23.1.1) rfl (r_22_2 hB23.1.1) ?_
      refine vc_iconst dX4_beginLaw_31 rfl ?_
      refine vc_iload_n dX4_beginLaw_32 rfl ?_
      refine vc_imulE dX4_beginLaw_33 (by omega) (by omega) ?_
      refine vc_aload_n dX4_beginLaw_34 rfl ?_
      refine vc_getI dX4_beginLaw_35 flX4_50 (s_22 hB23.1.1) rfl ?_
      refine vc_topI (mI M 22 12) rfl ?_
      have k24 : 0 ≤ mI M 22 12 ∧ mI M 22 12 ≤ 300 := b22_12 (M := (sI M 22 14 448)) hB23.1
      refine vc_iastore dX4_beginLaw_38 (s_24 hB23.1.1) (by omega) (by omega) ?_
      have kp25 : mI (sI (sI M 22 14 448) 24 ((2 * law).toNat) (mI M 22 12)) 26 = mI M 26 := (kp_sI kp20 rfl)
      have kp26 : mI (sI (sI M 22 14 448) 24 ((2 * law).toNat) (mI M 22 12)) 27 = mI M 27 := (kp_sI kp21 rfl)
      have kp27 : mI (sI (sI M 22 14 448) 24 ((2 * law).toNat) (mI M 22 12)) 28 = mI M 28 := (kp_sI kp22 rfl)
      have hB28 : BD M (sI (sI M 22 14 448) 24 ((2 * law).toNat) (mI M 22 12)) := BD.w24 hB23 _ (by omega) (by omega)
      refine vc_iconst dX4_beginLaw_39 rfl ?_
      refine vc_zret dX4_beginLaw_40 rfl (by first | decide | omega) (Nat.le_of_ble_eq_true rfl) (Nat.le_of_ble_eq_true rfl) ?_
      have k29 : mI (sI (sI M 22 14 448) 24 ((2 * law).toNat) (mI M 22 12)) 22 7 = mI M 22 7 := rfl
      have k30 : mI (sI (sI M 22 14 448) 24 ((2 * law).toNat) (mI M 22 12)) 22 8 = mI M 22 8 := rfl
      have k31 : mI (sI (sI M 22 14 448) 24 ((2 * law).toNat) (mI M 22 12)) 22 9 = mI M 22 9 := rfl
      have k32 : mI (sI (sI M 22 14 448) 24 ((2 * law).toNat) (mI M 22 12)) 22 10 = mI M 22 10 := rfl
      have k33 : mI (sI (sI M 22 14 448) 24 ((2 * law).toNat) (mI M 22 12)) 22 11 = mI M 22 11 := rfl
      have k34 : mI (sI (sI M 22 14 448) 24 ((2 * law).toNat) (mI M 22 12)) 22 12 = mI M 22 12 := rfl
      have k35 : mI (sI (sI M 22 14 448) 24 ((2 * law).toNat) (mI M 22 12)) 22 13 = mI M 22 13 := rfl
      have k36 : mI (sI (sI M 22 14 448) 24 ((2 * law).toNat) (mI M 22 12)) 22 14 = 448 := rfl
      exact ⟨_, rfl, hB28, kp25, kp26, kp27, by omega, by omega, by omega, by omega, by unfold NMk; omega, (fun j hj => by rw [mI_sI, if_neg (fun e => hj e.2)]; rfl), (by rw [mI_same]; omega), RS.same hR kp25 kp26 kp27 rfl rfl rfl rfl rfl⟩
  · refine vc_bipush dX4_beginLaw_6 rfl ?_
    refine vc_goto dX4_beginLaw_8 ?_
    refine vc_putI dX4_beginLaw_24 (plX4_170 _ rfl) (s_22 hB0.1.1) rfl ?_
    have kp37 : mI (sI M 22 14 63) 26 = mI M 26 := (kp_sI rfl rfl)
    have kp38 : mI (sI M 22 14 63) 27 = mI M 27 := (kp_sI rfl rfl)
    have kp39 : mI (sI M 22 14 63) 28 = mI M 28 := (kp_sI rfl rfl)
    have hB40 : BD M (sI M 22 14 63) := BD.w22_14 hB0
    refine vc_aload_n dX4_beginLaw_27 rfl ?_
    refine vc_getR dX4_beginLaw_28 flX4_18 (s_22 hB40.1.1) rfl (r_22_2 hB40.1.1) ?_
    refine vc_iconst dX4_beginLaw_31 rfl ?_
    refine vc_iload_n dX4_beginLaw_32 rfl ?_
    refine vc_imulE dX4_beginLaw_33 (by omega) (by omega) ?_
    refine vc_aload_n dX4_beginLaw_34 rfl ?_
    refine vc_getI dX4_beginLaw_35 flX4_50 (s_22 hB40.1.1) rfl ?_
    refine vc_topI (mI M 22 12) rfl ?_
    have k41 : 0 ≤ mI M 22 12 ∧ mI M 22 12 ≤ 300 := b22_12 (M := (sI M 22 14 63)) hB40.1
    refine vc_iastore dX4_beginLaw_38 (s_24 hB40.1.1) (by omega) (by omega) ?_
    have kp42 : mI (sI (sI M 22 14 63) 24 ((2 * law).toNat) (mI M 22 12)) 26 = mI M 26 := (kp_sI kp37 rfl)
    have kp43 : mI (sI (sI M 22 14 63) 24 ((2 * law).toNat) (mI M 22 12)) 27 = mI M 27 := (kp_sI kp38 rfl)
    have kp44 : mI (sI (sI M 22 14 63) 24 ((2 * law).toNat) (mI M 22 12)) 28 = mI M 28 := (kp_sI kp39 rfl)
    have hB45 : BD M (sI (sI M 22 14 63) 24 ((2 * law).toNat) (mI M 22 12)) := BD.w24 hB40 _ (by omega) (by omega)
    refine vc_iconst dX4_beginLaw_39 rfl ?_
    refine vc_zret dX4_beginLaw_40 rfl (by first | decide | omega) (Nat.le_of_ble_eq_true rfl) (Nat.le_of_ble_eq_true rfl) ?_
    have k46 : mI (sI (sI M 22 14 63) 24 ((2 * law).toNat) (mI M 22 12)) 22 7 = mI M 22 7 := rfl
    have k47 : mI (sI (sI M 22 14 63) 24 ((2 * law).toNat) (mI M 22 12)) 22 8 = mI M 22 8 := rfl
    have k48 : mI (sI (sI M 22 14 63) 24 ((2 * law).toNat) (mI M 22 12)) 22 9 = mI M 22 9 := rfl
    have k49 : mI (sI (sI M 22 14 63) 24 ((2 * law).toNat) (mI M 22 12)) 22 10 = mI M 22 10 := rfl
    have k50 : mI (sI (sI M 22 14 63) 24 ((2 * law).toNat) (mI M 22 12)) 22 11 = mI M 22 11 := rfl
    have k51 : mI (sI (sI M 22 14 63) 24 ((2 * law).toNat) (mI M 22 12)) 22 12 = mI M 22 12 := rfl
    have k52 : mI (sI (sI M 22 14 63) 24 ((2 * law).toNat) (mI M 22 12)) 22 13 = mI M 22 13 := rfl
    have k53 : mI (sI (sI M 22 14 63) 24 ((2 * law).toNat) (mI M 22 12)) 22 14 = 63 := rfl
    exact ⟨_, rfl, hB45, kp42, kp43, kp44, by omega, by omega, by omega, by omega, by unfold NMk; omega, (fun j hj => by rw [mI_sI, if_neg (fun e => hj e.2)]; rfl), (by rw [mI_same]; omega), RS.same hR kp42 kp43 kp44 rfl rfl rfl rfl rfl⟩

set_option maxRecDepth 4000 in
theorem sfX4_endLawF {l : Launch} {M : Mem} (hB : Box M) (g : Nat → Int) (n p : Int) (hR : RS g n M p) (law : Int) (p0 : 0 ≤ law) (p1 : law ≤ 4) : Call l mdX4_endLaw [aR 22, aI law] M (fun q N => ∃ r : Int, q = some (aI r) ∧ BD M N ∧ mI N 26 = mI M 26 ∧ mI N 27 = mI M 27 ∧ mI N 28 = mI M 28 ∧ 1 ≤ r ∧ r ≤ 1 ∧ 0 ≤ mI N 22 9 ∧ mI N 22 13 = mI M 22 13 ∧ mI N 22 14 = mI M 22 14 ∧ (∀ j : Nat, j ≠ (2 * law + 1).toNat → mI N 24 j = mI M 24 j) ∧ RS g n N p) := by
  have hB0 := BD.start hB
  refine Call.of [some (aR 22), some (aI law)] rfl (Nat.le_of_ble_eq_true rfl) rfl ?_
  have hrg := RS.rg hR
  refine vc_aload_n dX4_endLaw_0 rfl ?_
  refine vc_getR dX4_endLaw_1 flX4_18 (s_22 hB0.1.1) rfl (r_22_2 hB0.1.1) ?_
  refine vc_iconst dX4_endLaw_4 rfl ?_
  refine vc_iload_n dX4_endLaw_5 rfl ?_
  refine vc_imulE dX4_endLaw_6 (by omega) (by omega) ?_
  refine vc_iconst dX4_endLaw_7 rfl ?_
  refine vc_iaddE dX4_endLaw_8 (by omega) (by omega) ?_
  refine vc_aload_n dX4_endLaw_9 rfl ?_
  refine vc_getI dX4_endLaw_10 flX4_50 (s_22 hB0.1.1) rfl ?_
  have k1 : 0 ≤ mI M 22 12 ∧ mI M 22 12 ≤ 300 := b22_12 (M := M) hB0.1
  refine vc_iastore dX4_endLaw_13 (s_24 hB0.1.1) (by omega) (by omega) ?_
  have kp2 : mI (sI M 24 (((2 * law) + 1).toNat) (mI M 22 12)) 26 = mI M 26 := (kp_sI rfl rfl)
  have kp3 : mI (sI M 24 (((2 * law) + 1).toNat) (mI M 22 12)) 27 = mI M 27 := (kp_sI rfl rfl)
  have kp4 : mI (sI M 24 (((2 * law) + 1).toNat) (mI M 22 12)) 28 = mI M 28 := (kp_sI rfl rfl)
  have hB5 : BD M (sI M 24 (((2 * law) + 1).toNat) (mI M 22 12)) := BD.w24 hB0 _ (by omega) (by omega)
  refine vc_iconst dX4_endLaw_14 rfl ?_
  refine vc_zret dX4_endLaw_15 rfl (by first | decide | omega) (Nat.le_of_ble_eq_true rfl) (Nat.le_of_ble_eq_true rfl) ?_
  have k6 : mI (sI M 24 (((2 * law) + 1).toNat) (mI M 22 12)) 22 7 = mI M 22 7 := rfl
  have k7 : mI (sI M 24 (((2 * law) + 1).toNat) (mI M 22 12)) 22 8 = mI M 22 8 := rfl
  have k8 : mI (sI M 24 (((2 * law) + 1).toNat) (mI M 22 12)) 22 9 = mI M 22 9 := rfl
  have k9 : mI (sI M 24 (((2 * law) + 1).toNat) (mI M 22 12)) 22 10 = mI M 22 10 := rfl
  have k10 : mI (sI M 24 (((2 * law) + 1).toNat) (mI M 22 12)) 22 11 = mI M 22 11 := rfl
  have k11 : mI (sI M 24 (((2 * law) + 1).toNat) (mI M 22 12)) 22 12 = mI M 22 12 := rfl
  have k12 : mI (sI M 24 (((2 * law) + 1).toNat) (mI M 22 12)) 22 13 = mI M 22 13 := rfl
  have k13 : mI (sI M 24 (((2 * law) + 1).toNat) (mI M 22 12)) 22 14 = mI M 22 14 := rfl
  exact ⟨_, rfl, hB5, kp2, kp3, kp4, by omega, by omega, by omega, by omega, by omega, (fun j hj => by rw [mI_sI, if_neg (fun e => hj e.2)]), RS.same hR kp2 kp3 kp4 rfl rfl rfl rfl rfl⟩

theorem nm_iff {v w m : Int} (h : NMk v w) (h0 : 0 ≤ m) (h8 : m ≤ 8) : shrI v m % 2 = 0 ↔ ¬ okN w m := by
  have hm : m = 0 ∨ m = 1 ∨ m = 2 ∨ m = 3 ∨ m = 4 ∨ m = 5 ∨ m = 6 ∨ m = 7 ∨ m = 8 := by omega
  unfold NMk at h
  unfold okN
  rcases h with ⟨e, a, b⟩ | ⟨e, a⟩ | ⟨e, a⟩
  · subst e
    have e2 : shrI 63 m % 2 = if m ≤ 5 then 1 else 0 := by rcases hm with e | e | e | e | e | e | e | e | e <;> subst e <;> decide
    rw [e2]
    split <;> omega
  · subst e
    have e2 : shrI 448 m % 2 = if 6 ≤ m then 1 else 0 := by rcases hm with e | e | e | e | e | e | e | e | e <;> subst e <;> decide
    rw [e2]
    split <;> omega
  · subst e
    have e2 : shrI 7 m % 2 = if m ≤ 2 then 1 else 0 := by rcases hm with e | e | e | e | e | e | e | e | e <;> subst e <;> decide
    rw [e2]
    split <;> omega

def LdO (l : Launch) (nf : Nat) : Prop := ∀ {M : Mem} (hB : Box M)  (d : Int) (p0 : 0 ≤ d) (p1 : d ≤ 8) (g : Nat → Int) (n p : Int) (hR : RS g n M p) (w : Int) (sk : List Int) (hl : (sk.length : Int) = d) (hw : NMk (mI M 22 14) w) (hnf : (8 - d).toNat < nf), Call l (mdX4_readOne (11 + 3 * nf)) [aR 22, aI d] M (fun q N => ∃ r : Int, q = some (aI r) ∧ BD M N ∧ mI N 24 = mI M 24 ∧ mI N 26 = mI M 26 ∧ mI N 27 = mI M 27 ∧ mI N 28 = mI M 28 ∧ 0 ≤ r ∧ r ≤ 1 ∧ 0 ≤ mI N 22 9 ∧ mI N 22 13 = mI M 22 13 ∧ mI N 22 14 = mI M 22 14 ∧ LR g n w sk p (ETr g n) N r)
def LdP (l : Launch) (nf : Nat) : Prop := ∀ {M : Mem} (hB : Box M)  (d : Int) (p0 : 0 ≤ d) (p1 : d ≤ 8) (g : Nat → Int) (n p : Int) (hR : RS g n M p) (w : Int) (sk : List Int) (hl : (sk.length : Int) = d) (hd : dm sk = sk) (hw : NMk (mI M 22 14) w) (hnf : (8 - d).toNat < nf), Call l (mdX4_readProduct (12 + 3 * nf)) [aR 22, aI d] M (fun q N => ∃ r : Int, q = some (aI r) ∧ BD M N ∧ mI N 24 = mI M 24 ∧ mI N 26 = mI M 26 ∧ mI N 27 = mI M 27 ∧ mI N 28 = mI M 28 ∧ 0 ≤ r ∧ r ≤ 1 ∧ 0 ≤ mI N 22 9 ∧ mI N 22 13 = mI M 22 13 ∧ mI N 22 14 = mI M 22 14 ∧ LR g n w sk p (EMul g n) N r)
def LdS (l : Launch) (nf : Nat) : Prop := ∀ {M : Mem} (hB : Box M)  (d : Int) (p0 : 0 ≤ d) (p1 : d ≤ 8) (g : Nat → Int) (n p : Int) (hR : RS g n M p) (w : Int) (sk : List Int) (hl : (sk.length : Int) = d) (hd : dm sk = sk) (hw : NMk (mI M 22 14) w) (hnf : (8 - d).toNat < nf), Call l (mdX4_readSum (13 + 3 * nf)) [aR 22, aI d] M (fun q N => ∃ r : Int, q = some (aI r) ∧ BD M N ∧ mI N 24 = mI M 24 ∧ mI N 26 = mI M 26 ∧ mI N 27 = mI M 27 ∧ mI N 28 = mI M 28 ∧ 0 ≤ r ∧ r ≤ 1 ∧ 0 ≤ mI N 22 9 ∧ mI N 22 13 = mI M 22 13 ∧ mI N 22 14 = mI M 22 14 ∧ LR g n w sk p (EOp g n) N r)
set_option maxRecDepth 4000 in
theorem ld_one {l : Launch} {nf : Nat} (hs : LdS l nf) (ho : LdO l nf) : LdO l (nf + 1) := by
  intro M hB d p0 p1 g n p hR w sk hl hw hnf
  have hB0 := BD.start hB
  refine Call.of [some (aR 22), some (aI d), none, none] rfl (Nat.le_of_ble_eq_true rfl) rfl ?_
  have ct1 := RS.ct hR
  unfold CT at ct1
  have rg2 := RS.rg hR
  refine vc_aload_n dX4_readOne_0 rfl ?_
  refine vc_getI dX4_readOne_1 flX4_69 (s_22 hB0.1.1) rfl ?_
  refine vc_iconst dX4_readOne_4 rfl ?_
  refine vc_icmp_ne dX4_readOne_5 (fun h3 => ?_) (fun h3 => ?_)
  · refine vc_aload_n dX4_readOne_50 rfl ?_
    refine vc_getI dX4_readOne_51 flX4_69 (s_22 hB0.1.1) rfl ?_
    refine vc_iconst dX4_readOne_54 rfl ?_
    refine vc_icmp_ne dX4_readOne_55 (fun h4 => ?_) (fun h4 => ?_)
    · refine vc_aload_n dX4_readOne_119 rfl ?_
      refine vc_getI dX4_readOne_120 flX4_69 (s_22 hB0.1.1) rfl ?_
      refine vc_iconst dX4_readOne_123 rfl ?_
      refine vc_icmp_ne dX4_readOne_124 (fun h5 => ?_) (fun h5 => ?_)
      · refine vc_iconst dX4_readOne_149 rfl ?_
        refine vc_istore_n dX4_readOne_150 (Nat.le_of_ble_eq_true rfl) rfl (show _ = [some (aR 22), some (aI d), some (aI 0), none] from rfl) ?_
        refine vc_iload_n dX4_readOne_151 rfl ?_
        refine vc_if_ne dX4_readOne_152 (fun h6 => by exfalso; omega) (fun h6 => ?_)
        refine vc_aload_n dX4_readOne_155 rfl ?_
        refine vc_bipush dX4_readOne_156 rfl ?_
        refine vc_cVI dX4_readOne_158 (sfX4_isSignF (M := M) hB0.1  40 ) rfl okX4_isSign viX4_isSign lkX4_163 (s_22 hB0.1.1) cl_4 rfl (by show 0 < 11 + 3 * (nf + 1); omega) ⟨rfl, rfl⟩ (Nat.le_of_ble_eq_true rfl) (Nat.le_of_ble_eq_true rfl) (Nat.le_of_ble_eq_true rfl) ?_
        rintro x7 _ ⟨rfl, h8, h9, h10⟩
        refine vc_if_ne dX4_readOne_161 (fun h11 => ?_) (fun h11 => ?_)
        · refine vc_iload_n dX4_readOne_179 rfl ?_
          refine vc_bipush dX4_readOne_180 rfl ?_
          refine vc_icmp_lt dX4_readOne_182 (fun h12 => ?_) (fun h12 => ?_)
          · refine vc_aload_n dX4_readOne_191 rfl ?_
            refine vc_getI dX4_readOne_192 flX4_119 (s_22 hB0.1.1) rfl ?_
            refine vc_nameI (fun x13 ex13 => ?_)
            refine vc_istore_n dX4_readOne_195 (Nat.le_of_ble_eq_true rfl) rfl (show _ = [some (aR 22), some (aI d), some (aI 0), some (aI x13)] from rfl) ?_
            refine vc_aload_n dX4_readOne_196 rfl ?_
            refine vc_cVI dX4_readOne_197 (sfX4_takeTokenF (M := M) hB0.1  g n p hR (by omega)) rfl okX4_takeToken viX4_takeToken lkX4_65 (s_22 hB0.1.1) cl_4 rfl (by show 0 < 11 + 3 * (nf + 1); omega) ⟨rfl, rfl⟩ (Nat.le_of_ble_eq_true rfl) (Nat.le_of_ble_eq_true rfl) (Nat.le_of_ble_eq_true rfl) ?_
            rintro x14 M15 ⟨hB16, kp17, kp18, kp19, kp20, h21, h22, h23, h24, h25, h26⟩
            have hB27 : BD M M15 := BD.go hB0 hB16
            have kp28 : mI M15 24 = mI M 24 := kp_go rfl kp17
            have kp29 : mI M15 26 = mI M 26 := kp_go rfl kp18
            have kp30 : mI M15 27 = mI M 27 := kp_go rfl kp19
            have kp31 : mI M15 28 = mI M 28 := kp_go rfl kp20
            refine vc_pop dX4_readOne_200 rfl ?_
            refine vc_iload_n dX4_readOne_201 rfl ?_
            refine vc_if_eq dX4_readOne_202 (fun h32 => ?_) (fun h32 => by exfalso; omega)
            refine vc_iload_n dX4_readOne_280 rfl ?_
            refine vc_bipush dX4_readOne_281 rfl ?_
            refine vc_icmp_ne dX4_readOne_283 (fun h33 => ?_) (fun h33 => ?_)
            · have kt34 : ∀ o, Rn (tk g n) (nx g n) w (2 :: sk) false (nx g n p) o → Rn (tk g n) (nx g n) w sk false p o := fun o r => r_neg (by omega) (by omega) r
              refine vc_aload_n dX4_readOne_311 rfl ?_
              refine vc_iload_n dX4_readOne_312 rfl ?_
              refine vc_iconst dX4_readOne_313 rfl ?_
              refine vc_iaddE dX4_readOne_314 (by omega) (by omega) ?_
              refine vc_cVI dX4_readOne_315 (ho (M := M15) hB27.1  (d + 1) (by omega) (by omega) g n (nx g n p) h26 w (2 :: sk) (by first | (rw [List.length_cons]; omega) | omega) (by rw [show mI M15 22 14 = mI M 22 14 by omega]; exact hw) (by omega)) rfl (okX4_readOne (11 + 3 * nf)) (viX4_readOne (11 + 3 * nf)) (lkX4_179 (11 + 3 * nf)) (s_22 hB27.1.1) cl_4 rfl (by show (11 + 3 * nf) < 11 + 3 * (nf + 1); omega) ⟨rfl, rfl⟩ (Nat.le_of_ble_eq_true rfl) (Nat.le_of_ble_eq_true rfl) (Nat.le_of_ble_eq_true rfl) ?_
              rintro x35 M36 ⟨hB37, kp38, kp39, kp40, kp41, h42, h43, h44, h45, h46, h47⟩
              have hB48 : BD M M36 := BD.go hB27 hB37
              have kp49 : mI M36 24 = mI M 24 := kp_go kp28 kp38
              have kp50 : mI M36 26 = mI M 26 := kp_go kp29 kp39
              have kp51 : mI M36 27 = mI M 27 := kp_go kp30 kp40
              have kp52 : mI M36 28 = mI M 28 := kp_go kp31 kp41
              refine vc_if_eq dX4_readOne_318 (fun h53 => ?_) (fun h53 => ?_)
              · refine vc_iconst dX4_readOne_335 rfl ?_
                refine vc_zret dX4_readOne_336 rfl (by first | decide | omega) (Nat.le_of_ble_eq_true rfl) (Nat.le_of_ble_eq_true rfl) ?_
                exact ⟨_, rfl, hB48, kp49, kp50, kp51, kp52, by omega, by omega, by omega, by omega, by omega, Or.inr ⟨by omega, (LR.bad h47 (by omega)).1, kt34 _ (LR.bad h47 (by omega)).2⟩⟩
              · obtain ⟨q54, hl55, hR56, hE57, hk58⟩ := LR.ok h47 (by omega)
                have kt59 : ∀ o, Rn (tk g n) (nx g n) w (dm sk) true q54 o → Rn (tk g n) (nx g n) w sk false p o := fun o r => kt34 o (hk58 o r)
                refine vc_aload_n dX4_readOne_321 rfl ?_
                refine vc_sipush dX4_readOne_322 rfl ?_
                refine vc_cVI dX4_readOne_325 (sfX4_emitF (M := M36) hB48.1  g n q54 hR56 20006 ) rfl okX4_emit viX4_emit lkX4_176 (s_22 hB48.1.1) cl_4 rfl (by show 0 < 11 + 3 * (nf + 1); omega) ⟨rfl, rfl⟩ (Nat.le_of_ble_eq_true rfl) (Nat.le_of_ble_eq_true rfl) (Nat.le_of_ble_eq_true rfl) ?_
                rintro x60 M61 ⟨hB62, kp63, kp64, kp65, kp66, h67, h68, h69, h70, h71, h72⟩
                have hB73 : BD M M61 := BD.go hB48 hB62
                have kp74 : mI M61 24 = mI M 24 := kp_go kp49 kp63
                have kp75 : mI M61 26 = mI M 26 := kp_go kp50 kp64
                have kp76 : mI M61 27 = mI M 27 := kp_go kp51 kp65
                have kp77 : mI M61 28 = mI M 28 := kp_go kp52 kp66
                refine vc_if_eq dX4_readOne_328 (fun h78 => by exfalso; omega) (fun h78 => ?_)
                refine vc_iconst dX4_readOne_331 rfl ?_
                refine vc_goto dX4_readOne_332 ?_
                refine vc_zret dX4_readOne_336 rfl (by first | decide | omega) (Nat.le_of_ble_eq_true rfl) (Nat.le_of_ble_eq_true rfl) ?_
                exact ⟨_, rfl, hB73, kp74, kp75, kp76, kp77, by omega, by omega, by omega, by omega, by omega, Or.inl ⟨by omega, q54, by omega, h72, trivial, kt59⟩⟩
            · have kt79 : ∀ o, Rn (tk g n) (nx g n) w (40 :: sk) false (nx g n p) o → Rn (tk g n) (nx g n) w sk false p o := fun o r => r_par (by omega) (by omega) r
              refine vc_aload_n dX4_readOne_286 rfl ?_
              refine vc_iload_n dX4_readOne_287 rfl ?_
              refine vc_iconst dX4_readOne_288 rfl ?_
              refine vc_iaddE dX4_readOne_289 (by omega) (by omega) ?_
              refine vc_cVI dX4_readOne_290 (hs (M := M15) hB27.1  (d + 1) (by omega) (by omega) g n (nx g n p) h26 w (40 :: sk) (by first | (rw [List.length_cons]; omega) | omega) rfl (by rw [show mI M15 22 14 = mI M 22 14 by omega]; exact hw) (by omega)) rfl (okX4_readSum (13 + 3 * nf)) (viX4_readSum (13 + 3 * nf)) (lkX4_132 (13 + 3 * nf)) (s_22 hB27.1.1) cl_4 rfl (by show (13 + 3 * nf) < 11 + 3 * (nf + 1); omega) ⟨rfl, rfl⟩ (Nat.le_of_ble_eq_true rfl) (Nat.le_of_ble_eq_true rfl) (Nat.le_of_ble_eq_true rfl) ?_
              rintro x80 M81 ⟨hB82, kp83, kp84, kp85, kp86, h87, h88, h89, h90, h91, h92⟩
              have hB93 : BD M M81 := BD.go hB27 hB82
              have kp94 : mI M81 24 = mI M 24 := kp_go kp28 kp83
              have kp95 : mI M81 26 = mI M 26 := kp_go kp29 kp84
              have kp96 : mI M81 27 = mI M 27 := kp_go kp30 kp85
              have kp97 : mI M81 28 = mI M 28 := kp_go kp31 kp86
              refine vc_if_eq dX4_readOne_293 (fun h98 => ?_) (fun h98 => ?_)
              · refine vc_iconst dX4_readOne_309 rfl ?_
                refine vc_zret dX4_readOne_310 rfl (by first | decide | omega) (Nat.le_of_ble_eq_true rfl) (Nat.le_of_ble_eq_true rfl) ?_
                exact ⟨_, rfl, hB93, kp94, kp95, kp96, kp97, by omega, by omega, by omega, by omega, by omega, Or.inr ⟨by omega, (LR.bad h92 (by omega)).1, kt79 _ (LR.bad h92 (by omega)).2⟩⟩
              · obtain ⟨q99, hl100, hR101, hE102, hk103⟩ := LR.ok h92 (by omega)
                unfold EOp at hE102
                have kt104 : ∀ o, Rn (tk g n) (nx g n) w (40 :: sk) true q99 o → Rn (tk g n) (nx g n) w sk false p o := fun o r => kt79 o (hk103 o r)
                refine vc_aload_n dX4_readOne_296 rfl ?_
                refine vc_bipush dX4_readOne_297 rfl ?_
                refine vc_cVI dX4_readOne_299 (sfX4_readSignF (M := M81) hB93.1  g n q99 hR101 41 (by omega) (by omega)) rfl okX4_readSign viX4_readSign lkX4_141 (s_22 hB93.1.1) cl_4 rfl (by show 1 < 11 + 3 * (nf + 1); omega) ⟨rfl, rfl⟩ (Nat.le_of_ble_eq_true rfl) (Nat.le_of_ble_eq_true rfl) (Nat.le_of_ble_eq_true rfl) ?_
                rintro x105 M106 ⟨hB107, kp108, kp109, kp110, kp111, h112, h113, h114, h115, h116, h117⟩
                have hB118 : BD M M106 := BD.go hB93 hB107
                have kp119 : mI M106 24 = mI M 24 := kp_go kp94 kp108
                have kp120 : mI M106 26 = mI M 26 := kp_go kp95 kp109
                have kp121 : mI M106 27 = mI M 27 := kp_go kp96 kp110
                have kp122 : mI M106 28 = mI M 28 := kp_go kp97 kp111
                refine vc_if_eq dX4_readOne_302 (fun h123 => ?_) (fun h123 => ?_)
                · refine vc_iconst dX4_readOne_309 rfl ?_
                  refine vc_zret dX4_readOne_310 rfl (by first | decide | omega) (Nat.le_of_ble_eq_true rfl) (Nat.le_of_ble_eq_true rfl) ?_
                  have hb124 := TR.bad h117 (by omega)
                  exact ⟨_, rfl, hB118, kp119, kp120, kp121, kp122, by omega, by omega, by omega, by omega, by omega, Or.inr ⟨by omega, by omega, by rw [hb124.2.1, hb124.2.2]; exact kt104 _ (t_b40 hE102 (by omega))⟩⟩
                · have e125 := TR.ok h117 (by omega)
                  have he126 := e125.1
                  have rg127 := RS.rg hR101
                  have kt128 : ∀ o, Rn (tk g n) (nx g n) w (dm sk) true (nx g n q99) o → Rn (tk g n) (nx g n) w sk false p o := fun o r => kt104 o (t_shut (by omega) r)
                  refine vc_iconst dX4_readOne_305 rfl ?_
                  refine vc_goto dX4_readOne_306 ?_
                  refine vc_zret dX4_readOne_310 rfl (by first | decide | omega) (Nat.le_of_ble_eq_true rfl) (Nat.le_of_ble_eq_true rfl) ?_
                  exact ⟨_, rfl, hB118, kp119, kp120, kp121, kp122, by omega, by omega, by omega, by omega, by omega, Or.inl ⟨by omega, nx g n q99, by omega, e125.2, trivial, kt128⟩⟩
          · refine vc_aload_n dX4_readOne_185 rfl ?_
            refine vc_iconst dX4_readOne_186 rfl ?_
            refine vc_cVI dX4_readOne_187 (sfX4_failedF (M := M) hB0.1  g n p hR 3 ) rfl okX4_failed viX4_failed lkX4_122 (s_22 hB0.1.1) cl_4 rfl (by show 0 < 11 + 3 * (nf + 1); omega) ⟨rfl, rfl⟩ (Nat.le_of_ble_eq_true rfl) (Nat.le_of_ble_eq_true rfl) (Nat.le_of_ble_eq_true rfl) ?_
            rintro x129 M130 ⟨hB131, kp132, kp133, kp134, kp135, h136, h137, h138, h139, h140, h141, h142⟩
            have hB143 : BD M M130 := BD.go hB0 hB131
            have kp144 : mI M130 24 = mI M 24 := kp_go rfl kp132
            have kp145 : mI M130 26 = mI M 26 := kp_go rfl kp133
            have kp146 : mI M130 27 = mI M 27 := kp_go rfl kp134
            have kp147 : mI M130 28 = mI M 28 := kp_go rfl kp135
            refine vc_zret dX4_readOne_190 rfl (by first | decide | omega) (Nat.le_of_ble_eq_true rfl) (Nat.le_of_ble_eq_true rfl) ?_
            exact ⟨_, rfl, hB143, kp144, kp145, kp146, kp147, by omega, by omega, by omega, by omega, by omega, Or.inr ⟨by omega, by omega, by rw [h141, h142]; first | exact r_two3 (by omega) (by omega) | exact r_par3 (by omega) (by omega) | exact r_neg3 (by omega) (by omega)⟩⟩
        · refine vc_aload_n dX4_readOne_164 rfl ?_
          refine vc_bipush dX4_readOne_165 rfl ?_
          refine vc_cVI dX4_readOne_167 (sfX4_isSignF (M := M) hB0.1  45 ) rfl okX4_isSign viX4_isSign lkX4_163 (s_22 hB0.1.1) cl_4 rfl (by show 0 < 11 + 3 * (nf + 1); omega) ⟨rfl, rfl⟩ (Nat.le_of_ble_eq_true rfl) (Nat.le_of_ble_eq_true rfl) (Nat.le_of_ble_eq_true rfl) ?_
          rintro x148 _ ⟨rfl, h149, h150, h151⟩
          refine vc_if_ne dX4_readOne_170 (fun h152 => ?_) (fun h152 => ?_)
          · refine vc_iload_n dX4_readOne_179 rfl ?_
            refine vc_bipush dX4_readOne_180 rfl ?_
            refine vc_icmp_lt dX4_readOne_182 (fun h153 => ?_) (fun h153 => ?_)
            · refine vc_aload_n dX4_readOne_191 rfl ?_
              refine vc_getI dX4_readOne_192 flX4_119 (s_22 hB0.1.1) rfl ?_
              refine vc_nameI (fun x154 ex154 => ?_)
              refine vc_istore_n dX4_readOne_195 (Nat.le_of_ble_eq_true rfl) rfl (show _ = [some (aR 22), some (aI d), some (aI 0), some (aI x154)] from rfl) ?_
              refine vc_aload_n dX4_readOne_196 rfl ?_
              refine vc_cVI dX4_readOne_197 (sfX4_takeTokenF (M := M) hB0.1  g n p hR (by omega)) rfl okX4_takeToken viX4_takeToken lkX4_65 (s_22 hB0.1.1) cl_4 rfl (by show 0 < 11 + 3 * (nf + 1); omega) ⟨rfl, rfl⟩ (Nat.le_of_ble_eq_true rfl) (Nat.le_of_ble_eq_true rfl) (Nat.le_of_ble_eq_true rfl) ?_
              rintro x155 M156 ⟨hB157, kp158, kp159, kp160, kp161, h162, h163, h164, h165, h166, h167⟩
              have hB168 : BD M M156 := BD.go hB0 hB157
              have kp169 : mI M156 24 = mI M 24 := kp_go rfl kp158
              have kp170 : mI M156 26 = mI M 26 := kp_go rfl kp159
              have kp171 : mI M156 27 = mI M 27 := kp_go rfl kp160
              have kp172 : mI M156 28 = mI M 28 := kp_go rfl kp161
              refine vc_pop dX4_readOne_200 rfl ?_
              refine vc_iload_n dX4_readOne_201 rfl ?_
              refine vc_if_eq dX4_readOne_202 (fun h173 => ?_) (fun h173 => by exfalso; omega)
              refine vc_iload_n dX4_readOne_280 rfl ?_
              refine vc_bipush dX4_readOne_281 rfl ?_
              refine vc_icmp_ne dX4_readOne_283 (fun h174 => ?_) (fun h174 => ?_)
              · have kt175 : ∀ o, Rn (tk g n) (nx g n) w (2 :: sk) false (nx g n p) o → Rn (tk g n) (nx g n) w sk false p o := fun o r => r_neg (by omega) (by omega) r
                refine vc_aload_n dX4_readOne_311 rfl ?_
                refine vc_iload_n dX4_readOne_312 rfl ?_
                refine vc_iconst dX4_readOne_313 rfl ?_
                refine vc_iaddE dX4_readOne_314 (by omega) (by omega) ?_
                refine vc_cVI dX4_readOne_315 (ho (M := M156) hB168.1  (d + 1) (by omega) (by omega) g n (nx g n p) h167 w (2 :: sk) (by first | (rw [List.length_cons]; omega) | omega) (by rw [show mI M156 22 14 = mI M 22 14 by omega]; exact hw) (by omega)) rfl (okX4_readOne (11 + 3 * nf)) (viX4_readOne (11 + 3 * nf)) (lkX4_179 (11 + 3 * nf)) (s_22 hB168.1.1) cl_4 rfl (by show (11 + 3 * nf) < 11 + 3 * (nf + 1); omega) ⟨rfl, rfl⟩ (Nat.le_of_ble_eq_true rfl) (Nat.le_of_ble_eq_true rfl) (Nat.le_of_ble_eq_true rfl) ?_
                rintro x176 M177 ⟨hB178, kp179, kp180, kp181, kp182, h183, h184, h185, h186, h187, h188⟩
                have hB189 : BD M M177 := BD.go hB168 hB178
                have kp190 : mI M177 24 = mI M 24 := kp_go kp169 kp179
                have kp191 : mI M177 26 = mI M 26 := kp_go kp170 kp180
                have kp192 : mI M177 27 = mI M 27 := kp_go kp171 kp181
                have kp193 : mI M177 28 = mI M 28 := kp_go kp172 kp182
                refine vc_if_eq dX4_readOne_318 (fun h194 => ?_) (fun h194 => ?_)
                · refine vc_iconst dX4_readOne_335 rfl ?_
                  refine vc_zret dX4_readOne_336 rfl (by first | decide | omega) (Nat.le_of_ble_eq_true rfl) (Nat.le_of_ble_eq_true rfl) ?_
                  exact ⟨_, rfl, hB189, kp190, kp191, kp192, kp193, by omega, by omega, by omega, by omega, by omega, Or.inr ⟨by omega, (LR.bad h188 (by omega)).1, kt175 _ (LR.bad h188 (by omega)).2⟩⟩
                · obtain ⟨q195, hl196, hR197, hE198, hk199⟩ := LR.ok h188 (by omega)
                  have kt200 : ∀ o, Rn (tk g n) (nx g n) w (dm sk) true q195 o → Rn (tk g n) (nx g n) w sk false p o := fun o r => kt175 o (hk199 o r)
                  refine vc_aload_n dX4_readOne_321 rfl ?_
                  refine vc_sipush dX4_readOne_322 rfl ?_
                  refine vc_cVI dX4_readOne_325 (sfX4_emitF (M := M177) hB189.1  g n q195 hR197 20006 ) rfl okX4_emit viX4_emit lkX4_176 (s_22 hB189.1.1) cl_4 rfl (by show 0 < 11 + 3 * (nf + 1); omega) ⟨rfl, rfl⟩ (Nat.le_of_ble_eq_true rfl) (Nat.le_of_ble_eq_true rfl) (Nat.le_of_ble_eq_true rfl) ?_
                  rintro x201 M202 ⟨hB203, kp204, kp205, kp206, kp207, h208, h209, h210, h211, h212, h213⟩
                  have hB214 : BD M M202 := BD.go hB189 hB203
                  have kp215 : mI M202 24 = mI M 24 := kp_go kp190 kp204
                  have kp216 : mI M202 26 = mI M 26 := kp_go kp191 kp205
                  have kp217 : mI M202 27 = mI M 27 := kp_go kp192 kp206
                  have kp218 : mI M202 28 = mI M 28 := kp_go kp193 kp207
                  refine vc_if_eq dX4_readOne_328 (fun h219 => by exfalso; omega) (fun h219 => ?_)
                  refine vc_iconst dX4_readOne_331 rfl ?_
                  refine vc_goto dX4_readOne_332 ?_
                  refine vc_zret dX4_readOne_336 rfl (by first | decide | omega) (Nat.le_of_ble_eq_true rfl) (Nat.le_of_ble_eq_true rfl) ?_
                  exact ⟨_, rfl, hB214, kp215, kp216, kp217, kp218, by omega, by omega, by omega, by omega, by omega, Or.inl ⟨by omega, q195, by omega, h213, trivial, kt200⟩⟩
              · have kt220 : ∀ o, Rn (tk g n) (nx g n) w (40 :: sk) false (nx g n p) o → Rn (tk g n) (nx g n) w sk false p o := fun o r => r_par (by omega) (by omega) r
                refine vc_aload_n dX4_readOne_286 rfl ?_
                refine vc_iload_n dX4_readOne_287 rfl ?_
                refine vc_iconst dX4_readOne_288 rfl ?_
                refine vc_iaddE dX4_readOne_289 (by omega) (by omega) ?_
                refine vc_cVI dX4_readOne_290 (hs (M := M156) hB168.1  (d + 1) (by omega) (by omega) g n (nx g n p) h167 w (40 :: sk) (by first | (rw [List.length_cons]; omega) | omega) rfl (by rw [show mI M156 22 14 = mI M 22 14 by omega]; exact hw) (by omega)) rfl (okX4_readSum (13 + 3 * nf)) (viX4_readSum (13 + 3 * nf)) (lkX4_132 (13 + 3 * nf)) (s_22 hB168.1.1) cl_4 rfl (by show (13 + 3 * nf) < 11 + 3 * (nf + 1); omega) ⟨rfl, rfl⟩ (Nat.le_of_ble_eq_true rfl) (Nat.le_of_ble_eq_true rfl) (Nat.le_of_ble_eq_true rfl) ?_
                rintro x221 M222 ⟨hB223, kp224, kp225, kp226, kp227, h228, h229, h230, h231, h232, h233⟩
                have hB234 : BD M M222 := BD.go hB168 hB223
                have kp235 : mI M222 24 = mI M 24 := kp_go kp169 kp224
                have kp236 : mI M222 26 = mI M 26 := kp_go kp170 kp225
                have kp237 : mI M222 27 = mI M 27 := kp_go kp171 kp226
                have kp238 : mI M222 28 = mI M 28 := kp_go kp172 kp227
                refine vc_if_eq dX4_readOne_293 (fun h239 => ?_) (fun h239 => ?_)
                · refine vc_iconst dX4_readOne_309 rfl ?_
                  refine vc_zret dX4_readOne_310 rfl (by first | decide | omega) (Nat.le_of_ble_eq_true rfl) (Nat.le_of_ble_eq_true rfl) ?_
                  exact ⟨_, rfl, hB234, kp235, kp236, kp237, kp238, by omega, by omega, by omega, by omega, by omega, Or.inr ⟨by omega, (LR.bad h233 (by omega)).1, kt220 _ (LR.bad h233 (by omega)).2⟩⟩
                · obtain ⟨q240, hl241, hR242, hE243, hk244⟩ := LR.ok h233 (by omega)
                  unfold EOp at hE243
                  have kt245 : ∀ o, Rn (tk g n) (nx g n) w (40 :: sk) true q240 o → Rn (tk g n) (nx g n) w sk false p o := fun o r => kt220 o (hk244 o r)
                  refine vc_aload_n dX4_readOne_296 rfl ?_
                  refine vc_bipush dX4_readOne_297 rfl ?_
                  refine vc_cVI dX4_readOne_299 (sfX4_readSignF (M := M222) hB234.1  g n q240 hR242 41 (by omega) (by omega)) rfl okX4_readSign viX4_readSign lkX4_141 (s_22 hB234.1.1) cl_4 rfl (by show 1 < 11 + 3 * (nf + 1); omega) ⟨rfl, rfl⟩ (Nat.le_of_ble_eq_true rfl) (Nat.le_of_ble_eq_true rfl) (Nat.le_of_ble_eq_true rfl) ?_
                  rintro x246 M247 ⟨hB248, kp249, kp250, kp251, kp252, h253, h254, h255, h256, h257, h258⟩
                  have hB259 : BD M M247 := BD.go hB234 hB248
                  have kp260 : mI M247 24 = mI M 24 := kp_go kp235 kp249
                  have kp261 : mI M247 26 = mI M 26 := kp_go kp236 kp250
                  have kp262 : mI M247 27 = mI M 27 := kp_go kp237 kp251
                  have kp263 : mI M247 28 = mI M 28 := kp_go kp238 kp252
                  refine vc_if_eq dX4_readOne_302 (fun h264 => ?_) (fun h264 => ?_)
                  · refine vc_iconst dX4_readOne_309 rfl ?_
                    refine vc_zret dX4_readOne_310 rfl (by first | decide | omega) (Nat.le_of_ble_eq_true rfl) (Nat.le_of_ble_eq_true rfl) ?_
                    have hb265 := TR.bad h258 (by omega)
                    exact ⟨_, rfl, hB259, kp260, kp261, kp262, kp263, by omega, by omega, by omega, by omega, by omega, Or.inr ⟨by omega, by omega, by rw [hb265.2.1, hb265.2.2]; exact kt245 _ (t_b40 hE243 (by omega))⟩⟩
                  · have e266 := TR.ok h258 (by omega)
                    have he267 := e266.1
                    have rg268 := RS.rg hR242
                    have kt269 : ∀ o, Rn (tk g n) (nx g n) w (dm sk) true (nx g n q240) o → Rn (tk g n) (nx g n) w sk false p o := fun o r => kt245 o (t_shut (by omega) r)
                    refine vc_iconst dX4_readOne_305 rfl ?_
                    refine vc_goto dX4_readOne_306 ?_
                    refine vc_zret dX4_readOne_310 rfl (by first | decide | omega) (Nat.le_of_ble_eq_true rfl) (Nat.le_of_ble_eq_true rfl) ?_
                    exact ⟨_, rfl, hB259, kp260, kp261, kp262, kp263, by omega, by omega, by omega, by omega, by omega, Or.inl ⟨by omega, nx g n q240, by omega, e266.2, trivial, kt269⟩⟩
            · refine vc_aload_n dX4_readOne_185 rfl ?_
              refine vc_iconst dX4_readOne_186 rfl ?_
              refine vc_cVI dX4_readOne_187 (sfX4_failedF (M := M) hB0.1  g n p hR 3 ) rfl okX4_failed viX4_failed lkX4_122 (s_22 hB0.1.1) cl_4 rfl (by show 0 < 11 + 3 * (nf + 1); omega) ⟨rfl, rfl⟩ (Nat.le_of_ble_eq_true rfl) (Nat.le_of_ble_eq_true rfl) (Nat.le_of_ble_eq_true rfl) ?_
              rintro x270 M271 ⟨hB272, kp273, kp274, kp275, kp276, h277, h278, h279, h280, h281, h282, h283⟩
              have hB284 : BD M M271 := BD.go hB0 hB272
              have kp285 : mI M271 24 = mI M 24 := kp_go rfl kp273
              have kp286 : mI M271 26 = mI M 26 := kp_go rfl kp274
              have kp287 : mI M271 27 = mI M 27 := kp_go rfl kp275
              have kp288 : mI M271 28 = mI M 28 := kp_go rfl kp276
              refine vc_zret dX4_readOne_190 rfl (by first | decide | omega) (Nat.le_of_ble_eq_true rfl) (Nat.le_of_ble_eq_true rfl) ?_
              exact ⟨_, rfl, hB284, kp285, kp286, kp287, kp288, by omega, by omega, by omega, by omega, by omega, Or.inr ⟨by omega, by omega, by rw [h282, h283]; first | exact r_two3 (by omega) (by omega) | exact r_par3 (by omega) (by omega) | exact r_neg3 (by omega) (by omega)⟩⟩
          · refine vc_aload_n dX4_readOne_173 rfl ?_
            refine vc_iconst dX4_readOne_174 rfl ?_
            refine vc_cVI dX4_readOne_175 (sfX4_failedF (M := M) hB0.1  g n p hR 1 ) rfl okX4_failed viX4_failed lkX4_122 (s_22 hB0.1.1) cl_4 rfl (by show 0 < 11 + 3 * (nf + 1); omega) ⟨rfl, rfl⟩ (Nat.le_of_ble_eq_true rfl) (Nat.le_of_ble_eq_true rfl) (Nat.le_of_ble_eq_true rfl) ?_
            rintro x289 M290 ⟨hB291, kp292, kp293, kp294, kp295, h296, h297, h298, h299, h300, h301, h302⟩
            have hB303 : BD M M290 := BD.go hB0 hB291
            have kp304 : mI M290 24 = mI M 24 := kp_go rfl kp292
            have kp305 : mI M290 26 = mI M 26 := kp_go rfl kp293
            have kp306 : mI M290 27 = mI M 27 := kp_go rfl kp294
            have kp307 : mI M290 28 = mI M 28 := kp_go rfl kp295
            refine vc_zret dX4_readOne_178 rfl (by first | decide | omega) (Nat.le_of_ble_eq_true rfl) (Nat.le_of_ble_eq_true rfl) ?_
            exact ⟨_, rfl, hB303, kp304, kp305, kp306, kp307, by omega, by omega, by omega, by omega, by omega, Or.inr ⟨by omega, by omega, by rw [h301, h302]; exact r_no (by omega) (by omega) (by omega) (by omega) (by omega)⟩⟩
      · refine vc_aload_n dX4_readOne_127 rfl ?_
        refine vc_getI dX4_readOne_128 flX4_119 (s_22 hB0.1.1) rfl ?_
        refine vc_bipush dX4_readOne_131 rfl ?_
        refine vc_icmp_eq dX4_readOne_133 (fun h308 => ?_) (fun h308 => ?_)
        · refine vc_iconst dX4_readOne_145 rfl ?_
          refine vc_goto dX4_readOne_146 ?_
          refine vc_istore_n dX4_readOne_150 (Nat.le_of_ble_eq_true rfl) rfl (show _ = [some (aR 22), some (aI d), some (aI 1), none] from rfl) ?_
          refine vc_iload_n dX4_readOne_151 rfl ?_
          refine vc_if_ne dX4_readOne_152 (fun h309 => ?_) (fun h309 => by exfalso; omega)
          refine vc_iload_n dX4_readOne_179 rfl ?_
          refine vc_bipush dX4_readOne_180 rfl ?_
          refine vc_icmp_lt dX4_readOne_182 (fun h310 => ?_) (fun h310 => ?_)
          · refine vc_aload_n dX4_readOne_191 rfl ?_
            refine vc_getI dX4_readOne_192 flX4_119 (s_22 hB0.1.1) rfl ?_
            refine vc_nameI (fun x311 ex311 => ?_)
            refine vc_istore_n dX4_readOne_195 (Nat.le_of_ble_eq_true rfl) rfl (show _ = [some (aR 22), some (aI d), some (aI 1), some (aI x311)] from rfl) ?_
            refine vc_aload_n dX4_readOne_196 rfl ?_
            refine vc_cVI dX4_readOne_197 (sfX4_takeTokenF (M := M) hB0.1  g n p hR (by omega)) rfl okX4_takeToken viX4_takeToken lkX4_65 (s_22 hB0.1.1) cl_4 rfl (by show 0 < 11 + 3 * (nf + 1); omega) ⟨rfl, rfl⟩ (Nat.le_of_ble_eq_true rfl) (Nat.le_of_ble_eq_true rfl) (Nat.le_of_ble_eq_true rfl) ?_
            rintro x312 M313 ⟨hB314, kp315, kp316, kp317, kp318, h319, h320, h321, h322, h323, h324⟩
            have hB325 : BD M M313 := BD.go hB0 hB314
            have kp326 : mI M313 24 = mI M 24 := kp_go rfl kp315
            have kp327 : mI M313 26 = mI M 26 := kp_go rfl kp316
            have kp328 : mI M313 27 = mI M 27 := kp_go rfl kp317
            have kp329 : mI M313 28 = mI M 28 := kp_go rfl kp318
            refine vc_pop dX4_readOne_200 rfl ?_
            refine vc_iload_n dX4_readOne_201 rfl ?_
            refine vc_if_eq dX4_readOne_202 (fun h330 => by exfalso; omega) (fun h330 => ?_)
            refine vc_aload_n dX4_readOne_205 rfl ?_
            refine vc_bipush dX4_readOne_206 rfl ?_
            refine vc_cVI dX4_readOne_208 (sfX4_readWordF (M := M313) hB325.1  g n (nx g n p) h324 19 (by omega) (by omega)) rfl okX4_readWord viX4_readWord lkX4_151 (s_22 hB325.1.1) cl_4 rfl (by show 1 < 11 + 3 * (nf + 1); omega) ⟨rfl, rfl⟩ (Nat.le_of_ble_eq_true rfl) (Nat.le_of_ble_eq_true rfl) (Nat.le_of_ble_eq_true rfl) ?_
            rintro x331 M332 ⟨hB333, kp334, kp335, kp336, kp337, h338, h339, h340, h341, h342, h343⟩
            have hB344 : BD M M332 := BD.go hB325 hB333
            have kp345 : mI M332 24 = mI M 24 := kp_go kp326 kp334
            have kp346 : mI M332 26 = mI M 26 := kp_go kp327 kp335
            have kp347 : mI M332 27 = mI M 27 := kp_go kp328 kp336
            have kp348 : mI M332 28 = mI M 28 := kp_go kp329 kp337
            refine vc_if_eq dX4_readOne_211 (fun h349 => ?_) (fun h349 => ?_)
            · refine vc_iconst dX4_readOne_278 rfl ?_
              refine vc_zret dX4_readOne_279 rfl (by first | decide | omega) (Nat.le_of_ble_eq_true rfl) (Nat.le_of_ble_eq_true rfl) ?_
              have hb350 := TR.bad h343 (by omega)
              exact ⟨_, rfl, hB344, kp345, kp346, kp347, kp348, by omega, by omega, by omega, by omega, by omega, Or.inr ⟨by omega, by omega, by rw [hb350.2.1, hb350.2.2]; exact r_two1 (by omega) (by omega) (by omega)⟩⟩
            · have e351 := TR.ok h343 (by omega)
              have he352 := e351.1
              have rg353 := RS.rg h324
              have kt354 : ∀ o, Rn (tk g n) (nx g n) w (41 :: sk) false (nx g n (nx g n p)) o → Rn (tk g n) (nx g n) w sk false p o := fun o r => r_two (by omega) (by omega) (by omega) r
              refine vc_aload_n dX4_readOne_214 rfl ?_
              refine vc_iload_n dX4_readOne_215 rfl ?_
              refine vc_iconst dX4_readOne_216 rfl ?_
              refine vc_iaddE dX4_readOne_217 (by omega) (by omega) ?_
              refine vc_cVI dX4_readOne_218 (hs (M := M332) hB344.1  (d + 1) (by omega) (by omega) g n (nx g n (nx g n p)) e351.2 w (41 :: sk) (by first | (rw [List.length_cons]; omega) | omega) rfl (by rw [show mI M332 22 14 = mI M 22 14 by omega]; exact hw) (by omega)) rfl (okX4_readSum (13 + 3 * nf)) (viX4_readSum (13 + 3 * nf)) (lkX4_132 (13 + 3 * nf)) (s_22 hB344.1.1) cl_4 rfl (by show (13 + 3 * nf) < 11 + 3 * (nf + 1); omega) ⟨rfl, rfl⟩ (Nat.le_of_ble_eq_true rfl) (Nat.le_of_ble_eq_true rfl) (Nat.le_of_ble_eq_true rfl) ?_
              rintro x355 M356 ⟨hB357, kp358, kp359, kp360, kp361, h362, h363, h364, h365, h366, h367⟩
              have hB368 : BD M M356 := BD.go hB344 hB357
              have kp369 : mI M356 24 = mI M 24 := kp_go kp345 kp358
              have kp370 : mI M356 26 = mI M 26 := kp_go kp346 kp359
              have kp371 : mI M356 27 = mI M 27 := kp_go kp347 kp360
              have kp372 : mI M356 28 = mI M 28 := kp_go kp348 kp361
              refine vc_if_eq dX4_readOne_221 (fun h373 => ?_) (fun h373 => ?_)
              · refine vc_iconst dX4_readOne_278 rfl ?_
                refine vc_zret dX4_readOne_279 rfl (by first | decide | omega) (Nat.le_of_ble_eq_true rfl) (Nat.le_of_ble_eq_true rfl) ?_
                exact ⟨_, rfl, hB368, kp369, kp370, kp371, kp372, by omega, by omega, by omega, by omega, by omega, Or.inr ⟨by omega, (LR.bad h367 (by omega)).1, kt354 _ (LR.bad h367 (by omega)).2⟩⟩
              · obtain ⟨q374, hl375, hR376, hE377, hk378⟩ := LR.ok h367 (by omega)
                unfold EOp at hE377
                have kt379 : ∀ o, Rn (tk g n) (nx g n) w (41 :: sk) true q374 o → Rn (tk g n) (nx g n) w sk false p o := fun o r => kt354 o (hk378 o r)
                refine vc_aload_n dX4_readOne_224 rfl ?_
                refine vc_bipush dX4_readOne_225 rfl ?_
                refine vc_cVI dX4_readOne_227 (sfX4_readSignF (M := M356) hB368.1  g n q374 hR376 44 (by omega) (by omega)) rfl okX4_readSign viX4_readSign lkX4_141 (s_22 hB368.1.1) cl_4 rfl (by show 1 < 11 + 3 * (nf + 1); omega) ⟨rfl, rfl⟩ (Nat.le_of_ble_eq_true rfl) (Nat.le_of_ble_eq_true rfl) (Nat.le_of_ble_eq_true rfl) ?_
                rintro x380 M381 ⟨hB382, kp383, kp384, kp385, kp386, h387, h388, h389, h390, h391, h392⟩
                have hB393 : BD M M381 := BD.go hB368 hB382
                have kp394 : mI M381 24 = mI M 24 := kp_go kp369 kp383
                have kp395 : mI M381 26 = mI M 26 := kp_go kp370 kp384
                have kp396 : mI M381 27 = mI M 27 := kp_go kp371 kp385
                have kp397 : mI M381 28 = mI M 28 := kp_go kp372 kp386
                refine vc_if_eq dX4_readOne_230 (fun h398 => ?_) (fun h398 => ?_)
                · refine vc_iconst dX4_readOne_278 rfl ?_
                  refine vc_zret dX4_readOne_279 rfl (by first | decide | omega) (Nat.le_of_ble_eq_true rfl) (Nat.le_of_ble_eq_true rfl) ?_
                  have hb399 := TR.bad h392 (by omega)
                  exact ⟨_, rfl, hB393, kp394, kp395, kp396, kp397, by omega, by omega, by omega, by omega, by omega, Or.inr ⟨by omega, by omega, by rw [hb399.2.1, hb399.2.2]; exact kt379 _ (t_b41 hE377 (by omega))⟩⟩
                · have e400 := TR.ok h392 (by omega)
                  have he401 := e400.1
                  have rg402 := RS.rg hR376
                  have kt403 : ∀ o, Rn (tk g n) (nx g n) w (42 :: sk) false (nx g n q374) o → Rn (tk g n) (nx g n) w sk false p o := fun o r => kt379 o (t_com (by omega) r)
                  refine vc_aload_n dX4_readOne_233 rfl ?_
                  refine vc_iload_n dX4_readOne_234 rfl ?_
                  refine vc_iconst dX4_readOne_235 rfl ?_
                  refine vc_iaddE dX4_readOne_236 (by omega) (by omega) ?_
                  refine vc_cVI dX4_readOne_237 (hs (M := M381) hB393.1  (d + 1) (by omega) (by omega) g n (nx g n q374) e400.2 w (42 :: sk) (by first | (rw [List.length_cons]; omega) | omega) rfl (by rw [show mI M381 22 14 = mI M 22 14 by omega]; exact hw) (by omega)) rfl (okX4_readSum (13 + 3 * nf)) (viX4_readSum (13 + 3 * nf)) (lkX4_132 (13 + 3 * nf)) (s_22 hB393.1.1) cl_4 rfl (by show (13 + 3 * nf) < 11 + 3 * (nf + 1); omega) ⟨rfl, rfl⟩ (Nat.le_of_ble_eq_true rfl) (Nat.le_of_ble_eq_true rfl) (Nat.le_of_ble_eq_true rfl) ?_
                  rintro x404 M405 ⟨hB406, kp407, kp408, kp409, kp410, h411, h412, h413, h414, h415, h416⟩
                  have hB417 : BD M M405 := BD.go hB393 hB406
                  have kp418 : mI M405 24 = mI M 24 := kp_go kp394 kp407
                  have kp419 : mI M405 26 = mI M 26 := kp_go kp395 kp408
                  have kp420 : mI M405 27 = mI M 27 := kp_go kp396 kp409
                  have kp421 : mI M405 28 = mI M 28 := kp_go kp397 kp410
                  refine vc_if_eq dX4_readOne_240 (fun h422 => ?_) (fun h422 => ?_)
                  · refine vc_iconst dX4_readOne_278 rfl ?_
                    refine vc_zret dX4_readOne_279 rfl (by first | decide | omega) (Nat.le_of_ble_eq_true rfl) (Nat.le_of_ble_eq_true rfl) ?_
                    exact ⟨_, rfl, hB417, kp418, kp419, kp420, kp421, by omega, by omega, by omega, by omega, by omega, Or.inr ⟨by omega, (LR.bad h416 (by omega)).1, kt403 _ (LR.bad h416 (by omega)).2⟩⟩
                  · obtain ⟨q423, hl424, hR425, hE426, hk427⟩ := LR.ok h416 (by omega)
                    unfold EOp at hE426
                    have kt428 : ∀ o, Rn (tk g n) (nx g n) w (42 :: sk) true q423 o → Rn (tk g n) (nx g n) w sk false p o := fun o r => kt403 o (hk427 o r)
                    refine vc_aload_n dX4_readOne_243 rfl ?_
                    refine vc_bipush dX4_readOne_244 rfl ?_
                    refine vc_cVI dX4_readOne_246 (sfX4_readWordF (M := M405) hB417.1  g n q423 hR425 20 (by omega) (by omega)) rfl okX4_readWord viX4_readWord lkX4_151 (s_22 hB417.1.1) cl_4 rfl (by show 1 < 11 + 3 * (nf + 1); omega) ⟨rfl, rfl⟩ (Nat.le_of_ble_eq_true rfl) (Nat.le_of_ble_eq_true rfl) (Nat.le_of_ble_eq_true rfl) ?_
                    rintro x429 M430 ⟨hB431, kp432, kp433, kp434, kp435, h436, h437, h438, h439, h440, h441⟩
                    have hB442 : BD M M430 := BD.go hB417 hB431
                    have kp443 : mI M430 24 = mI M 24 := kp_go kp418 kp432
                    have kp444 : mI M430 26 = mI M 26 := kp_go kp419 kp433
                    have kp445 : mI M430 27 = mI M 27 := kp_go kp420 kp434
                    have kp446 : mI M430 28 = mI M 28 := kp_go kp421 kp435
                    refine vc_if_eq dX4_readOne_249 (fun h447 => ?_) (fun h447 => ?_)
                    · refine vc_iconst dX4_readOne_278 rfl ?_
                      refine vc_zret dX4_readOne_279 rfl (by first | decide | omega) (Nat.le_of_ble_eq_true rfl) (Nat.le_of_ble_eq_true rfl) ?_
                      have hb448 := TR.bad h441 (by omega)
                      exact ⟨_, rfl, hB442, kp443, kp444, kp445, kp446, by omega, by omega, by omega, by omega, by omega, Or.inr ⟨by omega, by omega, by rw [hb448.2.1, hb448.2.2]; exact kt428 _ (t_b42 hE426 (by omega))⟩⟩
                    · have e449 := TR.ok h441 (by omega)
                      have he450 := e449.1
                      have rg451 := RS.rg hR425
                      have kt452 : ∀ o, Rn (tk g n) (nx g n) w (dm sk) true (nx g n q423) o → Rn (tk g n) (nx g n) w sk false p o := fun o r => kt428 o (t_end (by omega) r)
                      refine vc_aload_n dX4_readOne_252 rfl ?_
                      refine vc_iload_n dX4_readOne_253 rfl ?_
                      refine vc_bipush dX4_readOne_254 rfl ?_
                      refine vc_icmp_ne dX4_readOne_256 (fun h453 => by exfalso; omega) (fun h453 => ?_)
                      refine vc_sipush dX4_readOne_259 rfl ?_
                      refine vc_goto dX4_readOne_262 ?_
                      refine vc_cVI dX4_readOne_268 (sfX4_emitF (M := M430) hB442.1  g n (nx g n q423) e449.2 20004 ) rfl okX4_emit viX4_emit lkX4_176 (s_22 hB442.1.1) cl_4 rfl (by show 0 < 11 + 3 * (nf + 1); omega) ⟨rfl, rfl⟩ (Nat.le_of_ble_eq_true rfl) (Nat.le_of_ble_eq_true rfl) (Nat.le_of_ble_eq_true rfl) ?_
                      rintro x454 M455 ⟨hB456, kp457, kp458, kp459, kp460, h461, h462, h463, h464, h465, h466⟩
                      have hB467 : BD M M455 := BD.go hB442 hB456
                      have kp468 : mI M455 24 = mI M 24 := kp_go kp443 kp457
                      have kp469 : mI M455 26 = mI M 26 := kp_go kp444 kp458
                      have kp470 : mI M455 27 = mI M 27 := kp_go kp445 kp459
                      have kp471 : mI M455 28 = mI M 28 := kp_go kp446 kp460
                      refine vc_if_eq dX4_readOne_271 (fun h472 => by exfalso; omega) (fun h472 => ?_)
                      refine vc_iconst dX4_readOne_274 rfl ?_
                      refine vc_goto dX4_readOne_275 ?_
                      refine vc_zret dX4_readOne_279 rfl (by first | decide | omega) (Nat.le_of_ble_eq_true rfl) (Nat.le_of_ble_eq_true rfl) ?_
                      exact ⟨_, rfl, hB467, kp468, kp469, kp470, kp471, by omega, by omega, by omega, by omega, by omega, Or.inl ⟨by omega, nx g n q423, by omega, h466, trivial, kt452⟩⟩
          · refine vc_aload_n dX4_readOne_185 rfl ?_
            refine vc_iconst dX4_readOne_186 rfl ?_
            refine vc_cVI dX4_readOne_187 (sfX4_failedF (M := M) hB0.1  g n p hR 3 ) rfl okX4_failed viX4_failed lkX4_122 (s_22 hB0.1.1) cl_4 rfl (by show 0 < 11 + 3 * (nf + 1); omega) ⟨rfl, rfl⟩ (Nat.le_of_ble_eq_true rfl) (Nat.le_of_ble_eq_true rfl) (Nat.le_of_ble_eq_true rfl) ?_
            rintro x473 M474 ⟨hB475, kp476, kp477, kp478, kp479, h480, h481, h482, h483, h484, h485, h486⟩
            have hB487 : BD M M474 := BD.go hB0 hB475
            have kp488 : mI M474 24 = mI M 24 := kp_go rfl kp476
            have kp489 : mI M474 26 = mI M 26 := kp_go rfl kp477
            have kp490 : mI M474 27 = mI M 27 := kp_go rfl kp478
            have kp491 : mI M474 28 = mI M 28 := kp_go rfl kp479
            refine vc_zret dX4_readOne_190 rfl (by first | decide | omega) (Nat.le_of_ble_eq_true rfl) (Nat.le_of_ble_eq_true rfl) ?_
            exact ⟨_, rfl, hB487, kp488, kp489, kp490, kp491, by omega, by omega, by omega, by omega, by omega, Or.inr ⟨by omega, by omega, by rw [h485, h486]; first | exact r_two3 (by omega) (by omega) | exact r_par3 (by omega) (by omega) | exact r_neg3 (by omega) (by omega)⟩⟩
        · refine vc_aload_n dX4_readOne_136 rfl ?_
          refine vc_getI dX4_readOne_137 flX4_119 (s_22 hB0.1.1) rfl ?_
          refine vc_bipush dX4_readOne_140 rfl ?_
          refine vc_icmp_ne dX4_readOne_142 (fun h492 => ?_) (fun h492 => ?_)
          · refine vc_iconst dX4_readOne_149 rfl ?_
            refine vc_istore_n dX4_readOne_150 (Nat.le_of_ble_eq_true rfl) rfl (show _ = [some (aR 22), some (aI d), some (aI 0), none] from rfl) ?_
            refine vc_iload_n dX4_readOne_151 rfl ?_
            refine vc_if_ne dX4_readOne_152 (fun h493 => by exfalso; omega) (fun h493 => ?_)
            refine vc_aload_n dX4_readOne_155 rfl ?_
            refine vc_bipush dX4_readOne_156 rfl ?_
            refine vc_cVI dX4_readOne_158 (sfX4_isSignF (M := M) hB0.1  40 ) rfl okX4_isSign viX4_isSign lkX4_163 (s_22 hB0.1.1) cl_4 rfl (by show 0 < 11 + 3 * (nf + 1); omega) ⟨rfl, rfl⟩ (Nat.le_of_ble_eq_true rfl) (Nat.le_of_ble_eq_true rfl) (Nat.le_of_ble_eq_true rfl) ?_
            rintro x494 _ ⟨rfl, h495, h496, h497⟩
            refine vc_if_ne dX4_readOne_161 (fun h498 => ?_) (fun h498 => ?_)
            · refine vc_iload_n dX4_readOne_179 rfl ?_
              refine vc_bipush dX4_readOne_180 rfl ?_
              refine vc_icmp_lt dX4_readOne_182 (fun h499 => ?_) (fun h499 => ?_)
              · refine vc_aload_n dX4_readOne_191 rfl ?_
                refine vc_getI dX4_readOne_192 flX4_119 (s_22 hB0.1.1) rfl ?_
                refine vc_nameI (fun x500 ex500 => ?_)
                refine vc_istore_n dX4_readOne_195 (Nat.le_of_ble_eq_true rfl) rfl (show _ = [some (aR 22), some (aI d), some (aI 0), some (aI x500)] from rfl) ?_
                refine vc_aload_n dX4_readOne_196 rfl ?_
                refine vc_cVI dX4_readOne_197 (sfX4_takeTokenF (M := M) hB0.1  g n p hR (by omega)) rfl okX4_takeToken viX4_takeToken lkX4_65 (s_22 hB0.1.1) cl_4 rfl (by show 0 < 11 + 3 * (nf + 1); omega) ⟨rfl, rfl⟩ (Nat.le_of_ble_eq_true rfl) (Nat.le_of_ble_eq_true rfl) (Nat.le_of_ble_eq_true rfl) ?_
                rintro x501 M502 ⟨hB503, kp504, kp505, kp506, kp507, h508, h509, h510, h511, h512, h513⟩
                have hB514 : BD M M502 := BD.go hB0 hB503
                have kp515 : mI M502 24 = mI M 24 := kp_go rfl kp504
                have kp516 : mI M502 26 = mI M 26 := kp_go rfl kp505
                have kp517 : mI M502 27 = mI M 27 := kp_go rfl kp506
                have kp518 : mI M502 28 = mI M 28 := kp_go rfl kp507
                refine vc_pop dX4_readOne_200 rfl ?_
                refine vc_iload_n dX4_readOne_201 rfl ?_
                refine vc_if_eq dX4_readOne_202 (fun h519 => ?_) (fun h519 => by exfalso; omega)
                refine vc_iload_n dX4_readOne_280 rfl ?_
                refine vc_bipush dX4_readOne_281 rfl ?_
                refine vc_icmp_ne dX4_readOne_283 (fun h520 => ?_) (fun h520 => ?_)
                · have kt521 : ∀ o, Rn (tk g n) (nx g n) w (2 :: sk) false (nx g n p) o → Rn (tk g n) (nx g n) w sk false p o := fun o r => r_neg (by omega) (by omega) r
                  refine vc_aload_n dX4_readOne_311 rfl ?_
                  refine vc_iload_n dX4_readOne_312 rfl ?_
                  refine vc_iconst dX4_readOne_313 rfl ?_
                  refine vc_iaddE dX4_readOne_314 (by omega) (by omega) ?_
                  refine vc_cVI dX4_readOne_315 (ho (M := M502) hB514.1  (d + 1) (by omega) (by omega) g n (nx g n p) h513 w (2 :: sk) (by first | (rw [List.length_cons]; omega) | omega) (by rw [show mI M502 22 14 = mI M 22 14 by omega]; exact hw) (by omega)) rfl (okX4_readOne (11 + 3 * nf)) (viX4_readOne (11 + 3 * nf)) (lkX4_179 (11 + 3 * nf)) (s_22 hB514.1.1) cl_4 rfl (by show (11 + 3 * nf) < 11 + 3 * (nf + 1); omega) ⟨rfl, rfl⟩ (Nat.le_of_ble_eq_true rfl) (Nat.le_of_ble_eq_true rfl) (Nat.le_of_ble_eq_true rfl) ?_
                  rintro x522 M523 ⟨hB524, kp525, kp526, kp527, kp528, h529, h530, h531, h532, h533, h534⟩
                  have hB535 : BD M M523 := BD.go hB514 hB524
                  have kp536 : mI M523 24 = mI M 24 := kp_go kp515 kp525
                  have kp537 : mI M523 26 = mI M 26 := kp_go kp516 kp526
                  have kp538 : mI M523 27 = mI M 27 := kp_go kp517 kp527
                  have kp539 : mI M523 28 = mI M 28 := kp_go kp518 kp528
                  refine vc_if_eq dX4_readOne_318 (fun h540 => ?_) (fun h540 => ?_)
                  · refine vc_iconst dX4_readOne_335 rfl ?_
                    refine vc_zret dX4_readOne_336 rfl (by first | decide | omega) (Nat.le_of_ble_eq_true rfl) (Nat.le_of_ble_eq_true rfl) ?_
                    exact ⟨_, rfl, hB535, kp536, kp537, kp538, kp539, by omega, by omega, by omega, by omega, by omega, Or.inr ⟨by omega, (LR.bad h534 (by omega)).1, kt521 _ (LR.bad h534 (by omega)).2⟩⟩
                  · obtain ⟨q541, hl542, hR543, hE544, hk545⟩ := LR.ok h534 (by omega)
                    have kt546 : ∀ o, Rn (tk g n) (nx g n) w (dm sk) true q541 o → Rn (tk g n) (nx g n) w sk false p o := fun o r => kt521 o (hk545 o r)
                    refine vc_aload_n dX4_readOne_321 rfl ?_
                    refine vc_sipush dX4_readOne_322 rfl ?_
                    refine vc_cVI dX4_readOne_325 (sfX4_emitF (M := M523) hB535.1  g n q541 hR543 20006 ) rfl okX4_emit viX4_emit lkX4_176 (s_22 hB535.1.1) cl_4 rfl (by show 0 < 11 + 3 * (nf + 1); omega) ⟨rfl, rfl⟩ (Nat.le_of_ble_eq_true rfl) (Nat.le_of_ble_eq_true rfl) (Nat.le_of_ble_eq_true rfl) ?_
                    rintro x547 M548 ⟨hB549, kp550, kp551, kp552, kp553, h554, h555, h556, h557, h558, h559⟩
                    have hB560 : BD M M548 := BD.go hB535 hB549
                    have kp561 : mI M548 24 = mI M 24 := kp_go kp536 kp550
                    have kp562 : mI M548 26 = mI M 26 := kp_go kp537 kp551
                    have kp563 : mI M548 27 = mI M 27 := kp_go kp538 kp552
                    have kp564 : mI M548 28 = mI M 28 := kp_go kp539 kp553
                    refine vc_if_eq dX4_readOne_328 (fun h565 => by exfalso; omega) (fun h565 => ?_)
                    refine vc_iconst dX4_readOne_331 rfl ?_
                    refine vc_goto dX4_readOne_332 ?_
                    refine vc_zret dX4_readOne_336 rfl (by first | decide | omega) (Nat.le_of_ble_eq_true rfl) (Nat.le_of_ble_eq_true rfl) ?_
                    exact ⟨_, rfl, hB560, kp561, kp562, kp563, kp564, by omega, by omega, by omega, by omega, by omega, Or.inl ⟨by omega, q541, by omega, h559, trivial, kt546⟩⟩
                · have kt566 : ∀ o, Rn (tk g n) (nx g n) w (40 :: sk) false (nx g n p) o → Rn (tk g n) (nx g n) w sk false p o := fun o r => r_par (by omega) (by omega) r
                  refine vc_aload_n dX4_readOne_286 rfl ?_
                  refine vc_iload_n dX4_readOne_287 rfl ?_
                  refine vc_iconst dX4_readOne_288 rfl ?_
                  refine vc_iaddE dX4_readOne_289 (by omega) (by omega) ?_
                  refine vc_cVI dX4_readOne_290 (hs (M := M502) hB514.1  (d + 1) (by omega) (by omega) g n (nx g n p) h513 w (40 :: sk) (by first | (rw [List.length_cons]; omega) | omega) rfl (by rw [show mI M502 22 14 = mI M 22 14 by omega]; exact hw) (by omega)) rfl (okX4_readSum (13 + 3 * nf)) (viX4_readSum (13 + 3 * nf)) (lkX4_132 (13 + 3 * nf)) (s_22 hB514.1.1) cl_4 rfl (by show (13 + 3 * nf) < 11 + 3 * (nf + 1); omega) ⟨rfl, rfl⟩ (Nat.le_of_ble_eq_true rfl) (Nat.le_of_ble_eq_true rfl) (Nat.le_of_ble_eq_true rfl) ?_
                  rintro x567 M568 ⟨hB569, kp570, kp571, kp572, kp573, h574, h575, h576, h577, h578, h579⟩
                  have hB580 : BD M M568 := BD.go hB514 hB569
                  have kp581 : mI M568 24 = mI M 24 := kp_go kp515 kp570
                  have kp582 : mI M568 26 = mI M 26 := kp_go kp516 kp571
                  have kp583 : mI M568 27 = mI M 27 := kp_go kp517 kp572
                  have kp584 : mI M568 28 = mI M 28 := kp_go kp518 kp573
                  refine vc_if_eq dX4_readOne_293 (fun h585 => ?_) (fun h585 => ?_)
                  · refine vc_iconst dX4_readOne_309 rfl ?_
                    refine vc_zret dX4_readOne_310 rfl (by first | decide | omega) (Nat.le_of_ble_eq_true rfl) (Nat.le_of_ble_eq_true rfl) ?_
                    exact ⟨_, rfl, hB580, kp581, kp582, kp583, kp584, by omega, by omega, by omega, by omega, by omega, Or.inr ⟨by omega, (LR.bad h579 (by omega)).1, kt566 _ (LR.bad h579 (by omega)).2⟩⟩
                  · obtain ⟨q586, hl587, hR588, hE589, hk590⟩ := LR.ok h579 (by omega)
                    unfold EOp at hE589
                    have kt591 : ∀ o, Rn (tk g n) (nx g n) w (40 :: sk) true q586 o → Rn (tk g n) (nx g n) w sk false p o := fun o r => kt566 o (hk590 o r)
                    refine vc_aload_n dX4_readOne_296 rfl ?_
                    refine vc_bipush dX4_readOne_297 rfl ?_
                    refine vc_cVI dX4_readOne_299 (sfX4_readSignF (M := M568) hB580.1  g n q586 hR588 41 (by omega) (by omega)) rfl okX4_readSign viX4_readSign lkX4_141 (s_22 hB580.1.1) cl_4 rfl (by show 1 < 11 + 3 * (nf + 1); omega) ⟨rfl, rfl⟩ (Nat.le_of_ble_eq_true rfl) (Nat.le_of_ble_eq_true rfl) (Nat.le_of_ble_eq_true rfl) ?_
                    rintro x592 M593 ⟨hB594, kp595, kp596, kp597, kp598, h599, h600, h601, h602, h603, h604⟩
                    have hB605 : BD M M593 := BD.go hB580 hB594
                    have kp606 : mI M593 24 = mI M 24 := kp_go kp581 kp595
                    have kp607 : mI M593 26 = mI M 26 := kp_go kp582 kp596
                    have kp608 : mI M593 27 = mI M 27 := kp_go kp583 kp597
                    have kp609 : mI M593 28 = mI M 28 := kp_go kp584 kp598
                    refine vc_if_eq dX4_readOne_302 (fun h610 => ?_) (fun h610 => ?_)
                    · refine vc_iconst dX4_readOne_309 rfl ?_
                      refine vc_zret dX4_readOne_310 rfl (by first | decide | omega) (Nat.le_of_ble_eq_true rfl) (Nat.le_of_ble_eq_true rfl) ?_
                      have hb611 := TR.bad h604 (by omega)
                      exact ⟨_, rfl, hB605, kp606, kp607, kp608, kp609, by omega, by omega, by omega, by omega, by omega, Or.inr ⟨by omega, by omega, by rw [hb611.2.1, hb611.2.2]; exact kt591 _ (t_b40 hE589 (by omega))⟩⟩
                    · have e612 := TR.ok h604 (by omega)
                      have he613 := e612.1
                      have rg614 := RS.rg hR588
                      have kt615 : ∀ o, Rn (tk g n) (nx g n) w (dm sk) true (nx g n q586) o → Rn (tk g n) (nx g n) w sk false p o := fun o r => kt591 o (t_shut (by omega) r)
                      refine vc_iconst dX4_readOne_305 rfl ?_
                      refine vc_goto dX4_readOne_306 ?_
                      refine vc_zret dX4_readOne_310 rfl (by first | decide | omega) (Nat.le_of_ble_eq_true rfl) (Nat.le_of_ble_eq_true rfl) ?_
                      exact ⟨_, rfl, hB605, kp606, kp607, kp608, kp609, by omega, by omega, by omega, by omega, by omega, Or.inl ⟨by omega, nx g n q586, by omega, e612.2, trivial, kt615⟩⟩
              · refine vc_aload_n dX4_readOne_185 rfl ?_
                refine vc_iconst dX4_readOne_186 rfl ?_
                refine vc_cVI dX4_readOne_187 (sfX4_failedF (M := M) hB0.1  g n p hR 3 ) rfl okX4_failed viX4_failed lkX4_122 (s_22 hB0.1.1) cl_4 rfl (by show 0 < 11 + 3 * (nf + 1); omega) ⟨rfl, rfl⟩ (Nat.le_of_ble_eq_true rfl) (Nat.le_of_ble_eq_true rfl) (Nat.le_of_ble_eq_true rfl) ?_
                rintro x616 M617 ⟨hB618, kp619, kp620, kp621, kp622, h623, h624, h625, h626, h627, h628, h629⟩
                have hB630 : BD M M617 := BD.go hB0 hB618
                have kp631 : mI M617 24 = mI M 24 := kp_go rfl kp619
                have kp632 : mI M617 26 = mI M 26 := kp_go rfl kp620
                have kp633 : mI M617 27 = mI M 27 := kp_go rfl kp621
                have kp634 : mI M617 28 = mI M 28 := kp_go rfl kp622
                refine vc_zret dX4_readOne_190 rfl (by first | decide | omega) (Nat.le_of_ble_eq_true rfl) (Nat.le_of_ble_eq_true rfl) ?_
                exact ⟨_, rfl, hB630, kp631, kp632, kp633, kp634, by omega, by omega, by omega, by omega, by omega, Or.inr ⟨by omega, by omega, by rw [h628, h629]; first | exact r_two3 (by omega) (by omega) | exact r_par3 (by omega) (by omega) | exact r_neg3 (by omega) (by omega)⟩⟩
            · refine vc_aload_n dX4_readOne_164 rfl ?_
              refine vc_bipush dX4_readOne_165 rfl ?_
              refine vc_cVI dX4_readOne_167 (sfX4_isSignF (M := M) hB0.1  45 ) rfl okX4_isSign viX4_isSign lkX4_163 (s_22 hB0.1.1) cl_4 rfl (by show 0 < 11 + 3 * (nf + 1); omega) ⟨rfl, rfl⟩ (Nat.le_of_ble_eq_true rfl) (Nat.le_of_ble_eq_true rfl) (Nat.le_of_ble_eq_true rfl) ?_
              rintro x635 _ ⟨rfl, h636, h637, h638⟩
              refine vc_if_ne dX4_readOne_170 (fun h639 => ?_) (fun h639 => ?_)
              · refine vc_iload_n dX4_readOne_179 rfl ?_
                refine vc_bipush dX4_readOne_180 rfl ?_
                refine vc_icmp_lt dX4_readOne_182 (fun h640 => ?_) (fun h640 => ?_)
                · refine vc_aload_n dX4_readOne_191 rfl ?_
                  refine vc_getI dX4_readOne_192 flX4_119 (s_22 hB0.1.1) rfl ?_
                  refine vc_nameI (fun x641 ex641 => ?_)
                  refine vc_istore_n dX4_readOne_195 (Nat.le_of_ble_eq_true rfl) rfl (show _ = [some (aR 22), some (aI d), some (aI 0), some (aI x641)] from rfl) ?_
                  refine vc_aload_n dX4_readOne_196 rfl ?_
                  refine vc_cVI dX4_readOne_197 (sfX4_takeTokenF (M := M) hB0.1  g n p hR (by omega)) rfl okX4_takeToken viX4_takeToken lkX4_65 (s_22 hB0.1.1) cl_4 rfl (by show 0 < 11 + 3 * (nf + 1); omega) ⟨rfl, rfl⟩ (Nat.le_of_ble_eq_true rfl) (Nat.le_of_ble_eq_true rfl) (Nat.le_of_ble_eq_true rfl) ?_
                  rintro x642 M643 ⟨hB644, kp645, kp646, kp647, kp648, h649, h650, h651, h652, h653, h654⟩
                  have hB655 : BD M M643 := BD.go hB0 hB644
                  have kp656 : mI M643 24 = mI M 24 := kp_go rfl kp645
                  have kp657 : mI M643 26 = mI M 26 := kp_go rfl kp646
                  have kp658 : mI M643 27 = mI M 27 := kp_go rfl kp647
                  have kp659 : mI M643 28 = mI M 28 := kp_go rfl kp648
                  refine vc_pop dX4_readOne_200 rfl ?_
                  refine vc_iload_n dX4_readOne_201 rfl ?_
                  refine vc_if_eq dX4_readOne_202 (fun h660 => ?_) (fun h660 => by exfalso; omega)
                  refine vc_iload_n dX4_readOne_280 rfl ?_
                  refine vc_bipush dX4_readOne_281 rfl ?_
                  refine vc_icmp_ne dX4_readOne_283 (fun h661 => ?_) (fun h661 => ?_)
                  · have kt662 : ∀ o, Rn (tk g n) (nx g n) w (2 :: sk) false (nx g n p) o → Rn (tk g n) (nx g n) w sk false p o := fun o r => r_neg (by omega) (by omega) r
                    refine vc_aload_n dX4_readOne_311 rfl ?_
                    refine vc_iload_n dX4_readOne_312 rfl ?_
                    refine vc_iconst dX4_readOne_313 rfl ?_
                    refine vc_iaddE dX4_readOne_314 (by omega) (by omega) ?_
                    refine vc_cVI dX4_readOne_315 (ho (M := M643) hB655.1  (d + 1) (by omega) (by omega) g n (nx g n p) h654 w (2 :: sk) (by first | (rw [List.length_cons]; omega) | omega) (by rw [show mI M643 22 14 = mI M 22 14 by omega]; exact hw) (by omega)) rfl (okX4_readOne (11 + 3 * nf)) (viX4_readOne (11 + 3 * nf)) (lkX4_179 (11 + 3 * nf)) (s_22 hB655.1.1) cl_4 rfl (by show (11 + 3 * nf) < 11 + 3 * (nf + 1); omega) ⟨rfl, rfl⟩ (Nat.le_of_ble_eq_true rfl) (Nat.le_of_ble_eq_true rfl) (Nat.le_of_ble_eq_true rfl) ?_
                    rintro x663 M664 ⟨hB665, kp666, kp667, kp668, kp669, h670, h671, h672, h673, h674, h675⟩
                    have hB676 : BD M M664 := BD.go hB655 hB665
                    have kp677 : mI M664 24 = mI M 24 := kp_go kp656 kp666
                    have kp678 : mI M664 26 = mI M 26 := kp_go kp657 kp667
                    have kp679 : mI M664 27 = mI M 27 := kp_go kp658 kp668
                    have kp680 : mI M664 28 = mI M 28 := kp_go kp659 kp669
                    refine vc_if_eq dX4_readOne_318 (fun h681 => ?_) (fun h681 => ?_)
                    · refine vc_iconst dX4_readOne_335 rfl ?_
                      refine vc_zret dX4_readOne_336 rfl (by first | decide | omega) (Nat.le_of_ble_eq_true rfl) (Nat.le_of_ble_eq_true rfl) ?_
                      exact ⟨_, rfl, hB676, kp677, kp678, kp679, kp680, by omega, by omega, by omega, by omega, by omega, Or.inr ⟨by omega, (LR.bad h675 (by omega)).1, kt662 _ (LR.bad h675 (by omega)).2⟩⟩
                    · obtain ⟨q682, hl683, hR684, hE685, hk686⟩ := LR.ok h675 (by omega)
                      have kt687 : ∀ o, Rn (tk g n) (nx g n) w (dm sk) true q682 o → Rn (tk g n) (nx g n) w sk false p o := fun o r => kt662 o (hk686 o r)
                      refine vc_aload_n dX4_readOne_321 rfl ?_
                      refine vc_sipush dX4_readOne_322 rfl ?_
                      refine vc_cVI dX4_readOne_325 (sfX4_emitF (M := M664) hB676.1  g n q682 hR684 20006 ) rfl okX4_emit viX4_emit lkX4_176 (s_22 hB676.1.1) cl_4 rfl (by show 0 < 11 + 3 * (nf + 1); omega) ⟨rfl, rfl⟩ (Nat.le_of_ble_eq_true rfl) (Nat.le_of_ble_eq_true rfl) (Nat.le_of_ble_eq_true rfl) ?_
                      rintro x688 M689 ⟨hB690, kp691, kp692, kp693, kp694, h695, h696, h697, h698, h699, h700⟩
                      have hB701 : BD M M689 := BD.go hB676 hB690
                      have kp702 : mI M689 24 = mI M 24 := kp_go kp677 kp691
                      have kp703 : mI M689 26 = mI M 26 := kp_go kp678 kp692
                      have kp704 : mI M689 27 = mI M 27 := kp_go kp679 kp693
                      have kp705 : mI M689 28 = mI M 28 := kp_go kp680 kp694
                      refine vc_if_eq dX4_readOne_328 (fun h706 => by exfalso; omega) (fun h706 => ?_)
                      refine vc_iconst dX4_readOne_331 rfl ?_
                      refine vc_goto dX4_readOne_332 ?_
                      refine vc_zret dX4_readOne_336 rfl (by first | decide | omega) (Nat.le_of_ble_eq_true rfl) (Nat.le_of_ble_eq_true rfl) ?_
                      exact ⟨_, rfl, hB701, kp702, kp703, kp704, kp705, by omega, by omega, by omega, by omega, by omega, Or.inl ⟨by omega, q682, by omega, h700, trivial, kt687⟩⟩
                  · have kt707 : ∀ o, Rn (tk g n) (nx g n) w (40 :: sk) false (nx g n p) o → Rn (tk g n) (nx g n) w sk false p o := fun o r => r_par (by omega) (by omega) r
                    refine vc_aload_n dX4_readOne_286 rfl ?_
                    refine vc_iload_n dX4_readOne_287 rfl ?_
                    refine vc_iconst dX4_readOne_288 rfl ?_
                    refine vc_iaddE dX4_readOne_289 (by omega) (by omega) ?_
                    refine vc_cVI dX4_readOne_290 (hs (M := M643) hB655.1  (d + 1) (by omega) (by omega) g n (nx g n p) h654 w (40 :: sk) (by first | (rw [List.length_cons]; omega) | omega) rfl (by rw [show mI M643 22 14 = mI M 22 14 by omega]; exact hw) (by omega)) rfl (okX4_readSum (13 + 3 * nf)) (viX4_readSum (13 + 3 * nf)) (lkX4_132 (13 + 3 * nf)) (s_22 hB655.1.1) cl_4 rfl (by show (13 + 3 * nf) < 11 + 3 * (nf + 1); omega) ⟨rfl, rfl⟩ (Nat.le_of_ble_eq_true rfl) (Nat.le_of_ble_eq_true rfl) (Nat.le_of_ble_eq_true rfl) ?_
                    rintro x708 M709 ⟨hB710, kp711, kp712, kp713, kp714, h715, h716, h717, h718, h719, h720⟩
                    have hB721 : BD M M709 := BD.go hB655 hB710
                    have kp722 : mI M709 24 = mI M 24 := kp_go kp656 kp711
                    have kp723 : mI M709 26 = mI M 26 := kp_go kp657 kp712
                    have kp724 : mI M709 27 = mI M 27 := kp_go kp658 kp713
                    have kp725 : mI M709 28 = mI M 28 := kp_go kp659 kp714
                    refine vc_if_eq dX4_readOne_293 (fun h726 => ?_) (fun h726 => ?_)
                    · refine vc_iconst dX4_readOne_309 rfl ?_
                      refine vc_zret dX4_readOne_310 rfl (by first | decide | omega) (Nat.le_of_ble_eq_true rfl) (Nat.le_of_ble_eq_true rfl) ?_
                      exact ⟨_, rfl, hB721, kp722, kp723, kp724, kp725, by omega, by omega, by omega, by omega, by omega, Or.inr ⟨by omega, (LR.bad h720 (by omega)).1, kt707 _ (LR.bad h720 (by omega)).2⟩⟩
                    · obtain ⟨q727, hl728, hR729, hE730, hk731⟩ := LR.ok h720 (by omega)
                      unfold EOp at hE730
                      have kt732 : ∀ o, Rn (tk g n) (nx g n) w (40 :: sk) true q727 o → Rn (tk g n) (nx g n) w sk false p o := fun o r => kt707 o (hk731 o r)
                      refine vc_aload_n dX4_readOne_296 rfl ?_
                      refine vc_bipush dX4_readOne_297 rfl ?_
                      refine vc_cVI dX4_readOne_299 (sfX4_readSignF (M := M709) hB721.1  g n q727 hR729 41 (by omega) (by omega)) rfl okX4_readSign viX4_readSign lkX4_141 (s_22 hB721.1.1) cl_4 rfl (by show 1 < 11 + 3 * (nf + 1); omega) ⟨rfl, rfl⟩ (Nat.le_of_ble_eq_true rfl) (Nat.le_of_ble_eq_true rfl) (Nat.le_of_ble_eq_true rfl) ?_
                      rintro x733 M734 ⟨hB735, kp736, kp737, kp738, kp739, h740, h741, h742, h743, h744, h745⟩
                      have hB746 : BD M M734 := BD.go hB721 hB735
                      have kp747 : mI M734 24 = mI M 24 := kp_go kp722 kp736
                      have kp748 : mI M734 26 = mI M 26 := kp_go kp723 kp737
                      have kp749 : mI M734 27 = mI M 27 := kp_go kp724 kp738
                      have kp750 : mI M734 28 = mI M 28 := kp_go kp725 kp739
                      refine vc_if_eq dX4_readOne_302 (fun h751 => ?_) (fun h751 => ?_)
                      · refine vc_iconst dX4_readOne_309 rfl ?_
                        refine vc_zret dX4_readOne_310 rfl (by first | decide | omega) (Nat.le_of_ble_eq_true rfl) (Nat.le_of_ble_eq_true rfl) ?_
                        have hb752 := TR.bad h745 (by omega)
                        exact ⟨_, rfl, hB746, kp747, kp748, kp749, kp750, by omega, by omega, by omega, by omega, by omega, Or.inr ⟨by omega, by omega, by rw [hb752.2.1, hb752.2.2]; exact kt732 _ (t_b40 hE730 (by omega))⟩⟩
                      · have e753 := TR.ok h745 (by omega)
                        have he754 := e753.1
                        have rg755 := RS.rg hR729
                        have kt756 : ∀ o, Rn (tk g n) (nx g n) w (dm sk) true (nx g n q727) o → Rn (tk g n) (nx g n) w sk false p o := fun o r => kt732 o (t_shut (by omega) r)
                        refine vc_iconst dX4_readOne_305 rfl ?_
                        refine vc_goto dX4_readOne_306 ?_
                        refine vc_zret dX4_readOne_310 rfl (by first | decide | omega) (Nat.le_of_ble_eq_true rfl) (Nat.le_of_ble_eq_true rfl) ?_
                        exact ⟨_, rfl, hB746, kp747, kp748, kp749, kp750, by omega, by omega, by omega, by omega, by omega, Or.inl ⟨by omega, nx g n q727, by omega, e753.2, trivial, kt756⟩⟩
                · refine vc_aload_n dX4_readOne_185 rfl ?_
                  refine vc_iconst dX4_readOne_186 rfl ?_
                  refine vc_cVI dX4_readOne_187 (sfX4_failedF (M := M) hB0.1  g n p hR 3 ) rfl okX4_failed viX4_failed lkX4_122 (s_22 hB0.1.1) cl_4 rfl (by show 0 < 11 + 3 * (nf + 1); omega) ⟨rfl, rfl⟩ (Nat.le_of_ble_eq_true rfl) (Nat.le_of_ble_eq_true rfl) (Nat.le_of_ble_eq_true rfl) ?_
                  rintro x757 M758 ⟨hB759, kp760, kp761, kp762, kp763, h764, h765, h766, h767, h768, h769, h770⟩
                  have hB771 : BD M M758 := BD.go hB0 hB759
                  have kp772 : mI M758 24 = mI M 24 := kp_go rfl kp760
                  have kp773 : mI M758 26 = mI M 26 := kp_go rfl kp761
                  have kp774 : mI M758 27 = mI M 27 := kp_go rfl kp762
                  have kp775 : mI M758 28 = mI M 28 := kp_go rfl kp763
                  refine vc_zret dX4_readOne_190 rfl (by first | decide | omega) (Nat.le_of_ble_eq_true rfl) (Nat.le_of_ble_eq_true rfl) ?_
                  exact ⟨_, rfl, hB771, kp772, kp773, kp774, kp775, by omega, by omega, by omega, by omega, by omega, Or.inr ⟨by omega, by omega, by rw [h769, h770]; first | exact r_two3 (by omega) (by omega) | exact r_par3 (by omega) (by omega) | exact r_neg3 (by omega) (by omega)⟩⟩
              · refine vc_aload_n dX4_readOne_173 rfl ?_
                refine vc_iconst dX4_readOne_174 rfl ?_
                refine vc_cVI dX4_readOne_175 (sfX4_failedF (M := M) hB0.1  g n p hR 1 ) rfl okX4_failed viX4_failed lkX4_122 (s_22 hB0.1.1) cl_4 rfl (by show 0 < 11 + 3 * (nf + 1); omega) ⟨rfl, rfl⟩ (Nat.le_of_ble_eq_true rfl) (Nat.le_of_ble_eq_true rfl) (Nat.le_of_ble_eq_true rfl) ?_
                rintro x776 M777 ⟨hB778, kp779, kp780, kp781, kp782, h783, h784, h785, h786, h787, h788, h789⟩
                have hB790 : BD M M777 := BD.go hB0 hB778
                have kp791 : mI M777 24 = mI M 24 := kp_go rfl kp779
                have kp792 : mI M777 26 = mI M 26 := kp_go rfl kp780
                have kp793 : mI M777 27 = mI M 27 := kp_go rfl kp781
                have kp794 : mI M777 28 = mI M 28 := kp_go rfl kp782
                refine vc_zret dX4_readOne_178 rfl (by first | decide | omega) (Nat.le_of_ble_eq_true rfl) (Nat.le_of_ble_eq_true rfl) ?_
                exact ⟨_, rfl, hB790, kp791, kp792, kp793, kp794, by omega, by omega, by omega, by omega, by omega, Or.inr ⟨by omega, by omega, by rw [h788, h789]; exact r_no (by omega) (by omega) (by omega) (by omega) (by omega)⟩⟩
          · refine vc_iconst dX4_readOne_145 rfl ?_
            refine vc_goto dX4_readOne_146 ?_
            refine vc_istore_n dX4_readOne_150 (Nat.le_of_ble_eq_true rfl) rfl (show _ = [some (aR 22), some (aI d), some (aI 1), none] from rfl) ?_
            refine vc_iload_n dX4_readOne_151 rfl ?_
            refine vc_if_ne dX4_readOne_152 (fun h795 => ?_) (fun h795 => by exfalso; omega)
            refine vc_iload_n dX4_readOne_179 rfl ?_
            refine vc_bipush dX4_readOne_180 rfl ?_
            refine vc_icmp_lt dX4_readOne_182 (fun h796 => ?_) (fun h796 => ?_)
            · refine vc_aload_n dX4_readOne_191 rfl ?_
              refine vc_getI dX4_readOne_192 flX4_119 (s_22 hB0.1.1) rfl ?_
              refine vc_nameI (fun x797 ex797 => ?_)
              refine vc_istore_n dX4_readOne_195 (Nat.le_of_ble_eq_true rfl) rfl (show _ = [some (aR 22), some (aI d), some (aI 1), some (aI x797)] from rfl) ?_
              refine vc_aload_n dX4_readOne_196 rfl ?_
              refine vc_cVI dX4_readOne_197 (sfX4_takeTokenF (M := M) hB0.1  g n p hR (by omega)) rfl okX4_takeToken viX4_takeToken lkX4_65 (s_22 hB0.1.1) cl_4 rfl (by show 0 < 11 + 3 * (nf + 1); omega) ⟨rfl, rfl⟩ (Nat.le_of_ble_eq_true rfl) (Nat.le_of_ble_eq_true rfl) (Nat.le_of_ble_eq_true rfl) ?_
              rintro x798 M799 ⟨hB800, kp801, kp802, kp803, kp804, h805, h806, h807, h808, h809, h810⟩
              have hB811 : BD M M799 := BD.go hB0 hB800
              have kp812 : mI M799 24 = mI M 24 := kp_go rfl kp801
              have kp813 : mI M799 26 = mI M 26 := kp_go rfl kp802
              have kp814 : mI M799 27 = mI M 27 := kp_go rfl kp803
              have kp815 : mI M799 28 = mI M 28 := kp_go rfl kp804
              refine vc_pop dX4_readOne_200 rfl ?_
              refine vc_iload_n dX4_readOne_201 rfl ?_
              refine vc_if_eq dX4_readOne_202 (fun h816 => by exfalso; omega) (fun h816 => ?_)
              refine vc_aload_n dX4_readOne_205 rfl ?_
              refine vc_bipush dX4_readOne_206 rfl ?_
              refine vc_cVI dX4_readOne_208 (sfX4_readWordF (M := M799) hB811.1  g n (nx g n p) h810 19 (by omega) (by omega)) rfl okX4_readWord viX4_readWord lkX4_151 (s_22 hB811.1.1) cl_4 rfl (by show 1 < 11 + 3 * (nf + 1); omega) ⟨rfl, rfl⟩ (Nat.le_of_ble_eq_true rfl) (Nat.le_of_ble_eq_true rfl) (Nat.le_of_ble_eq_true rfl) ?_
              rintro x817 M818 ⟨hB819, kp820, kp821, kp822, kp823, h824, h825, h826, h827, h828, h829⟩
              have hB830 : BD M M818 := BD.go hB811 hB819
              have kp831 : mI M818 24 = mI M 24 := kp_go kp812 kp820
              have kp832 : mI M818 26 = mI M 26 := kp_go kp813 kp821
              have kp833 : mI M818 27 = mI M 27 := kp_go kp814 kp822
              have kp834 : mI M818 28 = mI M 28 := kp_go kp815 kp823
              refine vc_if_eq dX4_readOne_211 (fun h835 => ?_) (fun h835 => ?_)
              · refine vc_iconst dX4_readOne_278 rfl ?_
                refine vc_zret dX4_readOne_279 rfl (by first | decide | omega) (Nat.le_of_ble_eq_true rfl) (Nat.le_of_ble_eq_true rfl) ?_
                have hb836 := TR.bad h829 (by omega)
                exact ⟨_, rfl, hB830, kp831, kp832, kp833, kp834, by omega, by omega, by omega, by omega, by omega, Or.inr ⟨by omega, by omega, by rw [hb836.2.1, hb836.2.2]; exact r_two1 (by omega) (by omega) (by omega)⟩⟩
              · have e837 := TR.ok h829 (by omega)
                have he838 := e837.1
                have rg839 := RS.rg h810
                have kt840 : ∀ o, Rn (tk g n) (nx g n) w (41 :: sk) false (nx g n (nx g n p)) o → Rn (tk g n) (nx g n) w sk false p o := fun o r => r_two (by omega) (by omega) (by omega) r
                refine vc_aload_n dX4_readOne_214 rfl ?_
                refine vc_iload_n dX4_readOne_215 rfl ?_
                refine vc_iconst dX4_readOne_216 rfl ?_
                refine vc_iaddE dX4_readOne_217 (by omega) (by omega) ?_
                refine vc_cVI dX4_readOne_218 (hs (M := M818) hB830.1  (d + 1) (by omega) (by omega) g n (nx g n (nx g n p)) e837.2 w (41 :: sk) (by first | (rw [List.length_cons]; omega) | omega) rfl (by rw [show mI M818 22 14 = mI M 22 14 by omega]; exact hw) (by omega)) rfl (okX4_readSum (13 + 3 * nf)) (viX4_readSum (13 + 3 * nf)) (lkX4_132 (13 + 3 * nf)) (s_22 hB830.1.1) cl_4 rfl (by show (13 + 3 * nf) < 11 + 3 * (nf + 1); omega) ⟨rfl, rfl⟩ (Nat.le_of_ble_eq_true rfl) (Nat.le_of_ble_eq_true rfl) (Nat.le_of_ble_eq_true rfl) ?_
                rintro x841 M842 ⟨hB843, kp844, kp845, kp846, kp847, h848, h849, h850, h851, h852, h853⟩
                have hB854 : BD M M842 := BD.go hB830 hB843
                have kp855 : mI M842 24 = mI M 24 := kp_go kp831 kp844
                have kp856 : mI M842 26 = mI M 26 := kp_go kp832 kp845
                have kp857 : mI M842 27 = mI M 27 := kp_go kp833 kp846
                have kp858 : mI M842 28 = mI M 28 := kp_go kp834 kp847
                refine vc_if_eq dX4_readOne_221 (fun h859 => ?_) (fun h859 => ?_)
                · refine vc_iconst dX4_readOne_278 rfl ?_
                  refine vc_zret dX4_readOne_279 rfl (by first | decide | omega) (Nat.le_of_ble_eq_true rfl) (Nat.le_of_ble_eq_true rfl) ?_
                  exact ⟨_, rfl, hB854, kp855, kp856, kp857, kp858, by omega, by omega, by omega, by omega, by omega, Or.inr ⟨by omega, (LR.bad h853 (by omega)).1, kt840 _ (LR.bad h853 (by omega)).2⟩⟩
                · obtain ⟨q860, hl861, hR862, hE863, hk864⟩ := LR.ok h853 (by omega)
                  unfold EOp at hE863
                  have kt865 : ∀ o, Rn (tk g n) (nx g n) w (41 :: sk) true q860 o → Rn (tk g n) (nx g n) w sk false p o := fun o r => kt840 o (hk864 o r)
                  refine vc_aload_n dX4_readOne_224 rfl ?_
                  refine vc_bipush dX4_readOne_225 rfl ?_
                  refine vc_cVI dX4_readOne_227 (sfX4_readSignF (M := M842) hB854.1  g n q860 hR862 44 (by omega) (by omega)) rfl okX4_readSign viX4_readSign lkX4_141 (s_22 hB854.1.1) cl_4 rfl (by show 1 < 11 + 3 * (nf + 1); omega) ⟨rfl, rfl⟩ (Nat.le_of_ble_eq_true rfl) (Nat.le_of_ble_eq_true rfl) (Nat.le_of_ble_eq_true rfl) ?_
                  rintro x866 M867 ⟨hB868, kp869, kp870, kp871, kp872, h873, h874, h875, h876, h877, h878⟩
                  have hB879 : BD M M867 := BD.go hB854 hB868
                  have kp880 : mI M867 24 = mI M 24 := kp_go kp855 kp869
                  have kp881 : mI M867 26 = mI M 26 := kp_go kp856 kp870
                  have kp882 : mI M867 27 = mI M 27 := kp_go kp857 kp871
                  have kp883 : mI M867 28 = mI M 28 := kp_go kp858 kp872
                  refine vc_if_eq dX4_readOne_230 (fun h884 => ?_) (fun h884 => ?_)
                  · refine vc_iconst dX4_readOne_278 rfl ?_
                    refine vc_zret dX4_readOne_279 rfl (by first | decide | omega) (Nat.le_of_ble_eq_true rfl) (Nat.le_of_ble_eq_true rfl) ?_
                    have hb885 := TR.bad h878 (by omega)
                    exact ⟨_, rfl, hB879, kp880, kp881, kp882, kp883, by omega, by omega, by omega, by omega, by omega, Or.inr ⟨by omega, by omega, by rw [hb885.2.1, hb885.2.2]; exact kt865 _ (t_b41 hE863 (by omega))⟩⟩
                  · have e886 := TR.ok h878 (by omega)
                    have he887 := e886.1
                    have rg888 := RS.rg hR862
                    have kt889 : ∀ o, Rn (tk g n) (nx g n) w (42 :: sk) false (nx g n q860) o → Rn (tk g n) (nx g n) w sk false p o := fun o r => kt865 o (t_com (by omega) r)
                    refine vc_aload_n dX4_readOne_233 rfl ?_
                    refine vc_iload_n dX4_readOne_234 rfl ?_
                    refine vc_iconst dX4_readOne_235 rfl ?_
                    refine vc_iaddE dX4_readOne_236 (by omega) (by omega) ?_
                    refine vc_cVI dX4_readOne_237 (hs (M := M867) hB879.1  (d + 1) (by omega) (by omega) g n (nx g n q860) e886.2 w (42 :: sk) (by first | (rw [List.length_cons]; omega) | omega) rfl (by rw [show mI M867 22 14 = mI M 22 14 by omega]; exact hw) (by omega)) rfl (okX4_readSum (13 + 3 * nf)) (viX4_readSum (13 + 3 * nf)) (lkX4_132 (13 + 3 * nf)) (s_22 hB879.1.1) cl_4 rfl (by show (13 + 3 * nf) < 11 + 3 * (nf + 1); omega) ⟨rfl, rfl⟩ (Nat.le_of_ble_eq_true rfl) (Nat.le_of_ble_eq_true rfl) (Nat.le_of_ble_eq_true rfl) ?_
                    rintro x890 M891 ⟨hB892, kp893, kp894, kp895, kp896, h897, h898, h899, h900, h901, h902⟩
                    have hB903 : BD M M891 := BD.go hB879 hB892
                    have kp904 : mI M891 24 = mI M 24 := kp_go kp880 kp893
                    have kp905 : mI M891 26 = mI M 26 := kp_go kp881 kp894
                    have kp906 : mI M891 27 = mI M 27 := kp_go kp882 kp895
                    have kp907 : mI M891 28 = mI M 28 := kp_go kp883 kp896
                    refine vc_if_eq dX4_readOne_240 (fun h908 => ?_) (fun h908 => ?_)
                    · refine vc_iconst dX4_readOne_278 rfl ?_
                      refine vc_zret dX4_readOne_279 rfl (by first | decide | omega) (Nat.le_of_ble_eq_true rfl) (Nat.le_of_ble_eq_true rfl) ?_
                      exact ⟨_, rfl, hB903, kp904, kp905, kp906, kp907, by omega, by omega, by omega, by omega, by omega, Or.inr ⟨by omega, (LR.bad h902 (by omega)).1, kt889 _ (LR.bad h902 (by omega)).2⟩⟩
                    · obtain ⟨q909, hl910, hR911, hE912, hk913⟩ := LR.ok h902 (by omega)
                      unfold EOp at hE912
                      have kt914 : ∀ o, Rn (tk g n) (nx g n) w (42 :: sk) true q909 o → Rn (tk g n) (nx g n) w sk false p o := fun o r => kt889 o (hk913 o r)
                      refine vc_aload_n dX4_readOne_243 rfl ?_
                      refine vc_bipush dX4_readOne_244 rfl ?_
                      refine vc_cVI dX4_readOne_246 (sfX4_readWordF (M := M891) hB903.1  g n q909 hR911 20 (by omega) (by omega)) rfl okX4_readWord viX4_readWord lkX4_151 (s_22 hB903.1.1) cl_4 rfl (by show 1 < 11 + 3 * (nf + 1); omega) ⟨rfl, rfl⟩ (Nat.le_of_ble_eq_true rfl) (Nat.le_of_ble_eq_true rfl) (Nat.le_of_ble_eq_true rfl) ?_
                      rintro x915 M916 ⟨hB917, kp918, kp919, kp920, kp921, h922, h923, h924, h925, h926, h927⟩
                      have hB928 : BD M M916 := BD.go hB903 hB917
                      have kp929 : mI M916 24 = mI M 24 := kp_go kp904 kp918
                      have kp930 : mI M916 26 = mI M 26 := kp_go kp905 kp919
                      have kp931 : mI M916 27 = mI M 27 := kp_go kp906 kp920
                      have kp932 : mI M916 28 = mI M 28 := kp_go kp907 kp921
                      refine vc_if_eq dX4_readOne_249 (fun h933 => ?_) (fun h933 => ?_)
                      · refine vc_iconst dX4_readOne_278 rfl ?_
                        refine vc_zret dX4_readOne_279 rfl (by first | decide | omega) (Nat.le_of_ble_eq_true rfl) (Nat.le_of_ble_eq_true rfl) ?_
                        have hb934 := TR.bad h927 (by omega)
                        exact ⟨_, rfl, hB928, kp929, kp930, kp931, kp932, by omega, by omega, by omega, by omega, by omega, Or.inr ⟨by omega, by omega, by rw [hb934.2.1, hb934.2.2]; exact kt914 _ (t_b42 hE912 (by omega))⟩⟩
                      · have e935 := TR.ok h927 (by omega)
                        have he936 := e935.1
                        have rg937 := RS.rg hR911
                        have kt938 : ∀ o, Rn (tk g n) (nx g n) w (dm sk) true (nx g n q909) o → Rn (tk g n) (nx g n) w sk false p o := fun o r => kt914 o (t_end (by omega) r)
                        refine vc_aload_n dX4_readOne_252 rfl ?_
                        refine vc_iload_n dX4_readOne_253 rfl ?_
                        refine vc_bipush dX4_readOne_254 rfl ?_
                        refine vc_icmp_ne dX4_readOne_256 (fun h939 => ?_) (fun h939 => by exfalso; omega)
                        refine vc_sipush dX4_readOne_265 rfl ?_
                        refine vc_cVI dX4_readOne_268 (sfX4_emitF (M := M916) hB928.1  g n (nx g n q909) e935.2 20005 ) rfl okX4_emit viX4_emit lkX4_176 (s_22 hB928.1.1) cl_4 rfl (by show 0 < 11 + 3 * (nf + 1); omega) ⟨rfl, rfl⟩ (Nat.le_of_ble_eq_true rfl) (Nat.le_of_ble_eq_true rfl) (Nat.le_of_ble_eq_true rfl) ?_
                        rintro x940 M941 ⟨hB942, kp943, kp944, kp945, kp946, h947, h948, h949, h950, h951, h952⟩
                        have hB953 : BD M M941 := BD.go hB928 hB942
                        have kp954 : mI M941 24 = mI M 24 := kp_go kp929 kp943
                        have kp955 : mI M941 26 = mI M 26 := kp_go kp930 kp944
                        have kp956 : mI M941 27 = mI M 27 := kp_go kp931 kp945
                        have kp957 : mI M941 28 = mI M 28 := kp_go kp932 kp946
                        refine vc_if_eq dX4_readOne_271 (fun h958 => by exfalso; omega) (fun h958 => ?_)
                        refine vc_iconst dX4_readOne_274 rfl ?_
                        refine vc_goto dX4_readOne_275 ?_
                        refine vc_zret dX4_readOne_279 rfl (by first | decide | omega) (Nat.le_of_ble_eq_true rfl) (Nat.le_of_ble_eq_true rfl) ?_
                        exact ⟨_, rfl, hB953, kp954, kp955, kp956, kp957, by omega, by omega, by omega, by omega, by omega, Or.inl ⟨by omega, nx g n q909, by omega, h952, trivial, kt938⟩⟩
            · refine vc_aload_n dX4_readOne_185 rfl ?_
              refine vc_iconst dX4_readOne_186 rfl ?_
              refine vc_cVI dX4_readOne_187 (sfX4_failedF (M := M) hB0.1  g n p hR 3 ) rfl okX4_failed viX4_failed lkX4_122 (s_22 hB0.1.1) cl_4 rfl (by show 0 < 11 + 3 * (nf + 1); omega) ⟨rfl, rfl⟩ (Nat.le_of_ble_eq_true rfl) (Nat.le_of_ble_eq_true rfl) (Nat.le_of_ble_eq_true rfl) ?_
              rintro x959 M960 ⟨hB961, kp962, kp963, kp964, kp965, h966, h967, h968, h969, h970, h971, h972⟩
              have hB973 : BD M M960 := BD.go hB0 hB961
              have kp974 : mI M960 24 = mI M 24 := kp_go rfl kp962
              have kp975 : mI M960 26 = mI M 26 := kp_go rfl kp963
              have kp976 : mI M960 27 = mI M 27 := kp_go rfl kp964
              have kp977 : mI M960 28 = mI M 28 := kp_go rfl kp965
              refine vc_zret dX4_readOne_190 rfl (by first | decide | omega) (Nat.le_of_ble_eq_true rfl) (Nat.le_of_ble_eq_true rfl) ?_
              exact ⟨_, rfl, hB973, kp974, kp975, kp976, kp977, by omega, by omega, by omega, by omega, by omega, Or.inr ⟨by omega, by omega, by rw [h971, h972]; first | exact r_two3 (by omega) (by omega) | exact r_par3 (by omega) (by omega) | exact r_neg3 (by omega) (by omega)⟩⟩
    · refine vc_aload_n dX4_readOne_58 rfl ?_
      refine vc_getI dX4_readOne_59 flX4_119 (s_22 hB0.1.1) rfl ?_
      refine vc_bipush dX4_readOne_62 rfl ?_
      refine vc_icmp_lt dX4_readOne_64 (fun h978 => ?_) (fun h978 => ?_)
      · refine vc_aload_n dX4_readOne_119 rfl ?_
        refine vc_getI dX4_readOne_120 flX4_69 (s_22 hB0.1.1) rfl ?_
        refine vc_iconst dX4_readOne_123 rfl ?_
        refine vc_icmp_ne dX4_readOne_124 (fun h979 => by exfalso; omega) (fun h979 => ?_)
        refine vc_aload_n dX4_readOne_127 rfl ?_
        refine vc_getI dX4_readOne_128 flX4_119 (s_22 hB0.1.1) rfl ?_
        refine vc_bipush dX4_readOne_131 rfl ?_
        refine vc_icmp_eq dX4_readOne_133 (fun h980 => ?_) (fun h980 => ?_)
        · refine vc_iconst dX4_readOne_145 rfl ?_
          refine vc_goto dX4_readOne_146 ?_
          refine vc_istore_n dX4_readOne_150 (Nat.le_of_ble_eq_true rfl) rfl (show _ = [some (aR 22), some (aI d), some (aI 1), none] from rfl) ?_
          refine vc_iload_n dX4_readOne_151 rfl ?_
          refine vc_if_ne dX4_readOne_152 (fun h981 => ?_) (fun h981 => by exfalso; omega)
          refine vc_iload_n dX4_readOne_179 rfl ?_
          refine vc_bipush dX4_readOne_180 rfl ?_
          refine vc_icmp_lt dX4_readOne_182 (fun h982 => ?_) (fun h982 => ?_)
          · refine vc_aload_n dX4_readOne_191 rfl ?_
            refine vc_getI dX4_readOne_192 flX4_119 (s_22 hB0.1.1) rfl ?_
            refine vc_nameI (fun x983 ex983 => ?_)
            refine vc_istore_n dX4_readOne_195 (Nat.le_of_ble_eq_true rfl) rfl (show _ = [some (aR 22), some (aI d), some (aI 1), some (aI x983)] from rfl) ?_
            refine vc_aload_n dX4_readOne_196 rfl ?_
            refine vc_cVI dX4_readOne_197 (sfX4_takeTokenF (M := M) hB0.1  g n p hR (by omega)) rfl okX4_takeToken viX4_takeToken lkX4_65 (s_22 hB0.1.1) cl_4 rfl (by show 0 < 11 + 3 * (nf + 1); omega) ⟨rfl, rfl⟩ (Nat.le_of_ble_eq_true rfl) (Nat.le_of_ble_eq_true rfl) (Nat.le_of_ble_eq_true rfl) ?_
            rintro x984 M985 ⟨hB986, kp987, kp988, kp989, kp990, h991, h992, h993, h994, h995, h996⟩
            have hB997 : BD M M985 := BD.go hB0 hB986
            have kp998 : mI M985 24 = mI M 24 := kp_go rfl kp987
            have kp999 : mI M985 26 = mI M 26 := kp_go rfl kp988
            have kp1000 : mI M985 27 = mI M 27 := kp_go rfl kp989
            have kp1001 : mI M985 28 = mI M 28 := kp_go rfl kp990
            refine vc_pop dX4_readOne_200 rfl ?_
            refine vc_iload_n dX4_readOne_201 rfl ?_
            refine vc_if_eq dX4_readOne_202 (fun h1002 => by exfalso; omega) (fun h1002 => ?_)
            refine vc_aload_n dX4_readOne_205 rfl ?_
            refine vc_bipush dX4_readOne_206 rfl ?_
            refine vc_cVI dX4_readOne_208 (sfX4_readWordF (M := M985) hB997.1  g n (nx g n p) h996 19 (by omega) (by omega)) rfl okX4_readWord viX4_readWord lkX4_151 (s_22 hB997.1.1) cl_4 rfl (by show 1 < 11 + 3 * (nf + 1); omega) ⟨rfl, rfl⟩ (Nat.le_of_ble_eq_true rfl) (Nat.le_of_ble_eq_true rfl) (Nat.le_of_ble_eq_true rfl) ?_
            rintro x1003 M1004 ⟨hB1005, kp1006, kp1007, kp1008, kp1009, h1010, h1011, h1012, h1013, h1014, h1015⟩
            have hB1016 : BD M M1004 := BD.go hB997 hB1005
            have kp1017 : mI M1004 24 = mI M 24 := kp_go kp998 kp1006
            have kp1018 : mI M1004 26 = mI M 26 := kp_go kp999 kp1007
            have kp1019 : mI M1004 27 = mI M 27 := kp_go kp1000 kp1008
            have kp1020 : mI M1004 28 = mI M 28 := kp_go kp1001 kp1009
            refine vc_if_eq dX4_readOne_211 (fun h1021 => ?_) (fun h1021 => ?_)
            · refine vc_iconst dX4_readOne_278 rfl ?_
              refine vc_zret dX4_readOne_279 rfl (by first | decide | omega) (Nat.le_of_ble_eq_true rfl) (Nat.le_of_ble_eq_true rfl) ?_
              have hb1022 := TR.bad h1015 (by omega)
              exact ⟨_, rfl, hB1016, kp1017, kp1018, kp1019, kp1020, by omega, by omega, by omega, by omega, by omega, Or.inr ⟨by omega, by omega, by rw [hb1022.2.1, hb1022.2.2]; exact r_two1 (by omega) (by omega) (by omega)⟩⟩
            · have e1023 := TR.ok h1015 (by omega)
              have he1024 := e1023.1
              have rg1025 := RS.rg h996
              have kt1026 : ∀ o, Rn (tk g n) (nx g n) w (41 :: sk) false (nx g n (nx g n p)) o → Rn (tk g n) (nx g n) w sk false p o := fun o r => r_two (by omega) (by omega) (by omega) r
              refine vc_aload_n dX4_readOne_214 rfl ?_
              refine vc_iload_n dX4_readOne_215 rfl ?_
              refine vc_iconst dX4_readOne_216 rfl ?_
              refine vc_iaddE dX4_readOne_217 (by omega) (by omega) ?_
              refine vc_cVI dX4_readOne_218 (hs (M := M1004) hB1016.1  (d + 1) (by omega) (by omega) g n (nx g n (nx g n p)) e1023.2 w (41 :: sk) (by first | (rw [List.length_cons]; omega) | omega) rfl (by rw [show mI M1004 22 14 = mI M 22 14 by omega]; exact hw) (by omega)) rfl (okX4_readSum (13 + 3 * nf)) (viX4_readSum (13 + 3 * nf)) (lkX4_132 (13 + 3 * nf)) (s_22 hB1016.1.1) cl_4 rfl (by show (13 + 3 * nf) < 11 + 3 * (nf + 1); omega) ⟨rfl, rfl⟩ (Nat.le_of_ble_eq_true rfl) (Nat.le_of_ble_eq_true rfl) (Nat.le_of_ble_eq_true rfl) ?_
              rintro x1027 M1028 ⟨hB1029, kp1030, kp1031, kp1032, kp1033, h1034, h1035, h1036, h1037, h1038, h1039⟩
              have hB1040 : BD M M1028 := BD.go hB1016 hB1029
              have kp1041 : mI M1028 24 = mI M 24 := kp_go kp1017 kp1030
              have kp1042 : mI M1028 26 = mI M 26 := kp_go kp1018 kp1031
              have kp1043 : mI M1028 27 = mI M 27 := kp_go kp1019 kp1032
              have kp1044 : mI M1028 28 = mI M 28 := kp_go kp1020 kp1033
              refine vc_if_eq dX4_readOne_221 (fun h1045 => ?_) (fun h1045 => ?_)
              · refine vc_iconst dX4_readOne_278 rfl ?_
                refine vc_zret dX4_readOne_279 rfl (by first | decide | omega) (Nat.le_of_ble_eq_true rfl) (Nat.le_of_ble_eq_true rfl) ?_
                exact ⟨_, rfl, hB1040, kp1041, kp1042, kp1043, kp1044, by omega, by omega, by omega, by omega, by omega, Or.inr ⟨by omega, (LR.bad h1039 (by omega)).1, kt1026 _ (LR.bad h1039 (by omega)).2⟩⟩
              · obtain ⟨q1046, hl1047, hR1048, hE1049, hk1050⟩ := LR.ok h1039 (by omega)
                unfold EOp at hE1049
                have kt1051 : ∀ o, Rn (tk g n) (nx g n) w (41 :: sk) true q1046 o → Rn (tk g n) (nx g n) w sk false p o := fun o r => kt1026 o (hk1050 o r)
                refine vc_aload_n dX4_readOne_224 rfl ?_
                refine vc_bipush dX4_readOne_225 rfl ?_
                refine vc_cVI dX4_readOne_227 (sfX4_readSignF (M := M1028) hB1040.1  g n q1046 hR1048 44 (by omega) (by omega)) rfl okX4_readSign viX4_readSign lkX4_141 (s_22 hB1040.1.1) cl_4 rfl (by show 1 < 11 + 3 * (nf + 1); omega) ⟨rfl, rfl⟩ (Nat.le_of_ble_eq_true rfl) (Nat.le_of_ble_eq_true rfl) (Nat.le_of_ble_eq_true rfl) ?_
                rintro x1052 M1053 ⟨hB1054, kp1055, kp1056, kp1057, kp1058, h1059, h1060, h1061, h1062, h1063, h1064⟩
                have hB1065 : BD M M1053 := BD.go hB1040 hB1054
                have kp1066 : mI M1053 24 = mI M 24 := kp_go kp1041 kp1055
                have kp1067 : mI M1053 26 = mI M 26 := kp_go kp1042 kp1056
                have kp1068 : mI M1053 27 = mI M 27 := kp_go kp1043 kp1057
                have kp1069 : mI M1053 28 = mI M 28 := kp_go kp1044 kp1058
                refine vc_if_eq dX4_readOne_230 (fun h1070 => ?_) (fun h1070 => ?_)
                · refine vc_iconst dX4_readOne_278 rfl ?_
                  refine vc_zret dX4_readOne_279 rfl (by first | decide | omega) (Nat.le_of_ble_eq_true rfl) (Nat.le_of_ble_eq_true rfl) ?_
                  have hb1071 := TR.bad h1064 (by omega)
                  exact ⟨_, rfl, hB1065, kp1066, kp1067, kp1068, kp1069, by omega, by omega, by omega, by omega, by omega, Or.inr ⟨by omega, by omega, by rw [hb1071.2.1, hb1071.2.2]; exact kt1051 _ (t_b41 hE1049 (by omega))⟩⟩
                · have e1072 := TR.ok h1064 (by omega)
                  have he1073 := e1072.1
                  have rg1074 := RS.rg hR1048
                  have kt1075 : ∀ o, Rn (tk g n) (nx g n) w (42 :: sk) false (nx g n q1046) o → Rn (tk g n) (nx g n) w sk false p o := fun o r => kt1051 o (t_com (by omega) r)
                  refine vc_aload_n dX4_readOne_233 rfl ?_
                  refine vc_iload_n dX4_readOne_234 rfl ?_
                  refine vc_iconst dX4_readOne_235 rfl ?_
                  refine vc_iaddE dX4_readOne_236 (by omega) (by omega) ?_
                  refine vc_cVI dX4_readOne_237 (hs (M := M1053) hB1065.1  (d + 1) (by omega) (by omega) g n (nx g n q1046) e1072.2 w (42 :: sk) (by first | (rw [List.length_cons]; omega) | omega) rfl (by rw [show mI M1053 22 14 = mI M 22 14 by omega]; exact hw) (by omega)) rfl (okX4_readSum (13 + 3 * nf)) (viX4_readSum (13 + 3 * nf)) (lkX4_132 (13 + 3 * nf)) (s_22 hB1065.1.1) cl_4 rfl (by show (13 + 3 * nf) < 11 + 3 * (nf + 1); omega) ⟨rfl, rfl⟩ (Nat.le_of_ble_eq_true rfl) (Nat.le_of_ble_eq_true rfl) (Nat.le_of_ble_eq_true rfl) ?_
                  rintro x1076 M1077 ⟨hB1078, kp1079, kp1080, kp1081, kp1082, h1083, h1084, h1085, h1086, h1087, h1088⟩
                  have hB1089 : BD M M1077 := BD.go hB1065 hB1078
                  have kp1090 : mI M1077 24 = mI M 24 := kp_go kp1066 kp1079
                  have kp1091 : mI M1077 26 = mI M 26 := kp_go kp1067 kp1080
                  have kp1092 : mI M1077 27 = mI M 27 := kp_go kp1068 kp1081
                  have kp1093 : mI M1077 28 = mI M 28 := kp_go kp1069 kp1082
                  refine vc_if_eq dX4_readOne_240 (fun h1094 => ?_) (fun h1094 => ?_)
                  · refine vc_iconst dX4_readOne_278 rfl ?_
                    refine vc_zret dX4_readOne_279 rfl (by first | decide | omega) (Nat.le_of_ble_eq_true rfl) (Nat.le_of_ble_eq_true rfl) ?_
                    exact ⟨_, rfl, hB1089, kp1090, kp1091, kp1092, kp1093, by omega, by omega, by omega, by omega, by omega, Or.inr ⟨by omega, (LR.bad h1088 (by omega)).1, kt1075 _ (LR.bad h1088 (by omega)).2⟩⟩
                  · obtain ⟨q1095, hl1096, hR1097, hE1098, hk1099⟩ := LR.ok h1088 (by omega)
                    unfold EOp at hE1098
                    have kt1100 : ∀ o, Rn (tk g n) (nx g n) w (42 :: sk) true q1095 o → Rn (tk g n) (nx g n) w sk false p o := fun o r => kt1075 o (hk1099 o r)
                    refine vc_aload_n dX4_readOne_243 rfl ?_
                    refine vc_bipush dX4_readOne_244 rfl ?_
                    refine vc_cVI dX4_readOne_246 (sfX4_readWordF (M := M1077) hB1089.1  g n q1095 hR1097 20 (by omega) (by omega)) rfl okX4_readWord viX4_readWord lkX4_151 (s_22 hB1089.1.1) cl_4 rfl (by show 1 < 11 + 3 * (nf + 1); omega) ⟨rfl, rfl⟩ (Nat.le_of_ble_eq_true rfl) (Nat.le_of_ble_eq_true rfl) (Nat.le_of_ble_eq_true rfl) ?_
                    rintro x1101 M1102 ⟨hB1103, kp1104, kp1105, kp1106, kp1107, h1108, h1109, h1110, h1111, h1112, h1113⟩
                    have hB1114 : BD M M1102 := BD.go hB1089 hB1103
                    have kp1115 : mI M1102 24 = mI M 24 := kp_go kp1090 kp1104
                    have kp1116 : mI M1102 26 = mI M 26 := kp_go kp1091 kp1105
                    have kp1117 : mI M1102 27 = mI M 27 := kp_go kp1092 kp1106
                    have kp1118 : mI M1102 28 = mI M 28 := kp_go kp1093 kp1107
                    refine vc_if_eq dX4_readOne_249 (fun h1119 => ?_) (fun h1119 => ?_)
                    · refine vc_iconst dX4_readOne_278 rfl ?_
                      refine vc_zret dX4_readOne_279 rfl (by first | decide | omega) (Nat.le_of_ble_eq_true rfl) (Nat.le_of_ble_eq_true rfl) ?_
                      have hb1120 := TR.bad h1113 (by omega)
                      exact ⟨_, rfl, hB1114, kp1115, kp1116, kp1117, kp1118, by omega, by omega, by omega, by omega, by omega, Or.inr ⟨by omega, by omega, by rw [hb1120.2.1, hb1120.2.2]; exact kt1100 _ (t_b42 hE1098 (by omega))⟩⟩
                    · have e1121 := TR.ok h1113 (by omega)
                      have he1122 := e1121.1
                      have rg1123 := RS.rg hR1097
                      have kt1124 : ∀ o, Rn (tk g n) (nx g n) w (dm sk) true (nx g n q1095) o → Rn (tk g n) (nx g n) w sk false p o := fun o r => kt1100 o (t_end (by omega) r)
                      refine vc_aload_n dX4_readOne_252 rfl ?_
                      refine vc_iload_n dX4_readOne_253 rfl ?_
                      refine vc_bipush dX4_readOne_254 rfl ?_
                      refine vc_icmp_ne dX4_readOne_256 (fun h1125 => by exfalso; omega) (fun h1125 => ?_)
                      refine vc_sipush dX4_readOne_259 rfl ?_
                      refine vc_goto dX4_readOne_262 ?_
                      refine vc_cVI dX4_readOne_268 (sfX4_emitF (M := M1102) hB1114.1  g n (nx g n q1095) e1121.2 20004 ) rfl okX4_emit viX4_emit lkX4_176 (s_22 hB1114.1.1) cl_4 rfl (by show 0 < 11 + 3 * (nf + 1); omega) ⟨rfl, rfl⟩ (Nat.le_of_ble_eq_true rfl) (Nat.le_of_ble_eq_true rfl) (Nat.le_of_ble_eq_true rfl) ?_
                      rintro x1126 M1127 ⟨hB1128, kp1129, kp1130, kp1131, kp1132, h1133, h1134, h1135, h1136, h1137, h1138⟩
                      have hB1139 : BD M M1127 := BD.go hB1114 hB1128
                      have kp1140 : mI M1127 24 = mI M 24 := kp_go kp1115 kp1129
                      have kp1141 : mI M1127 26 = mI M 26 := kp_go kp1116 kp1130
                      have kp1142 : mI M1127 27 = mI M 27 := kp_go kp1117 kp1131
                      have kp1143 : mI M1127 28 = mI M 28 := kp_go kp1118 kp1132
                      refine vc_if_eq dX4_readOne_271 (fun h1144 => by exfalso; omega) (fun h1144 => ?_)
                      refine vc_iconst dX4_readOne_274 rfl ?_
                      refine vc_goto dX4_readOne_275 ?_
                      refine vc_zret dX4_readOne_279 rfl (by first | decide | omega) (Nat.le_of_ble_eq_true rfl) (Nat.le_of_ble_eq_true rfl) ?_
                      exact ⟨_, rfl, hB1139, kp1140, kp1141, kp1142, kp1143, by omega, by omega, by omega, by omega, by omega, Or.inl ⟨by omega, nx g n q1095, by omega, h1138, trivial, kt1124⟩⟩
          · refine vc_aload_n dX4_readOne_185 rfl ?_
            refine vc_iconst dX4_readOne_186 rfl ?_
            refine vc_cVI dX4_readOne_187 (sfX4_failedF (M := M) hB0.1  g n p hR 3 ) rfl okX4_failed viX4_failed lkX4_122 (s_22 hB0.1.1) cl_4 rfl (by show 0 < 11 + 3 * (nf + 1); omega) ⟨rfl, rfl⟩ (Nat.le_of_ble_eq_true rfl) (Nat.le_of_ble_eq_true rfl) (Nat.le_of_ble_eq_true rfl) ?_
            rintro x1145 M1146 ⟨hB1147, kp1148, kp1149, kp1150, kp1151, h1152, h1153, h1154, h1155, h1156, h1157, h1158⟩
            have hB1159 : BD M M1146 := BD.go hB0 hB1147
            have kp1160 : mI M1146 24 = mI M 24 := kp_go rfl kp1148
            have kp1161 : mI M1146 26 = mI M 26 := kp_go rfl kp1149
            have kp1162 : mI M1146 27 = mI M 27 := kp_go rfl kp1150
            have kp1163 : mI M1146 28 = mI M 28 := kp_go rfl kp1151
            refine vc_zret dX4_readOne_190 rfl (by first | decide | omega) (Nat.le_of_ble_eq_true rfl) (Nat.le_of_ble_eq_true rfl) ?_
            exact ⟨_, rfl, hB1159, kp1160, kp1161, kp1162, kp1163, by omega, by omega, by omega, by omega, by omega, Or.inr ⟨by omega, by omega, by rw [h1157, h1158]; first | exact r_two3 (by omega) (by omega) | exact r_par3 (by omega) (by omega) | exact r_neg3 (by omega) (by omega)⟩⟩
        · refine vc_aload_n dX4_readOne_136 rfl ?_
          refine vc_getI dX4_readOne_137 flX4_119 (s_22 hB0.1.1) rfl ?_
          refine vc_bipush dX4_readOne_140 rfl ?_
          refine vc_icmp_ne dX4_readOne_142 (fun h1164 => ?_) (fun h1164 => ?_)
          · refine vc_iconst dX4_readOne_149 rfl ?_
            refine vc_istore_n dX4_readOne_150 (Nat.le_of_ble_eq_true rfl) rfl (show _ = [some (aR 22), some (aI d), some (aI 0), none] from rfl) ?_
            refine vc_iload_n dX4_readOne_151 rfl ?_
            refine vc_if_ne dX4_readOne_152 (fun h1165 => by exfalso; omega) (fun h1165 => ?_)
            refine vc_aload_n dX4_readOne_155 rfl ?_
            refine vc_bipush dX4_readOne_156 rfl ?_
            refine vc_cVI dX4_readOne_158 (sfX4_isSignF (M := M) hB0.1  40 ) rfl okX4_isSign viX4_isSign lkX4_163 (s_22 hB0.1.1) cl_4 rfl (by show 0 < 11 + 3 * (nf + 1); omega) ⟨rfl, rfl⟩ (Nat.le_of_ble_eq_true rfl) (Nat.le_of_ble_eq_true rfl) (Nat.le_of_ble_eq_true rfl) ?_
            rintro x1166 _ ⟨rfl, h1167, h1168, h1169⟩
            refine vc_if_ne dX4_readOne_161 (fun h1170 => ?_) (fun h1170 => ?_)
            · refine vc_iload_n dX4_readOne_179 rfl ?_
              refine vc_bipush dX4_readOne_180 rfl ?_
              refine vc_icmp_lt dX4_readOne_182 (fun h1171 => ?_) (fun h1171 => ?_)
              · refine vc_aload_n dX4_readOne_191 rfl ?_
                refine vc_getI dX4_readOne_192 flX4_119 (s_22 hB0.1.1) rfl ?_
                refine vc_nameI (fun x1172 ex1172 => ?_)
                refine vc_istore_n dX4_readOne_195 (Nat.le_of_ble_eq_true rfl) rfl (show _ = [some (aR 22), some (aI d), some (aI 0), some (aI x1172)] from rfl) ?_
                refine vc_aload_n dX4_readOne_196 rfl ?_
                refine vc_cVI dX4_readOne_197 (sfX4_takeTokenF (M := M) hB0.1  g n p hR (by omega)) rfl okX4_takeToken viX4_takeToken lkX4_65 (s_22 hB0.1.1) cl_4 rfl (by show 0 < 11 + 3 * (nf + 1); omega) ⟨rfl, rfl⟩ (Nat.le_of_ble_eq_true rfl) (Nat.le_of_ble_eq_true rfl) (Nat.le_of_ble_eq_true rfl) ?_
                rintro x1173 M1174 ⟨hB1175, kp1176, kp1177, kp1178, kp1179, h1180, h1181, h1182, h1183, h1184, h1185⟩
                have hB1186 : BD M M1174 := BD.go hB0 hB1175
                have kp1187 : mI M1174 24 = mI M 24 := kp_go rfl kp1176
                have kp1188 : mI M1174 26 = mI M 26 := kp_go rfl kp1177
                have kp1189 : mI M1174 27 = mI M 27 := kp_go rfl kp1178
                have kp1190 : mI M1174 28 = mI M 28 := kp_go rfl kp1179
                refine vc_pop dX4_readOne_200 rfl ?_
                refine vc_iload_n dX4_readOne_201 rfl ?_
                refine vc_if_eq dX4_readOne_202 (fun h1191 => ?_) (fun h1191 => by exfalso; omega)
                refine vc_iload_n dX4_readOne_280 rfl ?_
                refine vc_bipush dX4_readOne_281 rfl ?_
                refine vc_icmp_ne dX4_readOne_283 (fun h1192 => ?_) (fun h1192 => by exfalso; omega)
                have kt1193 : ∀ o, Rn (tk g n) (nx g n) w (2 :: sk) false (nx g n p) o → Rn (tk g n) (nx g n) w sk false p o := fun o r => r_neg (by omega) (by omega) r
                refine vc_aload_n dX4_readOne_311 rfl ?_
                refine vc_iload_n dX4_readOne_312 rfl ?_
                refine vc_iconst dX4_readOne_313 rfl ?_
                refine vc_iaddE dX4_readOne_314 (by omega) (by omega) ?_
                refine vc_cVI dX4_readOne_315 (ho (M := M1174) hB1186.1  (d + 1) (by omega) (by omega) g n (nx g n p) h1185 w (2 :: sk) (by first | (rw [List.length_cons]; omega) | omega) (by rw [show mI M1174 22 14 = mI M 22 14 by omega]; exact hw) (by omega)) rfl (okX4_readOne (11 + 3 * nf)) (viX4_readOne (11 + 3 * nf)) (lkX4_179 (11 + 3 * nf)) (s_22 hB1186.1.1) cl_4 rfl (by show (11 + 3 * nf) < 11 + 3 * (nf + 1); omega) ⟨rfl, rfl⟩ (Nat.le_of_ble_eq_true rfl) (Nat.le_of_ble_eq_true rfl) (Nat.le_of_ble_eq_true rfl) ?_
                rintro x1194 M1195 ⟨hB1196, kp1197, kp1198, kp1199, kp1200, h1201, h1202, h1203, h1204, h1205, h1206⟩
                have hB1207 : BD M M1195 := BD.go hB1186 hB1196
                have kp1208 : mI M1195 24 = mI M 24 := kp_go kp1187 kp1197
                have kp1209 : mI M1195 26 = mI M 26 := kp_go kp1188 kp1198
                have kp1210 : mI M1195 27 = mI M 27 := kp_go kp1189 kp1199
                have kp1211 : mI M1195 28 = mI M 28 := kp_go kp1190 kp1200
                refine vc_if_eq dX4_readOne_318 (fun h1212 => ?_) (fun h1212 => ?_)
                · refine vc_iconst dX4_readOne_335 rfl ?_
                  refine vc_zret dX4_readOne_336 rfl (by first | decide | omega) (Nat.le_of_ble_eq_true rfl) (Nat.le_of_ble_eq_true rfl) ?_
                  exact ⟨_, rfl, hB1207, kp1208, kp1209, kp1210, kp1211, by omega, by omega, by omega, by omega, by omega, Or.inr ⟨by omega, (LR.bad h1206 (by omega)).1, kt1193 _ (LR.bad h1206 (by omega)).2⟩⟩
                · obtain ⟨q1213, hl1214, hR1215, hE1216, hk1217⟩ := LR.ok h1206 (by omega)
                  have kt1218 : ∀ o, Rn (tk g n) (nx g n) w (dm sk) true q1213 o → Rn (tk g n) (nx g n) w sk false p o := fun o r => kt1193 o (hk1217 o r)
                  refine vc_aload_n dX4_readOne_321 rfl ?_
                  refine vc_sipush dX4_readOne_322 rfl ?_
                  refine vc_cVI dX4_readOne_325 (sfX4_emitF (M := M1195) hB1207.1  g n q1213 hR1215 20006 ) rfl okX4_emit viX4_emit lkX4_176 (s_22 hB1207.1.1) cl_4 rfl (by show 0 < 11 + 3 * (nf + 1); omega) ⟨rfl, rfl⟩ (Nat.le_of_ble_eq_true rfl) (Nat.le_of_ble_eq_true rfl) (Nat.le_of_ble_eq_true rfl) ?_
                  rintro x1219 M1220 ⟨hB1221, kp1222, kp1223, kp1224, kp1225, h1226, h1227, h1228, h1229, h1230, h1231⟩
                  have hB1232 : BD M M1220 := BD.go hB1207 hB1221
                  have kp1233 : mI M1220 24 = mI M 24 := kp_go kp1208 kp1222
                  have kp1234 : mI M1220 26 = mI M 26 := kp_go kp1209 kp1223
                  have kp1235 : mI M1220 27 = mI M 27 := kp_go kp1210 kp1224
                  have kp1236 : mI M1220 28 = mI M 28 := kp_go kp1211 kp1225
                  refine vc_if_eq dX4_readOne_328 (fun h1237 => by exfalso; omega) (fun h1237 => ?_)
                  refine vc_iconst dX4_readOne_331 rfl ?_
                  refine vc_goto dX4_readOne_332 ?_
                  refine vc_zret dX4_readOne_336 rfl (by first | decide | omega) (Nat.le_of_ble_eq_true rfl) (Nat.le_of_ble_eq_true rfl) ?_
                  exact ⟨_, rfl, hB1232, kp1233, kp1234, kp1235, kp1236, by omega, by omega, by omega, by omega, by omega, Or.inl ⟨by omega, q1213, by omega, h1231, trivial, kt1218⟩⟩
              · refine vc_aload_n dX4_readOne_185 rfl ?_
                refine vc_iconst dX4_readOne_186 rfl ?_
                refine vc_cVI dX4_readOne_187 (sfX4_failedF (M := M) hB0.1  g n p hR 3 ) rfl okX4_failed viX4_failed lkX4_122 (s_22 hB0.1.1) cl_4 rfl (by show 0 < 11 + 3 * (nf + 1); omega) ⟨rfl, rfl⟩ (Nat.le_of_ble_eq_true rfl) (Nat.le_of_ble_eq_true rfl) (Nat.le_of_ble_eq_true rfl) ?_
                rintro x1238 M1239 ⟨hB1240, kp1241, kp1242, kp1243, kp1244, h1245, h1246, h1247, h1248, h1249, h1250, h1251⟩
                have hB1252 : BD M M1239 := BD.go hB0 hB1240
                have kp1253 : mI M1239 24 = mI M 24 := kp_go rfl kp1241
                have kp1254 : mI M1239 26 = mI M 26 := kp_go rfl kp1242
                have kp1255 : mI M1239 27 = mI M 27 := kp_go rfl kp1243
                have kp1256 : mI M1239 28 = mI M 28 := kp_go rfl kp1244
                refine vc_zret dX4_readOne_190 rfl (by first | decide | omega) (Nat.le_of_ble_eq_true rfl) (Nat.le_of_ble_eq_true rfl) ?_
                exact ⟨_, rfl, hB1252, kp1253, kp1254, kp1255, kp1256, by omega, by omega, by omega, by omega, by omega, Or.inr ⟨by omega, by omega, by rw [h1250, h1251]; first | exact r_two3 (by omega) (by omega) | exact r_par3 (by omega) (by omega) | exact r_neg3 (by omega) (by omega)⟩⟩
            · refine vc_aload_n dX4_readOne_164 rfl ?_
              refine vc_bipush dX4_readOne_165 rfl ?_
              refine vc_cVI dX4_readOne_167 (sfX4_isSignF (M := M) hB0.1  45 ) rfl okX4_isSign viX4_isSign lkX4_163 (s_22 hB0.1.1) cl_4 rfl (by show 0 < 11 + 3 * (nf + 1); omega) ⟨rfl, rfl⟩ (Nat.le_of_ble_eq_true rfl) (Nat.le_of_ble_eq_true rfl) (Nat.le_of_ble_eq_true rfl) ?_
              rintro x1257 _ ⟨rfl, h1258, h1259, h1260⟩
              refine vc_if_ne dX4_readOne_170 (fun h1261 => ?_) (fun h1261 => ?_)
              · refine vc_iload_n dX4_readOne_179 rfl ?_
                refine vc_bipush dX4_readOne_180 rfl ?_
                refine vc_icmp_lt dX4_readOne_182 (fun h1262 => ?_) (fun h1262 => ?_)
                · refine vc_aload_n dX4_readOne_191 rfl ?_
                  refine vc_getI dX4_readOne_192 flX4_119 (s_22 hB0.1.1) rfl ?_
                  refine vc_nameI (fun x1263 ex1263 => ?_)
                  refine vc_istore_n dX4_readOne_195 (Nat.le_of_ble_eq_true rfl) rfl (show _ = [some (aR 22), some (aI d), some (aI 0), some (aI x1263)] from rfl) ?_
                  refine vc_aload_n dX4_readOne_196 rfl ?_
                  refine vc_cVI dX4_readOne_197 (sfX4_takeTokenF (M := M) hB0.1  g n p hR (by omega)) rfl okX4_takeToken viX4_takeToken lkX4_65 (s_22 hB0.1.1) cl_4 rfl (by show 0 < 11 + 3 * (nf + 1); omega) ⟨rfl, rfl⟩ (Nat.le_of_ble_eq_true rfl) (Nat.le_of_ble_eq_true rfl) (Nat.le_of_ble_eq_true rfl) ?_
                  rintro x1264 M1265 ⟨hB1266, kp1267, kp1268, kp1269, kp1270, h1271, h1272, h1273, h1274, h1275, h1276⟩
                  have hB1277 : BD M M1265 := BD.go hB0 hB1266
                  have kp1278 : mI M1265 24 = mI M 24 := kp_go rfl kp1267
                  have kp1279 : mI M1265 26 = mI M 26 := kp_go rfl kp1268
                  have kp1280 : mI M1265 27 = mI M 27 := kp_go rfl kp1269
                  have kp1281 : mI M1265 28 = mI M 28 := kp_go rfl kp1270
                  refine vc_pop dX4_readOne_200 rfl ?_
                  refine vc_iload_n dX4_readOne_201 rfl ?_
                  refine vc_if_eq dX4_readOne_202 (fun h1282 => ?_) (fun h1282 => by exfalso; omega)
                  refine vc_iload_n dX4_readOne_280 rfl ?_
                  refine vc_bipush dX4_readOne_281 rfl ?_
                  refine vc_icmp_ne dX4_readOne_283 (fun h1283 => ?_) (fun h1283 => by exfalso; omega)
                  have kt1284 : ∀ o, Rn (tk g n) (nx g n) w (2 :: sk) false (nx g n p) o → Rn (tk g n) (nx g n) w sk false p o := fun o r => r_neg (by omega) (by omega) r
                  refine vc_aload_n dX4_readOne_311 rfl ?_
                  refine vc_iload_n dX4_readOne_312 rfl ?_
                  refine vc_iconst dX4_readOne_313 rfl ?_
                  refine vc_iaddE dX4_readOne_314 (by omega) (by omega) ?_
                  refine vc_cVI dX4_readOne_315 (ho (M := M1265) hB1277.1  (d + 1) (by omega) (by omega) g n (nx g n p) h1276 w (2 :: sk) (by first | (rw [List.length_cons]; omega) | omega) (by rw [show mI M1265 22 14 = mI M 22 14 by omega]; exact hw) (by omega)) rfl (okX4_readOne (11 + 3 * nf)) (viX4_readOne (11 + 3 * nf)) (lkX4_179 (11 + 3 * nf)) (s_22 hB1277.1.1) cl_4 rfl (by show (11 + 3 * nf) < 11 + 3 * (nf + 1); omega) ⟨rfl, rfl⟩ (Nat.le_of_ble_eq_true rfl) (Nat.le_of_ble_eq_true rfl) (Nat.le_of_ble_eq_true rfl) ?_
                  rintro x1285 M1286 ⟨hB1287, kp1288, kp1289, kp1290, kp1291, h1292, h1293, h1294, h1295, h1296, h1297⟩
                  have hB1298 : BD M M1286 := BD.go hB1277 hB1287
                  have kp1299 : mI M1286 24 = mI M 24 := kp_go kp1278 kp1288
                  have kp1300 : mI M1286 26 = mI M 26 := kp_go kp1279 kp1289
                  have kp1301 : mI M1286 27 = mI M 27 := kp_go kp1280 kp1290
                  have kp1302 : mI M1286 28 = mI M 28 := kp_go kp1281 kp1291
                  refine vc_if_eq dX4_readOne_318 (fun h1303 => ?_) (fun h1303 => ?_)
                  · refine vc_iconst dX4_readOne_335 rfl ?_
                    refine vc_zret dX4_readOne_336 rfl (by first | decide | omega) (Nat.le_of_ble_eq_true rfl) (Nat.le_of_ble_eq_true rfl) ?_
                    exact ⟨_, rfl, hB1298, kp1299, kp1300, kp1301, kp1302, by omega, by omega, by omega, by omega, by omega, Or.inr ⟨by omega, (LR.bad h1297 (by omega)).1, kt1284 _ (LR.bad h1297 (by omega)).2⟩⟩
                  · obtain ⟨q1304, hl1305, hR1306, hE1307, hk1308⟩ := LR.ok h1297 (by omega)
                    have kt1309 : ∀ o, Rn (tk g n) (nx g n) w (dm sk) true q1304 o → Rn (tk g n) (nx g n) w sk false p o := fun o r => kt1284 o (hk1308 o r)
                    refine vc_aload_n dX4_readOne_321 rfl ?_
                    refine vc_sipush dX4_readOne_322 rfl ?_
                    refine vc_cVI dX4_readOne_325 (sfX4_emitF (M := M1286) hB1298.1  g n q1304 hR1306 20006 ) rfl okX4_emit viX4_emit lkX4_176 (s_22 hB1298.1.1) cl_4 rfl (by show 0 < 11 + 3 * (nf + 1); omega) ⟨rfl, rfl⟩ (Nat.le_of_ble_eq_true rfl) (Nat.le_of_ble_eq_true rfl) (Nat.le_of_ble_eq_true rfl) ?_
                    rintro x1310 M1311 ⟨hB1312, kp1313, kp1314, kp1315, kp1316, h1317, h1318, h1319, h1320, h1321, h1322⟩
                    have hB1323 : BD M M1311 := BD.go hB1298 hB1312
                    have kp1324 : mI M1311 24 = mI M 24 := kp_go kp1299 kp1313
                    have kp1325 : mI M1311 26 = mI M 26 := kp_go kp1300 kp1314
                    have kp1326 : mI M1311 27 = mI M 27 := kp_go kp1301 kp1315
                    have kp1327 : mI M1311 28 = mI M 28 := kp_go kp1302 kp1316
                    refine vc_if_eq dX4_readOne_328 (fun h1328 => by exfalso; omega) (fun h1328 => ?_)
                    refine vc_iconst dX4_readOne_331 rfl ?_
                    refine vc_goto dX4_readOne_332 ?_
                    refine vc_zret dX4_readOne_336 rfl (by first | decide | omega) (Nat.le_of_ble_eq_true rfl) (Nat.le_of_ble_eq_true rfl) ?_
                    exact ⟨_, rfl, hB1323, kp1324, kp1325, kp1326, kp1327, by omega, by omega, by omega, by omega, by omega, Or.inl ⟨by omega, q1304, by omega, h1322, trivial, kt1309⟩⟩
                · refine vc_aload_n dX4_readOne_185 rfl ?_
                  refine vc_iconst dX4_readOne_186 rfl ?_
                  refine vc_cVI dX4_readOne_187 (sfX4_failedF (M := M) hB0.1  g n p hR 3 ) rfl okX4_failed viX4_failed lkX4_122 (s_22 hB0.1.1) cl_4 rfl (by show 0 < 11 + 3 * (nf + 1); omega) ⟨rfl, rfl⟩ (Nat.le_of_ble_eq_true rfl) (Nat.le_of_ble_eq_true rfl) (Nat.le_of_ble_eq_true rfl) ?_
                  rintro x1329 M1330 ⟨hB1331, kp1332, kp1333, kp1334, kp1335, h1336, h1337, h1338, h1339, h1340, h1341, h1342⟩
                  have hB1343 : BD M M1330 := BD.go hB0 hB1331
                  have kp1344 : mI M1330 24 = mI M 24 := kp_go rfl kp1332
                  have kp1345 : mI M1330 26 = mI M 26 := kp_go rfl kp1333
                  have kp1346 : mI M1330 27 = mI M 27 := kp_go rfl kp1334
                  have kp1347 : mI M1330 28 = mI M 28 := kp_go rfl kp1335
                  refine vc_zret dX4_readOne_190 rfl (by first | decide | omega) (Nat.le_of_ble_eq_true rfl) (Nat.le_of_ble_eq_true rfl) ?_
                  exact ⟨_, rfl, hB1343, kp1344, kp1345, kp1346, kp1347, by omega, by omega, by omega, by omega, by omega, Or.inr ⟨by omega, by omega, by rw [h1341, h1342]; first | exact r_two3 (by omega) (by omega) | exact r_par3 (by omega) (by omega) | exact r_neg3 (by omega) (by omega)⟩⟩
              · refine vc_aload_n dX4_readOne_173 rfl ?_
                refine vc_iconst dX4_readOne_174 rfl ?_
                refine vc_cVI dX4_readOne_175 (sfX4_failedF (M := M) hB0.1  g n p hR 1 ) rfl okX4_failed viX4_failed lkX4_122 (s_22 hB0.1.1) cl_4 rfl (by show 0 < 11 + 3 * (nf + 1); omega) ⟨rfl, rfl⟩ (Nat.le_of_ble_eq_true rfl) (Nat.le_of_ble_eq_true rfl) (Nat.le_of_ble_eq_true rfl) ?_
                rintro x1348 M1349 ⟨hB1350, kp1351, kp1352, kp1353, kp1354, h1355, h1356, h1357, h1358, h1359, h1360, h1361⟩
                have hB1362 : BD M M1349 := BD.go hB0 hB1350
                have kp1363 : mI M1349 24 = mI M 24 := kp_go rfl kp1351
                have kp1364 : mI M1349 26 = mI M 26 := kp_go rfl kp1352
                have kp1365 : mI M1349 27 = mI M 27 := kp_go rfl kp1353
                have kp1366 : mI M1349 28 = mI M 28 := kp_go rfl kp1354
                refine vc_zret dX4_readOne_178 rfl (by first | decide | omega) (Nat.le_of_ble_eq_true rfl) (Nat.le_of_ble_eq_true rfl) ?_
                exact ⟨_, rfl, hB1362, kp1363, kp1364, kp1365, kp1366, by omega, by omega, by omega, by omega, by omega, Or.inr ⟨by omega, by omega, by rw [h1360, h1361]; exact r_no (by omega) (by omega) (by omega) (by omega) (by omega)⟩⟩
          · refine vc_iconst dX4_readOne_145 rfl ?_
            refine vc_goto dX4_readOne_146 ?_
            refine vc_istore_n dX4_readOne_150 (Nat.le_of_ble_eq_true rfl) rfl (show _ = [some (aR 22), some (aI d), some (aI 1), none] from rfl) ?_
            refine vc_iload_n dX4_readOne_151 rfl ?_
            refine vc_if_ne dX4_readOne_152 (fun h1367 => ?_) (fun h1367 => by exfalso; omega)
            refine vc_iload_n dX4_readOne_179 rfl ?_
            refine vc_bipush dX4_readOne_180 rfl ?_
            refine vc_icmp_lt dX4_readOne_182 (fun h1368 => ?_) (fun h1368 => ?_)
            · refine vc_aload_n dX4_readOne_191 rfl ?_
              refine vc_getI dX4_readOne_192 flX4_119 (s_22 hB0.1.1) rfl ?_
              refine vc_nameI (fun x1369 ex1369 => ?_)
              refine vc_istore_n dX4_readOne_195 (Nat.le_of_ble_eq_true rfl) rfl (show _ = [some (aR 22), some (aI d), some (aI 1), some (aI x1369)] from rfl) ?_
              refine vc_aload_n dX4_readOne_196 rfl ?_
              refine vc_cVI dX4_readOne_197 (sfX4_takeTokenF (M := M) hB0.1  g n p hR (by omega)) rfl okX4_takeToken viX4_takeToken lkX4_65 (s_22 hB0.1.1) cl_4 rfl (by show 0 < 11 + 3 * (nf + 1); omega) ⟨rfl, rfl⟩ (Nat.le_of_ble_eq_true rfl) (Nat.le_of_ble_eq_true rfl) (Nat.le_of_ble_eq_true rfl) ?_
              rintro x1370 M1371 ⟨hB1372, kp1373, kp1374, kp1375, kp1376, h1377, h1378, h1379, h1380, h1381, h1382⟩
              have hB1383 : BD M M1371 := BD.go hB0 hB1372
              have kp1384 : mI M1371 24 = mI M 24 := kp_go rfl kp1373
              have kp1385 : mI M1371 26 = mI M 26 := kp_go rfl kp1374
              have kp1386 : mI M1371 27 = mI M 27 := kp_go rfl kp1375
              have kp1387 : mI M1371 28 = mI M 28 := kp_go rfl kp1376
              refine vc_pop dX4_readOne_200 rfl ?_
              refine vc_iload_n dX4_readOne_201 rfl ?_
              refine vc_if_eq dX4_readOne_202 (fun h1388 => by exfalso; omega) (fun h1388 => ?_)
              refine vc_aload_n dX4_readOne_205 rfl ?_
              refine vc_bipush dX4_readOne_206 rfl ?_
              refine vc_cVI dX4_readOne_208 (sfX4_readWordF (M := M1371) hB1383.1  g n (nx g n p) h1382 19 (by omega) (by omega)) rfl okX4_readWord viX4_readWord lkX4_151 (s_22 hB1383.1.1) cl_4 rfl (by show 1 < 11 + 3 * (nf + 1); omega) ⟨rfl, rfl⟩ (Nat.le_of_ble_eq_true rfl) (Nat.le_of_ble_eq_true rfl) (Nat.le_of_ble_eq_true rfl) ?_
              rintro x1389 M1390 ⟨hB1391, kp1392, kp1393, kp1394, kp1395, h1396, h1397, h1398, h1399, h1400, h1401⟩
              have hB1402 : BD M M1390 := BD.go hB1383 hB1391
              have kp1403 : mI M1390 24 = mI M 24 := kp_go kp1384 kp1392
              have kp1404 : mI M1390 26 = mI M 26 := kp_go kp1385 kp1393
              have kp1405 : mI M1390 27 = mI M 27 := kp_go kp1386 kp1394
              have kp1406 : mI M1390 28 = mI M 28 := kp_go kp1387 kp1395
              refine vc_if_eq dX4_readOne_211 (fun h1407 => ?_) (fun h1407 => ?_)
              · refine vc_iconst dX4_readOne_278 rfl ?_
                refine vc_zret dX4_readOne_279 rfl (by first | decide | omega) (Nat.le_of_ble_eq_true rfl) (Nat.le_of_ble_eq_true rfl) ?_
                have hb1408 := TR.bad h1401 (by omega)
                exact ⟨_, rfl, hB1402, kp1403, kp1404, kp1405, kp1406, by omega, by omega, by omega, by omega, by omega, Or.inr ⟨by omega, by omega, by rw [hb1408.2.1, hb1408.2.2]; exact r_two1 (by omega) (by omega) (by omega)⟩⟩
              · have e1409 := TR.ok h1401 (by omega)
                have he1410 := e1409.1
                have rg1411 := RS.rg h1382
                have kt1412 : ∀ o, Rn (tk g n) (nx g n) w (41 :: sk) false (nx g n (nx g n p)) o → Rn (tk g n) (nx g n) w sk false p o := fun o r => r_two (by omega) (by omega) (by omega) r
                refine vc_aload_n dX4_readOne_214 rfl ?_
                refine vc_iload_n dX4_readOne_215 rfl ?_
                refine vc_iconst dX4_readOne_216 rfl ?_
                refine vc_iaddE dX4_readOne_217 (by omega) (by omega) ?_
                refine vc_cVI dX4_readOne_218 (hs (M := M1390) hB1402.1  (d + 1) (by omega) (by omega) g n (nx g n (nx g n p)) e1409.2 w (41 :: sk) (by first | (rw [List.length_cons]; omega) | omega) rfl (by rw [show mI M1390 22 14 = mI M 22 14 by omega]; exact hw) (by omega)) rfl (okX4_readSum (13 + 3 * nf)) (viX4_readSum (13 + 3 * nf)) (lkX4_132 (13 + 3 * nf)) (s_22 hB1402.1.1) cl_4 rfl (by show (13 + 3 * nf) < 11 + 3 * (nf + 1); omega) ⟨rfl, rfl⟩ (Nat.le_of_ble_eq_true rfl) (Nat.le_of_ble_eq_true rfl) (Nat.le_of_ble_eq_true rfl) ?_
                rintro x1413 M1414 ⟨hB1415, kp1416, kp1417, kp1418, kp1419, h1420, h1421, h1422, h1423, h1424, h1425⟩
                have hB1426 : BD M M1414 := BD.go hB1402 hB1415
                have kp1427 : mI M1414 24 = mI M 24 := kp_go kp1403 kp1416
                have kp1428 : mI M1414 26 = mI M 26 := kp_go kp1404 kp1417
                have kp1429 : mI M1414 27 = mI M 27 := kp_go kp1405 kp1418
                have kp1430 : mI M1414 28 = mI M 28 := kp_go kp1406 kp1419
                refine vc_if_eq dX4_readOne_221 (fun h1431 => ?_) (fun h1431 => ?_)
                · refine vc_iconst dX4_readOne_278 rfl ?_
                  refine vc_zret dX4_readOne_279 rfl (by first | decide | omega) (Nat.le_of_ble_eq_true rfl) (Nat.le_of_ble_eq_true rfl) ?_
                  exact ⟨_, rfl, hB1426, kp1427, kp1428, kp1429, kp1430, by omega, by omega, by omega, by omega, by omega, Or.inr ⟨by omega, (LR.bad h1425 (by omega)).1, kt1412 _ (LR.bad h1425 (by omega)).2⟩⟩
                · obtain ⟨q1432, hl1433, hR1434, hE1435, hk1436⟩ := LR.ok h1425 (by omega)
                  unfold EOp at hE1435
                  have kt1437 : ∀ o, Rn (tk g n) (nx g n) w (41 :: sk) true q1432 o → Rn (tk g n) (nx g n) w sk false p o := fun o r => kt1412 o (hk1436 o r)
                  refine vc_aload_n dX4_readOne_224 rfl ?_
                  refine vc_bipush dX4_readOne_225 rfl ?_
                  refine vc_cVI dX4_readOne_227 (sfX4_readSignF (M := M1414) hB1426.1  g n q1432 hR1434 44 (by omega) (by omega)) rfl okX4_readSign viX4_readSign lkX4_141 (s_22 hB1426.1.1) cl_4 rfl (by show 1 < 11 + 3 * (nf + 1); omega) ⟨rfl, rfl⟩ (Nat.le_of_ble_eq_true rfl) (Nat.le_of_ble_eq_true rfl) (Nat.le_of_ble_eq_true rfl) ?_
                  rintro x1438 M1439 ⟨hB1440, kp1441, kp1442, kp1443, kp1444, h1445, h1446, h1447, h1448, h1449, h1450⟩
                  have hB1451 : BD M M1439 := BD.go hB1426 hB1440
                  have kp1452 : mI M1439 24 = mI M 24 := kp_go kp1427 kp1441
                  have kp1453 : mI M1439 26 = mI M 26 := kp_go kp1428 kp1442
                  have kp1454 : mI M1439 27 = mI M 27 := kp_go kp1429 kp1443
                  have kp1455 : mI M1439 28 = mI M 28 := kp_go kp1430 kp1444
                  refine vc_if_eq dX4_readOne_230 (fun h1456 => ?_) (fun h1456 => ?_)
                  · refine vc_iconst dX4_readOne_278 rfl ?_
                    refine vc_zret dX4_readOne_279 rfl (by first | decide | omega) (Nat.le_of_ble_eq_true rfl) (Nat.le_of_ble_eq_true rfl) ?_
                    have hb1457 := TR.bad h1450 (by omega)
                    exact ⟨_, rfl, hB1451, kp1452, kp1453, kp1454, kp1455, by omega, by omega, by omega, by omega, by omega, Or.inr ⟨by omega, by omega, by rw [hb1457.2.1, hb1457.2.2]; exact kt1437 _ (t_b41 hE1435 (by omega))⟩⟩
                  · have e1458 := TR.ok h1450 (by omega)
                    have he1459 := e1458.1
                    have rg1460 := RS.rg hR1434
                    have kt1461 : ∀ o, Rn (tk g n) (nx g n) w (42 :: sk) false (nx g n q1432) o → Rn (tk g n) (nx g n) w sk false p o := fun o r => kt1437 o (t_com (by omega) r)
                    refine vc_aload_n dX4_readOne_233 rfl ?_
                    refine vc_iload_n dX4_readOne_234 rfl ?_
                    refine vc_iconst dX4_readOne_235 rfl ?_
                    refine vc_iaddE dX4_readOne_236 (by omega) (by omega) ?_
                    refine vc_cVI dX4_readOne_237 (hs (M := M1439) hB1451.1  (d + 1) (by omega) (by omega) g n (nx g n q1432) e1458.2 w (42 :: sk) (by first | (rw [List.length_cons]; omega) | omega) rfl (by rw [show mI M1439 22 14 = mI M 22 14 by omega]; exact hw) (by omega)) rfl (okX4_readSum (13 + 3 * nf)) (viX4_readSum (13 + 3 * nf)) (lkX4_132 (13 + 3 * nf)) (s_22 hB1451.1.1) cl_4 rfl (by show (13 + 3 * nf) < 11 + 3 * (nf + 1); omega) ⟨rfl, rfl⟩ (Nat.le_of_ble_eq_true rfl) (Nat.le_of_ble_eq_true rfl) (Nat.le_of_ble_eq_true rfl) ?_
                    rintro x1462 M1463 ⟨hB1464, kp1465, kp1466, kp1467, kp1468, h1469, h1470, h1471, h1472, h1473, h1474⟩
                    have hB1475 : BD M M1463 := BD.go hB1451 hB1464
                    have kp1476 : mI M1463 24 = mI M 24 := kp_go kp1452 kp1465
                    have kp1477 : mI M1463 26 = mI M 26 := kp_go kp1453 kp1466
                    have kp1478 : mI M1463 27 = mI M 27 := kp_go kp1454 kp1467
                    have kp1479 : mI M1463 28 = mI M 28 := kp_go kp1455 kp1468
                    refine vc_if_eq dX4_readOne_240 (fun h1480 => ?_) (fun h1480 => ?_)
                    · refine vc_iconst dX4_readOne_278 rfl ?_
                      refine vc_zret dX4_readOne_279 rfl (by first | decide | omega) (Nat.le_of_ble_eq_true rfl) (Nat.le_of_ble_eq_true rfl) ?_
                      exact ⟨_, rfl, hB1475, kp1476, kp1477, kp1478, kp1479, by omega, by omega, by omega, by omega, by omega, Or.inr ⟨by omega, (LR.bad h1474 (by omega)).1, kt1461 _ (LR.bad h1474 (by omega)).2⟩⟩
                    · obtain ⟨q1481, hl1482, hR1483, hE1484, hk1485⟩ := LR.ok h1474 (by omega)
                      unfold EOp at hE1484
                      have kt1486 : ∀ o, Rn (tk g n) (nx g n) w (42 :: sk) true q1481 o → Rn (tk g n) (nx g n) w sk false p o := fun o r => kt1461 o (hk1485 o r)
                      refine vc_aload_n dX4_readOne_243 rfl ?_
                      refine vc_bipush dX4_readOne_244 rfl ?_
                      refine vc_cVI dX4_readOne_246 (sfX4_readWordF (M := M1463) hB1475.1  g n q1481 hR1483 20 (by omega) (by omega)) rfl okX4_readWord viX4_readWord lkX4_151 (s_22 hB1475.1.1) cl_4 rfl (by show 1 < 11 + 3 * (nf + 1); omega) ⟨rfl, rfl⟩ (Nat.le_of_ble_eq_true rfl) (Nat.le_of_ble_eq_true rfl) (Nat.le_of_ble_eq_true rfl) ?_
                      rintro x1487 M1488 ⟨hB1489, kp1490, kp1491, kp1492, kp1493, h1494, h1495, h1496, h1497, h1498, h1499⟩
                      have hB1500 : BD M M1488 := BD.go hB1475 hB1489
                      have kp1501 : mI M1488 24 = mI M 24 := kp_go kp1476 kp1490
                      have kp1502 : mI M1488 26 = mI M 26 := kp_go kp1477 kp1491
                      have kp1503 : mI M1488 27 = mI M 27 := kp_go kp1478 kp1492
                      have kp1504 : mI M1488 28 = mI M 28 := kp_go kp1479 kp1493
                      refine vc_if_eq dX4_readOne_249 (fun h1505 => ?_) (fun h1505 => ?_)
                      · refine vc_iconst dX4_readOne_278 rfl ?_
                        refine vc_zret dX4_readOne_279 rfl (by first | decide | omega) (Nat.le_of_ble_eq_true rfl) (Nat.le_of_ble_eq_true rfl) ?_
                        have hb1506 := TR.bad h1499 (by omega)
                        exact ⟨_, rfl, hB1500, kp1501, kp1502, kp1503, kp1504, by omega, by omega, by omega, by omega, by omega, Or.inr ⟨by omega, by omega, by rw [hb1506.2.1, hb1506.2.2]; exact kt1486 _ (t_b42 hE1484 (by omega))⟩⟩
                      · have e1507 := TR.ok h1499 (by omega)
                        have he1508 := e1507.1
                        have rg1509 := RS.rg hR1483
                        have kt1510 : ∀ o, Rn (tk g n) (nx g n) w (dm sk) true (nx g n q1481) o → Rn (tk g n) (nx g n) w sk false p o := fun o r => kt1486 o (t_end (by omega) r)
                        refine vc_aload_n dX4_readOne_252 rfl ?_
                        refine vc_iload_n dX4_readOne_253 rfl ?_
                        refine vc_bipush dX4_readOne_254 rfl ?_
                        refine vc_icmp_ne dX4_readOne_256 (fun h1511 => ?_) (fun h1511 => by exfalso; omega)
                        refine vc_sipush dX4_readOne_265 rfl ?_
                        refine vc_cVI dX4_readOne_268 (sfX4_emitF (M := M1488) hB1500.1  g n (nx g n q1481) e1507.2 20005 ) rfl okX4_emit viX4_emit lkX4_176 (s_22 hB1500.1.1) cl_4 rfl (by show 0 < 11 + 3 * (nf + 1); omega) ⟨rfl, rfl⟩ (Nat.le_of_ble_eq_true rfl) (Nat.le_of_ble_eq_true rfl) (Nat.le_of_ble_eq_true rfl) ?_
                        rintro x1512 M1513 ⟨hB1514, kp1515, kp1516, kp1517, kp1518, h1519, h1520, h1521, h1522, h1523, h1524⟩
                        have hB1525 : BD M M1513 := BD.go hB1500 hB1514
                        have kp1526 : mI M1513 24 = mI M 24 := kp_go kp1501 kp1515
                        have kp1527 : mI M1513 26 = mI M 26 := kp_go kp1502 kp1516
                        have kp1528 : mI M1513 27 = mI M 27 := kp_go kp1503 kp1517
                        have kp1529 : mI M1513 28 = mI M 28 := kp_go kp1504 kp1518
                        refine vc_if_eq dX4_readOne_271 (fun h1530 => by exfalso; omega) (fun h1530 => ?_)
                        refine vc_iconst dX4_readOne_274 rfl ?_
                        refine vc_goto dX4_readOne_275 ?_
                        refine vc_zret dX4_readOne_279 rfl (by first | decide | omega) (Nat.le_of_ble_eq_true rfl) (Nat.le_of_ble_eq_true rfl) ?_
                        exact ⟨_, rfl, hB1525, kp1526, kp1527, kp1528, kp1529, by omega, by omega, by omega, by omega, by omega, Or.inl ⟨by omega, nx g n q1481, by omega, h1524, trivial, kt1510⟩⟩
            · refine vc_aload_n dX4_readOne_185 rfl ?_
              refine vc_iconst dX4_readOne_186 rfl ?_
              refine vc_cVI dX4_readOne_187 (sfX4_failedF (M := M) hB0.1  g n p hR 3 ) rfl okX4_failed viX4_failed lkX4_122 (s_22 hB0.1.1) cl_4 rfl (by show 0 < 11 + 3 * (nf + 1); omega) ⟨rfl, rfl⟩ (Nat.le_of_ble_eq_true rfl) (Nat.le_of_ble_eq_true rfl) (Nat.le_of_ble_eq_true rfl) ?_
              rintro x1531 M1532 ⟨hB1533, kp1534, kp1535, kp1536, kp1537, h1538, h1539, h1540, h1541, h1542, h1543, h1544⟩
              have hB1545 : BD M M1532 := BD.go hB0 hB1533
              have kp1546 : mI M1532 24 = mI M 24 := kp_go rfl kp1534
              have kp1547 : mI M1532 26 = mI M 26 := kp_go rfl kp1535
              have kp1548 : mI M1532 27 = mI M 27 := kp_go rfl kp1536
              have kp1549 : mI M1532 28 = mI M 28 := kp_go rfl kp1537
              refine vc_zret dX4_readOne_190 rfl (by first | decide | omega) (Nat.le_of_ble_eq_true rfl) (Nat.le_of_ble_eq_true rfl) ?_
              exact ⟨_, rfl, hB1545, kp1546, kp1547, kp1548, kp1549, by omega, by omega, by omega, by omega, by omega, Or.inr ⟨by omega, by omega, by rw [h1543, h1544]; first | exact r_two3 (by omega) (by omega) | exact r_par3 (by omega) (by omega) | exact r_neg3 (by omega) (by omega)⟩⟩
      · refine vc_aload_n dX4_readOne_67 rfl ?_
        refine vc_getI dX4_readOne_68 flX4_119 (s_22 hB0.1.1) rfl ?_
        refine vc_bipush dX4_readOne_71 rfl ?_
        refine vc_isubE dX4_readOne_73 (by omega) (by omega) ?_
        refine vc_nameI (fun x1550 ex1550 => ?_)
        refine vc_istore_n dX4_readOne_74 (Nat.le_of_ble_eq_true rfl) rfl (show _ = [some (aR 22), some (aI d), some (aI x1550), none] from rfl) ?_
        have hnm := nm_iff (m := x1550) hw (by omega) (by omega)
        refine vc_aload_n dX4_readOne_75 rfl ?_
        refine vc_getI dX4_readOne_76 flX4_170 (s_22 hB0.1.1) rfl ?_
        refine vc_iload_n dX4_readOne_79 rfl ?_
        refine vc_ishr dX4_readOne_80 ?_
        refine vc_iconst dX4_readOne_81 rfl ?_
        refine vc_iandM dX4_readOne_82 2 1 rfl (Nat.le_of_ble_eq_true rfl) rfl ?_
        refine vc_if_ne dX4_readOne_83 (fun h1551 => ?_) (fun h1551 => ?_)
        · refine vc_aload_n dX4_readOne_94 rfl ?_
          refine vc_sipush dX4_readOne_95 rfl ?_
          refine vc_iload_n dX4_readOne_98 rfl ?_
          refine vc_iaddE dX4_readOne_99 (by omega) (by omega) ?_
          refine vc_cVI dX4_readOne_100 (sfX4_emitF (M := M) hB0.1  g n p hR (10000 + x1550) ) rfl okX4_emit viX4_emit lkX4_176 (s_22 hB0.1.1) cl_4 rfl (by show 0 < 11 + 3 * (nf + 1); omega) ⟨rfl, rfl⟩ (Nat.le_of_ble_eq_true rfl) (Nat.le_of_ble_eq_true rfl) (Nat.le_of_ble_eq_true rfl) ?_
          rintro x1552 M1553 ⟨hB1554, kp1555, kp1556, kp1557, kp1558, h1559, h1560, h1561, h1562, h1563, h1564⟩
          have hB1565 : BD M M1553 := BD.go hB0 hB1554
          have kp1566 : mI M1553 24 = mI M 24 := kp_go rfl kp1555
          have kp1567 : mI M1553 26 = mI M 26 := kp_go rfl kp1556
          have kp1568 : mI M1553 27 = mI M 27 := kp_go rfl kp1557
          have kp1569 : mI M1553 28 = mI M 28 := kp_go rfl kp1558
          refine vc_if_eq dX4_readOne_103 (fun h1570 => by exfalso; omega) (fun h1570 => ?_)
          refine vc_aload_n dX4_readOne_106 rfl ?_
          refine vc_cVI dX4_readOne_107 (sfX4_takeTokenF (M := M1553) hB1565.1  g n p h1564 (by omega)) rfl okX4_takeToken viX4_takeToken lkX4_65 (s_22 hB1565.1.1) cl_4 rfl (by show 0 < 11 + 3 * (nf + 1); omega) ⟨rfl, rfl⟩ (Nat.le_of_ble_eq_true rfl) (Nat.le_of_ble_eq_true rfl) (Nat.le_of_ble_eq_true rfl) ?_
          rintro x1571 M1572 ⟨hB1573, kp1574, kp1575, kp1576, kp1577, h1578, h1579, h1580, h1581, h1582, h1583⟩
          have hB1584 : BD M M1572 := BD.go hB1565 hB1573
          have kp1585 : mI M1572 24 = mI M 24 := kp_go kp1566 kp1574
          have kp1586 : mI M1572 26 = mI M 26 := kp_go kp1567 kp1575
          have kp1587 : mI M1572 27 = mI M 27 := kp_go kp1568 kp1576
          have kp1588 : mI M1572 28 = mI M 28 := kp_go kp1569 kp1577
          refine vc_if_eq dX4_readOne_110 (fun h1589 => by exfalso; omega) (fun h1589 => ?_)
          refine vc_iconst dX4_readOne_113 rfl ?_
          refine vc_goto dX4_readOne_114 ?_
          refine vc_zret dX4_readOne_118 rfl (by first | decide | omega) (Nat.le_of_ble_eq_true rfl) (Nat.le_of_ble_eq_true rfl) ?_
          exact ⟨_, rfl, hB1584, kp1585, kp1586, kp1587, kp1588, by omega, by omega, by omega, by omega, by omega, Or.inl ⟨by omega, nx g n p, by omega, h1583, trivial, (fun o r => r_nam (by omega) (by omega) (by rw [show tk g n p - 128 = x1550 by omega]; exact Decidable.of_not_not (fun hh => by have := hnm.mpr hh; omega)) r)⟩⟩
        · refine vc_aload_n dX4_readOne_86 rfl ?_
          refine vc_iconst dX4_readOne_87 rfl ?_
          refine vc_cVI dX4_readOne_88 (sfX4_failedF (M := M) hB0.1  g n p hR 5 ) rfl okX4_failed viX4_failed lkX4_122 (s_22 hB0.1.1) cl_4 rfl (by show 0 < 11 + 3 * (nf + 1); omega) ⟨rfl, rfl⟩ (Nat.le_of_ble_eq_true rfl) (Nat.le_of_ble_eq_true rfl) (Nat.le_of_ble_eq_true rfl) ?_
          rintro x1590 M1591 ⟨hB1592, kp1593, kp1594, kp1595, kp1596, h1597, h1598, h1599, h1600, h1601, h1602, h1603⟩
          have hB1604 : BD M M1591 := BD.go hB0 hB1592
          have kp1605 : mI M1591 24 = mI M 24 := kp_go rfl kp1593
          have kp1606 : mI M1591 26 = mI M 26 := kp_go rfl kp1594
          have kp1607 : mI M1591 27 = mI M 27 := kp_go rfl kp1595
          have kp1608 : mI M1591 28 = mI M 28 := kp_go rfl kp1596
          refine vc_goto dX4_readOne_91 ?_
          refine vc_zret dX4_readOne_118 rfl (by first | decide | omega) (Nat.le_of_ble_eq_true rfl) (Nat.le_of_ble_eq_true rfl) ?_
          exact ⟨_, rfl, hB1604, kp1605, kp1606, kp1607, kp1608, by omega, by omega, by omega, by omega, by omega, Or.inr ⟨by omega, by omega, by rw [h1602, h1603]; exact r_bad (by omega) (by omega) (by rw [show tk g n p - 128 = x1550 by omega]; exact hnm.mp (by omega))⟩⟩
  · refine vc_aload_n dX4_readOne_8 rfl ?_
    refine vc_getI dX4_readOne_9 flX4_119 (s_22 hB0.1.1) rfl ?_
    refine vc_sipush dX4_readOne_12 rfl ?_
    refine vc_icmp_le dX4_readOne_15 (fun h1609 => ?_) (fun h1609 => ?_)
    · refine vc_aload_n dX4_readOne_26 rfl ?_
      refine vc_aload_n dX4_readOne_27 rfl ?_
      refine vc_getI dX4_readOne_28 flX4_119 (s_22 hB0.1.1) rfl ?_
      refine vc_cVI dX4_readOne_31 (sfX4_emitF (M := M) hB0.1  g n p hR (mI M 22 11) ) rfl okX4_emit viX4_emit lkX4_176 (s_22 hB0.1.1) cl_4 rfl (by show 0 < 11 + 3 * (nf + 1); omega) ⟨rfl, rfl⟩ (Nat.le_of_ble_eq_true rfl) (Nat.le_of_ble_eq_true rfl) (Nat.le_of_ble_eq_true rfl) ?_
      rintro x1610 M1611 ⟨hB1612, kp1613, kp1614, kp1615, kp1616, h1617, h1618, h1619, h1620, h1621, h1622⟩
      have hB1623 : BD M M1611 := BD.go hB0 hB1612
      have kp1624 : mI M1611 24 = mI M 24 := kp_go rfl kp1613
      have kp1625 : mI M1611 26 = mI M 26 := kp_go rfl kp1614
      have kp1626 : mI M1611 27 = mI M 27 := kp_go rfl kp1615
      have kp1627 : mI M1611 28 = mI M 28 := kp_go rfl kp1616
      refine vc_if_eq dX4_readOne_34 (fun h1628 => by exfalso; omega) (fun h1628 => ?_)
      refine vc_aload_n dX4_readOne_37 rfl ?_
      refine vc_cVI dX4_readOne_38 (sfX4_takeTokenF (M := M1611) hB1623.1  g n p h1622 (by omega)) rfl okX4_takeToken viX4_takeToken lkX4_65 (s_22 hB1623.1.1) cl_4 rfl (by show 0 < 11 + 3 * (nf + 1); omega) ⟨rfl, rfl⟩ (Nat.le_of_ble_eq_true rfl) (Nat.le_of_ble_eq_true rfl) (Nat.le_of_ble_eq_true rfl) ?_
      rintro x1629 M1630 ⟨hB1631, kp1632, kp1633, kp1634, kp1635, h1636, h1637, h1638, h1639, h1640, h1641⟩
      have hB1642 : BD M M1630 := BD.go hB1623 hB1631
      have kp1643 : mI M1630 24 = mI M 24 := kp_go kp1624 kp1632
      have kp1644 : mI M1630 26 = mI M 26 := kp_go kp1625 kp1633
      have kp1645 : mI M1630 27 = mI M 27 := kp_go kp1626 kp1634
      have kp1646 : mI M1630 28 = mI M 28 := kp_go kp1627 kp1635
      refine vc_if_eq dX4_readOne_41 (fun h1647 => by exfalso; omega) (fun h1647 => ?_)
      refine vc_iconst dX4_readOne_44 rfl ?_
      refine vc_goto dX4_readOne_45 ?_
      refine vc_zret dX4_readOne_49 rfl (by first | decide | omega) (Nat.le_of_ble_eq_true rfl) (Nat.le_of_ble_eq_true rfl) ?_
      exact ⟨_, rfl, hB1642, kp1643, kp1644, kp1645, kp1646, by omega, by omega, by omega, by omega, by omega, Or.inl ⟨by omega, nx g n p, by omega, h1641, trivial, (fun o r => r_num (by omega) (by omega) r)⟩⟩
    · refine vc_aload_n dX4_readOne_18 rfl ?_
      refine vc_iconst dX4_readOne_19 rfl ?_
      refine vc_cVI dX4_readOne_20 (sfX4_failedF (M := M) hB0.1  g n p hR 2 ) rfl okX4_failed viX4_failed lkX4_122 (s_22 hB0.1.1) cl_4 rfl (by show 0 < 11 + 3 * (nf + 1); omega) ⟨rfl, rfl⟩ (Nat.le_of_ble_eq_true rfl) (Nat.le_of_ble_eq_true rfl) (Nat.le_of_ble_eq_true rfl) ?_
      rintro x1648 M1649 ⟨hB1650, kp1651, kp1652, kp1653, kp1654, h1655, h1656, h1657, h1658, h1659, h1660, h1661⟩
      have hB1662 : BD M M1649 := BD.go hB0 hB1650
      have kp1663 : mI M1649 24 = mI M 24 := kp_go rfl kp1651
      have kp1664 : mI M1649 26 = mI M 26 := kp_go rfl kp1652
      have kp1665 : mI M1649 27 = mI M 27 := kp_go rfl kp1653
      have kp1666 : mI M1649 28 = mI M 28 := kp_go rfl kp1654
      refine vc_goto dX4_readOne_23 ?_
      refine vc_zret dX4_readOne_49 rfl (by first | decide | omega) (Nat.le_of_ble_eq_true rfl) (Nat.le_of_ble_eq_true rfl) ?_
      exact ⟨_, rfl, hB1662, kp1663, kp1664, kp1665, kp1666, by omega, by omega, by omega, by omega, by omega, Or.inr ⟨by omega, by omega, by rw [h1660, h1661]; exact r_big (by omega)⟩⟩

set_option maxRecDepth 4000 in
theorem ld_prod {l : Launch} {nf : Nat} (ho : LdO l nf) : LdP l nf := by
  intro M hB d p0 p1 g n p hR w sk hl hd hw hnf
  have hB0 := BD.start hB
  refine Call.of [some (aR 22), some (aI d), none, none, none] rfl (Nat.le_of_ble_eq_true rfl) rfl ?_
  have ct1 := RS.ct hR
  unfold CT at ct1
  have rg2 := RS.rg hR
  refine vc_aload_n dX4_readProduct_0 rfl ?_
  refine vc_iload_n dX4_readProduct_1 rfl ?_
  refine vc_cVI dX4_readProduct_2 (ho (M := M) hB0.1  d (by omega) (by omega) g n p hR w sk (by first | (rw [List.length_cons]; omega) | omega) (by rw [show mI M 22 14 = mI M 22 14 by omega]; exact hw) (by omega)) rfl (okX4_readOne (11 + 3 * nf)) (viX4_readOne (11 + 3 * nf)) (lkX4_179 (11 + 3 * nf)) (s_22 hB0.1.1) cl_4 rfl (by show (11 + 3 * nf) < 12 + 3 * nf; omega) ⟨rfl, rfl⟩ (Nat.le_of_ble_eq_true rfl) (Nat.le_of_ble_eq_true rfl) (Nat.le_of_ble_eq_true rfl) ?_
  rintro x3 M4 ⟨hB5, kp6, kp7, kp8, kp9, h10, h11, h12, h13, h14, h15⟩
  have hB16 : BD M M4 := BD.go hB0 hB5
  have kp17 : mI M4 24 = mI M 24 := kp_go rfl kp6
  have kp18 : mI M4 26 = mI M 26 := kp_go rfl kp7
  have kp19 : mI M4 27 = mI M 27 := kp_go rfl kp8
  have kp20 : mI M4 28 = mI M 28 := kp_go rfl kp9
  refine vc_istore_n dX4_readProduct_5 (Nat.le_of_ble_eq_true rfl) rfl (show _ = [some (aR 22), some (aI d), some (aI x3), none, none] from rfl) ?_
  have hfirst : LI g n w sk p (ETr g n) M4 x3 0 := LR.li h15 hd
  refine vc_iconst dX4_readProduct_6 rfl ?_
  refine vc_istore_n dX4_readProduct_7 (Nat.le_of_ble_eq_true rfl) rfl (show _ = [some (aR 22), some (aI d), some (aI x3), some (aI 0), none] from rfl) ?_
  have lp8 : ∀ (n8 : Nat) (Mq8 : Mem) (v2 : Int) (v3 : Int), (BD M Mq8) → (mI Mq8 24 = mI M 24) → (mI Mq8 26 = mI M 26) → (mI Mq8 27 = mI M 27) → (mI Mq8 28 = mI M 28) → (0 ≤ v2) → (v2 ≤ 1) → (0 ≤ v3) → (v3 ≤ 300) → (LI g n w sk p (ETr g n) Mq8 v2 v3) → (0 ≤ mI Mq8 22 9) → (mI Mq8 22 13 = mI M 22 13) → (mI Mq8 22 14 = mI M 22 14) → (300 - v3).toNat < n8 → VC l (mdX4_readProduct (12 + 3 * nf)) 8 [some (aR 22), some (aI d), some (aI v2), some (aI v3), none] [] Mq8 0 0 (fun q N => ∃ r : Int, q = some (aI r) ∧ BD M N ∧ mI N 24 = mI M 24 ∧ mI N 26 = mI M 26 ∧ mI N 27 = mI M 27 ∧ mI N 28 = mI M 28 ∧ 0 ≤ r ∧ r ≤ 1 ∧ 0 ≤ mI N 22 9 ∧ mI N 22 13 = mI M 22 13 ∧ mI N 22 14 = mI M 22 14 ∧ LR g n w sk p (EMul g n) N r) := by
    intro n8
    induction n8 with
    | zero => intro Mq8 v2 v3 hQ8 kp8_24 kp8_26 kp8_27 kp8_28 g8_2a g8_2b g8_3a g8_3b g8i0 g8i1 g8i2 g8i3 hm8; exact absurd hm8 (Nat.not_lt_zero _)
    | succ n8 ih8 =>
      intro Mq8 v2 v3 hQ8 kp8_24 kp8_26 kp8_27 kp8_28 g8_2a g8_2b g8_3a g8_3b g8i0 g8i1 g8i2 g8i3 hm8
      refine vc_iload_n dX4_readProduct_8 rfl ?_
      refine vc_sipush dX4_readProduct_9 rfl ?_
      refine vc_icmp_ge dX4_readProduct_12 (fun h21 => ?_) (fun h21 => ?_)
      · refine vc_iload_n dX4_readProduct_91 rfl ?_
        refine vc_zret dX4_readProduct_92 rfl (by first | decide | omega) (Nat.le_of_ble_eq_true rfl) (Nat.le_of_ble_eq_true rfl) ?_
        exact ⟨_, rfl, hQ8, kp8_24, kp8_26, kp8_27, kp8_28, by omega, by omega, by omega, by omega, by omega, (by first | exact LI.nul g8i0 (by omega) | exact LI.big g8i0 (by omega) (by omega))⟩
      · refine vc_iload_n dX4_readProduct_15 rfl ?_
        refine vc_if_eq dX4_readProduct_16 (fun h22 => ?_) (fun h22 => ?_)
        · refine vc_iload_n dX4_readProduct_91 rfl ?_
          refine vc_zret dX4_readProduct_92 rfl (by first | decide | omega) (Nat.le_of_ble_eq_true rfl) (Nat.le_of_ble_eq_true rfl) ?_
          exact ⟨_, rfl, hQ8, kp8_24, kp8_26, kp8_27, kp8_28, by omega, by omega, by omega, by omega, by omega, (by first | exact LI.nul g8i0 (by omega) | exact LI.big g8i0 (by omega) (by omega))⟩
        · obtain ⟨q23, hl24, hR25, hE26, hk27⟩ := LI.ok g8i0 (by omega)
          have ct28 := RS.ct hR25
          unfold CT at ct28
          have rg29 := RS.rg hR25
          refine vc_aload_n dX4_readProduct_19 rfl ?_
          refine vc_bipush dX4_readProduct_20 rfl ?_
          refine vc_cVI dX4_readProduct_22 (sfX4_isSignF (M := Mq8) hQ8.1  42 ) rfl okX4_isSign viX4_isSign lkX4_163 (s_22 hQ8.1.1) cl_4 rfl (by show 0 < 12 + 3 * nf; omega) ⟨rfl, rfl⟩ (Nat.le_of_ble_eq_true rfl) (Nat.le_of_ble_eq_true rfl) (Nat.le_of_ble_eq_true rfl) ?_
          rintro x30 _ ⟨rfl, h31, h32, h33⟩
          refine vc_if_ne dX4_readProduct_25 (fun h34 => ?_) (fun h34 => ?_)
          · refine vc_aload_n dX4_readProduct_37 rfl ?_
            refine vc_getI dX4_readProduct_38 flX4_119 (s_22 hQ8.1.1) rfl ?_
            refine vc_bipush dX4_readProduct_41 rfl ?_
            refine vc_icmp_ne dX4_readProduct_43 (fun h35 => ?_) (fun h35 => ?_)
            · refine vc_sipush dX4_readProduct_52 rfl ?_
              refine vc_istore dX4_readProduct_55 (Nat.le_of_ble_eq_true rfl) rfl (show _ = [some (aR 22), some (aI d), some (aI v2), some (aI v3), some (aI 20003)] from rfl) ?_
              have kt36 : ∀ o, Rn (tk g n) (nx g n) w sk false (nx g n q23) o → Rn (tk g n) (nx g n) w sk false p o := fun o r => hk27 o (t_op (by omega) r)
              refine vc_aload_n dX4_readProduct_57 rfl ?_
              refine vc_cVI dX4_readProduct_58 (sfX4_takeTokenF (M := Mq8) hQ8.1  g n q23 hR25 (by omega)) rfl okX4_takeToken viX4_takeToken lkX4_65 (s_22 hQ8.1.1) cl_4 rfl (by show 0 < 12 + 3 * nf; omega) ⟨rfl, rfl⟩ (Nat.le_of_ble_eq_true rfl) (Nat.le_of_ble_eq_true rfl) (Nat.le_of_ble_eq_true rfl) ?_
              rintro x37 M38 ⟨hB39, kp40, kp41, kp42, kp43, h44, h45, h46, h47, h48, h49⟩
              have hB50 : BD M M38 := BD.go hQ8 hB39
              have kp51 : mI M38 24 = mI M 24 := kp_go kp8_24 kp40
              have kp52 : mI M38 26 = mI M 26 := kp_go kp8_26 kp41
              have kp53 : mI M38 27 = mI M 27 := kp_go kp8_27 kp42
              have kp54 : mI M38 28 = mI M 28 := kp_go kp8_28 kp43
              refine vc_pop dX4_readProduct_61 rfl ?_
              refine vc_aload_n dX4_readProduct_62 rfl ?_
              refine vc_iload_n dX4_readProduct_63 rfl ?_
              refine vc_cVI dX4_readProduct_64 (ho (M := M38) hB50.1  d (by omega) (by omega) g n (nx g n q23) h49 w sk (by first | (rw [List.length_cons]; omega) | omega) (by rw [show mI M38 22 14 = mI M 22 14 by omega]; exact hw) (by omega)) rfl (okX4_readOne (11 + 3 * nf)) (viX4_readOne (11 + 3 * nf)) (lkX4_179 (11 + 3 * nf)) (s_22 hB50.1.1) cl_4 rfl (by show (11 + 3 * nf) < 12 + 3 * nf; omega) ⟨rfl, rfl⟩ (Nat.le_of_ble_eq_true rfl) (Nat.le_of_ble_eq_true rfl) (Nat.le_of_ble_eq_true rfl) ?_
              rintro x55 M56 ⟨hB57, kp58, kp59, kp60, kp61, h62, h63, h64, h65, h66, h67⟩
              have hB68 : BD M M56 := BD.go hB50 hB57
              have kp69 : mI M56 24 = mI M 24 := kp_go kp51 kp58
              have kp70 : mI M56 26 = mI M 26 := kp_go kp52 kp59
              have kp71 : mI M56 27 = mI M 27 := kp_go kp53 kp60
              have kp72 : mI M56 28 = mI M 28 := kp_go kp54 kp61
              refine vc_if_eq dX4_readProduct_67 (fun h73 => ?_) (fun h73 => ?_)
              · refine vc_iconst dX4_readProduct_83 rfl ?_
                refine vc_istore_n dX4_readProduct_84 (Nat.le_of_ble_eq_true rfl) rfl (show _ = [some (aR 22), some (aI d), some (aI 0), some (aI v3), some (aI 20003)] from rfl) ?_
                have hnext : LI g n w sk p (ETr g n) M56 0 (v3 + 1) := Or.inr ⟨rfl, (LR.bad h67 (by omega)).1, kt36 _ (LR.bad h67 (by omega)).2⟩
                refine vc_iincE dX4_readProduct_85 rfl (by omega) (by omega) (Nat.le_of_ble_eq_true rfl) rfl (show _ = [some (aR 22), some (aI d), some (aI 0), some (aI (v3 + 1)), some (aI 20003)] from rfl) ?_
                refine vc_goto dX4_readProduct_88 ?_
                refine vc_less [some (aR 22), some (aI d), some (aI 0), some (aI (v3 + 1)), none] (lessL_keep (lessL_keep (lessL_keep (lessL_keep (lessL_drop (lessL_nil)))))) ?_
                exact ih8 M56 0 (v3 + 1) hB68 kp69 kp70 kp71 kp72 (by omega) (by omega) (by omega) (by omega) (by first | exact hfirst | exact hnext) (by omega) (by omega) (by omega) (by omega)
              · obtain ⟨q74, hl75, hR76, hE77, hk78⟩ := LR.ok h67 (by omega)
                refine vc_aload_n dX4_readProduct_70 rfl ?_
                refine vc_iload dX4_readProduct_71 rfl ?_
                refine vc_cVI dX4_readProduct_73 (sfX4_emitF (M := M56) hB68.1  g n q74 hR76 20003 ) rfl okX4_emit viX4_emit lkX4_176 (s_22 hB68.1.1) cl_4 rfl (by show 0 < 12 + 3 * nf; omega) ⟨rfl, rfl⟩ (Nat.le_of_ble_eq_true rfl) (Nat.le_of_ble_eq_true rfl) (Nat.le_of_ble_eq_true rfl) ?_
                rintro x79 M80 ⟨hB81, kp82, kp83, kp84, kp85, h86, h87, h88, h89, h90, h91⟩
                have hB92 : BD M M80 := BD.go hB68 hB81
                have kp93 : mI M80 24 = mI M 24 := kp_go kp69 kp82
                have kp94 : mI M80 26 = mI M 26 := kp_go kp70 kp83
                have kp95 : mI M80 27 = mI M 27 := kp_go kp71 kp84
                have kp96 : mI M80 28 = mI M 28 := kp_go kp72 kp85
                refine vc_if_eq dX4_readProduct_76 (fun h97 => by exfalso; omega) (fun h97 => ?_)
                refine vc_iconst dX4_readProduct_79 rfl ?_
                refine vc_goto dX4_readProduct_80 ?_
                refine vc_istore_n dX4_readProduct_84 (Nat.le_of_ble_eq_true rfl) rfl (show _ = [some (aR 22), some (aI d), some (aI 1), some (aI v3), some (aI 20003)] from rfl) ?_
                have hnext : LI g n w sk p (ETr g n) M80 1 (v3 + 1) := Or.inl ⟨rfl, q74, by omega, h91, hE77, fun o r => kt36 o (hk78 o (by rw [hd]; exact r))⟩
                refine vc_iincE dX4_readProduct_85 rfl (by omega) (by omega) (Nat.le_of_ble_eq_true rfl) rfl (show _ = [some (aR 22), some (aI d), some (aI 1), some (aI (v3 + 1)), some (aI 20003)] from rfl) ?_
                refine vc_goto dX4_readProduct_88 ?_
                refine vc_less [some (aR 22), some (aI d), some (aI 1), some (aI (v3 + 1)), none] (lessL_keep (lessL_keep (lessL_keep (lessL_keep (lessL_drop (lessL_nil)))))) ?_
                exact ih8 M80 1 (v3 + 1) hB92 kp93 kp94 kp95 kp96 (by omega) (by omega) (by omega) (by omega) (by first | exact hfirst | exact hnext) (by omega) (by omega) (by omega) (by omega)
            · refine vc_sipush dX4_readProduct_46 rfl ?_
              refine vc_goto dX4_readProduct_49 ?_
              refine vc_istore dX4_readProduct_55 (Nat.le_of_ble_eq_true rfl) rfl (show _ = [some (aR 22), some (aI d), some (aI v2), some (aI v3), some (aI 20002)] from rfl) ?_
              have kt98 : ∀ o, Rn (tk g n) (nx g n) w sk false (nx g n q23) o → Rn (tk g n) (nx g n) w sk false p o := fun o r => hk27 o (t_op (by omega) r)
              refine vc_aload_n dX4_readProduct_57 rfl ?_
              refine vc_cVI dX4_readProduct_58 (sfX4_takeTokenF (M := Mq8) hQ8.1  g n q23 hR25 (by omega)) rfl okX4_takeToken viX4_takeToken lkX4_65 (s_22 hQ8.1.1) cl_4 rfl (by show 0 < 12 + 3 * nf; omega) ⟨rfl, rfl⟩ (Nat.le_of_ble_eq_true rfl) (Nat.le_of_ble_eq_true rfl) (Nat.le_of_ble_eq_true rfl) ?_
              rintro x99 M100 ⟨hB101, kp102, kp103, kp104, kp105, h106, h107, h108, h109, h110, h111⟩
              have hB112 : BD M M100 := BD.go hQ8 hB101
              have kp113 : mI M100 24 = mI M 24 := kp_go kp8_24 kp102
              have kp114 : mI M100 26 = mI M 26 := kp_go kp8_26 kp103
              have kp115 : mI M100 27 = mI M 27 := kp_go kp8_27 kp104
              have kp116 : mI M100 28 = mI M 28 := kp_go kp8_28 kp105
              refine vc_pop dX4_readProduct_61 rfl ?_
              refine vc_aload_n dX4_readProduct_62 rfl ?_
              refine vc_iload_n dX4_readProduct_63 rfl ?_
              refine vc_cVI dX4_readProduct_64 (ho (M := M100) hB112.1  d (by omega) (by omega) g n (nx g n q23) h111 w sk (by first | (rw [List.length_cons]; omega) | omega) (by rw [show mI M100 22 14 = mI M 22 14 by omega]; exact hw) (by omega)) rfl (okX4_readOne (11 + 3 * nf)) (viX4_readOne (11 + 3 * nf)) (lkX4_179 (11 + 3 * nf)) (s_22 hB112.1.1) cl_4 rfl (by show (11 + 3 * nf) < 12 + 3 * nf; omega) ⟨rfl, rfl⟩ (Nat.le_of_ble_eq_true rfl) (Nat.le_of_ble_eq_true rfl) (Nat.le_of_ble_eq_true rfl) ?_
              rintro x117 M118 ⟨hB119, kp120, kp121, kp122, kp123, h124, h125, h126, h127, h128, h129⟩
              have hB130 : BD M M118 := BD.go hB112 hB119
              have kp131 : mI M118 24 = mI M 24 := kp_go kp113 kp120
              have kp132 : mI M118 26 = mI M 26 := kp_go kp114 kp121
              have kp133 : mI M118 27 = mI M 27 := kp_go kp115 kp122
              have kp134 : mI M118 28 = mI M 28 := kp_go kp116 kp123
              refine vc_if_eq dX4_readProduct_67 (fun h135 => ?_) (fun h135 => ?_)
              · refine vc_iconst dX4_readProduct_83 rfl ?_
                refine vc_istore_n dX4_readProduct_84 (Nat.le_of_ble_eq_true rfl) rfl (show _ = [some (aR 22), some (aI d), some (aI 0), some (aI v3), some (aI 20002)] from rfl) ?_
                have hnext : LI g n w sk p (ETr g n) M118 0 (v3 + 1) := Or.inr ⟨rfl, (LR.bad h129 (by omega)).1, kt98 _ (LR.bad h129 (by omega)).2⟩
                refine vc_iincE dX4_readProduct_85 rfl (by omega) (by omega) (Nat.le_of_ble_eq_true rfl) rfl (show _ = [some (aR 22), some (aI d), some (aI 0), some (aI (v3 + 1)), some (aI 20002)] from rfl) ?_
                refine vc_goto dX4_readProduct_88 ?_
                refine vc_less [some (aR 22), some (aI d), some (aI 0), some (aI (v3 + 1)), none] (lessL_keep (lessL_keep (lessL_keep (lessL_keep (lessL_drop (lessL_nil)))))) ?_
                exact ih8 M118 0 (v3 + 1) hB130 kp131 kp132 kp133 kp134 (by omega) (by omega) (by omega) (by omega) (by first | exact hfirst | exact hnext) (by omega) (by omega) (by omega) (by omega)
              · obtain ⟨q136, hl137, hR138, hE139, hk140⟩ := LR.ok h129 (by omega)
                refine vc_aload_n dX4_readProduct_70 rfl ?_
                refine vc_iload dX4_readProduct_71 rfl ?_
                refine vc_cVI dX4_readProduct_73 (sfX4_emitF (M := M118) hB130.1  g n q136 hR138 20002 ) rfl okX4_emit viX4_emit lkX4_176 (s_22 hB130.1.1) cl_4 rfl (by show 0 < 12 + 3 * nf; omega) ⟨rfl, rfl⟩ (Nat.le_of_ble_eq_true rfl) (Nat.le_of_ble_eq_true rfl) (Nat.le_of_ble_eq_true rfl) ?_
                rintro x141 M142 ⟨hB143, kp144, kp145, kp146, kp147, h148, h149, h150, h151, h152, h153⟩
                have hB154 : BD M M142 := BD.go hB130 hB143
                have kp155 : mI M142 24 = mI M 24 := kp_go kp131 kp144
                have kp156 : mI M142 26 = mI M 26 := kp_go kp132 kp145
                have kp157 : mI M142 27 = mI M 27 := kp_go kp133 kp146
                have kp158 : mI M142 28 = mI M 28 := kp_go kp134 kp147
                refine vc_if_eq dX4_readProduct_76 (fun h159 => by exfalso; omega) (fun h159 => ?_)
                refine vc_iconst dX4_readProduct_79 rfl ?_
                refine vc_goto dX4_readProduct_80 ?_
                refine vc_istore_n dX4_readProduct_84 (Nat.le_of_ble_eq_true rfl) rfl (show _ = [some (aR 22), some (aI d), some (aI 1), some (aI v3), some (aI 20002)] from rfl) ?_
                have hnext : LI g n w sk p (ETr g n) M142 1 (v3 + 1) := Or.inl ⟨rfl, q136, by omega, h153, hE139, fun o r => kt98 o (hk140 o (by rw [hd]; exact r))⟩
                refine vc_iincE dX4_readProduct_85 rfl (by omega) (by omega) (Nat.le_of_ble_eq_true rfl) rfl (show _ = [some (aR 22), some (aI d), some (aI 1), some (aI (v3 + 1)), some (aI 20002)] from rfl) ?_
                refine vc_goto dX4_readProduct_88 ?_
                refine vc_less [some (aR 22), some (aI d), some (aI 1), some (aI (v3 + 1)), none] (lessL_keep (lessL_keep (lessL_keep (lessL_keep (lessL_drop (lessL_nil)))))) ?_
                exact ih8 M142 1 (v3 + 1) hB154 kp155 kp156 kp157 kp158 (by omega) (by omega) (by omega) (by omega) (by first | exact hfirst | exact hnext) (by omega) (by omega) (by omega) (by omega)
          · refine vc_aload_n dX4_readProduct_28 rfl ?_
            refine vc_bipush dX4_readProduct_29 rfl ?_
            refine vc_cVI dX4_readProduct_31 (sfX4_isSignF (M := Mq8) hQ8.1  47 ) rfl okX4_isSign viX4_isSign lkX4_163 (s_22 hQ8.1.1) cl_4 rfl (by show 0 < 12 + 3 * nf; omega) ⟨rfl, rfl⟩ (Nat.le_of_ble_eq_true rfl) (Nat.le_of_ble_eq_true rfl) (Nat.le_of_ble_eq_true rfl) ?_
            rintro x160 _ ⟨rfl, h161, h162, h163⟩
            refine vc_if_eq dX4_readProduct_34 (fun h164 => ?_) (fun h164 => ?_)
            · refine vc_iload_n dX4_readProduct_91 rfl ?_
              refine vc_zret dX4_readProduct_92 rfl (by first | decide | omega) (Nat.le_of_ble_eq_true rfl) (Nat.le_of_ble_eq_true rfl) ?_
              exact ⟨_, rfl, hQ8, kp8_24, kp8_26, kp8_27, kp8_28, by omega, by omega, by omega, by omega, by omega, Or.inl ⟨by omega, q23, by omega, hR25, (by unfold EMul; omega), fun o r => hk27 o (by rw [hd] at r; exact r)⟩⟩
            · refine vc_aload_n dX4_readProduct_37 rfl ?_
              refine vc_getI dX4_readProduct_38 flX4_119 (s_22 hQ8.1.1) rfl ?_
              refine vc_bipush dX4_readProduct_41 rfl ?_
              refine vc_icmp_ne dX4_readProduct_43 (fun h165 => ?_) (fun h165 => ?_)
              · refine vc_sipush dX4_readProduct_52 rfl ?_
                refine vc_istore dX4_readProduct_55 (Nat.le_of_ble_eq_true rfl) rfl (show _ = [some (aR 22), some (aI d), some (aI v2), some (aI v3), some (aI 20003)] from rfl) ?_
                have kt166 : ∀ o, Rn (tk g n) (nx g n) w sk false (nx g n q23) o → Rn (tk g n) (nx g n) w sk false p o := fun o r => hk27 o (t_op (by omega) r)
                refine vc_aload_n dX4_readProduct_57 rfl ?_
                refine vc_cVI dX4_readProduct_58 (sfX4_takeTokenF (M := Mq8) hQ8.1  g n q23 hR25 (by omega)) rfl okX4_takeToken viX4_takeToken lkX4_65 (s_22 hQ8.1.1) cl_4 rfl (by show 0 < 12 + 3 * nf; omega) ⟨rfl, rfl⟩ (Nat.le_of_ble_eq_true rfl) (Nat.le_of_ble_eq_true rfl) (Nat.le_of_ble_eq_true rfl) ?_
                rintro x167 M168 ⟨hB169, kp170, kp171, kp172, kp173, h174, h175, h176, h177, h178, h179⟩
                have hB180 : BD M M168 := BD.go hQ8 hB169
                have kp181 : mI M168 24 = mI M 24 := kp_go kp8_24 kp170
                have kp182 : mI M168 26 = mI M 26 := kp_go kp8_26 kp171
                have kp183 : mI M168 27 = mI M 27 := kp_go kp8_27 kp172
                have kp184 : mI M168 28 = mI M 28 := kp_go kp8_28 kp173
                refine vc_pop dX4_readProduct_61 rfl ?_
                refine vc_aload_n dX4_readProduct_62 rfl ?_
                refine vc_iload_n dX4_readProduct_63 rfl ?_
                refine vc_cVI dX4_readProduct_64 (ho (M := M168) hB180.1  d (by omega) (by omega) g n (nx g n q23) h179 w sk (by first | (rw [List.length_cons]; omega) | omega) (by rw [show mI M168 22 14 = mI M 22 14 by omega]; exact hw) (by omega)) rfl (okX4_readOne (11 + 3 * nf)) (viX4_readOne (11 + 3 * nf)) (lkX4_179 (11 + 3 * nf)) (s_22 hB180.1.1) cl_4 rfl (by show (11 + 3 * nf) < 12 + 3 * nf; omega) ⟨rfl, rfl⟩ (Nat.le_of_ble_eq_true rfl) (Nat.le_of_ble_eq_true rfl) (Nat.le_of_ble_eq_true rfl) ?_
                rintro x185 M186 ⟨hB187, kp188, kp189, kp190, kp191, h192, h193, h194, h195, h196, h197⟩
                have hB198 : BD M M186 := BD.go hB180 hB187
                have kp199 : mI M186 24 = mI M 24 := kp_go kp181 kp188
                have kp200 : mI M186 26 = mI M 26 := kp_go kp182 kp189
                have kp201 : mI M186 27 = mI M 27 := kp_go kp183 kp190
                have kp202 : mI M186 28 = mI M 28 := kp_go kp184 kp191
                refine vc_if_eq dX4_readProduct_67 (fun h203 => ?_) (fun h203 => ?_)
                · refine vc_iconst dX4_readProduct_83 rfl ?_
                  refine vc_istore_n dX4_readProduct_84 (Nat.le_of_ble_eq_true rfl) rfl (show _ = [some (aR 22), some (aI d), some (aI 0), some (aI v3), some (aI 20003)] from rfl) ?_
                  have hnext : LI g n w sk p (ETr g n) M186 0 (v3 + 1) := Or.inr ⟨rfl, (LR.bad h197 (by omega)).1, kt166 _ (LR.bad h197 (by omega)).2⟩
                  refine vc_iincE dX4_readProduct_85 rfl (by omega) (by omega) (Nat.le_of_ble_eq_true rfl) rfl (show _ = [some (aR 22), some (aI d), some (aI 0), some (aI (v3 + 1)), some (aI 20003)] from rfl) ?_
                  refine vc_goto dX4_readProduct_88 ?_
                  refine vc_less [some (aR 22), some (aI d), some (aI 0), some (aI (v3 + 1)), none] (lessL_keep (lessL_keep (lessL_keep (lessL_keep (lessL_drop (lessL_nil)))))) ?_
                  exact ih8 M186 0 (v3 + 1) hB198 kp199 kp200 kp201 kp202 (by omega) (by omega) (by omega) (by omega) (by first | exact hfirst | exact hnext) (by omega) (by omega) (by omega) (by omega)
                · obtain ⟨q204, hl205, hR206, hE207, hk208⟩ := LR.ok h197 (by omega)
                  refine vc_aload_n dX4_readProduct_70 rfl ?_
                  refine vc_iload dX4_readProduct_71 rfl ?_
                  refine vc_cVI dX4_readProduct_73 (sfX4_emitF (M := M186) hB198.1  g n q204 hR206 20003 ) rfl okX4_emit viX4_emit lkX4_176 (s_22 hB198.1.1) cl_4 rfl (by show 0 < 12 + 3 * nf; omega) ⟨rfl, rfl⟩ (Nat.le_of_ble_eq_true rfl) (Nat.le_of_ble_eq_true rfl) (Nat.le_of_ble_eq_true rfl) ?_
                  rintro x209 M210 ⟨hB211, kp212, kp213, kp214, kp215, h216, h217, h218, h219, h220, h221⟩
                  have hB222 : BD M M210 := BD.go hB198 hB211
                  have kp223 : mI M210 24 = mI M 24 := kp_go kp199 kp212
                  have kp224 : mI M210 26 = mI M 26 := kp_go kp200 kp213
                  have kp225 : mI M210 27 = mI M 27 := kp_go kp201 kp214
                  have kp226 : mI M210 28 = mI M 28 := kp_go kp202 kp215
                  refine vc_if_eq dX4_readProduct_76 (fun h227 => by exfalso; omega) (fun h227 => ?_)
                  refine vc_iconst dX4_readProduct_79 rfl ?_
                  refine vc_goto dX4_readProduct_80 ?_
                  refine vc_istore_n dX4_readProduct_84 (Nat.le_of_ble_eq_true rfl) rfl (show _ = [some (aR 22), some (aI d), some (aI 1), some (aI v3), some (aI 20003)] from rfl) ?_
                  have hnext : LI g n w sk p (ETr g n) M210 1 (v3 + 1) := Or.inl ⟨rfl, q204, by omega, h221, hE207, fun o r => kt166 o (hk208 o (by rw [hd]; exact r))⟩
                  refine vc_iincE dX4_readProduct_85 rfl (by omega) (by omega) (Nat.le_of_ble_eq_true rfl) rfl (show _ = [some (aR 22), some (aI d), some (aI 1), some (aI (v3 + 1)), some (aI 20003)] from rfl) ?_
                  refine vc_goto dX4_readProduct_88 ?_
                  refine vc_less [some (aR 22), some (aI d), some (aI 1), some (aI (v3 + 1)), none] (lessL_keep (lessL_keep (lessL_keep (lessL_keep (lessL_drop (lessL_nil)))))) ?_
                  exact ih8 M210 1 (v3 + 1) hB222 kp223 kp224 kp225 kp226 (by omega) (by omega) (by omega) (by omega) (by first | exact hfirst | exact hnext) (by omega) (by omega) (by omega) (by omega)
              · refine vc_sipush dX4_readProduct_46 rfl ?_
                refine vc_goto dX4_readProduct_49 ?_
                refine vc_istore dX4_readProduct_55 (Nat.le_of_ble_eq_true rfl) rfl (show _ = [some (aR 22), some (aI d), some (aI v2), some (aI v3), some (aI 20002)] from rfl) ?_
                have kt228 : ∀ o, Rn (tk g n) (nx g n) w sk false (nx g n q23) o → Rn (tk g n) (nx g n) w sk false p o := fun o r => hk27 o (t_op (by omega) r)
                refine vc_aload_n dX4_readProduct_57 rfl ?_
                refine vc_cVI dX4_readProduct_58 (sfX4_takeTokenF (M := Mq8) hQ8.1  g n q23 hR25 (by omega)) rfl okX4_takeToken viX4_takeToken lkX4_65 (s_22 hQ8.1.1) cl_4 rfl (by show 0 < 12 + 3 * nf; omega) ⟨rfl, rfl⟩ (Nat.le_of_ble_eq_true rfl) (Nat.le_of_ble_eq_true rfl) (Nat.le_of_ble_eq_true rfl) ?_
                rintro x229 M230 ⟨hB231, kp232, kp233, kp234, kp235, h236, h237, h238, h239, h240, h241⟩
                have hB242 : BD M M230 := BD.go hQ8 hB231
                have kp243 : mI M230 24 = mI M 24 := kp_go kp8_24 kp232
                have kp244 : mI M230 26 = mI M 26 := kp_go kp8_26 kp233
                have kp245 : mI M230 27 = mI M 27 := kp_go kp8_27 kp234
                have kp246 : mI M230 28 = mI M 28 := kp_go kp8_28 kp235
                refine vc_pop dX4_readProduct_61 rfl ?_
                refine vc_aload_n dX4_readProduct_62 rfl ?_
                refine vc_iload_n dX4_readProduct_63 rfl ?_
                refine vc_cVI dX4_readProduct_64 (ho (M := M230) hB242.1  d (by omega) (by omega) g n (nx g n q23) h241 w sk (by first | (rw [List.length_cons]; omega) | omega) (by rw [show mI M230 22 14 = mI M 22 14 by omega]; exact hw) (by omega)) rfl (okX4_readOne (11 + 3 * nf)) (viX4_readOne (11 + 3 * nf)) (lkX4_179 (11 + 3 * nf)) (s_22 hB242.1.1) cl_4 rfl (by show (11 + 3 * nf) < 12 + 3 * nf; omega) ⟨rfl, rfl⟩ (Nat.le_of_ble_eq_true rfl) (Nat.le_of_ble_eq_true rfl) (Nat.le_of_ble_eq_true rfl) ?_
                rintro x247 M248 ⟨hB249, kp250, kp251, kp252, kp253, h254, h255, h256, h257, h258, h259⟩
                have hB260 : BD M M248 := BD.go hB242 hB249
                have kp261 : mI M248 24 = mI M 24 := kp_go kp243 kp250
                have kp262 : mI M248 26 = mI M 26 := kp_go kp244 kp251
                have kp263 : mI M248 27 = mI M 27 := kp_go kp245 kp252
                have kp264 : mI M248 28 = mI M 28 := kp_go kp246 kp253
                refine vc_if_eq dX4_readProduct_67 (fun h265 => ?_) (fun h265 => ?_)
                · refine vc_iconst dX4_readProduct_83 rfl ?_
                  refine vc_istore_n dX4_readProduct_84 (Nat.le_of_ble_eq_true rfl) rfl (show _ = [some (aR 22), some (aI d), some (aI 0), some (aI v3), some (aI 20002)] from rfl) ?_
                  have hnext : LI g n w sk p (ETr g n) M248 0 (v3 + 1) := Or.inr ⟨rfl, (LR.bad h259 (by omega)).1, kt228 _ (LR.bad h259 (by omega)).2⟩
                  refine vc_iincE dX4_readProduct_85 rfl (by omega) (by omega) (Nat.le_of_ble_eq_true rfl) rfl (show _ = [some (aR 22), some (aI d), some (aI 0), some (aI (v3 + 1)), some (aI 20002)] from rfl) ?_
                  refine vc_goto dX4_readProduct_88 ?_
                  refine vc_less [some (aR 22), some (aI d), some (aI 0), some (aI (v3 + 1)), none] (lessL_keep (lessL_keep (lessL_keep (lessL_keep (lessL_drop (lessL_nil)))))) ?_
                  exact ih8 M248 0 (v3 + 1) hB260 kp261 kp262 kp263 kp264 (by omega) (by omega) (by omega) (by omega) (by first | exact hfirst | exact hnext) (by omega) (by omega) (by omega) (by omega)
                · obtain ⟨q266, hl267, hR268, hE269, hk270⟩ := LR.ok h259 (by omega)
                  refine vc_aload_n dX4_readProduct_70 rfl ?_
                  refine vc_iload dX4_readProduct_71 rfl ?_
                  refine vc_cVI dX4_readProduct_73 (sfX4_emitF (M := M248) hB260.1  g n q266 hR268 20002 ) rfl okX4_emit viX4_emit lkX4_176 (s_22 hB260.1.1) cl_4 rfl (by show 0 < 12 + 3 * nf; omega) ⟨rfl, rfl⟩ (Nat.le_of_ble_eq_true rfl) (Nat.le_of_ble_eq_true rfl) (Nat.le_of_ble_eq_true rfl) ?_
                  rintro x271 M272 ⟨hB273, kp274, kp275, kp276, kp277, h278, h279, h280, h281, h282, h283⟩
                  have hB284 : BD M M272 := BD.go hB260 hB273
                  have kp285 : mI M272 24 = mI M 24 := kp_go kp261 kp274
                  have kp286 : mI M272 26 = mI M 26 := kp_go kp262 kp275
                  have kp287 : mI M272 27 = mI M 27 := kp_go kp263 kp276
                  have kp288 : mI M272 28 = mI M 28 := kp_go kp264 kp277
                  refine vc_if_eq dX4_readProduct_76 (fun h289 => by exfalso; omega) (fun h289 => ?_)
                  refine vc_iconst dX4_readProduct_79 rfl ?_
                  refine vc_goto dX4_readProduct_80 ?_
                  refine vc_istore_n dX4_readProduct_84 (Nat.le_of_ble_eq_true rfl) rfl (show _ = [some (aR 22), some (aI d), some (aI 1), some (aI v3), some (aI 20002)] from rfl) ?_
                  have hnext : LI g n w sk p (ETr g n) M272 1 (v3 + 1) := Or.inl ⟨rfl, q266, by omega, h283, hE269, fun o r => kt228 o (hk270 o (by rw [hd]; exact r))⟩
                  refine vc_iincE dX4_readProduct_85 rfl (by omega) (by omega) (Nat.le_of_ble_eq_true rfl) rfl (show _ = [some (aR 22), some (aI d), some (aI 1), some (aI (v3 + 1)), some (aI 20002)] from rfl) ?_
                  refine vc_goto dX4_readProduct_88 ?_
                  refine vc_less [some (aR 22), some (aI d), some (aI 1), some (aI (v3 + 1)), none] (lessL_keep (lessL_keep (lessL_keep (lessL_keep (lessL_drop (lessL_nil)))))) ?_
                  exact ih8 M272 1 (v3 + 1) hB284 kp285 kp286 kp287 kp288 (by omega) (by omega) (by omega) (by omega) (by first | exact hfirst | exact hnext) (by omega) (by omega) (by omega) (by omega)
  exact lp8 _ M4 x3 0 hB16 kp17 kp18 kp19 kp20 (by omega) (by omega) (by omega) (by omega) (by first | exact hfirst | exact hnext) (by omega) (by omega) (by omega) (Nat.lt_succ_self _)

set_option maxRecDepth 4000 in
theorem ld_sum {l : Launch} {nf : Nat} (hp : LdP l nf) : LdS l nf := by
  intro M hB d p0 p1 g n p hR w sk hl hd hw hnf
  have hB0 := BD.start hB
  refine Call.of [some (aR 22), some (aI d), none, none, none] rfl (Nat.le_of_ble_eq_true rfl) rfl ?_
  have ct1 := RS.ct hR
  unfold CT at ct1
  have rg2 := RS.rg hR
  refine vc_aload_n dX4_readSum_0 rfl ?_
  refine vc_iload_n dX4_readSum_1 rfl ?_
  refine vc_cVI dX4_readSum_2 (hp (M := M) hB0.1  d (by omega) (by omega) g n p hR w sk (by first | (rw [List.length_cons]; omega) | omega) hd (by rw [show mI M 22 14 = mI M 22 14 by omega]; exact hw) (by omega)) rfl (okX4_readProduct (12 + 3 * nf)) (viX4_readProduct (12 + 3 * nf)) (lkX4_173 (12 + 3 * nf)) (s_22 hB0.1.1) cl_4 rfl (by show (12 + 3 * nf) < 13 + 3 * nf; omega) ⟨rfl, rfl⟩ (Nat.le_of_ble_eq_true rfl) (Nat.le_of_ble_eq_true rfl) (Nat.le_of_ble_eq_true rfl) ?_
  rintro x3 M4 ⟨hB5, kp6, kp7, kp8, kp9, h10, h11, h12, h13, h14, h15⟩
  have hB16 : BD M M4 := BD.go hB0 hB5
  have kp17 : mI M4 24 = mI M 24 := kp_go rfl kp6
  have kp18 : mI M4 26 = mI M 26 := kp_go rfl kp7
  have kp19 : mI M4 27 = mI M 27 := kp_go rfl kp8
  have kp20 : mI M4 28 = mI M 28 := kp_go rfl kp9
  refine vc_istore_n dX4_readSum_5 (Nat.le_of_ble_eq_true rfl) rfl (show _ = [some (aR 22), some (aI d), some (aI x3), none, none] from rfl) ?_
  have hfirst : LI g n w sk p (EMul g n) M4 x3 0 := LR.li h15 hd
  refine vc_iconst dX4_readSum_6 rfl ?_
  refine vc_istore_n dX4_readSum_7 (Nat.le_of_ble_eq_true rfl) rfl (show _ = [some (aR 22), some (aI d), some (aI x3), some (aI 0), none] from rfl) ?_
  have lp8 : ∀ (n8 : Nat) (Mq8 : Mem) (v2 : Int) (v3 : Int), (BD M Mq8) → (mI Mq8 24 = mI M 24) → (mI Mq8 26 = mI M 26) → (mI Mq8 27 = mI M 27) → (mI Mq8 28 = mI M 28) → (0 ≤ v2) → (v2 ≤ 1) → (0 ≤ v3) → (v3 ≤ 300) → (LI g n w sk p (EMul g n) Mq8 v2 v3) → (0 ≤ mI Mq8 22 9) → (mI Mq8 22 13 = mI M 22 13) → (mI Mq8 22 14 = mI M 22 14) → (300 - v3).toNat < n8 → VC l (mdX4_readSum (13 + 3 * nf)) 8 [some (aR 22), some (aI d), some (aI v2), some (aI v3), none] [] Mq8 0 0 (fun q N => ∃ r : Int, q = some (aI r) ∧ BD M N ∧ mI N 24 = mI M 24 ∧ mI N 26 = mI M 26 ∧ mI N 27 = mI M 27 ∧ mI N 28 = mI M 28 ∧ 0 ≤ r ∧ r ≤ 1 ∧ 0 ≤ mI N 22 9 ∧ mI N 22 13 = mI M 22 13 ∧ mI N 22 14 = mI M 22 14 ∧ LR g n w sk p (EOp g n) N r) := by
    intro n8
    induction n8 with
    | zero => intro Mq8 v2 v3 hQ8 kp8_24 kp8_26 kp8_27 kp8_28 g8_2a g8_2b g8_3a g8_3b g8i0 g8i1 g8i2 g8i3 hm8; exact absurd hm8 (Nat.not_lt_zero _)
    | succ n8 ih8 =>
      intro Mq8 v2 v3 hQ8 kp8_24 kp8_26 kp8_27 kp8_28 g8_2a g8_2b g8_3a g8_3b g8i0 g8i1 g8i2 g8i3 hm8
      refine vc_iload_n dX4_readSum_8 rfl ?_
      refine vc_sipush dX4_readSum_9 rfl ?_
      refine vc_icmp_ge dX4_readSum_12 (fun h21 => ?_) (fun h21 => ?_)
      · refine vc_iload_n dX4_readSum_91 rfl ?_
        refine vc_zret dX4_readSum_92 rfl (by first | decide | omega) (Nat.le_of_ble_eq_true rfl) (Nat.le_of_ble_eq_true rfl) ?_
        exact ⟨_, rfl, hQ8, kp8_24, kp8_26, kp8_27, kp8_28, by omega, by omega, by omega, by omega, by omega, (by first | exact LI.nul g8i0 (by omega) | exact LI.big g8i0 (by omega) (by omega))⟩
      · refine vc_iload_n dX4_readSum_15 rfl ?_
        refine vc_if_eq dX4_readSum_16 (fun h22 => ?_) (fun h22 => ?_)
        · refine vc_iload_n dX4_readSum_91 rfl ?_
          refine vc_zret dX4_readSum_92 rfl (by first | decide | omega) (Nat.le_of_ble_eq_true rfl) (Nat.le_of_ble_eq_true rfl) ?_
          exact ⟨_, rfl, hQ8, kp8_24, kp8_26, kp8_27, kp8_28, by omega, by omega, by omega, by omega, by omega, (by first | exact LI.nul g8i0 (by omega) | exact LI.big g8i0 (by omega) (by omega))⟩
        · obtain ⟨q23, hl24, hR25, hE26, hk27⟩ := LI.ok g8i0 (by omega)
          unfold EMul at hE26
          have ct28 := RS.ct hR25
          unfold CT at ct28
          have rg29 := RS.rg hR25
          refine vc_aload_n dX4_readSum_19 rfl ?_
          refine vc_bipush dX4_readSum_20 rfl ?_
          refine vc_cVI dX4_readSum_22 (sfX4_isSignF (M := Mq8) hQ8.1  43 ) rfl okX4_isSign viX4_isSign lkX4_163 (s_22 hQ8.1.1) cl_4 rfl (by show 0 < 13 + 3 * nf; omega) ⟨rfl, rfl⟩ (Nat.le_of_ble_eq_true rfl) (Nat.le_of_ble_eq_true rfl) (Nat.le_of_ble_eq_true rfl) ?_
          rintro x30 _ ⟨rfl, h31, h32, h33⟩
          refine vc_if_ne dX4_readSum_25 (fun h34 => ?_) (fun h34 => ?_)
          · refine vc_aload_n dX4_readSum_37 rfl ?_
            refine vc_getI dX4_readSum_38 flX4_119 (s_22 hQ8.1.1) rfl ?_
            refine vc_bipush dX4_readSum_41 rfl ?_
            refine vc_icmp_ne dX4_readSum_43 (fun h35 => ?_) (fun h35 => ?_)
            · refine vc_sipush dX4_readSum_52 rfl ?_
              refine vc_istore dX4_readSum_55 (Nat.le_of_ble_eq_true rfl) rfl (show _ = [some (aR 22), some (aI d), some (aI v2), some (aI v3), some (aI 20001)] from rfl) ?_
              have kt36 : ∀ o, Rn (tk g n) (nx g n) w sk false (nx g n q23) o → Rn (tk g n) (nx g n) w sk false p o := fun o r => hk27 o (t_op (by omega) r)
              refine vc_aload_n dX4_readSum_57 rfl ?_
              refine vc_cVI dX4_readSum_58 (sfX4_takeTokenF (M := Mq8) hQ8.1  g n q23 hR25 (by omega)) rfl okX4_takeToken viX4_takeToken lkX4_65 (s_22 hQ8.1.1) cl_4 rfl (by show 0 < 13 + 3 * nf; omega) ⟨rfl, rfl⟩ (Nat.le_of_ble_eq_true rfl) (Nat.le_of_ble_eq_true rfl) (Nat.le_of_ble_eq_true rfl) ?_
              rintro x37 M38 ⟨hB39, kp40, kp41, kp42, kp43, h44, h45, h46, h47, h48, h49⟩
              have hB50 : BD M M38 := BD.go hQ8 hB39
              have kp51 : mI M38 24 = mI M 24 := kp_go kp8_24 kp40
              have kp52 : mI M38 26 = mI M 26 := kp_go kp8_26 kp41
              have kp53 : mI M38 27 = mI M 27 := kp_go kp8_27 kp42
              have kp54 : mI M38 28 = mI M 28 := kp_go kp8_28 kp43
              refine vc_pop dX4_readSum_61 rfl ?_
              refine vc_aload_n dX4_readSum_62 rfl ?_
              refine vc_iload_n dX4_readSum_63 rfl ?_
              refine vc_cVI dX4_readSum_64 (hp (M := M38) hB50.1  d (by omega) (by omega) g n (nx g n q23) h49 w sk (by first | (rw [List.length_cons]; omega) | omega) hd (by rw [show mI M38 22 14 = mI M 22 14 by omega]; exact hw) (by omega)) rfl (okX4_readProduct (12 + 3 * nf)) (viX4_readProduct (12 + 3 * nf)) (lkX4_173 (12 + 3 * nf)) (s_22 hB50.1.1) cl_4 rfl (by show (12 + 3 * nf) < 13 + 3 * nf; omega) ⟨rfl, rfl⟩ (Nat.le_of_ble_eq_true rfl) (Nat.le_of_ble_eq_true rfl) (Nat.le_of_ble_eq_true rfl) ?_
              rintro x55 M56 ⟨hB57, kp58, kp59, kp60, kp61, h62, h63, h64, h65, h66, h67⟩
              have hB68 : BD M M56 := BD.go hB50 hB57
              have kp69 : mI M56 24 = mI M 24 := kp_go kp51 kp58
              have kp70 : mI M56 26 = mI M 26 := kp_go kp52 kp59
              have kp71 : mI M56 27 = mI M 27 := kp_go kp53 kp60
              have kp72 : mI M56 28 = mI M 28 := kp_go kp54 kp61
              refine vc_if_eq dX4_readSum_67 (fun h73 => ?_) (fun h73 => ?_)
              · refine vc_iconst dX4_readSum_83 rfl ?_
                refine vc_istore_n dX4_readSum_84 (Nat.le_of_ble_eq_true rfl) rfl (show _ = [some (aR 22), some (aI d), some (aI 0), some (aI v3), some (aI 20001)] from rfl) ?_
                have hnext : LI g n w sk p (EMul g n) M56 0 (v3 + 1) := Or.inr ⟨rfl, (LR.bad h67 (by omega)).1, kt36 _ (LR.bad h67 (by omega)).2⟩
                refine vc_iincE dX4_readSum_85 rfl (by omega) (by omega) (Nat.le_of_ble_eq_true rfl) rfl (show _ = [some (aR 22), some (aI d), some (aI 0), some (aI (v3 + 1)), some (aI 20001)] from rfl) ?_
                refine vc_goto dX4_readSum_88 ?_
                refine vc_less [some (aR 22), some (aI d), some (aI 0), some (aI (v3 + 1)), none] (lessL_keep (lessL_keep (lessL_keep (lessL_keep (lessL_drop (lessL_nil)))))) ?_
                exact ih8 M56 0 (v3 + 1) hB68 kp69 kp70 kp71 kp72 (by omega) (by omega) (by omega) (by omega) (by first | exact hfirst | exact hnext) (by omega) (by omega) (by omega) (by omega)
              · obtain ⟨q74, hl75, hR76, hE77, hk78⟩ := LR.ok h67 (by omega)
                unfold EMul at hE77
                refine vc_aload_n dX4_readSum_70 rfl ?_
                refine vc_iload dX4_readSum_71 rfl ?_
                refine vc_cVI dX4_readSum_73 (sfX4_emitF (M := M56) hB68.1  g n q74 hR76 20001 ) rfl okX4_emit viX4_emit lkX4_176 (s_22 hB68.1.1) cl_4 rfl (by show 0 < 13 + 3 * nf; omega) ⟨rfl, rfl⟩ (Nat.le_of_ble_eq_true rfl) (Nat.le_of_ble_eq_true rfl) (Nat.le_of_ble_eq_true rfl) ?_
                rintro x79 M80 ⟨hB81, kp82, kp83, kp84, kp85, h86, h87, h88, h89, h90, h91⟩
                have hB92 : BD M M80 := BD.go hB68 hB81
                have kp93 : mI M80 24 = mI M 24 := kp_go kp69 kp82
                have kp94 : mI M80 26 = mI M 26 := kp_go kp70 kp83
                have kp95 : mI M80 27 = mI M 27 := kp_go kp71 kp84
                have kp96 : mI M80 28 = mI M 28 := kp_go kp72 kp85
                refine vc_if_eq dX4_readSum_76 (fun h97 => by exfalso; omega) (fun h97 => ?_)
                refine vc_iconst dX4_readSum_79 rfl ?_
                refine vc_goto dX4_readSum_80 ?_
                refine vc_istore_n dX4_readSum_84 (Nat.le_of_ble_eq_true rfl) rfl (show _ = [some (aR 22), some (aI d), some (aI 1), some (aI v3), some (aI 20001)] from rfl) ?_
                have hnext : LI g n w sk p (EMul g n) M80 1 (v3 + 1) := Or.inl ⟨rfl, q74, by omega, h91, (by unfold EMul; omega), fun o r => kt36 o (hk78 o (by rw [hd]; exact r))⟩
                refine vc_iincE dX4_readSum_85 rfl (by omega) (by omega) (Nat.le_of_ble_eq_true rfl) rfl (show _ = [some (aR 22), some (aI d), some (aI 1), some (aI (v3 + 1)), some (aI 20001)] from rfl) ?_
                refine vc_goto dX4_readSum_88 ?_
                refine vc_less [some (aR 22), some (aI d), some (aI 1), some (aI (v3 + 1)), none] (lessL_keep (lessL_keep (lessL_keep (lessL_keep (lessL_drop (lessL_nil)))))) ?_
                exact ih8 M80 1 (v3 + 1) hB92 kp93 kp94 kp95 kp96 (by omega) (by omega) (by omega) (by omega) (by first | exact hfirst | exact hnext) (by omega) (by omega) (by omega) (by omega)
            · refine vc_sipush dX4_readSum_46 rfl ?_
              refine vc_goto dX4_readSum_49 ?_
              refine vc_istore dX4_readSum_55 (Nat.le_of_ble_eq_true rfl) rfl (show _ = [some (aR 22), some (aI d), some (aI v2), some (aI v3), some (aI 20000)] from rfl) ?_
              have kt98 : ∀ o, Rn (tk g n) (nx g n) w sk false (nx g n q23) o → Rn (tk g n) (nx g n) w sk false p o := fun o r => hk27 o (t_op (by omega) r)
              refine vc_aload_n dX4_readSum_57 rfl ?_
              refine vc_cVI dX4_readSum_58 (sfX4_takeTokenF (M := Mq8) hQ8.1  g n q23 hR25 (by omega)) rfl okX4_takeToken viX4_takeToken lkX4_65 (s_22 hQ8.1.1) cl_4 rfl (by show 0 < 13 + 3 * nf; omega) ⟨rfl, rfl⟩ (Nat.le_of_ble_eq_true rfl) (Nat.le_of_ble_eq_true rfl) (Nat.le_of_ble_eq_true rfl) ?_
              rintro x99 M100 ⟨hB101, kp102, kp103, kp104, kp105, h106, h107, h108, h109, h110, h111⟩
              have hB112 : BD M M100 := BD.go hQ8 hB101
              have kp113 : mI M100 24 = mI M 24 := kp_go kp8_24 kp102
              have kp114 : mI M100 26 = mI M 26 := kp_go kp8_26 kp103
              have kp115 : mI M100 27 = mI M 27 := kp_go kp8_27 kp104
              have kp116 : mI M100 28 = mI M 28 := kp_go kp8_28 kp105
              refine vc_pop dX4_readSum_61 rfl ?_
              refine vc_aload_n dX4_readSum_62 rfl ?_
              refine vc_iload_n dX4_readSum_63 rfl ?_
              refine vc_cVI dX4_readSum_64 (hp (M := M100) hB112.1  d (by omega) (by omega) g n (nx g n q23) h111 w sk (by first | (rw [List.length_cons]; omega) | omega) hd (by rw [show mI M100 22 14 = mI M 22 14 by omega]; exact hw) (by omega)) rfl (okX4_readProduct (12 + 3 * nf)) (viX4_readProduct (12 + 3 * nf)) (lkX4_173 (12 + 3 * nf)) (s_22 hB112.1.1) cl_4 rfl (by show (12 + 3 * nf) < 13 + 3 * nf; omega) ⟨rfl, rfl⟩ (Nat.le_of_ble_eq_true rfl) (Nat.le_of_ble_eq_true rfl) (Nat.le_of_ble_eq_true rfl) ?_
              rintro x117 M118 ⟨hB119, kp120, kp121, kp122, kp123, h124, h125, h126, h127, h128, h129⟩
              have hB130 : BD M M118 := BD.go hB112 hB119
              have kp131 : mI M118 24 = mI M 24 := kp_go kp113 kp120
              have kp132 : mI M118 26 = mI M 26 := kp_go kp114 kp121
              have kp133 : mI M118 27 = mI M 27 := kp_go kp115 kp122
              have kp134 : mI M118 28 = mI M 28 := kp_go kp116 kp123
              refine vc_if_eq dX4_readSum_67 (fun h135 => ?_) (fun h135 => ?_)
              · refine vc_iconst dX4_readSum_83 rfl ?_
                refine vc_istore_n dX4_readSum_84 (Nat.le_of_ble_eq_true rfl) rfl (show _ = [some (aR 22), some (aI d), some (aI 0), some (aI v3), some (aI 20000)] from rfl) ?_
                have hnext : LI g n w sk p (EMul g n) M118 0 (v3 + 1) := Or.inr ⟨rfl, (LR.bad h129 (by omega)).1, kt98 _ (LR.bad h129 (by omega)).2⟩
                refine vc_iincE dX4_readSum_85 rfl (by omega) (by omega) (Nat.le_of_ble_eq_true rfl) rfl (show _ = [some (aR 22), some (aI d), some (aI 0), some (aI (v3 + 1)), some (aI 20000)] from rfl) ?_
                refine vc_goto dX4_readSum_88 ?_
                refine vc_less [some (aR 22), some (aI d), some (aI 0), some (aI (v3 + 1)), none] (lessL_keep (lessL_keep (lessL_keep (lessL_keep (lessL_drop (lessL_nil)))))) ?_
                exact ih8 M118 0 (v3 + 1) hB130 kp131 kp132 kp133 kp134 (by omega) (by omega) (by omega) (by omega) (by first | exact hfirst | exact hnext) (by omega) (by omega) (by omega) (by omega)
              · obtain ⟨q136, hl137, hR138, hE139, hk140⟩ := LR.ok h129 (by omega)
                unfold EMul at hE139
                refine vc_aload_n dX4_readSum_70 rfl ?_
                refine vc_iload dX4_readSum_71 rfl ?_
                refine vc_cVI dX4_readSum_73 (sfX4_emitF (M := M118) hB130.1  g n q136 hR138 20000 ) rfl okX4_emit viX4_emit lkX4_176 (s_22 hB130.1.1) cl_4 rfl (by show 0 < 13 + 3 * nf; omega) ⟨rfl, rfl⟩ (Nat.le_of_ble_eq_true rfl) (Nat.le_of_ble_eq_true rfl) (Nat.le_of_ble_eq_true rfl) ?_
                rintro x141 M142 ⟨hB143, kp144, kp145, kp146, kp147, h148, h149, h150, h151, h152, h153⟩
                have hB154 : BD M M142 := BD.go hB130 hB143
                have kp155 : mI M142 24 = mI M 24 := kp_go kp131 kp144
                have kp156 : mI M142 26 = mI M 26 := kp_go kp132 kp145
                have kp157 : mI M142 27 = mI M 27 := kp_go kp133 kp146
                have kp158 : mI M142 28 = mI M 28 := kp_go kp134 kp147
                refine vc_if_eq dX4_readSum_76 (fun h159 => by exfalso; omega) (fun h159 => ?_)
                refine vc_iconst dX4_readSum_79 rfl ?_
                refine vc_goto dX4_readSum_80 ?_
                refine vc_istore_n dX4_readSum_84 (Nat.le_of_ble_eq_true rfl) rfl (show _ = [some (aR 22), some (aI d), some (aI 1), some (aI v3), some (aI 20000)] from rfl) ?_
                have hnext : LI g n w sk p (EMul g n) M142 1 (v3 + 1) := Or.inl ⟨rfl, q136, by omega, h153, (by unfold EMul; omega), fun o r => kt98 o (hk140 o (by rw [hd]; exact r))⟩
                refine vc_iincE dX4_readSum_85 rfl (by omega) (by omega) (Nat.le_of_ble_eq_true rfl) rfl (show _ = [some (aR 22), some (aI d), some (aI 1), some (aI (v3 + 1)), some (aI 20000)] from rfl) ?_
                refine vc_goto dX4_readSum_88 ?_
                refine vc_less [some (aR 22), some (aI d), some (aI 1), some (aI (v3 + 1)), none] (lessL_keep (lessL_keep (lessL_keep (lessL_keep (lessL_drop (lessL_nil)))))) ?_
                exact ih8 M142 1 (v3 + 1) hB154 kp155 kp156 kp157 kp158 (by omega) (by omega) (by omega) (by omega) (by first | exact hfirst | exact hnext) (by omega) (by omega) (by omega) (by omega)
          · refine vc_aload_n dX4_readSum_28 rfl ?_
            refine vc_bipush dX4_readSum_29 rfl ?_
            refine vc_cVI dX4_readSum_31 (sfX4_isSignF (M := Mq8) hQ8.1  45 ) rfl okX4_isSign viX4_isSign lkX4_163 (s_22 hQ8.1.1) cl_4 rfl (by show 0 < 13 + 3 * nf; omega) ⟨rfl, rfl⟩ (Nat.le_of_ble_eq_true rfl) (Nat.le_of_ble_eq_true rfl) (Nat.le_of_ble_eq_true rfl) ?_
            rintro x160 _ ⟨rfl, h161, h162, h163⟩
            refine vc_if_eq dX4_readSum_34 (fun h164 => ?_) (fun h164 => ?_)
            · refine vc_iload_n dX4_readSum_91 rfl ?_
              refine vc_zret dX4_readSum_92 rfl (by first | decide | omega) (Nat.le_of_ble_eq_true rfl) (Nat.le_of_ble_eq_true rfl) ?_
              exact ⟨_, rfl, hQ8, kp8_24, kp8_26, kp8_27, kp8_28, by omega, by omega, by omega, by omega, by omega, Or.inl ⟨by omega, q23, by omega, hR25, (by unfold EOp; omega), fun o r => hk27 o (by rw [hd] at r; exact r)⟩⟩
            · refine vc_aload_n dX4_readSum_37 rfl ?_
              refine vc_getI dX4_readSum_38 flX4_119 (s_22 hQ8.1.1) rfl ?_
              refine vc_bipush dX4_readSum_41 rfl ?_
              refine vc_icmp_ne dX4_readSum_43 (fun h165 => ?_) (fun h165 => ?_)
              · refine vc_sipush dX4_readSum_52 rfl ?_
                refine vc_istore dX4_readSum_55 (Nat.le_of_ble_eq_true rfl) rfl (show _ = [some (aR 22), some (aI d), some (aI v2), some (aI v3), some (aI 20001)] from rfl) ?_
                have kt166 : ∀ o, Rn (tk g n) (nx g n) w sk false (nx g n q23) o → Rn (tk g n) (nx g n) w sk false p o := fun o r => hk27 o (t_op (by omega) r)
                refine vc_aload_n dX4_readSum_57 rfl ?_
                refine vc_cVI dX4_readSum_58 (sfX4_takeTokenF (M := Mq8) hQ8.1  g n q23 hR25 (by omega)) rfl okX4_takeToken viX4_takeToken lkX4_65 (s_22 hQ8.1.1) cl_4 rfl (by show 0 < 13 + 3 * nf; omega) ⟨rfl, rfl⟩ (Nat.le_of_ble_eq_true rfl) (Nat.le_of_ble_eq_true rfl) (Nat.le_of_ble_eq_true rfl) ?_
                rintro x167 M168 ⟨hB169, kp170, kp171, kp172, kp173, h174, h175, h176, h177, h178, h179⟩
                have hB180 : BD M M168 := BD.go hQ8 hB169
                have kp181 : mI M168 24 = mI M 24 := kp_go kp8_24 kp170
                have kp182 : mI M168 26 = mI M 26 := kp_go kp8_26 kp171
                have kp183 : mI M168 27 = mI M 27 := kp_go kp8_27 kp172
                have kp184 : mI M168 28 = mI M 28 := kp_go kp8_28 kp173
                refine vc_pop dX4_readSum_61 rfl ?_
                refine vc_aload_n dX4_readSum_62 rfl ?_
                refine vc_iload_n dX4_readSum_63 rfl ?_
                refine vc_cVI dX4_readSum_64 (hp (M := M168) hB180.1  d (by omega) (by omega) g n (nx g n q23) h179 w sk (by first | (rw [List.length_cons]; omega) | omega) hd (by rw [show mI M168 22 14 = mI M 22 14 by omega]; exact hw) (by omega)) rfl (okX4_readProduct (12 + 3 * nf)) (viX4_readProduct (12 + 3 * nf)) (lkX4_173 (12 + 3 * nf)) (s_22 hB180.1.1) cl_4 rfl (by show (12 + 3 * nf) < 13 + 3 * nf; omega) ⟨rfl, rfl⟩ (Nat.le_of_ble_eq_true rfl) (Nat.le_of_ble_eq_true rfl) (Nat.le_of_ble_eq_true rfl) ?_
                rintro x185 M186 ⟨hB187, kp188, kp189, kp190, kp191, h192, h193, h194, h195, h196, h197⟩
                have hB198 : BD M M186 := BD.go hB180 hB187
                have kp199 : mI M186 24 = mI M 24 := kp_go kp181 kp188
                have kp200 : mI M186 26 = mI M 26 := kp_go kp182 kp189
                have kp201 : mI M186 27 = mI M 27 := kp_go kp183 kp190
                have kp202 : mI M186 28 = mI M 28 := kp_go kp184 kp191
                refine vc_if_eq dX4_readSum_67 (fun h203 => ?_) (fun h203 => ?_)
                · refine vc_iconst dX4_readSum_83 rfl ?_
                  refine vc_istore_n dX4_readSum_84 (Nat.le_of_ble_eq_true rfl) rfl (show _ = [some (aR 22), some (aI d), some (aI 0), some (aI v3), some (aI 20001)] from rfl) ?_
                  have hnext : LI g n w sk p (EMul g n) M186 0 (v3 + 1) := Or.inr ⟨rfl, (LR.bad h197 (by omega)).1, kt166 _ (LR.bad h197 (by omega)).2⟩
                  refine vc_iincE dX4_readSum_85 rfl (by omega) (by omega) (Nat.le_of_ble_eq_true rfl) rfl (show _ = [some (aR 22), some (aI d), some (aI 0), some (aI (v3 + 1)), some (aI 20001)] from rfl) ?_
                  refine vc_goto dX4_readSum_88 ?_
                  refine vc_less [some (aR 22), some (aI d), some (aI 0), some (aI (v3 + 1)), none] (lessL_keep (lessL_keep (lessL_keep (lessL_keep (lessL_drop (lessL_nil)))))) ?_
                  exact ih8 M186 0 (v3 + 1) hB198 kp199 kp200 kp201 kp202 (by omega) (by omega) (by omega) (by omega) (by first | exact hfirst | exact hnext) (by omega) (by omega) (by omega) (by omega)
                · obtain ⟨q204, hl205, hR206, hE207, hk208⟩ := LR.ok h197 (by omega)
                  unfold EMul at hE207
                  refine vc_aload_n dX4_readSum_70 rfl ?_
                  refine vc_iload dX4_readSum_71 rfl ?_
                  refine vc_cVI dX4_readSum_73 (sfX4_emitF (M := M186) hB198.1  g n q204 hR206 20001 ) rfl okX4_emit viX4_emit lkX4_176 (s_22 hB198.1.1) cl_4 rfl (by show 0 < 13 + 3 * nf; omega) ⟨rfl, rfl⟩ (Nat.le_of_ble_eq_true rfl) (Nat.le_of_ble_eq_true rfl) (Nat.le_of_ble_eq_true rfl) ?_
                  rintro x209 M210 ⟨hB211, kp212, kp213, kp214, kp215, h216, h217, h218, h219, h220, h221⟩
                  have hB222 : BD M M210 := BD.go hB198 hB211
                  have kp223 : mI M210 24 = mI M 24 := kp_go kp199 kp212
                  have kp224 : mI M210 26 = mI M 26 := kp_go kp200 kp213
                  have kp225 : mI M210 27 = mI M 27 := kp_go kp201 kp214
                  have kp226 : mI M210 28 = mI M 28 := kp_go kp202 kp215
                  refine vc_if_eq dX4_readSum_76 (fun h227 => by exfalso; omega) (fun h227 => ?_)
                  refine vc_iconst dX4_readSum_79 rfl ?_
                  refine vc_goto dX4_readSum_80 ?_
                  refine vc_istore_n dX4_readSum_84 (Nat.le_of_ble_eq_true rfl) rfl (show _ = [some (aR 22), some (aI d), some (aI 1), some (aI v3), some (aI 20001)] from rfl) ?_
                  have hnext : LI g n w sk p (EMul g n) M210 1 (v3 + 1) := Or.inl ⟨rfl, q204, by omega, h221, (by unfold EMul; omega), fun o r => kt166 o (hk208 o (by rw [hd]; exact r))⟩
                  refine vc_iincE dX4_readSum_85 rfl (by omega) (by omega) (Nat.le_of_ble_eq_true rfl) rfl (show _ = [some (aR 22), some (aI d), some (aI 1), some (aI (v3 + 1)), some (aI 20001)] from rfl) ?_
                  refine vc_goto dX4_readSum_88 ?_
                  refine vc_less [some (aR 22), some (aI d), some (aI 1), some (aI (v3 + 1)), none] (lessL_keep (lessL_keep (lessL_keep (lessL_keep (lessL_drop (lessL_nil)))))) ?_
                  exact ih8 M210 1 (v3 + 1) hB222 kp223 kp224 kp225 kp226 (by omega) (by omega) (by omega) (by omega) (by first | exact hfirst | exact hnext) (by omega) (by omega) (by omega) (by omega)
              · refine vc_sipush dX4_readSum_46 rfl ?_
                refine vc_goto dX4_readSum_49 ?_
                refine vc_istore dX4_readSum_55 (Nat.le_of_ble_eq_true rfl) rfl (show _ = [some (aR 22), some (aI d), some (aI v2), some (aI v3), some (aI 20000)] from rfl) ?_
                have kt228 : ∀ o, Rn (tk g n) (nx g n) w sk false (nx g n q23) o → Rn (tk g n) (nx g n) w sk false p o := fun o r => hk27 o (t_op (by omega) r)
                refine vc_aload_n dX4_readSum_57 rfl ?_
                refine vc_cVI dX4_readSum_58 (sfX4_takeTokenF (M := Mq8) hQ8.1  g n q23 hR25 (by omega)) rfl okX4_takeToken viX4_takeToken lkX4_65 (s_22 hQ8.1.1) cl_4 rfl (by show 0 < 13 + 3 * nf; omega) ⟨rfl, rfl⟩ (Nat.le_of_ble_eq_true rfl) (Nat.le_of_ble_eq_true rfl) (Nat.le_of_ble_eq_true rfl) ?_
                rintro x229 M230 ⟨hB231, kp232, kp233, kp234, kp235, h236, h237, h238, h239, h240, h241⟩
                have hB242 : BD M M230 := BD.go hQ8 hB231
                have kp243 : mI M230 24 = mI M 24 := kp_go kp8_24 kp232
                have kp244 : mI M230 26 = mI M 26 := kp_go kp8_26 kp233
                have kp245 : mI M230 27 = mI M 27 := kp_go kp8_27 kp234
                have kp246 : mI M230 28 = mI M 28 := kp_go kp8_28 kp235
                refine vc_pop dX4_readSum_61 rfl ?_
                refine vc_aload_n dX4_readSum_62 rfl ?_
                refine vc_iload_n dX4_readSum_63 rfl ?_
                refine vc_cVI dX4_readSum_64 (hp (M := M230) hB242.1  d (by omega) (by omega) g n (nx g n q23) h241 w sk (by first | (rw [List.length_cons]; omega) | omega) hd (by rw [show mI M230 22 14 = mI M 22 14 by omega]; exact hw) (by omega)) rfl (okX4_readProduct (12 + 3 * nf)) (viX4_readProduct (12 + 3 * nf)) (lkX4_173 (12 + 3 * nf)) (s_22 hB242.1.1) cl_4 rfl (by show (12 + 3 * nf) < 13 + 3 * nf; omega) ⟨rfl, rfl⟩ (Nat.le_of_ble_eq_true rfl) (Nat.le_of_ble_eq_true rfl) (Nat.le_of_ble_eq_true rfl) ?_
                rintro x247 M248 ⟨hB249, kp250, kp251, kp252, kp253, h254, h255, h256, h257, h258, h259⟩
                have hB260 : BD M M248 := BD.go hB242 hB249
                have kp261 : mI M248 24 = mI M 24 := kp_go kp243 kp250
                have kp262 : mI M248 26 = mI M 26 := kp_go kp244 kp251
                have kp263 : mI M248 27 = mI M 27 := kp_go kp245 kp252
                have kp264 : mI M248 28 = mI M 28 := kp_go kp246 kp253
                refine vc_if_eq dX4_readSum_67 (fun h265 => ?_) (fun h265 => ?_)
                · refine vc_iconst dX4_readSum_83 rfl ?_
                  refine vc_istore_n dX4_readSum_84 (Nat.le_of_ble_eq_true rfl) rfl (show _ = [some (aR 22), some (aI d), some (aI 0), some (aI v3), some (aI 20000)] from rfl) ?_
                  have hnext : LI g n w sk p (EMul g n) M248 0 (v3 + 1) := Or.inr ⟨rfl, (LR.bad h259 (by omega)).1, kt228 _ (LR.bad h259 (by omega)).2⟩
                  refine vc_iincE dX4_readSum_85 rfl (by omega) (by omega) (Nat.le_of_ble_eq_true rfl) rfl (show _ = [some (aR 22), some (aI d), some (aI 0), some (aI (v3 + 1)), some (aI 20000)] from rfl) ?_
                  refine vc_goto dX4_readSum_88 ?_
                  refine vc_less [some (aR 22), some (aI d), some (aI 0), some (aI (v3 + 1)), none] (lessL_keep (lessL_keep (lessL_keep (lessL_keep (lessL_drop (lessL_nil)))))) ?_
                  exact ih8 M248 0 (v3 + 1) hB260 kp261 kp262 kp263 kp264 (by omega) (by omega) (by omega) (by omega) (by first | exact hfirst | exact hnext) (by omega) (by omega) (by omega) (by omega)
                · obtain ⟨q266, hl267, hR268, hE269, hk270⟩ := LR.ok h259 (by omega)
                  unfold EMul at hE269
                  refine vc_aload_n dX4_readSum_70 rfl ?_
                  refine vc_iload dX4_readSum_71 rfl ?_
                  refine vc_cVI dX4_readSum_73 (sfX4_emitF (M := M248) hB260.1  g n q266 hR268 20000 ) rfl okX4_emit viX4_emit lkX4_176 (s_22 hB260.1.1) cl_4 rfl (by show 0 < 13 + 3 * nf; omega) ⟨rfl, rfl⟩ (Nat.le_of_ble_eq_true rfl) (Nat.le_of_ble_eq_true rfl) (Nat.le_of_ble_eq_true rfl) ?_
                  rintro x271 M272 ⟨hB273, kp274, kp275, kp276, kp277, h278, h279, h280, h281, h282, h283⟩
                  have hB284 : BD M M272 := BD.go hB260 hB273
                  have kp285 : mI M272 24 = mI M 24 := kp_go kp261 kp274
                  have kp286 : mI M272 26 = mI M 26 := kp_go kp262 kp275
                  have kp287 : mI M272 27 = mI M 27 := kp_go kp263 kp276
                  have kp288 : mI M272 28 = mI M 28 := kp_go kp264 kp277
                  refine vc_if_eq dX4_readSum_76 (fun h289 => by exfalso; omega) (fun h289 => ?_)
                  refine vc_iconst dX4_readSum_79 rfl ?_
                  refine vc_goto dX4_readSum_80 ?_
                  refine vc_istore_n dX4_readSum_84 (Nat.le_of_ble_eq_true rfl) rfl (show _ = [some (aR 22), some (aI d), some (aI 1), some (aI v3), some (aI 20000)] from rfl) ?_
                  have hnext : LI g n w sk p (EMul g n) M272 1 (v3 + 1) := Or.inl ⟨rfl, q266, by omega, h283, (by unfold EMul; omega), fun o r => kt228 o (hk270 o (by rw [hd]; exact r))⟩
                  refine vc_iincE dX4_readSum_85 rfl (by omega) (by omega) (Nat.le_of_ble_eq_true rfl) rfl (show _ = [some (aR 22), some (aI d), some (aI 1), some (aI (v3 + 1)), some (aI 20000)] from rfl) ?_
                  refine vc_goto dX4_readSum_88 ?_
                  refine vc_less [some (aR 22), some (aI d), some (aI 1), some (aI (v3 + 1)), none] (lessL_keep (lessL_keep (lessL_keep (lessL_keep (lessL_drop (lessL_nil)))))) ?_
                  exact ih8 M272 1 (v3 + 1) hB284 kp285 kp286 kp287 kp288 (by omega) (by omega) (by omega) (by omega) (by first | exact hfirst | exact hnext) (by omega) (by omega) (by omega) (by omega)
  exact lp8 _ M4 x3 0 hB16 kp17 kp18 kp19 kp20 (by omega) (by omega) (by omega) (by omega) (by first | exact hfirst | exact hnext) (by omega) (by omega) (by omega) (Nat.lt_succ_self _)

theorem ld_all {l : Launch} (nf : Nat) : LdO l nf ∧ LdS l nf := by
  induction nf with
  | zero =>
    constructor
    · intro M hB d _ _ g n p hR w sk hl hw h
      exact absurd h (Nat.not_lt_zero _)
    · intro M hB d _ _ g n p hR w sk hl hd hw h
      exact absurd h (Nat.not_lt_zero _)
  | succ nf ih => exact ⟨ld_one ih.2 ih.1, ld_sum (ld_prod (ld_one ih.2 ih.1))⟩