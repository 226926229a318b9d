/-! THE SPEC: tokens k at places, x the next place; answers (fault, place), fault 0 and the place behind -/
def CT (kd v t : Int) : Prop := (kd = 0 ∧ t = 0) ∨ (kd = 1 ∧ -1 ≤ v ∧ v ≤ 35 ∧ t = 101 + v) ∨ (kd = 2 ∧ 0 ≤ v ∧ v ≤ 10000 ∧ t = 1000 + v) ∨ (kd = 3 ∧ 0 ≤ v ∧ v ≤ 255 ∧ t = v - 300)
def TK (k x : Int → Int) (n : Int) : Prop := ∀ q, 0 ≤ q → (q < n → k q ≠ 0 ∧ q < x q ∧ x q ≤ n) ∧ (n ≤ q → k q = 0)
def sBind (r : Int × Int) (g : Int → Int × Int) : Int × Int := if r.1 = 0 then g r.2 else r
theorem sBind_ok {r : Int × Int} {g : Int → Int × Int} (h : r.1 = 0) : sBind r g = g r.2 := if_pos h
theorem sBind_bad {r : Int × Int} {g : Int → Int × Int} (h : r.1 ≠ 0) : sBind r g = r := if_neg h
section SP
variable (k x : Int → Int)
def sNum (lo hi p : Int) : Int × Int := if k p < 1000 then (1, p) else if k p - 1000 < lo ∨ hi < k p - 1000 then (2, p) else (0, x p)
def sTok (t p : Int) : Int × Int := if k p = t then (0, x p) else (1, p)
def sFac (p : Int) : Int × Int := sBind (sTok k x 118 p) (fun q => sNum k x 0 3 q)
def sSide (p : Int) : Int × Int := if k p = 124 ∨ k p = 125 ∨ k p = 127 then (0, x p) else (1, p)
def sOn (p : Int) : Int × Int := if 124 ≤ k p ∧ k p ≤ 126 then (0, x p) else (1, p)
def sTurn (i p : Int) : Int × Int := if k p = 119 then (if 6 ≤ i then (7, p) else sBind (sNum k x 1 5 (x p)) (fun q => sOn k x q)) else if k p < 1000 then (1, p) else if k p - 1000 < 1 ∨ 4 < k p - 1000 then (2, p) else if 6 ≤ i then (7, p) else sOn k x (x p)
def sTurns : Nat → Int → Int → Int × Int
  | 0, _, p => (0, p)
  | m + 1, i, p => sBind (sTurn k x i p) (fun q => if k q = -256 then sTurns m (i + 1) (x q) else (0, q))
abbrev okN (w nm : Int) : Prop := (w ≤ 2 ∧ nm ≤ 5) ∨ (w = 3 ∧ 6 ≤ nm) ∨ (w = 4 ∧ nm ≤ 2)
def dm : List Int → List Int
  | [] => []
  | c :: s => if c = 2 then dm s else c :: s
def stp (w : Int) (s : List Int) (b : Bool) (p : Int) : (Int × Int) ⊕ (List Int × Bool × Int) :=
  if b = false then
    if 1000 ≤ k p then (if 11000 ≤ k p then .inl (2, p) else .inr (dm s, true, x p))
    else if 128 ≤ k p ∧ k p ≤ 136 then (if okN w (k p - 128) then .inr (dm s, true, x p) else .inl (5, p))
    else if k p = 122 ∨ k p = 123 then (if 8 ≤ s.length then .inl (3, p) else if k (x p) = 120 then .inr (41 :: s, false, x (x p)) else .inl (1, x p))
    else if k p = -260 then (if 8 ≤ s.length then .inl (3, p) else .inr (40 :: s, false, x p))
    else if k p = -255 then (if 8 ≤ s.length then .inl (3, p) else .inr (2 :: s, false, x p))
    else .inl (1, p)
  else
    if k p = -258 ∨ k p = -257 ∨ k p = -255 ∨ k p = -253 then .inr (s, false, x p)
    else match s with
      | [] => .inl (0, p)
      | c :: t => if c = 41 then (if k p = -256 then .inr (42 :: t, false, x p) else .inl (1, p))
        else if c = 42 then (if k p = 121 then .inr (dm t, true, x p) else .inl (1, p))
        else if c = 40 then (if k p = -259 then .inr (dm t, true, x p) else .inl (1, p))
        else .inl (1, p)
def rnF (w : Int) : Nat → List Int → Bool → Int → Option (Int × Int)
  | 0, _, _, _ => none
  | m + 1, s, b, p => match stp k x w s b p with
    | .inl o => some o
    | .inr (s', b', p') => rnF w m s' b' p'
def Rn (w : Int) (s : List Int) (b : Bool) (p : Int) (o : Int × Int) : Prop := ∃ m, rnF k x w m s b p = some o
noncomputable def sLaw (w p : Int) : Int × Int := @dite _ (∃ o, Rn k x w [] false p o) (Classical.propDecidable _) (fun h => h.choose) (fun _ => (0, 0))
noncomputable def sBody (w p : Int) : Int × Int :=
  if w ≤ 4 then sLaw k x w p
  else if w = 5 then sNum k x 0 5 p
  else if w = 6 ∨ w = 7 then sBind (sNum k x 0 15 p) (fun q => sBind (sNum k x 0 3 q) (fun q => sBind (sTok k x 117 q) (fun q => sNum k x 0 15 q)))
  else if w = 8 ∨ w = 9 then sNum k x 0 15 p
  else if w = 10 then sBind (sNum k x 0 5 p) (fun q => sBind (sFac k x q) (fun q => sBind (sTok k x (-242) q) (fun q => sTurns k x 7 0 q)))
  else if w = 11 then sBind (sNum k x 0 15 p) (fun q => sFac k x q)
  else if w = 12 then sNum k x 1 20 p
  else if w = 13 then sSide k x p
  else if w = 14 then sNum k x 0 5 p
  else sNum k x 0 7 p
noncomputable def sClause (on : Int → Int) (c p : Int) : Int × Int := if ¬ (101 ≤ k p ∧ k p ≤ 116) then (1, p) else if k p - 101 ≤ 4 ∧ on (k p - 101) = 1 then (4, p) else if 24 ≤ c then (6, p) else sBind (sBody k x (k p - 101) (x p)) (fun q => sTok k x (-241) q)
def onA (on : Int → Int) (w : Int) : Int → Int := fun v => if v = w then 1 else on v
noncomputable def sText : Nat → (Int → Int) → Int → Int → Int × Int
  | 0, _, _, p => (0, p)
  | m + 1, on, c, p => if k p = 0 then (0, p) else sBind (sClause k x on c p) (fun q => sText m (onA on (k p - 101)) (c + 1) q)
end SP
section RUN
variable {k x : Int → Int} {w : Int}
theorem Rn.halt {s : List Int} {b : Bool} {p : Int} {o : Int × Int} (h : stp k x w s b p = .inl o) : Rn k x w s b p o := ⟨1, by unfold rnF; rw [h]⟩
theorem Rn.go {s s' : List Int} {b b' : Bool} {p p' : Int} {o : Int × Int} (h : stp k x w s b p = .inr (s', b', p')) (r : Rn k x w s' b' p' o) : Rn k x w s b p o := by
  obtain ⟨m, hm⟩ := r
  exact ⟨m + 1, by unfold rnF; rw [h]; exact hm⟩
theorem rnF_one {o o2 : Int × Int} : ∀ (m m2 : Nat) (s : List Int) (b : Bool) (p : Int), rnF k x w m s b p = some o → rnF k x w m2 s b p = some o2 → o2 = o
  | 0, _, _, _, _, h, _ => by cases h
  | _ + 1, 0, _, _, _, _, h => by cases h
  | m + 1, m2 + 1, s, b, p, h, g => by
    unfold rnF at h g
    cases e : stp k x w s b p with
    | inl v =>
      rw [e] at h g
      have h1 : some v = some o := h
      have g1 : some v = some o2 := g
      rw [h1] at g1
      exact (Option.some.inj g1).symm
    | inr v =>
      obtain ⟨s', b', p'⟩ := v
      rw [e] at h g
      exact rnF_one m m2 s' b' p' h g
theorem Rn.one {s : List Int} {b : Bool} {p : Int} {o o2 : Int × Int} (h : Rn k x w s b p o) (g : Rn k x w s b p o2) : o2 = o := by
  obtain ⟨m, h⟩ := h
  obtain ⟨m2, g⟩ := g
  exact rnF_one m m2 s b p h g
theorem sLaw_eq {p : Int} {o : Int × Int} (h : Rn k x w [] false p o) : sLaw k x w p = o := by
  unfold sLaw
  rw [dif_pos ⟨o, h⟩]
  exact h.one (Exists.choose_spec (⟨o, h⟩ : ∃ o, Rn k x w [] false p o))
variable {s t : List Int} {p : Int} {o : Int × Int}
theorem r_big (h : 11000 ≤ k p) : Rn k x w s false p (2, p) := .halt (by unfold stp; rw [if_pos rfl, if_pos (by omega), if_pos h])
theorem r_num (h : 1000 ≤ k p) (h2 : k p ≤ 10999) (r : Rn k x w (dm s) true (x p) o) : Rn k x w s false p o := .go (by unfold stp; rw [if_pos rfl, if_pos h, if_neg (by omega)]) r
theorem r_bad (h : 128 ≤ k p) (h2 : k p ≤ 136) (h3 : ¬ okN w (k p - 128)) : Rn k x w s false p (5, p) := .halt (by unfold stp; rw [if_pos rfl, if_neg (by omega), if_pos ⟨h, h2⟩, if_neg h3])
theorem r_nam (h : 128 ≤ k p) (h2 : k p ≤ 136) (h3 : okN w (k p - 128)) (r : Rn k x w (dm s) true (x p) o) : Rn k x w s false p o := .go (by unfold stp; rw [if_pos rfl, if_neg (by omega), if_pos ⟨h, h2⟩, if_pos h3]) r
theorem r_two3 (h : k p = 122 ∨ k p = 123) (h2 : 8 ≤ s.length) : Rn k x w s false p (3, p) := .halt (by unfold stp; rw [if_pos rfl, if_neg (by omega), if_neg (by omega), if_pos h, if_pos h2])
theorem r_two1 (h : k p = 122 ∨ k p = 123) (h2 : s.length < 8) (h3 : k (x p) ≠ 120) : Rn k x w s false p (1, x p) := .halt (by unfold stp; rw [if_pos rfl, if_neg (by omega), if_neg (by omega), if_pos h, if_neg (by omega), if_neg h3])
theorem r_two (h : k p = 122 ∨ k p = 123) (h2 : s.length < 8) (h3 : k (x p) = 120) (r : Rn k x w (41 :: s) false (x (x p)) o) : Rn k x w s false p o := .go (by unfold stp; rw [if_pos rfl, if_neg (by omega), if_neg (by omega), if_pos h, if_neg (by omega), if_pos h3]) r
theorem r_par3 (h : k p = -260) (h2 : 8 ≤ s.length) : Rn k x w s false p (3, p) := .halt (by unfold stp; rw [if_pos rfl, if_neg (by omega), if_neg (by omega), if_neg (by omega), if_pos h, if_pos h2])
theorem r_par (h : k p = -260) (h2 : s.length < 8) (r : Rn k x w (40 :: s) false (x p) o) : Rn k x w s false p o := .go (by unfold stp; rw [if_pos rfl, if_neg (by omega), if_neg (by omega), if_neg (by omega), if_pos h, if_neg (by omega)]) r
theorem r_neg3 (h : k p = -255) (h2 : 8 ≤ s.length) : Rn k x w s false p (3, p) := .halt (by unfold stp; rw [if_pos rfl, if_neg (by omega), if_neg (by omega), if_neg (by omega), if_neg (by omega), if_pos h, if_pos h2])
theorem r_neg (h : k p = -255) (h2 : s.length < 8) (r : Rn k x w (2 :: s) false (x p) o) : Rn k x w s false p o := .go (by unfold stp; rw [if_pos rfl, if_neg (by omega), if_neg (by omega), if_neg (by omega), if_neg (by omega), if_pos h, if_neg (by omega)]) r
theorem r_no (h1 : k p < 1000) (h2 : ¬ (128 ≤ k p ∧ k p ≤ 136)) (h3 : ¬ (k p = 122 ∨ k p = 123)) (h4 : k p ≠ -260) (h5 : k p ≠ -255) : Rn k x w s false p (1, p) := .halt (by unfold stp; rw [if_pos rfl, if_neg (by omega), if_neg h2, if_neg h3, if_neg h4, if_neg h5])
theorem t_op (h : k p = -258 ∨ k p = -257 ∨ k p = -255 ∨ k p = -253) (r : Rn k x w s false (x p) o) : Rn k x w s true p o := .go (by unfold stp; rw [if_neg (by decide), if_pos h]) r
theorem t_com (h : k p = -256) (r : Rn k x w (42 :: t) false (x p) o) : Rn k x w (41 :: t) true p o := .go (by unfold stp; rw [if_neg (by decide), if_neg (by omega)]; show (if (41 : Int) = 41 then _ else _) = _; rw [if_pos rfl, if_pos h]) r
theorem t_end (h : k p = 121) (r : Rn k x w (dm t) true (x p) o) : Rn k x w (42 :: t) true p o := .go (by unfold stp; rw [if_neg (by decide), if_neg (by omega)]; show (if (42 : Int) = 41 then _ else _) = _; rw [if_neg (by decide), if_pos rfl, if_pos h]) r
theorem t_shut (h : k p = -259) (r : Rn k x w (dm t) true (x p) o) : Rn k x w (40 :: t) true p o := .go (by unfold stp; rw [if_neg (by decide), if_neg (by omega)]; show (if (40 : Int) = 41 then _ else _) = _; rw [if_neg (by decide), if_neg (by decide), if_pos rfl, if_pos h]) r
theorem t_b41 (h : ¬ (k p = -258 ∨ k p = -257 ∨ k p = -255 ∨ k p = -253)) (h2 : k p ≠ -256) : Rn k x w (41 :: t) true p (1, p) := .halt (by unfold stp; rw [if_neg (by decide), if_neg h]; show (if (41 : Int) = 41 then _ else _) = _; rw [if_pos rfl, if_neg h2])
theorem t_b42 (h : ¬ (k p = -258 ∨ k p = -257 ∨ k p = -255 ∨ k p = -253)) (h2 : k p ≠ 121) : Rn k x w (42 :: t) true p (1, p) := .halt (by unfold stp; rw [if_neg (by decide), if_neg h]; show (if (42 : Int) = 41 then _ else _) = _; rw [if_neg (by decide), if_pos rfl, if_neg h2])
theorem t_b40 (h : ¬ (k p = -258 ∨ k p = -257 ∨ k p = -255 ∨ k p = -253)) (h2 : k p ≠ -259) : Rn k x w (40 :: t) true p (1, p) := .halt (by unfold stp; rw [if_neg (by decide), if_neg h]; show (if (40 : Int) = 41 then _ else _) = _; rw [if_neg (by decide), if_neg (by decide), if_pos rfl, if_neg h2])
theorem t_fin (h : ¬ (k p = -258 ∨ k p = -257 ∨ k p = -255 ∨ k p = -253)) : Rn k x w [] true p (0, p) := .halt (by unfold stp; rw [if_neg (by decide), if_neg h])
end RUN
/-! the class's table of tokens, its state -/
def Tab (k x : Int → Int) (A B C : Nat → Int) : Nat → Nat → Int → Prop
  | 0, _, _ => True
  | m + 1, j, q => CT (A j) (B j) (k q) ∧ C j = q ∧ (k q ≠ 0 → Tab k x A B C m (j + 1) (x q))
def RSp (k x : Int → Int) (n : Int) (A B C : Nat → Int) (t kd v ft fp q : Int) : Prop := 0 ≤ t ∧ t ≤ q ∧ q ≤ n ∧ n ≤ 300 ∧ kd = A t.toNat ∧ v = B t.toNat ∧ ft = 0 ∧ fp = -1 ∧ Tab k x A B C (301 - t).toNat t.toNat q ∧ TK k x n
theorem RSp.tab {k x : Int → Int} {n : Int} {A B C : Nat → Int} {t kd v ft fp q : Int} (h : RSp k x n A B C t kd v ft fp q) : CT kd v (k q) ∧ C t.toNat = q ∧ (k q ≠ 0 → Tab k x A B C (301 - (t + 1)).toNat (t + 1).toNat (x q)) := by
  obtain ⟨h0, h1, h2, h3, h4, h5, h6, h7, h8, h9⟩ := h
  rw [show (301 - t).toNat = (301 - (t + 1)).toNat + 1 by omega] at h8
  obtain ⟨a, b, c⟩ := h8
  refine ⟨by rw [h4, h5]; exact a, b, fun hk => ?_⟩
  have := c hk
  rw [show t.toNat + 1 = (t + 1).toNat by omega] at this
  exact this
theorem RSp.rg {k x : Int → Int} {n : Int} {A B C : Nat → Int} {t kd v ft fp q : Int} (h : RSp k x n A B C t kd v ft fp q) : 0 ≤ t ∧ t ≤ q ∧ q ≤ n ∧ n ≤ 300 ∧ ft = 0 ∧ fp = -1 ∧ (k q = 0 ∨ (q < n ∧ q < x q ∧ x q ≤ n)) := by
  obtain ⟨h0, h1, h2, h3, h4, h5, h6, h7, h8, h9⟩ := h
  refine ⟨h0, h1, h2, h3, h6, h7, ?_⟩
  have := h9 q (by omega)
  by_cases e : q < n
  · exact Or.inr ⟨e, (this.1 e).2⟩
  · exact Or.inl (this.2 (by omega))
theorem RSp.take {k x : Int → Int} {n : Int} {A B C : Nat → Int} {t kd v ft fp q t2 kd2 v2 : Int} (h : RSp k x n A B C t kd v ft fp q) (hk : k q ≠ 0) (e1 : t2 = t + 1) (e2 : kd2 = A t2.toNat) (e3 : v2 = B t2.toNat) : RSp k x n A B C t2 kd2 v2 ft fp (x q) := by
  have a := h.rg
  have b := h.tab
  subst e1 e2 e3
  exact ⟨by omega, by omega, by omega, by omega, rfl, rfl, a.2.2.2.2.1, a.2.2.2.2.2.1, b.2.2 hk, h.2.2.2.2.2.2.2.2.2⟩
theorem tab_of {k x : Int → Int} {A B C : Nat → Int} {c : Nat} {ps : Nat → Int} (hx : ∀ j, j < c → ps (j + 1) = x (ps j)) (hc : ∀ j, j < c → CT (A j) (B j) (k (ps j)) ∧ C j = ps j) (h0 : CT (A c) (B c) (k (ps c)) ∧ C c = ps c ∧ k (ps c) = 0) : ∀ (d j m : Nat), j + d = c → Tab k x A B C m j (ps j)
  | d, j, 0, _ => trivial
  | 0, j, m + 1, e => by
    have e2 : j = c := by omega
    subst e2
    exact ⟨h0.1, h0.2.1, fun h => absurd h0.2.2 h⟩
  | d + 1, j, m + 1, e => by
    have := hc j (by omega)
    refine ⟨this.1, this.2, fun _ => ?_⟩
    rw [← hx j (by omega)]
    exact tab_of hx hc h0 d (j + 1) m (by omega)
