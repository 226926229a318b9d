/-! THE CODE OF A LAW: the run of a sum with what waits on its pile, and the code that it writes -/
def stP (l : Int) : List Int → List (Int × Int) × List Int
  | [] => ([], [])
  | o :: P => if l ≤ rkI o then ((o, 0) :: (stP l P).1, (stP l P).2) else ([], o :: P)
theorem stP_y {l o : Int} {P : List Int} (h : l ≤ rkI o) : stP l (o :: P) = ((o, 0) :: (stP l P).1, (stP l P).2) := if_pos h
theorem stP_n {l o : Int} {P : List Int} (h : ¬ l ≤ rkI o) : stP l (o :: P) = ([], o :: P) := if_neg h
/-- the top's rank is below l, or there is none -/
def tpR (l : Int) (P : List Int) : Prop := stP l P = ([], P)
theorem tpR.nil {l : Int} : tpR l [] := rfl
theorem tpR.cons {l o : Int} {P : List Int} (h : ¬ l ≤ rkI o) : tpR l (o :: P) := stP_n h
theorem tpR.up {l m : Int} {P : List Int} (h : tpR l P) (hm : l ≤ m) : tpR m P := by
  cases P with
  | nil => rfl
  | cons o P =>
    by_cases e : l ≤ rkI o
    · unfold tpR at h
      rw [stP_y e] at h
      exact absurd (congrArg Prod.fst h) (by simp)
    · exact stP_n (by omega)
def opO (t : Int) : Int := if t = -257 then 3 else if t = -255 then 4 else if t = -258 then 5 else 6
section CR
variable (k x : Int → Int)
def cRn : Nat → List Int → Bool → Int → Option (List (Int × Int))
  | 0, _, _, _ => none
  | m + 1, P, b, p => if b = false then
      if 1000 ≤ k p then (cRn m (stP 3 P).2 true (x p)).map (fun c => (0, k p - 1000) :: ((stP 3 P).1 ++ c))
      else if 128 ≤ k p ∧ k p ≤ 136 then (cRn m (stP 3 P).2 true (x p)).map (fun c => (1, k p - 128) :: ((stP 3 P).1 ++ c))
      else if k p = 122 then cRn m (41 :: P) false (x (x p))
      else if k p = 123 then cRn m (43 :: P) false (x (x p))
      else if k p = -260 then cRn m (40 :: P) false (x p)
      else if k p = -255 then cRn m (2 :: P) false (x p)
      else none
    else if k p = -258 ∨ k p = -257 ∨ k p = -255 ∨ k p = -253 then
      (cRn m (opO (k p) :: (stP (rkI (opO (k p))) P).2) false (x p)).map (fun c => (stP (rkI (opO (k p))) P).1 ++ c)
    else match (stP 1 P).2 with
      | [] => some (stP 1 P).1
      | c :: t => if c = 41 ∨ c = 43 then (if k p = -256 then (cRn m ((c + 1) :: t) false (x p)).map (fun e => (stP 1 P).1 ++ e) else none)
        else if c = 42 ∨ c = 44 then (if k p = 121 then (cRn m (stP 3 t).2 true (x p)).map (fun e => (stP 1 P).1 ++ ((if c = 42 then 7 else 8), 0) :: ((stP 3 t).1 ++ e)) else none)
        else if c = 40 then (if k p = -259 then (cRn m (stP 3 t).2 true (x p)).map (fun e => (stP 1 P).1 ++ ((stP 3 t).1 ++ e)) else none)
        else none
def Cd (P : List Int) (b : Bool) (p : Int) (c : List (Int × Int)) : Prop := ∃ m, cRn k x m P b p = some c
end CR
section CD
variable {k x : Int → Int}
theorem cRn_one : ∀ (m n : Nat) (P : List Int) (b : Bool) (p : Int) (c d : List (Int × Int)), cRn k x m P b p = some c → cRn k x n P b p = some d → c = d
  | 0, _, _, _, _, _, _, h, _ => by cases h
  | _ + 1, 0, _, _, _, _, _, _, h => by cases h
  | m + 1, n + 1, P, b, p, c, d, h, g => by
    have key : ∀ (Q : List Int) (b2 : Bool) (q : Int) (f : List (Int × Int) → List (Int × Int)), (cRn k x m Q b2 q).map f = some c → (cRn k x n Q b2 q).map f = some d → c = d := fun Q b2 q f h g => by
      cases e1 : cRn k x m Q b2 q with
      | none => rw [e1] at h; cases h
      | some u =>
        cases e2 : cRn k x n Q b2 q with
        | none => rw [e2] at g; cases g
        | some v =>
          rw [e1] at h
          rw [e2] at g
          have z := cRn_one m n Q b2 q u v e1 e2
          rw [z] at h
          have h1 : some (f v) = some c := h
          have g1 : some (f v) = some d := g
          rw [h1] at g1
          exact Option.some.inj g1
    have key0 : ∀ (Q : List Int) (b2 : Bool) (q : Int), cRn k x m Q b2 q = some c → cRn k x n Q b2 q = some d → c = d := fun Q b2 q h g => cRn_one m n Q b2 q c d h g
    unfold cRn at h g
    by_cases e0 : b = false
    · rw [if_pos e0] at h g
      by_cases e1 : 1000 ≤ k p
      · rw [if_pos e1] at h g
        exact key _ _ _ _ h g
      · rw [if_neg e1] at h g
        by_cases e2 : 128 ≤ k p ∧ k p ≤ 136
        · rw [if_pos e2] at h g
          exact key _ _ _ _ h g
        · rw [if_neg e2] at h g
          by_cases e3 : k p = 122
          · rw [if_pos e3] at h g
            exact key0 _ _ _ h g
          · rw [if_neg e3] at h g
            by_cases e4 : k p = 123
            · rw [if_pos e4] at h g
              exact key0 _ _ _ h g
            · rw [if_neg e4] at h g
              by_cases e5 : k p = -260
              · rw [if_pos e5] at h g
                exact key0 _ _ _ h g
              · rw [if_neg e5] at h g
                by_cases e6 : k p = -255
                · rw [if_pos e6] at h g
                  exact key0 _ _ _ h g
                · rw [if_neg e6] at h
                  cases h
    · rw [if_neg e0] at h g
      by_cases e1 : k p = -258 ∨ k p = -257 ∨ k p = -255 ∨ k p = -253
      · rw [if_pos e1] at h g
        exact key _ _ _ _ h g
      · rw [if_neg e1] at h g
        cases e2 : (stP 1 P).2 with
        | nil =>
          rw [e2] at h g
          have h1 : some (stP 1 P).1 = some c := h
          have g1 : some (stP 1 P).1 = some d := g
          rw [h1] at g1
          exact Option.some.inj g1
        | cons o t =>
          rw [e2] at h g
          dsimp only at h g
          by_cases e3 : o = 41 ∨ o = 43
          · rw [if_pos e3] at h g
            by_cases e4 : k p = -256
            · rw [if_pos e4] at h g
              exact key _ _ _ _ h g
            · rw [if_neg e4] at h
              cases h
          · rw [if_neg e3] at h g
            by_cases e4 : o = 42 ∨ o = 44
            · rw [if_pos e4] at h g
              by_cases e5 : k p = 121
              · rw [if_pos e5] at h g
                exact key _ _ _ _ h g
              · rw [if_neg e5] at h
                cases h
            · rw [if_neg e4] at h g
              by_cases e5 : o = 40
              · rw [if_pos e5] at h g
                by_cases e6 : k p = -259
                · rw [if_pos e6] at h g
                  exact key _ _ _ _ h g
                · rw [if_neg e6] at h
                  cases h
              · rw [if_neg e5] at h
                cases h
theorem Cd.one {P : List Int} {b : Bool} {p : Int} {c d : List (Int × Int)} (h : Cd k x P b p c) (g : Cd k x P b p d) : c = d := by
  obtain ⟨m, h⟩ := h
  obtain ⟨n, g⟩ := g
  exact cRn_one m n P b p c d h g
theorem map_some {o : Option (List (Int × Int))} {f : List (Int × Int) → List (Int × Int)} {c : List (Int × Int)} (h : o = some c) : o.map f = some (f c) := by rw [h]; rfl
variable {P t : List Int} {p : Int} {c : List (Int × Int)}
theorem c_num (h : 1000 ≤ k p) (r : Cd k x (stP 3 P).2 true (x p) c) : Cd k x P false p ((0, k p - 1000) :: ((stP 3 P).1 ++ c)) := by
  obtain ⟨m, r⟩ := r
  refine ⟨m + 1, ?_⟩
  unfold cRn
  rw [if_pos rfl, if_pos h]
  exact map_some r
theorem c_nam (h : 128 ≤ k p) (h2 : k p ≤ 136) (r : Cd k x (stP 3 P).2 true (x p) c) : Cd k x P false p ((1, k p - 128) :: ((stP 3 P).1 ++ c)) := by
  obtain ⟨m, r⟩ := r
  refine ⟨m + 1, ?_⟩
  unfold cRn
  rw [if_pos rfl, if_neg (by omega), if_pos ⟨h, h2⟩]
  exact map_some r
theorem c_two {o : Int} (h : (k p = 122 ∧ o = 41) ∨ (k p = 123 ∧ o = 43)) (r : Cd k x (o :: P) false (x (x p)) c) : Cd k x P false p c := by
  obtain ⟨m, r⟩ := r
  refine ⟨m + 1, ?_⟩
  unfold cRn
  rw [if_pos rfl, if_neg (by omega), if_neg (by omega)]
  rcases h with ⟨h, rfl⟩ | ⟨h, rfl⟩
  · rw [if_pos h]; exact r
  · rw [if_neg (by omega), if_pos h]; exact r
theorem c_par (h : k p = -260) (r : Cd k x (40 :: P) false (x p) c) : Cd k x P false p c := by
  obtain ⟨m, r⟩ := r
  refine ⟨m + 1, ?_⟩
  unfold cRn
  rw [if_pos rfl, if_neg (by omega), if_neg (by omega), if_neg (by omega), if_neg (by omega), if_pos h]
  exact r
theorem c_neg (h : k p = -255) (r : Cd k x (2 :: P) false (x p) c) : Cd k x P false p c := by
  obtain ⟨m, r⟩ := r
  refine ⟨m + 1, ?_⟩
  unfold cRn
  rw [if_pos rfl, if_neg (by omega), if_neg (by omega), if_neg (by omega), if_neg (by omega), if_neg (by omega), if_pos h]
  exact r
theorem c_op (h : k p = -258 ∨ k p = -257 ∨ k p = -255 ∨ k p = -253) (r : Cd k x (opO (k p) :: (stP (rkI (opO (k p))) P).2) false (x p) c) : Cd k x P true p ((stP (rkI (opO (k p))) P).1 ++ c) := by
  obtain ⟨m, r⟩ := r
  refine ⟨m + 1, ?_⟩
  unfold cRn
  rw [if_neg (by decide), if_pos h]
  exact map_some r
theorem c_fin (h : ¬ (k p = -258 ∨ k p = -257 ∨ k p = -255 ∨ k p = -253)) (e : (stP 1 P).2 = []) : Cd k x P true p (stP 1 P).1 := by
  refine ⟨1, ?_⟩
  unfold cRn
  rw [if_neg (by decide), if_neg h, e]
theorem c_com {o : Int} (e : (stP 1 P).2 = o :: t) (ho : o = 41 ∨ o = 43) (h : k p = -256) (r : Cd k x ((o + 1) :: t) false (x p) c) : Cd k x P true p ((stP 1 P).1 ++ c) := by
  obtain ⟨m, r⟩ := r
  refine ⟨m + 1, ?_⟩
  unfold cRn
  rw [if_neg (by decide), if_neg (by omega), e]
  dsimp only
  rw [if_pos ho, if_pos h]
  exact map_some r
theorem c_end {o : Int} (e : (stP 1 P).2 = o :: t) (ho : o = 42 ∨ o = 44) (h : k p = 121) (r : Cd k x (stP 3 t).2 true (x p) c) : Cd k x P true p ((stP 1 P).1 ++ ((if o = 42 then 7 else 8), 0) :: ((stP 3 t).1 ++ c)) := by
  obtain ⟨m, r⟩ := r
  refine ⟨m + 1, ?_⟩
  unfold cRn
  rw [if_neg (by decide), if_neg (by omega), e]
  dsimp only
  rw [if_neg (by omega), if_pos ho, if_pos h]
  exact map_some r
theorem c_shut (e : (stP 1 P).2 = 40 :: t) (h : k p = -259) (r : Cd k x (stP 3 t).2 true (x p) c) : Cd k x P true p ((stP 1 P).1 ++ ((stP 3 t).1 ++ c)) := by
  obtain ⟨m, r⟩ := r
  refine ⟨m + 1, ?_⟩
  unfold cRn
  rw [if_neg (by decide), if_neg (by omega), e]
  dsimp only
  rw [if_neg (by decide), if_neg (by decide), if_pos rfl, if_pos h]
  exact map_some r
theorem rk_opT {t : Int} (h : t = -258 ∨ t = -257 ∨ t = -255 ∨ t = -253) : (rkI (opO t) = 1 ∧ (t = -257 ∨ t = -255)) ∨ (rkI (opO t) = 2 ∧ (t = -258 ∨ t = -253)) := by
  rcases h with rfl | rfl | rfl | rfl
  · exact Or.inr ⟨rfl, Or.inl rfl⟩
  · exact Or.inl ⟨rfl, Or.inl rfl⟩
  · exact Or.inl ⟨rfl, Or.inr rfl⟩
  · exact Or.inr ⟨rfl, Or.inr rfl⟩
/-- what waits and is settled by the next token may be settled at once -/
theorem c_q {q : Int} (h1 : 1 ≤ rkI q) (h2 : k p = -258 ∨ k p = -253 → 2 ≤ rkI q) (r : Cd k x P true p c) : Cd k x (q :: P) true p ((q, 0) :: c) := by
  obtain ⟨m, r⟩ := r
  cases m with
  | zero => cases r
  | succ m =>
    have key : ∀ (Q : List Int) (b2 : Bool) (z : Int) (f : List (Int × Int) → List (Int × Int)), (cRn k x m Q b2 z).map f = some c → (cRn k x m Q b2 z).map (fun e => (q, 0) :: f e) = some ((q, 0) :: c) := fun Q b2 z f h => by
      cases e1 : cRn k x m Q b2 z with
      | none => rw [e1] at h; cases h
      | some u =>
        rw [e1] at h
        have h1 : some (f u) = some c := h
        show some ((q, 0) :: f u) = _
        rw [Option.some.inj h1]
    refine ⟨m + 1, ?_⟩
    unfold cRn at r ⊢
    rw [if_neg (by decide)] at r ⊢
    have e1 := stP_y (P := P) h1
    by_cases e : k p = -258 ∨ k p = -257 ∨ k p = -255 ∨ k p = -253
    · rw [if_pos e] at r ⊢
      have e2 := stP_y (P := P) (l := rkI (opO (k p))) (o := q) (by rcases rk_opT e with ⟨a, b⟩ | ⟨a, b⟩; (rw [a]; exact h1); (rw [a]; exact h2 b))
      rw [e2]
      exact key _ _ _ _ r
    · rw [if_neg e] at r ⊢
      rw [e1]
      dsimp only
      cases e2 : (stP 1 P).2 with
      | nil =>
        rw [e2] at r
        have r1 : some (stP 1 P).1 = some c := r
        show some ((q, 0) :: (stP 1 P).1) = _
        rw [Option.some.inj r1]
      | cons o t =>
        rw [e2] at r
        dsimp only at r ⊢
        by_cases e3 : o = 41 ∨ o = 43
        · rw [if_pos e3] at r ⊢
          by_cases e4 : k p = -256
          · rw [if_pos e4] at r ⊢
            exact key _ _ _ _ r
          · rw [if_neg e4] at r
            cases r
        · rw [if_neg e3] at r ⊢
          by_cases e4 : o = 42 ∨ o = 44
          · rw [if_pos e4] at r ⊢
            by_cases e5 : k p = 121
            · rw [if_pos e5] at r ⊢
              exact key _ _ _ _ r
            · rw [if_neg e5] at r
              cases r
          · rw [if_neg e4] at r ⊢
            by_cases e5 : o = 40
            · rw [if_pos e5] at r ⊢
              by_cases e6 : k p = -259
              · rw [if_pos e6] at r ⊢
                exact key _ _ _ _ r
              · rw [if_neg e6] at r
                cases r
            · rw [if_neg e5] at r
              cases r
end CD
/-- heights of the stack that a code works on -/
def HT : List (Int × Int) → Nat → Nat → Nat → Prop
  | [], h, e, _ => h = e
  | (o, _) :: c, h, e, b => if o ≤ 1 then h + 1 ≤ b ∧ HT c (h + 1) e b else if o = 2 then 1 ≤ h ∧ HT c h e b else 2 ≤ h ∧ HT c (h - 1) e b
theorem HT.app {b m e : Nat} {d : List (Int × Int)} : ∀ (c : List (Int × Int)) (h : Nat), HT c h m b → HT d m e b → HT (c ++ d) h e b
  | [], h, h1, h2 => by
    have z : h = m := h1
    rw [z]
    exact h2
  | (o, v) :: c, h, h1, h2 => by
    unfold HT at h1
    show HT ((o, v) :: (c ++ d)) h e b
    unfold HT
    by_cases e1 : o ≤ 1
    · rw [if_pos e1] at h1 ⊢
      exact ⟨h1.1, HT.app c (h + 1) h1.2 h2⟩
    · rw [if_neg e1] at h1 ⊢
      by_cases e2 : o = 2
      · rw [if_pos e2] at h1 ⊢
        exact ⟨h1.1, HT.app c h h1.2 h2⟩
      · rw [if_neg e2] at h1 ⊢
        exact ⟨h1.1, HT.app c (h - 1) h1.2 h2⟩
theorem HT.up {b b2 e : Nat} (hb : b ≤ b2) : ∀ (c : List (Int × Int)) (h : Nat), HT c h e b → HT c h e b2
  | [], h, h1 => h1
  | (o, v) :: c, h, h1 => by
    unfold HT at h1 ⊢
    by_cases e1 : o ≤ 1
    · rw [if_pos e1] at h1 ⊢
      exact ⟨by omega, HT.up hb c (h + 1) h1.2⟩
    · rw [if_neg e1] at h1 ⊢
      by_cases e2 : o = 2
      · rw [if_pos e2] at h1 ⊢
        exact ⟨h1.1, HT.up hb c h h1.2⟩
      · rw [if_neg e2] at h1 ⊢
        exact ⟨h1.1, HT.up hb c (h - 1) h1.2⟩
/-- a code that leaves one value, at most b above where it began -/
def H1 (c : List (Int × Int)) (b : Nat) : Prop := ∀ h : Nat, HT c h (h + 1) (h + b)
theorem H1.val {o v : Int} (h : o ≤ 1) : H1 [(o, v)] 1 := fun q => by
  unfold HT
  rw [if_pos h]
  exact ⟨Nat.le_refl _, rfl⟩
theorem H1.up {c : List (Int × Int)} {b b2 : Nat} (h : H1 c b) (hb : b ≤ b2) : H1 c b2 := fun q => HT.up (by omega) c q (h q)
theorem H1.neg {c : List (Int × Int)} {b : Nat} (h : H1 c b) (v : Int) : H1 (c ++ [(2, v)]) b := fun q => HT.app c q (h q) (by
  unfold HT
  rw [if_neg (by decide), if_pos rfl]
  exact ⟨by omega, rfl⟩)
theorem H1.two {c d : List (Int × Int)} {b e : Nat} {o : Int} (h : H1 c b) (g : H1 d e) (ho : 3 ≤ o) (v : Int) (hb : e + 1 ≤ b) : H1 (c ++ (d ++ [(o, v)])) b := fun q => HT.app c q (h q) (HT.app d (q + 1) (HT.up (by omega) d (q + 1) (g (q + 1))) (by
  unfold HT
  rw [if_neg (by omega), if_neg (by omega)]
  exact ⟨by omega, by show q + 1 + 1 - 1 = q + 1; omega⟩))
/-- one op as the class writes it -/
def enc (q : Int × Int) : Int := if q.1 = 0 then q.2 else if q.1 = 1 then 10000 + q.2 else if q.1 = 2 then 20006 else 19997 + q.1
def nth : List (Int × Int) → Nat → Int × Int
  | [], _ => (0, 0)
  | a :: _, 0 => a
  | _ :: c, i + 1 => nth c i
theorem nth_l {d : List (Int × Int)} : ∀ (c : List (Int × Int)) (i : Nat), i < c.length → nth (c ++ d) i = nth c i
  | [], i, h => absurd h (Nat.not_lt_zero _)
  | _ :: _, 0, _ => rfl
  | _ :: c, i + 1, h => nth_l c i (by simpa using h)
theorem nth_r {d : List (Int × Int)} : ∀ (c : List (Int × Int)) (i : Nat), c.length ≤ i → nth (c ++ d) i = nth d (i - c.length)
  | [], i, _ => rfl
  | _ :: c, 0, h => absurd h (by simp)
  | a :: c, i + 1, h => by
    have z := nth_r (d := d) c i (by simpa using h)
    show nth (c ++ d) i = _
    rw [z, List.length_cons, show i + 1 - (c.length + 1) = i - c.length by omega]
/-- code is written behind what stood there -/
def EM (M N : Mem) (c : List (Int × Int)) : Prop := mI N 22 12 = mI M 22 12 + c.length ∧ (∀ i : Nat, (i : Int) < mI M 22 12 → mI N 23 i = mI M 23 i) ∧ ∀ i : Nat, i < c.length → mI N 23 ((mI M 22 12).toNat + i) = enc (nth c i)
theorem EM.nil {M N : Mem} (h : mI N 22 12 = mI M 22 12) (g : mI N 23 = mI M 23) : EM M N [] := ⟨by rw [h]; simp, fun i _ => by rw [g], fun i hi => absurd hi (by simp)⟩
theorem EM.app {M N P : Mem} {c d : List (Int × Int)} (h0 : 0 ≤ mI M 22 12) (h : EM M N c) (g : EM N P d) : EM M P (c ++ d) := by
  obtain ⟨h1, h2, h3⟩ := h
  obtain ⟨g1, g2, g3⟩ := g
  refine ⟨by rw [g1, h1, List.length_append]; omega, fun i hi => (g2 i (by omega)).trans (h2 i hi), fun i hi => ?_⟩
  rw [List.length_append] at hi
  by_cases e : i < c.length
  · rw [g2 _ (by omega), h3 i e, nth_l _ _ e]
  · rw [show (mI M 22 12).toNat + i = (mI N 22 12).toNat + (i - c.length) by omega, g3 _ (by omega), nth_r _ _ (by omega)]
theorem EM.one {M N : Mem} {q : Int × Int} (h0 : 0 ≤ mI M 22 12) (h : mI N 22 12 = mI M 22 12 + 1) (g : ∀ i : Nat, mI N 23 i = if i = (mI M 22 12).toNat then enc q else mI M 23 i) : EM M N [q] := by
  refine ⟨by rw [h]; simp, fun i hi => by rw [g, if_neg (by omega)], fun i hi => ?_⟩
  rw [List.length_singleton] at hi
  rw [g, show i = 0 by omega, if_pos (by omega)]
  rfl
theorem EM.pre {L M N : Mem} {c : List (Int × Int)} (h : EM M N c) (e : mI M 22 12 = mI L 22 12) (g : mI M 23 = mI L 23) : EM L N c := by
  unfold EM at h ⊢
  rw [← e, ← g]
  exact h
theorem EM.suf {M N P : Mem} {c : List (Int × Int)} (h : EM M N c) (e : mI P 22 12 = mI N 22 12) (g : mI P 23 = mI N 23) : EM M P c := by
  unfold EM at h ⊢
  rw [e, g]
  exact h
section CE
variable {k x : Int → Int} {P : List Int} {p : Int} {c : List (Int × Int)}
theorem st41 {o : Int} (h : 40 ≤ o) (l : Int) (hl : 1 ≤ l) : tpR l (o :: P) := tpR.cons (by rw [rk_40 h]; omega)
theorem st_e {l : Int} (h : tpR l P) : (stP l P).1 = [] ∧ (stP l P).2 = P := by
  unfold tpR at h
  rw [h]
  exact ⟨rfl, rfl⟩
theorem c_com41 {o : Int} (ho : o = 41 ∨ o = 43) (h : k p = -256) (r : Cd k x ((o + 1) :: P) false (x p) c) : Cd k x (o :: P) true p c := by
  have e := st_e (st41 (P := P) (o := o) (by omega) 1 (by decide))
  have z := c_com e.2 ho h r
  rw [e.1] at z
  exact z
theorem c_end42 {o : Int} (ho : o = 42 ∨ o = 44) (h : k p = 121) (r : Cd k x (stP 3 P).2 true (x p) c) : Cd k x (o :: P) true p ((if o = 42 then 7 else 8, 0) :: ((stP 3 P).1 ++ c)) := by
  have e := st_e (st41 (P := P) (o := o) (by omega) 1 (by decide))
  have z := c_end e.2 ho h r
  rw [e.1] at z
  exact z
theorem c_shut40 (h : k p = -259) (r : Cd k x (stP 3 P).2 true (x p) c) : Cd k x (40 :: P) true p ((stP 3 P).1 ++ c) := by
  have e := st_e (st41 (P := P) (o := 40) (by decide) 1 (by decide))
  have z := c_shut e.2 h r
  rw [e.1] at z
  exact z
theorem c_opl (h : k p = -258 ∨ k p = -257 ∨ k p = -255 ∨ k p = -253) (ht : tpR (rkI (opO (k p))) P) (r : Cd k x (opO (k p) :: P) false (x p) c) : Cd k x P true p c := by
  have e := st_e ht
  have z := c_op (P := P) h (by rw [e.2]; exact r)
  rw [e.1] at z
  exact z
end CE
/-- a name that this law may use -/
def okLw (w v : Int) : Prop := okN w v
/-- the ops and their values, of the law w -/
def rgO (w : Int) : List (Int × Int) → Prop
  | [] => True
  | (o, v) :: c => (0 ≤ o ∧ o ≤ 8 ∧ (o = 0 → 0 ≤ v ∧ v ≤ 9999) ∧ (o = 1 → 0 ≤ v ∧ v ≤ 8 ∧ okLw w v)) ∧ rgO w c
theorem rgO.app {w : Int} {d : List (Int × Int)} : ∀ {c : List (Int × Int)}, rgO w c → rgO w d → rgO w (c ++ d)
  | [], _, h => h
  | _ :: _, h, g => ⟨h.1, rgO.app h.2 g⟩
theorem rgO.one {w o v : Int} (h : 2 ≤ o ∧ o ≤ 8) : rgO w [(o, v)] := ⟨⟨by omega, h.2, fun e => by omega, fun e => by omega⟩, trivial⟩
theorem two_fw {k x : Int → Int} {o o2 q1 q2 p p1 p2 : Int} {c1 c2 : List (Int × Int)} (h : (k p = 122 ∧ o = 41) ∨ (k p = 123 ∧ o = 43)) (h2 : o2 = if o + 1 = 42 then 7 else 8) (e1 : p1 = x (x p)) (f1 : ∀ (P : List Int) (fin : List (Int × Int)), tpR 1 P → Cd k x P true q1 fin → Cd k x P false p1 (c1 ++ fin)) (hc : k q1 = -256) (e2 : p2 = x q1) (f2 : ∀ (P : List Int) (fin : List (Int × Int)), tpR 1 P → Cd k x P true q2 fin → Cd k x P false p2 (c2 ++ fin)) (he : k q2 = 121) (P : List Int) (fin : List (Int × Int)) (r : Cd k x (stP 3 P).2 true (x q2) fin) : Cd k x P false p ((c1 ++ (c2 ++ [(o2, 0)])) ++ ((stP 3 P).1 ++ fin)) := by
  subst e1 e2 h2
  have z := c_two h (f1 (o :: P) _ (st41 (by omega) 1 (by decide)) (c_com41 (by omega) hc (f2 ((o + 1) :: P) _ (st41 (by omega) 1 (by decide)) (c_end42 (by omega) he r))))
  rw [List.append_assoc, List.append_assoc]
  exact z
theorem par_fw {k x : Int → Int} {q1 p p1 : Int} {c1 : List (Int × Int)} (h : k p = -260) (e1 : p1 = x p) (f1 : ∀ (P : List Int) (fin : List (Int × Int)), tpR 1 P → Cd k x P true q1 fin → Cd k x P false p1 (c1 ++ fin)) (hc : k q1 = -259) (P : List Int) (fin : List (Int × Int)) (r : Cd k x (stP 3 P).2 true (x q1) fin) : Cd k x P false p (c1 ++ ((stP 3 P).1 ++ fin)) := by
  subst e1
  exact c_par h (f1 (40 :: P) _ (st41 (by decide) 1 (by decide)) (c_shut40 hc r))
theorem neg_fw {k x : Int → Int} {q1 p p1 : Int} {c1 : List (Int × Int)} (h : k p = -255) (e1 : p1 = x p) (f1 : ∀ (P : List Int) (fin : List (Int × Int)), Cd k x (stP 3 P).2 true q1 fin → Cd k x P false p1 (c1 ++ ((stP 3 P).1 ++ fin))) (P : List Int) (fin : List (Int × Int)) (r : Cd k x (stP 3 P).2 true q1 fin) : Cd k x P false p ((c1 ++ [(2, 0)]) ++ ((stP 3 P).1 ++ fin)) := by
  subst e1
  have e := stP_y (P := P) (l := 3) (o := 2) (by decide)
  have z := f1 (2 :: P) fin (by rw [e]; exact r)
  rw [e] at z
  rw [List.append_assoc]
  exact c_neg h z
theorem mul_fw {k x : Int → Int} {q q1 p p1 : Int} {c c1 : List (Int × Int)} (f : ∀ (P : List Int) (fin : List (Int × Int)), tpR 2 P → Cd k x P true q fin → Cd k x P false p (c ++ fin)) (h : k q = -258 ∨ k q = -253) (e1 : p1 = x q) (f1 : ∀ (P : List Int) (fin : List (Int × Int)), Cd k x (stP 3 P).2 true q1 fin → Cd k x P false p1 (c1 ++ ((stP 3 P).1 ++ fin))) (P : List Int) (fin : List (Int × Int)) (tp : tpR 2 P) (r : Cd k x P true q1 fin) : Cd k x P false p ((c ++ (c1 ++ [(opO (k q), 0)])) ++ fin) := by
  subst e1
  have ho : rkI (opO (k q)) = 2 := by rcases h with h | h <;> rw [h] <;> rfl
  have e := st_e (tpR.cons (l := 3) (o := opO (k q)) (P := P) (by omega))
  have z := f1 (opO (k q) :: P) ((opO (k q), 0) :: fin) (by rw [e.2]; exact c_q (by omega) (fun _ => by omega) r)
  rw [e.1] at z
  rw [List.append_assoc, List.append_assoc]
  exact f P _ tp (c_opl (by omega) (by rw [ho]; exact tp) z)
theorem add_fw {k x : Int → Int} {q q1 p p1 : Int} {c c1 : List (Int × Int)} (f : ∀ (P : List Int) (fin : List (Int × Int)), tpR 1 P → Cd k x P true q fin → Cd k x P false p (c ++ fin)) (h : k q = -257 ∨ k q = -255) (e1 : p1 = x q) (f1 : ∀ (P : List Int) (fin : List (Int × Int)), tpR 2 P → Cd k x P true q1 fin → Cd k x P false p1 (c1 ++ fin)) (hn : ¬ (k q1 = -258 ∨ k q1 = -253)) (P : List Int) (fin : List (Int × Int)) (tp : tpR 1 P) (r : Cd k x P true q1 fin) : Cd k x P false p ((c ++ (c1 ++ [(opO (k q), 0)])) ++ fin) := by
  subst e1
  have ho : rkI (opO (k q)) = 1 := by rcases h with h | h <;> rw [h] <;> rfl
  have z := f1 (opO (k q) :: P) ((opO (k q), 0) :: fin) (tpR.cons (by omega)) (c_q (by omega) (fun e => absurd e hn) r)
  rw [List.append_assoc, List.append_assoc]
  exact f P _ tp (c_opl (by omega) (by rw [ho]; exact tp) z)
/-- the code in the row of a text of the reference -/
def cdL (f : Nat → Int) (t a : Int) : Nat → List (Int × Int)
  | 0 => []
  | n + 1 => cdL f t a n ++ [(f (t + 265 + 2 * (a + n)).toNat, f (t + 265 + 2 * (a + n) + 1).toNat)]
theorem cdL_co {f f' : Nat → Int} {t a : Int} (h0 : 0 ≤ t + 265 + 2 * a) : ∀ (n : Nat), (∀ j : Nat, (j : Int) < t + 265 + 2 * (a + n) → t + 265 + 2 * a ≤ j → f' j = f j) → cdL f' t a n = cdL f t a n
  | 0, _ => rfl
  | n + 1, h => by
    unfold cdL
    rw [h (t + 265 + 2 * (a + n)).toNat (by omega) (by omega), h (t + 265 + 2 * (a + n) + 1).toNat (by omega) (by omega), cdL_co h0 n (fun j j1 j2 => h j (by omega) j2)]
theorem cdL_len {f : Nat → Int} {t a : Int} : ∀ (n : Nat), (cdL f t a n).length = n
  | 0 => rfl
  | n + 1 => by
    unfold cdL
    rw [List.length_append, cdL_len n]
    rfl
theorem cdL_nth {f : Nat → Int} {t a : Int} : ∀ (n i : Nat), i < n → nth (cdL f t a n) i = (f (t + 265 + 2 * (a + i)).toNat, f (t + 265 + 2 * (a + i) + 1).toNat)
  | 0, i, h => absurd h (Nat.not_lt_zero _)
  | n + 1, i, h => by
    unfold cdL
    by_cases e : i < n
    · rw [nth_l _ _ (by rw [cdL_len]; exact e)]
      exact cdL_nth n i e
    · have e1 : i = n := by omega
      have z : ∀ (c : List (Int × Int)) (q : Int × Int), nth (c ++ [q]) c.length = q := fun c q => by
        induction c with
        | nil => rfl
        | cons b c ih => exact ih
      have y := z (cdL f t a n) (f (t + 265 + 2 * (a + n)).toNat, f (t + 265 + 2 * (a + n) + 1).toNat)
      rw [cdL_len] at y
      rw [e1]
      exact y
