/-! LAWS: the value of a code -/
def hvI (v : Int) : Int := if v > 1000000 then 1000000 else if v < -1000000 then -1000000 else v
def twV (o a b : Int) : Int := if o = 3 then hvI (a + b) else if o = 4 then hvI (a - b) else if o = 5 then hvI (a * b) else if o = 7 then (if a < b then a else b) else if o = 8 then (if a > b then a else b) else if b = 0 then 0 else Int.tdiv a b
/-- the top of the stack stands first -/
def evS (nm : Int → Int) (q : Int × Int) (s : List Int) : List Int := if q.1 = 0 then q.2 :: s else if q.1 = 1 then nm q.2 :: s else match s with
  | [] => []
  | b :: t => if q.1 = 2 then (-b) :: t else match t with
    | [] => [b]
    | a :: u => twV q.1 a b :: u
def evL (nm : Int → Int) : List (Int × Int) → List Int → List Int
  | [], s => s
  | q :: c, s => evL nm c (evS nm q s)
def evV (nm : Int → Int) (c : List (Int × Int)) : Int := (evL nm c []).headD 0
theorem HT.st {nm : Int → Int} {q : Int × Int} {c : List (Int × Int)} {s : List Int} {e b : Nat} (h : HT (q :: c) s.length e b) (h0 : 0 ≤ q.1) : (q.1 ≤ 1 → s.length + 1 ≤ b) ∧ (q.1 = 2 → 1 ≤ s.length) ∧ (3 ≤ q.1 → 2 ≤ s.length) ∧ HT c (evS nm q s).length e b := by
  obtain ⟨o, v⟩ := q
  unfold HT at h
  dsimp only at h0 ⊢
  unfold evS
  dsimp only
  by_cases e1 : o ≤ 1
  · rw [if_pos e1] at h
    refine ⟨fun _ => h.1, fun z => by omega, fun z => by omega, ?_⟩
    by_cases e2 : o = 0
    · rw [if_pos e2]
      exact h.2
    · rw [if_neg e2, if_pos (by omega)]
      exact h.2
  · rw [if_neg e1] at h
    rw [if_neg (by omega), if_neg (by omega)]
    by_cases e2 : o = 2
    · rw [if_pos e2] at h
      refine ⟨fun z => by omega, fun _ => h.1, fun z => by omega, ?_⟩
      cases s with
      | nil => exact absurd h.1 (by decide)
      | cons a t =>
        dsimp only
        rw [if_pos e2]
        exact h.2
    · rw [if_neg e2] at h
      refine ⟨fun z => by omega, fun z => by omega, fun _ => h.1, ?_⟩
      cases s with
      | nil => exact absurd h.1 (by decide)
      | cons a t =>
        cases t with
        | nil => exact absurd h.1 (by show ¬ 2 ≤ 1; decide)
        | cons a2 u =>
          dsimp only
          rw [if_neg e2]
          exact h.2
theorem drop_nth : ∀ (c : List (Int × Int)) (i : Nat), i < c.length → c.drop i = nth c i :: c.drop (i + 1)
  | [], i, h => absurd h (Nat.not_lt_zero _)
  | a :: c, 0, _ => rfl
  | a :: c, i + 1, h => drop_nth c i (Nat.lt_of_succ_lt_succ h)
theorem rgO_nth {w : Int} : ∀ (c : List (Int × Int)) (i : Nat), rgO w c → i < c.length → 0 ≤ (nth c i).1 ∧ (nth c i).1 ≤ 8 ∧ ((nth c i).1 = 0 → 0 ≤ (nth c i).2 ∧ (nth c i).2 ≤ 9999) ∧ ((nth c i).1 = 1 → 0 ≤ (nth c i).2 ∧ (nth c i).2 ≤ 8 ∧ okLw w (nth c i).2)
  | [], i, _, h => absurd h (Nat.not_lt_zero _)
  | a :: c, 0, r, _ => r.1
  | a :: c, i + 1, r, h => rgO_nth c i r.2 (Nat.lt_of_succ_lt_succ h)
/-- values that stay small -/
def smV (s : List Int) : Prop := ∀ v ∈ s, -1000000 ≤ v ∧ v ≤ 1000000
theorem hvI_b (v : Int) : -1000000 ≤ hvI v ∧ hvI v ≤ 1000000 := by
  unfold hvI
  by_cases h : v > 1000000
  · rw [if_pos h]; omega
  · rw [if_neg h]
    by_cases h2 : v < -1000000
    · rw [if_pos h2]; omega
    · rw [if_neg h2]; omega
theorem twV_b {o a b : Int} (ha : -1000000 ≤ a ∧ a ≤ 1000000) (hb : -1000000 ≤ b ∧ b ≤ 1000000) : -1000000 ≤ twV o a b ∧ twV o a b ≤ 1000000 := by
  unfold twV
  by_cases h1 : o = 3
  · rw [if_pos h1]; exact hvI_b _
  rw [if_neg h1]
  by_cases h2 : o = 4
  · rw [if_pos h2]; exact hvI_b _
  rw [if_neg h2]
  by_cases h3 : o = 5
  · rw [if_pos h3]; exact hvI_b _
  rw [if_neg h3]
  by_cases h4 : o = 7
  · rw [if_pos h4]
    by_cases h : a < b
    · rw [if_pos h]; exact ha
    · rw [if_neg h]; exact hb
  rw [if_neg h4]
  by_cases h5 : o = 8
  · rw [if_pos h5]
    by_cases h : a > b
    · rw [if_pos h]; exact ha
    · rw [if_neg h]; exact hb
  rw [if_neg h5]
  by_cases h6 : b = 0
  · rw [if_pos h6]; omega
  rw [if_neg h6]
  have z := Int.natAbs_tdiv_le_natAbs a b
  omega
theorem smV.step {w : Int} {nm : Int → Int} {q : Int × Int} {s : List Int} (h : smV s) (hn : ∀ v, 0 ≤ v → v ≤ 8 → okLw w v → -1000000 ≤ nm v ∧ nm v ≤ 1000000) (h0 : q.1 = 0 → 0 ≤ q.2 ∧ q.2 ≤ 9999) (h1 : q.1 = 1 → 0 ≤ q.2 ∧ q.2 ≤ 8 ∧ okLw w q.2) : smV (evS nm q s) := by
  unfold evS
  by_cases e0 : q.1 = 0
  · rw [if_pos e0]
    intro v hv
    rcases List.mem_cons.mp hv with z | z
    · have := h0 e0; omega
    · exact h v z
  rw [if_neg e0]
  by_cases e1 : q.1 = 1
  · rw [if_pos e1]
    intro v hv
    rcases List.mem_cons.mp hv with z | z
    · rw [z]; exact hn _ (h1 e1).1 (h1 e1).2.1 (h1 e1).2.2
    · exact h v z
  rw [if_neg e1]
  cases s with
  | nil => exact h
  | cons b t =>
    dsimp only
    by_cases e2 : q.1 = 2
    · rw [if_pos e2]
      intro v hv
      rcases List.mem_cons.mp hv with z | z
      · have := h b (List.mem_cons_self ..); omega
      · exact h v (List.mem_cons_of_mem _ z)
    rw [if_neg e2]
    cases t with
    | nil => exact h
    | cons a u =>
      intro v hv
      rcases List.mem_cons.mp hv with z | z
      · rw [z]; exact twV_b (h a (List.mem_cons_of_mem _ (List.mem_cons_self ..))) (h b (List.mem_cons_self ..))
      · exact h v (List.mem_cons_of_mem _ (List.mem_cons_of_mem _ z))
/-- in the middle of a code: the stack s, the ops from i on -/
def EvI (nm : Int → Int) (c : List (Int × Int)) (i : Nat) (s : List Int) : Prop := i ≤ c.length ∧ (evL nm (c.drop i) s).headD 0 = evV nm c ∧ HT (c.drop i) s.length 1 27 ∧ smV s
theorem EvI.start {nm : Int → Int} {c : List (Int × Int)} (h : H1 c 27) : EvI nm c 0 [] := ⟨Nat.zero_le _, rfl, h 0, fun v hv => absurd hv (List.not_mem_nil)⟩
theorem EvI.step {w : Int} {nm : Int → Int} {c : List (Int × Int)} {i : Nat} {s : List Int} (h : EvI nm c i s) (hi : i < c.length) (hr : rgO w c) (hn : ∀ v, 0 ≤ v → v ≤ 8 → okLw w v → -1000000 ≤ nm v ∧ nm v ≤ 1000000) : EvI nm c (i + 1) (evS nm (nth c i) s) ∧ ((nth c i).1 ≤ 1 → s.length + 1 ≤ 27) ∧ ((nth c i).1 = 2 → 1 ≤ s.length) ∧ (3 ≤ (nth c i).1 → 2 ≤ s.length) := by
  obtain ⟨h1, h2, h3, h4⟩ := h
  have r := rgO_nth c i hr hi
  rw [drop_nth c i hi] at h2 h3
  have z := HT.st (nm := nm) h3 r.1
  exact ⟨⟨hi, h2, z.2.2.2, h4.step hn r.2.2.1 r.2.2.2⟩, z.1, z.2.1, z.2.2.1⟩
theorem EvI.fin {nm : Int → Int} {c : List (Int × Int)} {i : Nat} {s : List Int} (h : EvI nm c i s) (hi : c.length ≤ i) : s = [evV nm c] := by
  obtain ⟨h1, h2, h3, h4⟩ := h
  rw [List.drop_of_length_le hi] at h2 h3
  have z : s.length = 1 := h3
  cases s with
  | nil => exact absurd z (by decide)
  | cons a t =>
    cases t with
    | nil =>
      have y : a = evV nm c := h2
      rw [y]
    | cons b u => exact absurd z (by show ¬ (u.length + 1 + 1 = 1); omega)
/-! the same as the class works: its ints may be any -/
def twK (o a b : Int) : Int := hvI (if o = 3 then a + b else if o = 4 then a - b else if o = 5 then a * b else if o = 7 then (if a < b then a else b) else if o = 8 then (if a > b then a else b) else if b = 0 then 0 else Int.tdiv a b)
def evK (nm : Int → Int) (q : Int × Int) (s : List Int) : List Int := if q.1 = 0 then q.2 :: s else if q.1 = 1 then nm q.2 :: s else match s with
  | [] => []
  | b :: t => if q.1 = 2 then wI (-b) :: t else match t with
    | [] => [b]
    | a :: u => twK q.1 a b :: u
def evKL (nm : Int → Int) : List (Int × Int) → List Int → List Int
  | [], s => s
  | q :: c, s => evKL nm c (evK nm q s)
def evKV (nm : Int → Int) (c : List (Int × Int)) : Int := (evKL nm c []).headD 0
theorem hvI_id {v : Int} (h : -1000000 ≤ v ∧ v ≤ 1000000) : hvI v = v := by
  unfold hvI
  rw [if_neg (by omega), if_neg (by omega)]
theorem twK_eq {o a b : Int} (ha : -1000000 ≤ a ∧ a ≤ 1000000) (hb : -1000000 ≤ b ∧ b ≤ 1000000) : twK o a b = twV o a b := by
  unfold twK twV
  by_cases h1 : o = 3
  · rw [if_pos h1, if_pos h1]
  rw [if_neg h1, if_neg h1]
  by_cases h2 : o = 4
  · rw [if_pos h2, if_pos h2]
  rw [if_neg h2, if_neg h2]
  by_cases h3 : o = 5
  · rw [if_pos h3, if_pos h3]
  rw [if_neg h3, if_neg h3]
  by_cases h4 : o = 7
  · rw [if_pos h4]
    by_cases h : a < b
    · rw [if_pos h]; exact hvI_id ha
    · rw [if_neg h]; exact hvI_id hb
  rw [if_neg h4]
  by_cases h5 : o = 8
  · rw [if_pos h5]
    by_cases h : a > b
    · rw [if_pos h]; exact hvI_id ha
    · rw [if_neg h]; exact hvI_id hb
  rw [if_neg h5]
  by_cases h6 : b = 0
  · rw [if_pos h6]; exact hvI_id (by omega)
  rw [if_neg h6]
  have z := Int.natAbs_tdiv_le_natAbs a b
  exact hvI_id (by omega)
theorem evK_eq {nm : Int → Int} {q : Int × Int} {s : List Int} (h : smV s) : evK nm q s = evS nm q s := by
  unfold evK evS
  by_cases e0 : q.1 = 0
  · rw [if_pos e0, if_pos e0]
  rw [if_neg e0, if_neg e0]
  by_cases e1 : q.1 = 1
  · rw [if_pos e1, if_pos e1]
  rw [if_neg e1, if_neg e1]
  cases s with
  | nil => rfl
  | cons b t =>
    have hb := h b (List.mem_cons_self ..)
    dsimp only
    by_cases e2 : q.1 = 2
    · rw [if_pos e2, if_pos e2, wI_id (by omega) (by omega)]
    rw [if_neg e2, if_neg e2]
    cases t with
    | nil => rfl
    | cons a u =>
      have ha := h a (List.mem_cons_of_mem _ (List.mem_cons_self ..))
      show twK q.1 a b :: u = twV q.1 a b :: u
      rw [twK_eq ha hb]
theorem evKL_eq {w : Int} {nm : Int → Int} (hn : ∀ v, 0 ≤ v → v ≤ 8 → okLw w v → -1000000 ≤ nm v ∧ nm v ≤ 1000000) : ∀ (c : List (Int × Int)) (s : List Int), rgO w c → smV s → evKL nm c s = evL nm c s
  | [], _, _, _ => rfl
  | (o, v) :: c, s, r, h => by
    show evKL nm c (evK nm (o, v) s) = evL nm c (evS nm (o, v) s)
    rw [evK_eq h]
    exact evKL_eq hn c _ r.2 (h.step hn r.1.2.2.1 r.1.2.2.2)
theorem evKV_eq {w : Int} {nm : Int → Int} {c : List (Int × Int)} (hn : ∀ v, 0 ≤ v → v ≤ 8 → okLw w v → -1000000 ≤ nm v ∧ nm v ≤ 1000000) (r : rgO w c) : evKV nm c = evV nm c := by
  unfold evKV evV
  rw [evKL_eq hn c [] r (fun v hv => absurd hv (List.not_mem_nil))]
/-- names that a law may not use don't matter -/
theorem evKL_co {w : Int} {nm nm' : Int → Int} (hn : ∀ v, 0 ≤ v → v ≤ 8 → okLw w v → nm v = nm' v) : ∀ (c : List (Int × Int)) (s : List Int), rgO w c → evKL nm c s = evKL nm' c s
  | [], _, _ => rfl
  | (o, v) :: c, s, r => by
    have e : evK nm (o, v) s = evK nm' (o, v) s := by
      unfold evK
      dsimp only
      by_cases e0 : o = 0
      · rw [if_pos e0, if_pos e0]
      rw [if_neg e0, if_neg e0]
      by_cases e1 : o = 1
      · have q := r.1.2.2.2 e1
        rw [if_pos e1, if_pos e1, hn v q.1 q.2.1 q.2.2]
      rw [if_neg e1, if_neg e1]
    show evKL nm c (evK nm (o, v) s) = evKL nm' c (evK nm' (o, v) s)
    rw [e]
    exact evKL_co hn c _ r.2
theorem evKV_co {w : Int} {nm nm' : Int → Int} {c : List (Int × Int)} (hn : ∀ v, 0 ≤ v → v ≤ 8 → okLw w v → nm v = nm' v) (r : rgO w c) : evKV nm c = evKV nm' c := by
  unfold evKV
  rw [evKL_co hn c [] r]
/-- one op out of the class's int -/
def evD (v : Int) : Int × Int := if v < 10000 then (0, v) else if v < 20000 then (1, v - 10000) else if v = 20006 then (2, 0) else (v - 19997, 0)
theorem evK_op {nm : Int → Int} {o v v' : Int} {s : List Int} (h : 2 ≤ o) : evK nm (o, v) s = evK nm (o, v') s := by
  unfold evK
  dsimp only
  rw [if_neg (show ¬ o = 0 by omega), if_neg (show ¬ o = 1 by omega), if_neg (show ¬ o = 0 by omega), if_neg (show ¬ o = 1 by omega)]
theorem evD_enc {w : Int} {nm : Int → Int} {o v : Int} {s : List Int} (h : 0 ≤ o ∧ o ≤ 8 ∧ (o = 0 → 0 ≤ v ∧ v ≤ 9999) ∧ (o = 1 → 0 ≤ v ∧ v ≤ 8 ∧ okLw w v)) : evK nm (evD (enc (o, v))) s = evK nm (o, v) s := by
  obtain ⟨h1, h2, h3, h4⟩ := h
  unfold enc
  dsimp only
  by_cases e0 : o = 0
  · have z := h3 e0
    rw [if_pos e0]
    unfold evD
    rw [if_pos (by omega), e0]
  by_cases e1 : o = 1
  · have z1 := (h4 e1).1
    have z2 := (h4 e1).2.1
    rw [if_neg e0, if_pos e1]
    unfold evD
    rw [if_neg (by omega), if_pos (by omega), show 10000 + v - 10000 = v by omega, e1]
  by_cases e2 : o = 2
  · rw [if_neg e0, if_neg e1, if_pos e2]
    unfold evD
    rw [if_neg (by decide), if_neg (by decide), if_pos rfl, e2]
    exact evK_op (by decide)
  · rw [if_neg e0, if_neg e1, if_neg e2]
    unfold evD
    rw [if_neg (by omega), if_neg (by omega), if_neg (by omega), show 19997 + o - 19997 = o by omega]
    exact evK_op (by omega)
/-- the class's code between two places -/
def lsC (f : Nat → Int) (a : Nat) : Nat → List (Int × Int)
  | 0 => []
  | n + 1 => evD (f a) :: lsC f (a + 1) n
theorem lsC_co {f f' : Nat → Int} : ∀ (n a : Nat), (∀ i : Nat, a ≤ i → i < a + n → f' i = f i) → lsC f' a n = lsC f a n
  | 0, _, _ => rfl
  | n + 1, a, h => by
    unfold lsC
    rw [h a (Nat.le_refl _) (by omega), lsC_co n (a + 1) (fun i i1 i2 => h i (by omega) (by omega))]
theorem lsC_L {w : Int} {nm : Int → Int} {f : Nat → Int} : ∀ (c : List (Int × Int)) (a : Nat) (s : List Int), rgO w c → (∀ i : Nat, i < c.length → f (a + i) = enc (nth c i)) → evKL nm (lsC f a c.length) s = evKL nm c s
  | [], _, _, _, _ => rfl
  | (o, v) :: c, a, s, r, h => by
    have h0 : f a = enc (o, v) := h 0 (by simp)
    show evKL nm (lsC f (a + 1) c.length) (evK nm (evD (f a)) s) = evKL nm c (evK nm (o, v) s)
    rw [h0, evD_enc r.1]
    exact lsC_L c (a + 1) _ r.2 (fun i hi => by
      have z := h (i + 1) (by simpa using hi)
      rw [show a + 1 + i = a + (i + 1) by omega]
      exact z)
theorem lsC_V {w : Int} {nm : Int → Int} {f : Nat → Int} {c : List (Int × Int)} {a : Nat} (r : rgO w c) (h : ∀ i : Nat, i < c.length → f (a + i) = enc (nth c i)) : evKV nm (lsC f a c.length) = evKV nm c := by
  unfold evKV
  rw [lsC_L c a [] r h]
