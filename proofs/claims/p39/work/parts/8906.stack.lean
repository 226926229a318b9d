/-- the places below the top hold the stack -/
def VsT (f : Nat → Int) : List Int → Prop
  | [] => True
  | v :: t => f t.length = v ∧ VsT f t
theorem VsT.co {f f' : Nat → Int} : ∀ {s : List Int}, VsT f s → (∀ i : Nat, i < s.length → f' i = f i) → VsT f' s
  | [], _, _ => trivial
  | v :: t, h, g => ⟨(g t.length (Nat.lt_succ_self _)).trans h.1, VsT.co h.2 (fun i hi => g i (Nat.lt_succ_of_lt hi))⟩
theorem VsT.push {f f' : Nat → Int} {s : List Int} {v : Int} (h : VsT f s) (hv : f' s.length = v) (g : ∀ i : Nat, i < s.length → f' i = f i) : VsT f' (v :: s) := ⟨hv, h.co g⟩
theorem VsT.top {f : Nat → Int} {s : List Int} {v : Int} (h : VsT f (v :: s)) : f s.length = v ∧ VsT f s := h
/-- in the loop of a code: the op i is next, n values wait in f -/
def EvJ (nm : Int → Int) (c : List (Int × Int)) (f : Nat → Int) (i n : Int) : Prop := ∃ s, EvI nm c i.toNat s ∧ VsT f s ∧ n = s.length
theorem EvJ.start {nm : Int → Int} {c : List (Int × Int)} {f : Nat → Int} (h : H1 c 27) : EvJ nm c f 0 0 := ⟨[], EvI.start h, trivial, rfl⟩
theorem EvJ.fin {nm : Int → Int} {c : List (Int × Int)} {f : Nat → Int} {i n : Int} (h : EvJ nm c f i n) (hi : (c.length : Int) ≤ i) : n = 1 ∧ f 0 = evV nm c := by
  obtain ⟨s, h1, h2, h3⟩ := h
  rw [h1.fin (by omega)] at h2 h3
  exact ⟨h3, h2.1⟩
theorem EvJ.fb {nm : Int → Int} {c : List (Int × Int)} {f : Nat → Int} {i n : Int} (h : EvJ nm c f i n) (hi : (c.length : Int) ≤ i) : -1000000 ≤ evV nm c ∧ evV nm c ≤ 1000000 := by
  obtain ⟨s, h1, h2, h3⟩ := h
  have e := h1.fin (by omega)
  have z := h1.2.2.2
  rw [e] at z
  exact z _ (List.mem_cons_self ..)
theorem EvJ.push {w : Int} {nm : Int → Int} {c : List (Int × Int)} {f f' : Nat → Int} {i n v : Int} (h : EvJ nm c f i n) (i0 : 0 ≤ i) (hi : i < c.length) (hr : rgO w c) (hn : ∀ v, 0 ≤ v → v ≤ 8 → okLw w v → -1000000 ≤ nm v ∧ nm v ≤ 1000000) (ho : ((nth c i.toNat).1 = 0 ∧ v = (nth c i.toNat).2) ∨ ((nth c i.toNat).1 = 1 ∧ v = nm (nth c i.toNat).2)) (hv : f' n.toNat = v) (g : ∀ j : Nat, (j : Int) < n → f' j = f j) : n + 1 ≤ 27 ∧ EvJ nm c f' (i + 1) (n + 1) := by
  obtain ⟨s, h1, h2, h3⟩ := h
  have z := h1.step (by omega) hr hn
  have e : evS nm (nth c i.toNat) s = v :: s := by
    unfold evS
    rcases ho with ⟨a, b⟩ | ⟨a, b⟩
    · rw [if_pos a, b]
    · rw [if_neg (by omega), if_pos a, b]
  have l := z.2.1 (by omega)
  refine ⟨by omega, v :: s, ?_, h2.push (by rw [← hv]; congr 1; omega) (fun j hj => g j (by omega)), by rw [h3]; rfl⟩
  have y := z.1
  rw [e] at y
  rw [show (i + 1).toNat = i.toNat + 1 by omega]
  exact y
theorem EvJ.neg {w : Int} {nm : Int → Int} {c : List (Int × Int)} {f : Nat → Int} {i n : Int} (h : EvJ nm c f i n) (i0 : 0 ≤ i) (hi : i < c.length) (hr : rgO w c) (hn : ∀ v, 0 ≤ v → v ≤ 8 → okLw w v → -1000000 ≤ nm v ∧ nm v ≤ 1000000) (ho : (nth c i.toNat).1 = 2) : 1 ≤ n ∧ (-1000000 ≤ f (n - 1).toNat ∧ f (n - 1).toNat ≤ 1000000) ∧ ∀ f' : Nat → Int, f' (n - 1).toNat = -f (n - 1).toNat → (∀ j : Nat, (j : Int) < n - 1 → f' j = f j) → EvJ nm c f' (i + 1) n := by
  obtain ⟨s, h1, h2, h3⟩ := h
  have z := h1.step (by omega) hr hn
  have l := z.2.2.1 ho
  cases s with
  | nil => exact absurd l (by decide)
  | cons a t =>
    have en : (n - 1).toNat = t.length := by rw [h3]; simp
    have hl : n = (t.length : Int) + 1 := by rw [h3]; simp
    have e : evS nm (nth c i.toNat) (a :: t) = (-a) :: t := by
      unfold evS
      rw [if_neg (by omega), if_neg (by omega)]
      dsimp only
      rw [if_pos ho]
    have b := h1.2.2.2 a (List.mem_cons_self ..)
    refine ⟨by omega, by rw [en, h2.1]; exact b, fun f' g1 g2 => ?_⟩
    · rw [en, h2.1] at g1
      refine ⟨(-a) :: t, ?_, h2.2.push g1 (fun j hj => g2 j (by omega)), by rw [h3]; rfl⟩
      have y := z.1
      rw [e] at y
      rw [show (i + 1).toNat = i.toNat + 1 by omega]
      exact y
theorem EvJ.two {w : Int} {nm : Int → Int} {c : List (Int × Int)} {f : Nat → Int} {i n : Int} (h : EvJ nm c f i n) (i0 : 0 ≤ i) (hi : i < c.length) (hr : rgO w c) (hn : ∀ v, 0 ≤ v → v ≤ 8 → okLw w v → -1000000 ≤ nm v ∧ nm v ≤ 1000000) (ho : 3 ≤ (nth c i.toNat).1) : 2 ≤ n ∧ (-1000000 ≤ f (n - 2).toNat ∧ f (n - 2).toNat ≤ 1000000) ∧ (-1000000 ≤ f (n - 1).toNat ∧ f (n - 1).toNat ≤ 1000000) ∧ ∀ f' : Nat → Int, f' (n - 2).toNat = twV (nth c i.toNat).1 (f (n - 2).toNat) (f (n - 1).toNat) → (∀ j : Nat, (j : Int) < n - 2 → f' j = f j) → EvJ nm c f' (i + 1) (n - 1) := by
  obtain ⟨s, h1, h2, h3⟩ := h
  have z := h1.step (by omega) hr hn
  have l := z.2.2.2 ho
  cases s with
  | nil => exact absurd l (by decide)
  | cons b t =>
    cases t with
    | nil => exact absurd l (by show ¬ 2 ≤ 1; decide)
    | cons a u =>
      have hl : n = (u.length : Int) + 2 := by rw [h3]; simp; omega
      have e1 : (n - 1).toNat = u.length + 1 := by omega
      have e2 : (n - 2).toNat = u.length := by omega
      have hb : f (u.length + 1) = b := h2.1
      have ha : f u.length = a := h2.2.1
      have e : evS nm (nth c i.toNat) (b :: a :: u) = twV (nth c i.toNat).1 a b :: u := by
        unfold evS
        rw [if_neg (by omega), if_neg (by omega)]
        dsimp only
        rw [if_neg (by omega)]
      have bb := h1.2.2.2 b (List.mem_cons_self ..)
      have ba := h1.2.2.2 a (List.mem_cons_of_mem _ (List.mem_cons_self ..))
      refine ⟨by omega, by rw [e2, ha]; exact ba, by rw [e1, hb]; exact bb, fun f' g1 g2 => ?_⟩
      rw [e1, e2, ha, hb] at g1
      refine ⟨twV (nth c i.toNat).1 a b :: u, ?_, h2.2.2.push g1 (fun j hj => g2 j (by omega)), by rw [hl]; simp; omega⟩
      have y := z.1
      rw [e] at y
      rw [show (i + 1).toNat = i.toNat + 1 by omega]
      exact y
/-! the class's loop -/
def EvN (nm : Int → Int) (c : List (Int × Int)) (i : Nat) (s : List Int) : Prop := i ≤ c.length ∧ (evKL nm (c.drop i) s).headD 0 = evKV nm c ∧ HT (c.drop i) s.length 1 27 ∧ s.length ≤ 27
theorem evK_len {nm : Int → Int} {q : Int × Int} {s : List Int} : (evK nm q s).length = (evS nm q s).length := by
  unfold evK evS
  by_cases e0 : q.1 = 0
  · rw [if_pos e0, if_pos e0]
  rw [if_neg e0, if_neg e0]
  by_cases e1 : q.1 = 1
  · rw [if_pos e1, if_pos e1]
  rw [if_neg e1, if_neg e1]
  cases s with
  | nil => rfl
  | cons b t =>
    dsimp only
    by_cases e2 : q.1 = 2
    · rw [if_pos e2, if_pos e2]; rfl
    rw [if_neg e2, if_neg e2]
    cases t with
    | nil => rfl
    | cons a u => rfl
theorem evK_up {nm : Int → Int} {q : Int × Int} {s : List Int} (h0 : 0 ≤ q.1) (h : q.1 ≤ 1 → s.length + 1 ≤ 27) (hs : s.length ≤ 27) : (evK nm q s).length ≤ 27 := by
  unfold evK
  by_cases e0 : q.1 = 0
  · rw [if_pos e0]
    exact h (by omega)
  rw [if_neg e0]
  by_cases e1 : q.1 = 1
  · rw [if_pos e1]
    exact h (by omega)
  rw [if_neg e1]
  cases s with
  | nil => exact hs
  | cons b t =>
    dsimp only
    by_cases e2 : q.1 = 2
    · rw [if_pos e2]; exact hs
    rw [if_neg e2]
    cases t with
    | nil => exact hs
    | cons a u => exact Nat.le_trans (Nat.le_succ _) hs
theorem EvN.hgt {nm : Int → Int} {c : List (Int × Int)} {i : Nat} {s : List Int} (h : EvN nm c i s) : s.length ≤ 27 := h.2.2.2
theorem EvN.start {nm : Int → Int} {c : List (Int × Int)} (h : H1 c 27) : EvN nm c 0 [] := ⟨Nat.zero_le _, rfl, h 0, Nat.zero_le _⟩
theorem EvN.step {w : Int} {nm : Int → Int} {c : List (Int × Int)} {i : Nat} {s : List Int} (h : EvN nm c i s) (hi : i < c.length) (hr : rgO w c) : EvN nm c (i + 1) (evK nm (nth c i) s) ∧ ((nth c i).1 ≤ 1 → s.length + 1 ≤ 27) ∧ ((nth c i).1 = 2 → 1 ≤ s.length) ∧ (3 ≤ (nth c i).1 → 2 ≤ s.length) := by
  obtain ⟨h1, h2, h3, h4⟩ := h
  have r := rgO_nth c i hr hi
  rw [drop_nth c i hi] at h2 h3
  have z := HT.st (nm := nm) h3 r.1
  refine ⟨⟨hi, h2, ?_, evK_up r.1 z.1 h4⟩, z.1, z.2.1, z.2.2.1⟩
  rw [evK_len]
  exact z.2.2.2
theorem EvN.fin {nm : Int → Int} {c : List (Int × Int)} {i : Nat} {s : List Int} (h : EvN nm c i s) (hi : c.length ≤ i) : s = [evKV nm c] := by
  obtain ⟨h1, h2, h3, _⟩ := h
  rw [List.drop_of_length_le hi] at h2 h3
  have z : s.length = 1 := h3
  cases s with
  | nil => exact absurd z (by decide)
  | cons a t =>
    cases t with
    | nil =>
      have y : a = evKV nm c := h2
      rw [y]
    | cons b u => exact absurd z (by show ¬ (u.length + 1 + 1 = 1); omega)
/-- n values wait in f, the op i is next -/
def EvM (nm : Int → Int) (c : List (Int × Int)) (f : Nat → Int) (i n : Int) : Prop := ∃ s, EvN nm c i.toNat s ∧ VsT f s ∧ n = s.length
theorem EvM.start {nm : Int → Int} {c : List (Int × Int)} {f : Nat → Int} (h : H1 c 27) : EvM nm c f 0 0 := ⟨[], EvN.start h, trivial, rfl⟩
theorem EvM.fin {nm : Int → Int} {c : List (Int × Int)} {f : Nat → Int} {i n : Int} (h : EvM nm c f i n) (hi : (c.length : Int) ≤ i) : n = 1 ∧ f 0 = evKV nm c := by
  obtain ⟨s, h1, h2, h3⟩ := h
  rw [h1.fin (by omega)] at h2 h3
  exact ⟨h3, h2.1⟩
theorem EvM.push {w : Int} {nm : Int → Int} {c : List (Int × Int)} {f f' : Nat → Int} {i n v : Int} (h : EvM nm c f i n) (i0 : 0 ≤ i) (hi : i < c.length) (hr : rgO w c) (ho : ((nth c i.toNat).1 = 0 ∧ v = (nth c i.toNat).2) ∨ ((nth c i.toNat).1 = 1 ∧ v = nm (nth c i.toNat).2)) (hv : f' n.toNat = v) (g : ∀ j : Nat, (j : Int) < n → f' j = f j) : n + 1 ≤ 27 ∧ EvM nm c f' (i + 1) (n + 1) := by
  obtain ⟨s, h1, h2, h3⟩ := h
  have z := h1.step (by omega) hr
  have e : evK nm (nth c i.toNat) s = v :: s := by
    unfold evK
    rcases ho with ⟨a, b⟩ | ⟨a, b⟩
    · rw [if_pos a, b]
    · rw [if_neg (by omega), if_pos a, b]
  have l := z.2.1 (by omega)
  refine ⟨by omega, v :: s, ?_, h2.push (by rw [← hv]; congr 1; omega) (fun j hj => g j (by omega)), by rw [h3]; rfl⟩
  have y := z.1
  rw [e] at y
  rw [show (i + 1).toNat = i.toNat + 1 by omega]
  exact y
theorem EvM.neg {w : Int} {nm : Int → Int} {c : List (Int × Int)} {f : Nat → Int} {i n : Int} (h : EvM nm c f i n) (i0 : 0 ≤ i) (hi : i < c.length) (hr : rgO w c) (ho : (nth c i.toNat).1 = 2) : 1 ≤ n ∧ n ≤ 27 ∧ ∀ f' : Nat → Int, f' (n - 1).toNat = wI (-f (n - 1).toNat) → (∀ j : Nat, (j : Int) < n - 1 → f' j = f j) → EvM nm c f' (i + 1) n := by
  obtain ⟨s, h1, h2, h3⟩ := h
  have z := h1.step (by omega) hr
  have l := z.2.2.1 ho
  cases s with
  | nil => exact absurd l (by decide)
  | cons a t =>
    have en : (n - 1).toNat = t.length := by rw [h3]; simp
    have hl : n = (t.length : Int) + 1 := by rw [h3]; simp
    have e : evK nm (nth c i.toNat) (a :: t) = wI (-a) :: t := by
      unfold evK
      rw [if_neg (by omega), if_neg (by omega)]
      dsimp only
      rw [if_pos ho]
    have hb := h1.hgt
    refine ⟨by omega, by rw [h3]; omega, fun f' g1 g2 => ?_⟩
    rw [en, h2.1] at g1
    refine ⟨wI (-a) :: t, ?_, h2.2.push g1 (fun j hj => g2 j (by omega)), by rw [h3]; rfl⟩
    have y := z.1
    rw [e] at y
    rw [show (i + 1).toNat = i.toNat + 1 by omega]
    exact y
theorem EvM.two {w : Int} {nm : Int → Int} {c : List (Int × Int)} {f : Nat → Int} {i n : Int} (h : EvM nm c f i n) (i0 : 0 ≤ i) (hi : i < c.length) (hr : rgO w c) (ho : 3 ≤ (nth c i.toNat).1) : 2 ≤ n ∧ n ≤ 27 ∧ ∀ f' : Nat → Int, f' (n - 2).toNat = twK (nth c i.toNat).1 (f (n - 2).toNat) (f (n - 1).toNat) → (∀ j : Nat, (j : Int) < n - 2 → f' j = f j) → EvM nm c f' (i + 1) (n - 1) := by
  obtain ⟨s, h1, h2, h3⟩ := h
  have z := h1.step (by omega) hr
  have l := z.2.2.2 ho
  have hb := h1.hgt
  cases s with
  | nil => exact absurd l (by decide)
  | cons b t =>
    cases t with
    | nil => exact absurd l (by show ¬ 2 ≤ 1; decide)
    | cons a u =>
      have hl : n = (u.length : Int) + 2 := by rw [h3]; simp; omega
      have e1 : (n - 1).toNat = u.length + 1 := by omega
      have e2 : (n - 2).toNat = u.length := by omega
      have hb1 : f (u.length + 1) = b := h2.1
      have ha : f u.length = a := h2.2.1
      have e : evK nm (nth c i.toNat) (b :: a :: u) = twK (nth c i.toNat).1 a b :: u := by
        unfold evK
        rw [if_neg (by omega), if_neg (by omega)]
        dsimp only
        rw [if_neg (by omega)]
      refine ⟨by omega, by rw [h3]; omega, fun f' g1 g2 => ?_⟩
      rw [e1, e2, ha, hb1] at g1
      refine ⟨twK (nth c i.toNat).1 a b :: u, ?_, h2.2.2.push g1 (fun j hj => g2 j (by omega)), by rw [hl]; simp; omega⟩
      have y := z.1
      rw [e] at y
      rw [show (i + 1).toNat = i.toNat + 1 by omega]
      exact y
theorem EvM.le {nm : Int → Int} {c : List (Int × Int)} {f : Nat → Int} {i n : Int} (h : EvM nm c f i n) : 0 ≤ n ∧ n ≤ 27 := by
  obtain ⟨s, h1, h2, h3⟩ := h
  have hb := h1.hgt
  omega
