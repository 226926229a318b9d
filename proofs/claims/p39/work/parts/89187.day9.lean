/-! A DAY: X beside the walk, or in it -/
theorem up_up {S : Sw} {k j : Nat} {v w : Int} : up (up S k j v) k j w = up S k j w := by
  funext a b
  unfold up
  by_cases e : a = k ∧ b = j
  · rw [if_pos e, if_pos e]
  · rw [if_neg e, if_neg e, if_neg e]
theorem up_cm {S : Sw} {k j k2 j2 : Nat} {v w : Int} (h : ¬ (k = k2 ∧ j = j2)) : up (up S k j v) k2 j2 w = up (up S k2 j2 w) k j v := by
  funext a b
  unfold up
  by_cases e : a = k ∧ b = j
  · rw [if_pos e, if_pos e, if_neg (fun q => h ⟨e.1.symm.trans q.1, e.2.symm.trans q.2⟩)]
  · rw [if_neg e, if_neg e]
theorem fPl_X {S : Sw} {c f x : Int} : fPl c f (up S 16 3 x) = up (fPl c f S) 16 3 x := by
  unfold fPl
  rw [up_cm (k := 16) (j := 3) (k2 := 16) (j2 := 0) (by decide), up_cm (k := 16) (j := 3) (k2 := 16) (j2 := 1) (by decide)]
theorem sc_X {S : Sw} {v x : Int} : sc v (up S 16 3 x) = up (sc v S) 16 3 x := by
  unfold sc
  rw [up_cm (k := 16) (j := 3) (k2 := 16) (j2 := 2) (by decide)]
theorem pa_X {S : Sw} {x c d : Int} : paS (up S 16 3 x) c d = paS S c d := paS_co (up_ne (by decide)) (up_ne (by decide)) (fun k j hk => up_ne (by omega)) (up_ne (by decide)) (fun _ => up_ne (by omega)) (fun _ => up_ne (by omega)) (fun _ => up_ne (by omega)) c d
theorem ak_X {S : Sw} {x t : Int} (h : 0 ≤ t) : akS (up S 16 3 x) t = akS S t := by
  unfold akS
  refine lwS_co (up_ne (by decide)) (up_ne (by decide)) (fun k j hk => up_ne (by omega)) ?_
  unfold anS
  rw [show up S 16 3 x 5 = S 5 from funext fun j => up_ne (by omega), up_ne (k := 16) (j := 3) (a := 16) (b := (4 + t).toNat) (by omega)]
theorem fFa_X {S : Sw} {w x : Int} : fFa w (up S 16 3 x) = up (fFa w S) 16 3 x := by
  unfold fFa
  rw [up_ne (k := 16) (j := 3) (a := 16) (b := 1) (by decide), up_cm (k := 16) (j := 3) (k2 := 16) (j2 := 1) (by decide)]
theorem fHe_X {S : Sw} {t x : Int} (h : 0 ≤ t) : fHe t (up S 16 3 x) = up (fHe t S) 16 3 x := by
  unfold fHe
  rw [ak_X h, up_ne (k := 16) (j := 3) (a := 16) (b := 2) (by decide), up_ne (k := 16) (j := 3) (a := 16) (b := (4 + t).toNat) (by omega), sc_X, up_cm (k := 16) (j := 3) (k2 := 16) (j2 := (4 + t).toNat) (by omega)]
theorem hlS_X {S : Sw} {x : Int} : ∀ (n : Nat) (t : Int), 0 ≤ t → hlS n t (up S 16 3 x) = up (hlS n t S) 16 3 x
  | 0, _, _ => rfl
  | n + 1, t, h => by
    unfold hlS
    rw [up_ne (k := 16) (j := 3) (by omega), up_ne (k := 16) (j := 3) (a := 16) (b := 0) (by decide)]
    split
    · exact fHe_X h
    · exact hlS_X n (t + 1) (by omega)
theorem hlS_3 {S : Sw} : ∀ (n : Nat) (t : Int), 0 ≤ t → hlS n t S 16 3 = S 16 3
  | 0, _, _ => rfl
  | n + 1, t, h => by
    unfold hlS
    split
    · unfold fHe sc; rw [up_ne (by omega), up_ne (by decide)]
    · exact hlS_3 n (t + 1) (by omega)
theorem drS_X {S : Sw} {w x : Int} : drS w (up S 16 3 x) = up (drS w S) 16 3 x := by
  unfold drS
  have e0 : up S 16 3 x 16 0 = S 16 0 := up_ne (by decide)
  have e1 : up S 16 3 x 16 1 = S 16 1 := up_ne (by decide)
  have e8 : up S 16 3 x 1 8 = S 1 8 := up_ne (by decide)
  have ew : wkS (up S 16 3 x) (S 16 1) 1 (S 16 0) = wkS S (S 16 1) 1 (S 16 0) := wk_co (up_ne (by decide)) (fun _ => up_ne (by omega)) _ _ _
  rw [e0, e1, e8, ew]
  split
  · exact fFa_X
  · split
    · exact hlS_X _ _ (by decide)
    · split
      · unfold fAh
        rw [e0, e1, ah_co (S := S) (up_ne (by decide)) (fun _ => up_ne (by omega)), pa_X, up_ne (k := 16) (j := 3) (a := 16) (b := 2) (by decide), fPl_X, sc_X]
      · exact fFa_X
theorem drS_3 {S : Sw} {w : Int} : drS w S 16 3 = S 16 3 := by
  unfold drS
  split
  · exact up_ne (by decide)
  · split
    · exact hlS_3 _ _ (by decide)
    · split
      · unfold fAh sc fPl; rw [up_ne (by decide), up_ne (by decide), up_ne (by decide)]
      · exact up_ne (by decide)
/-- one of a day, with X in the walk -/
noncomputable def drR (S : Sw) : Sw := up (drS (S 16 3 % 4) S) 16 3 (nwX (S 16 3))
noncomputable def rI : Nat → Sw → Sw
  | 0, S => S
  | n + 1, S => rI n (drR S)
theorem rI_last : ∀ (n : Nat) (S : Sw), rI (n + 1) S = drR (rI n S)
  | 0, _ => rfl
  | n + 1, S => rI_last n (drR S)
theorem rI_dy : ∀ (n : Nat) (x : Int) (T : Sw), rI n (up T 16 3 x) = dyS n x T
  | 0, _, _ => rfl
  | n + 1, x, T => by
    show rI n (drR (up T 16 3 x)) = dyS n (nwX x) (drS (x % 4) T)
    rw [← rI_dy n]
    unfold drR
    rw [up_same, drS_X, up_up]
