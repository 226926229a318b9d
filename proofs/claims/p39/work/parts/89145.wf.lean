/-! TURNS OF A NUMBER; tellings stay well formed -/
def tq : Nat → Int → Int
  | 0, v => v % 1000
  | k + 1, v => tq k (v / 1000)
theorem pTn_fr {f : Int} (hf : 0 ≤ f) : ∀ (n : Nat) (v : Int) (S : Sw) (k j : Nat), ¬ (k = 6 ∧ f ≤ (j : Int) ∧ (j : Int) < f + n) → (pTn n f v S).1 k j = S k j
  | 0, _, _, _, _, _ => rfl
  | n + 1, v, S, k, j, h => by
    by_cases e : isTu (v % 1000)
    · rw [pTn_s e, pTn_fr hf n _ _ k j (by omega), up_ne (by omega)]
    · rw [pTn_f e]
theorem pTn_ok {f : Int} (hf : 0 ≤ f) : ∀ (n : Nat) (v : Int) (S : Sw), (pTn n f v S).2 = true → (∀ i : Nat, i < n → isTu (tq i v) ∧ (pTn n f v S).1 6 (f + (n - 1 - i : Nat)).toNat = tq i v)
  | 0, _, _, _, i, hi => absurd hi (Nat.not_lt_zero _)
  | n + 1, v, S, h, i, hi => by
    by_cases e : isTu (v % 1000)
    · rw [pTn_s e] at h ⊢
      match i, hi with
      | 0, _ =>
        refine ⟨e, ?_⟩
        rw [pTn_fr hf _ _ _ _ _ (by omega), show (f + ((n + 1 - 1 - 0 : Nat) : Int)).toNat = (f + (n : Int)).toNat by omega, up_same]
        rfl
      | i + 1, hi =>
        obtain ⟨a, b⟩ := pTn_ok hf n (v / 1000) _ h i (by omega)
        refine ⟨a, ?_⟩
        rw [show n + 1 - 1 - (i + 1) = n - 1 - i by omega]
        exact b
    · rw [pTn_f e] at h
      exact absurd h Bool.false_ne_true
theorem pTn_no {f : Int} : ∀ (n : Nat) (v : Int) (S : Sw), (pTn n f v S).2 = false → ∃ i : Nat, i < n ∧ ¬ isTu (tq i v)
  | 0, _, _, h => absurd h.symm Bool.false_ne_true
  | n + 1, v, S, h => by
    by_cases e : isTu (v % 1000)
    · rw [pTn_s e] at h
      obtain ⟨i, a, b⟩ := pTn_no n (v / 1000) _ h
      exact ⟨i + 1, by omega, b⟩
    · exact ⟨0, by omega, e⟩
theorem cnT_b (v : Int) : 1 ≤ cnT v ∧ cnT v ≤ 3 := by
  unfold cnT
  split
  · exact ⟨by decide, by decide⟩
  · split <;> exact ⟨by decide, by decide⟩
/-- what a put of turns leaves, and what it puts -/
theorem PutS.fr {f v : Int} {S S' : Sw} {r : Int} (hf : 0 ≤ f) (h : PutS f v S S' r) (k j : Nat) (hj : ¬ (k = 6 ∧ f ≤ (j : Int) ∧ (j : Int) < f + 3)) : S' k j = S k j := by
  have hc := cnT_b v
  rcases h with h | ⟨_, h | h⟩
  · rw [h.2.2]
  · have e := pTn_fr hf (cnT v) v S k j (by omega)
    rw [h.1] at e
    exact e
  · have e := pTn_fr hf (cnT v) v S k j (by omega)
    rw [h.1] at e
    exact e
theorem PutS.ok {f v : Int} {S S' : Sw} {r : Int} (hf : 0 ≤ f) (h : PutS f v S S' r) (hr : r ≠ -1) : 0 < v ∧ v < 1000000000 ∧ r = (cnT v : Int) ∧ ∀ i : Nat, i < cnT v → isTu (tq (cnT v - 1 - i) v) ∧ S' 6 (f + i).toNat = tq (cnT v - 1 - i) v := by
  rcases h with h | ⟨hb, h | h⟩
  · exact absurd h.2.1 hr
  · refine ⟨hb.1, hb.2, h.2, fun i hi => ?_⟩
    have e := pTn_ok hf (cnT v) v S (by rw [h.1]) (cnT v - 1 - i) (by omega)
    rw [h.1, show cnT v - 1 - (cnT v - 1 - i) = i by omega] at e
    exact e
  · exact absurd h.2 hr
theorem PutS.no {f v : Int} {S S' : Sw} (h : PutS f v S S' (-1)) : ¬ (0 < v ∧ v < 1000000000) ∨ ∃ i : Nat, i < cnT v ∧ ¬ isTu (tq i v) := by
  have hc := cnT_b v
  rcases h with h | ⟨hb, h | h⟩
  · exact Or.inl h.1
  · have := h.2
    omega
  · exact Or.inr (pTn_no (f := f) (cnT v) v S (by rw [h.1]))
theorem isTu_b {t : Int} (h : isTu t) : 0 ≤ t ∧ t ≤ 399 := by
  unfold isTu at h
  omega
/-- rows of tellings that are told already stay -/
def Fr6 (S S' : Sw) : Prop := S' 1 9 = S 1 9 ∧ ∀ j : Nat, (j : Int) < 9 * S 1 9 → S' 6 j = S 6 j
theorem Fr6.refl (S : Sw) : Fr6 S S := ⟨rfl, fun _ _ => rfl⟩
theorem Fr6.trans {A B C : Sw} (h : Fr6 A B) (g : Fr6 B C) : Fr6 A C := ⟨g.1.trans h.1, fun j hj => (g.2 j (by rw [h.1]; exact hj)).trans (h.2 j hj)⟩
theorem Fr6.up {S : Sw} {k j : Nat} {v : Int} (hk : k ≠ 6) (h : ¬ (k = 1 ∧ j = 9)) : Fr6 S (up S k j v) := ⟨up_ne (fun e => h ⟨e.1.symm, e.2.symm⟩), fun _ _ => up_ne (fun e => hk e.1.symm)⟩
theorem Fr6.kp {S : Sw} : Fr6 S (fKp S) := ⟨fKp_o (by decide) (by decide), fun _ _ => fKp_o (by decide) (by decide)⟩
theorem Fr6.pl {S : Sw} {c f : Int} : Fr6 S (fPl c f S) := (Fr6.up (by decide) (by decide)).trans (Fr6.up (by decide) (by decide))
theorem Fr6.sc {S : Sw} {v : Int} : Fr6 S (sc v S) := Fr6.up (by decide) (by decide)
theorem Fr6.ah {S : Sw} : Fr6 S (fAh S) := Fr6.pl.trans Fr6.sc
theorem Fr6.go : ∀ (n : Nat) (S : Sw), Fr6 S (goS n S).1
  | 0, S => Fr6.refl S
  | n + 1, S => by
    unfold goS
    split
    · exact Fr6.refl S
    · exact (Fr6.kp.trans Fr6.ah).trans (Fr6.go n _)
theorem wfA.fr {S S' : Sw} (h : wfA S) (f : Fr6 S S') : wfA S' := wfA_co h f.1 f.2
theorem CornerS.f6 {v : Int} {S S' : Sw} {r : Int} (h : CornerS v S S' r) : Fr6 S S' := by
  rcases h with ⟨_, _, e⟩ | ⟨_, _, e⟩ <;> rw [e]
  · exact (Fr6.up (by decide) (fun e => by omega)).trans (Fr6.up (by decide) (by decide))
  · exact Fr6.refl S
theorem StreetS.f6 {f d t la : Int} {S S' : Sw} {r : Int} (h : StreetS f d t la S S' r) : Fr6 S S' := by
  rcases h with ⟨_, _, e⟩ | ⟨_, _, e⟩ <;> rw [e]
  · unfold stS
    exact (((Fr6.up (by decide) (fun e => by omega)).trans (Fr6.up (by decide) (fun e => by omega))).trans (Fr6.up (by decide) (fun e => by omega))).trans (Fr6.up (by decide) (fun e => by omega))
  · exact Fr6.refl S
theorem GoalS.f6 {c : Int} {S S' : Sw} {r : Int} (h : GoalS c S S' r) : Fr6 S S' := by
  rcases h with ⟨_, _, e⟩ | ⟨_, _, e⟩ <;> rw [e]
  · exact Fr6.up (by decide) (by decide)
  · exact Fr6.refl S
theorem TellerS.f6 {c a b m : Int} {S S' : Sw} {r : Int} (h : TellerS c a b m S S' r) : Fr6 S S' := by
  rcases h with ⟨_, _, e⟩ | ⟨_, _, e⟩ <;> rw [e]
  · unfold teS
    exact ((((Fr6.up (by decide) (fun e => by omega)).trans (Fr6.up (by decide) (fun e => by omega))).trans (Fr6.up (by decide) (fun e => by omega))).trans (Fr6.up (by decide) (fun e => by omega))).trans (Fr6.up (by decide) (by decide))
  · exact Fr6.refl S
theorem StartS.f6 {c f : Int} {S S' : Sw} {r : Int} (h : StartS c f S S' r) : Fr6 S S' := by
  rcases h with ⟨_, _, e⟩ | ⟨_, _, e⟩ <;> rw [e]
  · exact (Fr6.kp.trans Fr6.pl).trans Fr6.sc
  · exact Fr6.refl S
theorem TurnS.f6 {w : Int} {S S' : Sw} {r : Int} (h : TurnS w S S' r) : Fr6 S S' := by
  rcases h with ⟨_, e, _⟩ | ⟨_, e, _⟩ <;> rw [e]
  · exact Fr6.kp.trans (Fr6.up (by decide) (by decide))
  · exact Fr6.refl S
theorem AskS.f6 {t : Int} {S S' : Sw} {r : Int} (h : AskS t S S' r) : Fr6 S S' := by
  rcases h with ⟨_, e, _⟩ | ⟨_, e, _⟩ <;> rw [e]
  · exact Fr6.kp.trans (Fr6.sc.trans (Fr6.up (by decide) (fun e => by omega)))
  · exact Fr6.refl S
theorem FollowS.f6 {t : Int} {S S' : Sw} {r : Int} (h : FollowS t S S' r) : Fr6 S S' := by
  rcases h with ⟨_, e, _⟩ | ⟨_, e, _⟩ <;> rw [e]
  · exact (Fr6.kp.trans Fr6.pl).trans Fr6.sc
  · exact Fr6.refl S
/-- the row of a telling that is told now -/
theorem TellingS.row {t f a b : Int} {S S' : Sw} {r : Int} (h9 : 0 ≤ S 1 9) (h : TellingS t f a b S S' r) : (r = -1 ∧ Fr6 S S' ∧ ∀ k j : Nat, ¬ (k = 6 ∧ 9 * S 1 9 + 3 ≤ (j : Int) ∧ (j : Int) < 9 * S 1 9 + 9) → S' k j = S k j) ∨ (okTg t f S ∧ r = S 1 9 ∧ ∃ (S2 : Sw) (n : Nat), 1 ≤ n ∧ n ≤ 6 ∧ S' = tgS (S 1 9) t f n S2 ∧ (∀ k j : Nat, ¬ (k = 6 ∧ 9 * S 1 9 + 3 ≤ (j : Int) ∧ (j : Int) < 9 * S 1 9 + 9) → S2 k j = S k j) ∧ ∀ i : Nat, i < n → isTu (S2 6 (9 * S 1 9 + 3 + i).toNat)) := by
  rcases h with ⟨_, hr, e⟩ | ⟨hk, S1, S2, c, o, h1, h2, h3⟩
  · rw [e]
    exact Or.inl ⟨hr, Fr6.refl S, fun _ _ _ => rfl⟩
  have f1 : ∀ k j : Nat, ¬ (k = 6 ∧ 9 * S 1 9 + 3 ≤ (j : Int) ∧ (j : Int) < 9 * S 1 9 + 6) → S1 k j = S k j := fun k j hj => h1.fr (by omega) k j (by omega)
  have f2 : ∀ k j : Nat, ¬ (k = 6 ∧ 9 * S 1 9 + 6 ≤ (j : Int) ∧ (j : Int) < 9 * S 1 9 + 9) → S2 k j = S1 k j := fun k j hj => by
    rcases h2 with ⟨_, _, e⟩ | ⟨_, h2⟩
    · rw [e]
    · exact h2.fr (by omega) k j (by omega)
  have f3 : ∀ k j : Nat, ¬ (k = 6 ∧ 9 * S 1 9 + 3 ≤ (j : Int) ∧ (j : Int) < 9 * S 1 9 + 9) → S2 k j = S k j := fun k j hj => (f2 k j (by omega)).trans (f1 k j (by omega))
  rcases h3 with ⟨_, hr, e⟩ | ⟨hn, hr, e⟩
  · rw [e]
    exact Or.inl ⟨hr, ⟨f3 1 9 (by omega), fun j hj => f3 6 j (by omega)⟩, f3⟩
  · obtain ⟨a0, a1, ac, ai⟩ := h1.ok (by omega) (by omega)
    have hc := cnT_b a
    rcases h2 with ⟨b0, o0, e2⟩ | ⟨b0, h2⟩
    · refine Or.inr ⟨hk, hr, S2, cnT a, hc.1, by omega, by rw [e, ac, o0, Int.add_zero], f3, fun i hi => ?_⟩
      rw [e2, (ai i hi).2]
      exact (ai i hi).1
    · obtain ⟨b1, b2, bc, bi⟩ := h2.ok (by omega) (by omega)
      have hd := cnT_b b
      refine Or.inr ⟨hk, hr, S2, cnT a + cnT b, by omega, by omega, by rw [e, ac, bc]; rfl, f3, fun i hi => ?_⟩
      by_cases e3 : i < 3
      · rw [f2 _ _ (by omega), (ai i (by omega)).2]
        exact (ai i (by omega)).1
      · have q := bi (i - 3) (by omega)
        rw [show (9 * S 1 9 + 3 + 3 + ((i - 3 : Nat) : Int)).toNat = (9 * S 1 9 + 3 + (i : Int)).toNat by omega] at q
        rw [q.2]
        exact q.1
theorem TellingS.wf {t f a b : Int} {S S' : Sw} {r : Int} (h9 : 0 ≤ S 1 9) (hw : wfA S) (h : TellingS t f a b S S' r) : wfA S' := by
  rcases h.row h9 with ⟨_, h, _⟩ | ⟨_, _, S2, n, n1, n6, e, hf, hi⟩
  · exact hw.fr h
  rw [e]
  intro x x0 x1
  have e9 : tgS (S 1 9) t f n S2 1 9 = S 1 9 + 1 := up_same
  rw [e9] at x1
  have ej : ∀ j : Nat, (j : Int) ≠ 9 * S 1 9 → (j : Int) ≠ 9 * S 1 9 + 1 → (j : Int) ≠ 9 * S 1 9 + 2 → tgS (S 1 9) t f n S2 6 j = S2 6 j := fun j j0 j1 j2 => by
    unfold tgS
    rw [up_ne (by omega), up_ne (by omega), up_ne (by omega), up_ne (by omega)]
  by_cases ex : x = S 1 9
  · have e2 : tgS (S 1 9) t f n S2 6 (9 * x + 2).toNat = n := by
      unfold tgS
      rw [ex, up_ne (by omega), up_same]
    refine ⟨x0, by rw [e9]; omega, by rw [e2]; omega, fun i i0 i1 => ?_⟩
    rw [e2] at i1
    rw [ej _ (by omega) (by omega) (by omega)]
    have q := hi i.toNat (by omega)
    rw [show (9 * S 1 9 + 3 + (i.toNat : Int)).toNat = (9 * x + 3 + i).toNat by omega] at q
    exact isTu_b q
  · obtain ⟨p1, p2, p3, p4⟩ := hw x x0 (by omega)
    have eo : ∀ j : Nat, (j : Int) < 9 * S 1 9 → tgS (S 1 9) t f n S2 6 j = S 6 j := fun j hj => (ej j (by omega) (by omega) (by omega)).trans (hf 6 j (by omega))
    have e2 := eo (9 * x + 2).toNat (by omega)
    refine ⟨p1, by rw [e9]; omega, by rw [e2]; exact p3, fun i i0 i1 => ?_⟩
    rw [e2] at i1
    rw [eo _ (by omega)]
    exact p4 i i0 i1
theorem DoS.wf {w a b c d : Int} {S S' : Sw} {ok : Int} (h9 : 0 ≤ S 1 9) (hw : wfA S) (h : DoS w a b c d S S' ok) : wfA S' := by
  rcases h with ⟨_, r, h, _⟩ | ⟨_, h⟩ | ⟨_, h⟩ | ⟨_, h⟩ | ⟨_, r, h, _⟩ | ⟨_, r, h, _⟩ | ⟨_, h⟩ | ⟨_, h, _⟩ | ⟨_, r, h, _⟩ | ⟨_, r, h, _⟩ | ⟨_, r, h, _⟩ | ⟨_, h, _⟩
  · exact hw.fr h.f6
  · exact hw.fr h.f6
  · exact hw.fr h.f6
  · exact hw.fr h.f6
  · exact hw.fr h.f6
  · exact h.wf h9 hw
  · exact hw.fr h.f6
  · rw [h]; exact hw.fr (Fr6.go _ _)
  · exact hw.fr h.f6
  · exact hw.fr h.f6
  · exact hw.fr h.f6
  · rw [h]; exact hw
/-! the laws stay over deeds -/
theorem CornerS.lk {v : Int} {S S' : Sw} {r : Int} (h : CornerS v S S' r) : Lk S S' := by
  rcases h with ⟨_, _, e⟩ | ⟨_, _, e⟩ <;> rw [e]
  · exact (Lk.up (by decide) (Or.inl (by decide))).trans (Lk.up (by decide) (Or.inr (by decide)))
  · exact Lk.refl S
theorem StreetS.lk {f d t la : Int} {S S' : Sw} {r : Int} (h : StreetS f d t la S S' r) : Lk S S' := by
  rcases h with ⟨_, _, e⟩ | ⟨_, _, e⟩ <;> rw [e]
  · unfold stS
    exact (((Lk.up (by decide) (Or.inl (by decide))).trans (Lk.up (by decide) (Or.inl (by decide)))).trans (Lk.up (by decide) (Or.inl (by decide)))).trans (Lk.up (by decide) (Or.inl (by decide)))
  · exact Lk.refl S
theorem GoalS.lk {c : Int} {S S' : Sw} {r : Int} (h : GoalS c S S' r) : Lk S S' := by
  rcases h with ⟨_, _, e⟩ | ⟨_, _, e⟩ <;> rw [e]
  · exact Lk.up (by decide) (Or.inr (by decide))
  · exact Lk.refl S
theorem TellerS.lk {c a b m : Int} {S S' : Sw} {r : Int} (h : TellerS c a b m S S' r) : Lk S S' := by
  rcases h with ⟨_, _, e⟩ | ⟨_, _, e⟩ <;> rw [e]
  · unfold teS
    exact ((((Lk.up (by decide) (Or.inl (by decide))).trans (Lk.up (by decide) (Or.inl (by decide)))).trans (Lk.up (by decide) (Or.inl (by decide)))).trans (Lk.up (by decide) (Or.inl (by decide)))).trans (Lk.up (by decide) (Or.inr (by decide)))
  · exact Lk.refl S
theorem StartS.lk {c f : Int} {S S' : Sw} {r : Int} (h : StartS c f S S' r) : Lk S S' := by
  rcases h with ⟨_, _, e⟩ | ⟨_, _, e⟩ <;> rw [e]
  · exact (Lk.kp.trans Lk.pl).trans Lk.sc
  · exact Lk.refl S
theorem TurnS.lk {w : Int} {S S' : Sw} {r : Int} (h : TurnS w S S' r) : Lk S S' := by
  rcases h with ⟨_, e, _⟩ | ⟨_, e, _⟩ <;> rw [e]
  · exact Lk.kp.trans Lk.fa
  · exact Lk.refl S
theorem AskS.lk {t : Int} {S S' : Sw} {r : Int} (h : AskS t S S' r) : Lk S S' := by
  rcases h with ⟨_, e, _⟩ | ⟨_, e, _⟩ <;> rw [e]
  · exact Lk.kp.trans Lk.he
  · exact Lk.refl S
theorem FollowS.lk {t : Int} {S S' : Sw} {r : Int} (h : FollowS t S S' r) : Lk S S' := by
  rcases h with ⟨_, e, _⟩ | ⟨_, e, _⟩ <;> rw [e]
  · exact (Lk.kp.trans Lk.pl).trans Lk.sc
  · exact Lk.refl S
theorem TellingS.lk {t f a b : Int} {S S' : Sw} {r : Int} (h9 : 0 ≤ S 1 9) (h : TellingS t f a b S S' r) : Lk S S' := by
  rcases h.row h9 with ⟨_, _, hf⟩ | ⟨_, _, S2, n, _, _, e, hf, _⟩
  · exact Lk.fr (fun k j hk => hf k j (by omega))
  · have g : Lk S S2 := Lk.fr (fun k j hk => hf k j (by omega))
    rw [e]
    unfold tgS
    exact (((g.trans (Lk.up (by decide) (Or.inl (by decide)))).trans (Lk.up (by decide) (Or.inl (by decide)))).trans (Lk.up (by decide) (Or.inl (by decide)))).trans (Lk.up (by decide) (Or.inr (by decide)))
theorem WalkS.lk {n : Int} {S S' : Sw} {r : Int} (h : WalkS n S S' r) : Lk S S' := by
  rcases h with ⟨_, e, _⟩ | ⟨_, e, _⟩ <;> rw [e]
  · exact Lk.go _ _
  · exact Lk.refl S
theorem DayS.lk {s n : Int} {S S' : Sw} {r : Int} (h : DayS s n S S' r) : Lk S S' := by
  rcases h with ⟨_, e, _⟩ | ⟨_, e, _⟩ <;> rw [e]
  · exact ((Lk.kp.trans Lk.pl).trans Lk.sc).trans (Lk.dy _ _ _)
  · exact Lk.refl S
theorem UndoS.lk {S S' : Sw} {r : Int} (h : UndoS S S' r) : Lk S S' := by
  rcases h with ⟨_, _, e⟩ | ⟨_, _, e⟩ <;> rw [e]
  · exact Lk.refl S
  · exact Lk.bk
theorem DoS.lk {w a b c d : Int} {S S' : Sw} {ok : Int} (h9 : 0 ≤ S 1 9) (hD : DoS w a b c d S S' ok) : Lk S S' := by
  rcases hD with ⟨_, r, q, _⟩ | ⟨_, q⟩ | ⟨_, q⟩ | ⟨_, q⟩ | ⟨_, r, q, _⟩ | ⟨_, r, q, _⟩ | ⟨_, q⟩ | ⟨_, q, _⟩ | ⟨_, r, q, _⟩ | ⟨_, r, q, _⟩ | ⟨_, r, q, _⟩ | ⟨_, q, _⟩
  · exact q.lk
  · exact q.lk
  · exact q.lk
  · exact q.lk
  · exact q.lk
  · exact q.lk h9
  · exact q.lk
  · rw [q]; exact Lk.go _ _
  · exact q.lk
  · exact q.lk
  · exact q.lk
  · rw [q]; exact Lk.refl S
theorem PlS.lk {f : Nat → Int} : ∀ (n : Nat) (i : Int) (S S' : Sw) (r : Int), (∀ T T' : Sw, ∀ w a b c d ok : Int, 0 ≤ T 1 9 → DoS w a b c d T T' ok → 0 ≤ T' 1 9) → 0 ≤ S 1 9 → PlS f n i S S' r → Lk S S'
  | 0, _, _, _, _, _, _, h => by rw [h.1]; exact Lk.refl _
  | n + 1, i, S, S', r, k, h9, h => by
    obtain ⟨S1, ok, hD, h⟩ := h
    have g := DoS.lk h9 hD
    rcases h with ⟨_, e, _⟩ | ⟨_, h⟩
    · rw [e]; exact g
    · exact g.trans (PlS.lk n (i + 1) S1 S' r k (k _ _ _ _ _ _ _ _ h9 hD) h)
