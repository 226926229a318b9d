/-! BOTH CALLS of a method at the law's head -/
theorem RD.le {M : Mem} {b c : Int} (h : RD M b) (hc : b ≤ c) : RD M c := ⟨h.1, h.2.1, h.2.2.1, h.2.2.2.1, h.2.2.2.2.1, h.2.2.2.2.2.1, h.2.2.2.2.2.2.1.le hc, h.2.2.2.2.2.2.2.le hc⟩
theorem RD.ar {M : Mem} {b : Int} (h : RD M b) : AR (mI M 55) (cS M) := h.2.2.1
theorem RD.arN {M N : Mem} {b : Int} (h : RD M b) (f : BF fC M N) : AR (mI N 55) (cS M) := by
  rw [show mI N 55 = mI M 55 from funext fun j => f.2.2 55 j rfl]
  exact h.2.2.1
theorem RD.arQ {M N : Mem} {b : Int} (h : RD M b) (f : BF fQ M N) : AR (mI N 55) (cS M) := h.arN f.c
theorem RD.as {M : Mem} {b : Int} (h : RD M b) : asB (cS M) b := h.2.2.2.2.2.2.1
theorem AR.w3 {a : Nat → Int} {s : Sw} (h : AR a s) : 0 ≤ s 15 3 ∧ s 15 3 ≤ 29 := ⟨h.2.2.2.2.1.2.2.1, h.2.2.2.2.1.2.2.2.1⟩
theorem AR.w2 {a : Nat → Int} {s : Sw} (h : AR a s) : 0 ≤ s 15 2 ∧ s 15 2 ≤ 30 := ⟨h.2.2.2.2.1.1, h.2.2.2.2.1.2.1⟩
theorem AR.w8 {a : Nat → Int} {s : Sw} (h : AR a s) : 0 ≤ s 1 8 ∧ s 1 8 ≤ 6 := ⟨h.1.2.2.2.2.2.2.2.2.2.1, h.1.2.2.2.2.2.2.2.2.2.2.1⟩
theorem AR.w9 {a : Nat → Int} {s : Sw} (h : AR a s) : 0 ≤ s 1 9 ∧ s 1 9 ≤ 8 := ⟨h.1.2.2.2.2.2.2.2.2.2.2.2.1, h.1.2.2.2.2.2.2.2.2.2.2.2.2.1⟩
theorem RD.wf {M : Mem} {b : Int} (h : RD M b) : wfA (cS M) := fun t t0 t1 => by
  obtain ⟨q1, q2, q3, q4, q5, q6, q7⟩ := h.2.2.1.1.2.2.2.2.2.2.1 t.toNat (by omega)
  have e : 9 * t.toNat + 2 = (9 * t + 2).toNat := by omega
  rw [e] at q5 q6 q7
  refine ⟨t0, t1, q6, fun i i0 i1 => ?_⟩
  have z := q7 i.toNat (by omega)
  rw [show 9 * t.toNat + 3 + i.toNat = (9 * t + 3 + i).toNat by omega] at z
  exact isTu_b z
theorem RD.tg {M : Mem} {b : Int} (h : RD M b) : ∀ t : Int, 0 ≤ t → t < mI M 1 9 → 0 ≤ mI M 6 (9 * t).toNat ∧ mI M 6 (9 * t).toNat < mI M 1 8 := fun t t0 t1 => by
  have e9 : cS M 1 9 = mI M 1 9 := cS_in rfl
  have e8 : cS M 1 8 = mI M 1 8 := cS_in rfl
  have e6 : cS M 6 (9 * t).toNat = mI M 6 (9 * t).toNat := cS_in rfl
  obtain ⟨q1, q2, _⟩ := h.2.2.1.1.2.2.2.2.2.2.1 t.toNat (by omega)
  rw [show 9 * t.toNat = (9 * t).toNat by omega, e6] at q1 q2
  rw [e8] at q2
  exact ⟨q1, q2⟩
theorem RD.tx {M : Mem} {b : Int} (h : RD M b) : ∀ t : Nat, (t : Int) < mI M 1 10 → ∃ y z : Nat, mR M 7 t = some y ∧ mR M y 2 = some z ∧ M.1[z]? = some (.inr (0, (5 * mI M y 3).toNat)) := fun t ht => by
  obtain ⟨y, z, h1, h2, h3, _⟩ := h.2.2.2.2.1 t ht
  exact ⟨y, z, h1, h2, h3⟩
/-- what each deed does to the asks -/
theorem asB.corner {S S' : Sw} {m n v r : Int} (h : asB S m) (hn : m ≤ n) (q : CornerS v S S' r) : asB S' n := by
  rcases q with ⟨_, _, e⟩ | ⟨_, _, e⟩ <;> rw [e]
  · exact ((h.up (by decide) (by omega)).up (by decide) (by omega)).le hn
  · exact h.le hn
theorem asB.street {S S' : Sw} {m n f d t la r : Int} (h : asB S m) (hn : m ≤ n) (q : StreetS f d t la S S' r) : asB S' n := by
  rcases q with ⟨_, _, e⟩ | ⟨_, _, e⟩ <;> rw [e]
  · unfold stS; exact ((((h.up (by decide) (by omega)).up (by decide) (by omega)).up (by decide) (by omega)).up (by decide) (by omega)).le hn
  · exact h.le hn
theorem asB.goal {S S' : Sw} {m n c r : Int} (h : asB S m) (hn : m ≤ n) (q : GoalS c S S' r) : asB S' n := by
  rcases q with ⟨_, _, e⟩ | ⟨_, _, e⟩ <;> rw [e]
  · exact (h.up (by decide) (by omega)).le hn
  · exact h.le hn
theorem asB.by {S S' : Sw} {m n c r : Int} (h : asB S m) (hn : m ≤ n) (q : ByS c S S' r) : asB S' n := by
  rcases q with ⟨_, _, e⟩ | ⟨_, _, e⟩ <;> rw [e]
  · exact (h.up (by decide) (by omega)).le hn
  · exact h.le hn
theorem asB.teller {S S' : Sw} {m n c v w x r : Int} (h : asB S m) (hn : m ≤ n) (q : TellerS c v w x S S' r) : asB S' n := by
  rcases q with ⟨_, _, e⟩ | ⟨_, _, e⟩ <;> rw [e]
  · unfold teS; exact (((((h.up (by decide) (by omega)).up (by decide) (by omega)).up (by decide) (by omega)).up (by decide) (by omega)).up (by decide) (by omega)).le hn
  · exact h.le hn
theorem asB.telling {S S' : Sw} {m n t f v w r : Int} (h : asB S m) (hn : m ≤ n) (h9 : 0 ≤ S 1 9) (q : TellingS t f v w S S' r) : asB S' n := by
  rcases q.row h9 with ⟨_, _, hf⟩ | ⟨_, _, S2, k, _, _, e, hf, _⟩
  · exact (h.fr (fun k j hk => hf k j (by omega))).le hn
  · rw [e]
    unfold tgS
    have h2 : asB S2 m := h.fr (fun k j hk => hf k j (by omega))
    exact ((((h2.up (by decide) (by omega)).up (by decide) (by omega)).up (by decide) (by omega)).up (by decide) (by omega)).le hn
theorem asB.start {S S' : Sw} {m n c f r : Int} (h : asB S m) (hn : m ≤ n) (h3 : 0 ≤ S 15 3 ∧ S 15 3 ≤ 29) (q : StartS c f S S' r) : asB S' n := by
  rcases q with ⟨_, _, e⟩ | ⟨_, _, e⟩ <;> rw [e]
  · exact ((h.kp h3.1 h3.2).pl).le hn
  · exact h.le hn
theorem asB.walk {S S' : Sw} {m n c r : Int} (h : asB S m) (hn : m ≤ n) (h3 : 0 ≤ S 15 3 ∧ S 15 3 ≤ 29) (q : WalkS c S S' r) : asB S' n := by
  rcases q with ⟨_, e, _⟩ | ⟨_, e, _⟩ <;> rw [e]
  · exact (asB.go _ _ _ h h3).le hn
  · exact h.le hn
theorem asB.turn {S S' : Sw} {m n c r : Int} (h : asB S m) (hn : m ≤ n) (h3 : 0 ≤ S 15 3 ∧ S 15 3 ≤ 29) (q : TurnS c S S' r) : asB S' n := by
  rcases q with ⟨_, e, _⟩ | ⟨_, e, _⟩ <;> rw [e]
  · exact ((h.kp h3.1 h3.2).fa).le hn
  · exact h.le hn
theorem asB.ask {S S' : Sw} {m n t r : Int} (h : asB S m) (m0 : 0 ≤ m) (hm : m ≤ 2000000000) (hn : m + 1 ≤ n) (h3 : 0 ≤ S 15 3 ∧ S 15 3 ≤ 29) (h8 : S 1 8 ≤ 6) (q : AskS t S S' r) : asB S' n := by
  rcases q with ⟨hc, e, _⟩ | ⟨_, e, _⟩ <;> rw [e]
  · exact ((h.kp h3.1 h3.2).he m0 hm hc.2.1 (by omega)).le hn
  · exact h.le (by omega)
theorem asB.follow {S S' : Sw} {m n c r : Int} (h : asB S m) (hn : m ≤ n) (h3 : 0 ≤ S 15 3 ∧ S 15 3 ≤ 29) (q : FollowS c S S' r) : asB S' n := by
  rcases q with ⟨_, e, _⟩ | ⟨_, e, _⟩ <;> rw [e]
  · exact ((h.kp h3.1 h3.2).pl).le hn
  · exact h.le hn
theorem undo_as {S S' : Sw} {m n r : Int} (h : asB S m) (hn : m ≤ n) (q : UndoS S S' r) : asB S' n := by
  rcases q with ⟨_, _, e⟩ | ⟨_, _, e⟩ <;> rw [e]
  · exact h.le hn
  · refine asB.le ?_ hn
    unfold fBk
    obtain ⟨d, hd⟩ : ∃ d : Nat, d = (10 * ((S 15 3 + 30 - 1) % 30)).toNat := ⟨_, rfl⟩
    have hd2 : d ≤ 290 ∧ d % 10 = 0 := by omega
    rw [← hd]
    have h2 : asB (up (up S 15 3 ((S 15 3 + 30 - 1) % 30)) 15 2 (S 15 2 - 1)) m := (h.up (by decide) (by omega)).up (by decide) (by omega)
    generalize up (up S 15 3 ((S 15 3 + 30 - 1) % 30)) 15 2 (S 15 2 - 1) = T at *
    refine ⟨fun t ht => ?_, fun j j1 j2 => ?_⟩
    · have e1 : cpB T d 16 (4 + t) = T 17 (d + (4 + t)) := if_pos ⟨rfl, by omega⟩
      rw [e1]
      exact h2.2 _ (by omega) (by omega)
    · have e1 : cpB T d 17 j = T 17 j := if_neg (fun e => absurd e.1 (by decide))
      rw [e1]
      exact h2.2 j j1 j2
theorem asB.hl : ∀ (n : Nat) (t : Int) (S : Sw) (m : Int), asB S m → 0 ≤ m → m ≤ 2000000000 → 0 ≤ t → t + n ≤ 6 → asB (hlS n t S) (m + 1)
  | 0, _, _, _, h, _, _, _, _ => h.le (by omega)
  | n + 1, t, S, m, h, m0, hm, t0, t1 => by
    unfold hlS
    split
    · exact h.he m0 hm t0 (by omega)
    · exact asB.hl n (t + 1) S m h m0 hm (by omega) (by omega)
theorem hlS_8 : ∀ (n : Nat) (t : Int) (S : Sw), hlS n t S 1 8 = S 1 8
  | 0, _, _ => rfl
  | n + 1, t, S => by
    unfold hlS
    split
    · unfold fHe; exact up_ne (fun e => absurd e.1 (by decide))
    · exact hlS_8 n (t + 1) S
theorem asB.dr {S : Sw} {w m : Int} (h : asB S m) (m0 : 0 ≤ m) (hm : m ≤ 2000000000) (h8 : 0 ≤ S 1 8 ∧ S 1 8 ≤ 6) : asB (drS w S) (m + 1) ∧ drS w S 1 8 = S 1 8 := by
  unfold drS
  split
  · exact ⟨(h.fa).le (by omega), by unfold fFa; exact up_ne (fun e => absurd e.1 (by decide))⟩
  · split
    · exact ⟨asB.hl _ _ _ _ h m0 hm (by decide) (by omega), hlS_8 _ _ _⟩
    · split
      · exact ⟨(h.ah).le (by omega), fAh_o (by decide)⟩
      · exact ⟨(h.fa).le (by omega), by unfold fFa; exact up_ne (fun e => absurd e.1 (by decide))⟩
theorem asB.dy : ∀ (n : Nat) (x : Int) (S : Sw) (m : Int), asB S m → 0 ≤ m → m + n ≤ 2000000000 → (0 ≤ S 1 8 ∧ S 1 8 ≤ 6) → asB (dyS n x S) (m + n)
  | 0, x, S, m, h, _, _, _ => (h.up (by decide) (by omega)).le (by omega)
  | n + 1, x, S, m, h, m0, hm, h8 => by
    obtain ⟨q, e⟩ := h.dr (w := x % 4) m0 (by omega) h8
    have z := asB.dy n (nwX x) (drS (x % 4) S) (m + 1) q (by omega) (by omega) (by rw [e]; exact h8)
    exact z.le (by omega)
theorem asB.day {S S' : Sw} {m n s k : Int} (h : asB S m) (m0 : 0 ≤ m) (hm : m ≤ 1000000000) (hn : m + 30 ≤ n) (h3 : 0 ≤ S 15 3 ∧ S 15 3 ≤ 29) (h8 : 0 ≤ S 1 8 ∧ S 1 8 ≤ 6) (q : DayS s k S S') : asB S' n := by
  rcases q with ⟨hc, e⟩ | ⟨_, e⟩ <;> rw [e]
  · have e8 : fPl ((4 * s + 29) % S 1 6) ((4 * s + 29) % 4) (fKp S) 1 8 = S 1 8 := by
      unfold fPl
      rw [up_ne (fun e => absurd e.1 (by decide)), up_ne (fun e => absurd e.1 (by decide))]
      exact fKp_o (by decide) (by decide)
    have z := asB.dy k.toNat (nwX (4 * s + 29)) _ m ((h.kp h3.1 h3.2).pl) m0 (by omega) (by rw [e8]; exact h8)
    exact z.le (by omega)
  · exact h.le (by omega)
/-- a deed on both sides -/
theorem deed_RD {M N P : Mem} {b r s : Int} {Sp : Sw → Sw → Int → Prop} (h : RD M b) (f : BF fC M N) (g : BF fR N P) (c : Sp (cS M) (cS N) r) (k : ∀ (S S' : Sw) (r9 : Int), AR (mI N 55) S → Sp S S' r9 → s = r9 ∧ AR (mI P 55) S') (hb : asB (cS N) (b + 30)) : RD P (b + 30) ∧ r = s := by
  obtain ⟨e, a⟩ := k _ _ _ (h.arN f) c
  exact ⟨h.d f g a hb (by omega), e.symm⟩
theorem follow_RD {M N P : Mem} {b r s t : Int} (h : RD M b) (f : BF fC M N) (g : BF fR N P) (c : FollowS t (cS M) (cS N) r) (k : ∀ (S' : Sw) (r9 : Int), FollowS t (cS M) S' r9 → s = r9 ∧ AR (mI P 55) S') : RD P (b + 30) ∧ r = s := by
  obtain ⟨e, a⟩ := k _ _ c
  exact ⟨h.d f g a (h.as.follow (by omega) h.ar.w3 c) (by omega), e.symm⟩
theorem day_RD {M N P : Mem} {b s n : Int} (h : RD M b) (b0 : 0 ≤ b) (b1 : b ≤ 900000) (f : BF fC M N) (g : BF fR N P) (c : DayS s n (cS M) (cS N)) (k : ∀ S S' : Sw, AR (mI N 55) S → DayS s n S S' → AR (mI P 55) S') : RD P (b + 30) :=
  h.d f g (k _ _ (h.arN f) c) (h.as.day b0 (by omega) (by omega) h.ar.w3 h.ar.w8 c) (by omega)
/-- the text that is played -/
def plF (M : Mem) (t : Int) : Nat → Int := mI M (((mR M ((mR M 7 t.toNat).getD 0) 2)).getD 0)
theorem played_pre {M N : Mem} {b t r : Int} (h : RD M b) (f : BF fC M N) (c : ((0 ≤ t ∧ t < mI M 1 10) ∧ ∃ y z : Nat, mR M 7 t.toNat = some y ∧ mR M y 2 = some z ∧ PlS (mI M z) (mI M y 3).toNat 0 (cS M) (cS N) r) ∨ (¬ (0 ≤ t ∧ t < mI M 1 10) ∧ r = -2 ∧ cS N = cS M)) : 0 ≤ t → t < mI N 55 5 → (∀ k : Nat, (k : Int) < mI N 57 (873 * t).toNat → clR (mI N 57) (873 * t + 1 + 11 * k).toNat (plF M t) k) ∧ PlS (plF M t) (mI N 57 (873 * t).toNat).toNat 0 (cS M) (cS N) r := fun t0 t1 => by
  have e57 : mI N 57 = mI M 57 := funext fun j => f.2.2 57 j rfl
  have e55 : mI N 55 5 = mI M 1 10 := (f.2.2 55 5 rfl).trans h.2.1.2.2.2.2.2.1
  rw [e55] at t1
  rcases c with ⟨_, y, z, y1, y2, hp⟩ | ⟨n, _⟩
  · obtain ⟨y', z', h1, h2, h3, h4, h5⟩ := h.2.2.2.2.1 t.toNat (by omega)
    rw [h1] at y1
    cases y1
    rw [h2] at y2
    cases y2
    have ef : plF M t = mI M z := by
      unfold plF
      rw [h1, show (some y).getD 0 = y from rfl, h2]
      rfl
    rw [e57, ef, show (873 * t).toNat = 873 * t.toNat by omega, h4]
    refine ⟨fun k hk => ?_, hp⟩
    have q := h5 k hk
    rw [show 873 * t.toNat + 1 + 11 * k = (873 * t + 1 + 11 * (k : Int)).toNat by omega] at q
    exact q
  · exact absurd ⟨t0, t1⟩ n
theorem played_RD {M N P : Mem} {b t r s : Int} (h : RD M b) (f : BF fC M N) (g : BF fR N P) (c : ((0 ≤ t ∧ t < mI M 1 10) ∧ ∃ y z : Nat, mR M 7 t.toNat = some y ∧ mR M y 2 = some z ∧ PlS (mI M z) (mI M y 3).toNat 0 (cS M) (cS N) r) ∨ (¬ (0 ≤ t ∧ t < mI M 1 10) ∧ r = -2 ∧ cS N = cS M)) (k : ((0 ≤ t ∧ t < mI N 55 5) ∧ s = r ∧ AR (mI P 55) (cS N) ∧ asB (cS N) (b + 24)) ∨ (¬ (0 ≤ t ∧ t < mI N 55 5) ∧ s = -2 ∧ mI P 55 = mI N 55)) : RD P (b + 30) ∧ r = s := by
  have e55 : mI N 55 5 = mI M 1 10 := (f.2.2 55 5 rfl).trans h.2.1.2.2.2.2.2.1
  rw [e55] at k
  rcases k with ⟨_, e, a, as⟩ | ⟨n, e, a⟩
  · exact ⟨h.d f g a (as.le (by omega)) (by omega), e.symm⟩
  · rcases c with ⟨q, _⟩ | ⟨_, e2, ec⟩
    · exact absurd q n
    · exact ⟨h.d f g (by rw [a, ec]; exact h.arN f) (by rw [ec]; exact h.as.le (by omega)) (by omega), by omega⟩
theorem ofCorner_eq {M : Mem} {b c w r s : Int} (h : RD M b) (q : ((0 ≤ c ∧ c < mI M 1 6 ∧ 0 ≤ w ∧ w ≤ 8) ∧ ((w = 0 ∧ r = siS (cS M) c) ∨ (1 ≤ w ∧ w ≤ 4 ∧ r = ahS (cS M) c (w - 1)) ∨ (5 ≤ w ∧ ((ahS (cS M) c (w - 5) = -1 ∧ r = -1) ∨ (ahS (cS M) c (w - 5) ≠ -1 ∧ r = mI M 4 (4 * c + (w - 5) % 4).toNat))))) ∨ (¬ (0 ≤ c ∧ c < mI M 1 6 ∧ 0 ≤ w ∧ w ≤ 8) ∧ r = -2)) (k : ((0 ≤ c ∧ c < mI M 55 0 ∧ 0 ≤ w ∧ w ≤ 8) ∧ s = mI M 55 (10 + 9 * c + w).toNat) ∨ (¬ (0 ≤ c ∧ c < mI M 55 0 ∧ 0 ≤ w ∧ w ≤ 8) ∧ s = -2)) : r = s := by
  have a := h.2.2.1.1
  have e6 : cS M 1 6 = mI M 1 6 := cS_in rfl
  have e0 : mI M 55 0 = cS M 1 6 := a.1.1
  rw [e0, e6] at k
  rcases q with ⟨n, q⟩ | ⟨n, q⟩
  · rcases k with ⟨_, k⟩ | ⟨m, _⟩
    · obtain ⟨p, pd⟩ := a.2.1 c.toNat (by omega)
      rcases q with ⟨w0, q⟩ | ⟨w1, w4, q⟩ | ⟨w5, q⟩
      · rw [k, q, w0]
        unfold siS
        rw [if_pos ⟨n.1, by rw [e6]; exact n.2.1⟩, ← p]
        congr 1
        omega
      · obtain ⟨p1, _⟩ := pd (w - 1).toNat (by omega)
        rw [k, q]
        unfold ahS
        rw [if_pos ⟨n.1, by rw [e6]; exact n.2.1⟩, show (4 * c + (w - 1) % 4).toNat = 4 * c.toNat + (w - 1).toNat by omega, ← p1]
        congr 1
        omega
      · obtain ⟨_, p2⟩ := pd (w - 5).toNat (by omega)
        have ea : ahS (cS M) c (w - 5) = cS M 3 (4 * c.toNat + (w - 5).toNat) := by
          unfold ahS
          rw [if_pos ⟨n.1, by rw [e6]; exact n.2.1⟩, show (4 * c + (w - 5) % 4).toNat = 4 * c.toNat + (w - 5).toNat by omega]
        have ek : (10 + 9 * c + w).toNat = 10 + 9 * c.toNat + 5 + (w - 5).toNat := by omega
        rw [k, ek, p2]
        rw [ea] at q
        rcases q with ⟨q1, q2⟩ | ⟨q1, q2⟩
        · rw [if_pos q1, q2]
        · rw [if_neg q1, q2, show (4 * c + (w - 5) % 4).toNat = 4 * c.toNat + (w - 5).toNat by omega]
          exact (cS_in rfl).symm
    · exact absurd n m
  · rcases k with ⟨m, _⟩ | ⟨_, k⟩
    · exact absurd m n
    · omega
theorem ofTeller_eq {M : Mem} {b t w r s : Int} (h : RD M b) (q : ((0 ≤ t ∧ t < mI M 1 8 ∧ 0 ≤ w ∧ w ≤ 4) ∧ ((w < 4 ∧ r = mI M 5 (4 * t + w).toNat) ∨ (w = 4 ∧ r = mI M 16 (4 + t).toNat))) ∨ (¬ (0 ≤ t ∧ t < mI M 1 8 ∧ 0 ≤ w ∧ w ≤ 4) ∧ r = -1)) (k : ((0 ≤ t ∧ t < mI M 55 2 ∧ 0 ≤ w ∧ w ≤ 4) ∧ s = mI M 55 (154 + 5 * t + w).toNat) ∨ (¬ (0 ≤ t ∧ t < mI M 55 2 ∧ 0 ≤ w ∧ w ≤ 4) ∧ s = -1)) : r = s := by
  have a := h.2.2.1
  have e8 : cS M 1 8 = mI M 1 8 := cS_in rfl
  have b8 := (b1_8 h.1)
  have e2 : mI M 55 2 = cS M 1 8 := a.1.1.2.2.1
  rw [e2, e8] at k
  rcases q with ⟨n, q⟩ | ⟨n, q⟩
  · rcases k with ⟨_, k⟩ | ⟨m, _⟩
    · rcases q with ⟨w4, q⟩ | ⟨w4, q⟩
      · have p := a.1.2.2.1 t.toNat (by omega) w.toNat (by omega)
        rw [k, q, show (154 + 5 * t + w).toNat = 154 + 5 * t.toNat + w.toNat by omega, p, show (4 * t + w).toNat = 4 * t.toNat + w.toNat by omega]
        exact (cS_in rfl).symm
      · have p := a.2.2.1 t.toNat (by omega)
        have ec : cS M 16 (4 + t.toNat) = mI M 16 (4 + t.toNat) := cS_in ((ck_16 _).mpr (by omega))
        rw [k, q, w4, show (154 + 5 * t + 4).toNat = 154 + 5 * t.toNat + 4 by omega, p, show (4 + t).toNat = 4 + t.toNat by omega, ec]
    · exact absurd n m
  · rcases k with ⟨m, _⟩ | ⟨_, k⟩
    · exact absurd m n
    · omega
theorem about_eq {M : Mem} {b w r s : Int} (h : RD M b) (q : r = abV w (mI M 1 6) (mI M 1 7) (mI M 1 8) (mI M 1 9) (mI M 16 3) (mI M 1 10) (mI M 1 11) (mI M 15 2) (mI M 0 13)) (k : (0 ≤ w ∧ w ≤ 7 ∧ s = mI M 55 w.toNat) ∨ (w = 8 ∧ s = mI M 54 6) ∨ (¬ (0 ≤ w ∧ w ≤ 8) ∧ s = -2)) : r = s := by
  have a : aSc (mI M 55) (cS M) := h.2.2.1.1.1
  have c : aWk (mI M 55) (cS M) := h.2.2.1.2.1
  obtain ⟨a0, a1, a2, a3, a5, a6⟩ := a
  obtain ⟨c4, c7, _⟩ := c
  have l := h.2.1.2.2.1
  have e6 : cS M 1 6 = mI M 1 6 := cS_in rfl
  have e7 : cS M 1 7 = mI M 1 7 := cS_in rfl
  have e8 : cS M 1 8 = mI M 1 8 := cS_in rfl
  have e9 : cS M 1 9 = mI M 1 9 := cS_in rfl
  have e10 : cS M 1 10 = mI M 1 10 := cS_in rfl
  have e11 : cS M 1 11 = mI M 1 11 := cS_in rfl
  have e15 : cS M 15 2 = mI M 15 2 := cS_in rfl
  have e16 : cS M 16 3 = mI M 16 3 := cS_in rfl
  rcases k with ⟨w0, w7, k⟩ | ⟨rfl, k⟩ | ⟨n, k⟩
  · rcases (by omega : w = 0 ∨ w = 1 ∨ w = 2 ∨ w = 3 ∨ w = 4 ∨ w = 5 ∨ w = 6 ∨ w = 7) with rfl | rfl | rfl | rfl | rfl | rfl | rfl | rfl
    · rw [k, q]; exact (e6.symm.trans a0.symm)
    · rw [k, q]; exact (e7.symm.trans a1.symm)
    · rw [k, q]; exact (e8.symm.trans a2.symm)
    · rw [k, q]; exact (e9.symm.trans a3.symm)
    · rw [k, q]; exact (e16.symm.trans c4.symm)
    · rw [k, q]; exact (e10.symm.trans a5.symm)
    · rw [k, q]; exact (e11.symm.trans a6.symm)
    · rw [k, q]; exact (e15.symm.trans c7.symm)
  · rw [k, q]; exact l.symm
  · rw [k, q]
    unfold abV
    rw [if_neg (by omega), if_neg (by omega), if_neg (by omega), if_neg (by omega), if_neg (by omega), if_neg (by omega), if_neg (by omega), if_neg (by omega), if_neg (by omega)]
theorem leads_eq {M : Mem} {b t w r s : Int} (h : RD M b) (q : ((0 ≤ t ∧ t < mI M 1 9 ∧ 0 ≤ w ∧ w ≤ 7) ∧ r = leS (cS M) t w (-1)) ∨ (¬ (0 ≤ t ∧ t < mI M 1 9 ∧ 0 ≤ w ∧ w ≤ 7) ∧ r = -1)) {N : Mem} (f : BF fQ M N) (k : ((0 ≤ t ∧ t < mI N 55 3 ∧ 0 ≤ w ∧ w ≤ 7) ∧ s = leS (cS M) t w (-1)) ∨ (¬ (0 ≤ t ∧ t < mI N 55 3 ∧ 0 ≤ w ∧ w ≤ 7) ∧ s = -1)) : r = s := by
  have e9 : cS M 1 9 = mI M 1 9 := cS_in rfl
  have a3 : mI M 55 3 = cS M 1 9 := h.2.2.1.1.1.2.2.2.1
  rw [f.2.2 55 3 rfl, a3, e9] at k
  rcases q with ⟨n, q⟩ | ⟨n, q⟩
  · rcases k with ⟨_, k⟩ | ⟨m, _⟩
    · rw [q, k]
    · exact absurd n m
  · rcases k with ⟨m, _⟩ | ⟨_, k⟩
    · exact absurd m n
    · omega
theorem fault_eq {M : Mem} {b w r s : Int} (h : RD M b) (q : (w = 0 ∧ r = mI M 0 14) ∨ (w = 1 ∧ r = mI M 0 15) ∨ (w ≠ 0 ∧ w ≠ 1 ∧ r = -1)) (k : (w = 0 ∧ s = mI M 54 7) ∨ (w = 1 ∧ s = mI M 54 8) ∨ (w ≠ 0 ∧ w ≠ 1 ∧ s = -1)) : r = s := by
  obtain ⟨z1, z2, z3, z4, z5, z6, z7⟩ := h.2.1
  omega
