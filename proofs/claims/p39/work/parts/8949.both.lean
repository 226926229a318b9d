/-! BOTH CALLS of a method at the law's head -/
theorem RD.le {M : Mem} {b c : Int} (h : RD M b) (hc : b ≤ c) : RD M c := ⟨h.1, h.2.1, h.2.2.1, h.2.2.2.1, h.2.2.2.2.1, h.2.2.2.2.2.1, h.2.2.2.2.2.2.1.le hc, h.2.2.2.2.2.2.2.le hc⟩
theorem RD.ar {M : Mem} {b : Int} (h : RD M b) : AR (mI M 55) (cS M) := h.2.2.1
theorem RD.arN {M N : Mem} {b : Int} (h : RD M b) (f : BF fC M N) : AR (mI N 55) (cS M) := by
  rw [show mI N 55 = mI M 55 from funext fun j => f.2.2 55 j rfl]
  exact h.2.2.1
theorem RD.arQ {M N : Mem} {b : Int} (h : RD M b) (f : BF fQ M N) : AR (mI N 55) (cS M) := h.arN f.c
theorem RD.as {M : Mem} {b : Int} (h : RD M b) : asB (cS M) b := h.2.2.2.2.2.2.1
theorem AR.w3 {a : Nat → Int} {s : Sw} (h : AR a s) : 0 ≤ s 15 3 ∧ s 15 3 ≤ 29 := ⟨h.2.2.2.2.1.2.2.1, h.2.2.2.2.1.2.2.2.1⟩
theorem AR.w2 {a : Nat → Int} {s : Sw} (h : AR a s) : 0 ≤ s 15 2 ∧ s 15 2 ≤ 30 := ⟨h.2.2.2.2.1.1, h.2.2.2.2.1.2.1⟩
theorem AR.w8 {a : Nat → Int} {s : Sw} (h : AR a s) : 0 ≤ s 1 8 ∧ s 1 8 ≤ 6 := ⟨h.1.2.2.2.2.2.2.2.2.2.1, h.1.2.2.2.2.2.2.2.2.2.2.1⟩
theorem AR.w9 {a : Nat → Int} {s : Sw} (h : AR a s) : 0 ≤ s 1 9 ∧ s 1 9 ≤ 8 := ⟨h.1.2.2.2.2.2.2.2.2.2.2.2.1, h.1.2.2.2.2.2.2.2.2.2.2.2.2.1⟩
theorem RD.wf {M : Mem} {b : Int} (h : RD M b) : wfA (cS M) := fun t t0 t1 => by
  obtain ⟨q1, q2, q3, q4, q5, q6, q7⟩ := h.2.2.1.1.2.2.2.2.2.2.1 t.toNat (by omega)
  have e : 9 * t.toNat + 2 = (9 * t + 2).toNat := by omega
  rw [e] at q5 q6 q7
  refine ⟨t0, t1, q6, fun i i0 i1 => ?_⟩
  have z := q7 i.toNat (by omega)
  rw [show 9 * t.toNat + 3 + i.toNat = (9 * t + 3 + i).toNat by omega] at z
  exact isTu_b z
theorem RD.tg {M : Mem} {b : Int} (h : RD M b) : ∀ t : Int, 0 ≤ t → t < mI M 1 9 → 0 ≤ mI M 6 (9 * t).toNat ∧ mI M 6 (9 * t).toNat < mI M 1 8 := fun t t0 t1 => by
  have e9 : cS M 1 9 = mI M 1 9 := cS_in rfl
  have e8 : cS M 1 8 = mI M 1 8 := cS_in rfl
  have e6 : cS M 6 (9 * t).toNat = mI M 6 (9 * t).toNat := cS_in rfl
  obtain ⟨q1, q2, _⟩ := h.2.2.1.1.2.2.2.2.2.2.1 t.toNat (by omega)
  rw [show 9 * t.toNat = (9 * t).toNat by omega, e6] at q1 q2
  rw [e8] at q2
  exact ⟨q1, q2⟩
theorem RD.tx {M : Mem} {b : Int} (h : RD M b) : ∀ t : Nat, (t : Int) < mI M 1 10 → ∃ y z : Nat, mR M 7 t = some y ∧ mR M y 2 = some z ∧ M.1[z]? = some (.inr (0, (5 * mI M y 3).toNat)) := fun t ht => by
  obtain ⟨y, z, h1, h2, h3, _⟩ := h.2.2.2.2.1 t ht
  exact ⟨y, z, h1, h2, h3⟩
/-- what each deed does to the asks -/
theorem asB.corner {S S' : Sw} {m n v r : Int} (h : asB S m) (hn : m ≤ n) (q : CornerS v S S' r) : asB S' n := by
  rcases q with ⟨_, _, e⟩ | ⟨_, _, e⟩ <;> rw [e]
  · exact ((h.up (by decide) (by omega)).up (by decide) (by omega)).le hn
  · exact h.le hn
theorem asB.street {S S' : Sw} {m n f d t la r : Int} (h : asB S m) (hn : m ≤ n) (q : StreetS f d t la S S' r) : asB S' n := by
  rcases q with ⟨_, _, e⟩ | ⟨_, _, e⟩ <;> rw [e]
  · unfold stS; exact ((((h.up (by decide) (by omega)).up (by decide) (by omega)).up (by decide) (by omega)).up (by decide) (by omega)).le hn
  · exact h.le hn
theorem asB.goal {S S' : Sw} {m n c r : Int} (h : asB S m) (hn : m ≤ n) (q : GoalS c S S' r) : asB S' n := by
  rcases q with ⟨_, _, e⟩ | ⟨_, _, e⟩ <;> rw [e]
  · exact (h.up (by decide) (by omega)).le hn
  · exact h.le hn
theorem asB.by {S S' : Sw} {m n c r : Int} (h : asB S m) (hn : m ≤ n) (q : ByS c S S' r) : asB S' n := by
  rcases q with ⟨_, _, e⟩ | ⟨_, _, e⟩ <;> rw [e]
  · exact (h.up (by decide) (by omega)).le hn
  · exact h.le hn
theorem asB.teller {S S' : Sw} {m n c v w x r : Int} (h : asB S m) (hn : m ≤ n) (q : TellerS c v w x S S' r) : asB S' n := by
  rcases q with ⟨_, _, e⟩ | ⟨_, _, e⟩ <;> rw [e]
  · unfold teS; exact (((((h.up (by decide) (by omega)).up (by decide) (by omega)).up (by decide) (by omega)).up (by decide) (by omega)).up (by decide) (by omega)).le hn
  · exact h.le hn
theorem asB.telling {S S' : Sw} {m n t f v w r : Int} (h : asB S m) (hn : m ≤ n) (h9 : 0 ≤ S 1 9) (q : TellingS t f v w S S' r) : asB S' n := by
  rcases q.row h9 with ⟨_, _, hf⟩ | ⟨_, _, S2, k, _, _, e, hf, _⟩
  · exact (h.fr (fun k j hk => hf k j (by omega))).le hn
  · rw [e]
    unfold tgS
    have h2 : asB S2 m := h.fr (fun k j hk => hf k j (by omega))
    exact ((((h2.up (by decide) (by omega)).up (by decide) (by omega)).up (by decide) (by omega)).up (by decide) (by omega)).le hn
theorem asB.start {S S' : Sw} {m n c f r : Int} (h : asB S m) (hn : m ≤ n) (h3 : 0 ≤ S 15 3 ∧ S 15 3 ≤ 29) (q : StartS c f S S' r) : asB S' n := by
  rcases q with ⟨_, _, e⟩ | ⟨_, _, e⟩ <;> rw [e]
  · exact ((h.kp h3.1 h3.2).pl.sc).le hn
  · exact h.le hn
theorem asB.walk {S S' : Sw} {m n c r : Int} (h : asB S m) (hn : m ≤ n) (h3 : 0 ≤ S 15 3 ∧ S 15 3 ≤ 29) (q : WalkS c S S' r) : asB S' n := by
  rcases q with ⟨_, e, _⟩ | ⟨_, e, _⟩ <;> rw [e]
  · exact (asB.go _ _ _ h h3).le hn
  · exact h.le hn
theorem asB.turn {S S' : Sw} {m n c r : Int} (h : asB S m) (hn : m ≤ n) (h3 : 0 ≤ S 15 3 ∧ S 15 3 ≤ 29) (q : TurnS c S S' r) : asB S' n := by
  rcases q with ⟨_, e, _⟩ | ⟨_, e, _⟩ <;> rw [e]
  · exact ((h.kp h3.1 h3.2).fa).le hn
  · exact h.le hn
theorem asB.ask {S S' : Sw} {m n t r : Int} (h : asB S m) (m0 : 0 ≤ m) (hm : m ≤ 2000000000) (hn : m + 1 ≤ n) (h3 : 0 ≤ S 15 3 ∧ S 15 3 ≤ 29) (h8 : S 1 8 ≤ 6) (q : AskS t S S' r) : asB S' n := by
  rcases q with ⟨hc, e, _⟩ | ⟨_, e, _⟩ <;> rw [e]
  · exact ((h.kp h3.1 h3.2).he m0 hm hc.2.1 (by omega)).le hn
  · exact h.le (by omega)
theorem asB.follow {S S' : Sw} {m n c r : Int} (h : asB S m) (hn : m ≤ n) (h3 : 0 ≤ S 15 3 ∧ S 15 3 ≤ 29) (q : FollowS c S S' r) : asB S' n := by
  rcases q with ⟨_, e, _⟩ | ⟨_, e, _⟩ <;> rw [e]
  · exact ((h.kp h3.1 h3.2).pl.sc).le hn
  · exact h.le hn
theorem undo_as {S S' : Sw} {m n r : Int} (h : asB S m) (hn : m ≤ n) (q : UndoS S S' r) : asB S' n := by
  rcases q with ⟨_, _, e⟩ | ⟨_, _, e⟩ <;> rw [e]
  · exact h.le hn
  · refine asB.le ?_ hn
    unfold fBk
    obtain ⟨d, hd⟩ : ∃ d : Nat, d = (10 * ((S 15 3 + 30 - 1) % 30)).toNat := ⟨_, rfl⟩
    have hd2 : d ≤ 290 ∧ d % 10 = 0 := by omega
    rw [← hd]
    have h2 : asB (up (up S 15 3 ((S 15 3 + 30 - 1) % 30)) 15 2 (S 15 2 - 1)) m := (h.up (by decide) (by omega)).up (by decide) (by omega)
    generalize up (up S 15 3 ((S 15 3 + 30 - 1) % 30)) 15 2 (S 15 2 - 1) = T at *
    refine ⟨fun t ht => ?_, fun j j1 j2 => ?_⟩
    · have e1 : cpB T d 16 (4 + t) = T 17 (d + (4 + t)) := if_pos ⟨rfl, by omega⟩
      rw [e1]
      exact h2.2 _ (by omega) (by omega)
    · have e1 : cpB T d 17 j = T 17 j := if_neg (fun e => absurd e.1 (by decide))
      rw [e1]
      exact h2.2 j j1 j2
theorem asB.hl : ∀ (n : Nat) (t : Int) (S : Sw) (m : Int), asB S m → 0 ≤ m → m ≤ 2000000000 → 0 ≤ t → t + n ≤ 6 → asB (hlS n t S) (m + 1)
  | 0, _, _, _, h, _, _, _, _ => h.le (by omega)
  | n + 1, t, S, m, h, m0, hm, t0, t1 => by
    unfold hlS
    split
    · exact h.he m0 hm t0 (by omega)
    · exact asB.hl n (t + 1) S m h m0 hm (by omega) (by omega)
theorem hlS_8 : ∀ (n : Nat) (t : Int) (S : Sw), hlS n t S 1 8 = S 1 8
  | 0, _, _ => rfl
  | n + 1, t, S => by
    unfold hlS
    split
    · unfold fHe sc; rw [up_ne (fun e => absurd e.1 (by decide)), up_ne (fun e => absurd e.1 (by decide))]
    · exact hlS_8 n (t + 1) S
theorem asB.dr {S : Sw} {w m : Int} (h : asB S m) (m0 : 0 ≤ m) (hm : m ≤ 2000000000) (h8 : 0 ≤ S 1 8 ∧ S 1 8 ≤ 6) : asB (drS w S) (m + 1) ∧ drS w S 1 8 = S 1 8 := by
  unfold drS
  split
  · exact ⟨(h.fa).le (by omega), by unfold fFa; exact up_ne (fun e => absurd e.1 (by decide))⟩
  · split
    · exact ⟨asB.hl _ _ _ _ h m0 hm (by decide) (by omega), hlS_8 _ _ _⟩
    · split
      · exact ⟨(h.ah).le (by omega), fAh_o (by decide)⟩
      · exact ⟨(h.fa).le (by omega), by unfold fFa; exact up_ne (fun e => absurd e.1 (by decide))⟩
theorem asB.dy : ∀ (n : Nat) (x : Int) (S : Sw) (m : Int), asB S m → 0 ≤ m → m + n ≤ 2000000000 → (0 ≤ S 1 8 ∧ S 1 8 ≤ 6) → asB (dyS n x S) (m + n)
  | 0, x, S, m, h, _, _, _ => (h.up (by decide) (by omega)).le (by omega)
  | n + 1, x, S, m, h, m0, hm, h8 => by
    obtain ⟨q, e⟩ := h.dr (w := x % 4) m0 (by omega) h8
    have z := asB.dy n (nwX x) (drS (x % 4) S) (m + 1) q (by omega) (by omega) (by rw [e]; exact h8)
    exact z.le (by omega)
theorem sc_pk8 {S : Sw} {c f : Int} : sc 0 (fPl c f (fKp S)) 1 8 = S 1 8 := by
  rw [sc_ne (fun e => absurd e.1 (by decide))]
  unfold fPl
  rw [up_ne (fun e => absurd e.1 (by decide)), up_ne (fun e => absurd e.1 (by decide))]
  exact fKp_o (by decide) (by decide)
theorem asB.day {S S' : Sw} {m n s k r : Int} (h : asB S m) (m0 : 0 ≤ m) (hm : m ≤ 1000000000) (hn : m + 30 ≤ n) (h3 : 0 ≤ S 15 3 ∧ S 15 3 ≤ 29) (h8 : 0 ≤ S 1 8 ∧ S 1 8 ≤ 6) (q : DayS s k S S' r) : asB S' n := by
  rcases q with ⟨hc, e, _⟩ | ⟨_, e, _⟩ <;> rw [e]
  · refine (asB.dy k.toNat (nwX (4 * s + 29)) _ m ?_ m0 (by omega) ?_).le (by omega)
    · exact (h.kp h3.1 h3.2).pl.sc
    · rw [sc_pk8]; exact h8
  · exact h.le (by omega)
/-- laws and told numbers over the deeds -/
theorem nmT.goal {S S' : Sw} {c r : Int} (h : nmT S) (q : GoalS c S S' r) : nmT S' := by
  rcases q with ⟨_, _, e⟩ | ⟨_, _, e⟩ <;> rw [e]
  · exact h.co (up_ne (by decide)) (up_ne (by decide)) (fun j => up_ne (by omega)) (fun j => up_ne (by omega))
  · exact h
theorem nmT.by {S S' : Sw} {c r : Int} (h : nmT S) (q : ByS c S S' r) : nmT S' := by
  rcases q with ⟨_, _, e⟩ | ⟨_, _, e⟩ <;> rw [e]
  · exact h.co (up_ne (by decide)) (up_ne (by decide)) (fun j => up_ne (by omega)) (fun j => up_ne (by omega))
  · exact h
theorem nmT.start {S S' : Sw} {c f r : Int} (h : nmT S) (q : StartS c f S S' r) : nmT S' := by
  rcases q with ⟨_, _, e⟩ | ⟨_, _, e⟩ <;> rw [e]
  · exact h.kp.pl.sc
  · exact h
theorem nmT.walk {S S' : Sw} {c r : Int} (h : nmT S) (q : WalkS c S S' r) : nmT S' := by
  rcases q with ⟨_, e, _⟩ | ⟨_, e, _⟩ <;> rw [e]
  · exact nmT.go _ _ h
  · exact h
theorem nmT.turn {S S' : Sw} {c r : Int} (h : nmT S) (q : TurnS c S S' r) : nmT S' := by
  rcases q with ⟨_, e, _⟩ | ⟨_, e, _⟩ <;> rw [e]
  · exact h.kp.fa
  · exact h
theorem nmT.ask {S S' : Sw} {c r : Int} (h : nmT S) (q : AskS c S S' r) : nmT S' := by
  rcases q with ⟨_, e, _⟩ | ⟨_, e, _⟩ <;> rw [e]
  · exact h.kp.he
  · exact h
theorem nmT.follow {S S' : Sw} {c r : Int} (h : nmT S) (q : FollowS c S S' r) : nmT S' := by
  rcases q with ⟨_, e, _⟩ | ⟨_, e, _⟩ <;> rw [e]
  · exact h.kp.pl.sc
  · exact h
theorem nmT.bk {S : Sw} (h : nmT S) : nmT (fBk S) := h.fr (fun k j hk => by
  unfold fBk cpB
  rw [if_neg (fun e => by omega), up_ne (by omega), up_ne (by omega)])
theorem nmT.undo {S S' : Sw} {r : Int} (h : nmT S) (q : UndoS S S' r) : nmT S' := by
  rcases q with ⟨_, _, e⟩ | ⟨_, _, e⟩ <;> rw [e]
  · exact h
  · exact h.bk
theorem nmT.dy : ∀ (n : Nat) (x : Int) (S : Sw), nmT S → nmT (dyS n x S)
  | 0, _, _, h => h.u16
  | n + 1, x, _, h => nmT.dy n (nwX x) _ h.dr
theorem nmT.day {S S' : Sw} {s n r : Int} (h : nmT S) (q : DayS s n S S' r) : nmT S' := by
  rcases q with ⟨_, e, _⟩ | ⟨_, e, _⟩ <;> rw [e]
  · exact nmT.dy _ _ _ h.kp.pl.sc
  · exact h
/-- what a deed leaves of the texts -/
def Lj (S S' : Sw) : Prop := S' 1 10 = S 1 10 ∧ ∀ k j : Nat, 1000 ≤ k → S' k j = S k j
theorem Lk.j {S S' : Sw} (h : Lk S S') : Lj S S' := ⟨h.1.1, h.2⟩
theorem ByS.lj {t : Int} {S S' : Sw} {r : Int} (q : ByS t S S' r) : Lj S S' := by
  rcases q with ⟨_, _, e⟩ | ⟨_, _, e⟩ <;> rw [e]
  · exact ⟨up_ne (by decide), fun k j hk => up_ne (by omega)⟩
  · exact ⟨rfl, fun _ _ _ => rfl⟩
theorem LwS.lj {S S' : Sw} {R : Nat → Int} (h : LwS S R) (g : Lj S S') : LwS S' R := fun t ht => by
  rw [g.1] at ht
  rw [show S' (1000 + t) = S (1000 + t) from funext fun j => g.2 _ _ (by omega), show S' (1010 + t) = S (1010 + t) from funext fun j => g.2 _ _ (by omega)]
  exact h t ht
theorem LL.dj {M N P : Mem} (h : LL M) (hB : Box M) (f : BF fC M N) (g : BF fR N P) (hk : Lj (cS M) (cS N)) (hn : nmT (cS N)) : LL P := by
  obtain ⟨h1, h2, h3, h4, h5⟩ := h
  have ec := cS_R f.1 g
  have ei := iS_C hB f
  have e57 : mI P 57 = mI M 57 := funext fun j => (g.2.2 57 j rfl).trans (f.2.2 57 j rfl)
  refine ⟨by rw [ec]; exact wfL_co h1 hk.1 hk.2, by rw [ec, e57]; exact h2.lj hk, by rw [ec]; exact hn, by rw [ec, ei]; exact h4, fun t ht => ?_⟩
  rw [g.2.2 8 10 rfl, f.2.2 8 10 rfl] at ht
  rw [g.2.1.2.1 rfl 14 t (Or.inr rfl), g.2.1.2.1 rfl 7 t (Or.inl rfl), f.2.1.2.1 rfl 14 t (Or.inr rfl), f.2.1.2.1 rfl 7 t (Or.inl rfl)]
  exact h5 t ht
theorem RE.le {M : Mem} {b c : Int} (h : RE M b) (hc : b ≤ c) : RE M c := ⟨h.1.le hc, h.2⟩
theorem RE.q {M N : Mem} {b : Int} (h : RE M b) (f : BF fQ M N) : RE N b := ⟨h.1.q f, h.2.q h.1.1 f⟩
theorem RE.lwN {M N : Mem} {b : Int} (h : RE M b) (f : BF fC M N) : LwS (cS M) (mI N 57) := by
  rw [show mI N 57 = mI M 57 from funext fun j => f.2.2 57 j rfl]
  exact h.2.2.1
theorem RE.wl {M : Mem} {b : Int} (h : RE M b) : wfL (cS M) := h.2.1
theorem RE.nt {M : Mem} {b : Int} (h : RE M b) : nmT (cS M) := h.2.2.2.1
/-- a deed on both sides -/
theorem deed_RE {M N P : Mem} {b r s : Int} {Sp : Sw → Sw → Int → Prop} (h : RE M b) (f : BF fC M N) (g : BF fR N P) (c : Sp (cS M) (cS N) r) (k : ∀ (S S' : Sw) (r9 : Int), AR (mI N 55) S → Sp S S' r9 → s = r9 ∧ AR (mI P 55) S') (hb : asB (cS N) (b + 30)) (hl : Lj (cS M) (cS N)) (hn : nmT (cS N)) : RE P (b + 30) ∧ r = s := by
  obtain ⟨e, a⟩ := k _ _ _ (h.1.arN f) c
  exact ⟨⟨h.1.d f g a hb (by omega), h.2.dj h.1.1 f g hl hn⟩, e.symm⟩
theorem deed2_RE {M N P : Mem} {b r s : Int} {Sp : Sw → Int → Prop} (h : RE M b) (f : BF fC M N) (g : BF fR N P) (c : Sp (cS N) r) (k : ∀ (S' : Sw) (r9 : Int), Sp S' r9 → s = r9 ∧ AR (mI P 55) S') (hb : asB (cS N) (b + 30)) (hl : Lj (cS M) (cS N)) (hn : nmT (cS N)) : RE P (b + 30) ∧ r = s := by
  obtain ⟨e, a⟩ := k _ _ c
  exact ⟨⟨h.1.d f g a hb (by omega), h.2.dj h.1.1 f g hl hn⟩, e.symm⟩
/-- the text that is played -/
def plF (M : Mem) (t : Int) : Nat → Int := mI M (((mR M ((mR M 7 t.toNat).getD 0) 2)).getD 0)
theorem played_pre {M N : Mem} {b t r : Int} (h : RD M b) (f : BF fC M N) (c : ((0 ≤ t ∧ t < mI M 1 10) ∧ ∃ y z : Nat, mR M 7 t.toNat = some y ∧ mR M y 2 = some z ∧ PlS (mI M z) (mI M y 3).toNat 0 (cS M) (cS N) r) ∨ (¬ (0 ≤ t ∧ t < mI M 1 10) ∧ r = -2 ∧ cS N = cS M)) : 0 ≤ t → t < mI N 55 5 → (∀ k : Nat, (k : Int) < mI N 57 (873 * t).toNat → clR (mI N 57) (873 * t + 1 + 11 * k).toNat (plF M t) k) ∧ PlS (plF M t) (mI N 57 (873 * t).toNat).toNat 0 (cS M) (cS N) r := fun t0 t1 => by
  have e57 : mI N 57 = mI M 57 := funext fun j => f.2.2 57 j rfl
  have e55 : mI N 55 5 = mI M 1 10 := (f.2.2 55 5 rfl).trans h.2.1.2.2.2.2.2.1
  rw [e55] at t1
  rcases c with ⟨_, y, z, y1, y2, hp⟩ | ⟨n, _⟩
  · obtain ⟨y', z', h1, h2, h3, h4, h5⟩ := h.2.2.2.2.1 t.toNat (by omega)
    rw [h1] at y1
    cases y1
    rw [h2] at y2
    cases y2
    have ef : plF M t = mI M z := by
      unfold plF
      rw [h1, show (some y).getD 0 = y from rfl, h2]
      rfl
    rw [e57, ef, show (873 * t).toNat = 873 * t.toNat by omega, h4]
    refine ⟨fun k hk => ?_, hp⟩
    have q := h5 k hk
    rw [show 873 * t.toNat + 1 + 11 * k = (873 * t + 1 + 11 * (k : Int)).toNat by omega] at q
    exact q
  · exact absurd ⟨t0, t1⟩ n
theorem DoS.p9 {w a b c d : Int} {S S' : Sw} {ok : Int} (h9 : 0 ≤ S 1 9) (hD : DoS w a b c d S S' ok) : 0 ≤ S' 1 9 := by
  rcases hD with ⟨_, r, q, _⟩ | ⟨_, q⟩ | ⟨_, q⟩ | ⟨_, q⟩ | ⟨_, r, q, _⟩ | ⟨_, r, q, _⟩ | ⟨_, q⟩ | ⟨_, q, _⟩ | ⟨_, r, q, _⟩ | ⟨_, r, q, _⟩ | ⟨_, r, q, _⟩ | ⟨_, q, _⟩
  · rw [q.f6.1]; exact h9
  · rw [q.f6.1]; exact h9
  · rw [q.f6.1]; exact h9
  · rw [q.f6.1]; exact h9
  · rw [q.f6.1]; exact h9
  · rcases q.row h9 with ⟨_, hf, _⟩ | ⟨_, _, S2, n, _, _, e, hf, _⟩
    · rw [hf.1]; exact h9
    · rw [e]
      unfold tgS
      rw [up_same]
      omega
  · rw [q.f6.1]; exact h9
  · rw [q, (Fr6.go _ _).1]; exact h9
  · rw [q.f6.1]; exact h9
  · rw [q.f6.1]; exact h9
  · rw [q.f6.1]; exact h9
  · rw [q]; exact h9
theorem played_RE {M N P : Mem} {b t r s : Int} (h : RE M b) (f : BF fC M N) (g : BF fR N P) (c : ((0 ≤ t ∧ t < mI M 1 10) ∧ ∃ y z : Nat, mR M 7 t.toNat = some y ∧ mR M y 2 = some z ∧ PlS (mI M z) (mI M y 3).toNat 0 (cS M) (cS N) r) ∨ (¬ (0 ≤ t ∧ t < mI M 1 10) ∧ r = -2 ∧ cS N = cS M)) (k : ((0 ≤ t ∧ t < mI N 55 5) ∧ s = r ∧ AR (mI P 55) (cS N) ∧ asB (cS N) (b + 24) ∧ LwS (cS N) (mI N 57) ∧ nmT (cS N)) ∨ (¬ (0 ≤ t ∧ t < mI N 55 5) ∧ s = -2 ∧ mI P 55 = mI N 55)) : RE P (b + 30) ∧ r = s := by
  have e55 : mI N 55 5 = mI M 1 10 := (f.2.2 55 5 rfl).trans h.1.2.1.2.2.2.2.2.1
  rw [e55] at k
  rcases k with ⟨_, e, a, as, al, an⟩ | ⟨n, e, a⟩
  · rcases c with ⟨_, y, z, _, _, hp⟩ | ⟨q, _⟩
    · have lj := (PlS.lk _ _ _ _ _ (fun T T' w a b c d ok h9 hD => DoS.p9 h9 hD) h.1.ar.w9.1 hp).j
      exact ⟨⟨h.1.d f g a (as.le (by omega)) (by omega), h.2.dj h.1.1 f g lj an⟩, e.symm⟩
    · exact absurd (by assumption) q
  · rcases c with ⟨q, _⟩ | ⟨_, e2, ec⟩
    · exact absurd q n
    · exact ⟨⟨h.1.d f g (by rw [a, ec]; exact h.1.arN f) (by rw [ec]; exact h.1.as.le (by omega)) (by omega), h.2.dj h.1.1 f g (by rw [ec]; exact ⟨rfl, fun _ _ _ => rfl⟩) (by rw [ec]; exact h.nt)⟩, by omega⟩
/-- tape, text, image -/
theorem feed_RE {M : Mem} {a b c d e m : Int} (h : RE M m) : RE (gX12_feed (gX11_feed M a b c d e) a b c d e) m ∧ fX11_feed M a b c d e = fX12_feed (gX11_feed M a b c d e) a b c d e :=
  ⟨⟨(feed_RD h.1).1, h.2.tp (fun k j k0 k1 k2 k3 => ((feedR_o _ a b c d e).1 k j k2 k3).trans ((feedC_o M a b c d e).1 k j k0 k1)) (fun k j => ((feedR_o _ a b c d e).2.1 k j).trans ((feedC_o M a b c d e).2.1 k j)) ((feedR_o _ a b c d e).2.2.trans (feedC_o M a b c d e).2.2)⟩, (feed_RD h.1).2⟩
theorem end_RE {M N P : Mem} {n r s b : Int} (h : RE M b) (hP : Box P) (a : OnC M N 0) (t : ENc M N n r) (c : OnC N P 54) (u : ENr N P n s) : RE P b ∧ r = s :=
  ⟨⟨(end_RD h.1 hP a t c u).1, h.2.tp (fun k j k0 k1 k2 k3 => (c.1 k j k2).trans (a.1 k j k0)) (fun k j => (c.2.1 k j).trans (a.2.1 k j)) (c.2.2.trans a.2.2)⟩, (end_RD h.1 hP a t c u).2⟩
theorem text_RE {M N P : Mem} {r s b : Int} (h : RE M b) (bx : BX M N) (t : TXc M N r) (tc : TCc M N r) (tl : TLc M N r) (bp : BX N P) (u : TXr N P s) (uc : TCr N P s) (ul : TLr N P s) : RE P b ∧ r = s :=
  ⟨⟨(text_RD h.1 bx t tc bp u uc).1, LL.text h bx t tc tl bp u uc ul⟩, (text_RD h.1 bx t tc bp u uc).2⟩
theorem img_RE {M : Mem} {b : Int} (h : RE M b) : RE (cpI (gX11_image M) 56 55 0 0 589) b ∧ fX11_image M = fX12_image (gX11_image M) := by
  have z := img_RD h.1
  have bx := image_bx h.1.1
  refine ⟨⟨z.1, LL.img h z.1 (bx.2.trans (BX.img bx.1).2) (fun k j r => (oC (im_k r).2.2.2.2.2.2.2.2.2.2).trans (image_rg r)) (fun k j r => ?_) (fun j => (oC (by decide)).trans (image_o (by decide) (by decide) (by decide) (by decide) (by decide) (by decide) (by decide) (by decide) (by decide))) (fun j hj => rC.trans (image_r hj)) (fun j => rC.trans (image_ro (by decide)))⟩, z.2⟩
  obtain ⟨a1, a2, a3, a4, a5, a6, a7, a8, a9, a10, a11⟩ := rg_k r
  exact (oC a10).trans (image_o a1 a2 a3 a4 a5 a6 a7 a8 a9)
theorem bck_RE {M : Mem} {b : Int} (h : RE M b) : RE (cpI (gX11_back M) 55 56 0 0 589) b ∧ fX11_back M = fX12_back (gX11_back M) := by
  have z := bck_RD h.1
  have bx := back_bx h.1.1
  refine ⟨⟨z.1, LL.bck h z.1 (bx.2.trans (BX.bck bx.1).2) (fun k j r => (oC (rg_k r).2.2.2.2.2.2.2.2.2.2).trans (back_rg r)) (fun k j r => ?_) (fun j => (oC (by decide)).trans (back_o (by decide) (by decide) (by decide) (by decide) (by decide) (by decide) (by decide) (by decide) (by decide))) (fun j => rC.trans (back_ro (by decide))) (fun j hj => rC.trans (back_r hj))⟩, z.2⟩
  obtain ⟨a1, a2, a3, a4, a5, a6, a7, a8, a9, a10, a11⟩ := im_k r
  exact (oC a10).trans (back_o a1 a2 a3 a4 a5 a6 a7 a8 a9)
