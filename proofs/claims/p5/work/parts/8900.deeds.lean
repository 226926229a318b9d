/-! THE DEEDS: town and walk as the class keeps them, and what each deed does to them -/
abbrev Sw := Nat → Nat → Int
/-- places of the class that the relation speaks of, but seconds -/
def ck (k j : Nat) : Bool := (k == 1 && Nat.ble 6 j) || (Nat.ble 2 k && Nat.ble k 6) || (k == 8 && Nat.ble 6 j) || (Nat.ble 9 k && Nat.ble k 13) || (k == 15 && Nat.ble 2 j) || (k == 16 && !(j == 2)) || (k == 17 && !(j % 10 == 2)) || (k == 18 && Nat.ble 2 j) || (k == 19 && !(j == 2)) || (k == 20 && !(j % 10 == 2))
def cS (M : Mem) : Sw := fun k j => if ck k j = true then mI M k j else 0
def up (S : Sw) (k j : Nat) (v : Int) : Sw := fun a b => if a = k ∧ b = j then v else S a b
theorem up_same {S : Sw} {k j : Nat} {v : Int} : up S k j v k j = v := if_pos ⟨rfl, rfl⟩
theorem up_ne {S : Sw} {k j a b : Nat} {v : Int} (h : ¬ (a = k ∧ b = j)) : up S k j v a b = S a b := if_neg h
theorem cS_in {M : Mem} {k j : Nat} (h : ck k j = true) : cS M k j = mI M k j := if_pos h
theorem cS_w {M : Mem} {k j : Nat} {v : Int} (h : ck k j = true) : cS (sI M k j v) = up (cS M) k j v := by
  funext a b
  unfold cS up
  by_cases e : a = k ∧ b = j
  · rw [if_pos e, e.1, e.2, if_pos h, mI_same]
  · rw [if_neg e, mI_sI, if_neg e]
theorem cS_o {M : Mem} {k j : Nat} {v : Int} (h : ck k j = false) : cS (sI M k j v) = cS M := by
  funext a b
  unfold cS
  by_cases e : a = k ∧ b = j
  · rw [e.1, e.2, h, if_neg (by decide), if_neg (by decide)]
  · rw [mI_sI, if_neg e]
theorem ck_Q {k j : Nat} (h : ck k j = true) : fQ k j = true := by
  unfold ck at h
  unfold fQ
  simp only [Bool.or_eq_true, Bool.and_eq_true, beq_iff_eq, Nat.ble_eq] at h ⊢
  omega
theorem cS_fz {A B : Mem} (h : FzF fQ A B) : cS B = cS A := by
  funext a b
  unfold cS
  by_cases e : ck a b = true
  · rw [if_pos e, if_pos e, h a b (ck_Q e)]
  · rw [if_neg e, if_neg e]
/-- a step is kept: the row goes into the ring -/
def cpK (S : Sw) (d : Nat) : Sw := fun a b => if a = 17 ∧ d ≤ b ∧ b < d + 10 then S 16 (b - d) else S a b
def cpB (S : Sw) (d : Nat) : Sw := fun a b => if a = 16 ∧ b < 10 then S 17 (d + b) else S a b
theorem ck_16 (b : Nat) : (ck 16 b = true) ↔ b ≠ 2 := by unfold ck; simp
theorem ck_17 (b : Nat) : (ck 17 b = true) ↔ b % 10 ≠ 2 := by unfold ck; simp
theorem cS_K {M : Mem} {d : Nat} (hd : d % 10 = 0) : cS (cpI M 17 16 d 0 10) = cpK (cS M) d := by
  funext a b
  unfold cS cpK
  by_cases e : a = 17 ∧ d ≤ b ∧ b < d + 10
  · rw [if_pos e, mI_cpI, if_pos e, e.1, Nat.zero_add]
    show _ = if ck 16 (b - d) = true then mI M 16 (b - d) else 0
    by_cases e2 : b % 10 = 2
    · rw [if_neg (fun h => (ck_17 b).mp h e2), if_neg (fun h => (ck_16 (b - d)).mp h (by omega))]
    · rw [if_pos ((ck_17 b).mpr e2), if_pos ((ck_16 _).mpr (by omega))]
  · rw [if_neg e, mI_cpI, if_neg e]
theorem cS_B {M : Mem} {d : Nat} (hd : d % 10 = 0) : cS (cpI M 16 17 0 d 10) = cpB (cS M) d := by
  funext a b
  unfold cS cpB
  by_cases e : a = 16 ∧ b < 10
  · rw [if_pos e, mI_cpI, if_pos (show a = 16 ∧ 0 ≤ b ∧ b < 0 + 10 from ⟨e.1, Nat.zero_le _, by omega⟩), e.1, Nat.sub_zero]
    show _ = if ck 17 (d + b) = true then mI M 17 (d + b) else 0
    by_cases e2 : b = 2
    · rw [if_neg (fun h => (ck_16 b).mp h e2), if_neg (fun h => (ck_17 (d + b)).mp h (by omega))]
    · rw [if_pos ((ck_16 b).mpr e2), if_pos ((ck_17 (d + b)).mpr (by omega))]
  · rw [if_neg e, mI_cpI, if_neg (show ¬ (a = 16 ∧ 0 ≤ b ∧ b < 0 + 10) from fun h => e ⟨h.1, by omega⟩)]
/-- the town -/
def ahS (S : Sw) (c d : Int) : Int := if 0 ≤ c ∧ c < S 1 6 then S 3 (4 * c + d % 4).toNat else -1
def cntS (S : Sw) (c d la : Int) : Prop := 0 ≤ c ∧ c < S 1 6 ∧ S 3 (4 * c + d % 4).toNat ≠ -1 ∧ (la ≠ 0 ∨ S 4 (4 * c + d % 4).toNat = 0)
noncomputable def cntD (S : Sw) (c d la : Int) : Decidable (cntS S c d la) := Classical.propDecidable _
def CornerS (v : Int) (S S' : Sw) (r : Int) : Prop := ((0 ≤ v ∧ v ≤ 5 ∧ S 1 6 < 16) ∧ r = S 1 6 ∧ S' = up (up S 2 (S 1 6).toNat v) 1 6 (S 1 6 + 1)) ∨ (¬ (0 ≤ v ∧ v ≤ 5 ∧ S 1 6 < 16) ∧ r = -1 ∧ S' = S)
def okSt (f d t : Int) (S : Sw) : Prop := 0 ≤ f ∧ f < S 1 6 ∧ 0 ≤ t ∧ t < S 1 6 ∧ f ≠ t ∧ 0 ≤ d ∧ d ≤ 3 ∧ S 3 (4 * f + d).toNat = -1 ∧ S 3 (4 * t + (d + 2) % 4).toNat = -1
def stS (f d t la : Int) (S : Sw) : Sw := up (up (up (up S 3 (4 * f + d).toNat t) 3 (4 * t + (d + 2) % 4).toNat f) 4 (4 * f + d).toNat la) 4 (4 * t + (d + 2) % 4).toNat la
def StreetS (f d t la : Int) (S S' : Sw) (r : Int) : Prop := (okSt f d t S ∧ r = 1 ∧ S' = stS f d t la S) ∨ (¬ okSt f d t S ∧ r = 0 ∧ S' = S)
def GoalS (c : Int) (S S' : Sw) (r : Int) : Prop := ((c = -1 ∨ (0 ≤ c ∧ c < S 1 6)) ∧ r = 1 ∧ S' = up S 1 7 c) ∨ (¬ (c = -1 ∨ (0 ≤ c ∧ c < S 1 6)) ∧ r = 0 ∧ S' = S)
def okTe (c a b m : Int) (S : Sw) : Prop := 0 ≤ c ∧ c < S 1 6 ∧ 0 ≤ a ∧ a ≤ 10 ∧ 0 ≤ b ∧ b ≤ 10 ∧ 0 ≤ m ∧ m ≤ 10 ∧ S 1 8 < 6
def teS (c a b m : Int) (S : Sw) : Sw := up (up (up (up (up S 5 (4 * S 1 8).toNat c) 5 (4 * S 1 8 + 1).toNat a) 5 (4 * S 1 8 + 2).toNat b) 5 (4 * S 1 8 + 3).toNat m) 1 8 (S 1 8 + 1)
def TellerS (c a b m : Int) (S S' : Sw) (r : Int) : Prop := (okTe c a b m S ∧ r = S 1 8 ∧ S' = teS c a b m S) ∨ (¬ okTe c a b m S ∧ r = -1 ∧ S' = S)
def isTu (t : Int) : Prop := 1 ≤ t / 100 ∧ t / 100 ≤ 3 ∧ t / 10 % 10 ≤ 1 ∧ 1 ≤ t % 10 ∧ (t / 10 % 10 = 0 → t % 10 ≤ 4) ∧ (t / 10 % 10 ≠ 0 → t % 10 ≤ 5)
/-- n turns of a number, the last ones first: the rows, and whether all were turns -/
noncomputable def pTn : Nat → Int → Int → Sw → Sw × Bool
  | 0, _, _, S => (S, true)
  | n + 1, f, v, S => @ite _ (isTu (v % 1000)) (Classical.propDecidable _) (pTn n f (v / 1000) (up S 6 (f + n).toNat (v % 1000))) (S, false)
theorem pTn_s {n : Nat} {f v : Int} {S : Sw} (h : isTu (v % 1000)) : pTn (n + 1) f v S = pTn n f (v / 1000) (up S 6 (f + n).toNat (v % 1000)) := if_pos h
theorem pTn_f {n : Nat} {f v : Int} {S : Sw} (h : ¬ isTu (v % 1000)) : pTn (n + 1) f v S = (S, false) := if_neg h
def cnT (v : Int) : Nat := if v < 1000 then 1 else if v < 1000000 then 2 else 3
def PutS (f v : Int) (S S' : Sw) (r : Int) : Prop := (¬ (0 < v ∧ v < 1000000000) ∧ r = -1 ∧ S' = S) ∨ ((0 < v ∧ v < 1000000000) ∧ ((pTn (cnT v) f v S = (S', true) ∧ r = (cnT v : Int)) ∨ (pTn (cnT v) f v S = (S', false) ∧ r = -1)))
def okTg (t f : Int) (S : Sw) : Prop := 0 ≤ t ∧ t < S 1 8 ∧ 0 ≤ f ∧ f ≤ 3 ∧ S 1 9 < 8
def tgS (n t f c : Int) (S : Sw) : Sw := up (up (up (up S 6 (9 * n).toNat t) 6 (9 * n + 1).toNat f) 6 (9 * n + 2).toNat c) 1 9 (n + 1)
def TellingS (t f a b : Int) (S S' : Sw) (r : Int) : Prop := (¬ okTg t f S ∧ r = -1 ∧ S' = S) ∨ (okTg t f S ∧ ∃ (S1 S2 : Sw) (c o : Int), PutS (9 * S 1 9 + 3) a S S1 c ∧ ((b = 0 ∧ o = 0 ∧ S2 = S1) ∨ (b ≠ 0 ∧ PutS (9 * S 1 9 + 3 + 3) b S1 S2 o)) ∧ (((c = -1 ∨ o = -1 ∨ (0 < o ∧ c < 3)) ∧ r = -1 ∧ S' = S2) ∨ (¬ (c = -1 ∨ o = -1 ∨ (0 < o ∧ c < 3)) ∧ r = S 1 9 ∧ S' = tgS (S 1 9) t f (c + o) S2)))
def ByS (t : Int) (S S' : Sw) (r : Int) : Prop := ((-1 ≤ t ∧ t < S 1 10) ∧ r = 1 ∧ S' = up S 1 11 t) ∨ (¬ (-1 ≤ t ∧ t < S 1 10) ∧ r = 0 ∧ S' = S)
/-- the walk -/
def fKp (S : Sw) : Sw := up (up (cpK S (10 * S 15 3).toNat) 15 3 ((S 15 3 + 1) % 30)) 15 2 (minZ 30 (S 15 2 + 1))
def fBk (S : Sw) : Sw := cpB (up (up S 15 3 ((S 15 3 + 30 - 1) % 30)) 15 2 (S 15 2 - 1)) (10 * ((S 15 3 + 30 - 1) % 30)).toNat
def UndoS (S S' : Sw) (r : Int) : Prop := (S 15 2 = 0 ∧ r = -1 ∧ S' = S) ∨ (S 15 2 ≠ 0 ∧ r = S 15 2 - 1 ∧ S' = fBk S)
def fPl (c f : Int) (S : Sw) : Sw := up (up S 16 0 c) 16 1 f
def StartS (c f : Int) (S S' : Sw) (r : Int) : Prop := ((0 ≤ c ∧ c < S 1 6 ∧ 0 ≤ f ∧ f ≤ 3) ∧ r = 1 ∧ S' = fPl c f (fKp S)) ∨ (¬ (0 ≤ c ∧ c < S 1 6 ∧ 0 ≤ f ∧ f ≤ 3) ∧ r = 0 ∧ S' = S)
def wkS (S : Sw) (f : Int) : Nat → Int → Int
  | 0, c => c
  | n + 1, c => if c = -1 then -1 else wkS S f n (ahS S c f)
def fAh (S : Sw) : Sw := fPl (ahS S (S 16 0) (S 16 1)) (S 16 1) S
def goS : Nat → Sw → Sw × Int
  | 0, S => (S, 1)
  | n + 1, S => if wkS S (S 16 1) 1 (S 16 0) = -1 then (S, 0) else goS n (fAh (fKp S))
def WalkS (n : Int) (S S' : Sw) (r : Int) : Prop := ((1 ≤ n ∧ n ≤ 20 ∧ wkS S (S 16 1) n.toNat (S 16 0) ≠ -1) ∧ S' = (goS n.toNat S).1 ∧ r = S' 16 0) ∨ (¬ (1 ≤ n ∧ n ≤ 20 ∧ wkS S (S 16 1) n.toNat (S 16 0) ≠ -1) ∧ S' = S ∧ r = -1)
def sdS (f w : Int) : Int := if w = 1 then (f + 3) % 4 else if w = 2 then (f + 1) % 4 else f
def fFa (w : Int) (S : Sw) : Sw := up S 16 1 (if w = 3 then (S 16 1 + 2) % 4 else sdS (S 16 1) w)
def TurnS (w : Int) (S S' : Sw) (r : Int) : Prop := ((S 16 0 ≠ -1 ∧ 1 ≤ w ∧ w ≤ 3) ∧ S' = fFa w (fKp S) ∧ r = S' 16 1) ∨ (¬ (S 16 0 ≠ -1 ∧ 1 ≤ w ∧ w ≤ 3) ∧ S' = S ∧ r = -1)
def fHe (t : Int) (S : Sw) : Sw := up S 16 (4 + t).toNat (wI (S 16 (4 + t).toNat + 1))
def AskS (t : Int) (S S' : Sw) (r : Int) : Prop := ((S 16 0 ≠ -1 ∧ 0 ≤ t ∧ t < S 1 8 ∧ S 5 (4 * t).toNat = S 16 0) ∧ S' = fHe t (fKp S) ∧ r = S' 16 (4 + t).toNat) ∨ (¬ (S 16 0 ≠ -1 ∧ 0 ≤ t ∧ t < S 1 8 ∧ S 5 (4 * t).toNat = S 16 0) ∧ S' = S ∧ r = -1)
/-- goings: where, facing, how many streets -/
abbrev Gw := Int × Int × Int
def gNx (S : Sw) (g : Gw) : Gw := (ahS S g.1 g.2.1, g.2.1, g.2.2 + 1)
def gNo (S : Sw) (g : Gw) : Prop := ahS S g.1 g.2.1 = -1 ∨ 40 ≤ g.2.2
noncomputable def gOn (S : Sw) (g : Gw) : Gw × Bool := @ite _ (gNo S g) (Classical.propDecidable _) (g, false) (gNx S g, true)
/-- until so many are met -/
noncomputable def gTk (S : Sw) (P : Int → Prop) : Nat → Int → Gw → Gw × Bool
  | 0, _, g => (g, false)
  | n + 1, k, g => @ite _ (k ≤ 0) (Classical.propDecidable _) (g, true) (@ite _ (gNo S g) (Classical.propDecidable _) (g, false) (gTk S P n (@ite _ (P (gNx S g).1) (Classical.propDecidable _) (k - 1) k) (gNx S g)))
def siS (S : Sw) (c : Int) : Int := if 0 ≤ c ∧ c < S 1 6 then S 2 c.toNat else -1
/-- does this corner count for a turn: what, by sight, the number, the side -/
def gCt (S : Sw) (t side la : Int) (c : Int) : Prop := (t / 10 % 10 = 1 ∧ siS S c = t % 10) ∨ (t / 10 % 10 ≠ 1 ∧ (t / 100 = 3 ∨ cntS S c side la))
/-- one turn, as it stands: lanes count if la is not 0 -/
noncomputable def gTu (S : Sw) (t la : Int) (g : Gw) : Gw × Bool :=
  let q := gTk S (gCt S t (sdS g.2.1 (t / 100)) la) (41 - g.2.2).toNat (if t / 10 % 10 = 1 then 1 else t % 10) g
  @ite _ (q.2 = true ∧ (t / 100 = 3 ∨ cntS S q.1.1 (sdS g.2.1 (t / 100)) la)) (Classical.propDecidable _) ((q.1.1, sdS g.2.1 (t / 100), q.1.2.2), true) (q.1, false)
/-- a turn as it was meant -/
def mnS (t s : Int) : Int := 100 * (if s % 2 ≠ 0 ∧ t / 100 ≠ 3 then 3 - t / 100 else t / 100) + 10 * (t / 10 % 10) + (if s / 4 % 2 ≠ 0 ∧ t / 10 % 10 = 1 ∧ t % 10 ≤ 2 then 3 - t % 10 else t % 10)
def laS (s : Int) : Int := if s / 2 % 2 = 0 then 1 else 0
/-- the turns that are left, from the i-th on; last: what the last one was -/
noncomputable def gTs (S : Sw) (t s but : Int) : Nat → Int → Int → Gw → Gw × Bool
  | 0, _, w, g => if w = 3 then (g, true) else gOn S g
  | n + 1, i, w, g => if i = but then gTs S t s but n (i + 1) w g else
      (if (gTu S (mnS (S 6 (9 * t + 3 + i).toNat) s) (laS s) g).2 = true then gTs S t s but n (i + 1) (mnS (S 6 (9 * t + 3 + i).toNat) s / 100) (gTu S (mnS (S 6 (9 * t + 3 + i).toNat) s) (laS s) g).1 else ((gTu S (mnS (S 6 (9 * t + 3 + i).toNat) s) (laS s) g).1, false))
noncomputable def gAl (S : Sw) (t s but : Int) (g : Gw) : Gw × Bool := gTs S t s but (S 6 (9 * t + 2).toNat).toNat 0 3 g
noncomputable def leS (S : Sw) (t s but : Int) : Int := if (gAl S t s but (S 5 (4 * S 6 (9 * t).toNat).toNat, S 6 (9 * t + 1).toNat, 0)).2 = true then (gAl S t s but (S 5 (4 * S 6 (9 * t).toNat).toNat, S 6 (9 * t + 1).toNat, 0)).1.1 else -1
def FollowS (t : Int) (S S' : Sw) (r : Int) : Prop := ((S 16 0 ≠ -1 ∧ 0 ≤ t ∧ t < S 1 9) ∧ S' = fPl (gAl (fKp S) t 0 (-1) (fKp S 16 0, fKp S 16 1, 0)).1.1 (gAl (fKp S) t 0 (-1) (fKp S 16 0, fKp S 16 1, 0)).1.2.1 (fKp S) ∧ r = (if (gAl (fKp S) t 0 (-1) (fKp S 16 0, fKp S 16 1, 0)).2 = true then 1 else 0)) ∨ (¬ (S 16 0 ≠ -1 ∧ 0 ≤ t ∧ t < S 1 9) ∧ S' = S ∧ r = -1)
/-- a day -/
def hlS : Nat → Int → Sw → Sw
  | 0, _, S => S
  | n + 1, t, S => if S 5 (4 * t).toNat = S 16 0 then fHe t S else hlS n (t + 1) S
def drS (w : Int) (S : Sw) : Sw := if w = 0 then fFa 2 S else if w = 1 then hlS (S 1 8).toNat 0 S else if wkS S (S 16 1) 1 (S 16 0) ≠ -1 then fAh S else fFa 1 S
def nwX (x : Int) : Int := (x * 229 + 127) % 30181
def dyS : Nat → Int → Sw → Sw
  | 0, x, S => up S 16 3 x
  | n + 1, x, S => dyS n (nwX x) (drS (x % 4) S)
def DayS (s n : Int) (S S' : Sw) : Prop := ((0 ≤ s ∧ s ≤ 9999 ∧ 1 ≤ n ∧ n ≤ 30 ∧ S 1 6 ≠ 0) ∧ S' = dyS n.toNat (nwX (4 * s + 29)) (fPl ((4 * s + 29) % S 1 6) ((4 * s + 29) % 4) (fKp S))) ∨ (¬ (0 ≤ s ∧ s ≤ 9999 ∧ 1 ≤ n ∧ n ≤ 30 ∧ S 1 6 ≠ 0) ∧ S' = S)
/-- a clause of a text that is played: word and up to four numbers -/
def DoS (w a b c d : Int) (S S' : Sw) (ok : Int) : Prop :=
  (w = 5 ∧ ∃ r, CornerS a S S' r ∧ ((r = -1 ∧ ok = 0) ∨ (r ≠ -1 ∧ ok = 1))) ∨ (w = 6 ∧ StreetS a b c 0 S S' ok) ∨ (w = 7 ∧ StreetS a b c 1 S S' ok) ∨ (w = 8 ∧ GoalS a S S' ok) ∨ (w = 9 ∧ ∃ r, TellerS a 0 0 0 S S' r ∧ ((r = -1 ∧ ok = 0) ∨ (r ≠ -1 ∧ ok = 1))) ∨ (w = 10 ∧ ∃ r, TellingS a b c d S S' r ∧ ((r = -1 ∧ ok = 0) ∨ (r ≠ -1 ∧ ok = 1))) ∨ (w = 11 ∧ StartS a b S S' ok) ∨ (w = 12 ∧ S' = (goS a.toNat S).1 ∧ ok = (goS a.toNat S).2) ∨ (w = 13 ∧ ∃ r, TurnS a S S' r ∧ ((r = -1 ∧ ok = 0) ∨ (r ≠ -1 ∧ ok = 1))) ∨ (w = 14 ∧ ∃ r, AskS a S S' r ∧ ((r = -1 ∧ ok = 0) ∨ (r ≠ -1 ∧ ok = 1))) ∨ (w = 15 ∧ ∃ r, FollowS a S S' r ∧ ((r = -1 ∧ ok = 0) ∨ (r ≠ -1 ∧ ok = 1))) ∨ (¬ (5 ≤ w ∧ w ≤ 15) ∧ S' = S ∧ ok = 1)
/-- the clauses from the i-th on: the first that can't be, or -1 -/
def PlS (f : Nat → Int) : Nat → Int → Sw → Sw → Int → Prop
  | 0, _, S, S', r => S' = S ∧ r = -1
  | n + 1, i, S, S', r => ∃ (S1 : Sw) (ok : Int), DoS (f (5 * i).toNat) (f (5 * i + 1).toNat) (f (5 * i + 2).toNat) (f (5 * i + 3).toNat) (f (5 * i + 4).toNat) S S1 ok ∧ ((ok = 0 ∧ S' = S1 ∧ r = i) ∨ (ok = 1 ∧ PlS f n (i + 1) S1 S' r))
def wfG (S : Sw) (t : Int) : Prop := 0 ≤ t ∧ t < S 1 9 ∧ S 6 (9 * t + 2).toNat ≤ 6 ∧ ∀ i : Int, 0 ≤ i → i < S 6 (9 * t + 2).toNat → 0 ≤ S 6 (9 * t + 3 + i).toNat ∧ S 6 (9 * t + 3 + i).toNat ≤ 399
theorem gTk_0 {S : Sw} {P : Int → Prop} {n : Nat} {k : Int} {g : Gw} (h : k ≤ 0) : gTk S P (n + 1) k g = (g, true) := if_pos h
theorem gTk_f {S : Sw} {P : Int → Prop} {n : Nat} {k : Int} {g : Gw} (h : ¬ k ≤ 0) (h2 : gNo S g) : gTk S P (n + 1) k g = (g, false) := (if_neg h).trans (if_pos h2)
theorem gTk_y {S : Sw} {P : Int → Prop} {n : Nat} {k : Int} {g : Gw} (h : ¬ k ≤ 0) (h2 : ¬ gNo S g) (h3 : P (gNx S g).1) : gTk S P (n + 1) k g = gTk S P n (k - 1) (gNx S g) := by
  refine (if_neg h).trans ((if_neg h2).trans ?_)
  rw [if_pos h3]
theorem gTk_n {S : Sw} {P : Int → Prop} {n : Nat} {k : Int} {g : Gw} (h : ¬ k ≤ 0) (h2 : ¬ gNo S g) (h3 : ¬ P (gNx S g).1) : gTk S P (n + 1) k g = gTk S P n k (gNx S g) := by
  refine (if_neg h).trans ((if_neg h2).trans ?_)
  rw [if_neg h3]
theorem gOn_y {S : Sw} {g : Gw} (h : ¬ gNo S g) : gOn S g = (gNx S g, true) := if_neg h
theorem gOn_n {S : Sw} {g : Gw} (h : gNo S g) : gOn S g = (g, false) := if_pos h
theorem gTu_y {S : Sw} {t la : Int} {g q : Gw} {d : Int} (hd : d = if t / 10 % 10 = 1 then 1 else t % 10) (h : gTk S (gCt S t (sdS g.2.1 (t / 100)) la) (41 - g.2.2).toNat d g = (q, true)) (h2 : t / 100 = 3 ∨ cntS S q.1 (sdS g.2.1 (t / 100)) la) : gTu S t la g = ((q.1, sdS g.2.1 (t / 100), q.2.2), true) := by
  subst hd
  unfold gTu
  rw [h]
  exact if_pos ⟨rfl, h2⟩
theorem gTu_n {S : Sw} {t la : Int} {g q : Gw} {d : Int} (hd : d = if t / 10 % 10 = 1 then 1 else t % 10) (h : gTk S (gCt S t (sdS g.2.1 (t / 100)) la) (41 - g.2.2).toNat d g = (q, true)) (h2 : ¬ (t / 100 = 3 ∨ cntS S q.1 (sdS g.2.1 (t / 100)) la)) : gTu S t la g = (q, false) := by
  subst hd
  unfold gTu
  rw [h]
  exact if_neg (fun e => h2 e.2)
theorem gTu_f {S : Sw} {t la : Int} {g q : Gw} {d : Int} (hd : d = if t / 10 % 10 = 1 then 1 else t % 10) (h : gTk S (gCt S t (sdS g.2.1 (t / 100)) la) (41 - g.2.2).toNat d g = (q, false)) : gTu S t la g = (q, false) := by
  subst hd
  unfold gTu
  rw [h]
  exact if_neg (fun e => Bool.false_ne_true e.1)
theorem gTs_b {S : Sw} {t s b i w : Int} {n : Nat} {g : Gw} (h : i = b) : gTs S t s b (n + 1) i w g = gTs S t s b n (i + 1) w g := if_pos h
theorem gTs_y {S : Sw} {t s b i w m : Int} {n : Nat} {g q : Gw} (h : ¬ i = b) (hm : m = mnS (S 6 (9 * t + 3 + i).toNat) s) (h2 : gTu S m (laS s) g = (q, true)) : gTs S t s b (n + 1) i w g = gTs S t s b n (i + 1) (m / 100) q := by
  subst hm
  refine (if_neg h).trans ?_
  rw [h2]
  exact if_pos rfl
theorem gTs_f {S : Sw} {t s b i w m : Int} {n : Nat} {g q : Gw} (h : ¬ i = b) (hm : m = mnS (S 6 (9 * t + 3 + i).toNat) s) (h2 : gTu S m (laS s) g = (q, false)) : gTs S t s b (n + 1) i w g = (q, false) := by
  subst hm
  refine (if_neg h).trans ?_
  rw [h2]
  exact if_neg Bool.false_ne_true
/-- where a going is, in the class -/
def gW (M : Mem) : Gw := (mI M 32 2, mI M 32 3, mI M 32 4)
def wfA (S : Sw) : Prop := ∀ t : Int, 0 ≤ t → t < S 1 9 → wfG S t
theorem wfA_co {S S' : Sw} (h : wfA S) (h9 : S' 1 9 = S 1 9) (h6 : ∀ j : Nat, (j : Int) < 9 * S 1 9 → S' 6 j = S 6 j) : wfA S' := fun t t0 t1 => by
  rw [h9] at t1
  obtain ⟨a, b, c, d⟩ := h t t0 t1
  have e2 := h6 (9 * t + 2).toNat (by omega)
  refine ⟨a, by rw [h9]; exact b, by rw [e2]; exact c, fun i i0 i1 => ?_⟩
  rw [e2] at i1
  rw [h6 (9 * t + 3 + i).toNat (by omega)]
  exact d i i0 i1
theorem fKp_o {S : Sw} {k j : Nat} (h : k ≠ 15) (h2 : k ≠ 17) : fKp S k j = S k j := by
  unfold fKp cpK
  rw [up_ne (fun e => h e.1), up_ne (fun e => h e.1)]
  exact if_neg (fun e => h2 e.1)
theorem wfA_kp {S : Sw} (h : wfA S) : wfA (fKp S) := wfA_co h (fKp_o (by decide) (by decide)) (fun _ _ => fKp_o (by decide) (by decide))
