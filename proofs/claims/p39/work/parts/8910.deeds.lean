/-! THE DEEDS: town and walk as the class keeps them, and what each deed does to them -/
abbrev Sw := Nat → Nat → Int
/-- places of the class that the relation speaks of -/
def ck (k j : Nat) : Bool := (k == 1 && Nat.ble 6 j) || (Nat.ble 2 k && Nat.ble k 6) || (k == 8 && Nat.ble 6 j) || (Nat.ble 9 k && Nat.ble k 13) || (k == 15 && Nat.ble 2 j) || k == 16 || k == 17 || (k == 18 && Nat.ble 2 j) || k == 19 || k == 20
/-- an array of a text of the class -/
def txA (M : Mem) (t q : Nat) : Option Nat := match mR M 7 t with
  | some y => mR M y q
  | none => none
def ofA (M : Mem) (z : Option Nat) (j : Nat) : Int := match z with
  | some z => if 75 ≤ z then mI M z j else -1
  | none => -1
def lnA (M : Mem) (z : Option Nat) : Int := match z with
  | some z => match M.1[z]? with
    | some (.inr (_, n)) => n
    | _ => 0
  | none => 0
/-- texts: 1000 and on their code, 1010 and on where laws stand in it, 1020 and on how long it is -/
def cTx (M : Mem) (k j : Nat) : Int := if k < 1010 then ofA M (txA M (k - 1000) 0) j else if k < 1020 then ofA M (txA M (k - 1010) 1) j else lnA M (txA M (k - 1020) 0)
def cS (M : Mem) : Sw := fun k j => if ck k j = true then mI M k j else if 1000 ≤ k then cTx M k j else 0
def up (S : Sw) (k j : Nat) (v : Int) : Sw := fun a b => if a = k ∧ b = j then v else S a b
theorem up_same {S : Sw} {k j : Nat} {v : Int} : up S k j v k j = v := if_pos ⟨rfl, rfl⟩
theorem up_ne {S : Sw} {k j a b : Nat} {v : Int} (h : ¬ (a = k ∧ b = j)) : up S k j v a b = S a b := if_neg h
theorem ck_lt {k j : Nat} (h : ck k j = true) : k ≤ 20 := by
  unfold ck at h
  simp only [Bool.or_eq_true, Bool.and_eq_true, beq_iff_eq, Nat.ble_eq] at h
  omega
theorem cS_in {M : Mem} {k j : Nat} (h : ck k j = true) : cS M k j = mI M k j := if_pos h
theorem cS_tx {M : Mem} {k j : Nat} (h : 1000 ≤ k) : cS M k j = cTx M k j := by
  unfold cS
  rw [if_neg (fun e => by have := ck_lt e; omega), if_pos h]
theorem ofA_co {A B : Mem} (h : ∀ k j : Nat, 75 ≤ k → mI B k j = mI A k j) (z : Option Nat) (j : Nat) : ofA B z j = ofA A z j := by
  cases z with
  | none => rfl
  | some z =>
    show (if 75 ≤ z then mI B z j else -1) = if 75 ≤ z then mI A z j else -1
    by_cases e : 75 ≤ z
    · rw [if_pos e, if_pos e, h z j e]
    · rw [if_neg e, if_neg e]
theorem cTx_co {A B : Mem} (h : ∀ k j : Nat, 75 ≤ k → mI B k j = mI A k j) (hr : ∀ k j : Nat, mR B k j = mR A k j) (hs : B.1 = A.1) (k j : Nat) : cTx B k j = cTx A k j := by
  have e : ∀ t q, txA B t q = txA A t q := fun t q => by
    unfold txA
    rw [hr 7 t]
    cases mR A 7 t with
    | none => rfl
    | some y => exact hr y q
  unfold cTx
  rw [e, e, e, ofA_co h, ofA_co h]
  unfold lnA
  rw [hs]
theorem cTx_w {M : Mem} {k j : Nat} {v : Int} (hk : k < 75) (a b : Nat) : cTx (sI M k j v) a b = cTx M a b := cTx_co (A := M) (B := sI M k j v) (fun p q hp => by rw [mI_sI, if_neg (by omega)]) (fun _ _ => rfl) rfl a b
theorem cS_w {M : Mem} {k j : Nat} {v : Int} (h : ck k j = true) : cS (sI M k j v) = up (cS M) k j v := by
  have hk := ck_lt h
  funext a b
  unfold cS up
  by_cases e : a = k ∧ b = j
  · rw [if_pos e, e.1, e.2, if_pos h, mI_same]
  · rw [if_neg e, mI_sI, if_neg e, cTx_w (by omega)]
theorem cS_o {M : Mem} {k j : Nat} {v : Int} (h : ck k j = false) (hk : Nat.blt k 75 = true) : cS (sI M k j v) = cS M := by
  have hk2 : k < 75 := by
    rw [Nat.blt_eq] at hk
    exact hk
  funext a b
  unfold cS
  rw [cTx_w hk2]
  by_cases e : a = k ∧ b = j
  · rw [e.1, e.2, h, if_neg (show ¬ (false = true) by decide), if_neg (show ¬ (false = true) by decide)]
  · rw [mI_sI, if_neg e]
theorem ck_Q {k j : Nat} (h : ck k j = true) : fQ k j = true := by
  unfold ck at h
  unfold fQ
  simp only [Bool.or_eq_true, Bool.and_eq_true, beq_iff_eq, Nat.ble_eq] at h ⊢
  omega
/-- a query leaves all as it is -/
theorem cTx_dy {f : Nat → Nat → Bool} {A B : Mem} (hA : Box A) (h : DyF f A B) (h7 : ∀ j : Nat, mR B 7 j = mR A 7 j) (k j : Nat) : cTx B k j = cTx A k j := by
  have key : ∀ t : Nat, (txA B t 0 = txA A t 0 ∧ ofA B (txA A t 0) j = ofA A (txA A t 0) j ∧ lnA B (txA A t 0) = lnA A (txA A t 0)) ∧ (txA B t 1 = txA A t 1 ∧ ofA B (txA A t 1) j = ofA A (txA A t 1) j) := fun t => by
    unfold txA
    rw [h7 t]
    cases e : mR A 7 t with
    | none => exact ⟨⟨rfl, rfl, rfl⟩, rfl, rfl⟩
    | some y =>
      obtain ⟨y1, y2, _, a, b, c, n, m, q0, q1, _, q3, q4, _, q6, q7, _⟩ := hA.2.2.1 7 t y (Or.inl rfl) e
      have r0 := h.rf y1 y2 0
      have r1 := h.rf y1 y2 1
      dsimp only
      rw [r0, r1, q0, q1]
      refine ⟨⟨rfl, ?_, ?_⟩, rfl, ?_⟩
      · show (if 75 ≤ a then mI B a j else -1) = if 75 ≤ a then mI A a j else -1
        rw [if_pos q3, if_pos q3, h.vl q3 q6]
      · unfold lnA
        dsimp only
        rw [h.sh q3 q6, q6]
      · show (if 75 ≤ b then mI B b j else -1) = if 75 ≤ b then mI A b j else -1
        rw [if_pos q4, if_pos q4, h.vl q4 q7]
  unfold cTx
  obtain ⟨⟨a1, a2, a3⟩, _⟩ := key (k - 1000)
  obtain ⟨_, b1, b2⟩ := key (k - 1010)
  obtain ⟨⟨c1, _, c3⟩, _⟩ := key (k - 1020)
  rw [a1, a2, b1, b2, c1, c3]
theorem cS_bf {f : Nat → Nat → Bool} {A B : Mem} (hA : Box A) (h : BF f A B) (hl : ∀ k j, fQ k j = true → f k j = true := by first | exact fun _ _ e => e | exact fQ_S | exact fQ_W | exact fQ_V) : cS B = cS A := by
  funext a b
  unfold cS
  rw [cTx_dy hA h.2 (fun j => h.2.1.2.1 (hl 7 0 rfl) 7 j (Or.inl rfl))]
  by_cases e : ck a b = true
  · rw [if_pos e, if_pos e, h.2.2 a b (hl a b (ck_Q e))]
  · rw [if_neg e, if_neg e]
/-- a step is kept: the row goes into the ring -/
def cpK (S : Sw) (d : Nat) : Sw := fun a b => if a = 17 ∧ d ≤ b ∧ b < d + 10 then S 16 (b - d) else S a b
def cpB (S : Sw) (d : Nat) : Sw := fun a b => if a = 16 ∧ b < 10 then S 17 (d + b) else S a b
theorem ck_16 (b : Nat) : ck 16 b = true := rfl
theorem ck_17 (b : Nat) : ck 17 b = true := rfl
theorem cTx_cp {M : Mem} {k q d s n : Nat} (hk : k < 75) (a b : Nat) : cTx (cpI M k q d s n) a b = cTx M a b := cTx_co (A := M) (B := cpI M k q d s n) (fun p r hp => by rw [mI_cpI, if_neg (by omega)]) (fun _ _ => rfl) rfl a b
theorem cS_K {M : Mem} {d : Nat} (hd : d % 10 = 0) : cS (cpI M 17 16 d 0 10) = cpK (cS M) d := by
  funext a b
  unfold cS cpK
  rw [cTx_cp (by decide)]
  by_cases e : a = 17 ∧ d ≤ b ∧ b < d + 10
  · rw [if_pos e, mI_cpI, if_pos e, e.1, Nat.zero_add, if_pos (ck_17 b)]
    exact (if_pos (ck_16 (b - d))).symm
  · rw [if_neg e, mI_cpI, if_neg e]
theorem cS_B {M : Mem} {d : Nat} (hd : d % 10 = 0) : cS (cpI M 16 17 0 d 10) = cpB (cS M) d := by
  funext a b
  unfold cS cpB
  rw [cTx_cp (by decide)]
  by_cases e : a = 16 ∧ b < 10
  · rw [if_pos e, mI_cpI, if_pos (show a = 16 ∧ 0 ≤ b ∧ b < 0 + 10 from ⟨e.1, Nat.zero_le _, by omega⟩), e.1, Nat.sub_zero, if_pos (ck_16 b)]
    exact (if_pos (ck_17 (d + b))).symm
  · rw [if_neg e, mI_cpI, if_neg (show ¬ (a = 16 ∧ 0 ≤ b ∧ b < 0 + 10) from fun h => e ⟨h.1, by omega⟩)]
/-- the town -/
def ahS (S : Sw) (c d : Int) : Int := if 0 ≤ c ∧ c < S 1 6 then S 3 (4 * c + d % 4).toNat else -1
def cntS (S : Sw) (c d la : Int) : Prop := 0 ≤ c ∧ c < S 1 6 ∧ S 3 (4 * c + d % 4).toNat ≠ -1 ∧ (la ≠ 0 ∨ S 4 (4 * c + d % 4).toNat = 0)
noncomputable def cntD (S : Sw) (c d la : Int) : Decidable (cntS S c d la) := Classical.propDecidable _
def siS (S : Sw) (c : Int) : Int := if 0 ≤ c ∧ c < S 1 6 then S 2 c.toNat else -1
/-- the laws: does the text that rules have this one, its code, what it says -/
def tLw (S : Sw) (t w : Nat) : List (Int × Int) := lsC (S (1000 + t)) (S (1010 + t) (2 * w)).toNat (S (1010 + t) (2 * w + 1) - S (1010 + t) (2 * w)).toNat
def ruS (S : Sw) (w : Int) : Prop := 0 ≤ S 1 11 ∧ S 1 11 < S 1 10 ∧ S (1010 + (S 1 11).toNat) (2 * w).toNat ≠ -1
def clS (lo hi v : Int) : Int := maxZ lo (minZ hi v)
noncomputable def lwS (S : Sw) (w : Int) (nm : Int → Int) (lo hi df : Int) : Int := @ite _ (ruS S w) (Classical.propDecidable _) (clS lo hi (evKV nm (tLw S (S 1 11).toNat w.toNat))) df
/-- the laws of a text are well formed -/
def wfL1 (S : Sw) (t w : Nat) : Prop := S (1010 + t) (2 * w) ≠ -1 → ∃ c, rgO w c ∧ H1 c 27 ∧ 0 ≤ S (1010 + t) (2 * w) ∧ S (1010 + t) (2 * w + 1) = S (1010 + t) (2 * w) + c.length ∧ S (1010 + t) (2 * w + 1) ≤ S (1020 + t) 0 ∧ ∀ i : Nat, i < c.length → S (1000 + t) ((S (1010 + t) (2 * w)).toNat + i) = enc (nth c i)
def wfL (S : Sw) : Prop := ∀ t : Nat, (t : Int) < S 1 10 → ∀ w : Nat, w ≤ 4 → wfL1 S t w
def laI (S : Sw) (c d : Int) : Int := if 0 ≤ c ∧ c < S 1 6 then S 4 (4 * c + d % 4).toNat else 0
def pnS (S : Sw) (c d : Int) : Int → Int := fun v => if v = 6 then laI S c d else if v = 7 then siS S (ahS S c d) else d
noncomputable def paS (S : Sw) (c d : Int) : Int := lwS S 3 (pnS S c d) 1 99 10
def anS (S : Sw) (t : Int) : Int → Int := fun v => if v = 0 then t else if v = 1 then S 5 (4 * t).toNat else S 16 (4 + t).toNat
noncomputable def akS (S : Sw) (t : Int) : Int := lwS S 4 (anS S t) 0 99 20
def snS (S : Sw) (t w : Int) : Int → Int := fun v => if v = 3 then S 6 (9 * t + 2).toNat else if v = 4 then S 6 (9 * t + 1).toNat else if v = 5 then S 5 (4 * S 6 (9 * t).toNat + (1 + w)).toNat else anS S (S 6 (9 * t).toNat) v
noncomputable def slS (S : Sw) (t w : Int) : Int := lwS S w (snS S t w) 0 10 (S 5 (4 * S 6 (9 * t).toNat + (1 + w)).toNat)
/-- the street of a path -/
noncomputable def paP (S : Sw) (a f : Int) : Int := paS S (wI (wI (4 * a) + f) / 4) (wI (wI (4 * a) + f) % 4)
/-- all streets of a path -/
noncomputable def smP (S : Sw) (p : Nat → Int) : Nat → Int
  | 0 => 0
  | n + 1 => wI (smP S p n + paS S (p n / 4) (p n % 4))
theorem smP_co {S : Sw} {p q : Nat → Int} : ∀ n : Nat, (∀ i : Nat, i < n → q i = p i) → smP S q n = smP S p n
  | 0, _ => rfl
  | n + 1, h => by
    unfold smP
    rw [h n (Nat.lt_succ_self n), smP_co n (fun i hi => h i (Nat.lt_succ_of_lt hi))]
theorem clS_b {lo hi : Int} (h : lo ≤ hi) (v : Int) : lo ≤ clS lo hi v ∧ clS lo hi v ≤ hi := by
  unfold clS
  have a := minZ_bd hi v
  have b := maxZ_bd lo (minZ hi v)
  omega
theorem lwS_y {S : Sw} {w : Int} {nm : Int → Int} {lo hi df : Int} (h : ruS S w) : lwS S w nm lo hi df = clS lo hi (evKV nm (tLw S (S 1 11).toNat w.toNat)) := if_pos h
theorem lwS_n {S : Sw} {w : Int} {nm : Int → Int} {lo hi df : Int} (h : ¬ ruS S w) : lwS S w nm lo hi df = df := if_neg h
theorem paS_b (S : Sw) (c d : Int) : 1 ≤ paS S c d ∧ paS S c d ≤ 99 := by
  unfold paS
  by_cases h : ruS S 3
  · rw [lwS_y h]; exact clS_b (by decide) _
  · rw [lwS_n h]; exact ⟨by decide, by decide⟩
theorem akS_b (S : Sw) (t : Int) : 0 ≤ akS S t ∧ akS S t ≤ 99 := by
  unfold akS
  by_cases h : ruS S 4
  · rw [lwS_y h]; exact clS_b (by decide) _
  · rw [lwS_n h]; exact ⟨by decide, by decide⟩
/-- what the laws hang on -/
theorem lwS_co {S S' : Sw} {w : Int} {nm nm' : Int → Int} {lo hi df : Int} (h10 : S' 1 10 = S 1 10) (h11 : S' 1 11 = S 1 11) (hk : ∀ k j : Nat, 1000 ≤ k → S' k j = S k j) (hn : nm' = nm) : lwS S' w nm' lo hi df = lwS S w nm lo hi df := by
  have e : ruS S' w = ruS S w := by
    unfold ruS
    rw [h10, h11, hk _ _ (by omega)]
  have e2 : tLw S' (S' 1 11).toNat w.toNat = tLw S (S 1 11).toNat w.toNat := by
    unfold tLw
    rw [h11, show S' (1000 + (S 1 11).toNat) = S (1000 + (S 1 11).toNat) from funext fun j => hk _ _ (by omega), hk _ _ (by omega), hk _ _ (by omega)]
  by_cases h : ruS S w
  · rw [lwS_y h, lwS_y (by rw [e]; exact h), e2, hn]
  · rw [lwS_n h, lwS_n (by rw [e]; exact h)]
theorem wfL_co {S S' : Sw} (h : wfL S) (h10 : S' 1 10 = S 1 10) (hk : ∀ k j : Nat, 1000 ≤ k → S' k j = S k j) : wfL S' := fun t ht w hw => by
  rw [h10] at ht
  have z := h t ht w hw
  unfold wfL1 at z ⊢
  rw [hk _ _ (by omega), hk _ _ (by omega), hk _ _ (by omega), show S' (1000 + t) = S (1000 + t) from funext fun j => hk _ _ (by omega)]
  exact z
theorem paS_co {S S' : Sw} (h10 : S' 1 10 = S 1 10) (h11 : S' 1 11 = S 1 11) (hk : ∀ k j : Nat, 1000 ≤ k → S' k j = S k j) (h6 : S' 1 6 = S 1 6) (h2 : ∀ j, S' 2 j = S 2 j) (h3 : ∀ j, S' 3 j = S 3 j) (h4 : ∀ j, S' 4 j = S 4 j) (c d : Int) : paS S' c d = paS S c d := by
  unfold paS
  refine lwS_co h10 h11 hk ?_
  unfold pnS laI siS ahS
  rw [h6, show S' 2 = S 2 from funext h2, show S' 3 = S 3 from funext h3, show S' 4 = S 4 from funext h4]
def CornerS (v : Int) (S S' : Sw) (r : Int) : Prop := ((0 ≤ v ∧ v ≤ 5 ∧ S 1 6 < 16) ∧ r = S 1 6 ∧ S' = up (up S 2 (S 1 6).toNat v) 1 6 (S 1 6 + 1)) ∨ (¬ (0 ≤ v ∧ v ≤ 5 ∧ S 1 6 < 16) ∧ r = -1 ∧ S' = S)
def okSt (f d t : Int) (S : Sw) : Prop := 0 ≤ f ∧ f < S 1 6 ∧ 0 ≤ t ∧ t < S 1 6 ∧ f ≠ t ∧ 0 ≤ d ∧ d ≤ 3 ∧ S 3 (4 * f + d).toNat = -1 ∧ S 3 (4 * t + (d + 2) % 4).toNat = -1
def stS (f d t la : Int) (S : Sw) : Sw := up (up (up (up S 3 (4 * f + d).toNat t) 3 (4 * t + (d + 2) % 4).toNat f) 4 (4 * f + d).toNat la) 4 (4 * t + (d + 2) % 4).toNat la
def StreetS (f d t la : Int) (S S' : Sw) (r : Int) : Prop := (okSt f d t S ∧ r = 1 ∧ S' = stS f d t la S) ∨ (¬ okSt f d t S ∧ r = 0 ∧ S' = S)
def GoalS (c : Int) (S S' : Sw) (r : Int) : Prop := ((c = -1 ∨ (0 ≤ c ∧ c < S 1 6)) ∧ r = 1 ∧ S' = up S 1 7 c) ∨ (¬ (c = -1 ∨ (0 ≤ c ∧ c < S 1 6)) ∧ r = 0 ∧ S' = S)
def okTe (c a b m : Int) (S : Sw) : Prop := 0 ≤ c ∧ c < S 1 6 ∧ 0 ≤ a ∧ a ≤ 10 ∧ 0 ≤ b ∧ b ≤ 10 ∧ 0 ≤ m ∧ m ≤ 10 ∧ S 1 8 < 6
def teS (c a b m : Int) (S : Sw) : Sw := up (up (up (up (up S 5 (4 * S 1 8).toNat c) 5 (4 * S 1 8 + 1).toNat a) 5 (4 * S 1 8 + 2).toNat b) 5 (4 * S 1 8 + 3).toNat m) 1 8 (S 1 8 + 1)
def TellerS (c a b m : Int) (S S' : Sw) (r : Int) : Prop := (okTe c a b m S ∧ r = S 1 8 ∧ S' = teS c a b m S) ∨ (¬ okTe c a b m S ∧ r = -1 ∧ S' = S)
def isTu (t : Int) : Prop := 1 ≤ t / 100 ∧ t / 100 ≤ 3 ∧ t / 10 % 10 ≤ 1 ∧ 1 ≤ t % 10 ∧ (t / 10 % 10 = 0 → t % 10 ≤ 4) ∧ (t / 10 % 10 ≠ 0 → t % 10 ≤ 5)
/-- n turns of a number, the last ones first: the rows, and whether all were turns -/
noncomputable def pTn : Nat → Int → Int → Sw → Sw × Bool
  | 0, _, _, S => (S, true)
  | n + 1, f, v, S => @ite _ (isTu (v % 1000)) (Classical.propDecidable _) (pTn n f (v / 1000) (up S 6 (f + n).toNat (v % 1000))) (S, false)
theorem pTn_s {n : Nat} {f v : Int} {S : Sw} (h : isTu (v % 1000)) : pTn (n + 1) f v S = pTn n f (v / 1000) (up S 6 (f + n).toNat (v % 1000)) := if_pos h
theorem pTn_f {n : Nat} {f v : Int} {S : Sw} (h : ¬ isTu (v % 1000)) : pTn (n + 1) f v S = (S, false) := if_neg h
def cnT (v : Int) : Nat := if v < 1000 then 1 else if v < 1000000 then 2 else 3
def PutS (f v : Int) (S S' : Sw) (r : Int) : Prop := (¬ (0 < v ∧ v < 1000000000) ∧ r = -1 ∧ S' = S) ∨ ((0 < v ∧ v < 1000000000) ∧ ((pTn (cnT v) f v S = (S', true) ∧ r = (cnT v : Int)) ∨ (pTn (cnT v) f v S = (S', false) ∧ r = -1)))
def okTg (t f : Int) (S : Sw) : Prop := 0 ≤ t ∧ t < S 1 8 ∧ 0 ≤ f ∧ f ≤ 3 ∧ S 1 9 < 8
def tgS (n t f c : Int) (S : Sw) : Sw := up (up (up (up S 6 (9 * n).toNat t) 6 (9 * n + 1).toNat f) 6 (9 * n + 2).toNat c) 1 9 (n + 1)
def TellingS (t f a b : Int) (S S' : Sw) (r : Int) : Prop := (¬ okTg t f S ∧ r = -1 ∧ S' = S) ∨ (okTg t f S ∧ ∃ (S1 S2 : Sw) (c o : Int), PutS (9 * S 1 9 + 3) a S S1 c ∧ ((b = 0 ∧ o = 0 ∧ S2 = S1) ∨ (b ≠ 0 ∧ PutS (9 * S 1 9 + 3 + 3) b S1 S2 o)) ∧ (((c = -1 ∨ o = -1 ∨ (0 < o ∧ c < 3)) ∧ r = -1 ∧ S' = S2) ∨ (¬ (c = -1 ∨ o = -1 ∨ (0 < o ∧ c < 3)) ∧ r = S 1 9 ∧ S' = tgS (S 1 9) t f (c + o) S2)))
def ByS (t : Int) (S S' : Sw) (r : Int) : Prop := ((-1 ≤ t ∧ t < S 1 10) ∧ r = 1 ∧ S' = up S 1 11 t) ∨ (¬ (-1 ≤ t ∧ t < S 1 10) ∧ r = 0 ∧ S' = S)
/-- the walk -/
def fKp (S : Sw) : Sw := up (up (cpK S (10 * S 15 3).toNat) 15 3 ((S 15 3 + 1) % 30)) 15 2 (minZ 30 (S 15 2 + 1))
def fBk (S : Sw) : Sw := cpB (up (up S 15 3 ((S 15 3 + 30 - 1) % 30)) 15 2 (S 15 2 - 1)) (10 * ((S 15 3 + 30 - 1) % 30)).toNat
def UndoS (S S' : Sw) (r : Int) : Prop := (S 15 2 = 0 ∧ r = -1 ∧ S' = S) ∨ (S 15 2 ≠ 0 ∧ r = S 15 2 - 1 ∧ S' = fBk S)
def fPl (c f : Int) (S : Sw) : Sw := up (up S 16 0 c) 16 1 f
/-- the seconds -/
def sc (v : Int) (S : Sw) : Sw := up S 16 2 v
def StartS (c f : Int) (S S' : Sw) (r : Int) : Prop := ((0 ≤ c ∧ c < S 1 6 ∧ 0 ≤ f ∧ f ≤ 3) ∧ r = 1 ∧ S' = sc 0 (fPl c f (fKp S))) ∨ (¬ (0 ≤ c ∧ c < S 1 6 ∧ 0 ≤ f ∧ f ≤ 3) ∧ r = 0 ∧ S' = S)
def wkS (S : Sw) (f : Int) : Nat → Int → Int
  | 0, c => c
  | n + 1, c => if c = -1 then -1 else wkS S f n (ahS S c f)
noncomputable def fAh (S : Sw) : Sw := sc (wI (S 16 2 + paS S (S 16 0) (S 16 1))) (fPl (ahS S (S 16 0) (S 16 1)) (S 16 1) S)
noncomputable def goS : Nat → Sw → Sw × Int
  | 0, S => (S, 1)
  | n + 1, S => if wkS S (S 16 1) 1 (S 16 0) = -1 then (S, 0) else goS n (fAh (fKp S))
def WalkS (n : Int) (S S' : Sw) (r : Int) : Prop := ((1 ≤ n ∧ n ≤ 20 ∧ wkS S (S 16 1) n.toNat (S 16 0) ≠ -1) ∧ S' = (goS n.toNat S).1 ∧ r = S' 16 0) ∨ (¬ (1 ≤ n ∧ n ≤ 20 ∧ wkS S (S 16 1) n.toNat (S 16 0) ≠ -1) ∧ S' = S ∧ r = -1)
def sdS (f w : Int) : Int := if w = 1 then (f + 3) % 4 else if w = 2 then (f + 1) % 4 else f
def fFa (w : Int) (S : Sw) : Sw := up S 16 1 (if w = 3 then (S 16 1 + 2) % 4 else sdS (S 16 1) w)
def TurnS (w : Int) (S S' : Sw) (r : Int) : Prop := ((S 16 0 ≠ -1 ∧ 1 ≤ w ∧ w ≤ 3) ∧ S' = fFa w (fKp S) ∧ r = S' 16 1) ∨ (¬ (S 16 0 ≠ -1 ∧ 1 ≤ w ∧ w ≤ 3) ∧ S' = S ∧ r = -1)
noncomputable def fHe (t : Int) (S : Sw) : Sw := up (sc (wI (S 16 2 + akS S t)) S) 16 (4 + t).toNat (wI (S 16 (4 + t).toNat + 1))
def AskS (t : Int) (S S' : Sw) (r : Int) : Prop := ((S 16 0 ≠ -1 ∧ 0 ≤ t ∧ t < S 1 8 ∧ S 5 (4 * t).toNat = S 16 0) ∧ S' = fHe t (fKp S) ∧ r = S' 16 (4 + t).toNat) ∨ (¬ (S 16 0 ≠ -1 ∧ 0 ≤ t ∧ t < S 1 8 ∧ S 5 (4 * t).toNat = S 16 0) ∧ S' = S ∧ r = -1)
/-- goings: where, facing, how many streets, how long -/
abbrev Gw := Int × Int × Int × Int
noncomputable def gNx (S : Sw) (g : Gw) : Gw := (ahS S g.1 g.2.1, g.2.1, g.2.2.1 + 1, wI (g.2.2.2 + paP S g.1 g.2.1))
def gNo (S : Sw) (g : Gw) : Prop := ahS S g.1 g.2.1 = -1 ∨ 40 ≤ g.2.2.1
noncomputable def gOn (S : Sw) (g : Gw) : Gw × Bool := @ite _ (gNo S g) (Classical.propDecidable _) (g, false) (gNx S g, true)
/-- until so many are met -/
noncomputable def gTk (S : Sw) (P : Int → Prop) : Nat → Int → Gw → Gw × Bool
  | 0, _, g => (g, false)
  | n + 1, k, g => @ite _ (k ≤ 0) (Classical.propDecidable _) (g, true) (@ite _ (gNo S g) (Classical.propDecidable _) (g, false) (gTk S P n (@ite _ (P (gNx S g).1) (Classical.propDecidable _) (k - 1) k) (gNx S g)))
/-- does this corner count for a turn: what, by sight, the number, the side -/
def gCt (S : Sw) (t side la : Int) (c : Int) : Prop := (t / 10 % 10 = 1 ∧ siS S c = t % 10) ∨ (t / 10 % 10 ≠ 1 ∧ (t / 100 = 3 ∨ cntS S c side la))
/-- one turn, as it stands: lanes count if la is not 0 -/
noncomputable def gTu (S : Sw) (t la : Int) (g : Gw) : Gw × Bool :=
  let q := gTk S (gCt S t (sdS g.2.1 (t / 100)) la) (41 - g.2.2.1).toNat (if t / 10 % 10 = 1 then 1 else t % 10) g
  @ite _ (q.2 = true ∧ (t / 100 = 3 ∨ cntS S q.1.1 (sdS g.2.1 (t / 100)) la)) (Classical.propDecidable _) ((q.1.1, sdS g.2.1 (t / 100), q.1.2.2), true) (q.1, false)
/-- a turn as it was meant -/
def mnS (t s : Int) : Int := 100 * (if s % 2 ≠ 0 ∧ t / 100 ≠ 3 then 3 - t / 100 else t / 100) + 10 * (t / 10 % 10) + (if s / 4 % 2 ≠ 0 ∧ t / 10 % 10 = 1 ∧ t % 10 ≤ 2 then 3 - t % 10 else t % 10)
def laS (s : Int) : Int := if s / 2 % 2 = 0 then 1 else 0
/-- the turns that are left, from the i-th on; last: what the last one was -/
noncomputable def gTs (S : Sw) (t s but : Int) : Nat → Int → Int → Gw → Gw × Bool
  | 0, _, w, g => if w = 3 then (g, true) else gOn S g
  | n + 1, i, w, g => if i = but then gTs S t s but n (i + 1) w g else
      (if (gTu S (mnS (S 6 (9 * t + 3 + i).toNat) s) (laS s) g).2 = true then gTs S t s but n (i + 1) (mnS (S 6 (9 * t + 3 + i).toNat) s / 100) (gTu S (mnS (S 6 (9 * t + 3 + i).toNat) s) (laS s) g).1 else ((gTu S (mnS (S 6 (9 * t + 3 + i).toNat) s) (laS s) g).1, false))
noncomputable def gAl (S : Sw) (t s but : Int) (g : Gw) : Gw × Bool := gTs S t s but (S 6 (9 * t + 2).toNat).toNat 0 3 g
noncomputable def leS (S : Sw) (t s but : Int) : Int := if (gAl S t s but (S 5 (4 * S 6 (9 * t).toNat).toNat, S 6 (9 * t + 1).toNat, 0, 0)).2 = true then (gAl S t s but (S 5 (4 * S 6 (9 * t).toNat).toNat, S 6 (9 * t + 1).toNat, 0, 0)).1.1 else -1
def FollowS (t : Int) (S S' : Sw) (r : Int) : Prop := ((S 16 0 ≠ -1 ∧ 0 ≤ t ∧ t < S 1 9) ∧ S' = sc (wI (fKp S 16 2 + (gAl (fKp S) t 0 (-1) (fKp S 16 0, fKp S 16 1, 0, 0)).1.2.2.2)) (fPl (gAl (fKp S) t 0 (-1) (fKp S 16 0, fKp S 16 1, 0, 0)).1.1 (gAl (fKp S) t 0 (-1) (fKp S 16 0, fKp S 16 1, 0, 0)).1.2.1 (fKp S)) ∧ r = (if (gAl (fKp S) t 0 (-1) (fKp S 16 0, fKp S 16 1, 0, 0)).2 = true then 1 else 0)) ∨ (¬ (S 16 0 ≠ -1 ∧ 0 ≤ t ∧ t < S 1 9) ∧ S' = S ∧ r = -1)
/-- a day -/
noncomputable def hlS : Nat → Int → Sw → Sw
  | 0, _, S => S
  | n + 1, t, S => if S 5 (4 * t).toNat = S 16 0 then fHe t S else hlS n (t + 1) S
noncomputable def drS (w : Int) (S : Sw) : Sw := if w = 0 then fFa 2 S else if w = 1 then hlS (S 1 8).toNat 0 S else if wkS S (S 16 1) 1 (S 16 0) ≠ -1 then fAh S else fFa 1 S
def nwX (x : Int) : Int := (x * 229 + 127) % 30181
noncomputable def dyS : Nat → Int → Sw → Sw
  | 0, x, S => up S 16 3 x
  | n + 1, x, S => dyS n (nwX x) (drS (x % 4) S)
def DayS (s n : Int) (S S' : Sw) (r : Int) : Prop := ((0 ≤ s ∧ s ≤ 9999 ∧ 1 ≤ n ∧ n ≤ 30 ∧ S 1 6 ≠ 0) ∧ S' = dyS n.toNat (nwX (4 * s + 29)) (sc 0 (fPl ((4 * s + 29) % S 1 6) ((4 * s + 29) % 4) (fKp S))) ∧ r = S' 16 2) ∨ (¬ (0 ≤ s ∧ s ≤ 9999 ∧ 1 ≤ n ∧ n ≤ 30 ∧ S 1 6 ≠ 0) ∧ S' = S ∧ r = -1)
/-- a clause of a text that is played: word and up to four numbers -/
def DoS (w a b c d : Int) (S S' : Sw) (ok : Int) : Prop :=
  (w = 5 ∧ ∃ r, CornerS a S S' r ∧ ((r = -1 ∧ ok = 0) ∨ (r ≠ -1 ∧ ok = 1))) ∨ (w = 6 ∧ StreetS a b c 0 S S' ok) ∨ (w = 7 ∧ StreetS a b c 1 S S' ok) ∨ (w = 8 ∧ GoalS a S S' ok) ∨ (w = 9 ∧ ∃ r, TellerS a 0 0 0 S S' r ∧ ((r = -1 ∧ ok = 0) ∨ (r ≠ -1 ∧ ok = 1))) ∨ (w = 10 ∧ ∃ r, TellingS a b c d S S' r ∧ ((r = -1 ∧ ok = 0) ∨ (r ≠ -1 ∧ ok = 1))) ∨ (w = 11 ∧ StartS a b S S' ok) ∨ (w = 12 ∧ S' = (goS a.toNat S).1 ∧ ok = (goS a.toNat S).2) ∨ (w = 13 ∧ ∃ r, TurnS a S S' r ∧ ((r = -1 ∧ ok = 0) ∨ (r ≠ -1 ∧ ok = 1))) ∨ (w = 14 ∧ ∃ r, AskS a S S' r ∧ ((r = -1 ∧ ok = 0) ∨ (r ≠ -1 ∧ ok = 1))) ∨ (w = 15 ∧ ∃ r, FollowS a S S' r ∧ ((r = -1 ∧ ok = 0) ∨ (r ≠ -1 ∧ ok = 1))) ∨ (¬ (5 ≤ w ∧ w ≤ 15) ∧ S' = S ∧ ok = 1)
/-- the clauses from the i-th on: the first that can't be, or -1 -/
def PlS (f : Nat → Int) : Nat → Int → Sw → Sw → Int → Prop
  | 0, _, S, S', r => S' = S ∧ r = -1
  | n + 1, i, S, S', r => ∃ (S1 : Sw) (ok : Int), DoS (f (5 * i).toNat) (f (5 * i + 1).toNat) (f (5 * i + 2).toNat) (f (5 * i + 3).toNat) (f (5 * i + 4).toNat) S S1 ok ∧ ((ok = 0 ∧ S' = S1 ∧ r = i) ∨ (ok = 1 ∧ PlS f n (i + 1) S1 S' r))
def wfG (S : Sw) (t : Int) : Prop := 0 ≤ t ∧ t < S 1 9 ∧ S 6 (9 * t + 2).toNat ≤ 6 ∧ ∀ i : Int, 0 ≤ i → i < S 6 (9 * t + 2).toNat → 0 ≤ S 6 (9 * t + 3 + i).toNat ∧ S 6 (9 * t + 3 + i).toNat ≤ 399
theorem gTk_0 {S : Sw} {P : Int → Prop} {n : Nat} {k : Int} {g : Gw} (h : k ≤ 0) : gTk S P (n + 1) k g = (g, true) := if_pos h
theorem gTk_f {S : Sw} {P : Int → Prop} {n : Nat} {k : Int} {g : Gw} (h : ¬ k ≤ 0) (h2 : gNo S g) : gTk S P (n + 1) k g = (g, false) := (if_neg h).trans (if_pos h2)
theorem gTk_y {S : Sw} {P : Int → Prop} {n : Nat} {k : Int} {g : Gw} (h : ¬ k ≤ 0) (h2 : ¬ gNo S g) (h3 : P (gNx S g).1) : gTk S P (n + 1) k g = gTk S P n (k - 1) (gNx S g) := by
  refine (if_neg h).trans ((if_neg h2).trans ?_)
  rw [if_pos h3]
theorem gTk_n {S : Sw} {P : Int → Prop} {n : Nat} {k : Int} {g : Gw} (h : ¬ k ≤ 0) (h2 : ¬ gNo S g) (h3 : ¬ P (gNx S g).1) : gTk S P (n + 1) k g = gTk S P n k (gNx S g) := by
  refine (if_neg h).trans ((if_neg h2).trans ?_)
  rw [if_neg h3]
theorem gOn_y {S : Sw} {g : Gw} (h : ¬ gNo S g) : gOn S g = (gNx S g, true) := if_neg h
theorem gOn_n {S : Sw} {g : Gw} (h : gNo S g) : gOn S g = (g, false) := if_pos h
theorem gTu_y {S : Sw} {t la : Int} {g q : Gw} {d : Int} (hd : d = if t / 10 % 10 = 1 then 1 else t % 10) (h : gTk S (gCt S t (sdS g.2.1 (t / 100)) la) (41 - g.2.2.1).toNat d g = (q, true)) (h2 : t / 100 = 3 ∨ cntS S q.1 (sdS g.2.1 (t / 100)) la) : gTu S t la g = ((q.1, sdS g.2.1 (t / 100), q.2.2), true) := by
  subst hd
  unfold gTu
  rw [h]
  exact if_pos ⟨rfl, h2⟩
theorem gTu_n {S : Sw} {t la : Int} {g q : Gw} {d : Int} (hd : d = if t / 10 % 10 = 1 then 1 else t % 10) (h : gTk S (gCt S t (sdS g.2.1 (t / 100)) la) (41 - g.2.2.1).toNat d g = (q, true)) (h2 : ¬ (t / 100 = 3 ∨ cntS S q.1 (sdS g.2.1 (t / 100)) la)) : gTu S t la g = (q, false) := by
  subst hd
  unfold gTu
  rw [h]
  exact if_neg (fun e => h2 e.2)
theorem gTu_f {S : Sw} {t la : Int} {g q : Gw} {d : Int} (hd : d = if t / 10 % 10 = 1 then 1 else t % 10) (h : gTk S (gCt S t (sdS g.2.1 (t / 100)) la) (41 - g.2.2.1).toNat d g = (q, false)) : gTu S t la g = (q, false) := by
  subst hd
  unfold gTu
  rw [h]
  exact if_neg (fun e => Bool.false_ne_true e.1)
theorem gTs_b {S : Sw} {t s b i w : Int} {n : Nat} {g : Gw} (h : i = b) : gTs S t s b (n + 1) i w g = gTs S t s b n (i + 1) w g := if_pos h
theorem gTs_y {S : Sw} {t s b i w m : Int} {n : Nat} {g q : Gw} (h : ¬ i = b) (hm : m = mnS (S 6 (9 * t + 3 + i).toNat) s) (h2 : gTu S m (laS s) g = (q, true)) : gTs S t s b (n + 1) i w g = gTs S t s b n (i + 1) (m / 100) q := by
  subst hm
  refine (if_neg h).trans ?_
  rw [h2]
  exact if_pos rfl
theorem gTs_f {S : Sw} {t s b i w m : Int} {n : Nat} {g q : Gw} (h : ¬ i = b) (hm : m = mnS (S 6 (9 * t + 3 + i).toNat) s) (h2 : gTu S m (laS s) g = (q, false)) : gTs S t s b (n + 1) i w g = (q, false) := by
  subst hm
  refine (if_neg h).trans ?_
  rw [h2]
  exact if_neg Bool.false_ne_true
/-- where a going is, in the class -/
noncomputable def gW (M : Mem) : Gw := (mI M 32 2, mI M 32 3, mI M 32 4, smP (cS M) (mI M 33) (mI M 32 4).toNat)
def wfA (S : Sw) : Prop := ∀ t : Int, 0 ≤ t → t < S 1 9 → wfG S t
theorem wfA_co {S S' : Sw} (h : wfA S) (h9 : S' 1 9 = S 1 9) (h6 : ∀ j : Nat, (j : Int) < 9 * S 1 9 → S' 6 j = S 6 j) : wfA S' := fun t t0 t1 => by
  rw [h9] at t1
  obtain ⟨a, b, c, d⟩ := h t t0 t1
  have e2 := h6 (9 * t + 2).toNat (by omega)
  refine ⟨a, by rw [h9]; exact b, by rw [e2]; exact c, fun i i0 i1 => ?_⟩
  rw [e2] at i1
  rw [h6 (9 * t + 3 + i).toNat (by omega)]
  exact d i i0 i1
theorem fKp_o {S : Sw} {k j : Nat} (h : k ≠ 15) (h2 : k ≠ 17) : fKp S k j = S k j := by
  unfold fKp cpK
  rw [up_ne (fun e => h e.1), up_ne (fun e => h e.1)]
  exact if_neg (fun e => h2 e.1)
theorem wfA_kp {S : Sw} (h : wfA S) : wfA (fKp S) := wfA_co h (fKp_o (by decide) (by decide)) (fun _ _ => fKp_o (by decide) (by decide))
/-! the laws stay -/
def Lk (S S' : Sw) : Prop := (S' 1 10 = S 1 10 ∧ S' 1 11 = S 1 11) ∧ ∀ k j : Nat, 1000 ≤ k → S' k j = S k j
theorem Lk.refl (S : Sw) : Lk S S := ⟨⟨rfl, rfl⟩, fun _ _ _ => rfl⟩
theorem Lk.trans {A B C : Sw} (h : Lk A B) (g : Lk B C) : Lk A C := ⟨⟨g.1.1.trans h.1.1, g.1.2.trans h.1.2⟩, fun k j hk => (g.2 k j hk).trans (h.2 k j hk)⟩
theorem Lk.up {S : Sw} {k j : Nat} {v : Int} (hk : k < 1000) (h : k ≠ 1 ∨ (j ≠ 10 ∧ j ≠ 11)) : Lk S (up S k j v) := ⟨⟨up_ne (by omega), up_ne (by omega)⟩, fun a b ha => up_ne (by omega)⟩
theorem Lk.fr {S S' : Sw} (h : ∀ k j : Nat, ¬ (2 ≤ k ∧ k < 1000) → S' k j = S k j) : Lk S S' := ⟨⟨h 1 10 (by omega), h 1 11 (by omega)⟩, fun k j hk => h k j (by omega)⟩
theorem Lk.kp {S : Sw} : Lk S (fKp S) := Lk.fr (fun k j hk => fKp_o (by omega) (by omega))
theorem Lk.pl {S : Sw} {c f : Int} : Lk S (fPl c f S) := (Lk.up (by decide) (Or.inl (by decide))).trans (Lk.up (by decide) (Or.inl (by decide)))
theorem Lk.sc {S : Sw} {v : Int} : Lk S (sc v S) := Lk.up (by decide) (Or.inl (by decide))
theorem Lk.ah {S : Sw} : Lk S (fAh S) := Lk.pl.trans Lk.sc
theorem Lk.he {S : Sw} {t : Int} : Lk S (fHe t S) := Lk.sc.trans (Lk.up (by decide) (Or.inl (by decide)))
theorem Lk.fa {S : Sw} {w : Int} : Lk S (fFa w S) := Lk.up (by decide) (Or.inl (by decide))
theorem Lk.bk {S : Sw} : Lk S (fBk S) := by
  unfold fBk
  refine ⟨⟨?_, ?_⟩, fun k j hk => ?_⟩
  · unfold cpB; rw [if_neg (fun e => by omega), up_ne (by decide), up_ne (by decide)]
  · unfold cpB; rw [if_neg (fun e => by omega), up_ne (by decide), up_ne (by decide)]
  · unfold cpB; rw [if_neg (fun e => by omega), up_ne (by omega), up_ne (by omega)]
theorem wfL.lk {S S' : Sw} (h : wfL S) (g : Lk S S') : wfL S' := wfL_co h g.1.1 g.2
theorem Lk.go : ∀ (n : Nat) (S : Sw), Lk S (goS n S).1
  | 0, S => Lk.refl S
  | n + 1, S => by
    unfold goS
    split
    · exact Lk.refl S
    · exact (Lk.kp.trans Lk.ah).trans (Lk.go n _)
theorem Lk.hl : ∀ (n : Nat) (t : Int) (S : Sw), Lk S (hlS n t S)
  | 0, _, S => Lk.refl S
  | n + 1, t, S => by
    unfold hlS
    split
    · exact Lk.he
    · exact Lk.hl n (t + 1) S
theorem Lk.dr {S : Sw} {w : Int} : Lk S (drS w S) := by
  unfold drS
  split
  · exact Lk.fa
  · split
    · exact Lk.hl _ _ _
    · split
      · exact Lk.ah
      · exact Lk.fa
theorem Lk.dy : ∀ (n : Nat) (x : Int) (S : Sw), Lk S (dyS n x S)
  | 0, _, _ => Lk.up (by decide) (Or.inl (by decide))
  | n + 1, x, S => Lk.dr.trans (Lk.dy n (nwX x) _)
/-- the street that is gone, on the path -/
theorem gW_on {M N : Mem} (hcs : cS N = cS M) (h40 : 0 ≤ mI M 32 4) (h4 : mI N 32 4 = mI M 32 4 + 1) (hp : ∀ i : Nat, i < (mI M 32 4).toNat → mI N 33 i = mI M 33 i) (hv : mI N 33 (mI M 32 4).toNat = wI (wI (4 * mI M 32 2) + mI M 32 3)) (h2 : mI N 32 2 = ahS (cS M) (mI M 32 2) (mI M 32 3)) (h3 : mI N 32 3 = mI M 32 3) : gNx (cS M) (gW M) = gW N := by
  unfold gNx gW
  rw [h2, h3, h4, hcs, show (mI M 32 4 + 1).toNat = (mI M 32 4).toNat + 1 by omega]
  have e : smP (cS M) (mI N 33) ((mI M 32 4).toNat + 1) = wI (smP (cS M) (mI M 33) (mI M 32 4).toNat + paP (cS M) (mI M 32 2) (mI M 32 3)) := by
    show wI (smP (cS M) (mI N 33) (mI M 32 4).toNat + paS (cS M) (mI N 33 (mI M 32 4).toNat / 4) (mI N 33 (mI M 32 4).toNat % 4)) = _
    rw [hv, smP_co _ hp]
    rfl
  rw [e]
theorem gW_f {M : Mem} {x : Int} : gW (sI M 32 3 x) = ((gW M).1, x, (gW M).2.2) := by
  unfold gW
  rw [cS_o rfl rfl]
  rfl
theorem wI_wI {a b : Int} : wI (wI a + b) = wI (a + b) := by
  unfold wI
  exact Int.bmod_add_bmod
theorem wI_r {a b : Int} : wI (a + wI b) = wI (a + b) := by rw [Int.add_comm, wI_wI, Int.add_comm]
