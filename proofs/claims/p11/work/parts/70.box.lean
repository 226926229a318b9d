/-! THE BOX: ranges that hold at every step (written by wip/p35/box.py) -/
/-- a place of the reference's row a -/
def aB (j : Nat) (v : Int) : Prop :=
  (j = 0 → 0 ≤ v ∧ v ≤ 16) ∧ (j = 1 → -1 ≤ v ∧ v ≤ 15) ∧ (j = 2 → 0 ≤ v ∧ v ≤ 6) ∧ (j = 3 → 0 ≤ v ∧ v ≤ 8) ∧ (j = 4 → 0 ≤ v ∧ v ≤ 40025) ∧ (j = 5 → 0 ≤ v ∧ v ≤ 4) ∧ (j = 6 → -1 ≤ v ∧ v ≤ 3) ∧ (j = 7 → 0 ≤ v ∧ v ≤ 30) ∧ (j = 256 → -1 ≤ v ∧ v ≤ 15) ∧ (j = 257 → 0 ≤ v ∧ v ≤ 3) ∧
  (10 ≤ j → j < 154 → 1 ≤ (j - 10) % 9 → (j - 10) % 9 ≤ 4 → -1 ≤ v ∧ v ≤ 15) ∧ (154 ≤ j → j < 184 → (j - 154) % 5 = 0 → 0 ≤ v ∧ v ≤ 15) ∧ (184 ≤ j → j < 256 → (j - 184) % 9 = 0 → 0 ≤ v ∧ v ≤ 5) ∧ (184 ≤ j → j < 256 → (j - 184) % 9 = 1 → 0 ≤ v ∧ v ≤ 3) ∧ (184 ≤ j → j < 256 → (j - 184) % 9 = 2 → 0 ≤ v ∧ v ≤ 6) ∧
  (259 ≤ j → j < 589 → (j - 259) % 11 = 1 → -1 ≤ v ∧ v ≤ 15) ∧ (259 ≤ j → j < 589 → (j - 259) % 11 = 2 → 0 ≤ v ∧ v ≤ 3) ∧ (259 ≤ j → j < 589 → (j - 259) % 11 = 10 → 0 ≤ v ∧ v ≤ 40025)
def bxI (k j : Nat) (v : Int) : Prop := match k with
  | 0 => (j = 13 → 0 ≤ v ∧ v ≤ 300)
  | 1 => (j = 6 → 0 ≤ v ∧ v ≤ 16) ∧ (j = 7 → (-1) ≤ v ∧ v ≤ 15) ∧ (j = 8 → 0 ≤ v ∧ v ≤ 6) ∧ (j = 9 → 0 ≤ v ∧ v ≤ 8) ∧ (j = 10 → 0 ≤ v ∧ v ≤ 4)
  | 3 => (-1) ≤ v ∧ v ≤ 15
  | 8 => (j = 6 → 0 ≤ v ∧ v ≤ 16) ∧ (j = 7 → (-1) ≤ v ∧ v ≤ 15) ∧ (j = 8 → 0 ≤ v ∧ v ≤ 6) ∧ (j = 9 → 0 ≤ v ∧ v ≤ 8) ∧ (j = 10 → 0 ≤ v ∧ v ≤ 4)
  | 10 => (-1) ≤ v ∧ v ≤ 15
  | 15 => (j = 2 → 0 ≤ v ∧ v ≤ 30) ∧ (j = 3 → 0 ≤ v ∧ v ≤ 29)
  | 18 => (j = 2 → 0 ≤ v ∧ v ≤ 30) ∧ (j = 3 → 0 ≤ v ∧ v ≤ 29)
  | 22 => (j = 9 → (-1) ≤ v ∧ v ≤ 300) ∧ (j = 12 → 0 ≤ v ∧ v ≤ 300) ∧ (j = 13 → 0 ≤ v ∧ v ≤ 24)
  | 24 => (-1) ≤ v ∧ v ≤ 300
  | 32 => (j = 4 → 0 ≤ v ∧ v ≤ 40)
  | 40 => (j = 9 → 0 ≤ v ∧ v ≤ 5)
  | 43 => 0 ≤ v ∧ v ≤ 15
  | 52 => 0 ≤ v ∧ v ≤ 63
  | 53 => 0 ≤ v ∧ v ≤ 63
  | 54 => (j = 4 → 0 ≤ v ∧ v ≤ 6) ∧ (j = 6 → 0 ≤ v ∧ v ≤ 300) ∧ (j = 9 → 0 ≤ v ∧ v ≤ 300) ∧ (j = 10 → 0 ≤ v ∧ v ≤ 300) ∧ (j = 14 → 0 ≤ v ∧ v ≤ 2619) ∧ (j = 15 → 0 ≤ v ∧ v ≤ 300) ∧ (j = 18 → 0 ≤ v ∧ v ≤ 160) ∧ (j = 24 → 0 ≤ v ∧ v ≤ 15) ∧ (j = 25 → 0 ≤ v ∧ v ≤ 3) ∧ (j = 27 → 0 ≤ v ∧ v ≤ 40) ∧ (j = 32 → 0 ≤ v ∧ v ≤ 6) ∧ (j = 43 → 0 ≤ v ∧ v ≤ 5)
  | 55 => aB j v
  | 56 => aB j v
  | 70 => 0 ≤ v ∧ v ≤ 15
  | 71 => 0 ≤ v ∧ v ≤ 4
  | 72 => 0 ≤ v ∧ v ≤ 4
  | 74 => (-1) ≤ v ∧ v ≤ 3
  | _ => True
/-- relations in a row a: what has been told leads to what has been told, a telling has a turn, the text that rules is one -/
def relA (f : Nat → Int) : Prop := (∀ c d : Nat, (c : Int) < f 0 → d < 4 → f (10 + 9 * c + 1 + d) < f 0) ∧ (∀ t : Nat, (t : Int) < f 3 → 1 ≤ f (184 + 9 * t + 2)) ∧ f 6 < f 5
/-- the code of a law: the values that wait never fall short -/
def wfC (f : Nat → Int) : Nat → Nat → Nat → Prop
  | 0, _, _ => True
  | n + 1, j, d => if f j ≤ 1 then (0 ≤ f j ∧ (f j = 1 → 0 ≤ f (j + 1) ∧ f (j + 1) ≤ 8)) ∧ wfC f n (j + 2) (d + 1) else if f j = 2 then 1 ≤ d ∧ wfC f n (j + 2) d else 2 ≤ d ∧ wfC f n (j + 2) (d - 1)
/-- a clause of a text that was read -/
def wfK (f : Nat → Int) (b x : Nat) : Prop := (f x = 10 → 1 ≤ f (x + 3) ∧ f (x + 3) ≤ 6 ∧ 0 ≤ f (x + 2) ∧ f (x + 2) ≤ 3) ∧ (0 ≤ f x → f x ≤ 4 → 0 ≤ f (x + 1) ∧ f (x + 1) ≤ f (x + 2) ∧ f (x + 2) ≤ 300 ∧ wfC f (f (x + 2) - f (x + 1)).toNat (b + 265 + 2 * (f (x + 1)).toNat) 0)
/-- a text that was read -/
def wfT (f : Nat → Int) (t : Nat) : Prop := 0 ≤ f (873 * t) ∧ f (873 * t) ≤ 24 ∧ ∀ k : Nat, (k : Int) < f (873 * t) → wfK f (873 * t) (873 * t + 1 + 11 * k)
def relR (M : Mem) : Prop := relA (mI M 55) ∧ relA (mI M 56) ∧ mI M 56 5 ≤ mI M 55 5 ∧ ∀ t : Nat, (t : Int) < mI M 55 5 → wfT (mI M 57) t
/-- a text as the class keeps it -/
def TxO (M : Mem) (y : Nat) : Prop := 75 ≤ y ∧ M.1[y]? = some (.inl 5) ∧ (0 ≤ mI M y 3 ∧ mI M y 3 ≤ 24) ∧ ∃ a b c n m : Nat, mR M y 0 = some a ∧ mR M y 1 = some b ∧ mR M y 2 = some c ∧ 75 ≤ a ∧ 75 ≤ b ∧ 75 ≤ c ∧ M.1[a]? = some (.inr (0, n)) ∧ M.1[b]? = some (.inr (0, 10)) ∧ M.1[c]? = some (.inr (0, m)) ∧ n ≤ 300 ∧ m ≤ 300 ∧ ∀ j, -1 ≤ mI M b j ∧ mI M b j ≤ 300
def TxA (M : Mem) : Prop := ∀ (k j y : Nat), (k = 7 ∨ k = 14) → mR M k j = some y → TxO M y
def Box (M : Mem) : Prop := St M ∧ (∀ k j, bxI k j (mI M k j)) ∧ TxA M ∧ relR M
/-- cells that came later are as they were -/
def Dz (M0 M : Mem) : Prop := M0.1.length ≤ M.1.length ∧ ∀ k, 75 ≤ k → k < M0.1.length → M.1[k]? = M0.1[k]? ∧ (∀ j, mI M k j = mI M0 k j) ∧ ∀ j, mR M k j = mR M0 k j
def BX (M0 M : Mem) : Prop := Box M ∧ Dz M0 M
theorem Dz.refl (M : Mem) : Dz M M := ⟨Nat.le_refl _, fun _ _ _ => ⟨rfl, fun _ => rfl, fun _ => rfl⟩⟩
theorem Dz.trans {A B C : Mem} (h1 : Dz A B) (h2 : Dz B C) : Dz A C := ⟨Nat.le_trans h1.1 h2.1, fun k a b => by
  obtain ⟨p1, p2, p3⟩ := h1.2 k a b
  obtain ⟨q1, q2, q3⟩ := h2.2 k a (Nat.lt_of_lt_of_le b h1.1)
  exact ⟨q1.trans p1, fun j => (q2 j).trans (p2 j), fun j => (q3 j).trans (p3 j)⟩⟩
theorem BX.start {M : Mem} (h : Box M) : BX M M := ⟨h, Dz.refl M⟩
theorem BX.go {A B C : Mem} (h1 : BX A B) (h2 : BX B C) : BX A C := ⟨h2.1, h1.2.trans h2.2⟩
theorem TxO.dz {A B : Mem} {y : Nat} (h : TxO A y) (hd : Dz A B) : TxO B y := by
  obtain ⟨h1, h2, h3, a, b, c, n, m, r1, r2, r3, a1, b1, c1, s1, s2, s3, n1, m1, hv⟩ := h
  have ly := (List.getElem?_eq_some_iff.mp h2).1
  have la := (List.getElem?_eq_some_iff.mp s1).1
  have lb := (List.getElem?_eq_some_iff.mp s2).1
  have lc := (List.getElem?_eq_some_iff.mp s3).1
  obtain ⟨y1, y2, y3⟩ := hd.2 y h1 ly
  refine ⟨h1, y1.trans h2, by rw [y2 3]; exact h3, a, b, c, n, m, (y3 0).trans r1, (y3 1).trans r2, (y3 2).trans r3, a1, b1, c1, ((hd.2 a a1 la).1).trans s1, ((hd.2 b b1 lb).1).trans s2, ((hd.2 c c1 lc).1).trans s3, n1, m1, fun j => ?_⟩
  rw [(hd.2 b b1 lb).2.1 j]
  exact hv j
theorem Dz.sI {A B : Mem} (h : Dz A B) {k j : Nat} {v : Int} (hk : k < 75) : Dz A (sI B k j v) := ⟨h.1, fun q a b => by
  obtain ⟨p1, p2, p3⟩ := h.2 q a b
  refine ⟨p1, fun i => ?_, p3⟩
  rw [mI_sI, if_neg (fun e => by omega)]
  exact p2 i⟩
theorem Dz.sJ {A B : Mem} (h : Dz A B) {k j : Nat} {v : Int} : Dz A (sJ B k j v) := h
theorem Dz.sR {A B : Mem} (h : Dz A B) {k j : Nat} {v : Option Nat} (hk : k < 75) : Dz A (sR B k j v) := ⟨h.1, fun q a b => by
  obtain ⟨p1, p2, p3⟩ := h.2 q a b
  refine ⟨p1, p2, fun i => ?_⟩
  rw [mR_sR, if_neg (fun e => by omega)]
  exact p3 i⟩
theorem Dz.cp {A B : Mem} (h : Dz A B) {k f d s n : Nat} (hk : k < 75) : Dz A (cpI B k f d s n) := ⟨h.1, fun q a b => by
  obtain ⟨p1, p2, p3⟩ := h.2 q a b
  refine ⟨p1, fun i => ?_, p3⟩
  rw [mI_cpI, if_neg (fun e => by omega)]
  exact p2 i⟩
theorem Dz.sh {A B : Mem} (h : Dz A B) {k : Nat} {x : Sh} (hk : 75 ≤ k) (hs : A.1[k]? = some x) : B.1[k]? = some x := ((h.2 k hk (List.getElem?_eq_some_iff.mp hs).1).1).trans hs
theorem Dz.rf {A B : Mem} (h : Dz A B) {k : Nat} {x : Sh} (hk : 75 ≤ k) (hs : A.1[k]? = some x) (j : Nat) : mR B k j = mR A k j := (h.2 k hk (List.getElem?_eq_some_iff.mp hs).1).2.2 j
theorem Dz.vl {A B : Mem} (h : Dz A B) {k : Nat} {x : Sh} (hk : 75 ≤ k) (hs : A.1[k]? = some x) {j : Nat} : mI B k j = mI A k j := (h.2 k hk (List.getElem?_eq_some_iff.mp hs).1).2.1 j
theorem TxA.same {A B : Mem} (h : TxA A) (hd : Dz A B) (hr : ∀ k j, (k = 7 ∨ k = 14) → mR B k j = mR A k j) : TxA B := fun k j y hk e => (h k j y hk (by rw [← hr k j hk]; exact e)).dz hd
theorem bx_sI {M : Mem} {k j : Nat} {v : Int} (h : ∀ a b, bxI a b (mI M a b)) (hv : bxI k j v) : ∀ a b, bxI a b (mI (sI M k j v) a b) := by
  intro a b
  rw [mI_sI]
  split
  · rename_i e
    rw [e.1, e.2]
    exact hv
  · exact h a b
/-- a write to a cell that the relations don't speak of -/
theorem BX.I {M0 M : Mem} (h : BX M0 M) {k j : Nat} {v : Int} (hk : k < 75) (hv : bxI k j v) (hn : (k = 55 ∨ k = 56 ∨ k = 57) = False) : BX M0 (sI M k j v) := by
  obtain ⟨⟨h1, h2, h3, h4⟩, hd⟩ := h
  have n5 : k ≠ 55 := fun e => by rw [← hn]; exact Or.inl e
  have n6 : k ≠ 56 := fun e => by rw [← hn]; exact Or.inr (Or.inl e)
  have n7 : k ≠ 57 := fun e => by rw [← hn]; exact Or.inr (Or.inr e)
  have e5 : mI (sI M k j v) 55 = mI M 55 := funext fun b => by rw [mI_sI, if_neg (fun e => n5 e.1.symm)]
  have e6 : mI (sI M k j v) 56 = mI M 56 := funext fun b => by rw [mI_sI, if_neg (fun e => n6 e.1.symm)]
  have e7 : mI (sI M k j v) 57 = mI M 57 := funext fun b => by rw [mI_sI, if_neg (fun e => n7 e.1.symm)]
  refine ⟨⟨h1, bx_sI h2 hv, h3.same ((Dz.refl M).sI hk) (fun _ _ _ => rfl), ?_⟩, hd.sI hk⟩
  unfold relR
  rw [e5, e6, e7]
  exact h4
theorem BX.J {M0 M : Mem} (h : BX M0 M) (k j : Nat) (v : Int) : BX M0 (sJ M k j v) := ⟨⟨h.1.1, h.1.2.1, h.1.2.2.1.same (Dz.refl M) (fun _ _ _ => rfl), h.1.2.2.2⟩, h.2⟩
theorem bx_cp {M : Mem} {k f d s n : Nat} (h : ∀ a b, bxI a b (mI M a b)) (hv : ∀ j i, bxI k j (mI M f i)) : ∀ a b, bxI a b (mI (cpI M k f d s n) a b) := by
  intro a b
  rw [mI_cpI]
  split
  · rename_i e
    rw [e.1]
    exact hv _ _
  · exact h a b
theorem BX.C {M0 M : Mem} (h : BX M0 M) {k f d s n : Nat} (hk : k < 75) (hv : ∀ j i, bxI k j (mI M f i)) (hn : (k = 55 ∨ k = 56 ∨ k = 57) = False) : BX M0 (cpI M k f d s n) := by
  obtain ⟨⟨h1, h2, h3, h4⟩, hd⟩ := h
  have n5 : k ≠ 55 := fun e => by rw [← hn]; exact Or.inl e
  have n6 : k ≠ 56 := fun e => by rw [← hn]; exact Or.inr (Or.inl e)
  have n7 : k ≠ 57 := fun e => by rw [← hn]; exact Or.inr (Or.inr e)
  have e5 : mI (cpI M k f d s n) 55 = mI M 55 := funext fun b => by rw [mI_cpI, if_neg (fun e => n5 e.1.symm)]
  have e6 : mI (cpI M k f d s n) 56 = mI M 56 := funext fun b => by rw [mI_cpI, if_neg (fun e => n6 e.1.symm)]
  have e7 : mI (cpI M k f d s n) 57 = mI M 57 := funext fun b => by rw [mI_cpI, if_neg (fun e => n7 e.1.symm)]
  refine ⟨⟨h1, bx_cp h2 hv, h3.same ((Dz.refl M).cp hk) (fun _ _ _ => rfl), ?_⟩, hd.cp hk⟩
  unfold relR
  rw [e5, e6, e7]
  exact h4
theorem BX.T {M0 M : Mem} (h : BX M0 M) {k : Nat} (hk : k = 7 ∨ k = 14) (j : Nat) {v : Option Nat} (hv : ∀ y, v = some y → TxO M y) : BX M0 (sR M k j v) := by
  obtain ⟨⟨h1, h2, h3, h4⟩, hd⟩ := h
  have hlt : k < 75 := by omega
  refine ⟨⟨?_, h2, ?_, h4⟩, hd.sR hlt⟩
  · rcases hk with rfl | rfl
    · exact St.T7 h1 j v
    · exact St.T14 h1 j v
  · intro a b y ha e
    rw [mR_sR] at e
    split at e
    · exact (hv y e).dz ((Dz.refl M).sR hlt)
    · exact (h3 a b y ha e).dz ((Dz.refl M).sR hlt)
theorem BX.T7 {M0 M : Mem} (h : BX M0 M) (j : Nat) {v : Option Nat} (hv : ∀ y, v = some y → TxO M y) : BX M0 (sR M 7 j v) := h.T (Or.inl rfl) j hv
theorem BX.T14 {M0 M : Mem} (h : BX M0 M) (j : Nat) {v : Option Nat} (hv : ∀ y, v = some y → TxO M y) : BX M0 (sR M 14 j v) := h.T (Or.inr rfl) j hv
theorem BX.tx {M0 M : Mem} (h : BX M0 M) {k j : Nat} (hk : k = 7 ∨ k = 14) {v : Option Nat} (e : v = mR M k j) : ∀ y, v = some y → TxO M y := fun y hy => h.1.2.2.1 k j y hk (e ▸ hy)
theorem minZ_bd (x y : Int) : minZ x y ≤ x ∧ minZ x y ≤ y ∧ (minZ x y = x ∨ minZ x y = y) := by unfold minZ; split <;> omega
theorem maxZ_bd (x y : Int) : x ≤ maxZ x y ∧ y ≤ maxZ x y ∧ (maxZ x y = x ∨ maxZ x y = y) := by unfold maxZ; split <;> omega
theorem kp_cp {A B : Mem} {q k f d s n : Nat} (h : mI B q = mI A q) (hn : (q == k) = false) : mI (cpI B k f d s n) q = mI A q := by
  rw [← h]
  funext b
  rw [mI_cpI, if_neg (fun e => by rw [e.1] at hn; simp at hn)]
/-- what stays -/
theorem kp_sI {A B : Mem} {q k j : Nat} {v : Int} (h : mI B q = mI A q) (hn : (q == k) = false) : mI (sI B k j v) q = mI A q := by
  rw [← h]
  funext b
  rw [mI_sI, if_neg (fun e => by rw [e.1] at hn; simp at hn)]
theorem kp_sJ {A B : Mem} {q k j : Nat} {v : Int} (h : mI B q = mI A q) : mI (sJ B k j v) q = mI A q := h
theorem kp_go {A B C : Mem} {q : Nat} (h : mI B q = mI A q) (h2 : mI C q = mI B q) : mI C q = mI A q := h2.trans h
theorem b0_13 {M : Mem} (h : Box M) : 0 ≤ mI M 0 13 ∧ mI M 0 13 ≤ 300 := (h.2.1 0 13) rfl
theorem b1_6 {M : Mem} (h : Box M) : 0 ≤ mI M 1 6 ∧ mI M 1 6 ≤ 16 := (h.2.1 1 6).1 rfl
theorem b1_7 {M : Mem} (h : Box M) : (-1) ≤ mI M 1 7 ∧ mI M 1 7 ≤ 15 := (h.2.1 1 7).2.1 rfl
theorem b1_8 {M : Mem} (h : Box M) : 0 ≤ mI M 1 8 ∧ mI M 1 8 ≤ 6 := (h.2.1 1 8).2.2.1 rfl
theorem b1_9 {M : Mem} (h : Box M) : 0 ≤ mI M 1 9 ∧ mI M 1 9 ≤ 8 := (h.2.1 1 9).2.2.2.1 rfl
theorem b1_10 {M : Mem} (h : Box M) : 0 ≤ mI M 1 10 ∧ mI M 1 10 ≤ 4 := (h.2.1 1 10).2.2.2.2 rfl
theorem b8_6 {M : Mem} (h : Box M) : 0 ≤ mI M 8 6 ∧ mI M 8 6 ≤ 16 := (h.2.1 8 6).1 rfl
theorem b8_7 {M : Mem} (h : Box M) : (-1) ≤ mI M 8 7 ∧ mI M 8 7 ≤ 15 := (h.2.1 8 7).2.1 rfl
theorem b8_8 {M : Mem} (h : Box M) : 0 ≤ mI M 8 8 ∧ mI M 8 8 ≤ 6 := (h.2.1 8 8).2.2.1 rfl
theorem b8_9 {M : Mem} (h : Box M) : 0 ≤ mI M 8 9 ∧ mI M 8 9 ≤ 8 := (h.2.1 8 9).2.2.2.1 rfl
theorem b8_10 {M : Mem} (h : Box M) : 0 ≤ mI M 8 10 ∧ mI M 8 10 ≤ 4 := (h.2.1 8 10).2.2.2.2 rfl
theorem b15_2 {M : Mem} (h : Box M) : 0 ≤ mI M 15 2 ∧ mI M 15 2 ≤ 30 := (h.2.1 15 2).1 rfl
theorem b15_3 {M : Mem} (h : Box M) : 0 ≤ mI M 15 3 ∧ mI M 15 3 ≤ 29 := (h.2.1 15 3).2 rfl
theorem b18_2 {M : Mem} (h : Box M) : 0 ≤ mI M 18 2 ∧ mI M 18 2 ≤ 30 := (h.2.1 18 2).1 rfl
theorem b18_3 {M : Mem} (h : Box M) : 0 ≤ mI M 18 3 ∧ mI M 18 3 ≤ 29 := (h.2.1 18 3).2 rfl
theorem b22_9 {M : Mem} (h : Box M) : (-1) ≤ mI M 22 9 ∧ mI M 22 9 ≤ 300 := (h.2.1 22 9).1 rfl
theorem b22_12 {M : Mem} (h : Box M) : 0 ≤ mI M 22 12 ∧ mI M 22 12 ≤ 300 := (h.2.1 22 12).2.1 rfl
theorem b22_13 {M : Mem} (h : Box M) : 0 ≤ mI M 22 13 ∧ mI M 22 13 ≤ 24 := (h.2.1 22 13).2.2 rfl
theorem b32_4 {M : Mem} (h : Box M) : 0 ≤ mI M 32 4 ∧ mI M 32 4 ≤ 40 := (h.2.1 32 4) rfl
theorem b40_9 {M : Mem} (h : Box M) : 0 ≤ mI M 40 9 ∧ mI M 40 9 ≤ 5 := (h.2.1 40 9) rfl
theorem b54_4 {M : Mem} (h : Box M) : 0 ≤ mI M 54 4 ∧ mI M 54 4 ≤ 6 := (h.2.1 54 4).1 rfl
theorem b54_6 {M : Mem} (h : Box M) : 0 ≤ mI M 54 6 ∧ mI M 54 6 ≤ 300 := (h.2.1 54 6).2.1 rfl
theorem b54_9 {M : Mem} (h : Box M) : 0 ≤ mI M 54 9 ∧ mI M 54 9 ≤ 300 := (h.2.1 54 9).2.2.1 rfl
theorem b54_10 {M : Mem} (h : Box M) : 0 ≤ mI M 54 10 ∧ mI M 54 10 ≤ 300 := (h.2.1 54 10).2.2.2.1 rfl
theorem b54_14 {M : Mem} (h : Box M) : 0 ≤ mI M 54 14 ∧ mI M 54 14 ≤ 2619 := (h.2.1 54 14).2.2.2.2.1 rfl
theorem b54_15 {M : Mem} (h : Box M) : 0 ≤ mI M 54 15 ∧ mI M 54 15 ≤ 300 := (h.2.1 54 15).2.2.2.2.2.1 rfl
theorem b54_18 {M : Mem} (h : Box M) : 0 ≤ mI M 54 18 ∧ mI M 54 18 ≤ 160 := (h.2.1 54 18).2.2.2.2.2.2.1 rfl
theorem b54_24 {M : Mem} (h : Box M) : 0 ≤ mI M 54 24 ∧ mI M 54 24 ≤ 15 := (h.2.1 54 24).2.2.2.2.2.2.2.1 rfl
theorem b54_25 {M : Mem} (h : Box M) : 0 ≤ mI M 54 25 ∧ mI M 54 25 ≤ 3 := (h.2.1 54 25).2.2.2.2.2.2.2.2.1 rfl
theorem b54_27 {M : Mem} (h : Box M) : 0 ≤ mI M 54 27 ∧ mI M 54 27 ≤ 40 := (h.2.1 54 27).2.2.2.2.2.2.2.2.2.1 rfl
theorem b54_32 {M : Mem} (h : Box M) : 0 ≤ mI M 54 32 ∧ mI M 54 32 ≤ 6 := (h.2.1 54 32).2.2.2.2.2.2.2.2.2.2.1 rfl
theorem b54_43 {M : Mem} (h : Box M) : 0 ≤ mI M 54 43 ∧ mI M 54 43 ≤ 5 := (h.2.1 54 43).2.2.2.2.2.2.2.2.2.2.2 rfl
theorem bA3 {M : Mem} (h : Box M) (j : Nat) : (-1) ≤ mI M 3 j ∧ mI M 3 j ≤ 15 := h.2.1 3 j
theorem bA10 {M : Mem} (h : Box M) (j : Nat) : (-1) ≤ mI M 10 j ∧ mI M 10 j ≤ 15 := h.2.1 10 j
theorem bA24 {M : Mem} (h : Box M) (j : Nat) : (-1) ≤ mI M 24 j ∧ mI M 24 j ≤ 300 := h.2.1 24 j
theorem bA43 {M : Mem} (h : Box M) (j : Nat) : 0 ≤ mI M 43 j ∧ mI M 43 j ≤ 15 := h.2.1 43 j
theorem bA52 {M : Mem} (h : Box M) (j : Nat) : 0 ≤ mI M 52 j ∧ mI M 52 j ≤ 63 := h.2.1 52 j
theorem bA53 {M : Mem} (h : Box M) (j : Nat) : 0 ≤ mI M 53 j ∧ mI M 53 j ≤ 63 := h.2.1 53 j
theorem bA70 {M : Mem} (h : Box M) (j : Nat) : 0 ≤ mI M 70 j ∧ mI M 70 j ≤ 15 := h.2.1 70 j
theorem bA71 {M : Mem} (h : Box M) (j : Nat) : 0 ≤ mI M 71 j ∧ mI M 71 j ≤ 4 := h.2.1 71 j
theorem bA72 {M : Mem} (h : Box M) (j : Nat) : 0 ≤ mI M 72 j ∧ mI M 72 j ≤ 4 := h.2.1 72 j
theorem bA74 {M : Mem} (h : Box M) (j : Nat) : (-1) ≤ mI M 74 j ∧ mI M 74 j ≤ 3 := h.2.1 74 j
theorem BX.w0_13 {A M : Mem} (h : BX A M) {v : Int} (h1 : 0 ≤ v) (h2 : v ≤ 300) : BX A (sI M 0 13 v) := h.I (k := 0) (by decide) (fun _ => ⟨h1, h2⟩) (by simp)
theorem BX.w0_14 {A M : Mem} (h : BX A M) {v : Int} : BX A (sI M 0 14 v) := h.I (k := 0) (by decide) (fun e => absurd e (by decide)) (by simp)
theorem BX.w0_15 {A M : Mem} (h : BX A M) {v : Int} : BX A (sI M 0 15 v) := h.I (k := 0) (by decide) (fun e => absurd e (by decide)) (by simp)
theorem BX.w1_6 {A M : Mem} (h : BX A M) {v : Int} (h1 : 0 ≤ v) (h2 : v ≤ 16) : BX A (sI M 1 6 v) := h.I (k := 1) (by decide) (⟨fun _ => ⟨h1, h2⟩, fun e => absurd e (by decide), fun e => absurd e (by decide), fun e => absurd e (by decide), fun e => absurd e (by decide)⟩) (by simp)
theorem BX.w1_7 {A M : Mem} (h : BX A M) {v : Int} (h1 : (-1) ≤ v) (h2 : v ≤ 15) : BX A (sI M 1 7 v) := h.I (k := 1) (by decide) (⟨fun e => absurd e (by decide), fun _ => ⟨h1, h2⟩, fun e => absurd e (by decide), fun e => absurd e (by decide), fun e => absurd e (by decide)⟩) (by simp)
theorem BX.w1_8 {A M : Mem} (h : BX A M) {v : Int} (h1 : 0 ≤ v) (h2 : v ≤ 6) : BX A (sI M 1 8 v) := h.I (k := 1) (by decide) (⟨fun e => absurd e (by decide), fun e => absurd e (by decide), fun _ => ⟨h1, h2⟩, fun e => absurd e (by decide), fun e => absurd e (by decide)⟩) (by simp)
theorem BX.w1_9 {A M : Mem} (h : BX A M) {v : Int} (h1 : 0 ≤ v) (h2 : v ≤ 8) : BX A (sI M 1 9 v) := h.I (k := 1) (by decide) (⟨fun e => absurd e (by decide), fun e => absurd e (by decide), fun e => absurd e (by decide), fun _ => ⟨h1, h2⟩, fun e => absurd e (by decide)⟩) (by simp)
theorem BX.w1_10 {A M : Mem} (h : BX A M) {v : Int} (h1 : 0 ≤ v) (h2 : v ≤ 4) : BX A (sI M 1 10 v) := h.I (k := 1) (by decide) (⟨fun e => absurd e (by decide), fun e => absurd e (by decide), fun e => absurd e (by decide), fun e => absurd e (by decide), fun _ => ⟨h1, h2⟩⟩) (by simp)
theorem BX.w1_11 {A M : Mem} (h : BX A M) {v : Int} : BX A (sI M 1 11 v) := h.I (k := 1) (by decide) (⟨fun e => absurd e (by decide), fun e => absurd e (by decide), fun e => absurd e (by decide), fun e => absurd e (by decide), fun e => absurd e (by decide)⟩) (by simp)
theorem BX.C2 {A M : Mem} (h : BX A M) (f d s n : Nat) : BX A (cpI M 2 f d s n) := h.C (k := 2) (by decide) (fun _ _ => trivial) (by simp)
theorem BX.w2 {A M : Mem} (h : BX A M) (j : Nat) {v : Int} : BX A (sI M 2 j v) := h.I (k := 2) (by decide) trivial (by simp)
theorem BX.w3 {A M : Mem} (h : BX A M) (j : Nat) {v : Int} (h1 : (-1) ≤ v) (h2 : v ≤ 15) : BX A (sI M 3 j v) := h.I (k := 3) (by decide) ⟨h1, h2⟩ (by simp)
theorem BX.C4 {A M : Mem} (h : BX A M) (f d s n : Nat) : BX A (cpI M 4 f d s n) := h.C (k := 4) (by decide) (fun _ _ => trivial) (by simp)
theorem BX.w4 {A M : Mem} (h : BX A M) (j : Nat) {v : Int} : BX A (sI M 4 j v) := h.I (k := 4) (by decide) trivial (by simp)
theorem BX.C5 {A M : Mem} (h : BX A M) (f d s n : Nat) : BX A (cpI M 5 f d s n) := h.C (k := 5) (by decide) (fun _ _ => trivial) (by simp)
theorem BX.w5 {A M : Mem} (h : BX A M) (j : Nat) {v : Int} : BX A (sI M 5 j v) := h.I (k := 5) (by decide) trivial (by simp)
theorem BX.C6 {A M : Mem} (h : BX A M) (f d s n : Nat) : BX A (cpI M 6 f d s n) := h.C (k := 6) (by decide) (fun _ _ => trivial) (by simp)
theorem BX.w6 {A M : Mem} (h : BX A M) (j : Nat) {v : Int} : BX A (sI M 6 j v) := h.I (k := 6) (by decide) trivial (by simp)
theorem BX.w8_6 {A M : Mem} (h : BX A M) {v : Int} (h1 : 0 ≤ v) (h2 : v ≤ 16) : BX A (sI M 8 6 v) := h.I (k := 8) (by decide) (⟨fun _ => ⟨h1, h2⟩, fun e => absurd e (by decide), fun e => absurd e (by decide), fun e => absurd e (by decide), fun e => absurd e (by decide)⟩) (by simp)
theorem BX.w8_7 {A M : Mem} (h : BX A M) {v : Int} (h1 : (-1) ≤ v) (h2 : v ≤ 15) : BX A (sI M 8 7 v) := h.I (k := 8) (by decide) (⟨fun e => absurd e (by decide), fun _ => ⟨h1, h2⟩, fun e => absurd e (by decide), fun e => absurd e (by decide), fun e => absurd e (by decide)⟩) (by simp)
theorem BX.w8_8 {A M : Mem} (h : BX A M) {v : Int} (h1 : 0 ≤ v) (h2 : v ≤ 6) : BX A (sI M 8 8 v) := h.I (k := 8) (by decide) (⟨fun e => absurd e (by decide), fun e => absurd e (by decide), fun _ => ⟨h1, h2⟩, fun e => absurd e (by decide), fun e => absurd e (by decide)⟩) (by simp)
theorem BX.w8_9 {A M : Mem} (h : BX A M) {v : Int} (h1 : 0 ≤ v) (h2 : v ≤ 8) : BX A (sI M 8 9 v) := h.I (k := 8) (by decide) (⟨fun e => absurd e (by decide), fun e => absurd e (by decide), fun e => absurd e (by decide), fun _ => ⟨h1, h2⟩, fun e => absurd e (by decide)⟩) (by simp)
theorem BX.w8_10 {A M : Mem} (h : BX A M) {v : Int} (h1 : 0 ≤ v) (h2 : v ≤ 4) : BX A (sI M 8 10 v) := h.I (k := 8) (by decide) (⟨fun e => absurd e (by decide), fun e => absurd e (by decide), fun e => absurd e (by decide), fun e => absurd e (by decide), fun _ => ⟨h1, h2⟩⟩) (by simp)
theorem BX.w8_11 {A M : Mem} (h : BX A M) {v : Int} : BX A (sI M 8 11 v) := h.I (k := 8) (by decide) (⟨fun e => absurd e (by decide), fun e => absurd e (by decide), fun e => absurd e (by decide), fun e => absurd e (by decide), fun e => absurd e (by decide)⟩) (by simp)
theorem BX.C9 {A M : Mem} (h : BX A M) (f d s n : Nat) : BX A (cpI M 9 f d s n) := h.C (k := 9) (by decide) (fun _ _ => trivial) (by simp)
theorem BX.w9 {A M : Mem} (h : BX A M) (j : Nat) {v : Int} : BX A (sI M 9 j v) := h.I (k := 9) (by decide) trivial (by simp)
theorem BX.w10 {A M : Mem} (h : BX A M) (j : Nat) {v : Int} (h1 : (-1) ≤ v) (h2 : v ≤ 15) : BX A (sI M 10 j v) := h.I (k := 10) (by decide) ⟨h1, h2⟩ (by simp)
theorem BX.C11 {A M : Mem} (h : BX A M) (f d s n : Nat) : BX A (cpI M 11 f d s n) := h.C (k := 11) (by decide) (fun _ _ => trivial) (by simp)
theorem BX.w11 {A M : Mem} (h : BX A M) (j : Nat) {v : Int} : BX A (sI M 11 j v) := h.I (k := 11) (by decide) trivial (by simp)
theorem BX.C12 {A M : Mem} (h : BX A M) (f d s n : Nat) : BX A (cpI M 12 f d s n) := h.C (k := 12) (by decide) (fun _ _ => trivial) (by simp)
theorem BX.w12 {A M : Mem} (h : BX A M) (j : Nat) {v : Int} : BX A (sI M 12 j v) := h.I (k := 12) (by decide) trivial (by simp)
theorem BX.C13 {A M : Mem} (h : BX A M) (f d s n : Nat) : BX A (cpI M 13 f d s n) := h.C (k := 13) (by decide) (fun _ _ => trivial) (by simp)
theorem BX.w13 {A M : Mem} (h : BX A M) (j : Nat) {v : Int} : BX A (sI M 13 j v) := h.I (k := 13) (by decide) trivial (by simp)
theorem BX.w15_2 {A M : Mem} (h : BX A M) {v : Int} (h1 : 0 ≤ v) (h2 : v ≤ 30) : BX A (sI M 15 2 v) := h.I (k := 15) (by decide) (⟨fun _ => ⟨h1, h2⟩, fun e => absurd e (by decide)⟩) (by simp)
theorem BX.w15_3 {A M : Mem} (h : BX A M) {v : Int} (h1 : 0 ≤ v) (h2 : v ≤ 29) : BX A (sI M 15 3 v) := h.I (k := 15) (by decide) (⟨fun e => absurd e (by decide), fun _ => ⟨h1, h2⟩⟩) (by simp)
theorem BX.C16 {A M : Mem} (h : BX A M) (f d s n : Nat) : BX A (cpI M 16 f d s n) := h.C (k := 16) (by decide) (fun _ _ => trivial) (by simp)
theorem BX.w16 {A M : Mem} (h : BX A M) (j : Nat) {v : Int} : BX A (sI M 16 j v) := h.I (k := 16) (by decide) trivial (by simp)
theorem BX.C17 {A M : Mem} (h : BX A M) (f d s n : Nat) : BX A (cpI M 17 f d s n) := h.C (k := 17) (by decide) (fun _ _ => trivial) (by simp)
theorem BX.w17 {A M : Mem} (h : BX A M) (j : Nat) {v : Int} : BX A (sI M 17 j v) := h.I (k := 17) (by decide) trivial (by simp)
theorem BX.w18_2 {A M : Mem} (h : BX A M) {v : Int} (h1 : 0 ≤ v) (h2 : v ≤ 30) : BX A (sI M 18 2 v) := h.I (k := 18) (by decide) (⟨fun _ => ⟨h1, h2⟩, fun e => absurd e (by decide)⟩) (by simp)
theorem BX.w18_3 {A M : Mem} (h : BX A M) {v : Int} (h1 : 0 ≤ v) (h2 : v ≤ 29) : BX A (sI M 18 3 v) := h.I (k := 18) (by decide) (⟨fun e => absurd e (by decide), fun _ => ⟨h1, h2⟩⟩) (by simp)
theorem BX.C19 {A M : Mem} (h : BX A M) (f d s n : Nat) : BX A (cpI M 19 f d s n) := h.C (k := 19) (by decide) (fun _ _ => trivial) (by simp)
theorem BX.w19 {A M : Mem} (h : BX A M) (j : Nat) {v : Int} : BX A (sI M 19 j v) := h.I (k := 19) (by decide) trivial (by simp)
theorem BX.C20 {A M : Mem} (h : BX A M) (f d s n : Nat) : BX A (cpI M 20 f d s n) := h.C (k := 20) (by decide) (fun _ _ => trivial) (by simp)
theorem BX.w20 {A M : Mem} (h : BX A M) (j : Nat) {v : Int} : BX A (sI M 20 j v) := h.I (k := 20) (by decide) trivial (by simp)
theorem BX.C21 {A M : Mem} (h : BX A M) (f d s n : Nat) : BX A (cpI M 21 f d s n) := h.C (k := 21) (by decide) (fun _ _ => trivial) (by simp)
theorem BX.w21 {A M : Mem} (h : BX A M) (j : Nat) {v : Int} : BX A (sI M 21 j v) := h.I (k := 21) (by decide) trivial (by simp)
theorem BX.w22_7 {A M : Mem} (h : BX A M) {v : Int} : BX A (sI M 22 7 v) := h.I (k := 22) (by decide) (⟨fun e => absurd e (by decide), fun e => absurd e (by decide), fun e => absurd e (by decide)⟩) (by simp)
theorem BX.w22_8 {A M : Mem} (h : BX A M) {v : Int} : BX A (sI M 22 8 v) := h.I (k := 22) (by decide) (⟨fun e => absurd e (by decide), fun e => absurd e (by decide), fun e => absurd e (by decide)⟩) (by simp)
theorem BX.w22_9 {A M : Mem} (h : BX A M) {v : Int} (h1 : (-1) ≤ v) (h2 : v ≤ 300) : BX A (sI M 22 9 v) := h.I (k := 22) (by decide) (⟨fun _ => ⟨h1, h2⟩, fun e => absurd e (by decide), fun e => absurd e (by decide)⟩) (by simp)
theorem BX.w22_10 {A M : Mem} (h : BX A M) {v : Int} : BX A (sI M 22 10 v) := h.I (k := 22) (by decide) (⟨fun e => absurd e (by decide), fun e => absurd e (by decide), fun e => absurd e (by decide)⟩) (by simp)
theorem BX.w22_11 {A M : Mem} (h : BX A M) {v : Int} : BX A (sI M 22 11 v) := h.I (k := 22) (by decide) (⟨fun e => absurd e (by decide), fun e => absurd e (by decide), fun e => absurd e (by decide)⟩) (by simp)
theorem BX.w22_12 {A M : Mem} (h : BX A M) {v : Int} (h1 : 0 ≤ v) (h2 : v ≤ 300) : BX A (sI M 22 12 v) := h.I (k := 22) (by decide) (⟨fun e => absurd e (by decide), fun _ => ⟨h1, h2⟩, fun e => absurd e (by decide)⟩) (by simp)
theorem BX.w22_13 {A M : Mem} (h : BX A M) {v : Int} (h1 : 0 ≤ v) (h2 : v ≤ 24) : BX A (sI M 22 13 v) := h.I (k := 22) (by decide) (⟨fun e => absurd e (by decide), fun e => absurd e (by decide), fun _ => ⟨h1, h2⟩⟩) (by simp)
theorem BX.w22_14 {A M : Mem} (h : BX A M) {v : Int} : BX A (sI M 22 14 v) := h.I (k := 22) (by decide) (⟨fun e => absurd e (by decide), fun e => absurd e (by decide), fun e => absurd e (by decide)⟩) (by simp)
theorem BX.C23 {A M : Mem} (h : BX A M) (f d s n : Nat) : BX A (cpI M 23 f d s n) := h.C (k := 23) (by decide) (fun _ _ => trivial) (by simp)
theorem BX.w23 {A M : Mem} (h : BX A M) (j : Nat) {v : Int} : BX A (sI M 23 j v) := h.I (k := 23) (by decide) trivial (by simp)
theorem BX.w24 {A M : Mem} (h : BX A M) (j : Nat) {v : Int} (h1 : (-1) ≤ v) (h2 : v ≤ 300) : BX A (sI M 24 j v) := h.I (k := 24) (by decide) ⟨h1, h2⟩ (by simp)
theorem BX.C25 {A M : Mem} (h : BX A M) (f d s n : Nat) : BX A (cpI M 25 f d s n) := h.C (k := 25) (by decide) (fun _ _ => trivial) (by simp)
theorem BX.w25 {A M : Mem} (h : BX A M) (j : Nat) {v : Int} : BX A (sI M 25 j v) := h.I (k := 25) (by decide) trivial (by simp)
theorem BX.C26 {A M : Mem} (h : BX A M) (f d s n : Nat) : BX A (cpI M 26 f d s n) := h.C (k := 26) (by decide) (fun _ _ => trivial) (by simp)
theorem BX.w26 {A M : Mem} (h : BX A M) (j : Nat) {v : Int} : BX A (sI M 26 j v) := h.I (k := 26) (by decide) trivial (by simp)
theorem BX.C27 {A M : Mem} (h : BX A M) (f d s n : Nat) : BX A (cpI M 27 f d s n) := h.C (k := 27) (by decide) (fun _ _ => trivial) (by simp)
theorem BX.w27 {A M : Mem} (h : BX A M) (j : Nat) {v : Int} : BX A (sI M 27 j v) := h.I (k := 27) (by decide) trivial (by simp)
theorem BX.C28 {A M : Mem} (h : BX A M) (f d s n : Nat) : BX A (cpI M 28 f d s n) := h.C (k := 28) (by decide) (fun _ _ => trivial) (by simp)
theorem BX.w28 {A M : Mem} (h : BX A M) (j : Nat) {v : Int} : BX A (sI M 28 j v) := h.I (k := 28) (by decide) trivial (by simp)
theorem BX.C30 {A M : Mem} (h : BX A M) (f d s n : Nat) : BX A (cpI M 30 f d s n) := h.C (k := 30) (by decide) (fun _ _ => trivial) (by simp)
theorem BX.w30 {A M : Mem} (h : BX A M) (j : Nat) {v : Int} : BX A (sI M 30 j v) := h.I (k := 30) (by decide) trivial (by simp)
theorem BX.C31 {A M : Mem} (h : BX A M) (f d s n : Nat) : BX A (cpI M 31 f d s n) := h.C (k := 31) (by decide) (fun _ _ => trivial) (by simp)
theorem BX.w31 {A M : Mem} (h : BX A M) (j : Nat) {v : Int} : BX A (sI M 31 j v) := h.I (k := 31) (by decide) trivial (by simp)
theorem BX.w32_2 {A M : Mem} (h : BX A M) {v : Int} : BX A (sI M 32 2 v) := h.I (k := 32) (by decide) (fun e => absurd e (by decide)) (by simp)
theorem BX.w32_3 {A M : Mem} (h : BX A M) {v : Int} : BX A (sI M 32 3 v) := h.I (k := 32) (by decide) (fun e => absurd e (by decide)) (by simp)
theorem BX.w32_4 {A M : Mem} (h : BX A M) {v : Int} (h1 : 0 ≤ v) (h2 : v ≤ 40) : BX A (sI M 32 4 v) := h.I (k := 32) (by decide) (fun _ => ⟨h1, h2⟩) (by simp)
theorem BX.C33 {A M : Mem} (h : BX A M) (f d s n : Nat) : BX A (cpI M 33 f d s n) := h.C (k := 33) (by decide) (fun _ _ => trivial) (by simp)
theorem BX.w33 {A M : Mem} (h : BX A M) (j : Nat) {v : Int} : BX A (sI M 33 j v) := h.I (k := 33) (by decide) trivial (by simp)
theorem BX.C36 {A M : Mem} (h : BX A M) (f d s n : Nat) : BX A (cpI M 36 f d s n) := h.C (k := 36) (by decide) (fun _ _ => trivial) (by simp)
theorem BX.w36 {A M : Mem} (h : BX A M) (j : Nat) {v : Int} : BX A (sI M 36 j v) := h.I (k := 36) (by decide) trivial (by simp)
theorem BX.C37 {A M : Mem} (h : BX A M) (f d s n : Nat) : BX A (cpI M 37 f d s n) := h.C (k := 37) (by decide) (fun _ _ => trivial) (by simp)
theorem BX.w37 {A M : Mem} (h : BX A M) (j : Nat) {v : Int} : BX A (sI M 37 j v) := h.I (k := 37) (by decide) trivial (by simp)
theorem BX.C38 {A M : Mem} (h : BX A M) (f d s n : Nat) : BX A (cpI M 38 f d s n) := h.C (k := 38) (by decide) (fun _ _ => trivial) (by simp)
theorem BX.w38 {A M : Mem} (h : BX A M) (j : Nat) {v : Int} : BX A (sI M 38 j v) := h.I (k := 38) (by decide) trivial (by simp)
theorem BX.w40_9 {A M : Mem} (h : BX A M) {v : Int} (h1 : 0 ≤ v) (h2 : v ≤ 5) : BX A (sI M 40 9 v) := h.I (k := 40) (by decide) (fun _ => ⟨h1, h2⟩) (by simp)
theorem BX.C41 {A M : Mem} (h : BX A M) (f d s n : Nat) : BX A (cpI M 41 f d s n) := h.C (k := 41) (by decide) (fun _ _ => trivial) (by simp)
theorem BX.w41 {A M : Mem} (h : BX A M) (j : Nat) {v : Int} : BX A (sI M 41 j v) := h.I (k := 41) (by decide) trivial (by simp)
theorem BX.C42 {A M : Mem} (h : BX A M) (f d s n : Nat) : BX A (cpI M 42 f d s n) := h.C (k := 42) (by decide) (fun _ _ => trivial) (by simp)
theorem BX.w42 {A M : Mem} (h : BX A M) (j : Nat) {v : Int} : BX A (sI M 42 j v) := h.I (k := 42) (by decide) trivial (by simp)
theorem BX.w43 {A M : Mem} (h : BX A M) (j : Nat) {v : Int} (h1 : 0 ≤ v) (h2 : v ≤ 15) : BX A (sI M 43 j v) := h.I (k := 43) (by decide) ⟨h1, h2⟩ (by simp)
theorem BX.C44 {A M : Mem} (h : BX A M) (f d s n : Nat) : BX A (cpI M 44 f d s n) := h.C (k := 44) (by decide) (fun _ _ => trivial) (by simp)
theorem BX.w44 {A M : Mem} (h : BX A M) (j : Nat) {v : Int} : BX A (sI M 44 j v) := h.I (k := 44) (by decide) trivial (by simp)
theorem BX.C45 {A M : Mem} (h : BX A M) (f d s n : Nat) : BX A (cpI M 45 f d s n) := h.C (k := 45) (by decide) (fun _ _ => trivial) (by simp)
theorem BX.w45 {A M : Mem} (h : BX A M) (j : Nat) {v : Int} : BX A (sI M 45 j v) := h.I (k := 45) (by decide) trivial (by simp)
theorem BX.C47 {A M : Mem} (h : BX A M) (f d s n : Nat) : BX A (cpI M 47 f d s n) := h.C (k := 47) (by decide) (fun _ _ => trivial) (by simp)
theorem BX.w47 {A M : Mem} (h : BX A M) (j : Nat) {v : Int} : BX A (sI M 47 j v) := h.I (k := 47) (by decide) trivial (by simp)
theorem BX.C48 {A M : Mem} (h : BX A M) (f d s n : Nat) : BX A (cpI M 48 f d s n) := h.C (k := 48) (by decide) (fun _ _ => trivial) (by simp)
theorem BX.w48 {A M : Mem} (h : BX A M) (j : Nat) {v : Int} : BX A (sI M 48 j v) := h.I (k := 48) (by decide) trivial (by simp)
theorem BX.C49 {A M : Mem} (h : BX A M) (f d s n : Nat) : BX A (cpI M 49 f d s n) := h.C (k := 49) (by decide) (fun _ _ => trivial) (by simp)
theorem BX.w49 {A M : Mem} (h : BX A M) (j : Nat) {v : Int} : BX A (sI M 49 j v) := h.I (k := 49) (by decide) trivial (by simp)
theorem BX.w50_4 {A M : Mem} (h : BX A M) {v : Int} : BX A (sI M 50 4 v) := h.I (k := 50) (by decide) (trivial) (by simp)
theorem BX.C51 {A M : Mem} (h : BX A M) (f d s n : Nat) : BX A (cpI M 51 f d s n) := h.C (k := 51) (by decide) (fun _ _ => trivial) (by simp)
theorem BX.w51 {A M : Mem} (h : BX A M) (j : Nat) {v : Int} : BX A (sI M 51 j v) := h.I (k := 51) (by decide) trivial (by simp)
theorem BX.w52 {A M : Mem} (h : BX A M) (j : Nat) {v : Int} (h1 : 0 ≤ v) (h2 : v ≤ 63) : BX A (sI M 52 j v) := h.I (k := 52) (by decide) ⟨h1, h2⟩ (by simp)
theorem BX.w53 {A M : Mem} (h : BX A M) (j : Nat) {v : Int} (h1 : 0 ≤ v) (h2 : v ≤ 63) : BX A (sI M 53 j v) := h.I (k := 53) (by decide) ⟨h1, h2⟩ (by simp)
theorem BX.w54_4 {A M : Mem} (h : BX A M) {v : Int} (h1 : 0 ≤ v) (h2 : v ≤ 6) : BX A (sI M 54 4 v) := h.I (k := 54) (by decide) (⟨fun _ => ⟨h1, h2⟩, fun e => absurd e (by decide), fun e => absurd e (by decide), fun e => absurd e (by decide), fun e => absurd e (by decide), fun e => absurd e (by decide), fun e => absurd e (by decide), fun e => absurd e (by decide), fun e => absurd e (by decide), fun e => absurd e (by decide), fun e => absurd e (by decide), fun e => absurd e (by decide)⟩) (by simp)
theorem BX.w54_6 {A M : Mem} (h : BX A M) {v : Int} (h1 : 0 ≤ v) (h2 : v ≤ 300) : BX A (sI M 54 6 v) := h.I (k := 54) (by decide) (⟨fun e => absurd e (by decide), fun _ => ⟨h1, h2⟩, fun e => absurd e (by decide), fun e => absurd e (by decide), fun e => absurd e (by decide), fun e => absurd e (by decide), fun e => absurd e (by decide), fun e => absurd e (by decide), fun e => absurd e (by decide), fun e => absurd e (by decide), fun e => absurd e (by decide), fun e => absurd e (by decide)⟩) (by simp)
theorem BX.w54_7 {A M : Mem} (h : BX A M) {v : Int} : BX A (sI M 54 7 v) := h.I (k := 54) (by decide) (⟨fun e => absurd e (by decide), fun e => absurd e (by decide), fun e => absurd e (by decide), fun e => absurd e (by decide), fun e => absurd e (by decide), fun e => absurd e (by decide), fun e => absurd e (by decide), fun e => absurd e (by decide), fun e => absurd e (by decide), fun e => absurd e (by decide), fun e => absurd e (by decide), fun e => absurd e (by decide)⟩) (by simp)
theorem BX.w54_8 {A M : Mem} (h : BX A M) {v : Int} : BX A (sI M 54 8 v) := h.I (k := 54) (by decide) (⟨fun e => absurd e (by decide), fun e => absurd e (by decide), fun e => absurd e (by decide), fun e => absurd e (by decide), fun e => absurd e (by decide), fun e => absurd e (by decide), fun e => absurd e (by decide), fun e => absurd e (by decide), fun e => absurd e (by decide), fun e => absurd e (by decide), fun e => absurd e (by decide), fun e => absurd e (by decide)⟩) (by simp)
theorem BX.w54_9 {A M : Mem} (h : BX A M) {v : Int} (h1 : 0 ≤ v) (h2 : v ≤ 300) : BX A (sI M 54 9 v) := h.I (k := 54) (by decide) (⟨fun e => absurd e (by decide), fun e => absurd e (by decide), fun _ => ⟨h1, h2⟩, fun e => absurd e (by decide), fun e => absurd e (by decide), fun e => absurd e (by decide), fun e => absurd e (by decide), fun e => absurd e (by decide), fun e => absurd e (by decide), fun e => absurd e (by decide), fun e => absurd e (by decide), fun e => absurd e (by decide)⟩) (by simp)
theorem BX.w54_10 {A M : Mem} (h : BX A M) {v : Int} (h1 : 0 ≤ v) (h2 : v ≤ 300) : BX A (sI M 54 10 v) := h.I (k := 54) (by decide) (⟨fun e => absurd e (by decide), fun e => absurd e (by decide), fun e => absurd e (by decide), fun _ => ⟨h1, h2⟩, fun e => absurd e (by decide), fun e => absurd e (by decide), fun e => absurd e (by decide), fun e => absurd e (by decide), fun e => absurd e (by decide), fun e => absurd e (by decide), fun e => absurd e (by decide), fun e => absurd e (by decide)⟩) (by simp)
theorem BX.w54_11 {A M : Mem} (h : BX A M) {v : Int} : BX A (sI M 54 11 v) := h.I (k := 54) (by decide) (⟨fun e => absurd e (by decide), fun e => absurd e (by decide), fun e => absurd e (by decide), fun e => absurd e (by decide), fun e => absurd e (by decide), fun e => absurd e (by decide), fun e => absurd e (by decide), fun e => absurd e (by decide), fun e => absurd e (by decide), fun e => absurd e (by decide), fun e => absurd e (by decide), fun e => absurd e (by decide)⟩) (by simp)
theorem BX.w54_12 {A M : Mem} (h : BX A M) {v : Int} : BX A (sI M 54 12 v) := h.I (k := 54) (by decide) (⟨fun e => absurd e (by decide), fun e => absurd e (by decide), fun e => absurd e (by decide), fun e => absurd e (by decide), fun e => absurd e (by decide), fun e => absurd e (by decide), fun e => absurd e (by decide), fun e => absurd e (by decide), fun e => absurd e (by decide), fun e => absurd e (by decide), fun e => absurd e (by decide), fun e => absurd e (by decide)⟩) (by simp)
theorem BX.w54_14 {A M : Mem} (h : BX A M) {v : Int} (h1 : 0 ≤ v) (h2 : v ≤ 2619) : BX A (sI M 54 14 v) := h.I (k := 54) (by decide) (⟨fun e => absurd e (by decide), fun e => absurd e (by decide), fun e => absurd e (by decide), fun e => absurd e (by decide), fun _ => ⟨h1, h2⟩, fun e => absurd e (by decide), fun e => absurd e (by decide), fun e => absurd e (by decide), fun e => absurd e (by decide), fun e => absurd e (by decide), fun e => absurd e (by decide), fun e => absurd e (by decide)⟩) (by simp)
theorem BX.w54_15 {A M : Mem} (h : BX A M) {v : Int} (h1 : 0 ≤ v) (h2 : v ≤ 300) : BX A (sI M 54 15 v) := h.I (k := 54) (by decide) (⟨fun e => absurd e (by decide), fun e => absurd e (by decide), fun e => absurd e (by decide), fun e => absurd e (by decide), fun e => absurd e (by decide), fun _ => ⟨h1, h2⟩, fun e => absurd e (by decide), fun e => absurd e (by decide), fun e => absurd e (by decide), fun e => absurd e (by decide), fun e => absurd e (by decide), fun e => absurd e (by decide)⟩) (by simp)
theorem BX.w54_16 {A M : Mem} (h : BX A M) {v : Int} : BX A (sI M 54 16 v) := h.I (k := 54) (by decide) (⟨fun e => absurd e (by decide), fun e => absurd e (by decide), fun e => absurd e (by decide), fun e => absurd e (by decide), fun e => absurd e (by decide), fun e => absurd e (by decide), fun e => absurd e (by decide), fun e => absurd e (by decide), fun e => absurd e (by decide), fun e => absurd e (by decide), fun e => absurd e (by decide), fun e => absurd e (by decide)⟩) (by simp)
theorem BX.w54_18 {A M : Mem} (h : BX A M) {v : Int} (h1 : 0 ≤ v) (h2 : v ≤ 160) : BX A (sI M 54 18 v) := h.I (k := 54) (by decide) (⟨fun e => absurd e (by decide), fun e => absurd e (by decide), fun e => absurd e (by decide), fun e => absurd e (by decide), fun e => absurd e (by decide), fun e => absurd e (by decide), fun _ => ⟨h1, h2⟩, fun e => absurd e (by decide), fun e => absurd e (by decide), fun e => absurd e (by decide), fun e => absurd e (by decide), fun e => absurd e (by decide)⟩) (by simp)
theorem BX.w54_19 {A M : Mem} (h : BX A M) {v : Int} : BX A (sI M 54 19 v) := h.I (k := 54) (by decide) (⟨fun e => absurd e (by decide), fun e => absurd e (by decide), fun e => absurd e (by decide), fun e => absurd e (by decide), fun e => absurd e (by decide), fun e => absurd e (by decide), fun e => absurd e (by decide), fun e => absurd e (by decide), fun e => absurd e (by decide), fun e => absurd e (by decide), fun e => absurd e (by decide), fun e => absurd e (by decide)⟩) (by simp)
theorem BX.w54_20 {A M : Mem} (h : BX A M) {v : Int} : BX A (sI M 54 20 v) := h.I (k := 54) (by decide) (⟨fun e => absurd e (by decide), fun e => absurd e (by decide), fun e => absurd e (by decide), fun e => absurd e (by decide), fun e => absurd e (by decide), fun e => absurd e (by decide), fun e => absurd e (by decide), fun e => absurd e (by decide), fun e => absurd e (by decide), fun e => absurd e (by decide), fun e => absurd e (by decide), fun e => absurd e (by decide)⟩) (by simp)
theorem BX.w54_21 {A M : Mem} (h : BX A M) {v : Int} : BX A (sI M 54 21 v) := h.I (k := 54) (by decide) (⟨fun e => absurd e (by decide), fun e => absurd e (by decide), fun e => absurd e (by decide), fun e => absurd e (by decide), fun e => absurd e (by decide), fun e => absurd e (by decide), fun e => absurd e (by decide), fun e => absurd e (by decide), fun e => absurd e (by decide), fun e => absurd e (by decide), fun e => absurd e (by decide), fun e => absurd e (by decide)⟩) (by simp)
theorem BX.w54_24 {A M : Mem} (h : BX A M) {v : Int} (h1 : 0 ≤ v) (h2 : v ≤ 15) : BX A (sI M 54 24 v) := h.I (k := 54) (by decide) (⟨fun e => absurd e (by decide), fun e => absurd e (by decide), fun e => absurd e (by decide), fun e => absurd e (by decide), fun e => absurd e (by decide), fun e => absurd e (by decide), fun e => absurd e (by decide), fun _ => ⟨h1, h2⟩, fun e => absurd e (by decide), fun e => absurd e (by decide), fun e => absurd e (by decide), fun e => absurd e (by decide)⟩) (by simp)
theorem BX.w54_25 {A M : Mem} (h : BX A M) {v : Int} (h1 : 0 ≤ v) (h2 : v ≤ 3) : BX A (sI M 54 25 v) := h.I (k := 54) (by decide) (⟨fun e => absurd e (by decide), fun e => absurd e (by decide), fun e => absurd e (by decide), fun e => absurd e (by decide), fun e => absurd e (by decide), fun e => absurd e (by decide), fun e => absurd e (by decide), fun e => absurd e (by decide), fun _ => ⟨h1, h2⟩, fun e => absurd e (by decide), fun e => absurd e (by decide), fun e => absurd e (by decide)⟩) (by simp)
theorem BX.w54_26 {A M : Mem} (h : BX A M) {v : Int} : BX A (sI M 54 26 v) := h.I (k := 54) (by decide) (⟨fun e => absurd e (by decide), fun e => absurd e (by decide), fun e => absurd e (by decide), fun e => absurd e (by decide), fun e => absurd e (by decide), fun e => absurd e (by decide), fun e => absurd e (by decide), fun e => absurd e (by decide), fun e => absurd e (by decide), fun e => absurd e (by decide), fun e => absurd e (by decide), fun e => absurd e (by decide)⟩) (by simp)
theorem BX.w54_27 {A M : Mem} (h : BX A M) {v : Int} (h1 : 0 ≤ v) (h2 : v ≤ 40) : BX A (sI M 54 27 v) := h.I (k := 54) (by decide) (⟨fun e => absurd e (by decide), fun e => absurd e (by decide), fun e => absurd e (by decide), fun e => absurd e (by decide), fun e => absurd e (by decide), fun e => absurd e (by decide), fun e => absurd e (by decide), fun e => absurd e (by decide), fun e => absurd e (by decide), fun _ => ⟨h1, h2⟩, fun e => absurd e (by decide), fun e => absurd e (by decide)⟩) (by simp)
theorem BX.w54_28 {A M : Mem} (h : BX A M) {v : Int} : BX A (sI M 54 28 v) := h.I (k := 54) (by decide) (⟨fun e => absurd e (by decide), fun e => absurd e (by decide), fun e => absurd e (by decide), fun e => absurd e (by decide), fun e => absurd e (by decide), fun e => absurd e (by decide), fun e => absurd e (by decide), fun e => absurd e (by decide), fun e => absurd e (by decide), fun e => absurd e (by decide), fun e => absurd e (by decide), fun e => absurd e (by decide)⟩) (by simp)
theorem BX.w54_29 {A M : Mem} (h : BX A M) {v : Int} : BX A (sI M 54 29 v) := h.I (k := 54) (by decide) (⟨fun e => absurd e (by decide), fun e => absurd e (by decide), fun e => absurd e (by decide), fun e => absurd e (by decide), fun e => absurd e (by decide), fun e => absurd e (by decide), fun e => absurd e (by decide), fun e => absurd e (by decide), fun e => absurd e (by decide), fun e => absurd e (by decide), fun e => absurd e (by decide), fun e => absurd e (by decide)⟩) (by simp)
theorem BX.w54_30 {A M : Mem} (h : BX A M) {v : Int} : BX A (sI M 54 30 v) := h.I (k := 54) (by decide) (⟨fun e => absurd e (by decide), fun e => absurd e (by decide), fun e => absurd e (by decide), fun e => absurd e (by decide), fun e => absurd e (by decide), fun e => absurd e (by decide), fun e => absurd e (by decide), fun e => absurd e (by decide), fun e => absurd e (by decide), fun e => absurd e (by decide), fun e => absurd e (by decide), fun e => absurd e (by decide)⟩) (by simp)
theorem BX.w54_32 {A M : Mem} (h : BX A M) {v : Int} (h1 : 0 ≤ v) (h2 : v ≤ 6) : BX A (sI M 54 32 v) := h.I (k := 54) (by decide) (⟨fun e => absurd e (by decide), fun e => absurd e (by decide), fun e => absurd e (by decide), fun e => absurd e (by decide), fun e => absurd e (by decide), fun e => absurd e (by decide), fun e => absurd e (by decide), fun e => absurd e (by decide), fun e => absurd e (by decide), fun e => absurd e (by decide), fun _ => ⟨h1, h2⟩, fun e => absurd e (by decide)⟩) (by simp)
theorem BX.w54_43 {A M : Mem} (h : BX A M) {v : Int} (h1 : 0 ≤ v) (h2 : v ≤ 5) : BX A (sI M 54 43 v) := h.I (k := 54) (by decide) (⟨fun e => absurd e (by decide), fun e => absurd e (by decide), fun e => absurd e (by decide), fun e => absurd e (by decide), fun e => absurd e (by decide), fun e => absurd e (by decide), fun e => absurd e (by decide), fun e => absurd e (by decide), fun e => absurd e (by decide), fun e => absurd e (by decide), fun e => absurd e (by decide), fun _ => ⟨h1, h2⟩⟩) (by simp)
theorem BX.C58 {A M : Mem} (h : BX A M) (f d s n : Nat) : BX A (cpI M 58 f d s n) := h.C (k := 58) (by decide) (fun _ _ => trivial) (by simp)
theorem BX.w58 {A M : Mem} (h : BX A M) (j : Nat) {v : Int} : BX A (sI M 58 j v) := h.I (k := 58) (by decide) trivial (by simp)
theorem BX.C59 {A M : Mem} (h : BX A M) (f d s n : Nat) : BX A (cpI M 59 f d s n) := h.C (k := 59) (by decide) (fun _ _ => trivial) (by simp)
theorem BX.w59 {A M : Mem} (h : BX A M) (j : Nat) {v : Int} : BX A (sI M 59 j v) := h.I (k := 59) (by decide) trivial (by simp)
theorem BX.C60 {A M : Mem} (h : BX A M) (f d s n : Nat) : BX A (cpI M 60 f d s n) := h.C (k := 60) (by decide) (fun _ _ => trivial) (by simp)
theorem BX.w60 {A M : Mem} (h : BX A M) (j : Nat) {v : Int} : BX A (sI M 60 j v) := h.I (k := 60) (by decide) trivial (by simp)
theorem BX.C61 {A M : Mem} (h : BX A M) (f d s n : Nat) : BX A (cpI M 61 f d s n) := h.C (k := 61) (by decide) (fun _ _ => trivial) (by simp)
theorem BX.w61 {A M : Mem} (h : BX A M) (j : Nat) {v : Int} : BX A (sI M 61 j v) := h.I (k := 61) (by decide) trivial (by simp)
theorem BX.C63 {A M : Mem} (h : BX A M) (f d s n : Nat) : BX A (cpI M 63 f d s n) := h.C (k := 63) (by decide) (fun _ _ => trivial) (by simp)
theorem BX.w63 {A M : Mem} (h : BX A M) (j : Nat) {v : Int} : BX A (sI M 63 j v) := h.I (k := 63) (by decide) trivial (by simp)
theorem BX.C64 {A M : Mem} (h : BX A M) (f d s n : Nat) : BX A (cpI M 64 f d s n) := h.C (k := 64) (by decide) (fun _ _ => trivial) (by simp)
theorem BX.w64 {A M : Mem} (h : BX A M) (j : Nat) {v : Int} : BX A (sI M 64 j v) := h.I (k := 64) (by decide) trivial (by simp)
theorem BX.C65 {A M : Mem} (h : BX A M) (f d s n : Nat) : BX A (cpI M 65 f d s n) := h.C (k := 65) (by decide) (fun _ _ => trivial) (by simp)
theorem BX.w65 {A M : Mem} (h : BX A M) (j : Nat) {v : Int} : BX A (sI M 65 j v) := h.I (k := 65) (by decide) trivial (by simp)
theorem BX.C67 {A M : Mem} (h : BX A M) (f d s n : Nat) : BX A (cpI M 67 f d s n) := h.C (k := 67) (by decide) (fun _ _ => trivial) (by simp)
theorem BX.w67 {A M : Mem} (h : BX A M) (j : Nat) {v : Int} : BX A (sI M 67 j v) := h.I (k := 67) (by decide) trivial (by simp)
theorem BX.C68 {A M : Mem} (h : BX A M) (f d s n : Nat) : BX A (cpI M 68 f d s n) := h.C (k := 68) (by decide) (fun _ _ => trivial) (by simp)
theorem BX.w68 {A M : Mem} (h : BX A M) (j : Nat) {v : Int} : BX A (sI M 68 j v) := h.I (k := 68) (by decide) trivial (by simp)
theorem BX.C69 {A M : Mem} (h : BX A M) (f d s n : Nat) : BX A (cpI M 69 f d s n) := h.C (k := 69) (by decide) (fun _ _ => trivial) (by simp)
theorem BX.w69 {A M : Mem} (h : BX A M) (j : Nat) {v : Int} : BX A (sI M 69 j v) := h.I (k := 69) (by decide) trivial (by simp)
theorem BX.w70 {A M : Mem} (h : BX A M) (j : Nat) {v : Int} (h1 : 0 ≤ v) (h2 : v ≤ 15) : BX A (sI M 70 j v) := h.I (k := 70) (by decide) ⟨h1, h2⟩ (by simp)
theorem BX.w71 {A M : Mem} (h : BX A M) (j : Nat) {v : Int} (h1 : 0 ≤ v) (h2 : v ≤ 4) : BX A (sI M 71 j v) := h.I (k := 71) (by decide) ⟨h1, h2⟩ (by simp)
theorem BX.w72 {A M : Mem} (h : BX A M) (j : Nat) {v : Int} (h1 : 0 ≤ v) (h2 : v ≤ 4) : BX A (sI M 72 j v) := h.I (k := 72) (by decide) ⟨h1, h2⟩ (by simp)
theorem BX.C73 {A M : Mem} (h : BX A M) (f d s n : Nat) : BX A (cpI M 73 f d s n) := h.C (k := 73) (by decide) (fun _ _ => trivial) (by simp)
theorem BX.w73 {A M : Mem} (h : BX A M) (j : Nat) {v : Int} : BX A (sI M 73 j v) := h.I (k := 73) (by decide) trivial (by simp)
theorem BX.w74 {A M : Mem} (h : BX A M) (j : Nat) {v : Int} (h1 : (-1) ≤ v) (h2 : v ≤ 3) : BX A (sI M 74 j v) := h.I (k := 74) (by decide) ⟨h1, h2⟩ (by simp)
theorem BX.C3 {A M : Mem} (h : BX A M) (f d s n : Nat) (hf : f = 10) : BX A (cpI M 3 f d s n) := h.C (k := 3) (by decide) (fun _ i => by subst hf; exact bA10 h.1 i) (by simp)
theorem BX.C10 {A M : Mem} (h : BX A M) (f d s n : Nat) (hf : f = 3) : BX A (cpI M 10 f d s n) := h.C (k := 10) (by decide) (fun _ i => by subst hf; exact bA3 h.1 i) (by simp)
theorem b55_0 {M : Mem} (h : Box M) : 0 ≤ mI M 55 0 ∧ mI M 55 0 ≤ 16 := (h.2.1 55 0).1 rfl
theorem b55_1 {M : Mem} (h : Box M) : (-1) ≤ mI M 55 1 ∧ mI M 55 1 ≤ 15 := (h.2.1 55 1).2.1 rfl
theorem b55_2 {M : Mem} (h : Box M) : 0 ≤ mI M 55 2 ∧ mI M 55 2 ≤ 6 := (h.2.1 55 2).2.2.1 rfl
theorem b55_3 {M : Mem} (h : Box M) : 0 ≤ mI M 55 3 ∧ mI M 55 3 ≤ 8 := (h.2.1 55 3).2.2.2.1 rfl
theorem b55_4 {M : Mem} (h : Box M) : 0 ≤ mI M 55 4 ∧ mI M 55 4 ≤ 40025 := (h.2.1 55 4).2.2.2.2.1 rfl
theorem b55_5 {M : Mem} (h : Box M) : 0 ≤ mI M 55 5 ∧ mI M 55 5 ≤ 4 := (h.2.1 55 5).2.2.2.2.2.1 rfl
theorem b55_6 {M : Mem} (h : Box M) : (-1) ≤ mI M 55 6 ∧ mI M 55 6 ≤ 3 := (h.2.1 55 6).2.2.2.2.2.2.1 rfl
theorem b55_7 {M : Mem} (h : Box M) : 0 ≤ mI M 55 7 ∧ mI M 55 7 ≤ 30 := (h.2.1 55 7).2.2.2.2.2.2.2.1 rfl
theorem b55_256 {M : Mem} (h : Box M) : (-1) ≤ mI M 55 256 ∧ mI M 55 256 ≤ 15 := (h.2.1 55 256).2.2.2.2.2.2.2.2.1 rfl
theorem b55_257 {M : Mem} (h : Box M) : 0 ≤ mI M 55 257 ∧ mI M 55 257 ≤ 3 := (h.2.1 55 257).2.2.2.2.2.2.2.2.2.1 rfl
theorem ba_st {M : Mem} (h : Box M) {x : Int} (h1 : 10 ≤ x) (h2 : x < 154) (h3 : 1 ≤ (x - 10) % 9 ∧ (x - 10) % 9 ≤ 4) : -1 ≤ mI M 55 x.toNat ∧ mI M 55 x.toNat ≤ 15 := by
  obtain ⟨-, -, -, -, -, -, -, -, -, -, q, -⟩ := h.2.1 55 x.toNat
  exact q (by omega) (by omega) (by omega) (by omega)
theorem ba_tc {M : Mem} (h : Box M) {x : Int} (h1 : 154 ≤ x) (h2 : x < 184) (h3 : (x - 154) % 5 = 0) : 0 ≤ mI M 55 x.toNat ∧ mI M 55 x.toNat ≤ 15 := by
  obtain ⟨-, -, -, -, -, -, -, -, -, -, -, q, -⟩ := h.2.1 55 x.toNat
  exact q (by omega) (by omega) (by omega)
theorem ba_t0 {M : Mem} (h : Box M) {x : Int} (h1 : 184 ≤ x) (h2 : x < 256) (h3 : (x - 184) % 9 = 0) : 0 ≤ mI M 55 x.toNat ∧ mI M 55 x.toNat ≤ 5 := by
  obtain ⟨-, -, -, -, -, -, -, -, -, -, -, -, q, -⟩ := h.2.1 55 x.toNat
  exact q (by omega) (by omega) (by omega)
theorem ba_t1 {M : Mem} (h : Box M) {x : Int} (h1 : 184 ≤ x) (h2 : x < 256) (h3 : (x - 184) % 9 = 1) : 0 ≤ mI M 55 x.toNat ∧ mI M 55 x.toNat ≤ 3 := by
  obtain ⟨-, -, -, -, -, -, -, -, -, -, -, -, -, q, -⟩ := h.2.1 55 x.toNat
  exact q (by omega) (by omega) (by omega)
theorem ba_t2 {M : Mem} (h : Box M) {x : Int} (h1 : 184 ≤ x) (h2 : x < 256) (h3 : (x - 184) % 9 = 2) : 0 ≤ mI M 55 x.toNat ∧ mI M 55 x.toNat ≤ 6 := by
  obtain ⟨-, -, -, -, -, -, -, -, -, -, -, -, -, -, q, -⟩ := h.2.1 55 x.toNat
  exact q (by omega) (by omega) (by omega)
/-- a write to the row a that the relations don't speak of -/
theorem BX.a {M0 M : Mem} (h : BX M0 M) {x v : Int} (h0 : 0 ≤ x) (h9 : x < 589) (hv : aB x.toNat v) (n0 : x ≠ 0) (n3 : x ≠ 3) (n5 : x ≠ 5) (n6 : x ≠ 6) (ns : x < 10 ∨ 154 ≤ x ∨ (x - 10) % 9 = 0 ∨ 5 ≤ (x - 10) % 9) (nc : x < 184 ∨ 256 ≤ x ∨ (x - 184) % 9 ≠ 2) : BX M0 (sI M 55 x.toNat v) := by
  obtain ⟨⟨h1, h2, h3, h4, h5, h6, h7⟩, hd⟩ := h
  have eo : ∀ b, b ≠ x.toNat → mI (sI M 55 x.toNat v) 55 b = mI M 55 b := fun b hb => by rw [mI_sI, if_neg (fun e => hb e.2)]
  have e6 : mI (sI M 55 x.toNat v) 56 = mI M 56 := funext fun b => by rw [mI_sI, if_neg (fun e => by omega)]
  have e7 : mI (sI M 55 x.toNat v) 57 = mI M 57 := funext fun b => by rw [mI_sI, if_neg (fun e => by omega)]
  refine ⟨⟨h1, bx_sI h2 hv, h3.same ((Dz.refl M).sI (by decide)) (fun _ _ _ => rfl), ?_⟩, hd.sI (by decide)⟩
  have z0 := eo 0 (by omega)
  have z3 := eo 3 (by omega)
  have z5 := eo 5 (by omega)
  have z6 := eo 6 (by omega)
  refine ⟨⟨fun c d hc hd => ?_, fun t ht => ?_, ?_⟩, by rw [e6]; exact h5, by rw [e6, z5]; exact h6, by rw [e7, z5]; exact h7⟩
  · have hb := (h2 55 0).1 rfl
    rw [z0] at hc ⊢
    rw [eo _ (by omega)]
    exact h4.1 c d hc hd
  · have hb := (h2 55 3).2.2.2.1 rfl
    rw [z3] at ht
    rw [eo _ (by omega)]
    exact h4.2.1 t ht
  · rw [z6, z5]
    exact h4.2.2
/-- places that only feed, end, text, image and back write: the tape, the fault, the count of texts -/
def fz (k j : Nat) : Bool := match k with
  | 0 => j == 13 || j == 14 || j == 15
  | 1 => j == 10
  | 8 => j == 10
  | 21 => true
  | 54 => j == 6 || j == 7 || j == 8
  | 55 => j == 5
  | 56 => true
  | 59 => true
  | _ => false
theorem fz_lt {k j : Nat} (h : fz k j = true) : k < 75 := by
  unfold fz at h
  split at h <;> first | omega | cases h
def Fz (A B : Mem) : Prop := ∀ k j, fz k j = true → mI B k j = mI A k j
def Dy (A B : Mem) : Prop := Dz A B ∧ Fz A B
def BD (A B : Mem) : Prop := Box B ∧ Dy A B
theorem Fz.refl (M : Mem) : Fz M M := fun _ _ _ => rfl
theorem Fz.trans {A B C : Mem} (h1 : Fz A B) (h2 : Fz B C) : Fz A C := fun k j h => (h2 k j h).trans (h1 k j h)
theorem Fz.sI {M : Mem} {k j : Nat} {v : Int} (hf : fz k j = false) : Fz M (sI M k j v) := fun a b h => by
  rw [mI_sI, if_neg (fun e => by rw [e.1, e.2, hf] at h; cases h)]
theorem Fz.cp {M : Mem} {k f d s n : Nat} (hf : ∀ j, fz k j = false) : Fz M (cpI M k f d s n) := fun a b h => by
  rw [mI_cpI, if_neg (fun e => by rw [e.1, hf] at h; cases h)]
theorem Dy.refl (M : Mem) : Dy M M := ⟨Dz.refl M, Fz.refl M⟩
theorem Dy.trans {A B C : Mem} (h1 : Dy A B) (h2 : Dy B C) : Dy A C := ⟨h1.1.trans h2.1, h1.2.trans h2.2⟩
theorem BD.start {M : Mem} (h : Box M) : BD M M := ⟨h, Dy.refl M⟩
theorem BD.go {A B C : Mem} (h1 : BD A B) (h2 : BD B C) : BD A C := ⟨h2.1, h1.2.trans h2.2⟩
theorem BD.x {A B : Mem} (h : BD A B) : BX A B := ⟨h.1, h.2.1⟩
theorem BD.of {A B C : Mem} (h : BD A B) (hx : BX B C) (hf : Fz B C) : BD A C := ⟨hx.1, h.2.1.trans hx.2, h.2.2.trans hf⟩
theorem TxO.dy {A B : Mem} {y : Nat} (h : TxO A y) (hd : Dy A B) : TxO B y := h.dz hd.1
theorem Dy.sh {A B : Mem} (h : Dy A B) {k : Nat} {x : Sh} (hk : 75 ≤ k) (hs : A.1[k]? = some x) : B.1[k]? = some x := h.1.sh hk hs
theorem Dy.rf {A B : Mem} (h : Dy A B) {k : Nat} {x : Sh} (hk : 75 ≤ k) (hs : A.1[k]? = some x) (j : Nat) : mR B k j = mR A k j := h.1.rf hk hs j
theorem Dy.vl {A B : Mem} (h : Dy A B) {k : Nat} {x : Sh} (hk : 75 ≤ k) (hs : A.1[k]? = some x) {j : Nat} : mI B k j = mI A k j := h.1.vl hk hs
theorem BD.J {A M : Mem} (h : BD A M) (k j : Nat) (v : Int) : BD A (sJ M k j v) := h.of ((BX.start h.1).J k j v) (fun _ _ _ => rfl)
theorem BD.T7 {A M : Mem} (h : BD A M) (j : Nat) {v : Option Nat} (hv : ∀ y, v = some y → TxO M y) : BD A (sR M 7 j v) := h.of ((BX.start h.1).T7 j hv) (fun _ _ _ => rfl)
theorem BD.T14 {A M : Mem} (h : BD A M) (j : Nat) {v : Option Nat} (hv : ∀ y, v = some y → TxO M y) : BD A (sR M 14 j v) := h.of ((BX.start h.1).T14 j hv) (fun _ _ _ => rfl)
theorem BD.tx {A M : Mem} (h : BD A M) {k j : Nat} (hk : k = 7 ∨ k = 14) {v : Option Nat} (e : v = mR M k j) : ∀ y, v = some y → TxO M y := fun y hy => h.1.2.2.1 k j y hk (e ▸ hy)
theorem fz_55 {x : Int} (h0 : 0 ≤ x) (n5 : x ≠ 5) : fz 55 x.toNat = false := by
  show (x.toNat == 5) = false
  simp only [beq_eq_false_iff_ne]
  omega
theorem BD.w1_6 {A M : Mem} (h : BD A M) {v : Int} (h1 : 0 ≤ v) (h2 : v ≤ 16) : BD A (sI M 1 6 v) := h.of ((BX.start h.1).w1_6 h1 h2) (Fz.sI rfl)
theorem BD.w1_7 {A M : Mem} (h : BD A M) {v : Int} (h1 : (-1) ≤ v) (h2 : v ≤ 15) : BD A (sI M 1 7 v) := h.of ((BX.start h.1).w1_7 h1 h2) (Fz.sI rfl)
theorem BD.w1_8 {A M : Mem} (h : BD A M) {v : Int} (h1 : 0 ≤ v) (h2 : v ≤ 6) : BD A (sI M 1 8 v) := h.of ((BX.start h.1).w1_8 h1 h2) (Fz.sI rfl)
theorem BD.w1_9 {A M : Mem} (h : BD A M) {v : Int} (h1 : 0 ≤ v) (h2 : v ≤ 8) : BD A (sI M 1 9 v) := h.of ((BX.start h.1).w1_9 h1 h2) (Fz.sI rfl)
theorem BD.w1_11 {A M : Mem} (h : BD A M) {v : Int} : BD A (sI M 1 11 v) := h.of ((BX.start h.1).w1_11 ) (Fz.sI rfl)
theorem BD.C2 {A M : Mem} (h : BD A M) (f d s n : Nat) : BD A (cpI M 2 f d s n) := h.of ((BX.start h.1).C2 f d s n) (Fz.cp (fun _ => rfl))
theorem BD.w2 {A M : Mem} (h : BD A M) (j : Nat) {v : Int} : BD A (sI M 2 j v) := h.of ((BX.start h.1).w2 j) (Fz.sI rfl)
theorem BD.w3 {A M : Mem} (h : BD A M) (j : Nat) {v : Int} (h1 : (-1) ≤ v) (h2 : v ≤ 15) : BD A (sI M 3 j v) := h.of ((BX.start h.1).w3 j h1 h2) (Fz.sI rfl)
theorem BD.C4 {A M : Mem} (h : BD A M) (f d s n : Nat) : BD A (cpI M 4 f d s n) := h.of ((BX.start h.1).C4 f d s n) (Fz.cp (fun _ => rfl))
theorem BD.w4 {A M : Mem} (h : BD A M) (j : Nat) {v : Int} : BD A (sI M 4 j v) := h.of ((BX.start h.1).w4 j) (Fz.sI rfl)
theorem BD.C5 {A M : Mem} (h : BD A M) (f d s n : Nat) : BD A (cpI M 5 f d s n) := h.of ((BX.start h.1).C5 f d s n) (Fz.cp (fun _ => rfl))
theorem BD.w5 {A M : Mem} (h : BD A M) (j : Nat) {v : Int} : BD A (sI M 5 j v) := h.of ((BX.start h.1).w5 j) (Fz.sI rfl)
theorem BD.C6 {A M : Mem} (h : BD A M) (f d s n : Nat) : BD A (cpI M 6 f d s n) := h.of ((BX.start h.1).C6 f d s n) (Fz.cp (fun _ => rfl))
theorem BD.w6 {A M : Mem} (h : BD A M) (j : Nat) {v : Int} : BD A (sI M 6 j v) := h.of ((BX.start h.1).w6 j) (Fz.sI rfl)
theorem BD.w8_6 {A M : Mem} (h : BD A M) {v : Int} (h1 : 0 ≤ v) (h2 : v ≤ 16) : BD A (sI M 8 6 v) := h.of ((BX.start h.1).w8_6 h1 h2) (Fz.sI rfl)
theorem BD.w8_7 {A M : Mem} (h : BD A M) {v : Int} (h1 : (-1) ≤ v) (h2 : v ≤ 15) : BD A (sI M 8 7 v) := h.of ((BX.start h.1).w8_7 h1 h2) (Fz.sI rfl)
theorem BD.w8_8 {A M : Mem} (h : BD A M) {v : Int} (h1 : 0 ≤ v) (h2 : v ≤ 6) : BD A (sI M 8 8 v) := h.of ((BX.start h.1).w8_8 h1 h2) (Fz.sI rfl)
theorem BD.w8_9 {A M : Mem} (h : BD A M) {v : Int} (h1 : 0 ≤ v) (h2 : v ≤ 8) : BD A (sI M 8 9 v) := h.of ((BX.start h.1).w8_9 h1 h2) (Fz.sI rfl)
theorem BD.w8_11 {A M : Mem} (h : BD A M) {v : Int} : BD A (sI M 8 11 v) := h.of ((BX.start h.1).w8_11 ) (Fz.sI rfl)
theorem BD.C9 {A M : Mem} (h : BD A M) (f d s n : Nat) : BD A (cpI M 9 f d s n) := h.of ((BX.start h.1).C9 f d s n) (Fz.cp (fun _ => rfl))
theorem BD.w9 {A M : Mem} (h : BD A M) (j : Nat) {v : Int} : BD A (sI M 9 j v) := h.of ((BX.start h.1).w9 j) (Fz.sI rfl)
theorem BD.w10 {A M : Mem} (h : BD A M) (j : Nat) {v : Int} (h1 : (-1) ≤ v) (h2 : v ≤ 15) : BD A (sI M 10 j v) := h.of ((BX.start h.1).w10 j h1 h2) (Fz.sI rfl)
theorem BD.C11 {A M : Mem} (h : BD A M) (f d s n : Nat) : BD A (cpI M 11 f d s n) := h.of ((BX.start h.1).C11 f d s n) (Fz.cp (fun _ => rfl))
theorem BD.w11 {A M : Mem} (h : BD A M) (j : Nat) {v : Int} : BD A (sI M 11 j v) := h.of ((BX.start h.1).w11 j) (Fz.sI rfl)
theorem BD.C12 {A M : Mem} (h : BD A M) (f d s n : Nat) : BD A (cpI M 12 f d s n) := h.of ((BX.start h.1).C12 f d s n) (Fz.cp (fun _ => rfl))
theorem BD.w12 {A M : Mem} (h : BD A M) (j : Nat) {v : Int} : BD A (sI M 12 j v) := h.of ((BX.start h.1).w12 j) (Fz.sI rfl)
theorem BD.C13 {A M : Mem} (h : BD A M) (f d s n : Nat) : BD A (cpI M 13 f d s n) := h.of ((BX.start h.1).C13 f d s n) (Fz.cp (fun _ => rfl))
theorem BD.w13 {A M : Mem} (h : BD A M) (j : Nat) {v : Int} : BD A (sI M 13 j v) := h.of ((BX.start h.1).w13 j) (Fz.sI rfl)
theorem BD.w15_2 {A M : Mem} (h : BD A M) {v : Int} (h1 : 0 ≤ v) (h2 : v ≤ 30) : BD A (sI M 15 2 v) := h.of ((BX.start h.1).w15_2 h1 h2) (Fz.sI rfl)
theorem BD.w15_3 {A M : Mem} (h : BD A M) {v : Int} (h1 : 0 ≤ v) (h2 : v ≤ 29) : BD A (sI M 15 3 v) := h.of ((BX.start h.1).w15_3 h1 h2) (Fz.sI rfl)
theorem BD.C16 {A M : Mem} (h : BD A M) (f d s n : Nat) : BD A (cpI M 16 f d s n) := h.of ((BX.start h.1).C16 f d s n) (Fz.cp (fun _ => rfl))
theorem BD.w16 {A M : Mem} (h : BD A M) (j : Nat) {v : Int} : BD A (sI M 16 j v) := h.of ((BX.start h.1).w16 j) (Fz.sI rfl)
theorem BD.C17 {A M : Mem} (h : BD A M) (f d s n : Nat) : BD A (cpI M 17 f d s n) := h.of ((BX.start h.1).C17 f d s n) (Fz.cp (fun _ => rfl))
theorem BD.w17 {A M : Mem} (h : BD A M) (j : Nat) {v : Int} : BD A (sI M 17 j v) := h.of ((BX.start h.1).w17 j) (Fz.sI rfl)
theorem BD.w18_2 {A M : Mem} (h : BD A M) {v : Int} (h1 : 0 ≤ v) (h2 : v ≤ 30) : BD A (sI M 18 2 v) := h.of ((BX.start h.1).w18_2 h1 h2) (Fz.sI rfl)
theorem BD.w18_3 {A M : Mem} (h : BD A M) {v : Int} (h1 : 0 ≤ v) (h2 : v ≤ 29) : BD A (sI M 18 3 v) := h.of ((BX.start h.1).w18_3 h1 h2) (Fz.sI rfl)
theorem BD.C19 {A M : Mem} (h : BD A M) (f d s n : Nat) : BD A (cpI M 19 f d s n) := h.of ((BX.start h.1).C19 f d s n) (Fz.cp (fun _ => rfl))
theorem BD.w19 {A M : Mem} (h : BD A M) (j : Nat) {v : Int} : BD A (sI M 19 j v) := h.of ((BX.start h.1).w19 j) (Fz.sI rfl)
theorem BD.C20 {A M : Mem} (h : BD A M) (f d s n : Nat) : BD A (cpI M 20 f d s n) := h.of ((BX.start h.1).C20 f d s n) (Fz.cp (fun _ => rfl))
theorem BD.w20 {A M : Mem} (h : BD A M) (j : Nat) {v : Int} : BD A (sI M 20 j v) := h.of ((BX.start h.1).w20 j) (Fz.sI rfl)
theorem BD.w22_7 {A M : Mem} (h : BD A M) {v : Int} : BD A (sI M 22 7 v) := h.of ((BX.start h.1).w22_7 ) (Fz.sI rfl)
theorem BD.w22_8 {A M : Mem} (h : BD A M) {v : Int} : BD A (sI M 22 8 v) := h.of ((BX.start h.1).w22_8 ) (Fz.sI rfl)
theorem BD.w22_9 {A M : Mem} (h : BD A M) {v : Int} (h1 : (-1) ≤ v) (h2 : v ≤ 300) : BD A (sI M 22 9 v) := h.of ((BX.start h.1).w22_9 h1 h2) (Fz.sI rfl)
theorem BD.w22_10 {A M : Mem} (h : BD A M) {v : Int} : BD A (sI M 22 10 v) := h.of ((BX.start h.1).w22_10 ) (Fz.sI rfl)
theorem BD.w22_11 {A M : Mem} (h : BD A M) {v : Int} : BD A (sI M 22 11 v) := h.of ((BX.start h.1).w22_11 ) (Fz.sI rfl)
theorem BD.w22_12 {A M : Mem} (h : BD A M) {v : Int} (h1 : 0 ≤ v) (h2 : v ≤ 300) : BD A (sI M 22 12 v) := h.of ((BX.start h.1).w22_12 h1 h2) (Fz.sI rfl)
theorem BD.w22_13 {A M : Mem} (h : BD A M) {v : Int} (h1 : 0 ≤ v) (h2 : v ≤ 24) : BD A (sI M 22 13 v) := h.of ((BX.start h.1).w22_13 h1 h2) (Fz.sI rfl)
theorem BD.w22_14 {A M : Mem} (h : BD A M) {v : Int} : BD A (sI M 22 14 v) := h.of ((BX.start h.1).w22_14 ) (Fz.sI rfl)
theorem BD.C23 {A M : Mem} (h : BD A M) (f d s n : Nat) : BD A (cpI M 23 f d s n) := h.of ((BX.start h.1).C23 f d s n) (Fz.cp (fun _ => rfl))
theorem BD.w23 {A M : Mem} (h : BD A M) (j : Nat) {v : Int} : BD A (sI M 23 j v) := h.of ((BX.start h.1).w23 j) (Fz.sI rfl)
theorem BD.w24 {A M : Mem} (h : BD A M) (j : Nat) {v : Int} (h1 : (-1) ≤ v) (h2 : v ≤ 300) : BD A (sI M 24 j v) := h.of ((BX.start h.1).w24 j h1 h2) (Fz.sI rfl)
theorem BD.C25 {A M : Mem} (h : BD A M) (f d s n : Nat) : BD A (cpI M 25 f d s n) := h.of ((BX.start h.1).C25 f d s n) (Fz.cp (fun _ => rfl))
theorem BD.w25 {A M : Mem} (h : BD A M) (j : Nat) {v : Int} : BD A (sI M 25 j v) := h.of ((BX.start h.1).w25 j) (Fz.sI rfl)
theorem BD.C26 {A M : Mem} (h : BD A M) (f d s n : Nat) : BD A (cpI M 26 f d s n) := h.of ((BX.start h.1).C26 f d s n) (Fz.cp (fun _ => rfl))
theorem BD.w26 {A M : Mem} (h : BD A M) (j : Nat) {v : Int} : BD A (sI M 26 j v) := h.of ((BX.start h.1).w26 j) (Fz.sI rfl)
theorem BD.C27 {A M : Mem} (h : BD A M) (f d s n : Nat) : BD A (cpI M 27 f d s n) := h.of ((BX.start h.1).C27 f d s n) (Fz.cp (fun _ => rfl))
theorem BD.w27 {A M : Mem} (h : BD A M) (j : Nat) {v : Int} : BD A (sI M 27 j v) := h.of ((BX.start h.1).w27 j) (Fz.sI rfl)
theorem BD.C28 {A M : Mem} (h : BD A M) (f d s n : Nat) : BD A (cpI M 28 f d s n) := h.of ((BX.start h.1).C28 f d s n) (Fz.cp (fun _ => rfl))
theorem BD.w28 {A M : Mem} (h : BD A M) (j : Nat) {v : Int} : BD A (sI M 28 j v) := h.of ((BX.start h.1).w28 j) (Fz.sI rfl)
theorem BD.C30 {A M : Mem} (h : BD A M) (f d s n : Nat) : BD A (cpI M 30 f d s n) := h.of ((BX.start h.1).C30 f d s n) (Fz.cp (fun _ => rfl))
theorem BD.w30 {A M : Mem} (h : BD A M) (j : Nat) {v : Int} : BD A (sI M 30 j v) := h.of ((BX.start h.1).w30 j) (Fz.sI rfl)
theorem BD.C31 {A M : Mem} (h : BD A M) (f d s n : Nat) : BD A (cpI M 31 f d s n) := h.of ((BX.start h.1).C31 f d s n) (Fz.cp (fun _ => rfl))
theorem BD.w31 {A M : Mem} (h : BD A M) (j : Nat) {v : Int} : BD A (sI M 31 j v) := h.of ((BX.start h.1).w31 j) (Fz.sI rfl)
theorem BD.w32_2 {A M : Mem} (h : BD A M) {v : Int} : BD A (sI M 32 2 v) := h.of ((BX.start h.1).w32_2 ) (Fz.sI rfl)
theorem BD.w32_3 {A M : Mem} (h : BD A M) {v : Int} : BD A (sI M 32 3 v) := h.of ((BX.start h.1).w32_3 ) (Fz.sI rfl)
theorem BD.w32_4 {A M : Mem} (h : BD A M) {v : Int} (h1 : 0 ≤ v) (h2 : v ≤ 40) : BD A (sI M 32 4 v) := h.of ((BX.start h.1).w32_4 h1 h2) (Fz.sI rfl)
theorem BD.C33 {A M : Mem} (h : BD A M) (f d s n : Nat) : BD A (cpI M 33 f d s n) := h.of ((BX.start h.1).C33 f d s n) (Fz.cp (fun _ => rfl))
theorem BD.w33 {A M : Mem} (h : BD A M) (j : Nat) {v : Int} : BD A (sI M 33 j v) := h.of ((BX.start h.1).w33 j) (Fz.sI rfl)
theorem BD.C36 {A M : Mem} (h : BD A M) (f d s n : Nat) : BD A (cpI M 36 f d s n) := h.of ((BX.start h.1).C36 f d s n) (Fz.cp (fun _ => rfl))
theorem BD.w36 {A M : Mem} (h : BD A M) (j : Nat) {v : Int} : BD A (sI M 36 j v) := h.of ((BX.start h.1).w36 j) (Fz.sI rfl)
theorem BD.C37 {A M : Mem} (h : BD A M) (f d s n : Nat) : BD A (cpI M 37 f d s n) := h.of ((BX.start h.1).C37 f d s n) (Fz.cp (fun _ => rfl))
theorem BD.w37 {A M : Mem} (h : BD A M) (j : Nat) {v : Int} : BD A (sI M 37 j v) := h.of ((BX.start h.1).w37 j) (Fz.sI rfl)
theorem BD.C38 {A M : Mem} (h : BD A M) (f d s n : Nat) : BD A (cpI M 38 f d s n) := h.of ((BX.start h.1).C38 f d s n) (Fz.cp (fun _ => rfl))
theorem BD.w38 {A M : Mem} (h : BD A M) (j : Nat) {v : Int} : BD A (sI M 38 j v) := h.of ((BX.start h.1).w38 j) (Fz.sI rfl)
theorem BD.w40_9 {A M : Mem} (h : BD A M) {v : Int} (h1 : 0 ≤ v) (h2 : v ≤ 5) : BD A (sI M 40 9 v) := h.of ((BX.start h.1).w40_9 h1 h2) (Fz.sI rfl)
theorem BD.C41 {A M : Mem} (h : BD A M) (f d s n : Nat) : BD A (cpI M 41 f d s n) := h.of ((BX.start h.1).C41 f d s n) (Fz.cp (fun _ => rfl))
theorem BD.w41 {A M : Mem} (h : BD A M) (j : Nat) {v : Int} : BD A (sI M 41 j v) := h.of ((BX.start h.1).w41 j) (Fz.sI rfl)
theorem BD.C42 {A M : Mem} (h : BD A M) (f d s n : Nat) : BD A (cpI M 42 f d s n) := h.of ((BX.start h.1).C42 f d s n) (Fz.cp (fun _ => rfl))
theorem BD.w42 {A M : Mem} (h : BD A M) (j : Nat) {v : Int} : BD A (sI M 42 j v) := h.of ((BX.start h.1).w42 j) (Fz.sI rfl)
theorem BD.w43 {A M : Mem} (h : BD A M) (j : Nat) {v : Int} (h1 : 0 ≤ v) (h2 : v ≤ 15) : BD A (sI M 43 j v) := h.of ((BX.start h.1).w43 j h1 h2) (Fz.sI rfl)
theorem BD.C44 {A M : Mem} (h : BD A M) (f d s n : Nat) : BD A (cpI M 44 f d s n) := h.of ((BX.start h.1).C44 f d s n) (Fz.cp (fun _ => rfl))
theorem BD.w44 {A M : Mem} (h : BD A M) (j : Nat) {v : Int} : BD A (sI M 44 j v) := h.of ((BX.start h.1).w44 j) (Fz.sI rfl)
theorem BD.C45 {A M : Mem} (h : BD A M) (f d s n : Nat) : BD A (cpI M 45 f d s n) := h.of ((BX.start h.1).C45 f d s n) (Fz.cp (fun _ => rfl))
theorem BD.w45 {A M : Mem} (h : BD A M) (j : Nat) {v : Int} : BD A (sI M 45 j v) := h.of ((BX.start h.1).w45 j) (Fz.sI rfl)
theorem BD.C47 {A M : Mem} (h : BD A M) (f d s n : Nat) : BD A (cpI M 47 f d s n) := h.of ((BX.start h.1).C47 f d s n) (Fz.cp (fun _ => rfl))
theorem BD.w47 {A M : Mem} (h : BD A M) (j : Nat) {v : Int} : BD A (sI M 47 j v) := h.of ((BX.start h.1).w47 j) (Fz.sI rfl)
theorem BD.C48 {A M : Mem} (h : BD A M) (f d s n : Nat) : BD A (cpI M 48 f d s n) := h.of ((BX.start h.1).C48 f d s n) (Fz.cp (fun _ => rfl))
theorem BD.w48 {A M : Mem} (h : BD A M) (j : Nat) {v : Int} : BD A (sI M 48 j v) := h.of ((BX.start h.1).w48 j) (Fz.sI rfl)
theorem BD.C49 {A M : Mem} (h : BD A M) (f d s n : Nat) : BD A (cpI M 49 f d s n) := h.of ((BX.start h.1).C49 f d s n) (Fz.cp (fun _ => rfl))
theorem BD.w49 {A M : Mem} (h : BD A M) (j : Nat) {v : Int} : BD A (sI M 49 j v) := h.of ((BX.start h.1).w49 j) (Fz.sI rfl)
theorem BD.w50_4 {A M : Mem} (h : BD A M) {v : Int} : BD A (sI M 50 4 v) := h.of ((BX.start h.1).w50_4 ) (Fz.sI rfl)
theorem BD.C51 {A M : Mem} (h : BD A M) (f d s n : Nat) : BD A (cpI M 51 f d s n) := h.of ((BX.start h.1).C51 f d s n) (Fz.cp (fun _ => rfl))
theorem BD.w51 {A M : Mem} (h : BD A M) (j : Nat) {v : Int} : BD A (sI M 51 j v) := h.of ((BX.start h.1).w51 j) (Fz.sI rfl)
theorem BD.w52 {A M : Mem} (h : BD A M) (j : Nat) {v : Int} (h1 : 0 ≤ v) (h2 : v ≤ 63) : BD A (sI M 52 j v) := h.of ((BX.start h.1).w52 j h1 h2) (Fz.sI rfl)
theorem BD.w53 {A M : Mem} (h : BD A M) (j : Nat) {v : Int} (h1 : 0 ≤ v) (h2 : v ≤ 63) : BD A (sI M 53 j v) := h.of ((BX.start h.1).w53 j h1 h2) (Fz.sI rfl)
theorem BD.w54_4 {A M : Mem} (h : BD A M) {v : Int} (h1 : 0 ≤ v) (h2 : v ≤ 6) : BD A (sI M 54 4 v) := h.of ((BX.start h.1).w54_4 h1 h2) (Fz.sI rfl)
theorem BD.w54_9 {A M : Mem} (h : BD A M) {v : Int} (h1 : 0 ≤ v) (h2 : v ≤ 300) : BD A (sI M 54 9 v) := h.of ((BX.start h.1).w54_9 h1 h2) (Fz.sI rfl)
theorem BD.w54_10 {A M : Mem} (h : BD A M) {v : Int} (h1 : 0 ≤ v) (h2 : v ≤ 300) : BD A (sI M 54 10 v) := h.of ((BX.start h.1).w54_10 h1 h2) (Fz.sI rfl)
theorem BD.w54_11 {A M : Mem} (h : BD A M) {v : Int} : BD A (sI M 54 11 v) := h.of ((BX.start h.1).w54_11 ) (Fz.sI rfl)
theorem BD.w54_12 {A M : Mem} (h : BD A M) {v : Int} : BD A (sI M 54 12 v) := h.of ((BX.start h.1).w54_12 ) (Fz.sI rfl)
theorem BD.w54_14 {A M : Mem} (h : BD A M) {v : Int} (h1 : 0 ≤ v) (h2 : v ≤ 2619) : BD A (sI M 54 14 v) := h.of ((BX.start h.1).w54_14 h1 h2) (Fz.sI rfl)
theorem BD.w54_15 {A M : Mem} (h : BD A M) {v : Int} (h1 : 0 ≤ v) (h2 : v ≤ 300) : BD A (sI M 54 15 v) := h.of ((BX.start h.1).w54_15 h1 h2) (Fz.sI rfl)
theorem BD.w54_16 {A M : Mem} (h : BD A M) {v : Int} : BD A (sI M 54 16 v) := h.of ((BX.start h.1).w54_16 ) (Fz.sI rfl)
theorem BD.w54_18 {A M : Mem} (h : BD A M) {v : Int} (h1 : 0 ≤ v) (h2 : v ≤ 160) : BD A (sI M 54 18 v) := h.of ((BX.start h.1).w54_18 h1 h2) (Fz.sI rfl)
theorem BD.w54_19 {A M : Mem} (h : BD A M) {v : Int} : BD A (sI M 54 19 v) := h.of ((BX.start h.1).w54_19 ) (Fz.sI rfl)
theorem BD.w54_20 {A M : Mem} (h : BD A M) {v : Int} : BD A (sI M 54 20 v) := h.of ((BX.start h.1).w54_20 ) (Fz.sI rfl)
theorem BD.w54_21 {A M : Mem} (h : BD A M) {v : Int} : BD A (sI M 54 21 v) := h.of ((BX.start h.1).w54_21 ) (Fz.sI rfl)
theorem BD.w54_24 {A M : Mem} (h : BD A M) {v : Int} (h1 : 0 ≤ v) (h2 : v ≤ 15) : BD A (sI M 54 24 v) := h.of ((BX.start h.1).w54_24 h1 h2) (Fz.sI rfl)
theorem BD.w54_25 {A M : Mem} (h : BD A M) {v : Int} (h1 : 0 ≤ v) (h2 : v ≤ 3) : BD A (sI M 54 25 v) := h.of ((BX.start h.1).w54_25 h1 h2) (Fz.sI rfl)
theorem BD.w54_26 {A M : Mem} (h : BD A M) {v : Int} : BD A (sI M 54 26 v) := h.of ((BX.start h.1).w54_26 ) (Fz.sI rfl)
theorem BD.w54_27 {A M : Mem} (h : BD A M) {v : Int} (h1 : 0 ≤ v) (h2 : v ≤ 40) : BD A (sI M 54 27 v) := h.of ((BX.start h.1).w54_27 h1 h2) (Fz.sI rfl)
theorem BD.w54_28 {A M : Mem} (h : BD A M) {v : Int} : BD A (sI M 54 28 v) := h.of ((BX.start h.1).w54_28 ) (Fz.sI rfl)
theorem BD.w54_29 {A M : Mem} (h : BD A M) {v : Int} : BD A (sI M 54 29 v) := h.of ((BX.start h.1).w54_29 ) (Fz.sI rfl)
theorem BD.w54_30 {A M : Mem} (h : BD A M) {v : Int} : BD A (sI M 54 30 v) := h.of ((BX.start h.1).w54_30 ) (Fz.sI rfl)
theorem BD.w54_32 {A M : Mem} (h : BD A M) {v : Int} (h1 : 0 ≤ v) (h2 : v ≤ 6) : BD A (sI M 54 32 v) := h.of ((BX.start h.1).w54_32 h1 h2) (Fz.sI rfl)
theorem BD.w54_43 {A M : Mem} (h : BD A M) {v : Int} (h1 : 0 ≤ v) (h2 : v ≤ 5) : BD A (sI M 54 43 v) := h.of ((BX.start h.1).w54_43 h1 h2) (Fz.sI rfl)
theorem BD.C58 {A M : Mem} (h : BD A M) (f d s n : Nat) : BD A (cpI M 58 f d s n) := h.of ((BX.start h.1).C58 f d s n) (Fz.cp (fun _ => rfl))
theorem BD.w58 {A M : Mem} (h : BD A M) (j : Nat) {v : Int} : BD A (sI M 58 j v) := h.of ((BX.start h.1).w58 j) (Fz.sI rfl)
theorem BD.C60 {A M : Mem} (h : BD A M) (f d s n : Nat) : BD A (cpI M 60 f d s n) := h.of ((BX.start h.1).C60 f d s n) (Fz.cp (fun _ => rfl))
theorem BD.w60 {A M : Mem} (h : BD A M) (j : Nat) {v : Int} : BD A (sI M 60 j v) := h.of ((BX.start h.1).w60 j) (Fz.sI rfl)
theorem BD.C61 {A M : Mem} (h : BD A M) (f d s n : Nat) : BD A (cpI M 61 f d s n) := h.of ((BX.start h.1).C61 f d s n) (Fz.cp (fun _ => rfl))
theorem BD.w61 {A M : Mem} (h : BD A M) (j : Nat) {v : Int} : BD A (sI M 61 j v) := h.of ((BX.start h.1).w61 j) (Fz.sI rfl)
theorem BD.C63 {A M : Mem} (h : BD A M) (f d s n : Nat) : BD A (cpI M 63 f d s n) := h.of ((BX.start h.1).C63 f d s n) (Fz.cp (fun _ => rfl))
theorem BD.w63 {A M : Mem} (h : BD A M) (j : Nat) {v : Int} : BD A (sI M 63 j v) := h.of ((BX.start h.1).w63 j) (Fz.sI rfl)
theorem BD.C64 {A M : Mem} (h : BD A M) (f d s n : Nat) : BD A (cpI M 64 f d s n) := h.of ((BX.start h.1).C64 f d s n) (Fz.cp (fun _ => rfl))
theorem BD.w64 {A M : Mem} (h : BD A M) (j : Nat) {v : Int} : BD A (sI M 64 j v) := h.of ((BX.start h.1).w64 j) (Fz.sI rfl)
theorem BD.C65 {A M : Mem} (h : BD A M) (f d s n : Nat) : BD A (cpI M 65 f d s n) := h.of ((BX.start h.1).C65 f d s n) (Fz.cp (fun _ => rfl))
theorem BD.w65 {A M : Mem} (h : BD A M) (j : Nat) {v : Int} : BD A (sI M 65 j v) := h.of ((BX.start h.1).w65 j) (Fz.sI rfl)
theorem BD.C67 {A M : Mem} (h : BD A M) (f d s n : Nat) : BD A (cpI M 67 f d s n) := h.of ((BX.start h.1).C67 f d s n) (Fz.cp (fun _ => rfl))
theorem BD.w67 {A M : Mem} (h : BD A M) (j : Nat) {v : Int} : BD A (sI M 67 j v) := h.of ((BX.start h.1).w67 j) (Fz.sI rfl)
theorem BD.C68 {A M : Mem} (h : BD A M) (f d s n : Nat) : BD A (cpI M 68 f d s n) := h.of ((BX.start h.1).C68 f d s n) (Fz.cp (fun _ => rfl))
theorem BD.w68 {A M : Mem} (h : BD A M) (j : Nat) {v : Int} : BD A (sI M 68 j v) := h.of ((BX.start h.1).w68 j) (Fz.sI rfl)
theorem BD.C69 {A M : Mem} (h : BD A M) (f d s n : Nat) : BD A (cpI M 69 f d s n) := h.of ((BX.start h.1).C69 f d s n) (Fz.cp (fun _ => rfl))
theorem BD.w69 {A M : Mem} (h : BD A M) (j : Nat) {v : Int} : BD A (sI M 69 j v) := h.of ((BX.start h.1).w69 j) (Fz.sI rfl)
theorem BD.w70 {A M : Mem} (h : BD A M) (j : Nat) {v : Int} (h1 : 0 ≤ v) (h2 : v ≤ 15) : BD A (sI M 70 j v) := h.of ((BX.start h.1).w70 j h1 h2) (Fz.sI rfl)
theorem BD.w71 {A M : Mem} (h : BD A M) (j : Nat) {v : Int} (h1 : 0 ≤ v) (h2 : v ≤ 4) : BD A (sI M 71 j v) := h.of ((BX.start h.1).w71 j h1 h2) (Fz.sI rfl)
theorem BD.w72 {A M : Mem} (h : BD A M) (j : Nat) {v : Int} (h1 : 0 ≤ v) (h2 : v ≤ 4) : BD A (sI M 72 j v) := h.of ((BX.start h.1).w72 j h1 h2) (Fz.sI rfl)
theorem BD.C73 {A M : Mem} (h : BD A M) (f d s n : Nat) : BD A (cpI M 73 f d s n) := h.of ((BX.start h.1).C73 f d s n) (Fz.cp (fun _ => rfl))
theorem BD.w73 {A M : Mem} (h : BD A M) (j : Nat) {v : Int} : BD A (sI M 73 j v) := h.of ((BX.start h.1).w73 j) (Fz.sI rfl)
theorem BD.w74 {A M : Mem} (h : BD A M) (j : Nat) {v : Int} (h1 : (-1) ≤ v) (h2 : v ≤ 3) : BD A (sI M 74 j v) := h.of ((BX.start h.1).w74 j h1 h2) (Fz.sI rfl)
theorem BD.C3 {A M : Mem} (h : BD A M) (f d s n : Nat) (hf : f = 10) : BD A (cpI M 3 f d s n) := h.of ((BX.start h.1).C3 f d s n hf) (Fz.cp (fun _ => rfl))
theorem BD.C10 {A M : Mem} (h : BD A M) (f d s n : Nat) (hf : f = 3) : BD A (cpI M 10 f d s n) := h.of ((BX.start h.1).C10 f d s n hf) (Fz.cp (fun _ => rfl))
theorem BD.a {A M : Mem} (h : BD A M) {x v : Int} (h0 : 0 ≤ x) (h9 : x < 589) (hv : aB x.toNat v) (n0 : x ≠ 0) (n3 : x ≠ 3) (n5 : x ≠ 5) (n6 : x ≠ 6) (ns : x < 10 ∨ 154 ≤ x ∨ (x - 10) % 9 = 0 ∨ 5 ≤ (x - 10) % 9) (nc : x < 184 ∨ 256 ≤ x ∨ (x - 184) % 9 ≠ 2) : BD A (sI M 55 x.toNat v) := h.of ((BX.start h.1).a h0 h9 hv n0 n3 n5 n6 ns nc) (Fz.sI (fz_55 h0 n5))
/-! CALLS by contracts with an answer that is only known to be such (written by wip/p35/h71.py) -/
section VCX
variable {l : Launch} {D : MD} {pc pc' tgt : Nat} {L L' : List (Option AV)} {st : List AV} {M : Mem} {kc ks : Nat} {Q : Option AV → Mem → Prop}
variable {D' : MD} {as : List AV}
theorem vc_cVI {P : Int → Mem → Prop} {idx k ci n : Nat} {T : u_T} {N : Nat} {stk : List AV} (hd : At (mB D) pc (.invokevirtual idx) 3 pc') (hcall : Call l D' (aR k :: as) M (fun r M2 => ∃ x : Int, r = some (aI x) ∧ P x M2)) (hstk : as.reverse ++ aR k :: st = stk) (hm : MOk D' n) (hv : MVi D') (hlk : LkM (mY D).cls idx D') (hs : M.1[k]? = some (.inl ci)) (hci : vwCl[ci]? = some ((mY D').cls, T, N)) (hlen : as.length = n) (hlev : mV D' < mV D) (h0 : mC D' = 0 ∧ mS D' = 0) (hc1 : kc ≤ mC D) (hc2 : ks ≤ mS D) (hsum : (st.map catA).sum ≤ 8) (kk : ∀ x M2, P x M2 → VC l D pc' L (aI x :: st) M2 kc ks Q) : VC l D pc L stk M kc ks Q :=
  vc_callV hd hm hv hlk hs hci hlen hlev (by rw [h0.1]; exact hc1) (by rw [h0.2]; exact hc2) hsum _ hstk hcall (fun r M' h _ => by obtain ⟨x, rfl, hp⟩ := h; rw [h0.1, h0.2]; exact kk x M' hp)
theorem vc_cSI {P : Int → Mem → Prop} {idx n : Nat} {stk : List AV} (hd : At (mB D) pc (.invokestatic idx) 3 pc') (hcall : Call l D' as M (fun r M2 => ∃ x : Int, r = some (aI x) ∧ P x M2)) (hstk : as.reverse ++ st = stk) (hm : MOk D' n) (hv : MSt D') (hlk : LkM (mY D).cls idx D') (hlen : as.length = n) (hlev : mV D' < mV D) (h0 : mC D' = 0 ∧ mS D' = 0) (hc1 : kc ≤ mC D) (hc2 : ks ≤ mS D) (hsum : (st.map catA).sum ≤ 8) (kk : ∀ x M2, P x M2 → VC l D pc' L (aI x :: st) M2 kc ks Q) : VC l D pc L stk M kc ks Q :=
  vc_callS hd hm hv hlk hlen hlev (by rw [h0.1]; exact hc1) (by rw [h0.2]; exact hc2) hsum _ hstk hcall (fun r M' h _ => by obtain ⟨x, rfl, hp⟩ := h; rw [h0.1, h0.2]; exact kk x M' hp)
theorem vc_cNI {P : Int → Mem → Prop} {idx n : Nat} {host : String} {stk : List AV} (hd : At (mB D) pc (.invokestatic idx) 3 pc') (hcall : Call l D' as M (fun r M2 => ∃ x : Int, r = some (aI x) ∧ P x M2)) (hstk : as.reverse ++ st = stk) (hm : MOk D' n) (hv : MSt D') (hlk : ∀ (A : Nat → Prop) (U : State) (H : Heap), Ext A U H → va_Nw (.methodLinkNest (mY D).cls idx (mY D') host) U) (hlen : as.length = n) (hlev : mV D' < mV D) (h0 : mC D' = 0 ∧ mS D' = 0) (hc1 : kc ≤ mC D) (hc2 : ks ≤ mS D) (hsum : (st.map catA).sum ≤ 8) (kk : ∀ x M2, P x M2 → VC l D pc' L (aI x :: st) M2 kc ks Q) : VC l D pc L stk M kc ks Q :=
  vc_callSN hd hm hv hlk hlen hlev (by rw [h0.1]; exact hc1) (by rw [h0.2]; exact hc2) hsum _ hstk hcall (fun r M' h _ => by obtain ⟨x, rfl, hp⟩ := h; rw [h0.1, h0.2]; exact kk x M' hp)
theorem vc_cVL {P : Int → Mem → Prop} {idx k ci n : Nat} {T : u_T} {N : Nat} {stk : List AV} (hd : At (mB D) pc (.invokevirtual idx) 3 pc') (hcall : Call l D' (aR k :: as) M (fun r M2 => ∃ x : Int, r = some (aL x) ∧ P x M2)) (hstk : as.reverse ++ aR k :: st = stk) (hm : MOk D' n) (hv : MVi D') (hlk : LkM (mY D).cls idx D') (hs : M.1[k]? = some (.inl ci)) (hci : vwCl[ci]? = some ((mY D').cls, T, N)) (hlen : as.length = n) (hlev : mV D' < mV D) (h0 : mC D' = 0 ∧ mS D' = 0) (hc1 : kc ≤ mC D) (hc2 : ks ≤ mS D) (hsum : (st.map catA).sum ≤ 8) (kk : ∀ x M2, P x M2 → VC l D pc' L (aL x :: st) M2 kc ks Q) : VC l D pc L stk M kc ks Q :=
  vc_callV hd hm hv hlk hs hci hlen hlev (by rw [h0.1]; exact hc1) (by rw [h0.2]; exact hc2) hsum _ hstk hcall (fun r M' h _ => by obtain ⟨x, rfl, hp⟩ := h; rw [h0.1, h0.2]; exact kk x M' hp)
theorem vc_cSL {P : Int → Mem → Prop} {idx n : Nat} {stk : List AV} (hd : At (mB D) pc (.invokestatic idx) 3 pc') (hcall : Call l D' as M (fun r M2 => ∃ x : Int, r = some (aL x) ∧ P x M2)) (hstk : as.reverse ++ st = stk) (hm : MOk D' n) (hv : MSt D') (hlk : LkM (mY D).cls idx D') (hlen : as.length = n) (hlev : mV D' < mV D) (h0 : mC D' = 0 ∧ mS D' = 0) (hc1 : kc ≤ mC D) (hc2 : ks ≤ mS D) (hsum : (st.map catA).sum ≤ 8) (kk : ∀ x M2, P x M2 → VC l D pc' L (aL x :: st) M2 kc ks Q) : VC l D pc L stk M kc ks Q :=
  vc_callS hd hm hv hlk hlen hlev (by rw [h0.1]; exact hc1) (by rw [h0.2]; exact hc2) hsum _ hstk hcall (fun r M' h _ => by obtain ⟨x, rfl, hp⟩ := h; rw [h0.1, h0.2]; exact kk x M' hp)
theorem vc_cNL {P : Int → Mem → Prop} {idx n : Nat} {host : String} {stk : List AV} (hd : At (mB D) pc (.invokestatic idx) 3 pc') (hcall : Call l D' as M (fun r M2 => ∃ x : Int, r = some (aL x) ∧ P x M2)) (hstk : as.reverse ++ st = stk) (hm : MOk D' n) (hv : MSt D') (hlk : ∀ (A : Nat → Prop) (U : State) (H : Heap), Ext A U H → va_Nw (.methodLinkNest (mY D).cls idx (mY D') host) U) (hlen : as.length = n) (hlev : mV D' < mV D) (h0 : mC D' = 0 ∧ mS D' = 0) (hc1 : kc ≤ mC D) (hc2 : ks ≤ mS D) (hsum : (st.map catA).sum ≤ 8) (kk : ∀ x M2, P x M2 → VC l D pc' L (aL x :: st) M2 kc ks Q) : VC l D pc L stk M kc ks Q :=
  vc_callSN hd hm hv hlk hlen hlev (by rw [h0.1]; exact hc1) (by rw [h0.2]; exact hc2) hsum _ hstk hcall (fun r M' h _ => by obtain ⟨x, rfl, hp⟩ := h; rw [h0.1, h0.2]; exact kk x M' hp)
theorem vc_cVO {P : Option Nat → Mem → Prop} {idx k ci n : Nat} {T : u_T} {N : Nat} {stk : List AV} (hd : At (mB D) pc (.invokevirtual idx) 3 pc') (hcall : Call l D' (aR k :: as) M (fun r M2 => ∃ x : Option Nat, r = some (.inr (.inr x)) ∧ P x M2)) (hstk : as.reverse ++ aR k :: st = stk) (hm : MOk D' n) (hv : MVi D') (hlk : LkM (mY D).cls idx D') (hs : M.1[k]? = some (.inl ci)) (hci : vwCl[ci]? = some ((mY D').cls, T, N)) (hlen : as.length = n) (hlev : mV D' < mV D) (h0 : mC D' = 0 ∧ mS D' = 0) (hc1 : kc ≤ mC D) (hc2 : ks ≤ mS D) (hsum : (st.map catA).sum ≤ 8) (kk : ∀ x M2, P x M2 → VC l D pc' L (.inr (.inr x) :: st) M2 kc ks Q) : VC l D pc L stk M kc ks Q :=
  vc_callV hd hm hv hlk hs hci hlen hlev (by rw [h0.1]; exact hc1) (by rw [h0.2]; exact hc2) hsum _ hstk hcall (fun r M' h _ => by obtain ⟨x, rfl, hp⟩ := h; rw [h0.1, h0.2]; exact kk x M' hp)
theorem vc_cSO {P : Option Nat → Mem → Prop} {idx n : Nat} {stk : List AV} (hd : At (mB D) pc (.invokestatic idx) 3 pc') (hcall : Call l D' as M (fun r M2 => ∃ x : Option Nat, r = some (.inr (.inr x)) ∧ P x M2)) (hstk : as.reverse ++ st = stk) (hm : MOk D' n) (hv : MSt D') (hlk : LkM (mY D).cls idx D') (hlen : as.length = n) (hlev : mV D' < mV D) (h0 : mC D' = 0 ∧ mS D' = 0) (hc1 : kc ≤ mC D) (hc2 : ks ≤ mS D) (hsum : (st.map catA).sum ≤ 8) (kk : ∀ x M2, P x M2 → VC l D pc' L (.inr (.inr x) :: st) M2 kc ks Q) : VC l D pc L stk M kc ks Q :=
  vc_callS hd hm hv hlk hlen hlev (by rw [h0.1]; exact hc1) (by rw [h0.2]; exact hc2) hsum _ hstk hcall (fun r M' h _ => by obtain ⟨x, rfl, hp⟩ := h; rw [h0.1, h0.2]; exact kk x M' hp)
theorem vc_cNO {P : Option Nat → Mem → Prop} {idx n : Nat} {host : String} {stk : List AV} (hd : At (mB D) pc (.invokestatic idx) 3 pc') (hcall : Call l D' as M (fun r M2 => ∃ x : Option Nat, r = some (.inr (.inr x)) ∧ P x M2)) (hstk : as.reverse ++ st = stk) (hm : MOk D' n) (hv : MSt D') (hlk : ∀ (A : Nat → Prop) (U : State) (H : Heap), Ext A U H → va_Nw (.methodLinkNest (mY D).cls idx (mY D') host) U) (hlen : as.length = n) (hlev : mV D' < mV D) (h0 : mC D' = 0 ∧ mS D' = 0) (hc1 : kc ≤ mC D) (hc2 : ks ≤ mS D) (hsum : (st.map catA).sum ≤ 8) (kk : ∀ x M2, P x M2 → VC l D pc' L (.inr (.inr x) :: st) M2 kc ks Q) : VC l D pc L stk M kc ks Q :=
  vc_callSN hd hm hv hlk hlen hlev (by rw [h0.1]; exact hc1) (by rw [h0.2]; exact hc2) hsum _ hstk hcall (fun r M' h _ => by obtain ⟨x, rfl, hp⟩ := h; rw [h0.1, h0.2]; exact kk x M' hp)
theorem vc_cVU {P : Mem → Prop} {idx k ci n : Nat} {T : u_T} {N : Nat} {stk : List AV} (hd : At (mB D) pc (.invokevirtual idx) 3 pc') (hcall : Call l D' (aR k :: as) M (fun r M2 => r = none ∧ P M2)) (hstk : as.reverse ++ aR k :: st = stk) (hm : MOk D' n) (hv : MVi D') (hlk : LkM (mY D).cls idx D') (hs : M.1[k]? = some (.inl ci)) (hci : vwCl[ci]? = some ((mY D').cls, T, N)) (hlen : as.length = n) (hlev : mV D' < mV D) (h0 : mC D' = 0 ∧ mS D' = 0) (hc1 : kc ≤ mC D) (hc2 : ks ≤ mS D) (hsum : (st.map catA).sum ≤ 8) (kk : ∀ M2, P M2 → VC l D pc' L st M2 kc ks Q) : VC l D pc L stk M kc ks Q :=
  vc_callV hd hm hv hlk hs hci hlen hlev (by rw [h0.1]; exact hc1) (by rw [h0.2]; exact hc2) hsum _ hstk hcall (fun r M' h _ => by obtain ⟨rfl, hp⟩ := h; rw [h0.1, h0.2]; exact kk M' hp)
theorem vc_cSU {P : Mem → Prop} {idx n : Nat} {stk : List AV} (hd : At (mB D) pc (.invokestatic idx) 3 pc') (hcall : Call l D' as M (fun r M2 => r = none ∧ P M2)) (hstk : as.reverse ++ st = stk) (hm : MOk D' n) (hv : MSt D') (hlk : LkM (mY D).cls idx D') (hlen : as.length = n) (hlev : mV D' < mV D) (h0 : mC D' = 0 ∧ mS D' = 0) (hc1 : kc ≤ mC D) (hc2 : ks ≤ mS D) (hsum : (st.map catA).sum ≤ 8) (kk : ∀ M2, P M2 → VC l D pc' L st M2 kc ks Q) : VC l D pc L stk M kc ks Q :=
  vc_callS hd hm hv hlk hlen hlev (by rw [h0.1]; exact hc1) (by rw [h0.2]; exact hc2) hsum _ hstk hcall (fun r M' h _ => by obtain ⟨rfl, hp⟩ := h; rw [h0.1, h0.2]; exact kk M' hp)
theorem vc_cNU {P : Mem → Prop} {idx n : Nat} {host : String} {stk : List AV} (hd : At (mB D) pc (.invokestatic idx) 3 pc') (hcall : Call l D' as M (fun r M2 => r = none ∧ P M2)) (hstk : as.reverse ++ st = stk) (hm : MOk D' n) (hv : MSt D') (hlk : ∀ (A : Nat → Prop) (U : State) (H : Heap), Ext A U H → va_Nw (.methodLinkNest (mY D).cls idx (mY D') host) U) (hlen : as.length = n) (hlev : mV D' < mV D) (h0 : mC D' = 0 ∧ mS D' = 0) (hc1 : kc ≤ mC D) (hc2 : ks ≤ mS D) (hsum : (st.map catA).sum ≤ 8) (kk : ∀ M2, P M2 → VC l D pc' L st M2 kc ks Q) : VC l D pc L stk M kc ks Q :=
  vc_callSN hd hm hv hlk hlen hlev (by rw [h0.1]; exact hc1) (by rw [h0.2]; exact hc2) hsum _ hstk hcall (fun r M' h _ => by obtain ⟨rfl, hp⟩ := h; rw [h0.1, h0.2]; exact kk M' hp)
theorem vc_ldcw {idx : Nat} {n : Int} (hd : At (mB D) pc (.ldc_w idx) 3 pc') (h : inB n = true) (hc : Cond.constant (mY D).cls idx (Int32.ofInt n) ∈ tblG) (k : VC l D pc' L (aI n :: st) M kc ks Q) : VC l D pc L st M kc ks Q := by
  intro p e s m args below meth c dC dI dA ad0 n0 A ad H locs ls C hA h0 hn hst hL hW hS hl
  obtain ⟨hd, rfl⟩ := hd
  refine lv_ldcw C.1 C.2.1 C.2.2.2.2.2.1 (C.2.2.2.2.2.2.1 _ hc) hd ?_
  exact k p e s m args below meth c dC dI dA ad0 n0 A ad H locs ls C hA h0 hn (okS_cons.mpr ⟨inB_ok h, hst⟩) hL hW hS hl
theorem vc_nameO {x : Option Nat} (k : ∀ y : Option Nat, y = x → VC l D pc L (.inr (.inr y) :: st) M kc ks Q) : VC l D pc L (.inr (.inr x) :: st) M kc ks Q := k x rfl
theorem mI_same {k j : Nat} {v : Int} : mI (sI M k j v) k j = v := if_pos ⟨rfl, rfl⟩
theorem mJ_same {k j : Nat} {v : Int} : mJ (sJ M k j v) k j = v := if_pos ⟨rfl, rfl⟩
end VCX
/-! CONTRACTS of Town, Walk: what they answer lies in its range, the box stays (written by wip/p35/c72.py) -/
set_option maxRecDepth 4000 in
theorem sfX11_isDirection {l : Launch} {M : Mem} (hB : Box M)  (d : Int)  : Call l mdX11_isDirection [aI d] M (fun q N => ∃ r : Int, q = some (aI r) ∧ M = N ∧ 0 ≤ r ∧ r ≤ 1 ∧ (r = 0 ∨ (0 ≤ d ∧ d ≤ 3))) := by
  have hB0 := BD.start hB
  refine Call.of [some (aI d)] rfl (Nat.le_of_ble_eq_true rfl) rfl ?_
  refine vc_ok (fun hoM hoS hoL => ?_)
  have hr0 : -2147483648 ≤ d ∧ d < 2147483648 := hoL 0 _ rfl
  refine vc_iload_n dX11_isDirection_0 rfl ?_
  refine vc_if_lt dX11_isDirection_1 (fun h1 => ?_) (fun h1 => ?_)
  · refine vc_iconst dX11_isDirection_13 rfl ?_
    refine vc_zret dX11_isDirection_14 rfl (by first | decide | omega) (Nat.le_of_ble_eq_true rfl) (Nat.le_of_ble_eq_true rfl) ?_
    exact ⟨_, rfl, rfl, by omega, by omega, by omega⟩
  · refine vc_iload_n dX11_isDirection_4 rfl ?_
    refine vc_iconst dX11_isDirection_5 rfl ?_
    refine vc_icmp_ge dX11_isDirection_6 (fun h2 => ?_) (fun h2 => ?_)
    · refine vc_iconst dX11_isDirection_13 rfl ?_
      refine vc_zret dX11_isDirection_14 rfl (by first | decide | omega) (Nat.le_of_ble_eq_true rfl) (Nat.le_of_ble_eq_true rfl) ?_
      exact ⟨_, rfl, rfl, by omega, by omega, by omega⟩
    · refine vc_iconst dX11_isDirection_9 rfl ?_
      refine vc_goto dX11_isDirection_10 ?_
      refine vc_zret dX11_isDirection_14 rfl (by first | decide | omega) (Nat.le_of_ble_eq_true rfl) (Nat.le_of_ble_eq_true rfl) ?_
      exact ⟨_, rfl, rfl, by omega, by omega, by omega⟩

set_option maxRecDepth 4000 in
theorem sfX11_isSlip {l : Launch} {M : Mem} (hB : Box M)  (d : Int)  : Call l mdX11_isSlip [aI d] M (fun q N => ∃ r : Int, q = some (aI r) ∧ M = N ∧ 0 ≤ r ∧ r ≤ 1) := by
  have hB0 := BD.start hB
  refine Call.of [some (aI d)] rfl (Nat.le_of_ble_eq_true rfl) rfl ?_
  refine vc_ok (fun hoM hoS hoL => ?_)
  have hr0 : -2147483648 ≤ d ∧ d < 2147483648 := hoL 0 _ rfl
  refine vc_iload_n dX11_isSlip_0 rfl ?_
  refine vc_if_lt dX11_isSlip_1 (fun h1 => ?_) (fun h1 => ?_)
  · refine vc_iconst dX11_isSlip_14 rfl ?_
    refine vc_zret dX11_isSlip_15 rfl (by first | decide | omega) (Nat.le_of_ble_eq_true rfl) (Nat.le_of_ble_eq_true rfl) ?_
    exact ⟨_, rfl, rfl, by omega, by omega⟩
  · refine vc_iload_n dX11_isSlip_4 rfl ?_
    refine vc_bipush dX11_isSlip_5 rfl ?_
    refine vc_icmp_gt dX11_isSlip_7 (fun h2 => ?_) (fun h2 => ?_)
    · refine vc_iconst dX11_isSlip_14 rfl ?_
      refine vc_zret dX11_isSlip_15 rfl (by first | decide | omega) (Nat.le_of_ble_eq_true rfl) (Nat.le_of_ble_eq_true rfl) ?_
      exact ⟨_, rfl, rfl, by omega, by omega⟩
    · refine vc_iconst dX11_isSlip_10 rfl ?_
      refine vc_goto dX11_isSlip_11 ?_
      refine vc_zret dX11_isSlip_15 rfl (by first | decide | omega) (Nat.le_of_ble_eq_true rfl) (Nat.le_of_ble_eq_true rfl) ?_
      exact ⟨_, rfl, rfl, by omega, by omega⟩

set_option maxRecDepth 4000 in
theorem sfX11_held {l : Launch} {M : Mem} (hB : Box M)  (v : Int) (lo : Int) (hi : Int)  : Call l mdX11_held [aI v, aI lo, aI hi] M (fun q N => ∃ r : Int, q = some (aI r) ∧ M = N) := by
  have hB0 := BD.start hB
  refine Call.of [some (aI v), some (aI lo), some (aI hi)] rfl (Nat.le_of_ble_eq_true rfl) rfl ?_
  refine vc_ok (fun hoM hoS hoL => ?_)
  have hr0 : -2147483648 ≤ v ∧ v < 2147483648 := hoL 0 _ rfl
  have hr1 : -2147483648 ≤ lo ∧ lo < 2147483648 := hoL 1 _ rfl
  have hr2 : -2147483648 ≤ hi ∧ hi < 2147483648 := hoL 2 _ rfl
  refine vc_iload_n dX11_held_0 rfl ?_
  refine vc_iload_n dX11_held_1 rfl ?_
  refine vc_iload_n dX11_held_2 rfl ?_
  refine vc_mminI dX11_held_3 lkX11_359 (Nat.le_of_ble_eq_true rfl) (Nat.le_of_ble_eq_true rfl) (Nat.le_of_ble_eq_true rfl) ?_
  have k1 := minZ_bd hi v
  refine vc_mmaxI dX11_held_6 lkX11_362 (Nat.le_of_ble_eq_true rfl) (Nat.le_of_ble_eq_true rfl) (Nat.le_of_ble_eq_true rfl) ?_
  have k2 := maxZ_bd lo (minZ hi v)
  refine vc_iret dX11_held_9 rfl (Nat.le_of_ble_eq_true rfl) (Nat.le_of_ble_eq_true rfl) ?_
  exact ⟨_, rfl, rfl⟩

set_option maxRecDepth 4000 in
theorem sfX1_sideOf {l : Launch} {M : Mem} (hB : Box M)  (fa : Int) (wh : Int)  : Call l mdX1_sideOf [aI fa, aI wh] M (fun q N => ∃ r : Int, q = some (aI r) ∧ M = N) := by
  have hB0 := BD.start hB
  refine Call.of [some (aI fa), some (aI wh)] rfl (Nat.le_of_ble_eq_true rfl) rfl ?_
  refine vc_ok (fun hoM hoS hoL => ?_)
  have hr0 : -2147483648 ≤ fa ∧ fa < 2147483648 := hoL 0 _ rfl
  have hr1 : -2147483648 ≤ wh ∧ wh < 2147483648 := hoL 1 _ rfl
  refine vc_iload_n dX1_sideOf_0 rfl ?_
  refine vc_iconst dX1_sideOf_1 rfl ?_
  refine vc_icmp_ne dX1_sideOf_2 (fun h1 => ?_) (fun h1 => ?_)
  · refine vc_iload_n dX1_sideOf_13 rfl ?_
    refine vc_iconst dX1_sideOf_14 rfl ?_
    refine vc_icmp_ne dX1_sideOf_15 (fun h2 => ?_) (fun h2 => ?_)
    · refine vc_iload_n dX1_sideOf_26 rfl ?_
      refine vc_iret dX1_sideOf_27 rfl (Nat.le_of_ble_eq_true rfl) (Nat.le_of_ble_eq_true rfl) ?_
      exact ⟨_, rfl, rfl⟩
    · refine vc_iload_n dX1_sideOf_18 rfl ?_
      refine vc_iconst dX1_sideOf_19 rfl ?_
      refine vc_iadd dX1_sideOf_20 ?_
      refine vc_iconst dX1_sideOf_21 rfl ?_
      refine vc_iandW dX1_sideOf_22 4 2 rfl (by decide) rfl ?_
      refine vc_goto dX1_sideOf_23 ?_
      refine vc_iret dX1_sideOf_27 rfl (Nat.le_of_ble_eq_true rfl) (Nat.le_of_ble_eq_true rfl) ?_
      exact ⟨_, rfl, rfl⟩
  · refine vc_iload_n dX1_sideOf_5 rfl ?_
    refine vc_iconst dX1_sideOf_6 rfl ?_
    refine vc_iadd dX1_sideOf_7 ?_
    refine vc_iconst dX1_sideOf_8 rfl ?_
    refine vc_iandW dX1_sideOf_9 4 2 rfl (by decide) rfl ?_
    refine vc_goto dX1_sideOf_10 ?_
    refine vc_iret dX1_sideOf_27 rfl (Nat.le_of_ble_eq_true rfl) (Nat.le_of_ble_eq_true rfl) ?_
    exact ⟨_, rfl, rfl⟩

set_option maxRecDepth 4000 in
theorem sfX1_sideOf_d {l : Launch} {M : Mem} (hB : Box M)  (fa : Int) (wh : Int) (p0 : 0 ≤ fa) (p1 : fa ≤ 3) : Call l mdX1_sideOf [aI fa, aI wh] M (fun q N => ∃ r : Int, q = some (aI r) ∧ M = N ∧ 0 ≤ r ∧ r ≤ 3) := by
  have hB0 := BD.start hB
  refine Call.of [some (aI fa), some (aI wh)] rfl (Nat.le_of_ble_eq_true rfl) rfl ?_
  refine vc_ok (fun hoM hoS hoL => ?_)
  have hr1 : -2147483648 ≤ wh ∧ wh < 2147483648 := hoL 1 _ rfl
  refine vc_iload_n dX1_sideOf_0 rfl ?_
  refine vc_iconst dX1_sideOf_1 rfl ?_
  refine vc_icmp_ne dX1_sideOf_2 (fun h1 => ?_) (fun h1 => ?_)
  · refine vc_iload_n dX1_sideOf_13 rfl ?_
    refine vc_iconst dX1_sideOf_14 rfl ?_
    refine vc_icmp_ne dX1_sideOf_15 (fun h2 => ?_) (fun h2 => ?_)
    · refine vc_iload_n dX1_sideOf_26 rfl ?_
      refine vc_iret dX1_sideOf_27 rfl (Nat.le_of_ble_eq_true rfl) (Nat.le_of_ble_eq_true rfl) ?_
      exact ⟨_, rfl, rfl, by omega, by omega⟩
    · refine vc_iload_n dX1_sideOf_18 rfl ?_
      refine vc_iconst dX1_sideOf_19 rfl ?_
      refine vc_iadd dX1_sideOf_20 ?_
      refine vc_iconst dX1_sideOf_21 rfl ?_
      refine vc_iandW dX1_sideOf_22 4 2 rfl (by decide) rfl ?_
      refine vc_goto dX1_sideOf_23 ?_
      refine vc_iret dX1_sideOf_27 rfl (Nat.le_of_ble_eq_true rfl) (Nat.le_of_ble_eq_true rfl) ?_
      exact ⟨_, rfl, rfl, by omega, by omega⟩
  · refine vc_iload_n dX1_sideOf_5 rfl ?_
    refine vc_iconst dX1_sideOf_6 rfl ?_
    refine vc_iadd dX1_sideOf_7 ?_
    refine vc_iconst dX1_sideOf_8 rfl ?_
    refine vc_iandW dX1_sideOf_9 4 2 rfl (by decide) rfl ?_
    refine vc_goto dX1_sideOf_10 ?_
    refine vc_iret dX1_sideOf_27 rfl (Nat.le_of_ble_eq_true rfl) (Nat.le_of_ble_eq_true rfl) ?_
    exact ⟨_, rfl, rfl, by omega, by omega⟩

set_option maxRecDepth 4000 in
theorem sfX6_hasCorner {l : Launch} {M : Mem} (hB : Box M)  (c : Int)  : Call l mdX6_hasCorner [aR 1, aI c] M (fun q N => ∃ r : Int, q = some (aI r) ∧ M = N ∧ 0 ≤ r ∧ r ≤ 1 ∧ (r = 0 ∨ (0 ≤ c ∧ c < mI M 1 6 ∧ c ≤ 15))) := by
  have hB0 := BD.start hB
  refine Call.of [some (aR 1), some (aI c)] rfl (Nat.le_of_ble_eq_true rfl) rfl ?_
  refine vc_ok (fun hoM hoS hoL => ?_)
  have hr1 : -2147483648 ≤ c ∧ c < 2147483648 := hoL 1 _ rfl
  refine vc_iload_n dX6_hasCorner_0 rfl ?_
  refine vc_if_lt dX6_hasCorner_1 (fun h1 => ?_) (fun h1 => ?_)
  · refine vc_iconst dX6_hasCorner_16 rfl ?_
    refine vc_zret dX6_hasCorner_17 rfl (by first | decide | omega) (Nat.le_of_ble_eq_true rfl) (Nat.le_of_ble_eq_true rfl) ?_
    exact ⟨_, rfl, rfl, by omega, by omega, by omega⟩
  · refine vc_iload_n dX6_hasCorner_4 rfl ?_
    refine vc_aload_n dX6_hasCorner_5 rfl ?_
    refine vc_getI dX6_hasCorner_6 flX6_52 (s_1 hB0.1.1) rfl ?_
    have k2 : 0 ≤ mI M 1 6 ∧ mI M 1 6 ≤ 16 := b1_6 (M := M) hB0.1
    refine vc_icmp_ge dX6_hasCorner_9 (fun h3 => ?_) (fun h3 => ?_)
    · refine vc_iconst dX6_hasCorner_16 rfl ?_
      refine vc_zret dX6_hasCorner_17 rfl (by first | decide | omega) (Nat.le_of_ble_eq_true rfl) (Nat.le_of_ble_eq_true rfl) ?_
      exact ⟨_, rfl, rfl, by omega, by omega, by omega⟩
    · refine vc_iconst dX6_hasCorner_12 rfl ?_
      refine vc_goto dX6_hasCorner_13 ?_
      refine vc_zret dX6_hasCorner_17 rfl (by first | decide | omega) (Nat.le_of_ble_eq_true rfl) (Nat.le_of_ble_eq_true rfl) ?_
      exact ⟨_, rfl, rfl, by omega, by omega, by omega⟩

set_option maxRecDepth 4000 in
theorem sfX6_hasTeller {l : Launch} {M : Mem} (hB : Box M)  (c : Int)  : Call l mdX6_hasTeller [aR 1, aI c] M (fun q N => ∃ r : Int, q = some (aI r) ∧ M = N ∧ 0 ≤ r ∧ r ≤ 1 ∧ (r = 0 ∨ (0 ≤ c ∧ c < mI M 1 8 ∧ c ≤ 5))) := by
  have hB0 := BD.start hB
  refine Call.of [some (aR 1), some (aI c)] rfl (Nat.le_of_ble_eq_true rfl) rfl ?_
  refine vc_ok (fun hoM hoS hoL => ?_)
  have hr1 : -2147483648 ≤ c ∧ c < 2147483648 := hoL 1 _ rfl
  refine vc_iload_n dX6_hasTeller_0 rfl ?_
  refine vc_if_lt dX6_hasTeller_1 (fun h1 => ?_) (fun h1 => ?_)
  · refine vc_iconst dX6_hasTeller_16 rfl ?_
    refine vc_zret dX6_hasTeller_17 rfl (by first | decide | omega) (Nat.le_of_ble_eq_true rfl) (Nat.le_of_ble_eq_true rfl) ?_
    exact ⟨_, rfl, rfl, by omega, by omega, by omega⟩
  · refine vc_iload_n dX6_hasTeller_4 rfl ?_
    refine vc_aload_n dX6_hasTeller_5 rfl ?_
    refine vc_getI dX6_hasTeller_6 flX6_55 (s_1 hB0.1.1) rfl ?_
    have k2 : 0 ≤ mI M 1 8 ∧ mI M 1 8 ≤ 6 := b1_8 (M := M) hB0.1
    refine vc_icmp_ge dX6_hasTeller_9 (fun h3 => ?_) (fun h3 => ?_)
    · refine vc_iconst dX6_hasTeller_16 rfl ?_
      refine vc_zret dX6_hasTeller_17 rfl (by first | decide | omega) (Nat.le_of_ble_eq_true rfl) (Nat.le_of_ble_eq_true rfl) ?_
      exact ⟨_, rfl, rfl, by omega, by omega, by omega⟩
    · refine vc_iconst dX6_hasTeller_12 rfl ?_
      refine vc_goto dX6_hasTeller_13 ?_
      refine vc_zret dX6_hasTeller_17 rfl (by first | decide | omega) (Nat.le_of_ble_eq_true rfl) (Nat.le_of_ble_eq_true rfl) ?_
      exact ⟨_, rfl, rfl, by omega, by omega, by omega⟩

set_option maxRecDepth 4000 in
theorem sfX6_hasTelling {l : Launch} {M : Mem} (hB : Box M)  (c : Int)  : Call l mdX6_hasTelling [aR 1, aI c] M (fun q N => ∃ r : Int, q = some (aI r) ∧ M = N ∧ 0 ≤ r ∧ r ≤ 1 ∧ (r = 0 ∨ (0 ≤ c ∧ c < mI M 1 9 ∧ c ≤ 7))) := by
  have hB0 := BD.start hB
  refine Call.of [some (aR 1), some (aI c)] rfl (Nat.le_of_ble_eq_true rfl) rfl ?_
  refine vc_ok (fun hoM hoS hoL => ?_)
  have hr1 : -2147483648 ≤ c ∧ c < 2147483648 := hoL 1 _ rfl
  refine vc_iload_n dX6_hasTelling_0 rfl ?_
  refine vc_if_lt dX6_hasTelling_1 (fun h1 => ?_) (fun h1 => ?_)
  · refine vc_iconst dX6_hasTelling_16 rfl ?_
    refine vc_zret dX6_hasTelling_17 rfl (by first | decide | omega) (Nat.le_of_ble_eq_true rfl) (Nat.le_of_ble_eq_true rfl) ?_
    exact ⟨_, rfl, rfl, by omega, by omega, by omega⟩
  · refine vc_iload_n dX6_hasTelling_4 rfl ?_
    refine vc_aload_n dX6_hasTelling_5 rfl ?_
    refine vc_getI dX6_hasTelling_6 flX6_58 (s_1 hB0.1.1) rfl ?_
    have k2 : 0 ≤ mI M 1 9 ∧ mI M 1 9 ≤ 8 := b1_9 (M := M) hB0.1
    refine vc_icmp_ge dX6_hasTelling_9 (fun h3 => ?_) (fun h3 => ?_)
    · refine vc_iconst dX6_hasTelling_16 rfl ?_
      refine vc_zret dX6_hasTelling_17 rfl (by first | decide | omega) (Nat.le_of_ble_eq_true rfl) (Nat.le_of_ble_eq_true rfl) ?_
      exact ⟨_, rfl, rfl, by omega, by omega, by omega⟩
    · refine vc_iconst dX6_hasTelling_12 rfl ?_
      refine vc_goto dX6_hasTelling_13 ?_
      refine vc_zret dX6_hasTelling_17 rfl (by first | decide | omega) (Nat.le_of_ble_eq_true rfl) (Nat.le_of_ble_eq_true rfl) ?_
      exact ⟨_, rfl, rfl, by omega, by omega, by omega⟩

set_option maxRecDepth 4000 in
theorem sfX6_sightOf {l : Launch} {M : Mem} (hB : Box M)  (c : Int)  : Call l mdX6_sightOf [aR 1, aI c] M (fun q N => ∃ r : Int, q = some (aI r) ∧ M = N) := by
  have hB0 := BD.start hB
  refine Call.of [some (aR 1), some (aI c)] rfl (Nat.le_of_ble_eq_true rfl) rfl ?_
  refine vc_ok (fun hoM hoS hoL => ?_)
  have hr1 : -2147483648 ≤ c ∧ c < 2147483648 := hoL 1 _ rfl
  refine vc_iload_n dX6_sightOf_0 rfl ?_
  refine vc_if_lt dX6_sightOf_1 (fun h1 => ?_) (fun h1 => ?_)
  · refine vc_iconst dX6_sightOf_21 rfl ?_
    refine vc_iret dX6_sightOf_22 rfl (Nat.le_of_ble_eq_true rfl) (Nat.le_of_ble_eq_true rfl) ?_
    exact ⟨_, rfl, rfl⟩
  · refine vc_iload_n dX6_sightOf_4 rfl ?_
    refine vc_aload_n dX6_sightOf_5 rfl ?_
    refine vc_getI dX6_sightOf_6 flX6_52 (s_1 hB0.1.1) rfl ?_
    have k2 : 0 ≤ mI M 1 6 ∧ mI M 1 6 ≤ 16 := b1_6 (M := M) hB0.1
    refine vc_icmp_ge dX6_sightOf_9 (fun h3 => ?_) (fun h3 => ?_)
    · refine vc_iconst dX6_sightOf_21 rfl ?_
      refine vc_iret dX6_sightOf_22 rfl (Nat.le_of_ble_eq_true rfl) (Nat.le_of_ble_eq_true rfl) ?_
      exact ⟨_, rfl, rfl⟩
    · refine vc_aload_n dX6_sightOf_12 rfl ?_
      refine vc_getR dX6_sightOf_13 flX6_9 (s_1 hB0.1.1) rfl (r_1_0 hB0.1.1) ?_
      refine vc_iload_n dX6_sightOf_16 rfl ?_
      refine vc_iaload dX6_sightOf_17 (s_2 hB0.1.1) (by omega) (by omega) ?_
      refine vc_goto dX6_sightOf_18 ?_
      refine vc_iret dX6_sightOf_22 rfl (Nat.le_of_ble_eq_true rfl) (Nat.le_of_ble_eq_true rfl) ?_
      exact ⟨_, rfl, rfl⟩

set_option maxRecDepth 4000 in
theorem sfX6_ahead {l : Launch} {M : Mem} (hB : Box M)  (c : Int) (d : Int)  : Call l mdX6_ahead [aR 1, aI c, aI d] M (fun q N => ∃ r : Int, q = some (aI r) ∧ M = N ∧ (-1) ≤ r ∧ r ≤ 15 ∧ (r = -1 ∨ r = mI M 3 (4 * c + d % 4).toNat) ∧ (¬ (0 ≤ c ∧ c < mI M 1 6) ∨ r = mI M 3 (4 * c + d % 4).toNat)) := by
  have hB0 := BD.start hB
  refine Call.of [some (aR 1), some (aI c), some (aI d)] rfl (Nat.le_of_ble_eq_true rfl) rfl ?_
  refine vc_ok (fun hoM hoS hoL => ?_)
  have hr1 : -2147483648 ≤ c ∧ c < 2147483648 := hoL 1 _ rfl
  have hr2 : -2147483648 ≤ d ∧ d < 2147483648 := hoL 2 _ rfl
  refine vc_iload_n dX6_ahead_0 rfl ?_
  refine vc_if_lt dX6_ahead_1 (fun h1 => ?_) (fun h1 => ?_)
  · refine vc_iconst dX6_ahead_27 rfl ?_
    refine vc_iret dX6_ahead_28 rfl (Nat.le_of_ble_eq_true rfl) (Nat.le_of_ble_eq_true rfl) ?_
    exact ⟨_, rfl, rfl, by omega, by omega, by omega, by omega⟩
  · refine vc_iload_n dX6_ahead_4 rfl ?_
    refine vc_aload_n dX6_ahead_5 rfl ?_
    refine vc_getI dX6_ahead_6 flX6_52 (s_1 hB0.1.1) rfl ?_
    have k2 : 0 ≤ mI M 1 6 ∧ mI M 1 6 ≤ 16 := b1_6 (M := M) hB0.1
    refine vc_icmp_ge dX6_ahead_9 (fun h3 => ?_) (fun h3 => ?_)
    · refine vc_iconst dX6_ahead_27 rfl ?_
      refine vc_iret dX6_ahead_28 rfl (Nat.le_of_ble_eq_true rfl) (Nat.le_of_ble_eq_true rfl) ?_
      exact ⟨_, rfl, rfl, by omega, by omega, by omega, by omega⟩
    · refine vc_aload_n dX6_ahead_12 rfl ?_
      refine vc_getR dX6_ahead_13 flX6_15 (s_1 hB0.1.1) rfl (r_1_1 hB0.1.1) ?_
      refine vc_iconst dX6_ahead_16 rfl ?_
      refine vc_iload_n dX6_ahead_17 rfl ?_
      refine vc_imulE dX6_ahead_18 (by omega) (by omega) ?_
      refine vc_iload_n dX6_ahead_19 rfl ?_
      refine vc_iconst dX6_ahead_20 rfl ?_
      refine vc_iandM dX6_ahead_21 4 2 rfl (by decide) rfl ?_
      refine vc_iaddE dX6_ahead_22 (by omega) (by omega) ?_
      refine vc_iaload dX6_ahead_23 (s_3 hB0.1.1) (by omega) (by omega) ?_
      have k4 : (-1) ≤ mI M 3 (((4 * c) + (d % 4)).toNat) ∧ mI M 3 (((4 * c) + (d % 4)).toNat) ≤ 15 := bA3 (M := M) hB0.1 _
      refine vc_goto dX6_ahead_24 ?_
      refine vc_iret dX6_ahead_28 rfl (Nat.le_of_ble_eq_true rfl) (Nat.le_of_ble_eq_true rfl) ?_
      exact ⟨_, rfl, rfl, by omega, by omega, by omega, by omega⟩

set_option maxRecDepth 4000 in
theorem sfX6_laneAt {l : Launch} {M : Mem} (hB : Box M)  (c : Int) (d : Int)  : Call l mdX6_laneAt [aR 1, aI c, aI d] M (fun q N => ∃ r : Int, q = some (aI r) ∧ M = N) := by
  have hB0 := BD.start hB
  refine Call.of [some (aR 1), some (aI c), some (aI d)] rfl (Nat.le_of_ble_eq_true rfl) rfl ?_
  refine vc_ok (fun hoM hoS hoL => ?_)
  have hr1 : -2147483648 ≤ c ∧ c < 2147483648 := hoL 1 _ rfl
  have hr2 : -2147483648 ≤ d ∧ d < 2147483648 := hoL 2 _ rfl
  refine vc_iload_n dX6_laneAt_0 rfl ?_
  refine vc_if_lt dX6_laneAt_1 (fun h1 => ?_) (fun h1 => ?_)
  · refine vc_iconst dX6_laneAt_27 rfl ?_
    refine vc_iret dX6_laneAt_28 rfl (Nat.le_of_ble_eq_true rfl) (Nat.le_of_ble_eq_true rfl) ?_
    exact ⟨_, rfl, rfl⟩
  · refine vc_iload_n dX6_laneAt_4 rfl ?_
    refine vc_aload_n dX6_laneAt_5 rfl ?_
    refine vc_getI dX6_laneAt_6 flX6_52 (s_1 hB0.1.1) rfl ?_
    have k2 : 0 ≤ mI M 1 6 ∧ mI M 1 6 ≤ 16 := b1_6 (M := M) hB0.1
    refine vc_icmp_ge dX6_laneAt_9 (fun h3 => ?_) (fun h3 => ?_)
    · refine vc_iconst dX6_laneAt_27 rfl ?_
      refine vc_iret dX6_laneAt_28 rfl (Nat.le_of_ble_eq_true rfl) (Nat.le_of_ble_eq_true rfl) ?_
      exact ⟨_, rfl, rfl⟩
    · refine vc_aload_n dX6_laneAt_12 rfl ?_
      refine vc_getR dX6_laneAt_13 flX6_18 (s_1 hB0.1.1) rfl (r_1_2 hB0.1.1) ?_
      refine vc_iconst dX6_laneAt_16 rfl ?_
      refine vc_iload_n dX6_laneAt_17 rfl ?_
      refine vc_imulE dX6_laneAt_18 (by omega) (by omega) ?_
      refine vc_iload_n dX6_laneAt_19 rfl ?_
      refine vc_iconst dX6_laneAt_20 rfl ?_
      refine vc_iandM dX6_laneAt_21 4 2 rfl (by decide) rfl ?_
      refine vc_iaddE dX6_laneAt_22 (by omega) (by omega) ?_
      refine vc_iaload dX6_laneAt_23 (s_4 hB0.1.1) (by omega) (by omega) ?_
      refine vc_goto dX6_laneAt_24 ?_
      refine vc_iret dX6_laneAt_28 rfl (Nat.le_of_ble_eq_true rfl) (Nat.le_of_ble_eq_true rfl) ?_
      exact ⟨_, rfl, rfl⟩

set_option maxRecDepth 4000 in
theorem sfX6_counts {l : Launch} {M : Mem} (hB : Box M)  (c : Int) (d : Int) (la : Int)  : Call l mdX6_counts [aR 1, aI c, aI d, aI la] M (fun q N => ∃ r : Int, q = some (aI r) ∧ M = N ∧ 0 ≤ r ∧ r ≤ 1) := by
  have hB0 := BD.start hB
  refine Call.of [some (aR 1), some (aI c), some (aI d), some (aI la), none] rfl (Nat.le_of_ble_eq_true rfl) rfl ?_
  refine vc_ok (fun hoM hoS hoL => ?_)
  have hr1 : -2147483648 ≤ c ∧ c < 2147483648 := hoL 1 _ rfl
  have hr2 : -2147483648 ≤ d ∧ d < 2147483648 := hoL 2 _ rfl
  have hr3 : -2147483648 ≤ la ∧ la < 2147483648 := hoL 3 _ rfl
  refine vc_iload_n dX6_counts_0 rfl ?_
  refine vc_if_lt dX6_counts_1 (fun h1 => ?_) (fun h1 => ?_)
  · refine vc_iconst dX6_counts_12 rfl ?_
    refine vc_zret dX6_counts_13 rfl (by first | decide | omega) (Nat.le_of_ble_eq_true rfl) (Nat.le_of_ble_eq_true rfl) ?_
    exact ⟨_, rfl, rfl, by omega, by omega⟩
  · refine vc_iload_n dX6_counts_4 rfl ?_
    refine vc_aload_n dX6_counts_5 rfl ?_
    refine vc_getI dX6_counts_6 flX6_52 (s_1 hB0.1.1) rfl ?_
    have k2 : 0 ≤ mI M 1 6 ∧ mI M 1 6 ≤ 16 := b1_6 (M := M) hB0.1
    refine vc_icmp_lt dX6_counts_9 (fun h3 => ?_) (fun h3 => ?_)
    · refine vc_iconst dX6_counts_14 rfl ?_
      refine vc_iload_n dX6_counts_15 rfl ?_
      refine vc_imulE dX6_counts_16 (by omega) (by omega) ?_
      refine vc_iload_n dX6_counts_17 rfl ?_
      refine vc_iconst dX6_counts_18 rfl ?_
      refine vc_iandM dX6_counts_19 4 2 rfl (by decide) rfl ?_
      refine vc_iaddE dX6_counts_20 (by omega) (by omega) ?_
      refine vc_nameI (fun x4 ex4 => ?_)
      refine vc_istore dX6_counts_21 (by decide) rfl (show _ = [some (aR 1), some (aI c), some (aI d), some (aI la), some (aI x4)] from rfl) ?_
      refine vc_aload_n dX6_counts_23 rfl ?_
      refine vc_getR dX6_counts_24 flX6_15 (s_1 hB0.1.1) rfl (r_1_1 hB0.1.1) ?_
      refine vc_iload dX6_counts_27 rfl ?_
      refine vc_iaload dX6_counts_29 (s_3 hB0.1.1) (by omega) (by omega) ?_
      have k5 : (-1) ≤ mI M 3 x4.toNat ∧ mI M 3 x4.toNat ≤ 15 := bA3 (M := M) hB0.1 _
      refine vc_iconst dX6_counts_30 rfl ?_
      refine vc_icmp_eq dX6_counts_31 (fun h6 => ?_) (fun h6 => ?_)
      · refine vc_iconst dX6_counts_52 rfl ?_
        refine vc_zret dX6_counts_53 rfl (by first | decide | omega) (Nat.le_of_ble_eq_true rfl) (Nat.le_of_ble_eq_true rfl) ?_
        exact ⟨_, rfl, rfl, by omega, by omega⟩
      · refine vc_iload_n dX6_counts_34 rfl ?_
        refine vc_if_ne dX6_counts_35 (fun h7 => ?_) (fun h7 => ?_)
        · refine vc_iconst dX6_counts_48 rfl ?_
          refine vc_goto dX6_counts_49 ?_
          refine vc_zret dX6_counts_53 rfl (by first | decide | omega) (Nat.le_of_ble_eq_true rfl) (Nat.le_of_ble_eq_true rfl) ?_
          exact ⟨_, rfl, rfl, by omega, by omega⟩
        · refine vc_aload_n dX6_counts_38 rfl ?_
          refine vc_getR dX6_counts_39 flX6_18 (s_1 hB0.1.1) rfl (r_1_2 hB0.1.1) ?_
          refine vc_iload dX6_counts_42 rfl ?_
          refine vc_iaload dX6_counts_44 (s_4 hB0.1.1) (by omega) (by omega) ?_
          refine vc_if_ne dX6_counts_45 (fun h8 => ?_) (fun h8 => ?_)
          · refine vc_iconst dX6_counts_52 rfl ?_
            refine vc_zret dX6_counts_53 rfl (by first | decide | omega) (Nat.le_of_ble_eq_true rfl) (Nat.le_of_ble_eq_true rfl) ?_
            exact ⟨_, rfl, rfl, by omega, by omega⟩
          · refine vc_iconst dX6_counts_48 rfl ?_
            refine vc_goto dX6_counts_49 ?_
            refine vc_zret dX6_counts_53 rfl (by first | decide | omega) (Nat.le_of_ble_eq_true rfl) (Nat.le_of_ble_eq_true rfl) ?_
            exact ⟨_, rfl, rfl, by omega, by omega⟩
    · refine vc_iconst dX6_counts_12 rfl ?_
      refine vc_zret dX6_counts_13 rfl (by first | decide | omega) (Nat.le_of_ble_eq_true rfl) (Nat.le_of_ble_eq_true rfl) ?_
      exact ⟨_, rfl, rfl, by omega, by omega⟩

set_option maxRecDepth 4000 in
theorem sfX6_hasOther {l : Launch} {M : Mem} (hB : Box M)  (c : Int) (a : Int) (b : Int)  : Call l mdX6_hasOther [aR 1, aI c, aI a, aI b] M (fun q N => ∃ r : Int, q = some (aI r) ∧ M = N ∧ 0 ≤ r ∧ r ≤ 1) := by
  have hB0 := BD.start hB
  refine Call.of [some (aR 1), some (aI c), some (aI a), some (aI b), none] rfl (Nat.le_of_ble_eq_true rfl) rfl ?_
  refine vc_ok (fun hoM hoS hoL => ?_)
  have hr1 : -2147483648 ≤ c ∧ c < 2147483648 := hoL 1 _ rfl
  have hr2 : -2147483648 ≤ a ∧ a < 2147483648 := hoL 2 _ rfl
  have hr3 : -2147483648 ≤ b ∧ b < 2147483648 := hoL 3 _ rfl
  refine vc_iconst dX6_hasOther_0 rfl ?_
  refine vc_istore dX6_hasOther_1 (by decide) rfl (show _ = [some (aR 1), some (aI c), some (aI a), some (aI b), some (aI 0)] from rfl) ?_
  have lp3 : ∀ (n3 : Nat) (v4 : Int), (0 ≤ v4) → (v4 ≤ 4) → (4 - v4).toNat < n3 → VC l mdX6_hasOther 3 [some (aR 1), some (aI c), some (aI a), some (aI b), some (aI v4)] [] M 0 0 (fun q N => ∃ r : Int, q = some (aI r) ∧ M = N ∧ 0 ≤ r ∧ r ≤ 1) := by
    intro n3
    induction n3 with
    | zero => intro v4 g3_4a g3_4b hm3; exact absurd hm3 (Nat.not_lt_zero _)
    | succ n3 ih3 =>
      intro v4 g3_4a g3_4b hm3
      refine vc_iload dX6_hasOther_3 rfl ?_
      refine vc_iconst dX6_hasOther_5 rfl ?_
      refine vc_icmp_ge dX6_hasOther_6 (fun h1 => ?_) (fun h1 => ?_)
      · refine vc_iconst dX6_hasOther_44 rfl ?_
        refine vc_zret dX6_hasOther_45 rfl (by first | decide | omega) (Nat.le_of_ble_eq_true rfl) (Nat.le_of_ble_eq_true rfl) ?_
        exact ⟨_, rfl, rfl, by omega, by omega⟩
      · refine vc_iload dX6_hasOther_9 rfl ?_
        refine vc_iload_n dX6_hasOther_11 rfl ?_
        refine vc_iconst dX6_hasOther_12 rfl ?_
        refine vc_iandM dX6_hasOther_13 4 2 rfl (by decide) rfl ?_
        refine vc_icmp_eq dX6_hasOther_14 (fun h2 => ?_) (fun h2 => ?_)
        · refine vc_iincE dX6_hasOther_38 rfl (by omega) (by omega) (by decide) rfl (show _ = [some (aR 1), some (aI c), some (aI a), some (aI b), some (aI (v4 + 1))] from rfl) ?_
          refine vc_goto dX6_hasOther_41 ?_
          exact ih3 (v4 + 1) (by omega) (by omega) (by omega)
        · refine vc_iload dX6_hasOther_17 rfl ?_
          refine vc_iload_n dX6_hasOther_19 rfl ?_
          refine vc_iconst dX6_hasOther_20 rfl ?_
          refine vc_iandM dX6_hasOther_21 4 2 rfl (by decide) rfl ?_
          refine vc_icmp_eq dX6_hasOther_22 (fun h3 => ?_) (fun h3 => ?_)
          · refine vc_iincE dX6_hasOther_38 rfl (by omega) (by omega) (by decide) rfl (show _ = [some (aR 1), some (aI c), some (aI a), some (aI b), some (aI (v4 + 1))] from rfl) ?_
            refine vc_goto dX6_hasOther_41 ?_
            exact ih3 (v4 + 1) (by omega) (by omega) (by omega)
          · refine vc_aload_n dX6_hasOther_25 rfl ?_
            refine vc_iload_n dX6_hasOther_26 rfl ?_
            refine vc_iload dX6_hasOther_27 rfl ?_
            refine vc_cVI dX6_hasOther_29 (sfX6_ahead (M := M) hB0.1  c v4 ) rfl okX6_ahead viX6_ahead lkX6_70 (s_1 hB0.1.1) cl_6 rfl (Nat.le_of_ble_eq_true rfl) ⟨rfl, rfl⟩ (Nat.le_of_ble_eq_true rfl) (Nat.le_of_ble_eq_true rfl) (Nat.le_of_ble_eq_true rfl) ?_
            rintro x4 _ ⟨rfl, h5, h6, h7, h8⟩
            refine vc_iconst dX6_hasOther_32 rfl ?_
            refine vc_icmp_eq dX6_hasOther_33 (fun h9 => ?_) (fun h9 => ?_)
            · refine vc_iincE dX6_hasOther_38 rfl (by omega) (by omega) (by decide) rfl (show _ = [some (aR 1), some (aI c), some (aI a), some (aI b), some (aI (v4 + 1))] from rfl) ?_
              refine vc_goto dX6_hasOther_41 ?_
              exact ih3 (v4 + 1) (by omega) (by omega) (by omega)
            · refine vc_iconst dX6_hasOther_36 rfl ?_
              refine vc_zret dX6_hasOther_37 rfl (by first | decide | omega) (Nat.le_of_ble_eq_true rfl) (Nat.le_of_ble_eq_true rfl) ?_
              exact ⟨_, rfl, rfl, by omega, by omega⟩
  exact lp3 _ 0 (by omega) (by omega) (Nat.lt_succ_self _)

set_option maxRecDepth 4000 in
theorem sfX6_tellerCell {l : Launch} {M : Mem} (hB : Box M)  (t : Int) (c : Int)  : Call l mdX6_tellerCell [aR 1, aI t, aI c] M (fun q N => ∃ r : Int, q = some (aI r) ∧ M = N) := by
  have hB0 := BD.start hB
  refine Call.of [some (aR 1), some (aI t), some (aI c)] rfl (Nat.le_of_ble_eq_true rfl) rfl ?_
  refine vc_ok (fun hoM hoS hoL => ?_)
  have hr1 : -2147483648 ≤ t ∧ t < 2147483648 := hoL 1 _ rfl
  have hr2 : -2147483648 ≤ c ∧ c < 2147483648 := hoL 2 _ rfl
  refine vc_iload_n dX6_tellerCell_0 rfl ?_
  refine vc_if_lt dX6_tellerCell_1 (fun h1 => ?_) (fun h1 => ?_)
  · refine vc_iconst dX6_tellerCell_34 rfl ?_
    refine vc_iret dX6_tellerCell_35 rfl (Nat.le_of_ble_eq_true rfl) (Nat.le_of_ble_eq_true rfl) ?_
    exact ⟨_, rfl, rfl⟩
  · refine vc_iload_n dX6_tellerCell_4 rfl ?_
    refine vc_aload_n dX6_tellerCell_5 rfl ?_
    refine vc_getI dX6_tellerCell_6 flX6_55 (s_1 hB0.1.1) rfl ?_
    have k2 : 0 ≤ mI M 1 8 ∧ mI M 1 8 ≤ 6 := b1_8 (M := M) hB0.1
    refine vc_icmp_ge dX6_tellerCell_9 (fun h3 => ?_) (fun h3 => ?_)
    · refine vc_iconst dX6_tellerCell_34 rfl ?_
      refine vc_iret dX6_tellerCell_35 rfl (Nat.le_of_ble_eq_true rfl) (Nat.le_of_ble_eq_true rfl) ?_
      exact ⟨_, rfl, rfl⟩
    · refine vc_iload_n dX6_tellerCell_12 rfl ?_
      refine vc_if_lt dX6_tellerCell_13 (fun h4 => ?_) (fun h4 => ?_)
      · refine vc_iconst dX6_tellerCell_34 rfl ?_
        refine vc_iret dX6_tellerCell_35 rfl (Nat.le_of_ble_eq_true rfl) (Nat.le_of_ble_eq_true rfl) ?_
        exact ⟨_, rfl, rfl⟩
      · refine vc_iload_n dX6_tellerCell_16 rfl ?_
        refine vc_iconst dX6_tellerCell_17 rfl ?_
        refine vc_icmp_ge dX6_tellerCell_18 (fun h5 => ?_) (fun h5 => ?_)
        · refine vc_iconst dX6_tellerCell_34 rfl ?_
          refine vc_iret dX6_tellerCell_35 rfl (Nat.le_of_ble_eq_true rfl) (Nat.le_of_ble_eq_true rfl) ?_
          exact ⟨_, rfl, rfl⟩
        · refine vc_aload_n dX6_tellerCell_21 rfl ?_
          refine vc_getR dX6_tellerCell_22 flX6_21 (s_1 hB0.1.1) rfl (r_1_3 hB0.1.1) ?_
          refine vc_iconst dX6_tellerCell_25 rfl ?_
          refine vc_iload_n dX6_tellerCell_26 rfl ?_
          refine vc_imulE dX6_tellerCell_27 (by omega) (by omega) ?_
          refine vc_iload_n dX6_tellerCell_28 rfl ?_
          refine vc_iaddE dX6_tellerCell_29 (by omega) (by omega) ?_
          refine vc_iaload dX6_tellerCell_30 (s_5 hB0.1.1) (by omega) (by omega) ?_
          refine vc_goto dX6_tellerCell_31 ?_
          refine vc_iret dX6_tellerCell_35 rfl (Nat.le_of_ble_eq_true rfl) (Nat.le_of_ble_eq_true rfl) ?_
          exact ⟨_, rfl, rfl⟩

set_option maxRecDepth 4000 in
theorem sfX6_tellingCell {l : Launch} {M : Mem} (hB : Box M)  (t : Int) (c : Int)  : Call l mdX6_tellingCell [aR 1, aI t, aI c] M (fun q N => ∃ r : Int, q = some (aI r) ∧ M = N) := by
  have hB0 := BD.start hB
  refine Call.of [some (aR 1), some (aI t), some (aI c)] rfl (Nat.le_of_ble_eq_true rfl) rfl ?_
  refine vc_ok (fun hoM hoS hoL => ?_)
  have hr1 : -2147483648 ≤ t ∧ t < 2147483648 := hoL 1 _ rfl
  have hr2 : -2147483648 ≤ c ∧ c < 2147483648 := hoL 2 _ rfl
  refine vc_iload_n dX6_tellingCell_0 rfl ?_
  refine vc_if_lt dX6_tellingCell_1 (fun h1 => ?_) (fun h1 => ?_)
  · refine vc_iconst dX6_tellingCell_36 rfl ?_
    refine vc_iret dX6_tellingCell_37 rfl (Nat.le_of_ble_eq_true rfl) (Nat.le_of_ble_eq_true rfl) ?_
    exact ⟨_, rfl, rfl⟩
  · refine vc_iload_n dX6_tellingCell_4 rfl ?_
    refine vc_aload_n dX6_tellingCell_5 rfl ?_
    refine vc_getI dX6_tellingCell_6 flX6_58 (s_1 hB0.1.1) rfl ?_
    have k2 : 0 ≤ mI M 1 9 ∧ mI M 1 9 ≤ 8 := b1_9 (M := M) hB0.1
    refine vc_icmp_ge dX6_tellingCell_9 (fun h3 => ?_) (fun h3 => ?_)
    · refine vc_iconst dX6_tellingCell_36 rfl ?_
      refine vc_iret dX6_tellingCell_37 rfl (Nat.le_of_ble_eq_true rfl) (Nat.le_of_ble_eq_true rfl) ?_
      exact ⟨_, rfl, rfl⟩
    · refine vc_iload_n dX6_tellingCell_12 rfl ?_
      refine vc_if_lt dX6_tellingCell_13 (fun h4 => ?_) (fun h4 => ?_)
      · refine vc_iconst dX6_tellingCell_36 rfl ?_
        refine vc_iret dX6_tellingCell_37 rfl (Nat.le_of_ble_eq_true rfl) (Nat.le_of_ble_eq_true rfl) ?_
        exact ⟨_, rfl, rfl⟩
      · refine vc_iload_n dX6_tellingCell_16 rfl ?_
        refine vc_bipush dX6_tellingCell_17 rfl ?_
        refine vc_icmp_ge dX6_tellingCell_19 (fun h5 => ?_) (fun h5 => ?_)
        · refine vc_iconst dX6_tellingCell_36 rfl ?_
          refine vc_iret dX6_tellingCell_37 rfl (Nat.le_of_ble_eq_true rfl) (Nat.le_of_ble_eq_true rfl) ?_
          exact ⟨_, rfl, rfl⟩
        · refine vc_aload_n dX6_tellingCell_22 rfl ?_
          refine vc_getR dX6_tellingCell_23 flX6_24 (s_1 hB0.1.1) rfl (r_1_4 hB0.1.1) ?_
          refine vc_bipush dX6_tellingCell_26 rfl ?_
          refine vc_iload_n dX6_tellingCell_28 rfl ?_
          refine vc_imulE dX6_tellingCell_29 (by omega) (by omega) ?_
          refine vc_iload_n dX6_tellingCell_30 rfl ?_
          refine vc_iaddE dX6_tellingCell_31 (by omega) (by omega) ?_
          refine vc_iaload dX6_tellingCell_32 (s_6 hB0.1.1) (by omega) (by omega) ?_
          refine vc_goto dX6_tellingCell_33 ?_
          refine vc_iret dX6_tellingCell_37 rfl (Nat.le_of_ble_eq_true rfl) (Nat.le_of_ble_eq_true rfl) ?_
          exact ⟨_, rfl, rfl⟩

set_option maxRecDepth 4000 in
theorem sfX6_turnOf {l : Launch} {M : Mem} (hB : Box M)  (t : Int) (i : Int)  : Call l mdX6_turnOf [aR 1, aI t, aI i] M (fun q N => ∃ r : Int, q = some (aI r) ∧ M = N) := by
  have hB0 := BD.start hB
  refine Call.of [some (aR 1), some (aI t), some (aI i)] rfl (Nat.le_of_ble_eq_true rfl) rfl ?_
  refine vc_ok (fun hoM hoS hoL => ?_)
  have hr1 : -2147483648 ≤ t ∧ t < 2147483648 := hoL 1 _ rfl
  have hr2 : -2147483648 ≤ i ∧ i < 2147483648 := hoL 2 _ rfl
  refine vc_iload_n dX6_turnOf_0 rfl ?_
  refine vc_if_lt dX6_turnOf_1 (fun h1 => ?_) (fun h1 => ?_)
  · refine vc_iconst dX6_turnOf_25 rfl ?_
    refine vc_iret dX6_turnOf_26 rfl (Nat.le_of_ble_eq_true rfl) (Nat.le_of_ble_eq_true rfl) ?_
    exact ⟨_, rfl, rfl⟩
  · refine vc_iload_n dX6_turnOf_4 rfl ?_
    refine vc_aload_n dX6_turnOf_5 rfl ?_
    refine vc_iload_n dX6_turnOf_6 rfl ?_
    refine vc_iconst dX6_turnOf_7 rfl ?_
    refine vc_cVI dX6_turnOf_8 (sfX6_tellingCell (M := M) hB0.1  t 2 ) rfl okX6_tellingCell viX6_tellingCell lkX6_74 (s_1 hB0.1.1) cl_6 rfl (Nat.le_of_ble_eq_true rfl) ⟨rfl, rfl⟩ (Nat.le_of_ble_eq_true rfl) (Nat.le_of_ble_eq_true rfl) (Nat.le_of_ble_eq_true rfl) ?_
    rintro x2 _ rfl
    refine vc_icmp_ge dX6_turnOf_11 (fun h3 => ?_) (fun h3 => ?_)
    · refine vc_iconst dX6_turnOf_25 rfl ?_
      refine vc_iret dX6_turnOf_26 rfl (Nat.le_of_ble_eq_true rfl) (Nat.le_of_ble_eq_true rfl) ?_
      exact ⟨_, rfl, rfl⟩
    · refine vc_aload_n dX6_turnOf_14 rfl ?_
      refine vc_iload_n dX6_turnOf_15 rfl ?_
      refine vc_iconst dX6_turnOf_16 rfl ?_
      refine vc_iload_n dX6_turnOf_17 rfl ?_
      refine vc_iadd dX6_turnOf_18 ?_
      refine vc_cVI dX6_turnOf_19 (sfX6_tellingCell (M := M) hB0.1  t (wI (3 + i)) ) rfl okX6_tellingCell viX6_tellingCell lkX6_74 (s_1 hB0.1.1) cl_6 rfl (Nat.le_of_ble_eq_true rfl) ⟨rfl, rfl⟩ (Nat.le_of_ble_eq_true rfl) (Nat.le_of_ble_eq_true rfl) (Nat.le_of_ble_eq_true rfl) ?_
      rintro x4 _ rfl
      refine vc_goto dX6_turnOf_22 ?_
      refine vc_iret dX6_turnOf_26 rfl (Nat.le_of_ble_eq_true rfl) (Nat.le_of_ble_eq_true rfl) ?_
      exact ⟨_, rfl, rfl⟩

set_option maxRecDepth 4000 in
theorem sfX6_setGoal {l : Launch} {M : Mem} (hB : Box M)  (c : Int)  : Call l mdX6_setGoal [aR 1, aI c] M (fun q N => ∃ r : Int, q = some (aI r) ∧ BD M N ∧ 0 ≤ r ∧ r ≤ 1) := by
  have hB0 := BD.start hB
  refine Call.of [some (aR 1), some (aI c)] rfl (Nat.le_of_ble_eq_true rfl) rfl ?_
  refine vc_ok (fun hoM hoS hoL => ?_)
  have hr1 : -2147483648 ≤ c ∧ c < 2147483648 := hoL 1 _ rfl
  refine vc_iload_n dX6_setGoal_0 rfl ?_
  refine vc_iconst dX6_setGoal_1 rfl ?_
  refine vc_icmp_eq dX6_setGoal_2 (fun h1 => ?_) (fun h1 => ?_)
  · refine vc_aload_n dX6_setGoal_15 rfl ?_
    refine vc_iload_n dX6_setGoal_16 rfl ?_
    refine vc_putI dX6_setGoal_17 (plX6_39 _ rfl) (s_1 hB0.1.1) rfl ?_
    have hB2 : BD M (sI M 1 7 c) := BD.w1_7 hB0 (by omega) (by omega)
    refine vc_iconst dX6_setGoal_20 rfl ?_
    refine vc_zret dX6_setGoal_21 rfl (by first | decide | omega) (Nat.le_of_ble_eq_true rfl) (Nat.le_of_ble_eq_true rfl) ?_
    exact ⟨_, rfl, hB2, by omega, by omega⟩
  · refine vc_aload_n dX6_setGoal_5 rfl ?_
    refine vc_iload_n dX6_setGoal_6 rfl ?_
    refine vc_cVI dX6_setGoal_7 (sfX6_hasCorner (M := M) hB0.1  c ) rfl okX6_hasCorner viX6_hasCorner lkX6_77 (s_1 hB0.1.1) cl_6 rfl (Nat.le_of_ble_eq_true rfl) ⟨rfl, rfl⟩ (Nat.le_of_ble_eq_true rfl) (Nat.le_of_ble_eq_true rfl) (Nat.le_of_ble_eq_true rfl) ?_
    rintro x3 _ ⟨rfl, h4, h5, h6⟩
    refine vc_if_ne dX6_setGoal_10 (fun h7 => ?_) (fun h7 => ?_)
    · refine vc_aload_n dX6_setGoal_15 rfl ?_
      refine vc_iload_n dX6_setGoal_16 rfl ?_
      refine vc_putI dX6_setGoal_17 (plX6_39 _ rfl) (s_1 hB0.1.1) rfl ?_
      have hB8 : BD M (sI M 1 7 c) := BD.w1_7 hB0 (by omega) (by omega)
      refine vc_iconst dX6_setGoal_20 rfl ?_
      refine vc_zret dX6_setGoal_21 rfl (by first | decide | omega) (Nat.le_of_ble_eq_true rfl) (Nat.le_of_ble_eq_true rfl) ?_
      exact ⟨_, rfl, hB8, by omega, by omega⟩
    · refine vc_iconst dX6_setGoal_13 rfl ?_
      refine vc_zret dX6_setGoal_14 rfl (by first | decide | omega) (Nat.le_of_ble_eq_true rfl) (Nat.le_of_ble_eq_true rfl) ?_
      exact ⟨_, rfl, hB0, by omega, by omega⟩

set_option maxRecDepth 4000 in
theorem sfX6_addCorner {l : Launch} {M : Mem} (hB : Box M)  (s : Int)  : Call l mdX6_addCorner [aR 1, aI s] M (fun q N => ∃ r : Int, q = some (aI r) ∧ BD M N) := by
  have hB0 := BD.start hB
  refine Call.of [some (aR 1), some (aI s)] rfl (Nat.le_of_ble_eq_true rfl) rfl ?_
  refine vc_ok (fun hoM hoS hoL => ?_)
  have hr1 : -2147483648 ≤ s ∧ s < 2147483648 := hoL 1 _ rfl
  refine vc_iload_n dX6_addCorner_0 rfl ?_
  refine vc_if_lt dX6_addCorner_1 (fun h1 => ?_) (fun h1 => ?_)
  · refine vc_iconst dX6_addCorner_18 rfl ?_
    refine vc_iret dX6_addCorner_19 rfl (Nat.le_of_ble_eq_true rfl) (Nat.le_of_ble_eq_true rfl) ?_
    exact ⟨_, rfl, hB0⟩
  · refine vc_iload_n dX6_addCorner_4 rfl ?_
    refine vc_iconst dX6_addCorner_5 rfl ?_
    refine vc_icmp_gt dX6_addCorner_6 (fun h2 => ?_) (fun h2 => ?_)
    · refine vc_iconst dX6_addCorner_18 rfl ?_
      refine vc_iret dX6_addCorner_19 rfl (Nat.le_of_ble_eq_true rfl) (Nat.le_of_ble_eq_true rfl) ?_
      exact ⟨_, rfl, hB0⟩
    · refine vc_aload_n dX6_addCorner_9 rfl ?_
      refine vc_getI dX6_addCorner_10 flX6_52 (s_1 hB0.1.1) rfl ?_
      have k3 : 0 ≤ mI M 1 6 ∧ mI M 1 6 ≤ 16 := b1_6 (M := M) hB0.1
      refine vc_bipush dX6_addCorner_13 rfl ?_
      refine vc_icmp_lt dX6_addCorner_15 (fun h4 => ?_) (fun h4 => ?_)
      · refine vc_aload_n dX6_addCorner_20 rfl ?_
        refine vc_getR dX6_addCorner_21 flX6_9 (s_1 hB0.1.1) rfl (r_1_0 hB0.1.1) ?_
        refine vc_aload_n dX6_addCorner_24 rfl ?_
        refine vc_getI dX6_addCorner_25 flX6_52 (s_1 hB0.1.1) rfl ?_
        refine vc_iload_n dX6_addCorner_28 rfl ?_
        refine vc_iastore dX6_addCorner_29 (s_2 hB0.1.1) (by omega) (by omega) ?_
        have hB5 : BD M (sI M 2 ((mI M 1 6).toNat) s) := BD.w2 hB0 _
        refine vc_aload_n dX6_addCorner_30 rfl ?_
        refine vc_dup dX6_addCorner_31 rfl ?_
        refine vc_getI dX6_addCorner_32 flX6_52 (s_1 hB5.1.1) rfl ?_
        refine vc_topI (mI M 1 6) rfl ?_
        have k6 : 0 ≤ mI M 1 6 ∧ mI M 1 6 ≤ 16 := b1_6 (M := (sI M 2 ((mI M 1 6).toNat) s)) hB5.1
        refine vc_iconst dX6_addCorner_35 rfl ?_
        refine vc_iaddE dX6_addCorner_36 (by omega) (by omega) ?_
        refine vc_putI dX6_addCorner_37 (plX6_52 _ rfl) (s_1 hB5.1.1) rfl ?_
        have hB7 : BD M (sI (sI M 2 ((mI M 1 6).toNat) s) 1 6 ((mI M 1 6) + 1)) := BD.w1_6 hB5 (by omega) (by omega)
        refine vc_aload_n dX6_addCorner_40 rfl ?_
        refine vc_getI dX6_addCorner_41 flX6_52 (s_1 hB7.1.1) rfl ?_
        refine vc_topI ((mI M 1 6) + 1) rfl ?_
        refine vc_iconst dX6_addCorner_44 rfl ?_
        refine vc_isubE dX6_addCorner_45 (by omega) (by omega) ?_
        refine vc_iret dX6_addCorner_46 rfl (Nat.le_of_ble_eq_true rfl) (Nat.le_of_ble_eq_true rfl) ?_
        exact ⟨_, rfl, hB7⟩
      · refine vc_iconst dX6_addCorner_18 rfl ?_
        refine vc_iret dX6_addCorner_19 rfl (Nat.le_of_ble_eq_true rfl) (Nat.le_of_ble_eq_true rfl) ?_
        exact ⟨_, rfl, hB0⟩

set_option maxRecDepth 4000 in
theorem sfX6_addStreet {l : Launch} {M : Mem} (hB : Box M)  (f : Int) (d : Int) (t : Int) (la : Int)  : Call l mdX6_addStreet [aR 1, aI f, aI d, aI t, aI la] M (fun q N => ∃ r : Int, q = some (aI r) ∧ BD M N ∧ 0 ≤ r ∧ r ≤ 1) := by
  have hB0 := BD.start hB
  refine Call.of [some (aR 1), some (aI f), some (aI d), some (aI t), some (aI la), none, none] rfl (Nat.le_of_ble_eq_true rfl) rfl ?_
  refine vc_ok (fun hoM hoS hoL => ?_)
  have hr1 : -2147483648 ≤ f ∧ f < 2147483648 := hoL 1 _ rfl
  have hr2 : -2147483648 ≤ d ∧ d < 2147483648 := hoL 2 _ rfl
  have hr3 : -2147483648 ≤ t ∧ t < 2147483648 := hoL 3 _ rfl
  have hr4 : -2147483648 ≤ la ∧ la < 2147483648 := hoL 4 _ rfl
  refine vc_aload_n dX6_addStreet_0 rfl ?_
  refine vc_iload_n dX6_addStreet_1 rfl ?_
  refine vc_cVI dX6_addStreet_2 (sfX6_hasCorner (M := M) hB0.1  f ) rfl okX6_hasCorner viX6_hasCorner lkX6_77 (s_1 hB0.1.1) cl_6 rfl (Nat.le_of_ble_eq_true rfl) ⟨rfl, rfl⟩ (Nat.le_of_ble_eq_true rfl) (Nat.le_of_ble_eq_true rfl) (Nat.le_of_ble_eq_true rfl) ?_
  rintro x1 _ ⟨rfl, h2, h3, h4⟩
  refine vc_if_eq dX6_addStreet_5 (fun h5 => ?_) (fun h5 => ?_)
  · refine vc_iconst dX6_addStreet_28 rfl ?_
    refine vc_zret dX6_addStreet_29 rfl (by first | decide | omega) (Nat.le_of_ble_eq_true rfl) (Nat.le_of_ble_eq_true rfl) ?_
    exact ⟨_, rfl, hB0, by omega, by omega⟩
  · refine vc_aload_n dX6_addStreet_8 rfl ?_
    refine vc_iload_n dX6_addStreet_9 rfl ?_
    refine vc_cVI dX6_addStreet_10 (sfX6_hasCorner (M := M) hB0.1  t ) rfl okX6_hasCorner viX6_hasCorner lkX6_77 (s_1 hB0.1.1) cl_6 rfl (Nat.le_of_ble_eq_true rfl) ⟨rfl, rfl⟩ (Nat.le_of_ble_eq_true rfl) (Nat.le_of_ble_eq_true rfl) (Nat.le_of_ble_eq_true rfl) ?_
    rintro x6 _ ⟨rfl, h7, h8, h9⟩
    refine vc_if_eq dX6_addStreet_13 (fun h10 => ?_) (fun h10 => ?_)
    · refine vc_iconst dX6_addStreet_28 rfl ?_
      refine vc_zret dX6_addStreet_29 rfl (by first | decide | omega) (Nat.le_of_ble_eq_true rfl) (Nat.le_of_ble_eq_true rfl) ?_
      exact ⟨_, rfl, hB0, by omega, by omega⟩
    · refine vc_iload_n dX6_addStreet_16 rfl ?_
      refine vc_iload_n dX6_addStreet_17 rfl ?_
      refine vc_icmp_eq dX6_addStreet_18 (fun h11 => ?_) (fun h11 => ?_)
      · refine vc_iconst dX6_addStreet_28 rfl ?_
        refine vc_zret dX6_addStreet_29 rfl (by first | decide | omega) (Nat.le_of_ble_eq_true rfl) (Nat.le_of_ble_eq_true rfl) ?_
        exact ⟨_, rfl, hB0, by omega, by omega⟩
      · refine vc_iload_n dX6_addStreet_21 rfl ?_
        refine vc_cNI dX6_addStreet_22 (sfX11_isDirection (M := M) hB0.1  d ) rfl okX11_isDirection stX11_isDirection nkX6_81 rfl (Nat.le_of_ble_eq_true rfl) ⟨rfl, rfl⟩ (Nat.le_of_ble_eq_true rfl) (Nat.le_of_ble_eq_true rfl) (Nat.le_of_ble_eq_true rfl) ?_
        rintro x12 _ ⟨rfl, h13, h14, h15⟩
        refine vc_if_ne dX6_addStreet_25 (fun h16 => ?_) (fun h16 => ?_)
        · refine vc_iconst dX6_addStreet_30 rfl ?_
          refine vc_iload_n dX6_addStreet_31 rfl ?_
          refine vc_imulE dX6_addStreet_32 (by omega) (by omega) ?_
          refine vc_iload_n dX6_addStreet_33 rfl ?_
          refine vc_iaddE dX6_addStreet_34 (by omega) (by omega) ?_
          refine vc_nameI (fun x17 ex17 => ?_)
          refine vc_istore dX6_addStreet_35 (by decide) rfl (show _ = [some (aR 1), some (aI f), some (aI d), some (aI t), some (aI la), some (aI x17), none] from rfl) ?_
          refine vc_iconst dX6_addStreet_37 rfl ?_
          refine vc_iload_n dX6_addStreet_38 rfl ?_
          refine vc_imulE dX6_addStreet_39 (by omega) (by omega) ?_
          refine vc_iload_n dX6_addStreet_40 rfl ?_
          refine vc_iconst dX6_addStreet_41 rfl ?_
          refine vc_iadd dX6_addStreet_42 ?_
          refine vc_iconst dX6_addStreet_43 rfl ?_
          refine vc_iandW dX6_addStreet_44 4 2 rfl (by decide) rfl ?_
          refine vc_iaddE dX6_addStreet_45 (by omega) (by omega) ?_
          refine vc_nameI (fun x18 ex18 => ?_)
          refine vc_istore dX6_addStreet_46 (by decide) rfl (show _ = [some (aR 1), some (aI f), some (aI d), some (aI t), some (aI la), some (aI x17), some (aI x18)] from rfl) ?_
          refine vc_aload_n dX6_addStreet_48 rfl ?_
          refine vc_getR dX6_addStreet_49 flX6_15 (s_1 hB0.1.1) rfl (r_1_1 hB0.1.1) ?_
          refine vc_iload dX6_addStreet_52 rfl ?_
          refine vc_iaload dX6_addStreet_54 (s_3 hB0.1.1) (by omega) (by omega) ?_
          have k19 : (-1) ≤ mI M 3 x17.toNat ∧ mI M 3 x17.toNat ≤ 15 := bA3 (M := M) hB0.1 _
          refine vc_iconst dX6_addStreet_55 rfl ?_
          refine vc_icmp_ne dX6_addStreet_56 (fun h20 => ?_) (fun h20 => ?_)
          · refine vc_iconst dX6_addStreet_70 rfl ?_
            refine vc_zret dX6_addStreet_71 rfl (by first | decide | omega) (Nat.le_of_ble_eq_true rfl) (Nat.le_of_ble_eq_true rfl) ?_
            exact ⟨_, rfl, hB0, by omega, by omega⟩
          · refine vc_aload_n dX6_addStreet_59 rfl ?_
            refine vc_getR dX6_addStreet_60 flX6_15 (s_1 hB0.1.1) rfl (r_1_1 hB0.1.1) ?_
            refine vc_iload dX6_addStreet_63 rfl ?_
            refine vc_iaload dX6_addStreet_65 (s_3 hB0.1.1) (by omega) (by omega) ?_
            have k21 : (-1) ≤ mI M 3 x18.toNat ∧ mI M 3 x18.toNat ≤ 15 := bA3 (M := M) hB0.1 _
            refine vc_iconst dX6_addStreet_66 rfl ?_
            refine vc_icmp_eq dX6_addStreet_67 (fun h22 => ?_) (fun h22 => ?_)
            · refine vc_aload_n dX6_addStreet_72 rfl ?_
              refine vc_getR dX6_addStreet_73 flX6_15 (s_1 hB0.1.1) rfl (r_1_1 hB0.1.1) ?_
              refine vc_iload dX6_addStreet_76 rfl ?_
              refine vc_iload_n dX6_addStreet_78 rfl ?_
              refine vc_iastore dX6_addStreet_79 (s_3 hB0.1.1) (by omega) (by omega) ?_
              have hB23 : BD M (sI M 3 x17.toNat t) := BD.w3 hB0 _ (by omega) (by omega)
              refine vc_aload_n dX6_addStreet_80 rfl ?_
              refine vc_getR dX6_addStreet_81 flX6_15 (s_1 hB23.1.1) rfl (r_1_1 hB23.1.1) ?_
              refine vc_iload dX6_addStreet_84 rfl ?_
              refine vc_iload_n dX6_addStreet_86 rfl ?_
              refine vc_iastore dX6_addStreet_87 (s_3 hB23.1.1) (by omega) (by omega) ?_
              have hB24 : BD M (sI (sI M 3 x17.toNat t) 3 x18.toNat f) := BD.w3 hB23 _ (by omega) (by omega)
              refine vc_aload_n dX6_addStreet_88 rfl ?_
              refine vc_getR dX6_addStreet_89 flX6_18 (s_1 hB24.1.1) rfl (r_1_2 hB24.1.1) ?_
              refine vc_iload dX6_addStreet_92 rfl ?_
              refine vc_iload dX6_addStreet_94 rfl ?_
              refine vc_iastore dX6_addStreet_96 (s_4 hB24.1.1) (by omega) (by omega) ?_
              have hB25 : BD M (sI (sI (sI M 3 x17.toNat t) 3 x18.toNat f) 4 x17.toNat la) := BD.w4 hB24 _
              refine vc_aload_n dX6_addStreet_97 rfl ?_
              refine vc_getR dX6_addStreet_98 flX6_18 (s_1 hB25.1.1) rfl (r_1_2 hB25.1.1) ?_
              refine vc_iload dX6_addStreet_101 rfl ?_
              refine vc_iload dX6_addStreet_103 rfl ?_
              refine vc_iastore dX6_addStreet_105 (s_4 hB25.1.1) (by omega) (by omega) ?_
              have hB26 : BD M (sI (sI (sI (sI M 3 x17.toNat t) 3 x18.toNat f) 4 x17.toNat la) 4 x18.toNat la) := BD.w4 hB25 _
              refine vc_iconst dX6_addStreet_106 rfl ?_
              refine vc_zret dX6_addStreet_107 rfl (by first | decide | omega) (Nat.le_of_ble_eq_true rfl) (Nat.le_of_ble_eq_true rfl) ?_
              exact ⟨_, rfl, hB26, by omega, by omega⟩
            · refine vc_iconst dX6_addStreet_70 rfl ?_
              refine vc_zret dX6_addStreet_71 rfl (by first | decide | omega) (Nat.le_of_ble_eq_true rfl) (Nat.le_of_ble_eq_true rfl) ?_
              exact ⟨_, rfl, hB0, by omega, by omega⟩
        · refine vc_iconst dX6_addStreet_28 rfl ?_
          refine vc_zret dX6_addStreet_29 rfl (by first | decide | omega) (Nat.le_of_ble_eq_true rfl) (Nat.le_of_ble_eq_true rfl) ?_
          exact ⟨_, rfl, hB0, by omega, by omega⟩

set_option maxRecDepth 4000 in
theorem sfX6_addTeller {l : Launch} {M : Mem} (hB : Box M)  (c : Int) (s : Int) (e : Int) (m : Int)  : Call l mdX6_addTeller [aR 1, aI c, aI s, aI e, aI m] M (fun q N => ∃ r : Int, q = some (aI r) ∧ BD M N) := by
  have hB0 := BD.start hB
  refine Call.of [some (aR 1), some (aI c), some (aI s), some (aI e), some (aI m), none] rfl (Nat.le_of_ble_eq_true rfl) rfl ?_
  refine vc_ok (fun hoM hoS hoL => ?_)
  have hr1 : -2147483648 ≤ c ∧ c < 2147483648 := hoL 1 _ rfl
  have hr2 : -2147483648 ≤ s ∧ s < 2147483648 := hoL 2 _ rfl
  have hr3 : -2147483648 ≤ e ∧ e < 2147483648 := hoL 3 _ rfl
  have hr4 : -2147483648 ≤ m ∧ m < 2147483648 := hoL 4 _ rfl
  refine vc_aload_n dX6_addTeller_0 rfl ?_
  refine vc_iload_n dX6_addTeller_1 rfl ?_
  refine vc_cVI dX6_addTeller_2 (sfX6_hasCorner (M := M) hB0.1  c ) rfl okX6_hasCorner viX6_hasCorner lkX6_77 (s_1 hB0.1.1) cl_6 rfl (Nat.le_of_ble_eq_true rfl) ⟨rfl, rfl⟩ (Nat.le_of_ble_eq_true rfl) (Nat.le_of_ble_eq_true rfl) (Nat.le_of_ble_eq_true rfl) ?_
  rintro x1 _ ⟨rfl, h2, h3, h4⟩
  refine vc_if_eq dX6_addTeller_5 (fun h5 => ?_) (fun h5 => ?_)
  · refine vc_iconst dX6_addTeller_30 rfl ?_
    refine vc_iret dX6_addTeller_31 rfl (Nat.le_of_ble_eq_true rfl) (Nat.le_of_ble_eq_true rfl) ?_
    exact ⟨_, rfl, hB0⟩
  · refine vc_iload_n dX6_addTeller_8 rfl ?_
    refine vc_cNI dX6_addTeller_9 (sfX11_isSlip (M := M) hB0.1  s ) rfl okX11_isSlip stX11_isSlip nkX6_84 rfl (Nat.le_of_ble_eq_true rfl) ⟨rfl, rfl⟩ (Nat.le_of_ble_eq_true rfl) (Nat.le_of_ble_eq_true rfl) (Nat.le_of_ble_eq_true rfl) ?_
    rintro x6 _ ⟨rfl, h7, h8⟩
    refine vc_if_eq dX6_addTeller_12 (fun h9 => ?_) (fun h9 => ?_)
    · refine vc_iconst dX6_addTeller_30 rfl ?_
      refine vc_iret dX6_addTeller_31 rfl (Nat.le_of_ble_eq_true rfl) (Nat.le_of_ble_eq_true rfl) ?_
      exact ⟨_, rfl, hB0⟩
    · refine vc_iload_n dX6_addTeller_15 rfl ?_
      refine vc_cNI dX6_addTeller_16 (sfX11_isSlip (M := M) hB0.1  e ) rfl okX11_isSlip stX11_isSlip nkX6_84 rfl (Nat.le_of_ble_eq_true rfl) ⟨rfl, rfl⟩ (Nat.le_of_ble_eq_true rfl) (Nat.le_of_ble_eq_true rfl) (Nat.le_of_ble_eq_true rfl) ?_
      rintro x10 _ ⟨rfl, h11, h12⟩
      refine vc_if_eq dX6_addTeller_19 (fun h13 => ?_) (fun h13 => ?_)
      · refine vc_iconst dX6_addTeller_30 rfl ?_
        refine vc_iret dX6_addTeller_31 rfl (Nat.le_of_ble_eq_true rfl) (Nat.le_of_ble_eq_true rfl) ?_
        exact ⟨_, rfl, hB0⟩
      · refine vc_iload dX6_addTeller_22 rfl ?_
        refine vc_cNI dX6_addTeller_24 (sfX11_isSlip (M := M) hB0.1  m ) rfl okX11_isSlip stX11_isSlip nkX6_84 rfl (Nat.le_of_ble_eq_true rfl) ⟨rfl, rfl⟩ (Nat.le_of_ble_eq_true rfl) (Nat.le_of_ble_eq_true rfl) (Nat.le_of_ble_eq_true rfl) ?_
        rintro x14 _ ⟨rfl, h15, h16⟩
        refine vc_if_ne dX6_addTeller_27 (fun h17 => ?_) (fun h17 => ?_)
        · refine vc_aload_n dX6_addTeller_32 rfl ?_
          refine vc_getI dX6_addTeller_33 flX6_55 (s_1 hB0.1.1) rfl ?_
          have k18 : 0 ≤ mI M 1 8 ∧ mI M 1 8 ≤ 6 := b1_8 (M := M) hB0.1
          refine vc_bipush dX6_addTeller_36 rfl ?_
          refine vc_icmp_lt dX6_addTeller_38 (fun h19 => ?_) (fun h19 => ?_)
          · refine vc_iconst dX6_addTeller_43 rfl ?_
            refine vc_aload_n dX6_addTeller_44 rfl ?_
            refine vc_getI dX6_addTeller_45 flX6_55 (s_1 hB0.1.1) rfl ?_
            refine vc_imulE dX6_addTeller_48 (by omega) (by omega) ?_
            refine vc_nameI (fun x20 ex20 => ?_)
            refine vc_istore dX6_addTeller_49 (by decide) rfl (show _ = [some (aR 1), some (aI c), some (aI s), some (aI e), some (aI m), some (aI x20)] from rfl) ?_
            refine vc_aload_n dX6_addTeller_51 rfl ?_
            refine vc_getR dX6_addTeller_52 flX6_21 (s_1 hB0.1.1) rfl (r_1_3 hB0.1.1) ?_
            refine vc_iload dX6_addTeller_55 rfl ?_
            refine vc_iload_n dX6_addTeller_57 rfl ?_
            refine vc_iastore dX6_addTeller_58 (s_5 hB0.1.1) (by omega) (by omega) ?_
            have hB21 : BD M (sI M 5 x20.toNat c) := BD.w5 hB0 _
            refine vc_aload_n dX6_addTeller_59 rfl ?_
            refine vc_getR dX6_addTeller_60 flX6_21 (s_1 hB21.1.1) rfl (r_1_3 hB21.1.1) ?_
            refine vc_iload dX6_addTeller_63 rfl ?_
            refine vc_iconst dX6_addTeller_65 rfl ?_
            refine vc_iaddE dX6_addTeller_66 (by omega) (by omega) ?_
            refine vc_iload_n dX6_addTeller_67 rfl ?_
            refine vc_iastore dX6_addTeller_68 (s_5 hB21.1.1) (by omega) (by omega) ?_
            have hB22 : BD M (sI (sI M 5 x20.toNat c) 5 ((x20 + 1).toNat) s) := BD.w5 hB21 _
            refine vc_aload_n dX6_addTeller_69 rfl ?_
            refine vc_getR dX6_addTeller_70 flX6_21 (s_1 hB22.1.1) rfl (r_1_3 hB22.1.1) ?_
            refine vc_iload dX6_addTeller_73 rfl ?_
            refine vc_iconst dX6_addTeller_75 rfl ?_
            refine vc_iaddE dX6_addTeller_76 (by omega) (by omega) ?_
            refine vc_iload_n dX6_addTeller_77 rfl ?_
            refine vc_iastore dX6_addTeller_78 (s_5 hB22.1.1) (by omega) (by omega) ?_
            have hB23 : BD M (sI (sI (sI M 5 x20.toNat c) 5 ((x20 + 1).toNat) s) 5 ((x20 + 2).toNat) e) := BD.w5 hB22 _
            refine vc_aload_n dX6_addTeller_79 rfl ?_
            refine vc_getR dX6_addTeller_80 flX6_21 (s_1 hB23.1.1) rfl (r_1_3 hB23.1.1) ?_
            refine vc_iload dX6_addTeller_83 rfl ?_
            refine vc_iconst dX6_addTeller_85 rfl ?_
            refine vc_iaddE dX6_addTeller_86 (by omega) (by omega) ?_
            refine vc_iload dX6_addTeller_87 rfl ?_
            refine vc_iastore dX6_addTeller_89 (s_5 hB23.1.1) (by omega) (by omega) ?_
            have hB24 : BD M (sI (sI (sI (sI M 5 x20.toNat c) 5 ((x20 + 1).toNat) s) 5 ((x20 + 2).toNat) e) 5 ((x20 + 3).toNat) m) := BD.w5 hB23 _
            refine vc_aload_n dX6_addTeller_90 rfl ?_
            refine vc_dup dX6_addTeller_91 rfl ?_
            refine vc_getI dX6_addTeller_92 flX6_55 (s_1 hB24.1.1) rfl ?_
            refine vc_topI (mI M 1 8) rfl ?_
            have k25 : 0 ≤ mI M 1 8 ∧ mI M 1 8 ≤ 6 := b1_8 (M := (sI (sI (sI (sI M 5 x20.toNat c) 5 ((x20 + 1).toNat) s) 5 ((x20 + 2).toNat) e) 5 ((x20 + 3).toNat) m)) hB24.1
            refine vc_iconst dX6_addTeller_95 rfl ?_
            refine vc_iaddE dX6_addTeller_96 (by omega) (by omega) ?_
            refine vc_putI dX6_addTeller_97 (plX6_55 _ rfl) (s_1 hB24.1.1) rfl ?_
            have hB26 : BD M (sI (sI (sI (sI (sI M 5 x20.toNat c) 5 ((x20 + 1).toNat) s) 5 ((x20 + 2).toNat) e) 5 ((x20 + 3).toNat) m) 1 8 ((mI M 1 8) + 1)) := BD.w1_8 hB24 (by omega) (by omega)
            refine vc_aload_n dX6_addTeller_100 rfl ?_
            refine vc_getI dX6_addTeller_101 flX6_55 (s_1 hB26.1.1) rfl ?_
            refine vc_topI ((mI M 1 8) + 1) rfl ?_
            refine vc_iconst dX6_addTeller_104 rfl ?_
            refine vc_isubE dX6_addTeller_105 (by omega) (by omega) ?_
            refine vc_iret dX6_addTeller_106 rfl (Nat.le_of_ble_eq_true rfl) (Nat.le_of_ble_eq_true rfl) ?_
            exact ⟨_, rfl, hB26⟩
          · refine vc_iconst dX6_addTeller_41 rfl ?_
            refine vc_iret dX6_addTeller_42 rfl (Nat.le_of_ble_eq_true rfl) (Nat.le_of_ble_eq_true rfl) ?_
            exact ⟨_, rfl, hB0⟩
        · refine vc_iconst dX6_addTeller_30 rfl ?_
          refine vc_iret dX6_addTeller_31 rfl (Nat.le_of_ble_eq_true rfl) (Nat.le_of_ble_eq_true rfl) ?_
          exact ⟨_, rfl, hB0⟩

set_option maxRecDepth 4000 in
theorem sfX6_isTurn {l : Launch} {M : Mem} (hB : Box M)  (t : Int)  : Call l mdX6_isTurn [aI t] M (fun q N => ∃ r : Int, q = some (aI r) ∧ M = N ∧ 0 ≤ r ∧ r ≤ 1) := by
  have hB0 := BD.start hB
  refine Call.of [some (aI t), none, none, none] rfl (Nat.le_of_ble_eq_true rfl) rfl ?_
  refine vc_ok (fun hoM hoS hoL => ?_)
  have hr0 : -2147483648 ≤ t ∧ t < 2147483648 := hoL 0 _ rfl
  refine vc_iload_n dX6_isTurn_0 rfl ?_
  refine vc_bipush dX6_isTurn_1 rfl ?_
  refine vc_idiv dX6_isTurn_3 (by omega) ?_
  refine vc_nameI (fun x1 ex1 => ?_)
  refine vc_istore_n dX6_isTurn_4 (by decide) rfl (show _ = [some (aI t), some (aI x1), none, none] from rfl) ?_
  refine vc_iload_n dX6_isTurn_5 rfl ?_
  refine vc_bipush dX6_isTurn_6 rfl ?_
  refine vc_idiv dX6_isTurn_8 (by omega) ?_
  refine vc_bipush dX6_isTurn_9 rfl ?_
  refine vc_irem dX6_isTurn_11 (by omega) ?_
  refine vc_nameI (fun x2 ex2 => ?_)
  refine vc_istore_n dX6_isTurn_12 (by decide) rfl (show _ = [some (aI t), some (aI x1), some (aI x2), none] from rfl) ?_
  refine vc_iload_n dX6_isTurn_13 rfl ?_
  refine vc_bipush dX6_isTurn_14 rfl ?_
  refine vc_irem dX6_isTurn_16 (by omega) ?_
  refine vc_nameI (fun x3 ex3 => ?_)
  refine vc_istore_n dX6_isTurn_17 (by decide) rfl (show _ = [some (aI t), some (aI x1), some (aI x2), some (aI x3)] from rfl) ?_
  refine vc_iload_n dX6_isTurn_18 rfl ?_
  refine vc_iconst dX6_isTurn_19 rfl ?_
  refine vc_icmp_lt dX6_isTurn_20 (fun h4 => ?_) (fun h4 => ?_)
  · refine vc_iconst dX6_isTurn_55 rfl ?_
    refine vc_zret dX6_isTurn_56 rfl (by first | decide | omega) (Nat.le_of_ble_eq_true rfl) (Nat.le_of_ble_eq_true rfl) ?_
    exact ⟨_, rfl, rfl, by omega, by omega⟩
  · refine vc_iload_n dX6_isTurn_23 rfl ?_
    refine vc_iconst dX6_isTurn_24 rfl ?_
    refine vc_icmp_gt dX6_isTurn_25 (fun h5 => ?_) (fun h5 => ?_)
    · refine vc_iconst dX6_isTurn_55 rfl ?_
      refine vc_zret dX6_isTurn_56 rfl (by first | decide | omega) (Nat.le_of_ble_eq_true rfl) (Nat.le_of_ble_eq_true rfl) ?_
      exact ⟨_, rfl, rfl, by omega, by omega⟩
    · refine vc_iload_n dX6_isTurn_28 rfl ?_
      refine vc_iconst dX6_isTurn_29 rfl ?_
      refine vc_icmp_gt dX6_isTurn_30 (fun h6 => ?_) (fun h6 => ?_)
      · refine vc_iconst dX6_isTurn_55 rfl ?_
        refine vc_zret dX6_isTurn_56 rfl (by first | decide | omega) (Nat.le_of_ble_eq_true rfl) (Nat.le_of_ble_eq_true rfl) ?_
        exact ⟨_, rfl, rfl, by omega, by omega⟩
      · refine vc_iload_n dX6_isTurn_33 rfl ?_
        refine vc_iconst dX6_isTurn_34 rfl ?_
        refine vc_icmp_lt dX6_isTurn_35 (fun h7 => ?_) (fun h7 => ?_)
        · refine vc_iconst dX6_isTurn_55 rfl ?_
          refine vc_zret dX6_isTurn_56 rfl (by first | decide | omega) (Nat.le_of_ble_eq_true rfl) (Nat.le_of_ble_eq_true rfl) ?_
          exact ⟨_, rfl, rfl, by omega, by omega⟩
        · refine vc_iload_n dX6_isTurn_38 rfl ?_
          refine vc_iload_n dX6_isTurn_39 rfl ?_
          refine vc_if_ne dX6_isTurn_40 (fun h8 => ?_) (fun h8 => ?_)
          · refine vc_iconst dX6_isTurn_47 rfl ?_
            refine vc_icmp_gt dX6_isTurn_48 (fun h9 => ?_) (fun h9 => ?_)
            · refine vc_iconst dX6_isTurn_55 rfl ?_
              refine vc_zret dX6_isTurn_56 rfl (by first | decide | omega) (Nat.le_of_ble_eq_true rfl) (Nat.le_of_ble_eq_true rfl) ?_
              exact ⟨_, rfl, rfl, by omega, by omega⟩
            · refine vc_iconst dX6_isTurn_51 rfl ?_
              refine vc_goto dX6_isTurn_52 ?_
              refine vc_zret dX6_isTurn_56 rfl (by first | decide | omega) (Nat.le_of_ble_eq_true rfl) (Nat.le_of_ble_eq_true rfl) ?_
              exact ⟨_, rfl, rfl, by omega, by omega⟩
          · refine vc_iconst dX6_isTurn_43 rfl ?_
            refine vc_goto dX6_isTurn_44 ?_
            refine vc_icmp_gt dX6_isTurn_48 (fun h10 => ?_) (fun h10 => ?_)
            · refine vc_iconst dX6_isTurn_55 rfl ?_
              refine vc_zret dX6_isTurn_56 rfl (by first | decide | omega) (Nat.le_of_ble_eq_true rfl) (Nat.le_of_ble_eq_true rfl) ?_
              exact ⟨_, rfl, rfl, by omega, by omega⟩
            · refine vc_iconst dX6_isTurn_51 rfl ?_
              refine vc_goto dX6_isTurn_52 ?_
              refine vc_zret dX6_isTurn_56 rfl (by first | decide | omega) (Nat.le_of_ble_eq_true rfl) (Nat.le_of_ble_eq_true rfl) ?_
              exact ⟨_, rfl, rfl, by omega, by omega⟩

set_option maxRecDepth 4000 in
theorem sfX6_putTurns {l : Launch} {M : Mem} (hB : Box M)  (f : Int) (t : Int) (p0 : 0 ≤ f) (p1 : f ≤ 69) : Call l mdX6_putTurns [aR 1, aI f, aI t] M (fun q N => ∃ r : Int, q = some (aI r) ∧ BD M N ∧ mI N 1 = mI M 1) := by
  have hB0 := BD.start hB
  refine Call.of [some (aR 1), some (aI f), some (aI t), none, none, none] rfl (Nat.le_of_ble_eq_true rfl) rfl ?_
  refine vc_ok (fun hoM hoS hoL => ?_)
  have hr2 : -2147483648 ≤ t ∧ t < 2147483648 := hoL 2 _ rfl
  refine vc_iload_n dX6_putTurns_0 rfl ?_
  refine vc_if_le dX6_putTurns_1 (fun h1 => ?_) (fun h1 => ?_)
  · refine vc_iconst dX6_putTurns_10 rfl ?_
    refine vc_iret dX6_putTurns_11 rfl (Nat.le_of_ble_eq_true rfl) (Nat.le_of_ble_eq_true rfl) ?_
    exact ⟨_, rfl, hB0, rfl⟩
  · refine vc_iload_n dX6_putTurns_4 rfl ?_
    refine vc_ldc dX6_putTurns_5 rfl kcX6_93 ?_
    refine vc_icmp_lt dX6_putTurns_7 (fun h2 => ?_) (fun h2 => ?_)
    · refine vc_iload_n dX6_putTurns_12 rfl ?_
      refine vc_sipush dX6_putTurns_13 rfl ?_
      refine vc_icmp_ge dX6_putTurns_16 (fun h3 => ?_) (fun h3 => ?_)
      · refine vc_iload_n dX6_putTurns_23 rfl ?_
        refine vc_ldc dX6_putTurns_24 rfl kcX6_94 ?_
        refine vc_icmp_ge dX6_putTurns_26 (fun h4 => ?_) (fun h4 => ?_)
        · refine vc_iconst dX6_putTurns_33 rfl ?_
          refine vc_istore_n dX6_putTurns_34 (by decide) rfl (show _ = [some (aR 1), some (aI f), some (aI t), some (aI 3), none, none] from rfl) ?_
          refine vc_iload_n dX6_putTurns_35 rfl ?_
          refine vc_istore dX6_putTurns_36 (by decide) rfl (show _ = [some (aR 1), some (aI f), some (aI t), some (aI 3), some (aI t), none] from rfl) ?_
          refine vc_iload_n dX6_putTurns_38 rfl ?_
          refine vc_iload_n dX6_putTurns_39 rfl ?_
          refine vc_iaddE dX6_putTurns_40 (by omega) (by omega) ?_
          refine vc_iconst dX6_putTurns_41 rfl ?_
          refine vc_isubE dX6_putTurns_42 (by omega) (by omega) ?_
          refine vc_nameI (fun x5 ex5 => ?_)
          refine vc_istore dX6_putTurns_43 (by decide) rfl (show _ = [some (aR 1), some (aI f), some (aI t), some (aI 3), some (aI t), some (aI x5)] from rfl) ?_
          have lp45 : ∀ (n45 : Nat) (Mq45 : Mem) (v4 : Int) (v5 : Int), (BD M Mq45) → (mI Mq45 1 = mI M 1) → (f - 1 ≤ v5) → (v5 ≤ f + 2) → (v5 - f + 1).toNat < n45 → VC l mdX6_putTurns 45 [some (aR 1), some (aI f), none, some (aI 3), some (aI v4), some (aI v5)] [] Mq45 0 0 (fun q N => ∃ r : Int, q = some (aI r) ∧ BD M N ∧ mI N 1 = mI M 1) := by
            intro n45
            induction n45 with
            | zero => intro Mq45 v4 v5 hQ45 kp45_1 g45_5a g45_5b hm45; exact absurd hm45 (Nat.not_lt_zero _)
            | succ n45 ih45 =>
              intro Mq45 v4 v5 hQ45 kp45_1 g45_5a g45_5b hm45
              refine vc_iload dX6_putTurns_45 rfl ?_
              refine vc_iload_n dX6_putTurns_47 rfl ?_
              refine vc_icmp_lt dX6_putTurns_48 (fun h6 => ?_) (fun h6 => ?_)
              · refine vc_iload_n dX6_putTurns_92 rfl ?_
                refine vc_iret dX6_putTurns_93 rfl (Nat.le_of_ble_eq_true rfl) (Nat.le_of_ble_eq_true rfl) ?_
                exact ⟨_, rfl, hQ45, kp45_1⟩
              · refine vc_iload dX6_putTurns_51 rfl ?_
                refine vc_sipush dX6_putTurns_53 rfl ?_
                refine vc_irem dX6_putTurns_56 (by omega) ?_
                refine vc_cSI dX6_putTurns_57 (sfX6_isTurn (M := Mq45) hQ45.1  (rmI v4 1000) ) rfl okX6_isTurn stX6_isTurn lkX6_95 rfl (Nat.le_of_ble_eq_true rfl) ⟨rfl, rfl⟩ (Nat.le_of_ble_eq_true rfl) (Nat.le_of_ble_eq_true rfl) (Nat.le_of_ble_eq_true rfl) ?_
                rintro x7 _ ⟨rfl, h8, h9⟩
                refine vc_if_ne dX6_putTurns_60 (fun h10 => ?_) (fun h10 => ?_)
                · refine vc_aload_n dX6_putTurns_65 rfl ?_
                  refine vc_getR dX6_putTurns_66 flX6_24 (s_1 hQ45.1.1) rfl (r_1_4 hQ45.1.1) ?_
                  refine vc_iload dX6_putTurns_69 rfl ?_
                  refine vc_iload dX6_putTurns_71 rfl ?_
                  refine vc_sipush dX6_putTurns_73 rfl ?_
                  refine vc_irem dX6_putTurns_76 (by omega) ?_
                  refine vc_iastore dX6_putTurns_77 (s_6 hQ45.1.1) (by omega) (by omega) ?_
                  have kp11 : mI (sI Mq45 6 v5.toNat (rmI v4 1000)) 1 = mI M 1 := (kp_sI kp45_1 rfl)
                  have hB12 : BD M (sI Mq45 6 v5.toNat (rmI v4 1000)) := BD.w6 hQ45 _
                  refine vc_iload dX6_putTurns_78 rfl ?_
                  refine vc_sipush dX6_putTurns_80 rfl ?_
                  refine vc_idiv dX6_putTurns_83 (by omega) ?_
                  refine vc_nameI (fun x13 ex13 => ?_)
                  refine vc_istore dX6_putTurns_84 (by decide) rfl (show _ = [some (aR 1), some (aI f), none, some (aI 3), some (aI x13), some (aI v5)] from rfl) ?_
                  refine vc_iincE dX6_putTurns_86 rfl (by omega) (by omega) (by decide) rfl (show _ = [some (aR 1), some (aI f), none, some (aI 3), some (aI x13), some (aI (v5 + (-1)))] from rfl) ?_
                  refine vc_goto dX6_putTurns_89 ?_
                  exact ih45 (sI Mq45 6 v5.toNat (rmI v4 1000)) x13 (v5 + (-1)) hB12 kp11 (by omega) (by omega) (by omega)
                · refine vc_iconst dX6_putTurns_63 rfl ?_
                  refine vc_iret dX6_putTurns_64 rfl (Nat.le_of_ble_eq_true rfl) (Nat.le_of_ble_eq_true rfl) ?_
                  exact ⟨_, rfl, hQ45, kp45_1⟩
          refine vc_less [some (aR 1), some (aI f), none, some (aI 3), some (aI t), some (aI x5)] (lessL_keep (lessL_keep (lessL_drop (lessL_keep (lessL_keep (lessL_keep (lessL_nil))))))) ?_
          exact lp45 _ M t x5 hB0 rfl (by omega) (by omega) (Nat.lt_succ_self _)
        · refine vc_iconst dX6_putTurns_29 rfl ?_
          refine vc_goto dX6_putTurns_30 ?_
          refine vc_istore_n dX6_putTurns_34 (by decide) rfl (show _ = [some (aR 1), some (aI f), some (aI t), some (aI 2), none, none] from rfl) ?_
          refine vc_iload_n dX6_putTurns_35 rfl ?_
          refine vc_istore dX6_putTurns_36 (by decide) rfl (show _ = [some (aR 1), some (aI f), some (aI t), some (aI 2), some (aI t), none] from rfl) ?_
          refine vc_iload_n dX6_putTurns_38 rfl ?_
          refine vc_iload_n dX6_putTurns_39 rfl ?_
          refine vc_iaddE dX6_putTurns_40 (by omega) (by omega) ?_
          refine vc_iconst dX6_putTurns_41 rfl ?_
          refine vc_isubE dX6_putTurns_42 (by omega) (by omega) ?_
          refine vc_nameI (fun x14 ex14 => ?_)
          refine vc_istore dX6_putTurns_43 (by decide) rfl (show _ = [some (aR 1), some (aI f), some (aI t), some (aI 2), some (aI t), some (aI x14)] from rfl) ?_
          have lp45 : ∀ (n45 : Nat) (Mq45 : Mem) (v4 : Int) (v5 : Int), (BD M Mq45) → (mI Mq45 1 = mI M 1) → (f - 1 ≤ v5) → (v5 ≤ f + 2) → (v5 - f + 1).toNat < n45 → VC l mdX6_putTurns 45 [some (aR 1), some (aI f), none, some (aI 2), some (aI v4), some (aI v5)] [] Mq45 0 0 (fun q N => ∃ r : Int, q = some (aI r) ∧ BD M N ∧ mI N 1 = mI M 1) := by
            intro n45
            induction n45 with
            | zero => intro Mq45 v4 v5 hQ45 kp45_1 g45_5a g45_5b hm45; exact absurd hm45 (Nat.not_lt_zero _)
            | succ n45 ih45 =>
              intro Mq45 v4 v5 hQ45 kp45_1 g45_5a g45_5b hm45
              refine vc_iload dX6_putTurns_45 rfl ?_
              refine vc_iload_n dX6_putTurns_47 rfl ?_
              refine vc_icmp_lt dX6_putTurns_48 (fun h15 => ?_) (fun h15 => ?_)
              · refine vc_iload_n dX6_putTurns_92 rfl ?_
                refine vc_iret dX6_putTurns_93 rfl (Nat.le_of_ble_eq_true rfl) (Nat.le_of_ble_eq_true rfl) ?_
                exact ⟨_, rfl, hQ45, kp45_1⟩
              · refine vc_iload dX6_putTurns_51 rfl ?_
                refine vc_sipush dX6_putTurns_53 rfl ?_
                refine vc_irem dX6_putTurns_56 (by omega) ?_
                refine vc_cSI dX6_putTurns_57 (sfX6_isTurn (M := Mq45) hQ45.1  (rmI v4 1000) ) rfl okX6_isTurn stX6_isTurn lkX6_95 rfl (Nat.le_of_ble_eq_true rfl) ⟨rfl, rfl⟩ (Nat.le_of_ble_eq_true rfl) (Nat.le_of_ble_eq_true rfl) (Nat.le_of_ble_eq_true rfl) ?_
                rintro x16 _ ⟨rfl, h17, h18⟩
                refine vc_if_ne dX6_putTurns_60 (fun h19 => ?_) (fun h19 => ?_)
                · refine vc_aload_n dX6_putTurns_65 rfl ?_
                  refine vc_getR dX6_putTurns_66 flX6_24 (s_1 hQ45.1.1) rfl (r_1_4 hQ45.1.1) ?_
                  refine vc_iload dX6_putTurns_69 rfl ?_
                  refine vc_iload dX6_putTurns_71 rfl ?_
                  refine vc_sipush dX6_putTurns_73 rfl ?_
                  refine vc_irem dX6_putTurns_76 (by omega) ?_
                  refine vc_iastore dX6_putTurns_77 (s_6 hQ45.1.1) (by omega) (by omega) ?_
                  have kp20 : mI (sI Mq45 6 v5.toNat (rmI v4 1000)) 1 = mI M 1 := (kp_sI kp45_1 rfl)
                  have hB21 : BD M (sI Mq45 6 v5.toNat (rmI v4 1000)) := BD.w6 hQ45 _
                  refine vc_iload dX6_putTurns_78 rfl ?_
                  refine vc_sipush dX6_putTurns_80 rfl ?_
                  refine vc_idiv dX6_putTurns_83 (by omega) ?_
                  refine vc_nameI (fun x22 ex22 => ?_)
                  refine vc_istore dX6_putTurns_84 (by decide) rfl (show _ = [some (aR 1), some (aI f), none, some (aI 2), some (aI x22), some (aI v5)] from rfl) ?_
                  refine vc_iincE dX6_putTurns_86 rfl (by omega) (by omega) (by decide) rfl (show _ = [some (aR 1), some (aI f), none, some (aI 2), some (aI x22), some (aI (v5 + (-1)))] from rfl) ?_
                  refine vc_goto dX6_putTurns_89 ?_
                  exact ih45 (sI Mq45 6 v5.toNat (rmI v4 1000)) x22 (v5 + (-1)) hB21 kp20 (by omega) (by omega) (by omega)
                · refine vc_iconst dX6_putTurns_63 rfl ?_
                  refine vc_iret dX6_putTurns_64 rfl (Nat.le_of_ble_eq_true rfl) (Nat.le_of_ble_eq_true rfl) ?_
                  exact ⟨_, rfl, hQ45, kp45_1⟩
          refine vc_less [some (aR 1), some (aI f), none, some (aI 2), some (aI t), some (aI x14)] (lessL_keep (lessL_keep (lessL_drop (lessL_keep (lessL_keep (lessL_keep (lessL_nil))))))) ?_
          exact lp45 _ M t x14 hB0 rfl (by omega) (by omega) (Nat.lt_succ_self _)
      · refine vc_iconst dX6_putTurns_19 rfl ?_
        refine vc_goto dX6_putTurns_20 ?_
        refine vc_istore_n dX6_putTurns_34 (by decide) rfl (show _ = [some (aR 1), some (aI f), some (aI t), some (aI 1), none, none] from rfl) ?_
        refine vc_iload_n dX6_putTurns_35 rfl ?_
        refine vc_istore dX6_putTurns_36 (by decide) rfl (show _ = [some (aR 1), some (aI f), some (aI t), some (aI 1), some (aI t), none] from rfl) ?_
        refine vc_iload_n dX6_putTurns_38 rfl ?_
        refine vc_iload_n dX6_putTurns_39 rfl ?_
        refine vc_iaddE dX6_putTurns_40 (by omega) (by omega) ?_
        refine vc_iconst dX6_putTurns_41 rfl ?_
        refine vc_isubE dX6_putTurns_42 (by omega) (by omega) ?_
        refine vc_nameI (fun x23 ex23 => ?_)
        refine vc_istore dX6_putTurns_43 (by decide) rfl (show _ = [some (aR 1), some (aI f), some (aI t), some (aI 1), some (aI t), some (aI x23)] from rfl) ?_
        have lp45 : ∀ (n45 : Nat) (Mq45 : Mem) (v4 : Int) (v5 : Int), (BD M Mq45) → (mI Mq45 1 = mI M 1) → (f - 1 ≤ v5) → (v5 ≤ f + 2) → (v5 - f + 1).toNat < n45 → VC l mdX6_putTurns 45 [some (aR 1), some (aI f), none, some (aI 1), some (aI v4), some (aI v5)] [] Mq45 0 0 (fun q N => ∃ r : Int, q = some (aI r) ∧ BD M N ∧ mI N 1 = mI M 1) := by
          intro n45
          induction n45 with
          | zero => intro Mq45 v4 v5 hQ45 kp45_1 g45_5a g45_5b hm45; exact absurd hm45 (Nat.not_lt_zero _)
          | succ n45 ih45 =>
            intro Mq45 v4 v5 hQ45 kp45_1 g45_5a g45_5b hm45
            refine vc_iload dX6_putTurns_45 rfl ?_
            refine vc_iload_n dX6_putTurns_47 rfl ?_
            refine vc_icmp_lt dX6_putTurns_48 (fun h24 => ?_) (fun h24 => ?_)
            · refine vc_iload_n dX6_putTurns_92 rfl ?_
              refine vc_iret dX6_putTurns_93 rfl (Nat.le_of_ble_eq_true rfl) (Nat.le_of_ble_eq_true rfl) ?_
              exact ⟨_, rfl, hQ45, kp45_1⟩
            · refine vc_iload dX6_putTurns_51 rfl ?_
              refine vc_sipush dX6_putTurns_53 rfl ?_
              refine vc_irem dX6_putTurns_56 (by omega) ?_
              refine vc_cSI dX6_putTurns_57 (sfX6_isTurn (M := Mq45) hQ45.1  (rmI v4 1000) ) rfl okX6_isTurn stX6_isTurn lkX6_95 rfl (Nat.le_of_ble_eq_true rfl) ⟨rfl, rfl⟩ (Nat.le_of_ble_eq_true rfl) (Nat.le_of_ble_eq_true rfl) (Nat.le_of_ble_eq_true rfl) ?_
              rintro x25 _ ⟨rfl, h26, h27⟩
              refine vc_if_ne dX6_putTurns_60 (fun h28 => ?_) (fun h28 => ?_)
              · refine vc_aload_n dX6_putTurns_65 rfl ?_
                refine vc_getR dX6_putTurns_66 flX6_24 (s_1 hQ45.1.1) rfl (r_1_4 hQ45.1.1) ?_
                refine vc_iload dX6_putTurns_69 rfl ?_
                refine vc_iload dX6_putTurns_71 rfl ?_
                refine vc_sipush dX6_putTurns_73 rfl ?_
                refine vc_irem dX6_putTurns_76 (by omega) ?_
                refine vc_iastore dX6_putTurns_77 (s_6 hQ45.1.1) (by omega) (by omega) ?_
                have kp29 : mI (sI Mq45 6 v5.toNat (rmI v4 1000)) 1 = mI M 1 := (kp_sI kp45_1 rfl)
                have hB30 : BD M (sI Mq45 6 v5.toNat (rmI v4 1000)) := BD.w6 hQ45 _
                refine vc_iload dX6_putTurns_78 rfl ?_
                refine vc_sipush dX6_putTurns_80 rfl ?_
                refine vc_idiv dX6_putTurns_83 (by omega) ?_
                refine vc_nameI (fun x31 ex31 => ?_)
                refine vc_istore dX6_putTurns_84 (by decide) rfl (show _ = [some (aR 1), some (aI f), none, some (aI 1), some (aI x31), some (aI v5)] from rfl) ?_
                refine vc_iincE dX6_putTurns_86 rfl (by omega) (by omega) (by decide) rfl (show _ = [some (aR 1), some (aI f), none, some (aI 1), some (aI x31), some (aI (v5 + (-1)))] from rfl) ?_
                refine vc_goto dX6_putTurns_89 ?_
                exact ih45 (sI Mq45 6 v5.toNat (rmI v4 1000)) x31 (v5 + (-1)) hB30 kp29 (by omega) (by omega) (by omega)
              · refine vc_iconst dX6_putTurns_63 rfl ?_
                refine vc_iret dX6_putTurns_64 rfl (Nat.le_of_ble_eq_true rfl) (Nat.le_of_ble_eq_true rfl) ?_
                exact ⟨_, rfl, hQ45, kp45_1⟩
        refine vc_less [some (aR 1), some (aI f), none, some (aI 1), some (aI t), some (aI x23)] (lessL_keep (lessL_keep (lessL_drop (lessL_keep (lessL_keep (lessL_keep (lessL_nil))))))) ?_
        exact lp45 _ M t x23 hB0 rfl (by omega) (by omega) (Nat.lt_succ_self _)
    · refine vc_iconst dX6_putTurns_10 rfl ?_
      refine vc_iret dX6_putTurns_11 rfl (Nat.le_of_ble_eq_true rfl) (Nat.le_of_ble_eq_true rfl) ?_
      exact ⟨_, rfl, hB0, rfl⟩

set_option maxRecDepth 4000 in
theorem sfX6_addTelling {l : Launch} {M : Mem} (hB : Box M)  (t : Int) (f : Int) (a : Int) (b : Int)  : Call l mdX6_addTelling [aR 1, aI t, aI f, aI a, aI b] M (fun q N => ∃ r : Int, q = some (aI r) ∧ BD M N) := by
  have hB0 := BD.start hB
  refine Call.of [some (aR 1), some (aI t), some (aI f), some (aI a), some (aI b), none, none, none] rfl (Nat.le_of_ble_eq_true rfl) rfl ?_
  refine vc_ok (fun hoM hoS hoL => ?_)
  have hr1 : -2147483648 ≤ t ∧ t < 2147483648 := hoL 1 _ rfl
  have hr2 : -2147483648 ≤ f ∧ f < 2147483648 := hoL 2 _ rfl
  have hr3 : -2147483648 ≤ a ∧ a < 2147483648 := hoL 3 _ rfl
  have hr4 : -2147483648 ≤ b ∧ b < 2147483648 := hoL 4 _ rfl
  refine vc_aload_n dX6_addTelling_0 rfl ?_
  refine vc_iload_n dX6_addTelling_1 rfl ?_
  refine vc_cVI dX6_addTelling_2 (sfX6_hasTeller (M := M) hB0.1  t ) rfl okX6_hasTeller viX6_hasTeller lkX6_87 (s_1 hB0.1.1) cl_6 rfl (Nat.le_of_ble_eq_true rfl) ⟨rfl, rfl⟩ (Nat.le_of_ble_eq_true rfl) (Nat.le_of_ble_eq_true rfl) (Nat.le_of_ble_eq_true rfl) ?_
  rintro x1 _ ⟨rfl, h2, h3, h4⟩
  refine vc_if_eq dX6_addTelling_5 (fun h5 => ?_) (fun h5 => ?_)
  · refine vc_iconst dX6_addTelling_24 rfl ?_
    refine vc_iret dX6_addTelling_25 rfl (Nat.le_of_ble_eq_true rfl) (Nat.le_of_ble_eq_true rfl) ?_
    exact ⟨_, rfl, hB0⟩
  · refine vc_iload_n dX6_addTelling_8 rfl ?_
    refine vc_cNI dX6_addTelling_9 (sfX11_isDirection (M := M) hB0.1  f ) rfl okX11_isDirection stX11_isDirection nkX6_81 rfl (Nat.le_of_ble_eq_true rfl) ⟨rfl, rfl⟩ (Nat.le_of_ble_eq_true rfl) (Nat.le_of_ble_eq_true rfl) (Nat.le_of_ble_eq_true rfl) ?_
    rintro x6 _ ⟨rfl, h7, h8, h9⟩
    refine vc_if_eq dX6_addTelling_12 (fun h10 => ?_) (fun h10 => ?_)
    · refine vc_iconst dX6_addTelling_24 rfl ?_
      refine vc_iret dX6_addTelling_25 rfl (Nat.le_of_ble_eq_true rfl) (Nat.le_of_ble_eq_true rfl) ?_
      exact ⟨_, rfl, hB0⟩
    · refine vc_aload_n dX6_addTelling_15 rfl ?_
      refine vc_getI dX6_addTelling_16 flX6_58 (s_1 hB0.1.1) rfl ?_
      have k11 : 0 ≤ mI M 1 9 ∧ mI M 1 9 ≤ 8 := b1_9 (M := M) hB0.1
      refine vc_bipush dX6_addTelling_19 rfl ?_
      refine vc_icmp_lt dX6_addTelling_21 (fun h13 => ?_) (fun h13 => ?_)
      · refine vc_bipush dX6_addTelling_26 rfl ?_
        refine vc_aload_n dX6_addTelling_28 rfl ?_
        refine vc_getI dX6_addTelling_29 flX6_58 (s_1 hB0.1.1) rfl ?_
        refine vc_imulE dX6_addTelling_32 (by omega) (by omega) ?_
        refine vc_nameI (fun x15 ex15 => ?_)
        refine vc_istore dX6_addTelling_33 (by decide) rfl (show _ = [some (aR 1), some (aI t), some (aI f), some (aI a), some (aI b), some (aI x15), none, none] from rfl) ?_
        refine vc_aload_n dX6_addTelling_35 rfl ?_
        refine vc_iload dX6_addTelling_36 rfl ?_
        refine vc_iconst dX6_addTelling_38 rfl ?_
        refine vc_iaddE dX6_addTelling_39 (by omega) (by omega) ?_
        refine vc_iload_n dX6_addTelling_40 rfl ?_
        refine vc_cVI dX6_addTelling_41 (sfX6_putTurns (M := M) hB0.1  (x15 + 3) a (by omega) (by omega)) rfl okX6_putTurns viX6_putTurns lkX6_90 (s_1 hB0.1.1) cl_6 rfl (Nat.le_of_ble_eq_true rfl) ⟨rfl, rfl⟩ (Nat.le_of_ble_eq_true rfl) (Nat.le_of_ble_eq_true rfl) (Nat.le_of_ble_eq_true rfl) ?_
        rintro x16 M17 ⟨hB18, kp19⟩
        have hB20 : BD M M17 := BD.go hB0 hB18
        have kp21 : mI M17 1 = mI M 1 := kp_go rfl kp19
        refine vc_istore dX6_addTelling_44 (by decide) rfl (show _ = [some (aR 1), some (aI t), some (aI f), some (aI a), some (aI b), some (aI x15), some (aI x16), none] from rfl) ?_
        refine vc_iload dX6_addTelling_46 rfl ?_
        refine vc_if_ne dX6_addTelling_48 (fun h22 => ?_) (fun h22 => ?_)
        · refine vc_aload_n dX6_addTelling_55 rfl ?_
          refine vc_iload dX6_addTelling_56 rfl ?_
          refine vc_iconst dX6_addTelling_58 rfl ?_
          refine vc_iaddE dX6_addTelling_59 (by omega) (by omega) ?_
          refine vc_iconst dX6_addTelling_60 rfl ?_
          refine vc_iaddE dX6_addTelling_61 (by omega) (by omega) ?_
          refine vc_iload dX6_addTelling_62 rfl ?_
          refine vc_cVI dX6_addTelling_64 (sfX6_putTurns (M := M17) hB20.1  ((x15 + 3) + 3) b (by omega) (by omega)) rfl okX6_putTurns viX6_putTurns lkX6_90 (s_1 hB20.1.1) cl_6 rfl (Nat.le_of_ble_eq_true rfl) ⟨rfl, rfl⟩ (Nat.le_of_ble_eq_true rfl) (Nat.le_of_ble_eq_true rfl) (Nat.le_of_ble_eq_true rfl) ?_
          rintro x23 M24 ⟨hB25, kp26⟩
          have hB27 : BD M M24 := BD.go hB20 hB25
          have kp28 : mI M24 1 = mI M 1 := kp_go kp21 kp26
          refine vc_istore dX6_addTelling_67 (by decide) rfl (show _ = [some (aR 1), some (aI t), some (aI f), some (aI a), some (aI b), some (aI x15), some (aI x16), some (aI x23)] from rfl) ?_
          refine vc_iload dX6_addTelling_69 rfl ?_
          refine vc_iconst dX6_addTelling_71 rfl ?_
          refine vc_icmp_eq dX6_addTelling_72 (fun h29 => ?_) (fun h29 => ?_)
          · refine vc_iconst dX6_addTelling_92 rfl ?_
            refine vc_iret dX6_addTelling_93 rfl (Nat.le_of_ble_eq_true rfl) (Nat.le_of_ble_eq_true rfl) ?_
            exact ⟨_, rfl, hB27⟩
          · refine vc_iload dX6_addTelling_75 rfl ?_
            refine vc_iconst dX6_addTelling_77 rfl ?_
            refine vc_icmp_eq dX6_addTelling_78 (fun h30 => ?_) (fun h30 => ?_)
            · refine vc_iconst dX6_addTelling_92 rfl ?_
              refine vc_iret dX6_addTelling_93 rfl (Nat.le_of_ble_eq_true rfl) (Nat.le_of_ble_eq_true rfl) ?_
              exact ⟨_, rfl, hB27⟩
            · refine vc_iload dX6_addTelling_81 rfl ?_
              refine vc_if_le dX6_addTelling_83 (fun h31 => ?_) (fun h31 => ?_)
              · refine vc_aload_n dX6_addTelling_94 rfl ?_
                refine vc_getR dX6_addTelling_95 flX6_24 (s_1 hB27.1.1) rfl (r_1_4 hB27.1.1) ?_
                refine vc_iload dX6_addTelling_98 rfl ?_
                refine vc_iload_n dX6_addTelling_100 rfl ?_
                refine vc_iastore dX6_addTelling_101 (s_6 hB27.1.1) (by omega) (by omega) ?_
                have kp32 : mI (sI M24 6 x15.toNat t) 1 = mI M 1 := (kp_sI kp28 rfl)
                have hB33 : BD M (sI M24 6 x15.toNat t) := BD.w6 hB27 _
                refine vc_aload_n dX6_addTelling_102 rfl ?_
                refine vc_getR dX6_addTelling_103 flX6_24 (s_1 hB33.1.1) rfl (r_1_4 hB33.1.1) ?_
                refine vc_iload dX6_addTelling_106 rfl ?_
                refine vc_iconst dX6_addTelling_108 rfl ?_
                refine vc_iaddE dX6_addTelling_109 (by omega) (by omega) ?_
                refine vc_iload_n dX6_addTelling_110 rfl ?_
                refine vc_iastore dX6_addTelling_111 (s_6 hB33.1.1) (by omega) (by omega) ?_
                have kp34 : mI (sI (sI M24 6 x15.toNat t) 6 ((x15 + 1).toNat) f) 1 = mI M 1 := (kp_sI kp32 rfl)
                have hB35 : BD M (sI (sI M24 6 x15.toNat t) 6 ((x15 + 1).toNat) f) := BD.w6 hB33 _
                refine vc_aload_n dX6_addTelling_112 rfl ?_
                refine vc_getR dX6_addTelling_113 flX6_24 (s_1 hB35.1.1) rfl (r_1_4 hB35.1.1) ?_
                refine vc_iload dX6_addTelling_116 rfl ?_
                refine vc_iconst dX6_addTelling_118 rfl ?_
                refine vc_iaddE dX6_addTelling_119 (by omega) (by omega) ?_
                refine vc_iload dX6_addTelling_120 rfl ?_
                refine vc_iload dX6_addTelling_122 rfl ?_
                refine vc_iadd dX6_addTelling_124 ?_
                refine vc_iastore dX6_addTelling_125 (s_6 hB35.1.1) (by omega) (by omega) ?_
                have kp36 : mI (sI (sI (sI M24 6 x15.toNat t) 6 ((x15 + 1).toNat) f) 6 ((x15 + 2).toNat) (wI (x16 + x23))) 1 = mI M 1 := (kp_sI kp34 rfl)
                have hB37 : BD M (sI (sI (sI M24 6 x15.toNat t) 6 ((x15 + 1).toNat) f) 6 ((x15 + 2).toNat) (wI (x16 + x23))) := BD.w6 hB35 _
                refine vc_aload_n dX6_addTelling_126 rfl ?_
                refine vc_dup dX6_addTelling_127 rfl ?_
                refine vc_getI dX6_addTelling_128 flX6_58 (s_1 hB37.1.1) rfl ?_
                refine vc_topI (mI M24 1 9) rfl ?_
                have k38 : 0 ≤ mI M24 1 9 ∧ mI M24 1 9 ≤ 8 := b1_9 (M := (sI (sI (sI M24 6 x15.toNat t) 6 ((x15 + 1).toNat) f) 6 ((x15 + 2).toNat) (wI (x16 + x23)))) hB37.1
                have k39 : mI M24 1 9 = mI M 1 9 := congrFun kp36 9
                refine vc_iconst dX6_addTelling_131 rfl ?_
                refine vc_iaddE dX6_addTelling_132 (by omega) (by omega) ?_
                refine vc_putI dX6_addTelling_133 (plX6_58 _ rfl) (s_1 hB37.1.1) rfl ?_
                have hB40 : BD M (sI (sI (sI (sI M24 6 x15.toNat t) 6 ((x15 + 1).toNat) f) 6 ((x15 + 2).toNat) (wI (x16 + x23))) 1 9 ((mI M24 1 9) + 1)) := BD.w1_9 hB37 (by omega) (by omega)
                refine vc_aload_n dX6_addTelling_136 rfl ?_
                refine vc_getI dX6_addTelling_137 flX6_58 (s_1 hB40.1.1) rfl ?_
                refine vc_topI ((mI M24 1 9) + 1) rfl ?_
                refine vc_iconst dX6_addTelling_140 rfl ?_
                refine vc_isubE dX6_addTelling_141 (by omega) (by omega) ?_
                refine vc_iret dX6_addTelling_142 rfl (Nat.le_of_ble_eq_true rfl) (Nat.le_of_ble_eq_true rfl) ?_
                exact ⟨_, rfl, hB40⟩
              · refine vc_iload dX6_addTelling_86 rfl ?_
                refine vc_iconst dX6_addTelling_88 rfl ?_
                refine vc_icmp_ge dX6_addTelling_89 (fun h41 => ?_) (fun h41 => ?_)
                · refine vc_aload_n dX6_addTelling_94 rfl ?_
                  refine vc_getR dX6_addTelling_95 flX6_24 (s_1 hB27.1.1) rfl (r_1_4 hB27.1.1) ?_
                  refine vc_iload dX6_addTelling_98 rfl ?_
                  refine vc_iload_n dX6_addTelling_100 rfl ?_
                  refine vc_iastore dX6_addTelling_101 (s_6 hB27.1.1) (by omega) (by omega) ?_
                  have kp42 : mI (sI M24 6 x15.toNat t) 1 = mI M 1 := (kp_sI kp28 rfl)
                  have hB43 : BD M (sI M24 6 x15.toNat t) := BD.w6 hB27 _
                  refine vc_aload_n dX6_addTelling_102 rfl ?_
                  refine vc_getR dX6_addTelling_103 flX6_24 (s_1 hB43.1.1) rfl (r_1_4 hB43.1.1) ?_
                  refine vc_iload dX6_addTelling_106 rfl ?_
                  refine vc_iconst dX6_addTelling_108 rfl ?_
                  refine vc_iaddE dX6_addTelling_109 (by omega) (by omega) ?_
                  refine vc_iload_n dX6_addTelling_110 rfl ?_
                  refine vc_iastore dX6_addTelling_111 (s_6 hB43.1.1) (by omega) (by omega) ?_
                  have kp44 : mI (sI (sI M24 6 x15.toNat t) 6 ((x15 + 1).toNat) f) 1 = mI M 1 := (kp_sI kp42 rfl)
                  have hB45 : BD M (sI (sI M24 6 x15.toNat t) 6 ((x15 + 1).toNat) f) := BD.w6 hB43 _
                  refine vc_aload_n dX6_addTelling_112 rfl ?_
                  refine vc_getR dX6_addTelling_113 flX6_24 (s_1 hB45.1.1) rfl (r_1_4 hB45.1.1) ?_
                  refine vc_iload dX6_addTelling_116 rfl ?_
                  refine vc_iconst dX6_addTelling_118 rfl ?_
                  refine vc_iaddE dX6_addTelling_119 (by omega) (by omega) ?_
                  refine vc_iload dX6_addTelling_120 rfl ?_
                  refine vc_iload dX6_addTelling_122 rfl ?_
                  refine vc_iadd dX6_addTelling_124 ?_
                  refine vc_iastore dX6_addTelling_125 (s_6 hB45.1.1) (by omega) (by omega) ?_
                  have kp46 : mI (sI (sI (sI M24 6 x15.toNat t) 6 ((x15 + 1).toNat) f) 6 ((x15 + 2).toNat) (wI (x16 + x23))) 1 = mI M 1 := (kp_sI kp44 rfl)
                  have hB47 : BD M (sI (sI (sI M24 6 x15.toNat t) 6 ((x15 + 1).toNat) f) 6 ((x15 + 2).toNat) (wI (x16 + x23))) := BD.w6 hB45 _
                  refine vc_aload_n dX6_addTelling_126 rfl ?_
                  refine vc_dup dX6_addTelling_127 rfl ?_
                  refine vc_getI dX6_addTelling_128 flX6_58 (s_1 hB47.1.1) rfl ?_
                  refine vc_topI (mI M24 1 9) rfl ?_
                  have k48 : 0 ≤ mI M24 1 9 ∧ mI M24 1 9 ≤ 8 := b1_9 (M := (sI (sI (sI M24 6 x15.toNat t) 6 ((x15 + 1).toNat) f) 6 ((x15 + 2).toNat) (wI (x16 + x23)))) hB47.1
                  have k49 : mI M24 1 9 = mI M 1 9 := congrFun kp46 9
                  refine vc_iconst dX6_addTelling_131 rfl ?_
                  refine vc_iaddE dX6_addTelling_132 (by omega) (by omega) ?_
                  refine vc_putI dX6_addTelling_133 (plX6_58 _ rfl) (s_1 hB47.1.1) rfl ?_
                  have hB50 : BD M (sI (sI (sI (sI M24 6 x15.toNat t) 6 ((x15 + 1).toNat) f) 6 ((x15 + 2).toNat) (wI (x16 + x23))) 1 9 ((mI M24 1 9) + 1)) := BD.w1_9 hB47 (by omega) (by omega)
                  refine vc_aload_n dX6_addTelling_136 rfl ?_
                  refine vc_getI dX6_addTelling_137 flX6_58 (s_1 hB50.1.1) rfl ?_
                  refine vc_topI ((mI M24 1 9) + 1) rfl ?_
                  refine vc_iconst dX6_addTelling_140 rfl ?_
                  refine vc_isubE dX6_addTelling_141 (by omega) (by omega) ?_
                  refine vc_iret dX6_addTelling_142 rfl (Nat.le_of_ble_eq_true rfl) (Nat.le_of_ble_eq_true rfl) ?_
                  exact ⟨_, rfl, hB50⟩
                · refine vc_iconst dX6_addTelling_92 rfl ?_
                  refine vc_iret dX6_addTelling_93 rfl (Nat.le_of_ble_eq_true rfl) (Nat.le_of_ble_eq_true rfl) ?_
                  exact ⟨_, rfl, hB27⟩
        · refine vc_iconst dX6_addTelling_51 rfl ?_
          refine vc_goto dX6_addTelling_52 ?_
          refine vc_istore dX6_addTelling_67 (by decide) rfl (show _ = [some (aR 1), some (aI t), some (aI f), some (aI a), some (aI b), some (aI x15), some (aI x16), some (aI 0)] from rfl) ?_
          refine vc_iload dX6_addTelling_69 rfl ?_
          refine vc_iconst dX6_addTelling_71 rfl ?_
          refine vc_icmp_eq dX6_addTelling_72 (fun h51 => ?_) (fun h51 => ?_)
          · refine vc_iconst dX6_addTelling_92 rfl ?_
            refine vc_iret dX6_addTelling_93 rfl (Nat.le_of_ble_eq_true rfl) (Nat.le_of_ble_eq_true rfl) ?_
            exact ⟨_, rfl, hB20⟩
          · refine vc_iload dX6_addTelling_75 rfl ?_
            refine vc_iconst dX6_addTelling_77 rfl ?_
            refine vc_icmp_eq dX6_addTelling_78 (fun h52 => by exfalso; omega) (fun h52 => ?_)
            refine vc_iload dX6_addTelling_81 rfl ?_
            refine vc_if_le dX6_addTelling_83 (fun h53 => ?_) (fun h53 => by exfalso; omega)
            refine vc_aload_n dX6_addTelling_94 rfl ?_
            refine vc_getR dX6_addTelling_95 flX6_24 (s_1 hB20.1.1) rfl (r_1_4 hB20.1.1) ?_
            refine vc_iload dX6_addTelling_98 rfl ?_
            refine vc_iload_n dX6_addTelling_100 rfl ?_
            refine vc_iastore dX6_addTelling_101 (s_6 hB20.1.1) (by omega) (by omega) ?_
            have kp54 : mI (sI M17 6 x15.toNat t) 1 = mI M 1 := (kp_sI kp21 rfl)
            have hB55 : BD M (sI M17 6 x15.toNat t) := BD.w6 hB20 _
            refine vc_aload_n dX6_addTelling_102 rfl ?_
            refine vc_getR dX6_addTelling_103 flX6_24 (s_1 hB55.1.1) rfl (r_1_4 hB55.1.1) ?_
            refine vc_iload dX6_addTelling_106 rfl ?_
            refine vc_iconst dX6_addTelling_108 rfl ?_
            refine vc_iaddE dX6_addTelling_109 (by omega) (by omega) ?_
            refine vc_iload_n dX6_addTelling_110 rfl ?_
            refine vc_iastore dX6_addTelling_111 (s_6 hB55.1.1) (by omega) (by omega) ?_
            have kp56 : mI (sI (sI M17 6 x15.toNat t) 6 ((x15 + 1).toNat) f) 1 = mI M 1 := (kp_sI kp54 rfl)
            have hB57 : BD M (sI (sI M17 6 x15.toNat t) 6 ((x15 + 1).toNat) f) := BD.w6 hB55 _
            refine vc_aload_n dX6_addTelling_112 rfl ?_
            refine vc_getR dX6_addTelling_113 flX6_24 (s_1 hB57.1.1) rfl (r_1_4 hB57.1.1) ?_
            refine vc_iload dX6_addTelling_116 rfl ?_
            refine vc_iconst dX6_addTelling_118 rfl ?_
            refine vc_iaddE dX6_addTelling_119 (by omega) (by omega) ?_
            refine vc_iload dX6_addTelling_120 rfl ?_
            refine vc_iload dX6_addTelling_122 rfl ?_
            refine vc_iadd dX6_addTelling_124 ?_
            refine vc_iastore dX6_addTelling_125 (s_6 hB57.1.1) (by omega) (by omega) ?_
            have kp58 : mI (sI (sI (sI M17 6 x15.toNat t) 6 ((x15 + 1).toNat) f) 6 ((x15 + 2).toNat) (wI (x16 + 0))) 1 = mI M 1 := (kp_sI kp56 rfl)
            have hB59 : BD M (sI (sI (sI M17 6 x15.toNat t) 6 ((x15 + 1).toNat) f) 6 ((x15 + 2).toNat) (wI (x16 + 0))) := BD.w6 hB57 _
            refine vc_aload_n dX6_addTelling_126 rfl ?_
            refine vc_dup dX6_addTelling_127 rfl ?_
            refine vc_getI dX6_addTelling_128 flX6_58 (s_1 hB59.1.1) rfl ?_
            refine vc_topI (mI M17 1 9) rfl ?_
            have k60 : 0 ≤ mI M17 1 9 ∧ mI M17 1 9 ≤ 8 := b1_9 (M := (sI (sI (sI M17 6 x15.toNat t) 6 ((x15 + 1).toNat) f) 6 ((x15 + 2).toNat) (wI (x16 + 0)))) hB59.1
            have k61 : mI M17 1 9 = mI M 1 9 := congrFun kp58 9
            refine vc_iconst dX6_addTelling_131 rfl ?_
            refine vc_iaddE dX6_addTelling_132 (by omega) (by omega) ?_
            refine vc_putI dX6_addTelling_133 (plX6_58 _ rfl) (s_1 hB59.1.1) rfl ?_
            have hB62 : BD M (sI (sI (sI (sI M17 6 x15.toNat t) 6 ((x15 + 1).toNat) f) 6 ((x15 + 2).toNat) (wI (x16 + 0))) 1 9 ((mI M17 1 9) + 1)) := BD.w1_9 hB59 (by omega) (by omega)
            refine vc_aload_n dX6_addTelling_136 rfl ?_
            refine vc_getI dX6_addTelling_137 flX6_58 (s_1 hB62.1.1) rfl ?_
            refine vc_topI ((mI M17 1 9) + 1) rfl ?_
            refine vc_iconst dX6_addTelling_140 rfl ?_
            refine vc_isubE dX6_addTelling_141 (by omega) (by omega) ?_
            refine vc_iret dX6_addTelling_142 rfl (Nat.le_of_ble_eq_true rfl) (Nat.le_of_ble_eq_true rfl) ?_
            exact ⟨_, rfl, hB62⟩
      · refine vc_iconst dX6_addTelling_24 rfl ?_
        refine vc_iret dX6_addTelling_25 rfl (Nat.le_of_ble_eq_true rfl) (Nat.le_of_ble_eq_true rfl) ?_
        exact ⟨_, rfl, hB0⟩

set_option maxRecDepth 4000 in
theorem sfX6_textOf {l : Launch} {M : Mem} (hB : Box M)  (t : Int)  : Call l mdX6_textOf [aR 1, aI t] M (fun q N => ∃ r : Option Nat, q = some (.inr (.inr r)) ∧ M = N ∧ (∀ y, r = some y → TxO M y)) := by
  have hB0 := BD.start hB
  refine Call.of [some (aR 1), some (aI t)] rfl (Nat.le_of_ble_eq_true rfl) rfl ?_
  refine vc_ok (fun hoM hoS hoL => ?_)
  have hr1 : -2147483648 ≤ t ∧ t < 2147483648 := hoL 1 _ rfl
  refine vc_iload_n dX6_textOf_0 rfl ?_
  refine vc_if_lt dX6_textOf_1 (fun h1 => ?_) (fun h1 => ?_)
  · refine vc_null dX6_textOf_21 ?_
    refine vc_aret dX6_textOf_22 rfl (Nat.le_of_ble_eq_true rfl) (Nat.le_of_ble_eq_true rfl) ?_
    exact ⟨_, rfl, rfl, fun y hy => by cases hy⟩
  · refine vc_iload_n dX6_textOf_4 rfl ?_
    refine vc_aload_n dX6_textOf_5 rfl ?_
    refine vc_getI dX6_textOf_6 flX6_61 (s_1 hB0.1.1) rfl ?_
    have k2 : 0 ≤ mI M 1 10 ∧ mI M 1 10 ≤ 4 := b1_10 (M := M) hB0.1
    refine vc_icmp_ge dX6_textOf_9 (fun h3 => ?_) (fun h3 => ?_)
    · refine vc_null dX6_textOf_21 ?_
      refine vc_aret dX6_textOf_22 rfl (Nat.le_of_ble_eq_true rfl) (Nat.le_of_ble_eq_true rfl) ?_
      exact ⟨_, rfl, rfl, fun y hy => by cases hy⟩
    · refine vc_aload_n dX6_textOf_12 rfl ?_
      refine vc_getR dX6_textOf_13 flX6_29 (s_1 hB0.1.1) rfl (r_1_5 hB0.1.1) ?_
      refine vc_iload_n dX6_textOf_16 rfl ?_
      refine vc_aaload dX6_textOf_17 (s_7 hB0.1.1) (by omega) (by omega) ?_
      refine vc_nameO (fun o4 eo4 => ?_)
      refine vc_goto dX6_textOf_18 ?_
      refine vc_aret dX6_textOf_22 rfl (Nat.le_of_ble_eq_true rfl) (Nat.le_of_ble_eq_true rfl) ?_
      exact ⟨_, rfl, rfl, hB0.tx (Or.inl rfl) eo4⟩

set_option maxRecDepth 4000 in
theorem sfX8_keepStep {l : Launch} {M : Mem} (hB : Box M)    : Call l mdX8_keepStep [aR 15] M (fun q N => q = none ∧ BD M N ∧ mI N 1 = mI M 1) := by
  have hB0 := BD.start hB
  refine Call.of [some (aR 15)] rfl (Nat.le_of_ble_eq_true rfl) rfl ?_
  refine vc_aload_n dX8_keepStep_0 rfl ?_
  refine vc_getR dX8_keepStep_1 flX8_9 (s_15 hB0.1.1) rfl (r_15_0 hB0.1.1) ?_
  refine vc_iconst dX8_keepStep_4 rfl ?_
  refine vc_aload_n dX8_keepStep_5 rfl ?_
  refine vc_getR dX8_keepStep_6 flX8_15 (s_15 hB0.1.1) rfl (r_15_1 hB0.1.1) ?_
  refine vc_bipush dX8_keepStep_9 rfl ?_
  refine vc_aload_n dX8_keepStep_11 rfl ?_
  refine vc_getI dX8_keepStep_12 flX8_28 (s_15 hB0.1.1) rfl ?_
  have k1 : 0 ≤ mI M 15 3 ∧ mI M 15 3 ≤ 29 := b15_3 (M := M) hB0.1
  refine vc_imulE dX8_keepStep_15 (by omega) (by omega) ?_
  refine vc_bipush dX8_keepStep_16 rfl ?_
  refine vc_acopy dX8_keepStep_18 acX8_18 (s_16 hB0.1.1) (s_17 hB0.1.1) (by omega) (by omega) (by omega) (by omega) (by omega) (Nat.le_of_ble_eq_true rfl) ?_
  refine vc_mem (cpI M 17 16 (10 * (mI M 15 3)).toNat 0 10) rfl ?_
  have kp2 : mI (cpI M 17 16 (10 * (mI M 15 3)).toNat 0 10) 1 = mI M 1 := (kp_cp rfl rfl)
  have hB3 : BD M (cpI M 17 16 (10 * (mI M 15 3)).toNat 0 10) := BD.C17 hB0 _ _ _ _
  refine vc_aload_n dX8_keepStep_21 rfl ?_
  refine vc_aload_n dX8_keepStep_22 rfl ?_
  refine vc_getI dX8_keepStep_23 flX8_28 (s_15 hB3.1.1) rfl ?_
  have k4 : 0 ≤ mI (cpI M 17 16 (10 * (mI M 15 3)).toNat 0 10) 15 3 ∧ mI (cpI M 17 16 (10 * (mI M 15 3)).toNat 0 10) 15 3 ≤ 29 := b15_3 (M := (cpI M 17 16 (10 * (mI M 15 3)).toNat 0 10)) hB3.1
  refine vc_iconst dX8_keepStep_26 rfl ?_
  refine vc_iaddE dX8_keepStep_27 (by omega) (by omega) ?_
  refine vc_bipush dX8_keepStep_28 rfl ?_
  refine vc_iremE dX8_keepStep_30 (by omega) (by omega) ?_
  refine vc_nameI (fun x5 ex5 => ?_)
  refine vc_putI dX8_keepStep_31 (plX8_28 _ rfl) (s_15 hB3.1.1) rfl ?_
  have kp6 : mI (sI (cpI M 17 16 (10 * (mI M 15 3)).toNat 0 10) 15 3 x5) 1 = mI M 1 := (kp_sI kp2 rfl)
  have hB7 : BD M (sI (cpI M 17 16 (10 * (mI M 15 3)).toNat 0 10) 15 3 x5) := BD.w15_3 hB3 (by omega) (by omega)
  refine vc_aload_n dX8_keepStep_34 rfl ?_
  refine vc_bipush dX8_keepStep_35 rfl ?_
  refine vc_aload_n dX8_keepStep_37 rfl ?_
  refine vc_getI dX8_keepStep_38 flX8_24 (s_15 hB7.1.1) rfl ?_
  have k8 : 0 ≤ mI (sI (cpI M 17 16 (10 * (mI M 15 3)).toNat 0 10) 15 3 x5) 15 2 ∧ mI (sI (cpI M 17 16 (10 * (mI M 15 3)).toNat 0 10) 15 3 x5) 15 2 ≤ 30 := b15_2 (M := (sI (cpI M 17 16 (10 * (mI M 15 3)).toNat 0 10) 15 3 x5)) hB7.1
  refine vc_iconst dX8_keepStep_41 rfl ?_
  refine vc_iaddE dX8_keepStep_42 (by omega) (by omega) ?_
  refine vc_mminI dX8_keepStep_43 lkX8_31 (Nat.le_of_ble_eq_true rfl) (Nat.le_of_ble_eq_true rfl) (Nat.le_of_ble_eq_true rfl) ?_
  have k9 := minZ_bd 30 ((mI (sI (cpI M 17 16 (10 * (mI M 15 3)).toNat 0 10) 15 3 x5) 15 2) + 1)
  refine vc_nameI (fun x10 ex10 => ?_)
  refine vc_putI dX8_keepStep_46 (plX8_24 _ rfl) (s_15 hB7.1.1) rfl ?_
  have kp11 : mI (sI (sI (cpI M 17 16 (10 * (mI M 15 3)).toNat 0 10) 15 3 x5) 15 2 x10) 1 = mI M 1 := (kp_sI kp6 rfl)
  have hB12 : BD M (sI (sI (cpI M 17 16 (10 * (mI M 15 3)).toNat 0 10) 15 3 x5) 15 2 x10) := BD.w15_2 hB7 (by omega) (by omega)
  refine vc_vret dX8_keepStep_49 rfl (Nat.le_of_ble_eq_true rfl) (Nat.le_of_ble_eq_true rfl) ?_
  exact ⟨rfl, hB12, kp11⟩

set_option maxRecDepth 4000 in
theorem sfX8_takeBack {l : Launch} {M : Mem} (hB : Box M)    : Call l mdX8_takeBack [aR 15] M (fun q N => ∃ r : Int, q = some (aI r) ∧ BD M N) := by
  have hB0 := BD.start hB
  refine Call.of [some (aR 15)] rfl (Nat.le_of_ble_eq_true rfl) rfl ?_
  refine vc_aload_n dX8_takeBack_0 rfl ?_
  refine vc_getI dX8_takeBack_1 flX8_24 (s_15 hB0.1.1) rfl ?_
  have k1 : 0 ≤ mI M 15 2 ∧ mI M 15 2 ≤ 30 := b15_2 (M := M) hB0.1
  refine vc_if_ne dX8_takeBack_4 (fun h2 => ?_) (fun h2 => ?_)
  · refine vc_aload_n dX8_takeBack_9 rfl ?_
    refine vc_aload_n dX8_takeBack_10 rfl ?_
    refine vc_getI dX8_takeBack_11 flX8_28 (s_15 hB0.1.1) rfl ?_
    have k3 : 0 ≤ mI M 15 3 ∧ mI M 15 3 ≤ 29 := b15_3 (M := M) hB0.1
    refine vc_bipush dX8_takeBack_14 rfl ?_
    refine vc_iaddE dX8_takeBack_16 (by omega) (by omega) ?_
    refine vc_iconst dX8_takeBack_17 rfl ?_
    refine vc_isubE dX8_takeBack_18 (by omega) (by omega) ?_
    refine vc_bipush dX8_takeBack_19 rfl ?_
    refine vc_iremE dX8_takeBack_21 (by omega) (by omega) ?_
    refine vc_putI dX8_takeBack_22 (plX8_28 _ rfl) (s_15 hB0.1.1) rfl ?_
    have hB4 : BD M (sI M 15 3 ((((mI M 15 3) + 30) - 1) % 30)) := BD.w15_3 hB0 (by omega) (by omega)
    refine vc_aload_n dX8_takeBack_25 rfl ?_
    refine vc_dup dX8_takeBack_26 rfl ?_
    refine vc_getI dX8_takeBack_27 flX8_24 (s_15 hB4.1.1) rfl ?_
    refine vc_topI (mI M 15 2) rfl ?_
    have k5 : 0 ≤ mI M 15 2 ∧ mI M 15 2 ≤ 30 := b15_2 (M := (sI M 15 3 ((((mI M 15 3) + 30) - 1) % 30))) hB4.1
    refine vc_iconst dX8_takeBack_30 rfl ?_
    refine vc_isubE dX8_takeBack_31 (by omega) (by omega) ?_
    refine vc_putI dX8_takeBack_32 (plX8_24 _ rfl) (s_15 hB4.1.1) rfl ?_
    have hB6 : BD M (sI (sI M 15 3 ((((mI M 15 3) + 30) - 1) % 30)) 15 2 ((mI M 15 2) - 1)) := BD.w15_2 hB4 (by omega) (by omega)
    refine vc_aload_n dX8_takeBack_35 rfl ?_
    refine vc_getR dX8_takeBack_36 flX8_15 (s_15 hB6.1.1) rfl (r_15_1 hB6.1.1) ?_
    refine vc_bipush dX8_takeBack_39 rfl ?_
    refine vc_aload_n dX8_takeBack_41 rfl ?_
    refine vc_getI dX8_takeBack_42 flX8_28 (s_15 hB6.1.1) rfl ?_
    refine vc_topI ((((mI M 15 3) + 30) - 1) % 30) rfl ?_
    refine vc_imulE dX8_takeBack_45 (by omega) (by omega) ?_
    refine vc_aload_n dX8_takeBack_46 rfl ?_
    refine vc_getR dX8_takeBack_47 flX8_9 (s_15 hB6.1.1) rfl (r_15_0 hB6.1.1) ?_
    refine vc_iconst dX8_takeBack_50 rfl ?_
    refine vc_bipush dX8_takeBack_51 rfl ?_
    refine vc_acopy dX8_takeBack_53 acX8_18 (s_17 hB6.1.1) (s_16 hB6.1.1) (by omega) (by omega) (by omega) (by omega) (by omega) (Nat.le_of_ble_eq_true rfl) ?_
    refine vc_mem (cpI (sI (sI M 15 3 ((((mI M 15 3) + 30) - 1) % 30)) 15 2 ((mI M 15 2) - 1)) 16 17 0 (10 * ((((mI M 15 3) + 30) - 1) % 30)).toNat 10) rfl ?_
    have hB7 : BD M (cpI (sI (sI M 15 3 ((((mI M 15 3) + 30) - 1) % 30)) 15 2 ((mI M 15 2) - 1)) 16 17 0 (10 * ((((mI M 15 3) + 30) - 1) % 30)).toNat 10) := BD.C16 hB6 _ _ _ _
    refine vc_aload_n dX8_takeBack_56 rfl ?_
    refine vc_getI dX8_takeBack_57 flX8_24 (s_15 hB7.1.1) rfl ?_
    have k8 : 0 ≤ mI (cpI (sI (sI M 15 3 ((((mI M 15 3) + 30) - 1) % 30)) 15 2 ((mI M 15 2) - 1)) 16 17 0 (10 * ((((mI M 15 3) + 30) - 1) % 30)).toNat 10) 15 2 ∧ mI (cpI (sI (sI M 15 3 ((((mI M 15 3) + 30) - 1) % 30)) 15 2 ((mI M 15 2) - 1)) 16 17 0 (10 * ((((mI M 15 3) + 30) - 1) % 30)).toNat 10) 15 2 ≤ 30 := b15_2 (M := (cpI (sI (sI M 15 3 ((((mI M 15 3) + 30) - 1) % 30)) 15 2 ((mI M 15 2) - 1)) 16 17 0 (10 * ((((mI M 15 3) + 30) - 1) % 30)).toNat 10)) hB7.1
    refine vc_iret dX8_takeBack_60 rfl (Nat.le_of_ble_eq_true rfl) (Nat.le_of_ble_eq_true rfl) ?_
    exact ⟨_, rfl, hB7⟩
  · refine vc_iconst dX8_takeBack_7 rfl ?_
    refine vc_iret dX8_takeBack_8 rfl (Nat.le_of_ble_eq_true rfl) (Nat.le_of_ble_eq_true rfl) ?_
    exact ⟨_, rfl, hB0⟩

set_option maxRecDepth 4000 in
theorem sfX8_copyFrom_18 {l : Launch} {M : Mem} (hB : Box M)    : Call l mdX8_copyFrom [aR 18, aR 15] M (fun q N => q = none ∧ BD M N) := by
  have hB0 := BD.start hB
  refine Call.of [some (aR 18), some (aR 15)] rfl (Nat.le_of_ble_eq_true rfl) rfl ?_
  refine vc_aload_n dX8_copyFrom_0 rfl ?_
  refine vc_getR dX8_copyFrom_1 flX8_9 (s_15 hB0.1.1) rfl (r_15_0 hB0.1.1) ?_
  refine vc_iconst dX8_copyFrom_4 rfl ?_
  refine vc_aload_n dX8_copyFrom_5 rfl ?_
  refine vc_getR dX8_copyFrom_6 flX8_9 (s_18 hB0.1.1) rfl (r_18_0 hB0.1.1) ?_
  refine vc_iconst dX8_copyFrom_9 rfl ?_
  refine vc_bipush dX8_copyFrom_10 rfl ?_
  refine vc_acopy dX8_copyFrom_12 acX8_18 (s_16 hB0.1.1) (s_19 hB0.1.1) (by omega) (by omega) (by omega) (by omega) (by omega) (Nat.le_of_ble_eq_true rfl) ?_
  refine vc_mem (cpI M 19 16 0 0 10) rfl ?_
  have hB1 : BD M (cpI M 19 16 0 0 10) := BD.C19 hB0 _ _ _ _
  refine vc_aload_n dX8_copyFrom_15 rfl ?_
  refine vc_getR dX8_copyFrom_16 flX8_15 (s_15 hB1.1.1) rfl (r_15_1 hB1.1.1) ?_
  refine vc_iconst dX8_copyFrom_19 rfl ?_
  refine vc_aload_n dX8_copyFrom_20 rfl ?_
  refine vc_getR dX8_copyFrom_21 flX8_15 (s_18 hB1.1.1) rfl (r_18_1 hB1.1.1) ?_
  refine vc_iconst dX8_copyFrom_24 rfl ?_
  refine vc_sipush dX8_copyFrom_25 rfl ?_
  refine vc_acopy dX8_copyFrom_28 acX8_18 (s_17 hB1.1.1) (s_20 hB1.1.1) (by omega) (by omega) (by omega) (by omega) (by omega) (Nat.le_of_ble_eq_true rfl) ?_
  refine vc_mem (cpI (cpI M 19 16 0 0 10) 20 17 0 0 300) rfl ?_
  have hB2 : BD M (cpI (cpI M 19 16 0 0 10) 20 17 0 0 300) := BD.C20 hB1 _ _ _ _
  refine vc_aload_n dX8_copyFrom_31 rfl ?_
  refine vc_aload_n dX8_copyFrom_32 rfl ?_
  refine vc_getI dX8_copyFrom_33 flX8_24 (s_15 hB2.1.1) rfl ?_
  have k3 : 0 ≤ mI (cpI (cpI M 19 16 0 0 10) 20 17 0 0 300) 15 2 ∧ mI (cpI (cpI M 19 16 0 0 10) 20 17 0 0 300) 15 2 ≤ 30 := b15_2 (M := (cpI (cpI M 19 16 0 0 10) 20 17 0 0 300)) hB2.1
  refine vc_putI dX8_copyFrom_36 (plX8_24 _ rfl) (s_18 hB2.1.1) rfl ?_
  have hB4 : BD M (sI (cpI (cpI M 19 16 0 0 10) 20 17 0 0 300) 18 2 (mI (cpI (cpI M 19 16 0 0 10) 20 17 0 0 300) 15 2)) := BD.w18_2 hB2 (by omega) (by omega)
  refine vc_aload_n dX8_copyFrom_39 rfl ?_
  refine vc_aload_n dX8_copyFrom_40 rfl ?_
  refine vc_getI dX8_copyFrom_41 flX8_28 (s_15 hB4.1.1) rfl ?_
  have k5 : 0 ≤ mI (sI (cpI (cpI M 19 16 0 0 10) 20 17 0 0 300) 18 2 (mI (cpI (cpI M 19 16 0 0 10) 20 17 0 0 300) 15 2)) 15 3 ∧ mI (sI (cpI (cpI M 19 16 0 0 10) 20 17 0 0 300) 18 2 (mI (cpI (cpI M 19 16 0 0 10) 20 17 0 0 300) 15 2)) 15 3 ≤ 29 := b15_3 (M := (sI (cpI (cpI M 19 16 0 0 10) 20 17 0 0 300) 18 2 (mI (cpI (cpI M 19 16 0 0 10) 20 17 0 0 300) 15 2))) hB4.1
  refine vc_nameI (fun x6 ex6 => ?_)
  refine vc_putI dX8_copyFrom_44 (plX8_28 _ rfl) (s_18 hB4.1.1) rfl ?_
  have hB7 : BD M (sI (sI (cpI (cpI M 19 16 0 0 10) 20 17 0 0 300) 18 2 (mI (cpI (cpI M 19 16 0 0 10) 20 17 0 0 300) 15 2)) 18 3 x6) := BD.w18_3 hB4 (by omega) (by omega)
  refine vc_vret dX8_copyFrom_47 rfl (Nat.le_of_ble_eq_true rfl) (Nat.le_of_ble_eq_true rfl) ?_
  exact ⟨rfl, hB7⟩

set_option maxRecDepth 4000 in
theorem sfX8_copyFrom_15 {l : Launch} {M : Mem} (hB : Box M)    : Call l mdX8_copyFrom [aR 15, aR 18] M (fun q N => q = none ∧ BD M N) := by
  have hB0 := BD.start hB
  refine Call.of [some (aR 15), some (aR 18)] rfl (Nat.le_of_ble_eq_true rfl) rfl ?_
  refine vc_aload_n dX8_copyFrom_0 rfl ?_
  refine vc_getR dX8_copyFrom_1 flX8_9 (s_18 hB0.1.1) rfl (r_18_0 hB0.1.1) ?_
  refine vc_iconst dX8_copyFrom_4 rfl ?_
  refine vc_aload_n dX8_copyFrom_5 rfl ?_
  refine vc_getR dX8_copyFrom_6 flX8_9 (s_15 hB0.1.1) rfl (r_15_0 hB0.1.1) ?_
  refine vc_iconst dX8_copyFrom_9 rfl ?_
  refine vc_bipush dX8_copyFrom_10 rfl ?_
  refine vc_acopy dX8_copyFrom_12 acX8_18 (s_19 hB0.1.1) (s_16 hB0.1.1) (by omega) (by omega) (by omega) (by omega) (by omega) (Nat.le_of_ble_eq_true rfl) ?_
  refine vc_mem (cpI M 16 19 0 0 10) rfl ?_
  have hB1 : BD M (cpI M 16 19 0 0 10) := BD.C16 hB0 _ _ _ _
  refine vc_aload_n dX8_copyFrom_15 rfl ?_
  refine vc_getR dX8_copyFrom_16 flX8_15 (s_18 hB1.1.1) rfl (r_18_1 hB1.1.1) ?_
  refine vc_iconst dX8_copyFrom_19 rfl ?_
  refine vc_aload_n dX8_copyFrom_20 rfl ?_
  refine vc_getR dX8_copyFrom_21 flX8_15 (s_15 hB1.1.1) rfl (r_15_1 hB1.1.1) ?_
  refine vc_iconst dX8_copyFrom_24 rfl ?_
  refine vc_sipush dX8_copyFrom_25 rfl ?_
  refine vc_acopy dX8_copyFrom_28 acX8_18 (s_20 hB1.1.1) (s_17 hB1.1.1) (by omega) (by omega) (by omega) (by omega) (by omega) (Nat.le_of_ble_eq_true rfl) ?_
  refine vc_mem (cpI (cpI M 16 19 0 0 10) 17 20 0 0 300) rfl ?_
  have hB2 : BD M (cpI (cpI M 16 19 0 0 10) 17 20 0 0 300) := BD.C17 hB1 _ _ _ _
  refine vc_aload_n dX8_copyFrom_31 rfl ?_
  refine vc_aload_n dX8_copyFrom_32 rfl ?_
  refine vc_getI dX8_copyFrom_33 flX8_24 (s_18 hB2.1.1) rfl ?_
  have k3 : 0 ≤ mI (cpI (cpI M 16 19 0 0 10) 17 20 0 0 300) 18 2 ∧ mI (cpI (cpI M 16 19 0 0 10) 17 20 0 0 300) 18 2 ≤ 30 := b18_2 (M := (cpI (cpI M 16 19 0 0 10) 17 20 0 0 300)) hB2.1
  refine vc_putI dX8_copyFrom_36 (plX8_24 _ rfl) (s_15 hB2.1.1) rfl ?_
  have hB4 : BD M (sI (cpI (cpI M 16 19 0 0 10) 17 20 0 0 300) 15 2 (mI (cpI (cpI M 16 19 0 0 10) 17 20 0 0 300) 18 2)) := BD.w15_2 hB2 (by omega) (by omega)
  refine vc_aload_n dX8_copyFrom_39 rfl ?_
  refine vc_aload_n dX8_copyFrom_40 rfl ?_
  refine vc_getI dX8_copyFrom_41 flX8_28 (s_18 hB4.1.1) rfl ?_
  have k5 : 0 ≤ mI (sI (cpI (cpI M 16 19 0 0 10) 17 20 0 0 300) 15 2 (mI (cpI (cpI M 16 19 0 0 10) 17 20 0 0 300) 18 2)) 18 3 ∧ mI (sI (cpI (cpI M 16 19 0 0 10) 17 20 0 0 300) 15 2 (mI (cpI (cpI M 16 19 0 0 10) 17 20 0 0 300) 18 2)) 18 3 ≤ 29 := b18_3 (M := (sI (cpI (cpI M 16 19 0 0 10) 17 20 0 0 300) 15 2 (mI (cpI (cpI M 16 19 0 0 10) 17 20 0 0 300) 18 2))) hB4.1
  refine vc_nameI (fun x6 ex6 => ?_)
  refine vc_putI dX8_copyFrom_44 (plX8_28 _ rfl) (s_15 hB4.1.1) rfl ?_
  have hB7 : BD M (sI (sI (cpI (cpI M 16 19 0 0 10) 17 20 0 0 300) 15 2 (mI (cpI (cpI M 16 19 0 0 10) 17 20 0 0 300) 18 2)) 15 3 x6) := BD.w15_3 hB4 (by omega) (by omega)
  refine vc_vret dX8_copyFrom_47 rfl (Nat.le_of_ble_eq_true rfl) (Nat.le_of_ble_eq_true rfl) ?_
  exact ⟨rfl, hB7⟩
