/-! THE BOX: ranges that hold at every step (written by wip/p35/box.py) -/
/-- a place of the reference's row a -/
def aB (j : Nat) (v : Int) : Prop :=
  (j = 0 → 0 ≤ v ∧ v ≤ 16) ∧ (j = 1 → -1 ≤ v ∧ v ≤ 15) ∧ (j = 2 → 0 ≤ v ∧ v ≤ 6) ∧ (j = 3 → 0 ≤ v ∧ v ≤ 8) ∧ (j = 4 → 0 ≤ v ∧ v ≤ 40025) ∧ (j = 5 → 0 ≤ v ∧ v ≤ 4) ∧ (j = 6 → -1 ≤ v ∧ v ≤ 3) ∧ (j = 7 → 0 ≤ v ∧ v ≤ 30) ∧ (j = 256 → -1 ≤ v ∧ v ≤ 15) ∧ (j = 257 → 0 ≤ v ∧ v ≤ 3) ∧
  (10 ≤ j → j < 154 → 1 ≤ (j - 10) % 9 → (j - 10) % 9 ≤ 4 → -1 ≤ v ∧ v ≤ 15) ∧ (154 ≤ j → j < 184 → (j - 154) % 5 = 0 → 0 ≤ v ∧ v ≤ 15) ∧ (184 ≤ j → j < 256 → (j - 184) % 9 = 0 → 0 ≤ v ∧ v ≤ 5) ∧ (184 ≤ j → j < 256 → (j - 184) % 9 = 1 → 0 ≤ v ∧ v ≤ 3) ∧ (184 ≤ j → j < 256 → (j - 184) % 9 = 2 → 0 ≤ v ∧ v ≤ 6) ∧
  (259 ≤ j → j < 589 → (j - 259) % 11 = 1 → -1 ≤ v ∧ v ≤ 15) ∧ (259 ≤ j → j < 589 → (j - 259) % 11 = 2 → 0 ≤ v ∧ v ≤ 3) ∧ (259 ≤ j → j < 589 → (j - 259) % 11 = 10 → 0 ≤ v ∧ v ≤ 40025)
def bxI (k j : Nat) (v : Int) : Prop := match k with
  | 0 => (j = 13 → 0 ≤ v ∧ v ≤ 300)
  | 1 => (j = 6 → 0 ≤ v ∧ v ≤ 16) ∧ (j = 7 → (-1) ≤ v ∧ v ≤ 15) ∧ (j = 8 → 0 ≤ v ∧ v ≤ 6) ∧ (j = 9 → 0 ≤ v ∧ v ≤ 8) ∧ (j = 10 → 0 ≤ v ∧ v ≤ 4)
  | 3 => (-1) ≤ v ∧ v ≤ 15
  | 8 => (j = 6 → 0 ≤ v ∧ v ≤ 16) ∧ (j = 7 → (-1) ≤ v ∧ v ≤ 15) ∧ (j = 8 → 0 ≤ v ∧ v ≤ 6) ∧ (j = 9 → 0 ≤ v ∧ v ≤ 8) ∧ (j = 10 → 0 ≤ v ∧ v ≤ 4)
  | 10 => (-1) ≤ v ∧ v ≤ 15
  | 15 => (j = 2 → 0 ≤ v ∧ v ≤ 30) ∧ (j = 3 → 0 ≤ v ∧ v ≤ 29)
  | 18 => (j = 2 → 0 ≤ v ∧ v ≤ 30) ∧ (j = 3 → 0 ≤ v ∧ v ≤ 29)
  | 22 => (j = 9 → (-1) ≤ v ∧ v ≤ 300) ∧ (j = 12 → 0 ≤ v ∧ v ≤ 300) ∧ (j = 13 → 0 ≤ v ∧ v ≤ 24)
  | 24 => (-1) ≤ v ∧ v ≤ 300
  | 32 => (j = 4 → 0 ≤ v ∧ v ≤ 40)
  | 40 => (j = 9 → 0 ≤ v ∧ v ≤ 5)
  | 43 => 0 ≤ v ∧ v ≤ 15
  | 52 => 0 ≤ v ∧ v ≤ 63
  | 53 => 0 ≤ v ∧ v ≤ 63
  | 54 => (j = 4 → 0 ≤ v ∧ v ≤ 6) ∧ (j = 6 → 0 ≤ v ∧ v ≤ 300) ∧ (j = 9 → 0 ≤ v ∧ v ≤ 300) ∧ (j = 10 → 0 ≤ v ∧ v ≤ 300) ∧ (j = 14 → 0 ≤ v ∧ v ≤ 2619) ∧ (j = 15 → 0 ≤ v ∧ v ≤ 300) ∧ (j = 18 → 0 ≤ v ∧ v ≤ 160) ∧ (j = 24 → 0 ≤ v ∧ v ≤ 15) ∧ (j = 25 → 0 ≤ v ∧ v ≤ 3) ∧ (j = 27 → 0 ≤ v ∧ v ≤ 40) ∧ (j = 32 → 0 ≤ v ∧ v ≤ 6) ∧ (j = 43 → 0 ≤ v ∧ v ≤ 5)
  | 55 => aB j v
  | 56 => aB j v
  | 70 => 0 ≤ v ∧ v ≤ 15
  | 71 => 0 ≤ v ∧ v ≤ 4
  | 72 => 0 ≤ v ∧ v ≤ 4
  | 74 => (-1) ≤ v ∧ v ≤ 3
  | _ => True
/-- relations in a row a: what has been told leads to what has been told, a telling has a turn, the text that rules is one -/
def relA (f : Nat → Int) : Prop := (∀ c d : Nat, (c : Int) < f 0 → d < 4 → f (10 + 9 * c + 1 + d) < f 0) ∧ (∀ t : Nat, (t : Int) < f 3 → 1 ≤ f (184 + 9 * t + 2)) ∧ f 6 < f 5
/-- the code of a law: the values that wait never fall short -/
def wfC (f : Nat → Int) : Nat → Nat → Nat → Prop
  | 0, _, _ => True
  | n + 1, j, d => if f j ≤ 1 then (0 ≤ f j ∧ (f j = 1 → 0 ≤ f (j + 1) ∧ f (j + 1) ≤ 8)) ∧ wfC f n (j + 2) (d + 1) else if f j = 2 then 1 ≤ d ∧ wfC f n (j + 2) d else 2 ≤ d ∧ wfC f n (j + 2) (d - 1)
/-- a clause of a text that was read -/
def wfK (f : Nat → Int) (b x : Nat) : Prop := (f x = 10 → 1 ≤ f (x + 3) ∧ f (x + 3) ≤ 6 ∧ 0 ≤ f (x + 2) ∧ f (x + 2) ≤ 3) ∧ (0 ≤ f x → f x ≤ 4 → 0 ≤ f (x + 1) ∧ f (x + 1) ≤ f (x + 2) ∧ f (x + 2) ≤ 300 ∧ wfC f (f (x + 2) - f (x + 1)).toNat (b + 265 + 2 * (f (x + 1)).toNat) 0)
/-- a text that was read -/
def wfT (f : Nat → Int) (t : Nat) : Prop := 0 ≤ f (873 * t) ∧ f (873 * t) ≤ 24 ∧ ∀ k : Nat, (k : Int) < f (873 * t) → wfK f (873 * t) (873 * t + 1 + 11 * k)
def relR (M : Mem) : Prop := relA (mI M 55) ∧ relA (mI M 56) ∧ mI M 56 5 ≤ mI M 55 5 ∧ ∀ t : Nat, (t : Int) < mI M 55 5 → wfT (mI M 57) t
/-- a text as the class keeps it -/
def TxO (M : Mem) (y : Nat) : Prop := 75 ≤ y ∧ M.1[y]? = some (.inl 5) ∧ (0 ≤ mI M y 3 ∧ mI M y 3 ≤ 24) ∧ ∃ a b c n m : Nat, mR M y 0 = some a ∧ mR M y 1 = some b ∧ mR M y 2 = some c ∧ 75 ≤ a ∧ 75 ≤ b ∧ 75 ≤ c ∧ M.1[a]? = some (.inr (0, n)) ∧ M.1[b]? = some (.inr (0, 10)) ∧ M.1[c]? = some (.inr (0, m)) ∧ n ≤ 300 ∧ m ≤ 300 ∧ ∀ j, -1 ≤ mI M b j ∧ mI M b j ≤ 300
def TxA (M : Mem) : Prop := ∀ (k j y : Nat), (k = 7 ∨ k = 14) → mR M k j = some y → TxO M y
def Box (M : Mem) : Prop := St M ∧ (∀ k j, bxI k j (mI M k j)) ∧ TxA M ∧ relR M
/-- cells that came later are as they were -/
def Dz (M0 M : Mem) : Prop := M0.1.length ≤ M.1.length ∧ ∀ k, 75 ≤ k → k < M0.1.length → M.1[k]? = M0.1[k]? ∧ (∀ j, mI M k j = mI M0 k j) ∧ ∀ j, mR M k j = mR M0 k j
def BX (M0 M : Mem) : Prop := Box M ∧ Dz M0 M
theorem Dz.refl (M : Mem) : Dz M M := ⟨Nat.le_refl _, fun _ _ _ => ⟨rfl, fun _ => rfl, fun _ => rfl⟩⟩
theorem Dz.trans {A B C : Mem} (h1 : Dz A B) (h2 : Dz B C) : Dz A C := ⟨Nat.le_trans h1.1 h2.1, fun k a b => by
  obtain ⟨p1, p2, p3⟩ := h1.2 k a b
  obtain ⟨q1, q2, q3⟩ := h2.2 k a (Nat.lt_of_lt_of_le b h1.1)
  exact ⟨q1.trans p1, fun j => (q2 j).trans (p2 j), fun j => (q3 j).trans (p3 j)⟩⟩
theorem BX.start {M : Mem} (h : Box M) : BX M M := ⟨h, Dz.refl M⟩
theorem BX.go {A B C : Mem} (h1 : BX A B) (h2 : BX B C) : BX A C := ⟨h2.1, h1.2.trans h2.2⟩
theorem TxO.dz {A B : Mem} {y : Nat} (h : TxO A y) (hd : Dz A B) : TxO B y := by
  obtain ⟨h1, h2, h3, a, b, c, n, m, r1, r2, r3, a1, b1, c1, s1, s2, s3, n1, m1, hv⟩ := h
  have ly := (List.getElem?_eq_some_iff.mp h2).1
  have la := (List.getElem?_eq_some_iff.mp s1).1
  have lb := (List.getElem?_eq_some_iff.mp s2).1
  have lc := (List.getElem?_eq_some_iff.mp s3).1
  obtain ⟨y1, y2, y3⟩ := hd.2 y h1 ly
  refine ⟨h1, y1.trans h2, by rw [y2 3]; exact h3, a, b, c, n, m, (y3 0).trans r1, (y3 1).trans r2, (y3 2).trans r3, a1, b1, c1, ((hd.2 a a1 la).1).trans s1, ((hd.2 b b1 lb).1).trans s2, ((hd.2 c c1 lc).1).trans s3, n1, m1, fun j => ?_⟩
  rw [(hd.2 b b1 lb).2.1 j]
  exact hv j
theorem Dz.sI {A B : Mem} (h : Dz A B) {k j : Nat} {v : Int} (hk : k < 75) : Dz A (sI B k j v) := ⟨h.1, fun q a b => by
  obtain ⟨p1, p2, p3⟩ := h.2 q a b
  refine ⟨p1, fun i => ?_, p3⟩
  rw [mI_sI, if_neg (fun e => by omega)]
  exact p2 i⟩
theorem Dz.sR {A B : Mem} (h : Dz A B) {k j : Nat} {v : Option Nat} (hk : k < 75) : Dz A (sR B k j v) := ⟨h.1, fun q a b => by
  obtain ⟨p1, p2, p3⟩ := h.2 q a b
  refine ⟨p1, p2, fun i => ?_⟩
  rw [mR_sR, if_neg (fun e => by omega)]
  exact p3 i⟩
theorem Dz.cp {A B : Mem} (h : Dz A B) {k f d s n : Nat} (hk : k < 75) : Dz A (cpI B k f d s n) := ⟨h.1, fun q a b => by
  obtain ⟨p1, p2, p3⟩ := h.2 q a b
  refine ⟨p1, fun i => ?_, p3⟩
  rw [mI_cpI, if_neg (fun e => by omega)]
  exact p2 i⟩
theorem Dz.sh {A B : Mem} (h : Dz A B) {k : Nat} {x : Sh} (hk : 75 ≤ k) (hs : A.1[k]? = some x) : B.1[k]? = some x := ((h.2 k hk (List.getElem?_eq_some_iff.mp hs).1).1).trans hs
theorem Dz.rf {A B : Mem} (h : Dz A B) {k : Nat} {x : Sh} (hk : 75 ≤ k) (hs : A.1[k]? = some x) (j : Nat) : mR B k j = mR A k j := (h.2 k hk (List.getElem?_eq_some_iff.mp hs).1).2.2 j
theorem Dz.vl {A B : Mem} (h : Dz A B) {k : Nat} {x : Sh} (hk : 75 ≤ k) (hs : A.1[k]? = some x) {j : Nat} : mI B k j = mI A k j := (h.2 k hk (List.getElem?_eq_some_iff.mp hs).1).2.1 j
theorem TxA.same {A B : Mem} (h : TxA A) (hd : Dz A B) (hr : ∀ k j, (k = 7 ∨ k = 14) → mR B k j = mR A k j) : TxA B := fun k j y hk e => (h k j y hk (by rw [← hr k j hk]; exact e)).dz hd
theorem bx_sI {M : Mem} {k j : Nat} {v : Int} (h : ∀ a b, bxI a b (mI M a b)) (hv : bxI k j v) : ∀ a b, bxI a b (mI (sI M k j v) a b) := by
  intro a b
  rw [mI_sI]
  split
  · rename_i e
    rw [e.1, e.2]
    exact hv
  · exact h a b
/-- a write to a cell that the relations don't speak of -/
theorem BX.I {M0 M : Mem} (h : BX M0 M) {k j : Nat} {v : Int} (hk : k < 75) (hv : bxI k j v) (hn : (k = 55 ∨ k = 56 ∨ k = 57) = False) : BX M0 (sI M k j v) := by
  obtain ⟨⟨h1, h2, h3, h4⟩, hd⟩ := h
  have n5 : k ≠ 55 := fun e => by rw [← hn]; exact Or.inl e
  have n6 : k ≠ 56 := fun e => by rw [← hn]; exact Or.inr (Or.inl e)
  have n7 : k ≠ 57 := fun e => by rw [← hn]; exact Or.inr (Or.inr e)
  have e5 : mI (sI M k j v) 55 = mI M 55 := funext fun b => by rw [mI_sI, if_neg (fun e => n5 e.1.symm)]
  have e6 : mI (sI M k j v) 56 = mI M 56 := funext fun b => by rw [mI_sI, if_neg (fun e => n6 e.1.symm)]
  have e7 : mI (sI M k j v) 57 = mI M 57 := funext fun b => by rw [mI_sI, if_neg (fun e => n7 e.1.symm)]
  refine ⟨⟨h1, bx_sI h2 hv, h3.same ((Dz.refl M).sI hk) (fun _ _ _ => rfl), ?_⟩, hd.sI hk⟩
  unfold relR
  rw [e5, e6, e7]
  exact h4
theorem BX.J {M0 M : Mem} (h : BX M0 M) (k j : Nat) (v : Int) : BX M0 (sJ M k j v) := ⟨⟨h.1.1, h.1.2.1, h.1.2.2.1.same (Dz.refl M) (fun _ _ _ => rfl), h.1.2.2.2⟩, h.2⟩
theorem bx_cp {M : Mem} {k f d s n : Nat} (h : ∀ a b, bxI a b (mI M a b)) (hv : ∀ j i, bxI k j (mI M f i)) : ∀ a b, bxI a b (mI (cpI M k f d s n) a b) := by
  intro a b
  rw [mI_cpI]
  split
  · rename_i e
    rw [e.1]
    exact hv _ _
  · exact h a b
theorem BX.C {M0 M : Mem} (h : BX M0 M) {k f d s n : Nat} (hk : k < 75) (hv : ∀ j i, bxI k j (mI M f i)) (hn : (k = 55 ∨ k = 56 ∨ k = 57) = False) : BX M0 (cpI M k f d s n) := by
  obtain ⟨⟨h1, h2, h3, h4⟩, hd⟩ := h
  have n5 : k ≠ 55 := fun e => by rw [← hn]; exact Or.inl e
  have n6 : k ≠ 56 := fun e => by rw [← hn]; exact Or.inr (Or.inl e)
  have n7 : k ≠ 57 := fun e => by rw [← hn]; exact Or.inr (Or.inr e)
  have e5 : mI (cpI M k f d s n) 55 = mI M 55 := funext fun b => by rw [mI_cpI, if_neg (fun e => n5 e.1.symm)]
  have e6 : mI (cpI M k f d s n) 56 = mI M 56 := funext fun b => by rw [mI_cpI, if_neg (fun e => n6 e.1.symm)]
  have e7 : mI (cpI M k f d s n) 57 = mI M 57 := funext fun b => by rw [mI_cpI, if_neg (fun e => n7 e.1.symm)]
  refine ⟨⟨h1, bx_cp h2 hv, h3.same ((Dz.refl M).cp hk) (fun _ _ _ => rfl), ?_⟩, hd.cp hk⟩
  unfold relR
  rw [e5, e6, e7]
  exact h4
theorem BX.T {M0 M : Mem} (h : BX M0 M) {k : Nat} (hk : k = 7 ∨ k = 14) (j : Nat) {v : Option Nat} (hv : ∀ y, v = some y → TxO M y) : BX M0 (sR M k j v) := by
  obtain ⟨⟨h1, h2, h3, h4⟩, hd⟩ := h
  have hlt : k < 75 := by omega
  refine ⟨⟨?_, h2, ?_, h4⟩, hd.sR hlt⟩
  · rcases hk with rfl | rfl
    · exact St.T7 h1 j v
    · exact St.T14 h1 j v
  · intro a b y ha e
    rw [mR_sR] at e
    split at e
    · exact (hv y e).dz ((Dz.refl M).sR hlt)
    · exact (h3 a b y ha e).dz ((Dz.refl M).sR hlt)
theorem BX.T7 {M0 M : Mem} (h : BX M0 M) (j : Nat) {v : Option Nat} (hv : ∀ y, v = some y → TxO M y) : BX M0 (sR M 7 j v) := h.T (Or.inl rfl) j hv
theorem BX.T14 {M0 M : Mem} (h : BX M0 M) (j : Nat) {v : Option Nat} (hv : ∀ y, v = some y → TxO M y) : BX M0 (sR M 14 j v) := h.T (Or.inr rfl) j hv
theorem BX.tx {M0 M : Mem} (h : BX M0 M) {k j : Nat} (hk : k = 7 ∨ k = 14) {v : Option Nat} (e : v = mR M k j) : ∀ y, v = some y → TxO M y := fun y hy => h.1.2.2.1 k j y hk (e ▸ hy)
theorem minZ_bd (x y : Int) : minZ x y ≤ x ∧ minZ x y ≤ y ∧ (minZ x y = x ∨ minZ x y = y) := by unfold minZ; split <;> omega
theorem maxZ_bd (x y : Int) : x ≤ maxZ x y ∧ y ≤ maxZ x y ∧ (maxZ x y = x ∨ maxZ x y = y) := by unfold maxZ; split <;> omega
theorem kp_cp {A B : Mem} {q k f d s n : Nat} (h : mI B q = mI A q) (hn : (q == k) = false) : mI (cpI B k f d s n) q = mI A q := by
  rw [← h]
  funext b
  rw [mI_cpI, if_neg (fun e => by rw [e.1] at hn; simp at hn)]
/-- what stays -/
theorem kp_sI {A B : Mem} {q k j : Nat} {v : Int} (h : mI B q = mI A q) (hn : (q == k) = false) : mI (sI B k j v) q = mI A q := by
  rw [← h]
  funext b
  rw [mI_sI, if_neg (fun e => by rw [e.1] at hn; simp at hn)]
theorem kp_sJ {A B : Mem} {q k j : Nat} {v : Int} (h : mI B q = mI A q) : mI (sJ B k j v) q = mI A q := h
theorem kp_go {A B C : Mem} {q : Nat} (h : mI B q = mI A q) (h2 : mI C q = mI B q) : mI C q = mI A q := h2.trans h
theorem b0_13 {M : Mem} (h : Box M) : 0 ≤ mI M 0 13 ∧ mI M 0 13 ≤ 300 := (h.2.1 0 13) rfl
theorem b1_6 {M : Mem} (h : Box M) : 0 ≤ mI M 1 6 ∧ mI M 1 6 ≤ 16 := (h.2.1 1 6).1 rfl
theorem b1_7 {M : Mem} (h : Box M) : (-1) ≤ mI M 1 7 ∧ mI M 1 7 ≤ 15 := (h.2.1 1 7).2.1 rfl
theorem b1_8 {M : Mem} (h : Box M) : 0 ≤ mI M 1 8 ∧ mI M 1 8 ≤ 6 := (h.2.1 1 8).2.2.1 rfl
theorem b1_9 {M : Mem} (h : Box M) : 0 ≤ mI M 1 9 ∧ mI M 1 9 ≤ 8 := (h.2.1 1 9).2.2.2.1 rfl
theorem b1_10 {M : Mem} (h : Box M) : 0 ≤ mI M 1 10 ∧ mI M 1 10 ≤ 4 := (h.2.1 1 10).2.2.2.2 rfl
theorem b8_6 {M : Mem} (h : Box M) : 0 ≤ mI M 8 6 ∧ mI M 8 6 ≤ 16 := (h.2.1 8 6).1 rfl
theorem b8_7 {M : Mem} (h : Box M) : (-1) ≤ mI M 8 7 ∧ mI M 8 7 ≤ 15 := (h.2.1 8 7).2.1 rfl
theorem b8_8 {M : Mem} (h : Box M) : 0 ≤ mI M 8 8 ∧ mI M 8 8 ≤ 6 := (h.2.1 8 8).2.2.1 rfl
theorem b8_9 {M : Mem} (h : Box M) : 0 ≤ mI M 8 9 ∧ mI M 8 9 ≤ 8 := (h.2.1 8 9).2.2.2.1 rfl
theorem b8_10 {M : Mem} (h : Box M) : 0 ≤ mI M 8 10 ∧ mI M 8 10 ≤ 4 := (h.2.1 8 10).2.2.2.2 rfl
theorem b15_2 {M : Mem} (h : Box M) : 0 ≤ mI M 15 2 ∧ mI M 15 2 ≤ 30 := (h.2.1 15 2).1 rfl
theorem b15_3 {M : Mem} (h : Box M) : 0 ≤ mI M 15 3 ∧ mI M 15 3 ≤ 29 := (h.2.1 15 3).2 rfl
theorem b18_2 {M : Mem} (h : Box M) : 0 ≤ mI M 18 2 ∧ mI M 18 2 ≤ 30 := (h.2.1 18 2).1 rfl
theorem b18_3 {M : Mem} (h : Box M) : 0 ≤ mI M 18 3 ∧ mI M 18 3 ≤ 29 := (h.2.1 18 3).2 rfl
theorem b22_9 {M : Mem} (h : Box M) : (-1) ≤ mI M 22 9 ∧ mI M 22 9 ≤ 300 := (h.2.1 22 9).1 rfl
theorem b22_12 {M : Mem} (h : Box M) : 0 ≤ mI M 22 12 ∧ mI M 22 12 ≤ 300 := (h.2.1 22 12).2.1 rfl
theorem b22_13 {M : Mem} (h : Box M) : 0 ≤ mI M 22 13 ∧ mI M 22 13 ≤ 24 := (h.2.1 22 13).2.2 rfl
theorem b32_4 {M : Mem} (h : Box M) : 0 ≤ mI M 32 4 ∧ mI M 32 4 ≤ 40 := (h.2.1 32 4) rfl
theorem b40_9 {M : Mem} (h : Box M) : 0 ≤ mI M 40 9 ∧ mI M 40 9 ≤ 5 := (h.2.1 40 9) rfl
theorem b54_4 {M : Mem} (h : Box M) : 0 ≤ mI M 54 4 ∧ mI M 54 4 ≤ 6 := (h.2.1 54 4).1 rfl
theorem b54_6 {M : Mem} (h : Box M) : 0 ≤ mI M 54 6 ∧ mI M 54 6 ≤ 300 := (h.2.1 54 6).2.1 rfl
theorem b54_9 {M : Mem} (h : Box M) : 0 ≤ mI M 54 9 ∧ mI M 54 9 ≤ 300 := (h.2.1 54 9).2.2.1 rfl
theorem b54_10 {M : Mem} (h : Box M) : 0 ≤ mI M 54 10 ∧ mI M 54 10 ≤ 300 := (h.2.1 54 10).2.2.2.1 rfl
theorem b54_14 {M : Mem} (h : Box M) : 0 ≤ mI M 54 14 ∧ mI M 54 14 ≤ 2619 := (h.2.1 54 14).2.2.2.2.1 rfl
theorem b54_15 {M : Mem} (h : Box M) : 0 ≤ mI M 54 15 ∧ mI M 54 15 ≤ 300 := (h.2.1 54 15).2.2.2.2.2.1 rfl
theorem b54_18 {M : Mem} (h : Box M) : 0 ≤ mI M 54 18 ∧ mI M 54 18 ≤ 160 := (h.2.1 54 18).2.2.2.2.2.2.1 rfl
theorem b54_24 {M : Mem} (h : Box M) : 0 ≤ mI M 54 24 ∧ mI M 54 24 ≤ 15 := (h.2.1 54 24).2.2.2.2.2.2.2.1 rfl
theorem b54_25 {M : Mem} (h : Box M) : 0 ≤ mI M 54 25 ∧ mI M 54 25 ≤ 3 := (h.2.1 54 25).2.2.2.2.2.2.2.2.1 rfl
theorem b54_27 {M : Mem} (h : Box M) : 0 ≤ mI M 54 27 ∧ mI M 54 27 ≤ 40 := (h.2.1 54 27).2.2.2.2.2.2.2.2.2.1 rfl
theorem b54_32 {M : Mem} (h : Box M) : 0 ≤ mI M 54 32 ∧ mI M 54 32 ≤ 6 := (h.2.1 54 32).2.2.2.2.2.2.2.2.2.2.1 rfl
theorem b54_43 {M : Mem} (h : Box M) : 0 ≤ mI M 54 43 ∧ mI M 54 43 ≤ 5 := (h.2.1 54 43).2.2.2.2.2.2.2.2.2.2.2 rfl
theorem bA3 {M : Mem} (h : Box M) (j : Nat) : (-1) ≤ mI M 3 j ∧ mI M 3 j ≤ 15 := h.2.1 3 j
theorem bA10 {M : Mem} (h : Box M) (j : Nat) : (-1) ≤ mI M 10 j ∧ mI M 10 j ≤ 15 := h.2.1 10 j
theorem bA24 {M : Mem} (h : Box M) (j : Nat) : (-1) ≤ mI M 24 j ∧ mI M 24 j ≤ 300 := h.2.1 24 j
theorem bA43 {M : Mem} (h : Box M) (j : Nat) : 0 ≤ mI M 43 j ∧ mI M 43 j ≤ 15 := h.2.1 43 j
theorem bA52 {M : Mem} (h : Box M) (j : Nat) : 0 ≤ mI M 52 j ∧ mI M 52 j ≤ 63 := h.2.1 52 j
theorem bA53 {M : Mem} (h : Box M) (j : Nat) : 0 ≤ mI M 53 j ∧ mI M 53 j ≤ 63 := h.2.1 53 j
theorem bA70 {M : Mem} (h : Box M) (j : Nat) : 0 ≤ mI M 70 j ∧ mI M 70 j ≤ 15 := h.2.1 70 j
theorem bA71 {M : Mem} (h : Box M) (j : Nat) : 0 ≤ mI M 71 j ∧ mI M 71 j ≤ 4 := h.2.1 71 j
theorem bA72 {M : Mem} (h : Box M) (j : Nat) : 0 ≤ mI M 72 j ∧ mI M 72 j ≤ 4 := h.2.1 72 j
theorem bA74 {M : Mem} (h : Box M) (j : Nat) : (-1) ≤ mI M 74 j ∧ mI M 74 j ≤ 3 := h.2.1 74 j
theorem BX.w0_13 {A M : Mem} (h : BX A M) {v : Int} (h1 : 0 ≤ v) (h2 : v ≤ 300) : BX A (sI M 0 13 v) := h.I (k := 0) (by decide) (fun _ => ⟨h1, h2⟩) (by simp)
theorem BX.w0_14 {A M : Mem} (h : BX A M) {v : Int} : BX A (sI M 0 14 v) := h.I (k := 0) (by decide) (fun e => absurd e (by decide)) (by simp)
theorem BX.w0_15 {A M : Mem} (h : BX A M) {v : Int} : BX A (sI M 0 15 v) := h.I (k := 0) (by decide) (fun e => absurd e (by decide)) (by simp)
theorem BX.w1_6 {A M : Mem} (h : BX A M) {v : Int} (h1 : 0 ≤ v) (h2 : v ≤ 16) : BX A (sI M 1 6 v) := h.I (k := 1) (by decide) (⟨fun _ => ⟨h1, h2⟩, fun e => absurd e (by decide), fun e => absurd e (by decide), fun e => absurd e (by decide), fun e => absurd e (by decide)⟩) (by simp)
theorem BX.w1_7 {A M : Mem} (h : BX A M) {v : Int} (h1 : (-1) ≤ v) (h2 : v ≤ 15) : BX A (sI M 1 7 v) := h.I (k := 1) (by decide) (⟨fun e => absurd e (by decide), fun _ => ⟨h1, h2⟩, fun e => absurd e (by decide), fun e => absurd e (by decide), fun e => absurd e (by decide)⟩) (by simp)
theorem BX.w1_8 {A M : Mem} (h : BX A M) {v : Int} (h1 : 0 ≤ v) (h2 : v ≤ 6) : BX A (sI M 1 8 v) := h.I (k := 1) (by decide) (⟨fun e => absurd e (by decide), fun e => absurd e (by decide), fun _ => ⟨h1, h2⟩, fun e => absurd e (by decide), fun e => absurd e (by decide)⟩) (by simp)
theorem BX.w1_9 {A M : Mem} (h : BX A M) {v : Int} (h1 : 0 ≤ v) (h2 : v ≤ 8) : BX A (sI M 1 9 v) := h.I (k := 1) (by decide) (⟨fun e => absurd e (by decide), fun e => absurd e (by decide), fun e => absurd e (by decide), fun _ => ⟨h1, h2⟩, fun e => absurd e (by decide)⟩) (by simp)
theorem BX.w1_10 {A M : Mem} (h : BX A M) {v : Int} (h1 : 0 ≤ v) (h2 : v ≤ 4) : BX A (sI M 1 10 v) := h.I (k := 1) (by decide) (⟨fun e => absurd e (by decide), fun e => absurd e (by decide), fun e => absurd e (by decide), fun e => absurd e (by decide), fun _ => ⟨h1, h2⟩⟩) (by simp)
theorem BX.w1_11 {A M : Mem} (h : BX A M) {v : Int} : BX A (sI M 1 11 v) := h.I (k := 1) (by decide) (⟨fun e => absurd e (by decide), fun e => absurd e (by decide), fun e => absurd e (by decide), fun e => absurd e (by decide), fun e => absurd e (by decide)⟩) (by simp)
theorem BX.C2 {A M : Mem} (h : BX A M) (f d s n : Nat) : BX A (cpI M 2 f d s n) := h.C (k := 2) (by decide) (fun _ _ => trivial) (by simp)
theorem BX.w2 {A M : Mem} (h : BX A M) (j : Nat) {v : Int} : BX A (sI M 2 j v) := h.I (k := 2) (by decide) trivial (by simp)
theorem BX.w3 {A M : Mem} (h : BX A M) (j : Nat) {v : Int} (h1 : (-1) ≤ v) (h2 : v ≤ 15) : BX A (sI M 3 j v) := h.I (k := 3) (by decide) ⟨h1, h2⟩ (by simp)
theorem BX.C4 {A M : Mem} (h : BX A M) (f d s n : Nat) : BX A (cpI M 4 f d s n) := h.C (k := 4) (by decide) (fun _ _ => trivial) (by simp)
theorem BX.w4 {A M : Mem} (h : BX A M) (j : Nat) {v : Int} : BX A (sI M 4 j v) := h.I (k := 4) (by decide) trivial (by simp)
theorem BX.C5 {A M : Mem} (h : BX A M) (f d s n : Nat) : BX A (cpI M 5 f d s n) := h.C (k := 5) (by decide) (fun _ _ => trivial) (by simp)
theorem BX.w5 {A M : Mem} (h : BX A M) (j : Nat) {v : Int} : BX A (sI M 5 j v) := h.I (k := 5) (by decide) trivial (by simp)
theorem BX.C6 {A M : Mem} (h : BX A M) (f d s n : Nat) : BX A (cpI M 6 f d s n) := h.C (k := 6) (by decide) (fun _ _ => trivial) (by simp)
theorem BX.w6 {A M : Mem} (h : BX A M) (j : Nat) {v : Int} : BX A (sI M 6 j v) := h.I (k := 6) (by decide) trivial (by simp)
theorem BX.w8_6 {A M : Mem} (h : BX A M) {v : Int} (h1 : 0 ≤ v) (h2 : v ≤ 16) : BX A (sI M 8 6 v) := h.I (k := 8) (by decide) (⟨fun _ => ⟨h1, h2⟩, fun e => absurd e (by decide), fun e => absurd e (by decide), fun e => absurd e (by decide), fun e => absurd e (by decide)⟩) (by simp)
theorem BX.w8_7 {A M : Mem} (h : BX A M) {v : Int} (h1 : (-1) ≤ v) (h2 : v ≤ 15) : BX A (sI M 8 7 v) := h.I (k := 8) (by decide) (⟨fun e => absurd e (by decide), fun _ => ⟨h1, h2⟩, fun e => absurd e (by decide), fun e => absurd e (by decide), fun e => absurd e (by decide)⟩) (by simp)
theorem BX.w8_8 {A M : Mem} (h : BX A M) {v : Int} (h1 : 0 ≤ v) (h2 : v ≤ 6) : BX A (sI M 8 8 v) := h.I (k := 8) (by decide) (⟨fun e => absurd e (by decide), fun e => absurd e (by decide), fun _ => ⟨h1, h2⟩, fun e => absurd e (by decide), fun e => absurd e (by decide)⟩) (by simp)
theorem BX.w8_9 {A M : Mem} (h : BX A M) {v : Int} (h1 : 0 ≤ v) (h2 : v ≤ 8) : BX A (sI M 8 9 v) := h.I (k := 8) (by decide) (⟨fun e => absurd e (by decide), fun e => absurd e (by decide), fun e => absurd e (by decide), fun _ => ⟨h1, h2⟩, fun e => absurd e (by decide)⟩) (by simp)
theorem BX.w8_10 {A M : Mem} (h : BX A M) {v : Int} (h1 : 0 ≤ v) (h2 : v ≤ 4) : BX A (sI M 8 10 v) := h.I (k := 8) (by decide) (⟨fun e => absurd e (by decide), fun e => absurd e (by decide), fun e => absurd e (by decide), fun e => absurd e (by decide), fun _ => ⟨h1, h2⟩⟩) (by simp)
theorem BX.w8_11 {A M : Mem} (h : BX A M) {v : Int} : BX A (sI M 8 11 v) := h.I (k := 8) (by decide) (⟨fun e => absurd e (by decide), fun e => absurd e (by decide), fun e => absurd e (by decide), fun e => absurd e (by decide), fun e => absurd e (by decide)⟩) (by simp)
theorem BX.C9 {A M : Mem} (h : BX A M) (f d s n : Nat) : BX A (cpI M 9 f d s n) := h.C (k := 9) (by decide) (fun _ _ => trivial) (by simp)
theorem BX.w9 {A M : Mem} (h : BX A M) (j : Nat) {v : Int} : BX A (sI M 9 j v) := h.I (k := 9) (by decide) trivial (by simp)
theorem BX.C11 {A M : Mem} (h : BX A M) (f d s n : Nat) : BX A (cpI M 11 f d s n) := h.C (k := 11) (by decide) (fun _ _ => trivial) (by simp)
theorem BX.C12 {A M : Mem} (h : BX A M) (f d s n : Nat) : BX A (cpI M 12 f d s n) := h.C (k := 12) (by decide) (fun _ _ => trivial) (by simp)
theorem BX.C13 {A M : Mem} (h : BX A M) (f d s n : Nat) : BX A (cpI M 13 f d s n) := h.C (k := 13) (by decide) (fun _ _ => trivial) (by simp)
theorem BX.w15_2 {A M : Mem} (h : BX A M) {v : Int} (h1 : 0 ≤ v) (h2 : v ≤ 30) : BX A (sI M 15 2 v) := h.I (k := 15) (by decide) (⟨fun _ => ⟨h1, h2⟩, fun e => absurd e (by decide)⟩) (by simp)
theorem BX.w15_3 {A M : Mem} (h : BX A M) {v : Int} (h1 : 0 ≤ v) (h2 : v ≤ 29) : BX A (sI M 15 3 v) := h.I (k := 15) (by decide) (⟨fun e => absurd e (by decide), fun _ => ⟨h1, h2⟩⟩) (by simp)
theorem BX.C16 {A M : Mem} (h : BX A M) (f d s n : Nat) : BX A (cpI M 16 f d s n) := h.C (k := 16) (by decide) (fun _ _ => trivial) (by simp)
theorem BX.w16 {A M : Mem} (h : BX A M) (j : Nat) {v : Int} : BX A (sI M 16 j v) := h.I (k := 16) (by decide) trivial (by simp)
theorem BX.C17 {A M : Mem} (h : BX A M) (f d s n : Nat) : BX A (cpI M 17 f d s n) := h.C (k := 17) (by decide) (fun _ _ => trivial) (by simp)
theorem BX.w18_2 {A M : Mem} (h : BX A M) {v : Int} (h1 : 0 ≤ v) (h2 : v ≤ 30) : BX A (sI M 18 2 v) := h.I (k := 18) (by decide) (⟨fun _ => ⟨h1, h2⟩, fun e => absurd e (by decide)⟩) (by simp)
theorem BX.w18_3 {A M : Mem} (h : BX A M) {v : Int} (h1 : 0 ≤ v) (h2 : v ≤ 29) : BX A (sI M 18 3 v) := h.I (k := 18) (by decide) (⟨fun e => absurd e (by decide), fun _ => ⟨h1, h2⟩⟩) (by simp)
theorem BX.C19 {A M : Mem} (h : BX A M) (f d s n : Nat) : BX A (cpI M 19 f d s n) := h.C (k := 19) (by decide) (fun _ _ => trivial) (by simp)
theorem BX.C20 {A M : Mem} (h : BX A M) (f d s n : Nat) : BX A (cpI M 20 f d s n) := h.C (k := 20) (by decide) (fun _ _ => trivial) (by simp)
theorem BX.w21 {A M : Mem} (h : BX A M) (j : Nat) {v : Int} : BX A (sI M 21 j v) := h.I (k := 21) (by decide) trivial (by simp)
theorem BX.w22_7 {A M : Mem} (h : BX A M) {v : Int} : BX A (sI M 22 7 v) := h.I (k := 22) (by decide) (⟨fun e => absurd e (by decide), fun e => absurd e (by decide), fun e => absurd e (by decide)⟩) (by simp)
theorem BX.w22_8 {A M : Mem} (h : BX A M) {v : Int} : BX A (sI M 22 8 v) := h.I (k := 22) (by decide) (⟨fun e => absurd e (by decide), fun e => absurd e (by decide), fun e => absurd e (by decide)⟩) (by simp)
theorem BX.w22_9 {A M : Mem} (h : BX A M) {v : Int} (h1 : (-1) ≤ v) (h2 : v ≤ 300) : BX A (sI M 22 9 v) := h.I (k := 22) (by decide) (⟨fun _ => ⟨h1, h2⟩, fun e => absurd e (by decide), fun e => absurd e (by decide)⟩) (by simp)
theorem BX.w22_10 {A M : Mem} (h : BX A M) {v : Int} : BX A (sI M 22 10 v) := h.I (k := 22) (by decide) (⟨fun e => absurd e (by decide), fun e => absurd e (by decide), fun e => absurd e (by decide)⟩) (by simp)
theorem BX.w22_11 {A M : Mem} (h : BX A M) {v : Int} : BX A (sI M 22 11 v) := h.I (k := 22) (by decide) (⟨fun e => absurd e (by decide), fun e => absurd e (by decide), fun e => absurd e (by decide)⟩) (by simp)
theorem BX.w22_12 {A M : Mem} (h : BX A M) {v : Int} (h1 : 0 ≤ v) (h2 : v ≤ 300) : BX A (sI M 22 12 v) := h.I (k := 22) (by decide) (⟨fun e => absurd e (by decide), fun _ => ⟨h1, h2⟩, fun e => absurd e (by decide)⟩) (by simp)
theorem BX.w22_13 {A M : Mem} (h : BX A M) {v : Int} (h1 : 0 ≤ v) (h2 : v ≤ 24) : BX A (sI M 22 13 v) := h.I (k := 22) (by decide) (⟨fun e => absurd e (by decide), fun e => absurd e (by decide), fun _ => ⟨h1, h2⟩⟩) (by simp)
theorem BX.w22_14 {A M : Mem} (h : BX A M) {v : Int} : BX A (sI M 22 14 v) := h.I (k := 22) (by decide) (⟨fun e => absurd e (by decide), fun e => absurd e (by decide), fun e => absurd e (by decide)⟩) (by simp)
theorem BX.w23 {A M : Mem} (h : BX A M) (j : Nat) {v : Int} : BX A (sI M 23 j v) := h.I (k := 23) (by decide) trivial (by simp)
theorem BX.w24 {A M : Mem} (h : BX A M) (j : Nat) {v : Int} (h1 : (-1) ≤ v) (h2 : v ≤ 300) : BX A (sI M 24 j v) := h.I (k := 24) (by decide) ⟨h1, h2⟩ (by simp)
theorem BX.w25 {A M : Mem} (h : BX A M) (j : Nat) {v : Int} : BX A (sI M 25 j v) := h.I (k := 25) (by decide) trivial (by simp)
theorem BX.w26 {A M : Mem} (h : BX A M) (j : Nat) {v : Int} : BX A (sI M 26 j v) := h.I (k := 26) (by decide) trivial (by simp)
theorem BX.w27 {A M : Mem} (h : BX A M) (j : Nat) {v : Int} : BX A (sI M 27 j v) := h.I (k := 27) (by decide) trivial (by simp)
theorem BX.w28 {A M : Mem} (h : BX A M) (j : Nat) {v : Int} : BX A (sI M 28 j v) := h.I (k := 28) (by decide) trivial (by simp)
theorem BX.w30 {A M : Mem} (h : BX A M) (j : Nat) {v : Int} : BX A (sI M 30 j v) := h.I (k := 30) (by decide) trivial (by simp)
theorem BX.w31 {A M : Mem} (h : BX A M) (j : Nat) {v : Int} : BX A (sI M 31 j v) := h.I (k := 31) (by decide) trivial (by simp)
theorem BX.w32_2 {A M : Mem} (h : BX A M) {v : Int} : BX A (sI M 32 2 v) := h.I (k := 32) (by decide) (fun e => absurd e (by decide)) (by simp)
theorem BX.w32_3 {A M : Mem} (h : BX A M) {v : Int} : BX A (sI M 32 3 v) := h.I (k := 32) (by decide) (fun e => absurd e (by decide)) (by simp)
theorem BX.w32_4 {A M : Mem} (h : BX A M) {v : Int} (h1 : 0 ≤ v) (h2 : v ≤ 40) : BX A (sI M 32 4 v) := h.I (k := 32) (by decide) (fun _ => ⟨h1, h2⟩) (by simp)
theorem BX.w33 {A M : Mem} (h : BX A M) (j : Nat) {v : Int} : BX A (sI M 33 j v) := h.I (k := 33) (by decide) trivial (by simp)
theorem BX.w36 {A M : Mem} (h : BX A M) (j : Nat) {v : Int} : BX A (sI M 36 j v) := h.I (k := 36) (by decide) trivial (by simp)
theorem BX.w37 {A M : Mem} (h : BX A M) (j : Nat) {v : Int} : BX A (sI M 37 j v) := h.I (k := 37) (by decide) trivial (by simp)
theorem BX.w38 {A M : Mem} (h : BX A M) (j : Nat) {v : Int} : BX A (sI M 38 j v) := h.I (k := 38) (by decide) trivial (by simp)
theorem BX.w40_9 {A M : Mem} (h : BX A M) {v : Int} (h1 : 0 ≤ v) (h2 : v ≤ 5) : BX A (sI M 40 9 v) := h.I (k := 40) (by decide) (fun _ => ⟨h1, h2⟩) (by simp)
theorem BX.w41 {A M : Mem} (h : BX A M) (j : Nat) {v : Int} : BX A (sI M 41 j v) := h.I (k := 41) (by decide) trivial (by simp)
theorem BX.w42 {A M : Mem} (h : BX A M) (j : Nat) {v : Int} : BX A (sI M 42 j v) := h.I (k := 42) (by decide) trivial (by simp)
theorem BX.w43 {A M : Mem} (h : BX A M) (j : Nat) {v : Int} (h1 : 0 ≤ v) (h2 : v ≤ 15) : BX A (sI M 43 j v) := h.I (k := 43) (by decide) ⟨h1, h2⟩ (by simp)
theorem BX.w44 {A M : Mem} (h : BX A M) (j : Nat) {v : Int} : BX A (sI M 44 j v) := h.I (k := 44) (by decide) trivial (by simp)
theorem BX.C45 {A M : Mem} (h : BX A M) (f d s n : Nat) : BX A (cpI M 45 f d s n) := h.C (k := 45) (by decide) (fun _ _ => trivial) (by simp)
theorem BX.w47 {A M : Mem} (h : BX A M) (j : Nat) {v : Int} : BX A (sI M 47 j v) := h.I (k := 47) (by decide) trivial (by simp)
theorem BX.w48 {A M : Mem} (h : BX A M) (j : Nat) {v : Int} : BX A (sI M 48 j v) := h.I (k := 48) (by decide) trivial (by simp)
theorem BX.w49 {A M : Mem} (h : BX A M) (j : Nat) {v : Int} : BX A (sI M 49 j v) := h.I (k := 49) (by decide) trivial (by simp)
theorem BX.w50_4 {A M : Mem} (h : BX A M) {v : Int} : BX A (sI M 50 4 v) := h.I (k := 50) (by decide) (trivial) (by simp)
theorem BX.w51 {A M : Mem} (h : BX A M) (j : Nat) {v : Int} : BX A (sI M 51 j v) := h.I (k := 51) (by decide) trivial (by simp)
theorem BX.w52 {A M : Mem} (h : BX A M) (j : Nat) {v : Int} (h1 : 0 ≤ v) (h2 : v ≤ 63) : BX A (sI M 52 j v) := h.I (k := 52) (by decide) ⟨h1, h2⟩ (by simp)
theorem BX.w53 {A M : Mem} (h : BX A M) (j : Nat) {v : Int} (h1 : 0 ≤ v) (h2 : v ≤ 63) : BX A (sI M 53 j v) := h.I (k := 53) (by decide) ⟨h1, h2⟩ (by simp)
theorem BX.w54_4 {A M : Mem} (h : BX A M) {v : Int} (h1 : 0 ≤ v) (h2 : v ≤ 6) : BX A (sI M 54 4 v) := h.I (k := 54) (by decide) (⟨fun _ => ⟨h1, h2⟩, fun e => absurd e (by decide), fun e => absurd e (by decide), fun e => absurd e (by decide), fun e => absurd e (by decide), fun e => absurd e (by decide), fun e => absurd e (by decide), fun e => absurd e (by decide), fun e => absurd e (by decide), fun e => absurd e (by decide), fun e => absurd e (by decide), fun e => absurd e (by decide)⟩) (by simp)
theorem BX.w54_6 {A M : Mem} (h : BX A M) {v : Int} (h1 : 0 ≤ v) (h2 : v ≤ 300) : BX A (sI M 54 6 v) := h.I (k := 54) (by decide) (⟨fun e => absurd e (by decide), fun _ => ⟨h1, h2⟩, fun e => absurd e (by decide), fun e => absurd e (by decide), fun e => absurd e (by decide), fun e => absurd e (by decide), fun e => absurd e (by decide), fun e => absurd e (by decide), fun e => absurd e (by decide), fun e => absurd e (by decide), fun e => absurd e (by decide), fun e => absurd e (by decide)⟩) (by simp)
theorem BX.w54_7 {A M : Mem} (h : BX A M) {v : Int} : BX A (sI M 54 7 v) := h.I (k := 54) (by decide) (⟨fun e => absurd e (by decide), fun e => absurd e (by decide), fun e => absurd e (by decide), fun e => absurd e (by decide), fun e => absurd e (by decide), fun e => absurd e (by decide), fun e => absurd e (by decide), fun e => absurd e (by decide), fun e => absurd e (by decide), fun e => absurd e (by decide), fun e => absurd e (by decide), fun e => absurd e (by decide)⟩) (by simp)
theorem BX.w54_8 {A M : Mem} (h : BX A M) {v : Int} : BX A (sI M 54 8 v) := h.I (k := 54) (by decide) (⟨fun e => absurd e (by decide), fun e => absurd e (by decide), fun e => absurd e (by decide), fun e => absurd e (by decide), fun e => absurd e (by decide), fun e => absurd e (by decide), fun e => absurd e (by decide), fun e => absurd e (by decide), fun e => absurd e (by decide), fun e => absurd e (by decide), fun e => absurd e (by decide), fun e => absurd e (by decide)⟩) (by simp)
theorem BX.w54_9 {A M : Mem} (h : BX A M) {v : Int} (h1 : 0 ≤ v) (h2 : v ≤ 300) : BX A (sI M 54 9 v) := h.I (k := 54) (by decide) (⟨fun e => absurd e (by decide), fun e => absurd e (by decide), fun _ => ⟨h1, h2⟩, fun e => absurd e (by decide), fun e => absurd e (by decide), fun e => absurd e (by decide), fun e => absurd e (by decide), fun e => absurd e (by decide), fun e => absurd e (by decide), fun e => absurd e (by decide), fun e => absurd e (by decide), fun e => absurd e (by decide)⟩) (by simp)
theorem BX.w54_10 {A M : Mem} (h : BX A M) {v : Int} (h1 : 0 ≤ v) (h2 : v ≤ 300) : BX A (sI M 54 10 v) := h.I (k := 54) (by decide) (⟨fun e => absurd e (by decide), fun e => absurd e (by decide), fun e => absurd e (by decide), fun _ => ⟨h1, h2⟩, fun e => absurd e (by decide), fun e => absurd e (by decide), fun e => absurd e (by decide), fun e => absurd e (by decide), fun e => absurd e (by decide), fun e => absurd e (by decide), fun e => absurd e (by decide), fun e => absurd e (by decide)⟩) (by simp)
theorem BX.w54_11 {A M : Mem} (h : BX A M) {v : Int} : BX A (sI M 54 11 v) := h.I (k := 54) (by decide) (⟨fun e => absurd e (by decide), fun e => absurd e (by decide), fun e => absurd e (by decide), fun e => absurd e (by decide), fun e => absurd e (by decide), fun e => absurd e (by decide), fun e => absurd e (by decide), fun e => absurd e (by decide), fun e => absurd e (by decide), fun e => absurd e (by decide), fun e => absurd e (by decide), fun e => absurd e (by decide)⟩) (by simp)
theorem BX.w54_12 {A M : Mem} (h : BX A M) {v : Int} : BX A (sI M 54 12 v) := h.I (k := 54) (by decide) (⟨fun e => absurd e (by decide), fun e => absurd e (by decide), fun e => absurd e (by decide), fun e => absurd e (by decide), fun e => absurd e (by decide), fun e => absurd e (by decide), fun e => absurd e (by decide), fun e => absurd e (by decide), fun e => absurd e (by decide), fun e => absurd e (by decide), fun e => absurd e (by decide), fun e => absurd e (by decide)⟩) (by simp)
theorem BX.w54_14 {A M : Mem} (h : BX A M) {v : Int} (h1 : 0 ≤ v) (h2 : v ≤ 2619) : BX A (sI M 54 14 v) := h.I (k := 54) (by decide) (⟨fun e => absurd e (by decide), fun e => absurd e (by decide), fun e => absurd e (by decide), fun e => absurd e (by decide), fun _ => ⟨h1, h2⟩, fun e => absurd e (by decide), fun e => absurd e (by decide), fun e => absurd e (by decide), fun e => absurd e (by decide), fun e => absurd e (by decide), fun e => absurd e (by decide), fun e => absurd e (by decide)⟩) (by simp)
theorem BX.w54_15 {A M : Mem} (h : BX A M) {v : Int} (h1 : 0 ≤ v) (h2 : v ≤ 300) : BX A (sI M 54 15 v) := h.I (k := 54) (by decide) (⟨fun e => absurd e (by decide), fun e => absurd e (by decide), fun e => absurd e (by decide), fun e => absurd e (by decide), fun e => absurd e (by decide), fun _ => ⟨h1, h2⟩, fun e => absurd e (by decide), fun e => absurd e (by decide), fun e => absurd e (by decide), fun e => absurd e (by decide), fun e => absurd e (by decide), fun e => absurd e (by decide)⟩) (by simp)
theorem BX.w54_16 {A M : Mem} (h : BX A M) {v : Int} : BX A (sI M 54 16 v) := h.I (k := 54) (by decide) (⟨fun e => absurd e (by decide), fun e => absurd e (by decide), fun e => absurd e (by decide), fun e => absurd e (by decide), fun e => absurd e (by decide), fun e => absurd e (by decide), fun e => absurd e (by decide), fun e => absurd e (by decide), fun e => absurd e (by decide), fun e => absurd e (by decide), fun e => absurd e (by decide), fun e => absurd e (by decide)⟩) (by simp)
theorem BX.w54_18 {A M : Mem} (h : BX A M) {v : Int} (h1 : 0 ≤ v) (h2 : v ≤ 160) : BX A (sI M 54 18 v) := h.I (k := 54) (by decide) (⟨fun e => absurd e (by decide), fun e => absurd e (by decide), fun e => absurd e (by decide), fun e => absurd e (by decide), fun e => absurd e (by decide), fun e => absurd e (by decide), fun _ => ⟨h1, h2⟩, fun e => absurd e (by decide), fun e => absurd e (by decide), fun e => absurd e (by decide), fun e => absurd e (by decide), fun e => absurd e (by decide)⟩) (by simp)
theorem BX.w54_19 {A M : Mem} (h : BX A M) {v : Int} : BX A (sI M 54 19 v) := h.I (k := 54) (by decide) (⟨fun e => absurd e (by decide), fun e => absurd e (by decide), fun e => absurd e (by decide), fun e => absurd e (by decide), fun e => absurd e (by decide), fun e => absurd e (by decide), fun e => absurd e (by decide), fun e => absurd e (by decide), fun e => absurd e (by decide), fun e => absurd e (by decide), fun e => absurd e (by decide), fun e => absurd e (by decide)⟩) (by simp)
theorem BX.w54_20 {A M : Mem} (h : BX A M) {v : Int} : BX A (sI M 54 20 v) := h.I (k := 54) (by decide) (⟨fun e => absurd e (by decide), fun e => absurd e (by decide), fun e => absurd e (by decide), fun e => absurd e (by decide), fun e => absurd e (by decide), fun e => absurd e (by decide), fun e => absurd e (by decide), fun e => absurd e (by decide), fun e => absurd e (by decide), fun e => absurd e (by decide), fun e => absurd e (by decide), fun e => absurd e (by decide)⟩) (by simp)
theorem BX.w54_21 {A M : Mem} (h : BX A M) {v : Int} : BX A (sI M 54 21 v) := h.I (k := 54) (by decide) (⟨fun e => absurd e (by decide), fun e => absurd e (by decide), fun e => absurd e (by decide), fun e => absurd e (by decide), fun e => absurd e (by decide), fun e => absurd e (by decide), fun e => absurd e (by decide), fun e => absurd e (by decide), fun e => absurd e (by decide), fun e => absurd e (by decide), fun e => absurd e (by decide), fun e => absurd e (by decide)⟩) (by simp)
theorem BX.w54_24 {A M : Mem} (h : BX A M) {v : Int} (h1 : 0 ≤ v) (h2 : v ≤ 15) : BX A (sI M 54 24 v) := h.I (k := 54) (by decide) (⟨fun e => absurd e (by decide), fun e => absurd e (by decide), fun e => absurd e (by decide), fun e => absurd e (by decide), fun e => absurd e (by decide), fun e => absurd e (by decide), fun e => absurd e (by decide), fun _ => ⟨h1, h2⟩, fun e => absurd e (by decide), fun e => absurd e (by decide), fun e => absurd e (by decide), fun e => absurd e (by decide)⟩) (by simp)
theorem BX.w54_25 {A M : Mem} (h : BX A M) {v : Int} (h1 : 0 ≤ v) (h2 : v ≤ 3) : BX A (sI M 54 25 v) := h.I (k := 54) (by decide) (⟨fun e => absurd e (by decide), fun e => absurd e (by decide), fun e => absurd e (by decide), fun e => absurd e (by decide), fun e => absurd e (by decide), fun e => absurd e (by decide), fun e => absurd e (by decide), fun e => absurd e (by decide), fun _ => ⟨h1, h2⟩, fun e => absurd e (by decide), fun e => absurd e (by decide), fun e => absurd e (by decide)⟩) (by simp)
theorem BX.w54_26 {A M : Mem} (h : BX A M) {v : Int} : BX A (sI M 54 26 v) := h.I (k := 54) (by decide) (⟨fun e => absurd e (by decide), fun e => absurd e (by decide), fun e => absurd e (by decide), fun e => absurd e (by decide), fun e => absurd e (by decide), fun e => absurd e (by decide), fun e => absurd e (by decide), fun e => absurd e (by decide), fun e => absurd e (by decide), fun e => absurd e (by decide), fun e => absurd e (by decide), fun e => absurd e (by decide)⟩) (by simp)
theorem BX.w54_27 {A M : Mem} (h : BX A M) {v : Int} (h1 : 0 ≤ v) (h2 : v ≤ 40) : BX A (sI M 54 27 v) := h.I (k := 54) (by decide) (⟨fun e => absurd e (by decide), fun e => absurd e (by decide), fun e => absurd e (by decide), fun e => absurd e (by decide), fun e => absurd e (by decide), fun e => absurd e (by decide), fun e => absurd e (by decide), fun e => absurd e (by decide), fun e => absurd e (by decide), fun _ => ⟨h1, h2⟩, fun e => absurd e (by decide), fun e => absurd e (by decide)⟩) (by simp)
theorem BX.w54_28 {A M : Mem} (h : BX A M) {v : Int} : BX A (sI M 54 28 v) := h.I (k := 54) (by decide) (⟨fun e => absurd e (by decide), fun e => absurd e (by decide), fun e => absurd e (by decide), fun e => absurd e (by decide), fun e => absurd e (by decide), fun e => absurd e (by decide), fun e => absurd e (by decide), fun e => absurd e (by decide), fun e => absurd e (by decide), fun e => absurd e (by decide), fun e => absurd e (by decide), fun e => absurd e (by decide)⟩) (by simp)
theorem BX.w54_29 {A M : Mem} (h : BX A M) {v : Int} : BX A (sI M 54 29 v) := h.I (k := 54) (by decide) (⟨fun e => absurd e (by decide), fun e => absurd e (by decide), fun e => absurd e (by decide), fun e => absurd e (by decide), fun e => absurd e (by decide), fun e => absurd e (by decide), fun e => absurd e (by decide), fun e => absurd e (by decide), fun e => absurd e (by decide), fun e => absurd e (by decide), fun e => absurd e (by decide), fun e => absurd e (by decide)⟩) (by simp)
theorem BX.w54_30 {A M : Mem} (h : BX A M) {v : Int} : BX A (sI M 54 30 v) := h.I (k := 54) (by decide) (⟨fun e => absurd e (by decide), fun e => absurd e (by decide), fun e => absurd e (by decide), fun e => absurd e (by decide), fun e => absurd e (by decide), fun e => absurd e (by decide), fun e => absurd e (by decide), fun e => absurd e (by decide), fun e => absurd e (by decide), fun e => absurd e (by decide), fun e => absurd e (by decide), fun e => absurd e (by decide)⟩) (by simp)
theorem BX.w54_32 {A M : Mem} (h : BX A M) {v : Int} (h1 : 0 ≤ v) (h2 : v ≤ 6) : BX A (sI M 54 32 v) := h.I (k := 54) (by decide) (⟨fun e => absurd e (by decide), fun e => absurd e (by decide), fun e => absurd e (by decide), fun e => absurd e (by decide), fun e => absurd e (by decide), fun e => absurd e (by decide), fun e => absurd e (by decide), fun e => absurd e (by decide), fun e => absurd e (by decide), fun e => absurd e (by decide), fun _ => ⟨h1, h2⟩, fun e => absurd e (by decide)⟩) (by simp)
theorem BX.w54_43 {A M : Mem} (h : BX A M) {v : Int} (h1 : 0 ≤ v) (h2 : v ≤ 5) : BX A (sI M 54 43 v) := h.I (k := 54) (by decide) (⟨fun e => absurd e (by decide), fun e => absurd e (by decide), fun e => absurd e (by decide), fun e => absurd e (by decide), fun e => absurd e (by decide), fun e => absurd e (by decide), fun e => absurd e (by decide), fun e => absurd e (by decide), fun e => absurd e (by decide), fun e => absurd e (by decide), fun e => absurd e (by decide), fun _ => ⟨h1, h2⟩⟩) (by simp)
theorem BX.w58 {A M : Mem} (h : BX A M) (j : Nat) {v : Int} : BX A (sI M 58 j v) := h.I (k := 58) (by decide) trivial (by simp)
theorem BX.w59 {A M : Mem} (h : BX A M) (j : Nat) {v : Int} : BX A (sI M 59 j v) := h.I (k := 59) (by decide) trivial (by simp)
theorem BX.w60 {A M : Mem} (h : BX A M) (j : Nat) {v : Int} : BX A (sI M 60 j v) := h.I (k := 60) (by decide) trivial (by simp)
theorem BX.w61 {A M : Mem} (h : BX A M) (j : Nat) {v : Int} : BX A (sI M 61 j v) := h.I (k := 61) (by decide) trivial (by simp)
theorem BX.w63 {A M : Mem} (h : BX A M) (j : Nat) {v : Int} : BX A (sI M 63 j v) := h.I (k := 63) (by decide) trivial (by simp)
theorem BX.w64 {A M : Mem} (h : BX A M) (j : Nat) {v : Int} : BX A (sI M 64 j v) := h.I (k := 64) (by decide) trivial (by simp)
theorem BX.w65 {A M : Mem} (h : BX A M) (j : Nat) {v : Int} : BX A (sI M 65 j v) := h.I (k := 65) (by decide) trivial (by simp)
theorem BX.w67 {A M : Mem} (h : BX A M) (j : Nat) {v : Int} : BX A (sI M 67 j v) := h.I (k := 67) (by decide) trivial (by simp)
theorem BX.w68 {A M : Mem} (h : BX A M) (j : Nat) {v : Int} : BX A (sI M 68 j v) := h.I (k := 68) (by decide) trivial (by simp)
theorem BX.w69 {A M : Mem} (h : BX A M) (j : Nat) {v : Int} : BX A (sI M 69 j v) := h.I (k := 69) (by decide) trivial (by simp)
theorem BX.w70 {A M : Mem} (h : BX A M) (j : Nat) {v : Int} (h1 : 0 ≤ v) (h2 : v ≤ 15) : BX A (sI M 70 j v) := h.I (k := 70) (by decide) ⟨h1, h2⟩ (by simp)
theorem BX.w71 {A M : Mem} (h : BX A M) (j : Nat) {v : Int} (h1 : 0 ≤ v) (h2 : v ≤ 4) : BX A (sI M 71 j v) := h.I (k := 71) (by decide) ⟨h1, h2⟩ (by simp)
theorem BX.w72 {A M : Mem} (h : BX A M) (j : Nat) {v : Int} (h1 : 0 ≤ v) (h2 : v ≤ 4) : BX A (sI M 72 j v) := h.I (k := 72) (by decide) ⟨h1, h2⟩ (by simp)
theorem BX.w73 {A M : Mem} (h : BX A M) (j : Nat) {v : Int} : BX A (sI M 73 j v) := h.I (k := 73) (by decide) trivial (by simp)
theorem BX.w74 {A M : Mem} (h : BX A M) (j : Nat) {v : Int} (h1 : (-1) ≤ v) (h2 : v ≤ 3) : BX A (sI M 74 j v) := h.I (k := 74) (by decide) ⟨h1, h2⟩ (by simp)
theorem BX.C3 {A M : Mem} (h : BX A M) (f d s n : Nat) (hf : f = 10) : BX A (cpI M 3 f d s n) := h.C (k := 3) (by decide) (fun _ i => by subst hf; exact bA10 h.1 i) (by simp)
theorem BX.C10 {A M : Mem} (h : BX A M) (f d s n : Nat) (hf : f = 3) : BX A (cpI M 10 f d s n) := h.C (k := 10) (by decide) (fun _ i => by subst hf; exact bA3 h.1 i) (by simp)
theorem b55_0 {M : Mem} (h : Box M) : 0 ≤ mI M 55 0 ∧ mI M 55 0 ≤ 16 := (h.2.1 55 0).1 rfl
theorem b55_1 {M : Mem} (h : Box M) : (-1) ≤ mI M 55 1 ∧ mI M 55 1 ≤ 15 := (h.2.1 55 1).2.1 rfl
theorem b55_2 {M : Mem} (h : Box M) : 0 ≤ mI M 55 2 ∧ mI M 55 2 ≤ 6 := (h.2.1 55 2).2.2.1 rfl
theorem b55_3 {M : Mem} (h : Box M) : 0 ≤ mI M 55 3 ∧ mI M 55 3 ≤ 8 := (h.2.1 55 3).2.2.2.1 rfl
theorem b55_4 {M : Mem} (h : Box M) : 0 ≤ mI M 55 4 ∧ mI M 55 4 ≤ 40025 := (h.2.1 55 4).2.2.2.2.1 rfl
theorem b55_5 {M : Mem} (h : Box M) : 0 ≤ mI M 55 5 ∧ mI M 55 5 ≤ 4 := (h.2.1 55 5).2.2.2.2.2.1 rfl
theorem b55_6 {M : Mem} (h : Box M) : (-1) ≤ mI M 55 6 ∧ mI M 55 6 ≤ 3 := (h.2.1 55 6).2.2.2.2.2.2.1 rfl
theorem b55_7 {M : Mem} (h : Box M) : 0 ≤ mI M 55 7 ∧ mI M 55 7 ≤ 30 := (h.2.1 55 7).2.2.2.2.2.2.2.1 rfl
theorem b55_256 {M : Mem} (h : Box M) : (-1) ≤ mI M 55 256 ∧ mI M 55 256 ≤ 15 := (h.2.1 55 256).2.2.2.2.2.2.2.2.1 rfl
theorem b55_257 {M : Mem} (h : Box M) : 0 ≤ mI M 55 257 ∧ mI M 55 257 ≤ 3 := (h.2.1 55 257).2.2.2.2.2.2.2.2.2.1 rfl
theorem ba_st {M : Mem} (h : Box M) {x : Int} (h1 : 10 ≤ x) (h2 : x < 154) (h3 : 1 ≤ (x - 10) % 9 ∧ (x - 10) % 9 ≤ 4) : -1 ≤ mI M 55 x.toNat ∧ mI M 55 x.toNat ≤ 15 := by
  obtain ⟨-, -, -, -, -, -, -, -, -, -, q, -⟩ := h.2.1 55 x.toNat
  exact q (by omega) (by omega) (by omega) (by omega)
theorem ba_tc {M : Mem} (h : Box M) {x : Int} (h1 : 154 ≤ x) (h2 : x < 184) (h3 : (x - 154) % 5 = 0) : 0 ≤ mI M 55 x.toNat ∧ mI M 55 x.toNat ≤ 15 := by
  obtain ⟨-, -, -, -, -, -, -, -, -, -, -, q, -⟩ := h.2.1 55 x.toNat
  exact q (by omega) (by omega) (by omega)
theorem ba_t0 {M : Mem} (h : Box M) {x : Int} (h1 : 184 ≤ x) (h2 : x < 256) (h3 : (x - 184) % 9 = 0) : 0 ≤ mI M 55 x.toNat ∧ mI M 55 x.toNat ≤ 5 := by
  obtain ⟨-, -, -, -, -, -, -, -, -, -, -, -, q, -⟩ := h.2.1 55 x.toNat
  exact q (by omega) (by omega) (by omega)
theorem ba_t1 {M : Mem} (h : Box M) {x : Int} (h1 : 184 ≤ x) (h2 : x < 256) (h3 : (x - 184) % 9 = 1) : 0 ≤ mI M 55 x.toNat ∧ mI M 55 x.toNat ≤ 3 := by
  obtain ⟨-, -, -, -, -, -, -, -, -, -, -, -, -, q, -⟩ := h.2.1 55 x.toNat
  exact q (by omega) (by omega) (by omega)
theorem ba_t2 {M : Mem} (h : Box M) {x : Int} (h1 : 184 ≤ x) (h2 : x < 256) (h3 : (x - 184) % 9 = 2) : 0 ≤ mI M 55 x.toNat ∧ mI M 55 x.toNat ≤ 6 := by
  obtain ⟨-, -, -, -, -, -, -, -, -, -, -, -, -, -, q, -⟩ := h.2.1 55 x.toNat
  exact q (by omega) (by omega) (by omega)
/-- a write to the row a that the relations don't speak of -/
theorem BX.a {M0 M : Mem} (h : BX M0 M) {x v : Int} (h0 : 0 ≤ x) (h9 : x < 589) (hv : aB x.toNat v) (n0 : x ≠ 0) (n3 : x ≠ 3) (n5 : x ≠ 5) (n6 : x ≠ 6) (ns : x < 10 ∨ 154 ≤ x ∨ (x - 10) % 9 = 0 ∨ 5 ≤ (x - 10) % 9) (nc : x < 184 ∨ 256 ≤ x ∨ (x - 184) % 9 ≠ 2) : BX M0 (sI M 55 x.toNat v) := by
  obtain ⟨⟨h1, h2, h3, h4, h5, h6, h7⟩, hd⟩ := h
  have eo : ∀ b, b ≠ x.toNat → mI (sI M 55 x.toNat v) 55 b = mI M 55 b := fun b hb => by rw [mI_sI, if_neg (fun e => hb e.2)]
  have e6 : mI (sI M 55 x.toNat v) 56 = mI M 56 := funext fun b => by rw [mI_sI, if_neg (fun e => by omega)]
  have e7 : mI (sI M 55 x.toNat v) 57 = mI M 57 := funext fun b => by rw [mI_sI, if_neg (fun e => by omega)]
  refine ⟨⟨h1, bx_sI h2 hv, h3.same ((Dz.refl M).sI (by decide)) (fun _ _ _ => rfl), ?_⟩, hd.sI (by decide)⟩
  have z0 := eo 0 (by omega)
  have z3 := eo 3 (by omega)
  have z5 := eo 5 (by omega)
  have z6 := eo 6 (by omega)
  refine ⟨⟨fun c d hc hd => ?_, fun t ht => ?_, ?_⟩, by rw [e6]; exact h5, by rw [e6, z5]; exact h6, by rw [e7, z5]; exact h7⟩
  · have hb := (h2 55 0).1 rfl
    rw [z0] at hc ⊢
    rw [eo _ (by omega)]
    exact h4.1 c d hc hd
  · have hb := (h2 55 3).2.2.2.1 rfl
    rw [z3] at ht
    rw [eo _ (by omega)]
    exact h4.2.1 t ht
  · rw [z6, z5]
    exact h4.2.2
/-- places that the relation of the two speaks of -/
def fQ (k j : Nat) : Bool := (k == 0 && (j == 13 || j == 14 || j == 15)) || (k == 1 && Nat.ble 6 j) || (Nat.ble 2 k && Nat.ble k 7) || (k == 8 && Nat.ble 6 j) || (Nat.ble 9 k && Nat.ble k 14) || (k == 15 && Nat.ble 2 j) || k == 16 || k == 17 || (k == 18 && Nat.ble 2 j) || k == 19 || k == 20 || k == 21 || (k == 54 && (j == 6 || j == 7 || j == 8)) || k == 55 || k == 56 || k == 57 || k == 59
/-- what ways, visits and the reference's own lists hold, too: for laws and goings -/
def fS (k j : Nat) : Bool := fQ k j || (k == 35 || (Nat.ble 36 k && Nat.ble k 45) || (Nat.ble 64 k && Nat.ble k 72) || (k == 54 && (j == 36 || j == 43 || j == 44)))
/-- but weights and ends -/
def fW (k j : Nat) : Bool := !(k == 36 || k == 37 || k == 64 || k == 65) && fS k j
/-- but paces and seconds -/
def fVs (k j : Nat) : Bool := !(k == 41 || k == 42 || k == 68 || k == 69) && fS k j
/-- but the reference's texts -/
def fT (k j : Nat) : Bool := !(k == 57) && fQ k j
/-- but the class's town and walk -/
def fC (k j : Nat) : Bool := !((k == 1 && !(j == 10)) || (Nat.ble 2 k && Nat.ble k 6) || k == 15 || k == 16 || k == 17) && fQ k j
/-- but the reference's town and walk -/
def fR (k j : Nat) : Bool := !(k == 55 && !(j == 5)) && fQ k j
theorem fQ_lt {k j : Nat} (h : fQ k j = true) : k < 75 := by
  by_cases e : k < 75
  · exact e
  · exfalso
    unfold fQ at h
    simp only [Bool.or_eq_true, Bool.and_eq_true, beq_iff_eq, Nat.ble_eq] at h
    omega
def FzF (f : Nat → Nat → Bool) (A B : Mem) : Prop := ∀ k j, f k j = true → mI B k j = mI A k j
def RzF (f : Nat → Nat → Bool) (A B : Mem) : Prop := (f 7 0 = true → ∀ k j, (k = 7 ∨ k = 14) → mR B k j = mR A k j) ∧ (f 55 5 = true → ∀ j : Nat, (j : Int) < 873 * mI A 55 5 → mI B 57 j = mI A 57 j) ∧ ∀ k j, f k j = true → mJ B k j = mJ A k j
def DyF (f : Nat → Nat → Bool) (A B : Mem) : Prop := (Dz A B ∧ RzF f A B) ∧ FzF f A B
def BF (f : Nat → Nat → Bool) (A B : Mem) : Prop := Box B ∧ DyF f A B
theorem FzF.refl (f : Nat → Nat → Bool) (M : Mem) : FzF f M M := fun _ _ _ => rfl
theorem FzF.trans {f : Nat → Nat → Bool} {A B C : Mem} (h1 : FzF f A B) (h2 : FzF f B C) : FzF f A C := fun k j h => (h2 k j h).trans (h1 k j h)
theorem FzF.sI {f : Nat → Nat → Bool} {M : Mem} {k j : Nat} {v : Int} (hf : f k j = false) : FzF f M (sI M k j v) := fun a b h => by
  rw [mI_sI, if_neg (fun e => by rw [e.1, e.2, hf] at h; cases h)]
theorem FzF.cp {f : Nat → Nat → Bool} {M : Mem} {k q d s n : Nat} (hf : ∀ j, f k j = false) : FzF f M (cpI M k q d s n) := fun a b h => by
  rw [mI_cpI, if_neg (fun e => by rw [e.1, hf] at h; cases h)]
theorem FzF.up {f g : Nat → Nat → Bool} {A B : Mem} (h : FzF g A B) (hl : ∀ k j, f k j = true → g k j = true) : FzF f A B := fun k j e => h k j (hl k j e)
theorem fT_Q (k j : Nat) (h : fT k j = true) : fQ k j = true := by
  unfold fT at h
  exact (Bool.and_eq_true _ _ ▸ h).2
theorem fC_Q (k j : Nat) (h : fC k j = true) : fQ k j = true := by
  unfold fC at h
  exact (Bool.and_eq_true _ _ ▸ h).2
theorem fR_Q (k j : Nat) (h : fR k j = true) : fQ k j = true := by
  unfold fR at h
  exact (Bool.and_eq_true _ _ ▸ h).2
theorem fR_55 (i : Nat) (h : i ≠ 5) : fR 55 i = false := by
  have e : (i == 5) = false := by rw [beq_eq_false_iff_ne]; exact h
  unfold fR
  rw [e]
  rfl
theorem BF.start {f : Nat → Nat → Bool} {M : Mem} (h : Box M) : BF f M M := ⟨h, ⟨Dz.refl M, fun _ _ _ _ => rfl, fun _ _ _ => rfl, fun _ _ _ => rfl⟩, FzF.refl f M⟩
theorem DyF.trans {f : Nat → Nat → Bool} {A B C : Mem} (h1 : DyF f A B) (h2 : DyF f B C) : DyF f A C := ⟨⟨h1.1.1.trans h2.1.1, fun a k j h => (h2.1.2.1 a k j h).trans (h1.1.2.1 a k j h), fun a j h => (h2.1.2.2.1 a j (by rw [h1.2 55 5 a]; exact h)).trans (h1.1.2.2.1 a j h), fun k j e => (h2.1.2.2.2 k j e).trans (h1.1.2.2.2 k j e)⟩, h1.2.trans h2.2⟩
theorem BF.go {f : Nat → Nat → Bool} {A B C : Mem} (h1 : BF f A B) (h2 : BF f B C) : BF f A C := ⟨h2.1, h1.2.trans h2.2⟩
theorem BF.x {f : Nat → Nat → Bool} {A B : Mem} (h : BF f A B) : BX A B := ⟨h.1, h.2.1.1⟩
theorem BF.of {f : Nat → Nat → Bool} {A B C : Mem} (h : BF f A B) (hx : BX B C) (hf : FzF f B C) (hr : ∀ k j, mR C k j = mR B k j) (hl : ∀ j : Nat, (j : Int) < 873 * mI B 55 5 → mI C 57 j = mI B 57 j := by exact fun _ _ => rfl) (hj : ∀ k j, f k j = true → mJ C k j = mJ B k j := by exact fun _ _ _ => rfl) : BF f A C := ⟨hx.1, ⟨h.2.1.1.trans hx.2, fun a k j e => (hr k j).trans (h.2.1.2.1 a k j e), fun a j e => (hl j (by rw [h.2.2 55 5 a]; exact e)).trans (h.2.1.2.2.1 a j e), fun k j e => (hj k j e).trans (h.2.1.2.2.2 k j e)⟩, h.2.2.trans hf⟩
theorem BF.dn {f g : Nat → Nat → Bool} {A B : Mem} (h : BF g A B) (hl : ∀ k j, f k j = true → g k j = true) : BF f A B := ⟨h.1, ⟨h.2.1.1, fun a => h.2.1.2.1 (hl _ _ a), fun a => h.2.1.2.2.1 (hl _ _ a), fun k j e => h.2.1.2.2.2 k j (hl k j e)⟩, h.2.2.up hl⟩
theorem fQ_S (k j : Nat) (h : fQ k j = true) : fS k j = true := by
  unfold fS
  rw [h]
  rfl
theorem fW_S (k j : Nat) (h : fW k j = true) : fS k j = true := by
  unfold fW at h
  exact (Bool.and_eq_true _ _ ▸ h).2
theorem fVs_S (k j : Nat) (h : fVs k j = true) : fS k j = true := by
  unfold fVs at h
  exact (Bool.and_eq_true _ _ ▸ h).2
theorem fQ_W (k j : Nat) (h : fQ k j = true) : fW k j = true := by
  have e : (k == 36 || k == 37 || k == 64 || k == 65) = false := by
    cases q : (k == 36 || k == 37 || k == 64 || k == 65) with
    | false => rfl
    | true =>
      exfalso
      unfold fQ at h
      simp only [Bool.or_eq_true, Bool.and_eq_true, beq_iff_eq, Nat.ble_eq] at h q
      omega
  unfold fW
  rw [e, fQ_S k j h]
  rfl
theorem fQ_V (k j : Nat) (h : fQ k j = true) : fVs k j = true := by
  have e : (k == 41 || k == 42 || k == 68 || k == 69) = false := by
    cases q : (k == 41 || k == 42 || k == 68 || k == 69) with
    | false => rfl
    | true =>
      exfalso
      unfold fQ at h
      simp only [Bool.or_eq_true, Bool.and_eq_true, beq_iff_eq, Nat.ble_eq] at h q
      omega
  unfold fVs
  rw [e, fQ_S k j h]
  rfl
theorem BF.sq {A B : Mem} (h : BF fS A B) : BF fQ A B := h.dn fQ_S
theorem BF.wq {A B : Mem} (h : BF fW A B) : BF fQ A B := h.dn fQ_W
theorem BF.vq {A B : Mem} (h : BF fVs A B) : BF fQ A B := h.dn fQ_V
theorem BF.sw {A B : Mem} (h : BF fS A B) : BF fW A B := h.dn fW_S
theorem BF.sv {A B : Mem} (h : BF fS A B) : BF fVs A B := h.dn fVs_S
theorem BF.c {A B : Mem} (h : BF fQ A B) : BF fC A B := h.dn fC_Q
theorem BF.r {A B : Mem} (h : BF fQ A B) : BF fR A B := h.dn fR_Q
theorem BF.t {A B : Mem} (h : BF fQ A B) : BF fT A B := h.dn fT_Q
theorem TxO.dy {f : Nat → Nat → Bool} {A B : Mem} {y : Nat} (h : TxO A y) (hd : DyF f A B) : TxO B y := h.dz hd.1.1
theorem DyF.sh {f : Nat → Nat → Bool} {A B : Mem} (h : DyF f A B) {k : Nat} {x : Sh} (hk : 75 ≤ k) (hs : A.1[k]? = some x) : B.1[k]? = some x := h.1.1.sh hk hs
theorem DyF.rf {f : Nat → Nat → Bool} {A B : Mem} (h : DyF f A B) {k : Nat} {x : Sh} (hk : 75 ≤ k) (hs : A.1[k]? = some x) (j : Nat) : mR B k j = mR A k j := h.1.1.rf hk hs j
theorem DyF.vl {f : Nat → Nat → Bool} {A B : Mem} (h : DyF f A B) {k : Nat} {x : Sh} (hk : 75 ≤ k) (hs : A.1[k]? = some x) {j : Nat} : mI B k j = mI A k j := h.1.1.vl hk hs
theorem BF.J {f : Nat → Nat → Bool} {A M : Mem} (h : BF f A M) (k j : Nat) (v : Int) (hF : f k j = false) : BF f A (sJ M k j v) := h.of ((BX.start h.1).J k j v) (fun _ _ _ => rfl) (fun _ _ => rfl) (fun _ _ => rfl) (fun a b e => by rw [mJ_sJ, if_neg (fun q => by rw [q.1, q.2, hF] at e; cases e)])
theorem BF.tx {f : Nat → Nat → Bool} {A M : Mem} (h : BF f A M) {k j : Nat} (hk : k = 7 ∨ k = 14) {v : Option Nat} (e : v = mR M k j) : ∀ y, v = some y → TxO M y := fun y hy => h.1.2.2.1 k j y hk (e ▸ hy)
/-- the reader's frame -/
abbrev Fz (A B : Mem) : Prop := FzF fT A B
theorem Fz.refl (M : Mem) : Fz M M := FzF.refl fT M
theorem Fz.sI {M : Mem} {k j : Nat} {v : Int} (hf : fT k j = false) : Fz M (sI M k j v) := FzF.sI hf
theorem Fz.cp {M : Mem} {k q d s n : Nat} (hf : ∀ j, fT k j = false) : Fz M (cpI M k q d s n) := FzF.cp hf
theorem BF.w0_13 {fr : Nat → Nat → Bool} {A M : Mem} (h : BF fr A M) (hF : fr 0 13 = false) {v : Int} (h1 : 0 ≤ v) (h2 : v ≤ 300) : BF fr A (sI M 0 13 v) := h.of ((BX.start h.1).w0_13 h1 h2) (FzF.sI hF) (fun _ _ => rfl)
theorem BF.w0_14 {fr : Nat → Nat → Bool} {A M : Mem} (h : BF fr A M) (hF : fr 0 14 = false) {v : Int} : BF fr A (sI M 0 14 v) := h.of ((BX.start h.1).w0_14 ) (FzF.sI hF) (fun _ _ => rfl)
theorem BF.w0_15 {fr : Nat → Nat → Bool} {A M : Mem} (h : BF fr A M) (hF : fr 0 15 = false) {v : Int} : BF fr A (sI M 0 15 v) := h.of ((BX.start h.1).w0_15 ) (FzF.sI hF) (fun _ _ => rfl)
theorem BF.w1_6 {fr : Nat → Nat → Bool} {A M : Mem} (h : BF fr A M) (hF : fr 1 6 = false) {v : Int} (h1 : 0 ≤ v) (h2 : v ≤ 16) : BF fr A (sI M 1 6 v) := h.of ((BX.start h.1).w1_6 h1 h2) (FzF.sI hF) (fun _ _ => rfl)
theorem BF.w1_7 {fr : Nat → Nat → Bool} {A M : Mem} (h : BF fr A M) (hF : fr 1 7 = false) {v : Int} (h1 : (-1) ≤ v) (h2 : v ≤ 15) : BF fr A (sI M 1 7 v) := h.of ((BX.start h.1).w1_7 h1 h2) (FzF.sI hF) (fun _ _ => rfl)
theorem BF.w1_8 {fr : Nat → Nat → Bool} {A M : Mem} (h : BF fr A M) (hF : fr 1 8 = false) {v : Int} (h1 : 0 ≤ v) (h2 : v ≤ 6) : BF fr A (sI M 1 8 v) := h.of ((BX.start h.1).w1_8 h1 h2) (FzF.sI hF) (fun _ _ => rfl)
theorem BF.w1_9 {fr : Nat → Nat → Bool} {A M : Mem} (h : BF fr A M) (hF : fr 1 9 = false) {v : Int} (h1 : 0 ≤ v) (h2 : v ≤ 8) : BF fr A (sI M 1 9 v) := h.of ((BX.start h.1).w1_9 h1 h2) (FzF.sI hF) (fun _ _ => rfl)
theorem BF.w1_10 {fr : Nat → Nat → Bool} {A M : Mem} (h : BF fr A M) (hF : fr 1 10 = false) {v : Int} (h1 : 0 ≤ v) (h2 : v ≤ 4) : BF fr A (sI M 1 10 v) := h.of ((BX.start h.1).w1_10 h1 h2) (FzF.sI hF) (fun _ _ => rfl)
theorem BF.w1_11 {fr : Nat → Nat → Bool} {A M : Mem} (h : BF fr A M) (hF : fr 1 11 = false) {v : Int} : BF fr A (sI M 1 11 v) := h.of ((BX.start h.1).w1_11 ) (FzF.sI hF) (fun _ _ => rfl)
theorem BF.C2 {fr : Nat → Nat → Bool} {A M : Mem} (h : BF fr A M) (hF : ∀ i, fr 2 i = false) (f d s n : Nat) : BF fr A (cpI M 2 f d s n) := h.of ((BX.start h.1).C2 f d s n) (FzF.cp hF) (fun _ _ => rfl)
theorem BF.w2 {fr : Nat → Nat → Bool} {A M : Mem} (h : BF fr A M) (hF : ∀ i, fr 2 i = false) (j : Nat) {v : Int} : BF fr A (sI M 2 j v) := h.of ((BX.start h.1).w2 j) (FzF.sI (hF _)) (fun _ _ => rfl)
theorem BF.w3 {fr : Nat → Nat → Bool} {A M : Mem} (h : BF fr A M) (hF : ∀ i, fr 3 i = false) (j : Nat) {v : Int} (h1 : (-1) ≤ v) (h2 : v ≤ 15) : BF fr A (sI M 3 j v) := h.of ((BX.start h.1).w3 j h1 h2) (FzF.sI (hF _)) (fun _ _ => rfl)
theorem BF.C4 {fr : Nat → Nat → Bool} {A M : Mem} (h : BF fr A M) (hF : ∀ i, fr 4 i = false) (f d s n : Nat) : BF fr A (cpI M 4 f d s n) := h.of ((BX.start h.1).C4 f d s n) (FzF.cp hF) (fun _ _ => rfl)
theorem BF.w4 {fr : Nat → Nat → Bool} {A M : Mem} (h : BF fr A M) (hF : ∀ i, fr 4 i = false) (j : Nat) {v : Int} : BF fr A (sI M 4 j v) := h.of ((BX.start h.1).w4 j) (FzF.sI (hF _)) (fun _ _ => rfl)
theorem BF.C5 {fr : Nat → Nat → Bool} {A M : Mem} (h : BF fr A M) (hF : ∀ i, fr 5 i = false) (f d s n : Nat) : BF fr A (cpI M 5 f d s n) := h.of ((BX.start h.1).C5 f d s n) (FzF.cp hF) (fun _ _ => rfl)
theorem BF.w5 {fr : Nat → Nat → Bool} {A M : Mem} (h : BF fr A M) (hF : ∀ i, fr 5 i = false) (j : Nat) {v : Int} : BF fr A (sI M 5 j v) := h.of ((BX.start h.1).w5 j) (FzF.sI (hF _)) (fun _ _ => rfl)
theorem BF.C6 {fr : Nat → Nat → Bool} {A M : Mem} (h : BF fr A M) (hF : ∀ i, fr 6 i = false) (f d s n : Nat) : BF fr A (cpI M 6 f d s n) := h.of ((BX.start h.1).C6 f d s n) (FzF.cp hF) (fun _ _ => rfl)
theorem BF.w6 {fr : Nat → Nat → Bool} {A M : Mem} (h : BF fr A M) (hF : ∀ i, fr 6 i = false) (j : Nat) {v : Int} : BF fr A (sI M 6 j v) := h.of ((BX.start h.1).w6 j) (FzF.sI (hF _)) (fun _ _ => rfl)
theorem BF.w8_6 {fr : Nat → Nat → Bool} {A M : Mem} (h : BF fr A M) (hF : fr 8 6 = false) {v : Int} (h1 : 0 ≤ v) (h2 : v ≤ 16) : BF fr A (sI M 8 6 v) := h.of ((BX.start h.1).w8_6 h1 h2) (FzF.sI hF) (fun _ _ => rfl)
theorem BF.w8_7 {fr : Nat → Nat → Bool} {A M : Mem} (h : BF fr A M) (hF : fr 8 7 = false) {v : Int} (h1 : (-1) ≤ v) (h2 : v ≤ 15) : BF fr A (sI M 8 7 v) := h.of ((BX.start h.1).w8_7 h1 h2) (FzF.sI hF) (fun _ _ => rfl)
theorem BF.w8_8 {fr : Nat → Nat → Bool} {A M : Mem} (h : BF fr A M) (hF : fr 8 8 = false) {v : Int} (h1 : 0 ≤ v) (h2 : v ≤ 6) : BF fr A (sI M 8 8 v) := h.of ((BX.start h.1).w8_8 h1 h2) (FzF.sI hF) (fun _ _ => rfl)
theorem BF.w8_9 {fr : Nat → Nat → Bool} {A M : Mem} (h : BF fr A M) (hF : fr 8 9 = false) {v : Int} (h1 : 0 ≤ v) (h2 : v ≤ 8) : BF fr A (sI M 8 9 v) := h.of ((BX.start h.1).w8_9 h1 h2) (FzF.sI hF) (fun _ _ => rfl)
theorem BF.w8_10 {fr : Nat → Nat → Bool} {A M : Mem} (h : BF fr A M) (hF : fr 8 10 = false) {v : Int} (h1 : 0 ≤ v) (h2 : v ≤ 4) : BF fr A (sI M 8 10 v) := h.of ((BX.start h.1).w8_10 h1 h2) (FzF.sI hF) (fun _ _ => rfl)
theorem BF.w8_11 {fr : Nat → Nat → Bool} {A M : Mem} (h : BF fr A M) (hF : fr 8 11 = false) {v : Int} : BF fr A (sI M 8 11 v) := h.of ((BX.start h.1).w8_11 ) (FzF.sI hF) (fun _ _ => rfl)
theorem BF.C9 {fr : Nat → Nat → Bool} {A M : Mem} (h : BF fr A M) (hF : ∀ i, fr 9 i = false) (f d s n : Nat) : BF fr A (cpI M 9 f d s n) := h.of ((BX.start h.1).C9 f d s n) (FzF.cp hF) (fun _ _ => rfl)
theorem BF.w9 {fr : Nat → Nat → Bool} {A M : Mem} (h : BF fr A M) (hF : ∀ i, fr 9 i = false) (j : Nat) {v : Int} : BF fr A (sI M 9 j v) := h.of ((BX.start h.1).w9 j) (FzF.sI (hF _)) (fun _ _ => rfl)
theorem BF.C11 {fr : Nat → Nat → Bool} {A M : Mem} (h : BF fr A M) (hF : ∀ i, fr 11 i = false) (f d s n : Nat) : BF fr A (cpI M 11 f d s n) := h.of ((BX.start h.1).C11 f d s n) (FzF.cp hF) (fun _ _ => rfl)
theorem BF.C12 {fr : Nat → Nat → Bool} {A M : Mem} (h : BF fr A M) (hF : ∀ i, fr 12 i = false) (f d s n : Nat) : BF fr A (cpI M 12 f d s n) := h.of ((BX.start h.1).C12 f d s n) (FzF.cp hF) (fun _ _ => rfl)
theorem BF.C13 {fr : Nat → Nat → Bool} {A M : Mem} (h : BF fr A M) (hF : ∀ i, fr 13 i = false) (f d s n : Nat) : BF fr A (cpI M 13 f d s n) := h.of ((BX.start h.1).C13 f d s n) (FzF.cp hF) (fun _ _ => rfl)
theorem BF.w15_2 {fr : Nat → Nat → Bool} {A M : Mem} (h : BF fr A M) (hF : fr 15 2 = false) {v : Int} (h1 : 0 ≤ v) (h2 : v ≤ 30) : BF fr A (sI M 15 2 v) := h.of ((BX.start h.1).w15_2 h1 h2) (FzF.sI hF) (fun _ _ => rfl)
theorem BF.w15_3 {fr : Nat → Nat → Bool} {A M : Mem} (h : BF fr A M) (hF : fr 15 3 = false) {v : Int} (h1 : 0 ≤ v) (h2 : v ≤ 29) : BF fr A (sI M 15 3 v) := h.of ((BX.start h.1).w15_3 h1 h2) (FzF.sI hF) (fun _ _ => rfl)
theorem BF.C16 {fr : Nat → Nat → Bool} {A M : Mem} (h : BF fr A M) (hF : ∀ i, fr 16 i = false) (f d s n : Nat) : BF fr A (cpI M 16 f d s n) := h.of ((BX.start h.1).C16 f d s n) (FzF.cp hF) (fun _ _ => rfl)
theorem BF.w16 {fr : Nat → Nat → Bool} {A M : Mem} (h : BF fr A M) (hF : ∀ i, fr 16 i = false) (j : Nat) {v : Int} : BF fr A (sI M 16 j v) := h.of ((BX.start h.1).w16 j) (FzF.sI (hF _)) (fun _ _ => rfl)
theorem BF.C17 {fr : Nat → Nat → Bool} {A M : Mem} (h : BF fr A M) (hF : ∀ i, fr 17 i = false) (f d s n : Nat) : BF fr A (cpI M 17 f d s n) := h.of ((BX.start h.1).C17 f d s n) (FzF.cp hF) (fun _ _ => rfl)
theorem BF.w18_2 {fr : Nat → Nat → Bool} {A M : Mem} (h : BF fr A M) (hF : fr 18 2 = false) {v : Int} (h1 : 0 ≤ v) (h2 : v ≤ 30) : BF fr A (sI M 18 2 v) := h.of ((BX.start h.1).w18_2 h1 h2) (FzF.sI hF) (fun _ _ => rfl)
theorem BF.w18_3 {fr : Nat → Nat → Bool} {A M : Mem} (h : BF fr A M) (hF : fr 18 3 = false) {v : Int} (h1 : 0 ≤ v) (h2 : v ≤ 29) : BF fr A (sI M 18 3 v) := h.of ((BX.start h.1).w18_3 h1 h2) (FzF.sI hF) (fun _ _ => rfl)
theorem BF.C19 {fr : Nat → Nat → Bool} {A M : Mem} (h : BF fr A M) (hF : ∀ i, fr 19 i = false) (f d s n : Nat) : BF fr A (cpI M 19 f d s n) := h.of ((BX.start h.1).C19 f d s n) (FzF.cp hF) (fun _ _ => rfl)
theorem BF.C20 {fr : Nat → Nat → Bool} {A M : Mem} (h : BF fr A M) (hF : ∀ i, fr 20 i = false) (f d s n : Nat) : BF fr A (cpI M 20 f d s n) := h.of ((BX.start h.1).C20 f d s n) (FzF.cp hF) (fun _ _ => rfl)
theorem BF.w21 {fr : Nat → Nat → Bool} {A M : Mem} (h : BF fr A M) (hF : ∀ i, fr 21 i = false) (j : Nat) {v : Int} : BF fr A (sI M 21 j v) := h.of ((BX.start h.1).w21 j) (FzF.sI (hF _)) (fun _ _ => rfl)
theorem BF.w22_7 {fr : Nat → Nat → Bool} {A M : Mem} (h : BF fr A M) (hF : fr 22 7 = false) {v : Int} : BF fr A (sI M 22 7 v) := h.of ((BX.start h.1).w22_7 ) (FzF.sI hF) (fun _ _ => rfl)
theorem BF.w22_8 {fr : Nat → Nat → Bool} {A M : Mem} (h : BF fr A M) (hF : fr 22 8 = false) {v : Int} : BF fr A (sI M 22 8 v) := h.of ((BX.start h.1).w22_8 ) (FzF.sI hF) (fun _ _ => rfl)
theorem BF.w22_9 {fr : Nat → Nat → Bool} {A M : Mem} (h : BF fr A M) (hF : fr 22 9 = false) {v : Int} (h1 : (-1) ≤ v) (h2 : v ≤ 300) : BF fr A (sI M 22 9 v) := h.of ((BX.start h.1).w22_9 h1 h2) (FzF.sI hF) (fun _ _ => rfl)
theorem BF.w22_10 {fr : Nat → Nat → Bool} {A M : Mem} (h : BF fr A M) (hF : fr 22 10 = false) {v : Int} : BF fr A (sI M 22 10 v) := h.of ((BX.start h.1).w22_10 ) (FzF.sI hF) (fun _ _ => rfl)
theorem BF.w22_11 {fr : Nat → Nat → Bool} {A M : Mem} (h : BF fr A M) (hF : fr 22 11 = false) {v : Int} : BF fr A (sI M 22 11 v) := h.of ((BX.start h.1).w22_11 ) (FzF.sI hF) (fun _ _ => rfl)
theorem BF.w22_12 {fr : Nat → Nat → Bool} {A M : Mem} (h : BF fr A M) (hF : fr 22 12 = false) {v : Int} (h1 : 0 ≤ v) (h2 : v ≤ 300) : BF fr A (sI M 22 12 v) := h.of ((BX.start h.1).w22_12 h1 h2) (FzF.sI hF) (fun _ _ => rfl)
theorem BF.w22_13 {fr : Nat → Nat → Bool} {A M : Mem} (h : BF fr A M) (hF : fr 22 13 = false) {v : Int} (h1 : 0 ≤ v) (h2 : v ≤ 24) : BF fr A (sI M 22 13 v) := h.of ((BX.start h.1).w22_13 h1 h2) (FzF.sI hF) (fun _ _ => rfl)
theorem BF.w22_14 {fr : Nat → Nat → Bool} {A M : Mem} (h : BF fr A M) (hF : fr 22 14 = false) {v : Int} : BF fr A (sI M 22 14 v) := h.of ((BX.start h.1).w22_14 ) (FzF.sI hF) (fun _ _ => rfl)
theorem BF.w23 {fr : Nat → Nat → Bool} {A M : Mem} (h : BF fr A M) (hF : ∀ i, fr 23 i = false) (j : Nat) {v : Int} : BF fr A (sI M 23 j v) := h.of ((BX.start h.1).w23 j) (FzF.sI (hF _)) (fun _ _ => rfl)
theorem BF.w24 {fr : Nat → Nat → Bool} {A M : Mem} (h : BF fr A M) (hF : ∀ i, fr 24 i = false) (j : Nat) {v : Int} (h1 : (-1) ≤ v) (h2 : v ≤ 300) : BF fr A (sI M 24 j v) := h.of ((BX.start h.1).w24 j h1 h2) (FzF.sI (hF _)) (fun _ _ => rfl)
theorem BF.w25 {fr : Nat → Nat → Bool} {A M : Mem} (h : BF fr A M) (hF : ∀ i, fr 25 i = false) (j : Nat) {v : Int} : BF fr A (sI M 25 j v) := h.of ((BX.start h.1).w25 j) (FzF.sI (hF _)) (fun _ _ => rfl)
theorem BF.w26 {fr : Nat → Nat → Bool} {A M : Mem} (h : BF fr A M) (hF : ∀ i, fr 26 i = false) (j : Nat) {v : Int} : BF fr A (sI M 26 j v) := h.of ((BX.start h.1).w26 j) (FzF.sI (hF _)) (fun _ _ => rfl)
theorem BF.w27 {fr : Nat → Nat → Bool} {A M : Mem} (h : BF fr A M) (hF : ∀ i, fr 27 i = false) (j : Nat) {v : Int} : BF fr A (sI M 27 j v) := h.of ((BX.start h.1).w27 j) (FzF.sI (hF _)) (fun _ _ => rfl)
theorem BF.w28 {fr : Nat → Nat → Bool} {A M : Mem} (h : BF fr A M) (hF : ∀ i, fr 28 i = false) (j : Nat) {v : Int} : BF fr A (sI M 28 j v) := h.of ((BX.start h.1).w28 j) (FzF.sI (hF _)) (fun _ _ => rfl)
theorem BF.w30 {fr : Nat → Nat → Bool} {A M : Mem} (h : BF fr A M) (hF : ∀ i, fr 30 i = false) (j : Nat) {v : Int} : BF fr A (sI M 30 j v) := h.of ((BX.start h.1).w30 j) (FzF.sI (hF _)) (fun _ _ => rfl)
theorem BF.w31 {fr : Nat → Nat → Bool} {A M : Mem} (h : BF fr A M) (hF : ∀ i, fr 31 i = false) (j : Nat) {v : Int} : BF fr A (sI M 31 j v) := h.of ((BX.start h.1).w31 j) (FzF.sI (hF _)) (fun _ _ => rfl)
theorem BF.w32_2 {fr : Nat → Nat → Bool} {A M : Mem} (h : BF fr A M) (hF : fr 32 2 = false) {v : Int} : BF fr A (sI M 32 2 v) := h.of ((BX.start h.1).w32_2 ) (FzF.sI hF) (fun _ _ => rfl)
theorem BF.w32_3 {fr : Nat → Nat → Bool} {A M : Mem} (h : BF fr A M) (hF : fr 32 3 = false) {v : Int} : BF fr A (sI M 32 3 v) := h.of ((BX.start h.1).w32_3 ) (FzF.sI hF) (fun _ _ => rfl)
theorem BF.w32_4 {fr : Nat → Nat → Bool} {A M : Mem} (h : BF fr A M) (hF : fr 32 4 = false) {v : Int} (h1 : 0 ≤ v) (h2 : v ≤ 40) : BF fr A (sI M 32 4 v) := h.of ((BX.start h.1).w32_4 h1 h2) (FzF.sI hF) (fun _ _ => rfl)
theorem BF.w33 {fr : Nat → Nat → Bool} {A M : Mem} (h : BF fr A M) (hF : ∀ i, fr 33 i = false) (j : Nat) {v : Int} : BF fr A (sI M 33 j v) := h.of ((BX.start h.1).w33 j) (FzF.sI (hF _)) (fun _ _ => rfl)
theorem BF.w36 {fr : Nat → Nat → Bool} {A M : Mem} (h : BF fr A M) (hF : ∀ i, fr 36 i = false) (j : Nat) {v : Int} : BF fr A (sI M 36 j v) := h.of ((BX.start h.1).w36 j) (FzF.sI (hF _)) (fun _ _ => rfl)
theorem BF.w37 {fr : Nat → Nat → Bool} {A M : Mem} (h : BF fr A M) (hF : ∀ i, fr 37 i = false) (j : Nat) {v : Int} : BF fr A (sI M 37 j v) := h.of ((BX.start h.1).w37 j) (FzF.sI (hF _)) (fun _ _ => rfl)
theorem BF.w38 {fr : Nat → Nat → Bool} {A M : Mem} (h : BF fr A M) (hF : ∀ i, fr 38 i = false) (j : Nat) {v : Int} : BF fr A (sI M 38 j v) := h.of ((BX.start h.1).w38 j) (FzF.sI (hF _)) (fun _ _ => rfl)
theorem BF.w40_9 {fr : Nat → Nat → Bool} {A M : Mem} (h : BF fr A M) (hF : fr 40 9 = false) {v : Int} (h1 : 0 ≤ v) (h2 : v ≤ 5) : BF fr A (sI M 40 9 v) := h.of ((BX.start h.1).w40_9 h1 h2) (FzF.sI hF) (fun _ _ => rfl)
theorem BF.w41 {fr : Nat → Nat → Bool} {A M : Mem} (h : BF fr A M) (hF : ∀ i, fr 41 i = false) (j : Nat) {v : Int} : BF fr A (sI M 41 j v) := h.of ((BX.start h.1).w41 j) (FzF.sI (hF _)) (fun _ _ => rfl)
theorem BF.w42 {fr : Nat → Nat → Bool} {A M : Mem} (h : BF fr A M) (hF : ∀ i, fr 42 i = false) (j : Nat) {v : Int} : BF fr A (sI M 42 j v) := h.of ((BX.start h.1).w42 j) (FzF.sI (hF _)) (fun _ _ => rfl)
theorem BF.w43 {fr : Nat → Nat → Bool} {A M : Mem} (h : BF fr A M) (hF : ∀ i, fr 43 i = false) (j : Nat) {v : Int} (h1 : 0 ≤ v) (h2 : v ≤ 15) : BF fr A (sI M 43 j v) := h.of ((BX.start h.1).w43 j h1 h2) (FzF.sI (hF _)) (fun _ _ => rfl)
theorem BF.w44 {fr : Nat → Nat → Bool} {A M : Mem} (h : BF fr A M) (hF : ∀ i, fr 44 i = false) (j : Nat) {v : Int} : BF fr A (sI M 44 j v) := h.of ((BX.start h.1).w44 j) (FzF.sI (hF _)) (fun _ _ => rfl)
theorem BF.C45 {fr : Nat → Nat → Bool} {A M : Mem} (h : BF fr A M) (hF : ∀ i, fr 45 i = false) (f d s n : Nat) : BF fr A (cpI M 45 f d s n) := h.of ((BX.start h.1).C45 f d s n) (FzF.cp hF) (fun _ _ => rfl)
theorem BF.w47 {fr : Nat → Nat → Bool} {A M : Mem} (h : BF fr A M) (hF : ∀ i, fr 47 i = false) (j : Nat) {v : Int} : BF fr A (sI M 47 j v) := h.of ((BX.start h.1).w47 j) (FzF.sI (hF _)) (fun _ _ => rfl)
theorem BF.w48 {fr : Nat → Nat → Bool} {A M : Mem} (h : BF fr A M) (hF : ∀ i, fr 48 i = false) (j : Nat) {v : Int} : BF fr A (sI M 48 j v) := h.of ((BX.start h.1).w48 j) (FzF.sI (hF _)) (fun _ _ => rfl)
theorem BF.w49 {fr : Nat → Nat → Bool} {A M : Mem} (h : BF fr A M) (hF : ∀ i, fr 49 i = false) (j : Nat) {v : Int} : BF fr A (sI M 49 j v) := h.of ((BX.start h.1).w49 j) (FzF.sI (hF _)) (fun _ _ => rfl)
theorem BF.w50_4 {fr : Nat → Nat → Bool} {A M : Mem} (h : BF fr A M) (hF : fr 50 4 = false) {v : Int} : BF fr A (sI M 50 4 v) := h.of ((BX.start h.1).w50_4 ) (FzF.sI hF) (fun _ _ => rfl)
theorem BF.w51 {fr : Nat → Nat → Bool} {A M : Mem} (h : BF fr A M) (hF : ∀ i, fr 51 i = false) (j : Nat) {v : Int} : BF fr A (sI M 51 j v) := h.of ((BX.start h.1).w51 j) (FzF.sI (hF _)) (fun _ _ => rfl)
theorem BF.w52 {fr : Nat → Nat → Bool} {A M : Mem} (h : BF fr A M) (hF : ∀ i, fr 52 i = false) (j : Nat) {v : Int} (h1 : 0 ≤ v) (h2 : v ≤ 63) : BF fr A (sI M 52 j v) := h.of ((BX.start h.1).w52 j h1 h2) (FzF.sI (hF _)) (fun _ _ => rfl)
theorem BF.w53 {fr : Nat → Nat → Bool} {A M : Mem} (h : BF fr A M) (hF : ∀ i, fr 53 i = false) (j : Nat) {v : Int} (h1 : 0 ≤ v) (h2 : v ≤ 63) : BF fr A (sI M 53 j v) := h.of ((BX.start h.1).w53 j h1 h2) (FzF.sI (hF _)) (fun _ _ => rfl)
theorem BF.w54_4 {fr : Nat → Nat → Bool} {A M : Mem} (h : BF fr A M) (hF : fr 54 4 = false) {v : Int} (h1 : 0 ≤ v) (h2 : v ≤ 6) : BF fr A (sI M 54 4 v) := h.of ((BX.start h.1).w54_4 h1 h2) (FzF.sI hF) (fun _ _ => rfl)
theorem BF.w54_6 {fr : Nat → Nat → Bool} {A M : Mem} (h : BF fr A M) (hF : fr 54 6 = false) {v : Int} (h1 : 0 ≤ v) (h2 : v ≤ 300) : BF fr A (sI M 54 6 v) := h.of ((BX.start h.1).w54_6 h1 h2) (FzF.sI hF) (fun _ _ => rfl)
theorem BF.w54_7 {fr : Nat → Nat → Bool} {A M : Mem} (h : BF fr A M) (hF : fr 54 7 = false) {v : Int} : BF fr A (sI M 54 7 v) := h.of ((BX.start h.1).w54_7 ) (FzF.sI hF) (fun _ _ => rfl)
theorem BF.w54_8 {fr : Nat → Nat → Bool} {A M : Mem} (h : BF fr A M) (hF : fr 54 8 = false) {v : Int} : BF fr A (sI M 54 8 v) := h.of ((BX.start h.1).w54_8 ) (FzF.sI hF) (fun _ _ => rfl)
theorem BF.w54_9 {fr : Nat → Nat → Bool} {A M : Mem} (h : BF fr A M) (hF : fr 54 9 = false) {v : Int} (h1 : 0 ≤ v) (h2 : v ≤ 300) : BF fr A (sI M 54 9 v) := h.of ((BX.start h.1).w54_9 h1 h2) (FzF.sI hF) (fun _ _ => rfl)
theorem BF.w54_10 {fr : Nat → Nat → Bool} {A M : Mem} (h : BF fr A M) (hF : fr 54 10 = false) {v : Int} (h1 : 0 ≤ v) (h2 : v ≤ 300) : BF fr A (sI M 54 10 v) := h.of ((BX.start h.1).w54_10 h1 h2) (FzF.sI hF) (fun _ _ => rfl)
theorem BF.w54_11 {fr : Nat → Nat → Bool} {A M : Mem} (h : BF fr A M) (hF : fr 54 11 = false) {v : Int} : BF fr A (sI M 54 11 v) := h.of ((BX.start h.1).w54_11 ) (FzF.sI hF) (fun _ _ => rfl)
theorem BF.w54_12 {fr : Nat → Nat → Bool} {A M : Mem} (h : BF fr A M) (hF : fr 54 12 = false) {v : Int} : BF fr A (sI M 54 12 v) := h.of ((BX.start h.1).w54_12 ) (FzF.sI hF) (fun _ _ => rfl)
theorem BF.w54_14 {fr : Nat → Nat → Bool} {A M : Mem} (h : BF fr A M) (hF : fr 54 14 = false) {v : Int} (h1 : 0 ≤ v) (h2 : v ≤ 2619) : BF fr A (sI M 54 14 v) := h.of ((BX.start h.1).w54_14 h1 h2) (FzF.sI hF) (fun _ _ => rfl)
theorem BF.w54_15 {fr : Nat → Nat → Bool} {A M : Mem} (h : BF fr A M) (hF : fr 54 15 = false) {v : Int} (h1 : 0 ≤ v) (h2 : v ≤ 300) : BF fr A (sI M 54 15 v) := h.of ((BX.start h.1).w54_15 h1 h2) (FzF.sI hF) (fun _ _ => rfl)
theorem BF.w54_16 {fr : Nat → Nat → Bool} {A M : Mem} (h : BF fr A M) (hF : fr 54 16 = false) {v : Int} : BF fr A (sI M 54 16 v) := h.of ((BX.start h.1).w54_16 ) (FzF.sI hF) (fun _ _ => rfl)
theorem BF.w54_18 {fr : Nat → Nat → Bool} {A M : Mem} (h : BF fr A M) (hF : fr 54 18 = false) {v : Int} (h1 : 0 ≤ v) (h2 : v ≤ 160) : BF fr A (sI M 54 18 v) := h.of ((BX.start h.1).w54_18 h1 h2) (FzF.sI hF) (fun _ _ => rfl)
theorem BF.w54_19 {fr : Nat → Nat → Bool} {A M : Mem} (h : BF fr A M) (hF : fr 54 19 = false) {v : Int} : BF fr A (sI M 54 19 v) := h.of ((BX.start h.1).w54_19 ) (FzF.sI hF) (fun _ _ => rfl)
theorem BF.w54_20 {fr : Nat → Nat → Bool} {A M : Mem} (h : BF fr A M) (hF : fr 54 20 = false) {v : Int} : BF fr A (sI M 54 20 v) := h.of ((BX.start h.1).w54_20 ) (FzF.sI hF) (fun _ _ => rfl)
theorem BF.w54_21 {fr : Nat → Nat → Bool} {A M : Mem} (h : BF fr A M) (hF : fr 54 21 = false) {v : Int} : BF fr A (sI M 54 21 v) := h.of ((BX.start h.1).w54_21 ) (FzF.sI hF) (fun _ _ => rfl)
theorem BF.w54_24 {fr : Nat → Nat → Bool} {A M : Mem} (h : BF fr A M) (hF : fr 54 24 = false) {v : Int} (h1 : 0 ≤ v) (h2 : v ≤ 15) : BF fr A (sI M 54 24 v) := h.of ((BX.start h.1).w54_24 h1 h2) (FzF.sI hF) (fun _ _ => rfl)
theorem BF.w54_25 {fr : Nat → Nat → Bool} {A M : Mem} (h : BF fr A M) (hF : fr 54 25 = false) {v : Int} (h1 : 0 ≤ v) (h2 : v ≤ 3) : BF fr A (sI M 54 25 v) := h.of ((BX.start h.1).w54_25 h1 h2) (FzF.sI hF) (fun _ _ => rfl)
theorem BF.w54_26 {fr : Nat → Nat → Bool} {A M : Mem} (h : BF fr A M) (hF : fr 54 26 = false) {v : Int} : BF fr A (sI M 54 26 v) := h.of ((BX.start h.1).w54_26 ) (FzF.sI hF) (fun _ _ => rfl)
theorem BF.w54_27 {fr : Nat → Nat → Bool} {A M : Mem} (h : BF fr A M) (hF : fr 54 27 = false) {v : Int} (h1 : 0 ≤ v) (h2 : v ≤ 40) : BF fr A (sI M 54 27 v) := h.of ((BX.start h.1).w54_27 h1 h2) (FzF.sI hF) (fun _ _ => rfl)
theorem BF.w54_28 {fr : Nat → Nat → Bool} {A M : Mem} (h : BF fr A M) (hF : fr 54 28 = false) {v : Int} : BF fr A (sI M 54 28 v) := h.of ((BX.start h.1).w54_28 ) (FzF.sI hF) (fun _ _ => rfl)
theorem BF.w54_29 {fr : Nat → Nat → Bool} {A M : Mem} (h : BF fr A M) (hF : fr 54 29 = false) {v : Int} : BF fr A (sI M 54 29 v) := h.of ((BX.start h.1).w54_29 ) (FzF.sI hF) (fun _ _ => rfl)
theorem BF.w54_30 {fr : Nat → Nat → Bool} {A M : Mem} (h : BF fr A M) (hF : fr 54 30 = false) {v : Int} : BF fr A (sI M 54 30 v) := h.of ((BX.start h.1).w54_30 ) (FzF.sI hF) (fun _ _ => rfl)
theorem BF.w54_32 {fr : Nat → Nat → Bool} {A M : Mem} (h : BF fr A M) (hF : fr 54 32 = false) {v : Int} (h1 : 0 ≤ v) (h2 : v ≤ 6) : BF fr A (sI M 54 32 v) := h.of ((BX.start h.1).w54_32 h1 h2) (FzF.sI hF) (fun _ _ => rfl)
theorem BF.w54_43 {fr : Nat → Nat → Bool} {A M : Mem} (h : BF fr A M) (hF : fr 54 43 = false) {v : Int} (h1 : 0 ≤ v) (h2 : v ≤ 5) : BF fr A (sI M 54 43 v) := h.of ((BX.start h.1).w54_43 h1 h2) (FzF.sI hF) (fun _ _ => rfl)
theorem BF.w58 {fr : Nat → Nat → Bool} {A M : Mem} (h : BF fr A M) (hF : ∀ i, fr 58 i = false) (j : Nat) {v : Int} : BF fr A (sI M 58 j v) := h.of ((BX.start h.1).w58 j) (FzF.sI (hF _)) (fun _ _ => rfl)
theorem BF.w59 {fr : Nat → Nat → Bool} {A M : Mem} (h : BF fr A M) (hF : ∀ i, fr 59 i = false) (j : Nat) {v : Int} : BF fr A (sI M 59 j v) := h.of ((BX.start h.1).w59 j) (FzF.sI (hF _)) (fun _ _ => rfl)
theorem BF.w60 {fr : Nat → Nat → Bool} {A M : Mem} (h : BF fr A M) (hF : ∀ i, fr 60 i = false) (j : Nat) {v : Int} : BF fr A (sI M 60 j v) := h.of ((BX.start h.1).w60 j) (FzF.sI (hF _)) (fun _ _ => rfl)
theorem BF.w61 {fr : Nat → Nat → Bool} {A M : Mem} (h : BF fr A M) (hF : ∀ i, fr 61 i = false) (j : Nat) {v : Int} : BF fr A (sI M 61 j v) := h.of ((BX.start h.1).w61 j) (FzF.sI (hF _)) (fun _ _ => rfl)
theorem BF.w63 {fr : Nat → Nat → Bool} {A M : Mem} (h : BF fr A M) (hF : ∀ i, fr 63 i = false) (j : Nat) {v : Int} : BF fr A (sI M 63 j v) := h.of ((BX.start h.1).w63 j) (FzF.sI (hF _)) (fun _ _ => rfl)
theorem BF.w64 {fr : Nat → Nat → Bool} {A M : Mem} (h : BF fr A M) (hF : ∀ i, fr 64 i = false) (j : Nat) {v : Int} : BF fr A (sI M 64 j v) := h.of ((BX.start h.1).w64 j) (FzF.sI (hF _)) (fun _ _ => rfl)
theorem BF.w65 {fr : Nat → Nat → Bool} {A M : Mem} (h : BF fr A M) (hF : ∀ i, fr 65 i = false) (j : Nat) {v : Int} : BF fr A (sI M 65 j v) := h.of ((BX.start h.1).w65 j) (FzF.sI (hF _)) (fun _ _ => rfl)
theorem BF.w67 {fr : Nat → Nat → Bool} {A M : Mem} (h : BF fr A M) (hF : ∀ i, fr 67 i = false) (j : Nat) {v : Int} : BF fr A (sI M 67 j v) := h.of ((BX.start h.1).w67 j) (FzF.sI (hF _)) (fun _ _ => rfl)
theorem BF.w68 {fr : Nat → Nat → Bool} {A M : Mem} (h : BF fr A M) (hF : ∀ i, fr 68 i = false) (j : Nat) {v : Int} : BF fr A (sI M 68 j v) := h.of ((BX.start h.1).w68 j) (FzF.sI (hF _)) (fun _ _ => rfl)
theorem BF.w69 {fr : Nat → Nat → Bool} {A M : Mem} (h : BF fr A M) (hF : ∀ i, fr 69 i = false) (j : Nat) {v : Int} : BF fr A (sI M 69 j v) := h.of ((BX.start h.1).w69 j) (FzF.sI (hF _)) (fun _ _ => rfl)
theorem BF.w70 {fr : Nat → Nat → Bool} {A M : Mem} (h : BF fr A M) (hF : ∀ i, fr 70 i = false) (j : Nat) {v : Int} (h1 : 0 ≤ v) (h2 : v ≤ 15) : BF fr A (sI M 70 j v) := h.of ((BX.start h.1).w70 j h1 h2) (FzF.sI (hF _)) (fun _ _ => rfl)
theorem BF.w71 {fr : Nat → Nat → Bool} {A M : Mem} (h : BF fr A M) (hF : ∀ i, fr 71 i = false) (j : Nat) {v : Int} (h1 : 0 ≤ v) (h2 : v ≤ 4) : BF fr A (sI M 71 j v) := h.of ((BX.start h.1).w71 j h1 h2) (FzF.sI (hF _)) (fun _ _ => rfl)
theorem BF.w72 {fr : Nat → Nat → Bool} {A M : Mem} (h : BF fr A M) (hF : ∀ i, fr 72 i = false) (j : Nat) {v : Int} (h1 : 0 ≤ v) (h2 : v ≤ 4) : BF fr A (sI M 72 j v) := h.of ((BX.start h.1).w72 j h1 h2) (FzF.sI (hF _)) (fun _ _ => rfl)
theorem BF.w73 {fr : Nat → Nat → Bool} {A M : Mem} (h : BF fr A M) (hF : ∀ i, fr 73 i = false) (j : Nat) {v : Int} : BF fr A (sI M 73 j v) := h.of ((BX.start h.1).w73 j) (FzF.sI (hF _)) (fun _ _ => rfl)
theorem BF.w74 {fr : Nat → Nat → Bool} {A M : Mem} (h : BF fr A M) (hF : ∀ i, fr 74 i = false) (j : Nat) {v : Int} (h1 : (-1) ≤ v) (h2 : v ≤ 3) : BF fr A (sI M 74 j v) := h.of ((BX.start h.1).w74 j h1 h2) (FzF.sI (hF _)) (fun _ _ => rfl)
theorem BF.C3 {fr : Nat → Nat → Bool} {A M : Mem} (h : BF fr A M) (hF : ∀ i, fr 3 i = false) (f d s n : Nat) (hf : f = 10) : BF fr A (cpI M 3 f d s n) := h.of ((BX.start h.1).C3 f d s n hf) (FzF.cp hF) (fun _ _ => rfl)
theorem BF.C10 {fr : Nat → Nat → Bool} {A M : Mem} (h : BF fr A M) (hF : ∀ i, fr 10 i = false) (f d s n : Nat) (hf : f = 3) : BF fr A (cpI M 10 f d s n) := h.of ((BX.start h.1).C10 f d s n hf) (FzF.cp hF) (fun _ _ => rfl)
theorem BF.a {f : Nat → Nat → Bool} {A M : Mem} (h : BF f A M) {x v : Int} (h0 : 0 ≤ x) (h9 : x < 589) (hv : aB x.toNat v) (n0 : x ≠ 0) (n3 : x ≠ 3) (n5 : x ≠ 5) (n6 : x ≠ 6) (ns : x < 10 ∨ 154 ≤ x ∨ (x - 10) % 9 = 0 ∨ 5 ≤ (x - 10) % 9) (nc : x < 184 ∨ 256 ≤ x ∨ (x - 184) % 9 ≠ 2) (hf : ∀ i, i ≠ 5 → f 55 i = false) : BF f A (sI M 55 x.toNat v) := h.of ((BX.start h.1).a h0 h9 hv n0 n3 n5 n6 ns nc) (FzF.sI (hf _ (by omega))) (fun _ _ => rfl)

