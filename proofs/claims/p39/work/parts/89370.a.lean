/-! THE REFERENCE'S SUMS against the spec -/
def SI0 (M : Mem) (s : List Int) : Prop := s = stk (mI M 60) (mI M 54 18).toNat ∧ OM (mI M 60) (mI M 54 18).toNat
def SJ (M : Mem) (s : List Int) : Prop := SI0 M s ∧ (mI M 54 20 = 1 → mI M 54 18 = 0 ∨ mI M 60 (mI M 54 18 - 1).toNat ≠ 2)
theorem SI0.same {M N : Mem} {s : List Int} (h : SI0 M s) (e60 : mI N 60 = mI M 60) (e18 : mI N 54 18 = mI M 54 18) : SI0 N s := by
  unfold SI0
  rw [e60, e18]
  exact h
theorem SJ.same {M N : Mem} {s : List Int} (h : SJ M s) (e60 : mI N 60 = mI M 60) (e18 : mI N 54 18 = mI M 54 18) (e20 : mI N 54 20 = mI M 54 20) : SJ N s := by
  unfold SJ SI0
  rw [e60, e18, e20]
  exact h
theorem PI.pl {M : Mem} {S : Int} (h : PI M S) : plO (mI M 60) (mI M 54 18).toNat := h.2.2.2.2.2.2.1
theorem SI0.len {M : Mem} {S : Int} {s : List Int} (h : SI0 M s) (hp : PI M S) : (s.length : Int) = mI M 54 19 := by
  rw [h.1, stk_len _ hp.pl]
  exact hp.2.2.2.2.2.2.2.1.symm
/-- one to shut more -/
theorem SJ.push {M N : Mem} {s : List Int} {o : Int} (h : SI0 M s) (h0 : 0 ≤ mI M 54 18) (e60 : mI N 60 = mI (sI M 60 (mI M 54 18).toNat o) 60) (e18 : mI N 54 18 = mI M 54 18 + 1) (e20 : mI N 54 20 = 0) (ho : o = 2 ∨ o = 40 ∨ o = 41 ∨ o = 43) : SJ N ((if o = 43 then 41 else o) :: s) := by
  have hs : ∀ q, q < (mI M 54 18).toNat → mI (sI M 60 (mI M 54 18).toNat o) 60 q = mI M 60 q := fun q hq => by rw [mI_sI, if_neg (fun e => by omega)]
  refine ⟨⟨?_, ?_⟩, fun e => by omega⟩
  · have e1 : stk (mI N 60) (mI N 54 18).toNat = (if o = 43 then 41 else if o = 44 then 42 else o) :: s := by
      rw [e60, e18, show (mI M 54 18 + 1).toNat = (mI M 54 18).toNat + 1 by omega, stk, mI_same, if_neg (by omega), stk_co _ hs, ← h.1]
    rw [e1]
    by_cases e : o = 43
    · rw [if_pos e, if_pos e]
    · rw [if_neg e, if_neg e, if_neg (by omega)]
  · rw [e60, e18, show (mI M 54 18 + 1).toNat = (mI M 54 18).toNat + 1 by omega]
    intro j a b c
    by_cases e : j + 1 = (mI M 54 18).toNat
    · rw [e, mI_same] at b c
      omega
    · rw [hs _ (by omega)] at b c
      rw [hs _ (by omega)]
      exact h.2 j (by omega) b c
/-- one that waits more -/
theorem SJ.wait {M N : Mem} {s : List Int} {o : Int} (h : SI0 M s) (h0 : 0 ≤ mI M 54 18) (ht : mI M 54 18 = 0 ∨ mI M 60 (mI M 54 18 - 1).toNat ≠ 2) (e60 : mI N 60 = mI (sI M 60 (mI M 54 18).toNat o) 60) (e18 : mI N 54 18 = mI M 54 18 + 1) (e20 : mI N 54 20 = 0) (ho : 3 ≤ o ∧ o ≤ 6) : SJ N s := by
  have hs : ∀ q, q < (mI M 54 18).toNat → mI (sI M 60 (mI M 54 18).toNat o) 60 q = mI M 60 q := fun q hq => by rw [mI_sI, if_neg (fun e => by omega)]
  refine ⟨⟨?_, ?_⟩, fun e => by omega⟩
  · rw [e60, e18, show (mI M 54 18 + 1).toNat = (mI M 54 18).toNat + 1 by omega, stk, mI_same, if_pos ho, stk_co _ hs]
    exact h.1
  · rw [e60, e18, show (mI M 54 18 + 1).toNat = (mI M 54 18).toNat + 1 by omega]
    intro j a b c
    by_cases e : j + 1 = (mI M 54 18).toNat
    · rw [hs _ (by omega)]
      rcases ht with z | z
      · omega
      · rw [show (mI M 54 18 - 1).toNat = j by omega] at z
        exact z
    · rw [hs _ (by omega)] at b c
      rw [hs _ (by omega)]
      exact h.2 j (by omega) b c
theorem rk_3 {o : Int} (h : 3 ≤ rkI o) : o = 2 := by
  unfold rkI at h
  by_cases a : 40 ≤ o
  · rw [if_pos a] at h; omega
  · rw [if_neg a] at h
    by_cases b : o = 2
    · exact b
    · rw [if_neg b] at h
      split at h <;> omega
theorem rk_1 {o : Int} (h : 1 ≤ rkI o) : o < 40 := by
  by_cases a : 40 ≤ o
  · rw [rk_40 a] at h; omega
  · omega
/-- settlePile(3): the minuses go -/
theorem SJ.min {M N : Mem} {S : Int} {s : List Int} (h : SI0 M s) (hp : PI M S) (h60 : mI N 60 = mI M 60) (hle : mI N 54 18 ≤ mI M 54 18) (h0 : 0 ≤ mI N 54 18) (ht : mI N 54 18 = 0 ∨ rkI (mI N 60 (mI N 54 18 - 1).toNat) < 3) (hq : ∀ q : Nat, mI N 54 18 ≤ q → (q : Int) < mI M 54 18 → 3 ≤ rkI (mI M 60 q)) : SJ N (dm s) := by
  have ht2 : mI N 54 18 = 0 ∨ mI N 60 (mI N 54 18 - 1).toNat ≠ 2 := by
    rcases ht with e | e
    · exact Or.inl e
    · right
      intro z
      rw [z] at e
      exact absurd e (by decide)
  have ho : OM (mI M 60) (mI N 54 18).toNat := h.2.le (by omega)
  refine ⟨⟨?_, by rw [h60]; exact ho⟩, fun _ => ht2⟩
  have hpl : plO (mI M 60) (mI N 54 18).toNat := by
    have a := hp.pl
    have key : ∀ (d m : Nat), plO (mI M 60) (m + d) → plO (mI M 60) m := fun d => by
      induction d with
      | zero => intro m z; exact z
      | succ d ih => intro m z; exact ih m z.1
    exact key ((mI M 54 18).toNat - (mI N 54 18).toNat) _ (by rw [show (mI N 54 18).toNat + ((mI M 54 18).toNat - (mI N 54 18).toNat) = (mI M 54 18).toNat by omega]; exact a)
  have a := stk_min (f := mI M 60) ((mI M 54 18).toNat - (mI N 54 18).toNat) (mI N 54 18).toNat (fun q a b => rk_3 (hq q (by omega) (by omega)))
  rw [show (mI N 54 18).toNat + ((mI M 54 18).toNat - (mI N 54 18).toNat) = (mI M 54 18).toNat by omega, ← h.1] at a
  rw [a, h60]
  refine dm_top _ hpl ho ?_
  rcases ht2 with e | e
  · left; omega
  · right
    rw [h60, show (mI N 54 18 - 1).toNat = (mI N 54 18).toNat - 1 by omega] at e
    exact e
/-- settlePile(1), (2): what waits goes -/
theorem SJ.ops {M N : Mem} {S : Int} {s : List Int} (h : SJ M s) (hw : mI M 54 20 = 1) (hp : PI M S) (h60 : mI N 60 = mI M 60) (hle : mI N 54 18 ≤ mI M 54 18) (h0 : 0 ≤ mI N 54 18) (hq : ∀ q : Nat, mI N 54 18 ≤ q → (q : Int) < mI M 54 18 → mI M 60 q < 40) : SI0 N s ∧ (mI N 54 18 = 0 ∨ mI N 60 (mI N 54 18 - 1).toNat ≠ 2) := by
  have a := stk_ops (f := mI M 60) ((mI M 54 18).toNat - (mI N 54 18).toNat) (mI N 54 18).toNat
  rw [show (mI N 54 18).toNat + ((mI M 54 18).toNat - (mI N 54 18).toNat) = (mI M 54 18).toNat by omega] at a
  have b := a hp.pl h.1.2 (by
    rcases h.2 hw with e | e
    · left; omega
    · by_cases e0 : (mI M 54 18).toNat = 0
      · exact Or.inl e0
      · right
        rw [show (mI M 54 18 - 1).toNat = (mI M 54 18).toNat - 1 by omega] at e
        exact e) (fun q x y => hq q (by omega) (by omega))
  refine ⟨⟨by rw [h60, ← b.1]; exact h.1.1, by rw [h60]; exact h.1.2.le (by omega)⟩, ?_⟩
  rcases b.2 with e | e
  · left; omega
  · by_cases e0 : mI N 54 18 = 0
    · exact Or.inl e0
    · right
      rw [h60, show (mI N 54 18 - 1).toNat = (mI N 54 18).toNat - 1 by omega]
      exact e
/-- the one to shut is the stack's top -/
theorem SJ.opn {M : Mem} {S : Int} {s : List Int} {k : Nat} (h : SJ M s) (hw : mI M 54 20 = 1) (hp : PI M S) (hk : (k : Int) < mI M 54 18) (h40 : 40 ≤ mI M 60 k) (hq : ∀ q : Nat, k < q → (q : Int) < mI M 54 18 → mI M 60 q < 40) : s = (if mI M 60 k = 43 then 41 else if mI M 60 k = 44 then 42 else mI M 60 k) :: stk (mI M 60) k ∧ OM (mI M 60) k := by
  have a := stk_ops (f := mI M 60) ((mI M 54 18).toNat - (k + 1)) (k + 1)
  rw [show k + 1 + ((mI M 54 18).toNat - (k + 1)) = (mI M 54 18).toNat by omega] at a
  have b := a hp.pl h.1.2 (by
    rcases h.2 hw with e | e
    · left; omega
    · right
      rw [show (mI M 54 18 - 1).toNat = (mI M 54 18).toNat - 1 by omega] at e
      exact e) (fun q x y => hq q (by omega) (by omega))
  refine ⟨?_, h.1.2.le (by omega)⟩
  rw [h.1.1, b.1, stk, if_neg (by omega)]
theorem SJ.none {M : Mem} {S : Int} {s : List Int} (h : SJ M s) (hw : mI M 54 20 = 1) (hp : PI M S) (hq : ∀ q : Nat, (q : Int) < mI M 54 18 → mI M 60 q < 40) : s = [] := by
  have a := stk_ops (f := mI M 60) (mI M 54 18).toNat 0
  rw [Nat.zero_add] at a
  have b := a hp.pl h.1.2 (by
    rcases h.2 hw with e | e
    · left; omega
    · by_cases e0 : (mI M 54 18).toNat = 0
      · exact Or.inl e0
      · right
        rw [show (mI M 54 18 - 1).toNat = (mI M 54 18).toNat - 1 by omega] at e
        exact e) (fun q x y => hq q (by omega))
  rw [h.1.1, b.1]
  rfl
theorem SJ.new {M : Mem} (h : mI M 54 18 = 0) (h20 : mI M 54 20 = 0) : SJ M [] := by
  refine ⟨⟨by rw [h]; rfl, fun j a => ?_⟩, fun e => by omega⟩
  rw [h] at a
  exact absurd a (Nat.not_lt_zero _)
/-- the second of two, the shut one: the top is another, or gone -/
theorem SJ.two {M N : Mem} {t : List Int} {o : Int} {k : Nat} (ht : t = stk (mI M 60) k) (hom : OM (mI M 60) k) (e60 : mI N 60 = mI (sI M 60 k o) 60) (e18 : mI N 54 18 = (k : Int) + 1) (e20 : mI N 54 20 = 0) (ho : o = 42 ∨ o = 44) : SJ N (42 :: t) := by
  have hs : ∀ q, q < k → mI (sI M 60 k o) 60 q = mI M 60 q := fun q hq => by rw [mI_sI, if_neg (fun e => by omega)]
  refine ⟨⟨?_, ?_⟩, fun e => by omega⟩
  · rw [e60, e18, show ((k : Int) + 1).toNat = k + 1 by omega, stk, mI_same, if_neg (by omega), stk_co _ hs, ← ht]
    by_cases e : o = 44
    · rw [if_neg (by omega), if_pos e]
    · rw [if_neg (by omega), if_neg e, show o = 42 by omega]
  · rw [e60, e18, show ((k : Int) + 1).toNat = k + 1 by omega]
    intro j a b c
    by_cases e : j + 1 = k
    · rw [e, mI_same] at b c
      omega
    · rw [hs _ (by omega)] at b c
      rw [hs _ (by omega)]
      exact hom j (by omega) b c
def OPr (g : Nat → Int) (n : Int) (N : Mem) (r o p : Int) (s : List Int) : Prop := (r = 0 ∧ s.length < 8 ∧ SJ N ((if o = 43 then 41 else o) :: s) ∧ ∃ q, RT g n N q ∧ ((o < 41 ∧ q = nx g n p) ∨ (41 ≤ o ∧ tk g n (nx g n p) = 120 ∧ q = nx g n (nx g n p)))) ∨ (r = 3 ∧ 8 ≤ s.length ∧ mI N 54 10 = p) ∨ (r = 1 ∧ s.length < 8 ∧ 41 ≤ o ∧ tk g n (nx g n p) ≠ 120 ∧ mI N 54 10 = nx g n p)
def BO (g : Nat → Int) (n w : Int) (N : Mem) (r p : Int) (s : List Int) : Prop := (r = 0 ∧ ∃ s' q', SJ N s' ∧ RT g n N q' ∧ ∀ o, Rn (tk g n) (nx g n) w s' (decide (mI N 54 20 = 1)) q' o → Rn (tk g n) (nx g n) w s false p o) ∨ (r ≠ 0 ∧ Rn (tk g n) (nx g n) w s false p (r, mI N 54 10))
def BH (g : Nat → Int) (n w : Int) (N : Mem) (r p : Int) (s : List Int) : Prop := (r = 0 ∧ ∃ s' q', SJ N s' ∧ RT g n N q' ∧ ∀ o, Rn (tk g n) (nx g n) w s' (decide (mI N 54 20 = 1)) q' o → Rn (tk g n) (nx g n) w s true p o) ∨ (r = 1 ∧ SJ N s ∧ RT g n N p ∧ EOp g n p ∧ (s ≠ [] → Rn (tk g n) (nx g n) w s true p (1, p)))
theorem OPr.two {g : Nat → Int} {n w : Int} {N : Mem} {r o p : Int} {s : List Int} (h : OPr g n N r o p s) (ho : o = 41 ∨ o = 43) (h20 : r = 0 → mI N 54 20 = 0) (hk : tk g n p = 122 ∨ tk g n p = 123) : BO g n w N r p s := by
  rcases h with ⟨a, b, c, q, d, e⟩ | ⟨a, b, c⟩ | ⟨a, b, c, d, e⟩
  · refine Or.inl ⟨a, _, q, c, d, fun o2 z => ?_⟩
    rw [show decide (mI N 54 20 = 1) = false from decide_eq_false (by have := h20 a; omega), show (if o = 43 then (41 : Int) else o) = 41 by split <;> omega] at z
    rcases e with e | ⟨e1, e2, e3⟩
    · omega
    · rw [e3] at z
      exact r_two hk b e2 z
  · refine Or.inr ⟨by omega, ?_⟩
    rw [a, c]
    exact r_two3 hk b
  · refine Or.inr ⟨by omega, ?_⟩
    rw [a, e]
    exact r_two1 hk b d
theorem OPr.par {g : Nat → Int} {n w : Int} {N : Mem} {r p : Int} {s : List Int} (h : OPr g n N r 40 p s) (h20 : r = 0 → mI N 54 20 = 0) (hk : tk g n p = -260) : BO g n w N r p s := by
  rcases h with ⟨a, b, c, q, d, e⟩ | ⟨a, b, c⟩ | ⟨a, b, c, d, e⟩
  · refine Or.inl ⟨a, _, q, c, d, fun o2 z => ?_⟩
    rw [show decide (mI N 54 20 = 1) = false from decide_eq_false (by have := h20 a; omega)] at z
    rcases e with ⟨_, e⟩ | e
    · rw [e] at z
      exact r_par hk b z
    · omega
  · refine Or.inr ⟨by omega, ?_⟩
    rw [a, c]
    exact r_par3 hk b
  · omega
theorem OPr.neg {g : Nat → Int} {n w : Int} {N : Mem} {r p : Int} {s : List Int} (h : OPr g n N r 2 p s) (h20 : r = 0 → mI N 54 20 = 0) (hk : tk g n p = -255) : BO g n w N r p s := by
  rcases h with ⟨a, b, c, q, d, e⟩ | ⟨a, b, c⟩ | ⟨a, b, c, d, e⟩
  · refine Or.inl ⟨a, _, q, c, d, fun o2 z => ?_⟩
    rw [show decide (mI N 54 20 = 1) = false from decide_eq_false (by have := h20 a; omega)] at z
    rcases e with ⟨_, e⟩ | e
    · rw [e] at z
      exact r_neg hk b z
    · omega
  · refine Or.inr ⟨by omega, ?_⟩
    rw [a, c]
    exact r_neg3 hk b
  · omega
theorem dec_t {N : Mem} (h : mI N 54 20 = 1) : decide (mI N 54 20 = 1) = true := decide_eq_true h
theorem dec_f {N : Mem} (h : mI N 54 20 = 0) : decide (mI N 54 20 = 1) = false := decide_eq_false (by omega)
theorem rn_t {k x : Int → Int} {w : Int} {s : List Int} {p : Int} {o : Int × Int} {N : Mem} (h : mI N 54 20 = 1) (r : Rn k x w s (decide (mI N 54 20 = 1)) p o) : Rn k x w s true p o := by
  rw [dec_t h] at r; exact r
theorem rn_f {k x : Int → Int} {w : Int} {s : List Int} {p : Int} {o : Int × Int} {N : Mem} (h : mI N 54 20 = 0) (r : Rn k x w s (decide (mI N 54 20 = 1)) p o) : Rn k x w s false p o := by
  rw [dec_f h] at r; exact r

/-! THE CODE OF A LAW in the reference: its pile and its texts as lists -/
def pls (f : Nat → Int) : Nat → List Int
  | 0 => []
  | n + 1 => f n :: pls f n
theorem pls_co {f f' : Nat → Int} : ∀ (n : Nat), (∀ i : Nat, i < n → f' i = f i) → pls f' n = pls f n
  | 0, _ => rfl
  | n + 1, h => by
    unfold pls
    rw [h n (Nat.lt_succ_self n), pls_co n (fun i hi => h i (Nat.lt_succ_of_lt hi))]
def Pl (M : Mem) : List Int := pls (mI M 60) (mI M 54 18).toNat
def Co (M : Mem) (S : Int) : List (Int × Int) := cdL (mI M 57) (mI M 54 14) S (mI M 54 15 - S).toNat
theorem Pl.same {M N : Mem} (e60 : mI N 60 = mI M 60) (e18 : mI N 54 18 = mI M 54 18) : Pl N = Pl M := by
  unfold Pl
  rw [e60, e18]
theorem Co.same {M N : Mem} {S : Int} (e57 : mI N 57 = mI M 57) (e14 : mI N 54 14 = mI M 54 14) (e15 : mI N 54 15 = mI M 54 15) : Co N S = Co M S := by
  unfold Co
  rw [e57, e14, e15]
theorem Co.nil {M : Mem} {S : Int} (h : mI M 54 15 = S) : Co M S = [] := by
  unfold Co
  rw [h, show (S - S).toNat = 0 by omega]
  rfl
theorem Co.emit {M N : Mem} {S o v : Int} (hS : S ≤ mI M 54 15) (S0 : 0 ≤ S) (t0 : 0 ≤ mI M 54 14) (e57 : mI N 57 = mI (sI (sI M 57 (mI M 54 14 + 265 + 2 * mI M 54 15).toNat o) 57 (mI M 54 14 + 265 + 2 * mI M 54 15 + 1).toNat v) 57) (e14 : mI N 54 14 = mI M 54 14) (e15 : mI N 54 15 = mI M 54 15 + 1) : Co N S = Co M S ++ [(o, v)] := by
  unfold Co
  rw [e14, e15, show (mI M 54 15 + 1 - S).toNat = (mI M 54 15 - S).toNat + 1 by omega]
  have k : S + ((mI M 54 15 - S).toNat : Int) = mI M 54 15 := by omega
  show cdL (mI N 57) (mI M 54 14) S (mI M 54 15 - S).toNat ++ [_] = _
  rw [k, e57, mI_sI, if_neg (by omega), mI_same, mI_same]
  congr 1
  exact cdL_co (by omega) _ (fun j j1 j2 => by rw [mI_sI, if_neg (by omega), mI_sI, if_neg (by omega)])
/-- pushed, popped -/
theorem Pl.push {M N : Mem} {o : Int} (h0 : 0 ≤ mI M 54 18) (e60 : mI N 60 = mI (sI M 60 (mI M 54 18).toNat o) 60) (e18 : mI N 54 18 = mI M 54 18 + 1) : Pl N = o :: Pl M := by
  unfold Pl
  rw [e18, show (mI M 54 18 + 1).toNat = (mI M 54 18).toNat + 1 by omega]
  show mI N 60 _ :: pls (mI N 60) _ = _
  rw [e60, mI_same]
  congr 1
  exact pls_co _ (fun i hi => by rw [mI_sI, if_neg (by omega)])
theorem Pl.top {M : Mem} (h : 1 ≤ mI M 54 18) : Pl M = mI M 60 (mI M 54 18 - 1).toNat :: pls (mI M 60) (mI M 54 18 - 1).toNat := by
  unfold Pl
  rw [show (mI M 54 18).toNat = (mI M 54 18 - 1).toNat + 1 by omega]
  rfl
/-- settled so far: what was popped and written -/
def Sd (M N : Mem) (S e : Int) : Prop := ∃ D, stP e (Pl M) = (D ++ (stP e (Pl N)).1, (stP e (Pl N)).2) ∧ Co N S = Co M S ++ D
theorem Sd.nil {M : Mem} {S e : Int} : Sd M M S e := ⟨[], rfl, (List.append_nil _).symm⟩
theorem Sd.pop {M A N : Mem} {S e o : Int} (h : Sd M A S e) (h1 : 1 ≤ mI A 54 18) (ho : mI A 60 (mI A 54 18 - 1).toNat = o) (hr : e ≤ rkI o) (e60 : mI N 60 = mI A 60) (e18 : mI N 54 18 = mI A 54 18 - 1) (hc : Co N S = Co A S ++ [(o, 0)]) : Sd M N S e := by
  obtain ⟨D, d1, d2⟩ := h
  have eP : Pl A = o :: Pl N := by
    rw [Pl.top h1, ho]
    unfold Pl
    rw [e60, e18]
  rw [eP, stP_y hr] at d1
  refine ⟨D ++ [(o, 0)], ?_, by rw [hc, d2, List.append_assoc]⟩
  rw [d1, List.append_assoc]
  rfl
theorem Sd.fin {M N : Mem} {S e : Int} (h : Sd M N S e) (ht : mI N 54 18 = 0 ∨ (1 ≤ mI N 54 18 ∧ rkI (mI N 60 (mI N 54 18 - 1).toNat) < e)) : Pl N = (stP e (Pl M)).2 ∧ Co N S = Co M S ++ (stP e (Pl M)).1 := by
  obtain ⟨D, d1, d2⟩ := h
  have z : stP e (Pl N) = ([], Pl N) := by
    rcases ht with k | ⟨k, r⟩
    · have e0 : Pl N = [] := by
        unfold Pl
        rw [k]
        rfl
      rw [e0]
      rfl
    · rw [Pl.top k]
      exact stP_n (by omega)
  rw [z] at d1
  rw [d1]
  exact ⟨rfl, by rw [d2, List.append_nil]⟩
/-- what one step of a sum did, in the reference: from the pile to the pile, the code that it wrote -/
def BOc (g : Nat → Int) (n S : Int) (M N : Mem) (r p : Int) (b : Bool) : Prop := r = 0 → ∃ q D, RT g n N q ∧ Co N S = Co M S ++ D ∧ ∀ c, Cd (tk g n) (nx g n) (Pl N) (decide (mI N 54 20 = 1)) q c → Cd (tk g n) (nx g n) (Pl M) b p (D ++ c)
theorem dcT {N : Mem} (h : mI N 54 20 = 1) : decide (mI N 54 20 = 1) = true := decide_eq_true h
theorem dcF {N : Mem} (h : mI N 54 20 = 0) : decide (mI N 54 20 = 1) = false := decide_eq_false (by omega)
theorem BOc.opn {g : Nat → Int} {n S : Int} {M N : Mem} {r o p : Int} {s : List Int} (h : OPr g n N r o p s) (hc : r = 0 → Pl N = o :: Pl M ∧ Co N S = Co M S) (h20 : r = 0 → mI N 54 20 = 0) (hk : (o = 41 ∧ tk g n p = 122) ∨ (o = 43 ∧ tk g n p = 123) ∨ (o = 40 ∧ tk g n p = -260) ∨ (o = 2 ∧ tk g n p = -255)) : BOc g n S M N r p false := fun hr => by
  obtain ⟨a, b⟩ := hc hr
  rcases h with ⟨_, _, _, q, d, e⟩ | ⟨z, _⟩ | ⟨z, _⟩
  · refine ⟨q, [], d, by rw [b, List.append_nil], fun c z => ?_⟩
    rw [dcF (h20 hr), a] at z
    rcases e with ⟨e1, e2⟩ | ⟨e1, e2, e3⟩
    · rw [e2] at z
      rcases hk with ⟨k1, k2⟩ | ⟨k1, k2⟩ | ⟨k1, k2⟩ | ⟨k1, k2⟩
      · omega
      · omega
      · rw [k1] at z
        exact c_par k2 z
      · rw [k1] at z
        exact c_neg k2 z
    · rw [e3] at z
      rcases hk with ⟨k1, k2⟩ | ⟨k1, k2⟩ | ⟨k1, k2⟩ | ⟨k1, k2⟩
      · exact c_two (Or.inl ⟨k2, k1⟩) z
      · exact c_two (Or.inr ⟨k2, k1⟩) z
      · omega
      · omega
  · omega
  · omega

set_option maxRecDepth 4000 in
theorem sfX12_emitF {l : Launch} {M : Mem} (hB : Box M)  (o : Int) (v : Int) (p0 : mI M 54 14 = 873 * mI M 55 5) (p1 : mI M 54 15 ≤ 299) : Call l mdX12_emit [aR 54, aI o, aI v] M (fun q N => q = none ∧ BF fT M N ∧ mI N 55 = mI M 55 ∧ mI N 60 = mI M 60 ∧ mI N 54 15 = mI M 54 15 + 1 ∧ mI N 57 = mI (sI (sI M 57 (mI M 54 14 + 265 + 2 * mI M 54 15).toNat o) 57 (mI M 54 14 + 265 + 2 * mI M 54 15 + 1).toNat v) 57 ∧ mI N 54 9 = mI M 54 9 ∧ mI N 54 10 = mI M 54 10 ∧ mI N 54 11 = mI M 54 11 ∧ mI N 54 14 = mI M 54 14 ∧ mI N 54 16 = mI M 54 16 ∧ mI N 54 18 = mI M 54 18 ∧ mI N 54 19 = mI M 54 19 ∧ mI N 54 20 = mI M 54 20 ∧ mI N 54 21 = mI M 54 21 ∧ (∀ S : Int, 0 ≤ S → S ≤ mI M 54 15 → Co N S = Co M S ++ [(o, v)]) ∧ mI N 54 12 = mI M 54 12 ∧ mJ N 54 13 = mJ M 54 13) := by
  have hB0 : BF fT M M := BF.start hB
  refine Call.of [some (aR 54), some (aI o), some (aI v)] rfl (Nat.le_of_ble_eq_true rfl) rfl ?_
  refine vc_ok (fun hoM hoS hoL => ?_)
  have hr1 : -2147483648 ≤ o ∧ o < 2147483648 := hoL 1 _ rfl
  have hr2 : -2147483648 ≤ v ∧ v < 2147483648 := hoL 2 _ rfl
  have hk5 := b55_5 hB
  have hk14 := b54_14 hB
  refine vc_aload_n dX12_emit_0 rfl ?_
  refine vc_getR dX12_emit_1 flX12_16 (s_54 hB0.1.1) rfl (r_54_2 hB0.1.1) ?_
  refine vc_aload_n dX12_emit_4 rfl ?_
  refine vc_getI dX12_emit_5 flX12_167 (s_54 hB0.1.1) rfl ?_
  have k1 : 0 ≤ mI M 54 14 ∧ mI M 54 14 ≤ 2619 := b54_14 (M := M) hB0.1
  refine vc_sipush dX12_emit_8 rfl ?_
  refine vc_iaddE dX12_emit_11 (by omega) (by omega) ?_
  refine vc_iconst dX12_emit_12 rfl ?_
  refine vc_aload_n dX12_emit_13 rfl ?_
  refine vc_getI dX12_emit_14 flX12_170 (s_54 hB0.1.1) rfl ?_
  have k2 : 0 ≤ mI M 54 15 ∧ mI M 54 15 ≤ 300 := b54_15 (M := M) hB0.1
  refine vc_imulE dX12_emit_17 (by omega) (by omega) ?_
  refine vc_iaddE dX12_emit_18 (by omega) (by omega) ?_
  refine vc_iload_n dX12_emit_19 rfl ?_
  refine vc_iastore dX12_emit_20 (s_57 hB0.1.1) (by omega) (by omega) ?_
  have kp3 : mI (sI M 57 ((((mI M 54 14) + 265) + (2 * (mI M 54 15))).toNat) o) 60 = mI M 60 := (kp_sI rfl rfl)
  have kp4 : mI (sI M 57 ((((mI M 54 14) + 265) + (2 * (mI M 54 15))).toNat) o) 55 = mI M 55 := (kp_sI rfl rfl)
  have hB5 : BF fT M (sI M 57 ((((mI M 54 14) + 265) + (2 * (mI M 54 15))).toNat) o) := BF.x57 (x := ((mI M 54 14) + 265) + (2 * (mI M 54 15))) hB0 (by first | omega | (show 873 * mI M 55 5 ≤ _; omega))
  refine vc_aload_n dX12_emit_21 rfl ?_
  refine vc_getR dX12_emit_22 flX12_16 (s_54 hB5.1.1) rfl (r_54_2 hB5.1.1) ?_
  refine vc_aload_n dX12_emit_25 rfl ?_
  refine vc_getI dX12_emit_26 flX12_167 (s_54 hB5.1.1) rfl ?_
  refine vc_topI (mI M 54 14) rfl ?_
  have k6 : 0 ≤ mI M 54 14 ∧ mI M 54 14 ≤ 2619 := b54_14 (M := (sI M 57 ((((mI M 54 14) + 265) + (2 * (mI M 54 15))).toNat) o)) hB5.1
  refine vc_sipush dX12_emit_29 rfl ?_
  refine vc_iaddE dX12_emit_32 (by omega) (by omega) ?_
  refine vc_iconst dX12_emit_33 rfl ?_
  refine vc_aload_n dX12_emit_34 rfl ?_
  refine vc_getI dX12_emit_35 flX12_170 (s_54 hB5.1.1) rfl ?_
  refine vc_topI (mI M 54 15) rfl ?_
  have k7 : 0 ≤ mI M 54 15 ∧ mI M 54 15 ≤ 300 := b54_15 (M := (sI M 57 ((((mI M 54 14) + 265) + (2 * (mI M 54 15))).toNat) o)) hB5.1
  refine vc_imulE dX12_emit_38 (by omega) (by omega) ?_
  refine vc_iaddE dX12_emit_39 (by omega) (by omega) ?_
  refine vc_iconst dX12_emit_40 rfl ?_
  refine vc_iaddE dX12_emit_41 (by omega) (by omega) ?_
  refine vc_iload_n dX12_emit_42 rfl ?_
  refine vc_iastore dX12_emit_43 (s_57 hB5.1.1) (by omega) (by omega) ?_
  have kp8 : mI (sI (sI M 57 ((((mI M 54 14) + 265) + (2 * (mI M 54 15))).toNat) o) 57 (((((mI M 54 14) + 265) + (2 * (mI M 54 15))) + 1).toNat) v) 60 = mI M 60 := (kp_sI kp3 rfl)
  have kp9 : mI (sI (sI M 57 ((((mI M 54 14) + 265) + (2 * (mI M 54 15))).toNat) o) 57 (((((mI M 54 14) + 265) + (2 * (mI M 54 15))) + 1).toNat) v) 55 = mI M 55 := (kp_sI kp4 rfl)
  have hB10 : BF fT M (sI (sI M 57 ((((mI M 54 14) + 265) + (2 * (mI M 54 15))).toNat) o) 57 (((((mI M 54 14) + 265) + (2 * (mI M 54 15))) + 1).toNat) v) := BF.x57 (x := (((mI M 54 14) + 265) + (2 * (mI M 54 15))) + 1) hB5 (by first | omega | (show 873 * mI M 55 5 ≤ _; omega))
  refine vc_aload_n dX12_emit_44 rfl ?_
  refine vc_dup dX12_emit_45 rfl ?_
  refine vc_getI dX12_emit_46 flX12_170 (s_54 hB10.1.1) rfl ?_
  refine vc_topI (mI M 54 15) rfl ?_
  have k11 : 0 ≤ mI M 54 15 ∧ mI M 54 15 ≤ 300 := b54_15 (M := (sI (sI M 57 ((((mI M 54 14) + 265) + (2 * (mI M 54 15))).toNat) o) 57 (((((mI M 54 14) + 265) + (2 * (mI M 54 15))) + 1).toNat) v)) hB10.1
  refine vc_iconst dX12_emit_49 rfl ?_
  refine vc_iaddE dX12_emit_50 (by omega) (by omega) ?_
  refine vc_putI dX12_emit_51 (plX12_170 _ rfl) (s_54 hB10.1.1) rfl ?_
  have kp12 : mI (sI (sI (sI M 57 ((((mI M 54 14) + 265) + (2 * (mI M 54 15))).toNat) o) 57 (((((mI M 54 14) + 265) + (2 * (mI M 54 15))) + 1).toNat) v) 54 15 ((mI M 54 15) + 1)) 60 = mI M 60 := (kp_sI kp8 rfl)
  have kp13 : mI (sI (sI (sI M 57 ((((mI M 54 14) + 265) + (2 * (mI M 54 15))).toNat) o) 57 (((((mI M 54 14) + 265) + (2 * (mI M 54 15))) + 1).toNat) v) 54 15 ((mI M 54 15) + 1)) 55 = mI M 55 := (kp_sI kp9 rfl)
  have hB14 : BF fT M (sI (sI (sI M 57 ((((mI M 54 14) + 265) + (2 * (mI M 54 15))).toNat) o) 57 (((((mI M 54 14) + 265) + (2 * (mI M 54 15))) + 1).toNat) v) 54 15 ((mI M 54 15) + 1)) := BF.w54_15 hB10 rfl (by omega) (by omega)
  refine vc_vret dX12_emit_54 rfl (Nat.le_of_ble_eq_true rfl) (Nat.le_of_ble_eq_true rfl) ?_
  have k15 : mI (sI (sI (sI M 57 ((((mI M 54 14) + 265) + (2 * (mI M 54 15))).toNat) o) 57 (((((mI M 54 14) + 265) + (2 * (mI M 54 15))) + 1).toNat) v) 54 15 ((mI M 54 15) + 1)) 54 9 = mI M 54 9 := rfl
  have k16 : mI (sI (sI (sI M 57 ((((mI M 54 14) + 265) + (2 * (mI M 54 15))).toNat) o) 57 (((((mI M 54 14) + 265) + (2 * (mI M 54 15))) + 1).toNat) v) 54 15 ((mI M 54 15) + 1)) 54 10 = mI M 54 10 := rfl
  have k17 : mI (sI (sI (sI M 57 ((((mI M 54 14) + 265) + (2 * (mI M 54 15))).toNat) o) 57 (((((mI M 54 14) + 265) + (2 * (mI M 54 15))) + 1).toNat) v) 54 15 ((mI M 54 15) + 1)) 54 11 = mI M 54 11 := rfl
  have k18 : mI (sI (sI (sI M 57 ((((mI M 54 14) + 265) + (2 * (mI M 54 15))).toNat) o) 57 (((((mI M 54 14) + 265) + (2 * (mI M 54 15))) + 1).toNat) v) 54 15 ((mI M 54 15) + 1)) 54 14 = mI M 54 14 := rfl
  have k19 : mI (sI (sI (sI M 57 ((((mI M 54 14) + 265) + (2 * (mI M 54 15))).toNat) o) 57 (((((mI M 54 14) + 265) + (2 * (mI M 54 15))) + 1).toNat) v) 54 15 ((mI M 54 15) + 1)) 54 15 = (mI M 54 15) + 1 := rfl
  have k20 : mI (sI (sI (sI M 57 ((((mI M 54 14) + 265) + (2 * (mI M 54 15))).toNat) o) 57 (((((mI M 54 14) + 265) + (2 * (mI M 54 15))) + 1).toNat) v) 54 15 ((mI M 54 15) + 1)) 54 16 = mI M 54 16 := rfl
  have k21 : mI (sI (sI (sI M 57 ((((mI M 54 14) + 265) + (2 * (mI M 54 15))).toNat) o) 57 (((((mI M 54 14) + 265) + (2 * (mI M 54 15))) + 1).toNat) v) 54 15 ((mI M 54 15) + 1)) 54 18 = mI M 54 18 := rfl
  have k22 : mI (sI (sI (sI M 57 ((((mI M 54 14) + 265) + (2 * (mI M 54 15))).toNat) o) 57 (((((mI M 54 14) + 265) + (2 * (mI M 54 15))) + 1).toNat) v) 54 15 ((mI M 54 15) + 1)) 54 19 = mI M 54 19 := rfl
  have k23 : mI (sI (sI (sI M 57 ((((mI M 54 14) + 265) + (2 * (mI M 54 15))).toNat) o) 57 (((((mI M 54 14) + 265) + (2 * (mI M 54 15))) + 1).toNat) v) 54 15 ((mI M 54 15) + 1)) 54 20 = mI M 54 20 := rfl
  have k24 : mI (sI (sI (sI M 57 ((((mI M 54 14) + 265) + (2 * (mI M 54 15))).toNat) o) 57 (((((mI M 54 14) + 265) + (2 * (mI M 54 15))) + 1).toNat) v) 54 15 ((mI M 54 15) + 1)) 54 21 = mI M 54 21 := rfl
  have k25 : mI (sI (sI (sI M 57 ((((mI M 54 14) + 265) + (2 * (mI M 54 15))).toNat) o) 57 (((((mI M 54 14) + 265) + (2 * (mI M 54 15))) + 1).toNat) v) 54 15 ((mI M 54 15) + 1)) 54 12 = mI M 54 12 := rfl
  exact ⟨rfl, hB14, kp13, kp12, by omega, by exact kp_sI rfl rfl, by omega, by omega, by omega, by omega, by omega, by omega, by omega, by omega, by omega, by intro S S0 S1; exact Co.emit S1 S0 (by omega) (by exact kp_sI rfl rfl) (by omega) (by omega), by omega, by rfl⟩

set_option maxRecDepth 4000 in
theorem sfX12_settlePileF {l : Launch} {M : Mem} (hB : Box M) (S : Int) (e : Int) (p0 : 1 ≤ e) (p1 : e ≤ 3) (p2 : PI M S) (p3 : mI M 54 14 = 873 * mI M 55 5) (p4 : mI M 54 20 = 1) : Call l mdX12_settlePile [aR 54, aI e] M (fun q N => q = none ∧ BF fT M N ∧ mI N 55 = mI M 55 ∧ mI N 60 = mI M 60 ∧ PI N S ∧ mI N 54 9 = mI M 54 9 ∧ mI N 54 10 = mI M 54 10 ∧ mI N 54 11 = mI M 54 11 ∧ mI N 54 14 = mI M 54 14 ∧ mI N 54 16 = mI M 54 16 ∧ mI N 54 20 = mI M 54 20 ∧ mI N 54 21 = mI M 54 21 ∧ mI N 54 18 ≤ mI M 54 18 ∧ (∀ j : Nat, (j : Int) < mI M 54 14 + 265 + 2 * S → mI N 57 j = mI M 57 j) ∧ (mI N 54 18 = 0 ∨ rkI (mI N 60 (mI N 54 18 - 1).toNat) < e) ∧ (∀ q : Nat, mI N 54 18 ≤ q → (q : Int) < mI M 54 18 → e ≤ rkI (mI M 60 q)) ∧ (Pl N = (stP e (Pl M)).2 ∧ Co N S = Co M S ++ (stP e (Pl M)).1) ∧ mI N 54 12 = mI M 54 12 ∧ mJ N 54 13 = mJ M 54 13) := by
  have hB0 : BF fT M M := BF.start hB
  refine Call.of [some (aR 54), some (aI e)] rfl (Nat.le_of_ble_eq_true rfl) rfl ?_
  have lp0 : ∀ (n0 : Nat) (Mq0 : Mem) , (BF fT M Mq0) → (mI Mq0 60 = mI M 60) → (mI Mq0 55 = mI M 55) → (PI Mq0 S) → (mI Mq0 54 9 = mI M 54 9) → (mI Mq0 54 10 = mI M 54 10) → (mI Mq0 54 11 = mI M 54 11) → (mI Mq0 54 14 = mI M 54 14) → (mI Mq0 54 16 = mI M 54 16) → (mI Mq0 54 21 = mI M 54 21) → (mI Mq0 54 20 = 1) → (mI Mq0 54 18 ≤ mI M 54 18) → (∀ j : Nat, (j : Int) < mI M 54 14 + 265 + 2 * S → mI Mq0 57 j = mI M 57 j) → (∀ q : Nat, mI Mq0 54 18 ≤ q → (q : Int) < mI M 54 18 → e ≤ rkI (mI M 60 q)) → (mI Mq0 54 12 = mI M 54 12) → (mJ Mq0 54 13 = mJ M 54 13) → (Sd M Mq0 S e) → (mI Mq0 54 18).toNat < n0 → VC l mdX12_settlePile 0 [some (aR 54), some (aI e)] [] Mq0 0 0 (fun q N => q = none ∧ BF fT M N ∧ mI N 55 = mI M 55 ∧ mI N 60 = mI M 60 ∧ PI N S ∧ mI N 54 9 = mI M 54 9 ∧ mI N 54 10 = mI M 54 10 ∧ mI N 54 11 = mI M 54 11 ∧ mI N 54 14 = mI M 54 14 ∧ mI N 54 16 = mI M 54 16 ∧ mI N 54 20 = mI M 54 20 ∧ mI N 54 21 = mI M 54 21 ∧ mI N 54 18 ≤ mI M 54 18 ∧ (∀ j : Nat, (j : Int) < mI M 54 14 + 265 + 2 * S → mI N 57 j = mI M 57 j) ∧ (mI N 54 18 = 0 ∨ rkI (mI N 60 (mI N 54 18 - 1).toNat) < e) ∧ (∀ q : Nat, mI N 54 18 ≤ q → (q : Int) < mI M 54 18 → e ≤ rkI (mI M 60 q)) ∧ (Pl N = (stP e (Pl M)).2 ∧ Co N S = Co M S ++ (stP e (Pl M)).1) ∧ mI N 54 12 = mI M 54 12 ∧ mJ N 54 13 = mJ M 54 13) := by
    intro n0
    induction n0 with
    | zero => intro Mq0 hQ0 kp0_60 kp0_55 g0i0 g0i1 g0i2 g0i3 g0i4 g0i5 g0i6 g0i7 g0i8 g0i9 g0i10 g0i11 g0i12 g0i13 hm0; exact absurd hm0 (Nat.not_lt_zero _)
    | succ n0 ih0 =>
      intro Mq0 hQ0 kp0_60 kp0_55 g0i0 g0i1 g0i2 g0i3 g0i4 g0i5 g0i6 g0i7 g0i8 g0i9 g0i10 g0i11 g0i12 g0i13 hm0
      refine vc_aload_n dX12_settlePile_0 rfl ?_
      refine vc_getI dX12_settlePile_1 flX12_180 (s_54 hQ0.1.1) rfl ?_
      have k1 : 0 ≤ mI Mq0 54 18 ∧ mI Mq0 54 18 ≤ 160 := b54_18 (M := Mq0) hQ0.1
      refine vc_if_le dX12_settlePile_4 (fun h2 => ?_) (fun h2 => ?_)
      · refine vc_vret dX12_settlePile_75 rfl (Nat.le_of_ble_eq_true rfl) (Nat.le_of_ble_eq_true rfl) ?_
        exact ⟨rfl, hQ0, kp0_55, kp0_60, by exact g0i0, by omega, by omega, by omega, by omega, by omega, by omega, by omega, by omega, by exact g0i9, by first | (left; omega) | (right; omega), by exact g0i10, by exact Sd.fin g0i13 (by first | exact Or.inl (by omega) | exact Or.inr ⟨by omega, by omega⟩), by omega, by exact g0i12⟩
      · refine vc_aload_n dX12_settlePile_7 rfl ?_
        refine vc_getR dX12_settlePile_8 flX12_32 (s_54 hQ0.1.1) rfl (r_54_17 hQ0.1.1) ?_
        refine vc_aload_n dX12_settlePile_11 rfl ?_
        refine vc_getI dX12_settlePile_12 flX12_180 (s_54 hQ0.1.1) rfl ?_
        refine vc_iconst dX12_settlePile_15 rfl ?_
        refine vc_isubE dX12_settlePile_16 (by omega) (by omega) ?_
        refine vc_iaload dX12_settlePile_17 (s_60 hQ0.1.1) (by omega) (by omega) ?_
        have k3 : mI Mq0 60 (((mI Mq0 54 18) - 1).toNat) = mI M 60 (((mI Mq0 54 18) - 1).toNat) := congrFun kp0_60 (((mI Mq0 54 18) - 1).toNat)
        refine vc_cSI dX12_settlePile_18 (sfX12_rank (M := Mq0) hQ0.1  (mI Mq0 60 (((mI Mq0 54 18) - 1).toNat)) ) rfl okX12_rank stX12_rank lkX12_183 rfl (Nat.le_of_ble_eq_true rfl) ⟨rfl, rfl⟩ (Nat.le_of_ble_eq_true rfl) (Nat.le_of_ble_eq_true rfl) (Nat.le_of_ble_eq_true rfl) ?_
        rintro x4 _ ⟨rfl, h5, h6, h7⟩
        have hrkE := h7
        refine vc_iload_n dX12_settlePile_21 rfl ?_
        refine vc_icmp_lt dX12_settlePile_22 (fun h8 => ?_) (fun h8 => ?_)
        · refine vc_vret dX12_settlePile_75 rfl (Nat.le_of_ble_eq_true rfl) (Nat.le_of_ble_eq_true rfl) ?_
          exact ⟨rfl, hQ0, kp0_55, kp0_60, by exact g0i0, by omega, by omega, by omega, by omega, by omega, by omega, by omega, by omega, by exact g0i9, by first | (left; omega) | (right; omega), by exact g0i10, by exact Sd.fin g0i13 (by first | exact Or.inl (by omega) | exact Or.inr ⟨by omega, by omega⟩), by omega, by exact g0i12⟩
        · refine vc_aload_n dX12_settlePile_25 rfl ?_
          refine vc_dup dX12_settlePile_26 rfl ?_
          refine vc_getI dX12_settlePile_27 flX12_180 (s_54 hQ0.1.1) rfl ?_
          refine vc_iconst dX12_settlePile_30 rfl ?_
          refine vc_isubE dX12_settlePile_31 (by omega) (by omega) ?_
          refine vc_putI dX12_settlePile_32 (plX12_180 _ rfl) (s_54 hQ0.1.1) rfl ?_
          have kp9 : mI (sI Mq0 54 18 ((mI Mq0 54 18) - 1)) 60 = mI M 60 := (kp_sI kp0_60 rfl)
          have kp10 : mI (sI Mq0 54 18 ((mI Mq0 54 18) - 1)) 55 = mI M 55 := (kp_sI kp0_55 rfl)
          have hB11 : BF fT M (sI Mq0 54 18 ((mI Mq0 54 18) - 1)) := BF.w54_18 hQ0 rfl (by omega) (by omega)
          refine vc_aload_n dX12_settlePile_35 rfl ?_
          refine vc_aload_n dX12_settlePile_36 rfl ?_
          refine vc_getR dX12_settlePile_37 flX12_32 (s_54 hB11.1.1) rfl (r_54_17 hB11.1.1) ?_
          refine vc_aload_n dX12_settlePile_40 rfl ?_
          refine vc_getI dX12_settlePile_41 flX12_180 (s_54 hB11.1.1) rfl ?_
          refine vc_topI ((mI Mq0 54 18) - 1) rfl ?_
          refine vc_iaload dX12_settlePile_44 (s_60 hB11.1.1) (by omega) (by omega) ?_
          refine vc_topI (mI Mq0 60 (((mI Mq0 54 18) - 1).toNat)) rfl ?_
          refine vc_iconst dX12_settlePile_45 rfl ?_
          have k13 : mI (sI Mq0 54 18 ((mI Mq0 54 18) - 1)) 54 9 = mI Mq0 54 9 := rfl
          have k14 : mI (sI Mq0 54 18 ((mI Mq0 54 18) - 1)) 54 10 = mI Mq0 54 10 := rfl
          have k15 : mI (sI Mq0 54 18 ((mI Mq0 54 18) - 1)) 54 11 = mI Mq0 54 11 := rfl
          have k16 : mI (sI Mq0 54 18 ((mI Mq0 54 18) - 1)) 54 14 = mI Mq0 54 14 := rfl
          have k17 : mI (sI Mq0 54 18 ((mI Mq0 54 18) - 1)) 54 15 = mI Mq0 54 15 := rfl
          have k18 : mI (sI Mq0 54 18 ((mI Mq0 54 18) - 1)) 54 16 = mI Mq0 54 16 := rfl
          have k19 : mI (sI Mq0 54 18 ((mI Mq0 54 18) - 1)) 54 18 = (mI Mq0 54 18) - 1 := rfl
          have k20 : mI (sI Mq0 54 18 ((mI Mq0 54 18) - 1)) 54 19 = mI Mq0 54 19 := rfl
          have k21 : mI (sI Mq0 54 18 ((mI Mq0 54 18) - 1)) 54 20 = mI Mq0 54 20 := rfl
          have k22 : mI (sI Mq0 54 18 ((mI Mq0 54 18) - 1)) 54 21 = mI Mq0 54 21 := rfl
          have k23 : mI (sI Mq0 54 18 ((mI Mq0 54 18) - 1)) 54 12 = mI Mq0 54 12 := rfl
          have hz5 := congrFun kp10 5
          have hle := g0i0.len
          have htp := g0i0.top (by omega)
          have hrk6 : mI Mq0 60 (mI Mq0 54 18 - 1).toNat ≤ 6 := by
            have hr := hrkE
            unfold rkI at hr
            repeat' split at hr
            all_goals omega
          refine vc_cVU dX12_settlePile_46 (sfX12_emitF (M := (sI Mq0 54 18 ((mI Mq0 54 18) - 1))) hB11.1  (mI Mq0 60 (((mI Mq0 54 18) - 1).toNat)) 0 (by omega) (by omega)) rfl okX12_emit viX12_emit lkX12_186 (s_54 hB11.1.1) cl_12 rfl (Nat.le_of_ble_eq_true rfl) ⟨rfl, rfl⟩ (Nat.le_of_ble_eq_true rfl) (Nat.le_of_ble_eq_true rfl) (Nat.le_of_ble_eq_true rfl) ?_
          rintro M24 ⟨hB25, kp26, kp27, h28, h29, h30, h31, h32, h33, h34, h35, h36, h37, h38, h39, h40, h41⟩
          have hB42 : BF fT M M24 := BF.go hB11 hB25
          have kp43 : mI M24 60 = mI M 60 := kp_go kp9 kp27
          have kp44 : mI M24 55 = mI M 55 := kp_go kp10 kp26
          have hidx : mI M24 60 (mI M24 54 18).toNat = mI Mq0 60 (mI Mq0 54 18 - 1).toNat := by rw [show (mI M24 54 18).toNat = (mI Mq0 54 18 - 1).toNat by omega]; exact congrFun kp27 _
          have h57 := h29
          have h60 := kp27
          have h55 := kp26
          have hj13 := h41
          have hco : Co M24 S = Co Mq0 S ++ [(mI Mq0 60 (mI Mq0 54 18 - 1).toNat, 0)] := (h39 S g0i0.2.1 g0i0.2.2.1).trans (by rw [show Co (sI Mq0 54 18 ((mI Mq0 54 18) - 1)) S = Co Mq0 S from Co.same (kp_sI rfl rfl) rfl rfl])
          refine vc_aload_n dX12_settlePile_49 rfl ?_
          refine vc_getR dX12_settlePile_50 flX12_32 (s_54 hB42.1.1) rfl (r_54_17 hB42.1.1) ?_
          refine vc_aload_n dX12_settlePile_53 rfl ?_
          refine vc_getI dX12_settlePile_54 flX12_180 (s_54 hB42.1.1) rfl ?_
          have k45 : 0 ≤ mI M24 54 18 ∧ mI M24 54 18 ≤ 160 := b54_18 (M := M24) hB42.1
          refine vc_iaload dX12_settlePile_57 (s_60 hB42.1.1) (by omega) (by omega) ?_
          have k46 : mI M24 60 ((mI M24 54 18).toNat) = mI M 60 ((mI M24 54 18).toNat) := congrFun kp43 ((mI M24 54 18).toNat)
          refine vc_iconst dX12_settlePile_58 rfl ?_
          refine vc_icmp_ne dX12_settlePile_59 (fun h47 => ?_) (fun h47 => ?_)
          · exact ih0 M24 hB42 kp43 kp44 (by first | exact p2 | exact PI.pop (M := Mq0) g0i0 g0i7 (by omega) rfl hrk6 (by first | exact h57 | exact kp_sI h57 rfl) (by first | exact h60 | exact kp_sI h60 rfl) (by omega) (by omega) (by omega) (by first | (rw [if_pos (by omega)]; omega) | (rw [if_neg (by omega)]; omega)) (by omega) (by omega) (by omega)) (by omega) (by omega) (by omega) (by omega) (by omega) (by omega) (by omega) (by omega) (by first | (intro j hj; rfl) | (first | exact fr_emit (by omega) (by omega) h57 g0i9 | (intro j hj; exact fr_emit (by omega) (by omega) h57 g0i9 j hj))) (by first | (intro q hq1 hq2; exfalso; omega) | (intro q hq1 hq2; by_cases e9 : mI Mq0 54 18 ≤ q; (exact g0i10 q e9 hq2); (rw [← congrFun kp0_60 q, show q = (mI Mq0 54 18 - 1).toNat by omega, ← hrkE]; omega))) (by omega) (by first | rfl | exact hj13.trans g0i12) (by first | exact Sd.nil | exact Sd.pop g0i13 (by omega) rfl (by omega) (by first | exact h60 | exact kp_sI h60 rfl) (by omega) (by first | exact hco | exact (Co.same (kp_sI rfl rfl) rfl rfl).trans hco)) (by omega)
          · refine vc_aload_n dX12_settlePile_62 rfl ?_
            refine vc_dup dX12_settlePile_63 rfl ?_
            refine vc_getI dX12_settlePile_64 flX12_190 (s_54 hB42.1.1) rfl ?_
            refine vc_iconst dX12_settlePile_67 rfl ?_
            refine vc_isubE dX12_settlePile_68 (by omega) (by omega) ?_
            refine vc_putI dX12_settlePile_69 (plX12_190 _ rfl) (s_54 hB42.1.1) rfl ?_
            have kp48 : mI (sI M24 54 19 ((mI M24 54 19) - 1)) 60 = mI M 60 := (kp_sI kp43 rfl)
            have kp49 : mI (sI M24 54 19 ((mI M24 54 19) - 1)) 55 = mI M 55 := (kp_sI kp44 rfl)
            have hB50 : BF fT M (sI M24 54 19 ((mI M24 54 19) - 1)) := BF.w54_19 hB42 rfl
            refine vc_goto dX12_settlePile_72 ?_
            have k51 : mI (sI M24 54 19 ((mI M24 54 19) - 1)) 54 9 = mI M24 54 9 := rfl
            have k52 : mI (sI M24 54 19 ((mI M24 54 19) - 1)) 54 10 = mI M24 54 10 := rfl
            have k53 : mI (sI M24 54 19 ((mI M24 54 19) - 1)) 54 11 = mI M24 54 11 := rfl
            have k54 : mI (sI M24 54 19 ((mI M24 54 19) - 1)) 54 14 = mI M24 54 14 := rfl
            have k55 : mI (sI M24 54 19 ((mI M24 54 19) - 1)) 54 15 = mI M24 54 15 := rfl
            have k56 : mI (sI M24 54 19 ((mI M24 54 19) - 1)) 54 16 = mI M24 54 16 := rfl
            have k57 : mI (sI M24 54 19 ((mI M24 54 19) - 1)) 54 18 = mI M24 54 18 := rfl
            have k58 : mI (sI M24 54 19 ((mI M24 54 19) - 1)) 54 19 = (mI M24 54 19) - 1 := rfl
            have k59 : mI (sI M24 54 19 ((mI M24 54 19) - 1)) 54 20 = mI M24 54 20 := rfl
            have k60 : mI (sI M24 54 19 ((mI M24 54 19) - 1)) 54 21 = mI M24 54 21 := rfl
            have k61 : mI (sI M24 54 19 ((mI M24 54 19) - 1)) 54 12 = mI M24 54 12 := rfl
            exact ih0 (sI M24 54 19 ((mI M24 54 19) - 1)) hB50 kp48 kp49 (by first | exact p2 | exact PI.pop (M := Mq0) g0i0 g0i7 (by omega) rfl hrk6 (by first | exact h57 | exact kp_sI h57 rfl) (by first | exact h60 | exact kp_sI h60 rfl) (by omega) (by omega) (by omega) (by first | (rw [if_pos (by omega)]; omega) | (rw [if_neg (by omega)]; omega)) (by omega) (by omega) (by omega)) (by omega) (by omega) (by omega) (by omega) (by omega) (by omega) (by omega) (by omega) (by first | (intro j hj; rfl) | (first | exact fr_emit (by omega) (by omega) h57 g0i9 | (intro j hj; exact fr_emit (by omega) (by omega) h57 g0i9 j hj))) (by first | (intro q hq1 hq2; exfalso; omega) | (intro q hq1 hq2; by_cases e9 : mI Mq0 54 18 ≤ q; (exact g0i10 q e9 hq2); (rw [← congrFun kp0_60 q, show q = (mI Mq0 54 18 - 1).toNat by omega, ← hrkE]; omega))) (by omega) (by first | rfl | exact hj13.trans g0i12) (by first | exact Sd.nil | exact Sd.pop g0i13 (by omega) rfl (by omega) (by first | exact h60 | exact kp_sI h60 rfl) (by omega) (by first | exact hco | exact (Co.same (kp_sI rfl rfl) rfl rfl).trans hco)) (by omega)
  exact lp0 _ M hB0 rfl rfl (by first | exact p2 | exact PI.pop (M := Mq0) g0i0 g0i7 (by omega) rfl hrk6 (by first | exact h57 | exact kp_sI h57 rfl) (by first | exact h60 | exact kp_sI h60 rfl) (by omega) (by omega) (by omega) (by first | (rw [if_pos (by omega)]; omega) | (rw [if_neg (by omega)]; omega)) (by omega) (by omega) (by omega)) (by omega) (by omega) (by omega) (by omega) (by omega) (by omega) (by omega) (by omega) (by first | (intro j hj; rfl) | (first | exact fr_emit (by omega) (by omega) h57 g0i9 | (intro j hj; exact fr_emit (by omega) (by omega) h57 g0i9 j hj))) (by first | (intro q hq1 hq2; exfalso; omega) | (intro q hq1 hq2; by_cases e9 : mI Mq0 54 18 ≤ q; (exact g0i10 q e9 hq2); (rw [← congrFun kp0_60 q, show q = (mI Mq0 54 18 - 1).toNat by omega, ← hrkE]; omega))) (by omega) (by first | rfl | exact hj13.trans g0i12) (by first | exact Sd.nil | exact Sd.pop g0i13 (by omega) rfl (by omega) (by first | exact h60 | exact kp_sI h60 rfl) (by omega) (by first | exact hco | exact (Co.same (kp_sI rfl rfl) rfl rfl).trans hco)) (Nat.lt_succ_self _)

set_option maxHeartbeats 4000000 in
set_option maxRecDepth 4000 in
theorem sfX12_openedF {l : Launch} {M : Mem} (hB : Box M) (S : Int) (g : Nat → Int) (n p : Int) (hT : RT g n M p) (sk : List Int) (hS : SJ M sk) (o : Int) (p0 : PI M S) (p1 : mI M 54 14 = 873 * mI M 55 5) (p2 : mI M 54 10 ≤ mI M 54 9) (p3 : mI M 54 11 = 0 ∨ mI M 54 10 < mI M 54 9) (p4 : mI M 54 20 = 0) (p5 : mI M 54 11 ≠ 0) (p6 : o = 2 ∨ o = 40 ∨ o = 41 ∨ o = 43) (p7 : 41 ≤ o ∧ (tk g n p = 122 ∨ tk g n p = 123) ∨ o = 40 ∧ tk g n p = -260 ∨ o = 2 ∧ tk g n p = -255) : Call l mdX12_opened [aR 54, aI o] M (fun q N => ∃ r : Int, q = some (aI r) ∧ BF fT M N ∧ mI N 55 = mI M 55 ∧ 0 ≤ r ∧ r ≤ 3 ∧ (r = 0 → PI N S) ∧ (r ≠ 0 ∨ mI M 54 10 < mI N 54 10) ∧ mI N 54 10 ≤ mI N 54 9 ∧ (mI N 54 11 = 0 ∨ mI N 54 10 < mI N 54 9) ∧ mI N 54 14 = mI M 54 14 ∧ mI N 54 16 = mI M 54 16 ∧ mI N 54 21 = mI M 54 21 ∧ (∀ j : Nat, (j : Int) < mI M 54 14 + 265 + 2 * S → mI N 57 j = mI M 57 j) ∧ mI M 54 10 ≤ mI N 54 10 ∧ mI N 54 20 = 0 ∧ ((OPr g n N r o p sk) ∧ (r = 0 → Pl N = o :: Pl M ∧ Co N S = Co M S))) := by
  have hB0 : BF fT M M := BF.start hB
  refine Call.of [some (aR 54), some (aI o)] rfl (Nat.le_of_ble_eq_true rfl) rfl ?_
  refine vc_ok (fun hoM hoS hoL => ?_)
  have hr1 : -2147483648 ≤ o ∧ o < 2147483648 := hoL 1 _ rfl
  have hle := p0.len
  have hk9 := b54_9 hB
  have hk5 := b55_5 hB
  have rg1 := RT.rg hT
  refine vc_aload_n dX12_opened_0 rfl ?_
  refine vc_getI dX12_opened_1 flX12_190 (s_54 hB0.1.1) rfl ?_
  refine vc_bipush dX12_opened_4 rfl ?_
  refine vc_icmp_ne dX12_opened_6 (fun h2 => ?_) (fun h2 => ?_)
  · refine vc_aload_n dX12_opened_11 rfl ?_
    refine vc_dup dX12_opened_12 rfl ?_
    refine vc_getI dX12_opened_13 flX12_190 (s_54 hB0.1.1) rfl ?_
    refine vc_iconst dX12_opened_16 rfl ?_
    refine vc_iaddE dX12_opened_17 (by omega) (by omega) ?_
    refine vc_putI dX12_opened_18 (plX12_190 _ rfl) (s_54 hB0.1.1) rfl ?_
    have kp3 : mI (sI M 54 19 ((mI M 54 19) + 1)) 55 = mI M 55 := (kp_sI rfl rfl)
    have hB4 : BF fT M (sI M 54 19 ((mI M 54 19) + 1)) := BF.w54_19 hB0 rfl
    refine vc_aload_n dX12_opened_21 rfl ?_
    refine vc_getR dX12_opened_22 flX12_32 (s_54 hB4.1.1) rfl (r_54_17 hB4.1.1) ?_
    refine vc_aload_n dX12_opened_25 rfl ?_
    refine vc_getI dX12_opened_26 flX12_180 (s_54 hB4.1.1) rfl ?_
    refine vc_topI (mI M 54 18) rfl ?_
    have k5 : 0 ≤ mI M 54 18 ∧ mI M 54 18 ≤ 160 := b54_18 (M := (sI M 54 19 ((mI M 54 19) + 1))) hB4.1
    refine vc_iload_n dX12_opened_29 rfl ?_
    refine vc_iastore dX12_opened_30 (s_60 hB4.1.1) (by omega) (by omega) ?_
    have kp6 : mI (sI (sI M 54 19 ((mI M 54 19) + 1)) 60 ((mI M 54 18).toNat) o) 55 = mI M 55 := (kp_sI kp3 rfl)
    have hB7 : BF fT M (sI (sI M 54 19 ((mI M 54 19) + 1)) 60 ((mI M 54 18).toNat) o) := BF.w60 hB4 (fun _ => rfl) _
    refine vc_aload_n dX12_opened_31 rfl ?_
    refine vc_dup dX12_opened_32 rfl ?_
    refine vc_getI dX12_opened_33 flX12_180 (s_54 hB7.1.1) rfl ?_
    refine vc_topI (mI M 54 18) rfl ?_
    have k8 : 0 ≤ mI M 54 18 ∧ mI M 54 18 ≤ 160 := b54_18 (M := (sI (sI M 54 19 ((mI M 54 19) + 1)) 60 ((mI M 54 18).toNat) o)) hB7.1
    refine vc_iconst dX12_opened_36 rfl ?_
    refine vc_iaddE dX12_opened_37 (by omega) (by omega) ?_
    refine vc_putI dX12_opened_38 (plX12_180 _ rfl) (s_54 hB7.1.1) rfl ?_
    have kp9 : mI (sI (sI (sI M 54 19 ((mI M 54 19) + 1)) 60 ((mI M 54 18).toNat) o) 54 18 ((mI M 54 18) + 1)) 55 = mI M 55 := (kp_sI kp6 rfl)
    have hB10 : BF fT M (sI (sI (sI M 54 19 ((mI M 54 19) + 1)) 60 ((mI M 54 18).toNat) o) 54 18 ((mI M 54 18) + 1)) := BF.w54_18 hB7 rfl (by omega) (by omega)
    refine vc_aload_n dX12_opened_41 rfl ?_
    have hgf := RT.gf hT hB10.2.2
    have hat0 := RT.at hT (by omega)
    have hrg0 := RT.rg hT
    have k11 : mI (sI (sI (sI M 54 19 ((mI M 54 19) + 1)) 60 ((mI M 54 18).toNat) o) 54 18 ((mI M 54 18) + 1)) 54 9 = mI M 54 9 := rfl
    have k12 : mI (sI (sI (sI M 54 19 ((mI M 54 19) + 1)) 60 ((mI M 54 18).toNat) o) 54 18 ((mI M 54 18) + 1)) 54 10 = mI M 54 10 := rfl
    have k13 : mI (sI (sI (sI M 54 19 ((mI M 54 19) + 1)) 60 ((mI M 54 18).toNat) o) 54 18 ((mI M 54 18) + 1)) 54 11 = mI M 54 11 := rfl
    have k14 : mI (sI (sI (sI M 54 19 ((mI M 54 19) + 1)) 60 ((mI M 54 18).toNat) o) 54 18 ((mI M 54 18) + 1)) 54 14 = mI M 54 14 := rfl
    have k15 : mI (sI (sI (sI M 54 19 ((mI M 54 19) + 1)) 60 ((mI M 54 18).toNat) o) 54 18 ((mI M 54 18) + 1)) 54 15 = mI M 54 15 := rfl
    have k16 : mI (sI (sI (sI M 54 19 ((mI M 54 19) + 1)) 60 ((mI M 54 18).toNat) o) 54 18 ((mI M 54 18) + 1)) 54 16 = mI M 54 16 := rfl
    have k17 : mI (sI (sI (sI M 54 19 ((mI M 54 19) + 1)) 60 ((mI M 54 18).toNat) o) 54 18 ((mI M 54 18) + 1)) 54 18 = (mI M 54 18) + 1 := rfl
    have k18 : mI (sI (sI (sI M 54 19 ((mI M 54 19) + 1)) 60 ((mI M 54 18).toNat) o) 54 18 ((mI M 54 18) + 1)) 54 19 = (mI M 54 19) + 1 := rfl
    have k19 : mI (sI (sI (sI M 54 19 ((mI M 54 19) + 1)) 60 ((mI M 54 18).toNat) o) 54 18 ((mI M 54 18) + 1)) 54 20 = mI M 54 20 := rfl
    have k20 : mI (sI (sI (sI M 54 19 ((mI M 54 19) + 1)) 60 ((mI M 54 18).toNat) o) 54 18 ((mI M 54 18) + 1)) 54 21 = mI M 54 21 := rfl
    refine vc_cVU dX12_opened_42 (sfX12_nextTokenF (M := (sI (sI (sI M 54 19 ((mI M 54 19) + 1)) 60 ((mI M 54 18).toNat) o) 54 18 ((mI M 54 18) + 1))) hB10.1   (by first | (rw [hgf.2.1]; omega) | omega) (by first | (rw [hgf.1]; exact hgf.2.2) | assumption)) rfl okX12_nextToken viX12_nextToken lkX12_193 (s_54 hB10.1.1) cl_12 rfl (Nat.le_of_ble_eq_true rfl) ⟨rfl, rfl⟩ (Nat.le_of_ble_eq_true rfl) (Nat.le_of_ble_eq_true rfl) (Nat.le_of_ble_eq_true rfl) ?_
    rintro M21 ⟨hB22, kp23, kp24, kp25, h26, h27, h28, h29, h30, h31, h32, h33, h34, h35, h36⟩
    have hB37 : BF fT M M21 := BF.go hB10 hB22.t
    have kp38 : mI M21 55 = mI M 55 := kp_go kp9 kp23
    have rt39 : RT g n M21 (nx g n p) := by
      have z := h36
      rw [hgf.1, hgf.2.1, show mI (sI (sI (sI M 54 19 ((mI M 54 19) + 1)) 60 ((mI M 54 18).toNat) o) 54 18 ((mI M 54 18) + 1)) 54 9 = en g n p by first | omega | (show mI M 54 9 = _; omega)] at z
      exact z
    clear hrg0
    have rg40 := RT.rg rt39
    have fr41 : ∀ j : Nat, (j : Int) < mI M 54 14 + 265 + 2 * S → mI M21 57 j = mI M 57 j := fun j hj => (congrFun kp24 j).trans ((fun _ _ => rfl) j hj)
    have hbx := b54_10 (M := M21) hB37.1
    have hPI42 : PI M21 S := PI.opn (M := M) (o := o) p0 (by omega) p6 (by omega) kp24 (by first | exact kp25 | (rw [kp25]; funext b; rfl)) (by omega) (by omega) (by omega) (by omega) (by omega) (by omega) (by omega)
    have hPl1 : Pl M21 = o :: Pl M := Pl.push (by omega) (by first | exact kp25 | (rw [kp25]; funext b; rfl)) (by omega)
    have hCo1 : Co M21 S = Co M S := Co.same (show mI M21 57 = mI M 57 from kp24) (by omega) (by omega)
    have hSJ1 : SJ M21 ((if o = 43 then 41 else o) :: sk) := SJ.push hS.1 (by omega) (by first | exact kp25 | (rw [kp25]; funext b; rfl)) (by omega) (by omega) (by omega)
    refine vc_iload_n dX12_opened_45 rfl ?_
    refine vc_bipush dX12_opened_46 rfl ?_
    refine vc_icmp_ge dX12_opened_48 (fun h43 => ?_) (fun h43 => ?_)
    · refine vc_aload_n dX12_opened_53 rfl ?_
      refine vc_bipush dX12_opened_54 rfl ?_
      refine vc_bipush dX12_opened_56 rfl ?_
      refine vc_cSL dX12_opened_58 (sfX12_w2F (M := M21) hB37.1  111 102 ) rfl okX12_w2 stX12_w2 lkX12_151 rfl (Nat.le_of_ble_eq_true rfl) ⟨rfl, rfl⟩ (Nat.le_of_ble_eq_true rfl) (Nat.le_of_ble_eq_true rfl) (Nat.le_of_ble_eq_true rfl) ?_
      rintro x44 _ ⟨rfl, h45⟩
      have hw46 : x44 = 28518 := h45.trans (by decide +kernel)
      refine vc_cVI dX12_opened_61 (sfX12_isWordF (M := M21) hB37.1  x44 ) rfl okX12_isWord viX12_isWord lkX12_196 (s_54 hB37.1.1) cl_12 rfl (Nat.le_of_ble_eq_true rfl) ⟨rfl, rfl⟩ (Nat.le_of_ble_eq_true rfl) (Nat.le_of_ble_eq_true rfl) (Nat.le_of_ble_eq_true rfl) ?_
      rintro x47 _ ⟨rfl, h48, h49, h50⟩
      have hz51 := isw h50 (RT.iw rt39 19 (by decide) (hw46.trans pk_19) (t := 120) (by decide))
      clear h50
      refine vc_if_ne dX12_opened_64 (fun h52 => ?_) (fun h52 => ?_)
      · refine vc_aload_n dX12_opened_69 rfl ?_
        have hgf := RT.gf hT hB37.2.2
        have hat0 := RT.at rt39 (by omega)
        have hrg0 := RT.rg rt39
        refine vc_cVU dX12_opened_70 (sfX12_nextTokenF (M := M21) hB37.1   (by first | (rw [hgf.2.1]; omega) | omega) (by first | (rw [hgf.1]; exact hgf.2.2) | assumption)) rfl okX12_nextToken viX12_nextToken lkX12_193 (s_54 hB37.1.1) cl_12 rfl (Nat.le_of_ble_eq_true rfl) ⟨rfl, rfl⟩ (Nat.le_of_ble_eq_true rfl) (Nat.le_of_ble_eq_true rfl) (Nat.le_of_ble_eq_true rfl) ?_
        rintro M53 ⟨hB54, kp55, kp56, kp57, h58, h59, h60, h61, h62, h63, h64, h65, h66, h67, h68⟩
        have hB69 : BF fT M M53 := BF.go hB37 hB54.t
        have kp70 : mI M53 55 = mI M 55 := kp_go kp38 kp55
        have rt71 : RT g n M53 (nx g n (nx g n p)) := by
          have z := h68
          rw [hgf.1, hgf.2.1, show mI M21 54 9 = en g n (nx g n p) by first | omega | (show mI M21 54 9 = _; omega)] at z
          exact z
        clear hrg0
        have rg72 := RT.rg rt71
        have fr73 : ∀ j : Nat, (j : Int) < mI M 54 14 + 265 + 2 * S → mI M53 57 j = mI M 57 j := fun j hj => (congrFun kp56 j).trans (fr41 j hj)
        have hbx := b54_10 (M := M53) hB69.1
        have hPI74 : PI M53 S := PI.tok (M := M21) hPI42 kp56 kp57 (by omega) (by omega) (by omega) (by omega) (by omega) (by omega) (by omega)
        have hPl2 : Pl M53 = o :: Pl M := (Pl.same kp57 (by omega)).trans hPl1
        have hCo2 : Co M53 S = Co M S := (Co.same kp56 (by omega) (by omega)).trans hCo1
        have hSJ2 : SJ M53 ((if o = 43 then 41 else o) :: sk) := SJ.same hSJ1 kp57 (by omega) (by omega)
        refine vc_iconst dX12_opened_73 rfl ?_
        refine vc_iret dX12_opened_74 rfl (Nat.le_of_ble_eq_true rfl) (Nat.le_of_ble_eq_true rfl) ?_
        have hsl := SI0.len hS.1 p0
        exact ⟨_, rfl, hB69, kp70, by omega, by omega, fun _ => hPI74, by omega, by omega, by omega, by omega, by omega, by omega, fr73, by omega, by omega, ⟨Or.inl ⟨rfl, by omega, hSJ2, _, rt71, Or.inr ⟨by omega, by omega, rfl⟩⟩, fun _ => ⟨hPl2, hCo2⟩⟩⟩
      · refine vc_iconst dX12_opened_67 rfl ?_
        refine vc_iret dX12_opened_68 rfl (Nat.le_of_ble_eq_true rfl) (Nat.le_of_ble_eq_true rfl) ?_
        have hsl := SI0.len hS.1 p0
        exact ⟨_, rfl, hB37, kp38, by omega, by omega, fun h => absurd h (by decide), by omega, by omega, by omega, by omega, by omega, by omega, fr41, by omega, by omega, ⟨Or.inr (Or.inr ⟨rfl, by omega, by omega, by omega, by omega⟩), fun h => absurd h (by decide)⟩⟩
    · refine vc_iconst dX12_opened_51 rfl ?_
      refine vc_iret dX12_opened_52 rfl (Nat.le_of_ble_eq_true rfl) (Nat.le_of_ble_eq_true rfl) ?_
      have hsl := SI0.len hS.1 p0
      exact ⟨_, rfl, hB37, kp38, by omega, by omega, fun _ => hPI42, by omega, by omega, by omega, by omega, by omega, by omega, fr41, by omega, by omega, ⟨Or.inl ⟨rfl, by omega, hSJ1, _, rt39, Or.inl ⟨by omega, rfl⟩⟩, fun _ => ⟨hPl1, hCo1⟩⟩⟩
  · refine vc_iconst dX12_opened_9 rfl ?_
    refine vc_iret dX12_opened_10 rfl (Nat.le_of_ble_eq_true rfl) (Nat.le_of_ble_eq_true rfl) ?_
    have hsl := SI0.len hS.1 p0
    exact ⟨_, rfl, hB0, rfl, by omega, by omega, fun h => absurd h (by decide), by omega, by omega, by omega, by omega, by omega, by omega, (fun _ _ => rfl), by omega, by omega, ⟨Or.inr (Or.inl ⟨rfl, by omega, by omega⟩), fun h => absurd h (by decide)⟩⟩
