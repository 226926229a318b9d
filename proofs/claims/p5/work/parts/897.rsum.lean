/-! THE REFERENCE'S SUMS against the spec -/
def SI0 (M : Mem) (s : List Int) : Prop := s = stk (mI M 60) (mI M 54 18).toNat ∧ OM (mI M 60) (mI M 54 18).toNat
def SJ (M : Mem) (s : List Int) : Prop := SI0 M s ∧ (mI M 54 20 = 1 → mI M 54 18 = 0 ∨ mI M 60 (mI M 54 18 - 1).toNat ≠ 2)
theorem SI0.same {M N : Mem} {s : List Int} (h : SI0 M s) (e60 : mI N 60 = mI M 60) (e18 : mI N 54 18 = mI M 54 18) : SI0 N s := by
  unfold SI0
  rw [e60, e18]
  exact h
theorem SJ.same {M N : Mem} {s : List Int} (h : SJ M s) (e60 : mI N 60 = mI M 60) (e18 : mI N 54 18 = mI M 54 18) (e20 : mI N 54 20 = mI M 54 20) : SJ N s := by
  unfold SJ SI0
  rw [e60, e18, e20]
  exact h
theorem PI.pl {M : Mem} {S : Int} (h : PI M S) : plO (mI M 60) (mI M 54 18).toNat := h.2.2.2.2.2.2.1
theorem SI0.len {M : Mem} {S : Int} {s : List Int} (h : SI0 M s) (hp : PI M S) : (s.length : Int) = mI M 54 19 := by
  rw [h.1, stk_len _ hp.pl]
  exact hp.2.2.2.2.2.2.2.1.symm
/-- one to shut more -/
theorem SJ.push {M N : Mem} {s : List Int} {o : Int} (h : SI0 M s) (h0 : 0 ≤ mI M 54 18) (e60 : mI N 60 = mI (sI M 60 (mI M 54 18).toNat o) 60) (e18 : mI N 54 18 = mI M 54 18 + 1) (e20 : mI N 54 20 = 0) (ho : o = 2 ∨ o = 40 ∨ o = 41 ∨ o = 43) : SJ N ((if o = 43 then 41 else o) :: s) := by
  have hs : ∀ q, q < (mI M 54 18).toNat → mI (sI M 60 (mI M 54 18).toNat o) 60 q = mI M 60 q := fun q hq => by rw [mI_sI, if_neg (fun e => by omega)]
  refine ⟨⟨?_, ?_⟩, fun e => by omega⟩
  · have e1 : stk (mI N 60) (mI N 54 18).toNat = (if o = 43 then 41 else if o = 44 then 42 else o) :: s := by
      rw [e60, e18, show (mI M 54 18 + 1).toNat = (mI M 54 18).toNat + 1 by omega, stk, mI_same, if_neg (by omega), stk_co _ hs, ← h.1]
    rw [e1]
    by_cases e : o = 43
    · rw [if_pos e, if_pos e]
    · rw [if_neg e, if_neg e, if_neg (by omega)]
  · rw [e60, e18, show (mI M 54 18 + 1).toNat = (mI M 54 18).toNat + 1 by omega]
    intro j a b c
    by_cases e : j + 1 = (mI M 54 18).toNat
    · rw [e, mI_same] at b c
      omega
    · rw [hs _ (by omega)] at b c
      rw [hs _ (by omega)]
      exact h.2 j (by omega) b c
/-- one that waits more -/
theorem SJ.wait {M N : Mem} {s : List Int} {o : Int} (h : SI0 M s) (h0 : 0 ≤ mI M 54 18) (ht : mI M 54 18 = 0 ∨ mI M 60 (mI M 54 18 - 1).toNat ≠ 2) (e60 : mI N 60 = mI (sI M 60 (mI M 54 18).toNat o) 60) (e18 : mI N 54 18 = mI M 54 18 + 1) (e20 : mI N 54 20 = 0) (ho : 3 ≤ o ∧ o ≤ 6) : SJ N s := by
  have hs : ∀ q, q < (mI M 54 18).toNat → mI (sI M 60 (mI M 54 18).toNat o) 60 q = mI M 60 q := fun q hq => by rw [mI_sI, if_neg (fun e => by omega)]
  refine ⟨⟨?_, ?_⟩, fun e => by omega⟩
  · rw [e60, e18, show (mI M 54 18 + 1).toNat = (mI M 54 18).toNat + 1 by omega, stk, mI_same, if_pos ho, stk_co _ hs]
    exact h.1
  · rw [e60, e18, show (mI M 54 18 + 1).toNat = (mI M 54 18).toNat + 1 by omega]
    intro j a b c
    by_cases e : j + 1 = (mI M 54 18).toNat
    · rw [hs _ (by omega)]
      rcases ht with z | z
      · omega
      · rw [show (mI M 54 18 - 1).toNat = j by omega] at z
        exact z
    · rw [hs _ (by omega)] at b c
      rw [hs _ (by omega)]
      exact h.2 j (by omega) b c
theorem rk_3 {o : Int} (h : 3 ≤ rkI o) : o = 2 := by
  unfold rkI at h
  by_cases a : 40 ≤ o
  · rw [if_pos a] at h; omega
  · rw [if_neg a] at h
    by_cases b : o = 2
    · exact b
    · rw [if_neg b] at h
      split at h <;> omega
theorem rk_1 {o : Int} (h : 1 ≤ rkI o) : o < 40 := by
  by_cases a : 40 ≤ o
  · rw [rk_40 a] at h; omega
  · omega
/-- settlePile(3): the minuses go -/
theorem SJ.min {M N : Mem} {S : Int} {s : List Int} (h : SI0 M s) (hp : PI M S) (h60 : mI N 60 = mI M 60) (hle : mI N 54 18 ≤ mI M 54 18) (h0 : 0 ≤ mI N 54 18) (ht : mI N 54 18 = 0 ∨ rkI (mI N 60 (mI N 54 18 - 1).toNat) < 3) (hq : ∀ q : Nat, mI N 54 18 ≤ q → (q : Int) < mI M 54 18 → 3 ≤ rkI (mI M 60 q)) : SJ N (dm s) := by
  have ht2 : mI N 54 18 = 0 ∨ mI N 60 (mI N 54 18 - 1).toNat ≠ 2 := by
    rcases ht with e | e
    · exact Or.inl e
    · right
      intro z
      rw [z] at e
      exact absurd e (by decide)
  have ho : OM (mI M 60) (mI N 54 18).toNat := h.2.le (by omega)
  refine ⟨⟨?_, by rw [h60]; exact ho⟩, fun _ => ht2⟩
  have hpl : plO (mI M 60) (mI N 54 18).toNat := by
    have a := hp.pl
    have key : ∀ (d m : Nat), plO (mI M 60) (m + d) → plO (mI M 60) m := fun d => by
      induction d with
      | zero => intro m z; exact z
      | succ d ih => intro m z; exact ih m z.1
    exact key ((mI M 54 18).toNat - (mI N 54 18).toNat) _ (by rw [show (mI N 54 18).toNat + ((mI M 54 18).toNat - (mI N 54 18).toNat) = (mI M 54 18).toNat by omega]; exact a)
  have a := stk_min (f := mI M 60) ((mI M 54 18).toNat - (mI N 54 18).toNat) (mI N 54 18).toNat (fun q a b => rk_3 (hq q (by omega) (by omega)))
  rw [show (mI N 54 18).toNat + ((mI M 54 18).toNat - (mI N 54 18).toNat) = (mI M 54 18).toNat by omega, ← h.1] at a
  rw [a, h60]
  refine dm_top _ hpl ho ?_
  rcases ht2 with e | e
  · left; omega
  · right
    rw [h60, show (mI N 54 18 - 1).toNat = (mI N 54 18).toNat - 1 by omega] at e
    exact e
/-- settlePile(1), (2): what waits goes -/
theorem SJ.ops {M N : Mem} {S : Int} {s : List Int} (h : SJ M s) (hw : mI M 54 20 = 1) (hp : PI M S) (h60 : mI N 60 = mI M 60) (hle : mI N 54 18 ≤ mI M 54 18) (h0 : 0 ≤ mI N 54 18) (hq : ∀ q : Nat, mI N 54 18 ≤ q → (q : Int) < mI M 54 18 → mI M 60 q < 40) : SI0 N s ∧ (mI N 54 18 = 0 ∨ mI N 60 (mI N 54 18 - 1).toNat ≠ 2) := by
  have a := stk_ops (f := mI M 60) ((mI M 54 18).toNat - (mI N 54 18).toNat) (mI N 54 18).toNat
  rw [show (mI N 54 18).toNat + ((mI M 54 18).toNat - (mI N 54 18).toNat) = (mI M 54 18).toNat by omega] at a
  have b := a hp.pl h.1.2 (by
    rcases h.2 hw with e | e
    · left; omega
    · by_cases e0 : (mI M 54 18).toNat = 0
      · exact Or.inl e0
      · right
        rw [show (mI M 54 18 - 1).toNat = (mI M 54 18).toNat - 1 by omega] at e
        exact e) (fun q x y => hq q (by omega) (by omega))
  refine ⟨⟨by rw [h60, ← b.1]; exact h.1.1, by rw [h60]; exact h.1.2.le (by omega)⟩, ?_⟩
  rcases b.2 with e | e
  · left; omega
  · by_cases e0 : mI N 54 18 = 0
    · exact Or.inl e0
    · right
      rw [h60, show (mI N 54 18 - 1).toNat = (mI N 54 18).toNat - 1 by omega]
      exact e
/-- the one to shut is the stack's top -/
theorem SJ.opn {M : Mem} {S : Int} {s : List Int} {k : Nat} (h : SJ M s) (hw : mI M 54 20 = 1) (hp : PI M S) (hk : (k : Int) < mI M 54 18) (h40 : 40 ≤ mI M 60 k) (hq : ∀ q : Nat, k < q → (q : Int) < mI M 54 18 → mI M 60 q < 40) : s = (if mI M 60 k = 43 then 41 else if mI M 60 k = 44 then 42 else mI M 60 k) :: stk (mI M 60) k ∧ OM (mI M 60) k := by
  have a := stk_ops (f := mI M 60) ((mI M 54 18).toNat - (k + 1)) (k + 1)
  rw [show k + 1 + ((mI M 54 18).toNat - (k + 1)) = (mI M 54 18).toNat by omega] at a
  have b := a hp.pl h.1.2 (by
    rcases h.2 hw with e | e
    · left; omega
    · right
      rw [show (mI M 54 18 - 1).toNat = (mI M 54 18).toNat - 1 by omega] at e
      exact e) (fun q x y => hq q (by omega) (by omega))
  refine ⟨?_, h.1.2.le (by omega)⟩
  rw [h.1.1, b.1, stk, if_neg (by omega)]
theorem SJ.none {M : Mem} {S : Int} {s : List Int} (h : SJ M s) (hw : mI M 54 20 = 1) (hp : PI M S) (hq : ∀ q : Nat, (q : Int) < mI M 54 18 → mI M 60 q < 40) : s = [] := by
  have a := stk_ops (f := mI M 60) (mI M 54 18).toNat 0
  rw [Nat.zero_add] at a
  have b := a hp.pl h.1.2 (by
    rcases h.2 hw with e | e
    · left; omega
    · by_cases e0 : (mI M 54 18).toNat = 0
      · exact Or.inl e0
      · right
        rw [show (mI M 54 18 - 1).toNat = (mI M 54 18).toNat - 1 by omega] at e
        exact e) (fun q x y => hq q (by omega))
  rw [h.1.1, b.1]
  rfl
theorem SJ.new {M : Mem} (h : mI M 54 18 = 0) (h20 : mI M 54 20 = 0) : SJ M [] := by
  refine ⟨⟨by rw [h]; rfl, fun j a => ?_⟩, fun e => by omega⟩
  rw [h] at a
  exact absurd a (Nat.not_lt_zero _)
/-- the second of two, the shut one: the top is another, or gone -/
theorem SJ.two {M N : Mem} {t : List Int} {o : Int} {k : Nat} (ht : t = stk (mI M 60) k) (hom : OM (mI M 60) k) (e60 : mI N 60 = mI (sI M 60 k o) 60) (e18 : mI N 54 18 = (k : Int) + 1) (e20 : mI N 54 20 = 0) (ho : o = 42 ∨ o = 44) : SJ N (42 :: t) := by
  have hs : ∀ q, q < k → mI (sI M 60 k o) 60 q = mI M 60 q := fun q hq => by rw [mI_sI, if_neg (fun e => by omega)]
  refine ⟨⟨?_, ?_⟩, fun e => by omega⟩
  · rw [e60, e18, show ((k : Int) + 1).toNat = k + 1 by omega, stk, mI_same, if_neg (by omega), stk_co _ hs, ← ht]
    by_cases e : o = 44
    · rw [if_neg (by omega), if_pos e]
    · rw [if_neg (by omega), if_neg e, show o = 42 by omega]
  · rw [e60, e18, show ((k : Int) + 1).toNat = k + 1 by omega]
    intro j a b c
    by_cases e : j + 1 = k
    · rw [e, mI_same] at b c
      omega
    · rw [hs _ (by omega)] at b c
      rw [hs _ (by omega)]
      exact hom j (by omega) b c
def OPr (g : Nat → Int) (n : Int) (N : Mem) (r o p : Int) (s : List Int) : Prop := (r = 0 ∧ s.length < 8 ∧ SJ N ((if o = 43 then 41 else o) :: s) ∧ ∃ q, RT g n N q ∧ ((o < 41 ∧ q = nx g n p) ∨ (41 ≤ o ∧ tk g n (nx g n p) = 120 ∧ q = nx g n (nx g n p)))) ∨ (r = 3 ∧ 8 ≤ s.length ∧ mI N 54 10 = p) ∨ (r = 1 ∧ s.length < 8 ∧ 41 ≤ o ∧ tk g n (nx g n p) ≠ 120 ∧ mI N 54 10 = nx g n p)
def BO (g : Nat → Int) (n w : Int) (N : Mem) (r p : Int) (s : List Int) : Prop := (r = 0 ∧ ∃ s' q', SJ N s' ∧ RT g n N q' ∧ ∀ o, Rn (tk g n) (nx g n) w s' (decide (mI N 54 20 = 1)) q' o → Rn (tk g n) (nx g n) w s false p o) ∨ (r ≠ 0 ∧ Rn (tk g n) (nx g n) w s false p (r, mI N 54 10))
def BH (g : Nat → Int) (n w : Int) (N : Mem) (r p : Int) (s : List Int) : Prop := (r = 0 ∧ ∃ s' q', SJ N s' ∧ RT g n N q' ∧ ∀ o, Rn (tk g n) (nx g n) w s' (decide (mI N 54 20 = 1)) q' o → Rn (tk g n) (nx g n) w s true p o) ∨ (r = 1 ∧ SJ N s ∧ RT g n N p ∧ EOp g n p ∧ (s ≠ [] → Rn (tk g n) (nx g n) w s true p (1, p)))
theorem OPr.two {g : Nat → Int} {n w : Int} {N : Mem} {r o p : Int} {s : List Int} (h : OPr g n N r o p s) (ho : o = 41 ∨ o = 43) (h20 : r = 0 → mI N 54 20 = 0) (hk : tk g n p = 122 ∨ tk g n p = 123) : BO g n w N r p s := by
  rcases h with ⟨a, b, c, q, d, e⟩ | ⟨a, b, c⟩ | ⟨a, b, c, d, e⟩
  · refine Or.inl ⟨a, _, q, c, d, fun o2 z => ?_⟩
    rw [show decide (mI N 54 20 = 1) = false from decide_eq_false (by have := h20 a; omega), show (if o = 43 then (41 : Int) else o) = 41 by split <;> omega] at z
    rcases e with e | ⟨e1, e2, e3⟩
    · omega
    · rw [e3] at z
      exact r_two hk b e2 z
  · refine Or.inr ⟨by omega, ?_⟩
    rw [a, c]
    exact r_two3 hk b
  · refine Or.inr ⟨by omega, ?_⟩
    rw [a, e]
    exact r_two1 hk b d
theorem OPr.par {g : Nat → Int} {n w : Int} {N : Mem} {r p : Int} {s : List Int} (h : OPr g n N r 40 p s) (h20 : r = 0 → mI N 54 20 = 0) (hk : tk g n p = -260) : BO g n w N r p s := by
  rcases h with ⟨a, b, c, q, d, e⟩ | ⟨a, b, c⟩ | ⟨a, b, c, d, e⟩
  · refine Or.inl ⟨a, _, q, c, d, fun o2 z => ?_⟩
    rw [show decide (mI N 54 20 = 1) = false from decide_eq_false (by have := h20 a; omega)] at z
    rcases e with ⟨_, e⟩ | e
    · rw [e] at z
      exact r_par hk b z
    · omega
  · refine Or.inr ⟨by omega, ?_⟩
    rw [a, c]
    exact r_par3 hk b
  · omega
theorem OPr.neg {g : Nat → Int} {n w : Int} {N : Mem} {r p : Int} {s : List Int} (h : OPr g n N r 2 p s) (h20 : r = 0 → mI N 54 20 = 0) (hk : tk g n p = -255) : BO g n w N r p s := by
  rcases h with ⟨a, b, c, q, d, e⟩ | ⟨a, b, c⟩ | ⟨a, b, c, d, e⟩
  · refine Or.inl ⟨a, _, q, c, d, fun o2 z => ?_⟩
    rw [show decide (mI N 54 20 = 1) = false from decide_eq_false (by have := h20 a; omega)] at z
    rcases e with ⟨_, e⟩ | e
    · rw [e] at z
      exact r_neg hk b z
    · omega
  · refine Or.inr ⟨by omega, ?_⟩
    rw [a, c]
    exact r_neg3 hk b
  · omega
theorem dec_t {N : Mem} (h : mI N 54 20 = 1) : decide (mI N 54 20 = 1) = true := decide_eq_true h
theorem dec_f {N : Mem} (h : mI N 54 20 = 0) : decide (mI N 54 20 = 1) = false := decide_eq_false (by omega)
theorem rn_t {k x : Int → Int} {w : Int} {s : List Int} {p : Int} {o : Int × Int} {N : Mem} (h : mI N 54 20 = 1) (r : Rn k x w s (decide (mI N 54 20 = 1)) p o) : Rn k x w s true p o := by
  rw [dec_t h] at r; exact r
theorem rn_f {k x : Int → Int} {w : Int} {s : List Int} {p : Int} {o : Int × Int} {N : Mem} (h : mI N 54 20 = 0) (r : Rn k x w s (decide (mI N 54 20 = 1)) p o) : Rn k x w s false p o := by
  rw [dec_f h] at r; exact r

set_option maxRecDepth 4000 in
theorem sfX12_emitF {l : Launch} {M : Mem} (hB : Box M)  (o : Int) (v : Int) (p0 : mI M 54 14 = 873 * mI M 55 5) (p1 : mI M 54 15 ≤ 299) : Call l mdX12_emit [aR 54, aI o, aI v] M (fun q N => q = none ∧ BF fT M N ∧ mI N 55 = mI M 55 ∧ mI N 60 = mI M 60 ∧ mI N 54 15 = mI M 54 15 + 1 ∧ mI N 57 = mI (sI (sI M 57 (mI M 54 14 + 265 + 2 * mI M 54 15).toNat o) 57 (mI M 54 14 + 265 + 2 * mI M 54 15 + 1).toNat v) 57 ∧ mI N 54 9 = mI M 54 9 ∧ mI N 54 10 = mI M 54 10 ∧ mI N 54 11 = mI M 54 11 ∧ mI N 54 14 = mI M 54 14 ∧ mI N 54 16 = mI M 54 16 ∧ mI N 54 18 = mI M 54 18 ∧ mI N 54 19 = mI M 54 19 ∧ mI N 54 20 = mI M 54 20 ∧ mI N 54 21 = mI M 54 21 ∧ mI N 54 12 = mI M 54 12 ∧ mJ N 54 13 = mJ M 54 13) := by
  have hB0 : BF fT M M := BF.start hB
  refine Call.of [some (aR 54), some (aI o), some (aI v)] rfl (Nat.le_of_ble_eq_true rfl) rfl ?_
  refine vc_ok (fun hoM hoS hoL => ?_)
  have hr1 : -2147483648 ≤ o ∧ o < 2147483648 := hoL 1 _ rfl
  have hr2 : -2147483648 ≤ v ∧ v < 2147483648 := hoL 2 _ rfl
  have hk5 := b55_5 hB
  refine vc_aload_n dX12_emit_0 rfl ?_
  refine vc_getR dX12_emit_1 flX12_16 (s_54 hB0.1.1) rfl (r_54_2 hB0.1.1) ?_
  refine vc_aload_n dX12_emit_4 rfl ?_
  refine vc_getI dX12_emit_5 flX12_167 (s_54 hB0.1.1) rfl ?_
  have k1 : 0 ≤ mI M 54 14 ∧ mI M 54 14 ≤ 2619 := b54_14 (M := M) hB0.1
  refine vc_sipush dX12_emit_8 rfl ?_
  refine vc_iaddE dX12_emit_11 (by omega) (by omega) ?_
  refine vc_iconst dX12_emit_12 rfl ?_
  refine vc_aload_n dX12_emit_13 rfl ?_
  refine vc_getI dX12_emit_14 flX12_170 (s_54 hB0.1.1) rfl ?_
  have k2 : 0 ≤ mI M 54 15 ∧ mI M 54 15 ≤ 300 := b54_15 (M := M) hB0.1
  refine vc_imulE dX12_emit_17 (by omega) (by omega) ?_
  refine vc_iaddE dX12_emit_18 (by omega) (by omega) ?_
  refine vc_iload_n dX12_emit_19 rfl ?_
  refine vc_iastore dX12_emit_20 (s_57 hB0.1.1) (by omega) (by omega) ?_
  have kp3 : mI (sI M 57 ((((mI M 54 14) + 265) + (2 * (mI M 54 15))).toNat) o) 60 = mI M 60 := (kp_sI rfl rfl)
  have kp4 : mI (sI M 57 ((((mI M 54 14) + 265) + (2 * (mI M 54 15))).toNat) o) 55 = mI M 55 := (kp_sI rfl rfl)
  have hB5 : BF fT M (sI M 57 ((((mI M 54 14) + 265) + (2 * (mI M 54 15))).toNat) o) := BF.x57 (x := ((mI M 54 14) + 265) + (2 * (mI M 54 15))) hB0 (by first | omega | (show 873 * mI M 55 5 ≤ _; omega))
  refine vc_aload_n dX12_emit_21 rfl ?_
  refine vc_getR dX12_emit_22 flX12_16 (s_54 hB5.1.1) rfl (r_54_2 hB5.1.1) ?_
  refine vc_aload_n dX12_emit_25 rfl ?_
  refine vc_getI dX12_emit_26 flX12_167 (s_54 hB5.1.1) rfl ?_
  refine vc_topI (mI M 54 14) rfl ?_
  have k6 : 0 ≤ mI M 54 14 ∧ mI M 54 14 ≤ 2619 := b54_14 (M := (sI M 57 ((((mI M 54 14) + 265) + (2 * (mI M 54 15))).toNat) o)) hB5.1
  refine vc_sipush dX12_emit_29 rfl ?_
  refine vc_iaddE dX12_emit_32 (by omega) (by omega) ?_
  refine vc_iconst dX12_emit_33 rfl ?_
  refine vc_aload_n dX12_emit_34 rfl ?_
  refine vc_getI dX12_emit_35 flX12_170 (s_54 hB5.1.1) rfl ?_
  refine vc_topI (mI M 54 15) rfl ?_
  have k7 : 0 ≤ mI M 54 15 ∧ mI M 54 15 ≤ 300 := b54_15 (M := (sI M 57 ((((mI M 54 14) + 265) + (2 * (mI M 54 15))).toNat) o)) hB5.1
  refine vc_imulE dX12_emit_38 (by omega) (by omega) ?_
  refine vc_iaddE dX12_emit_39 (by omega) (by omega) ?_
  refine vc_iconst dX12_emit_40 rfl ?_
  refine vc_iaddE dX12_emit_41 (by omega) (by omega) ?_
  refine vc_iload_n dX12_emit_42 rfl ?_
  refine vc_iastore dX12_emit_43 (s_57 hB5.1.1) (by omega) (by omega) ?_
  have kp8 : mI (sI (sI M 57 ((((mI M 54 14) + 265) + (2 * (mI M 54 15))).toNat) o) 57 (((((mI M 54 14) + 265) + (2 * (mI M 54 15))) + 1).toNat) v) 60 = mI M 60 := (kp_sI kp3 rfl)
  have kp9 : mI (sI (sI M 57 ((((mI M 54 14) + 265) + (2 * (mI M 54 15))).toNat) o) 57 (((((mI M 54 14) + 265) + (2 * (mI M 54 15))) + 1).toNat) v) 55 = mI M 55 := (kp_sI kp4 rfl)
  have hB10 : BF fT M (sI (sI M 57 ((((mI M 54 14) + 265) + (2 * (mI M 54 15))).toNat) o) 57 (((((mI M 54 14) + 265) + (2 * (mI M 54 15))) + 1).toNat) v) := BF.x57 (x := (((mI M 54 14) + 265) + (2 * (mI M 54 15))) + 1) hB5 (by first | omega | (show 873 * mI M 55 5 ≤ _; omega))
  refine vc_aload_n dX12_emit_44 rfl ?_
  refine vc_dup dX12_emit_45 rfl ?_
  refine vc_getI dX12_emit_46 flX12_170 (s_54 hB10.1.1) rfl ?_
  refine vc_topI (mI M 54 15) rfl ?_
  have k11 : 0 ≤ mI M 54 15 ∧ mI M 54 15 ≤ 300 := b54_15 (M := (sI (sI M 57 ((((mI M 54 14) + 265) + (2 * (mI M 54 15))).toNat) o) 57 (((((mI M 54 14) + 265) + (2 * (mI M 54 15))) + 1).toNat) v)) hB10.1
  refine vc_iconst dX12_emit_49 rfl ?_
  refine vc_iaddE dX12_emit_50 (by omega) (by omega) ?_
  refine vc_putI dX12_emit_51 (plX12_170 _ rfl) (s_54 hB10.1.1) rfl ?_
  have kp12 : mI (sI (sI (sI M 57 ((((mI M 54 14) + 265) + (2 * (mI M 54 15))).toNat) o) 57 (((((mI M 54 14) + 265) + (2 * (mI M 54 15))) + 1).toNat) v) 54 15 ((mI M 54 15) + 1)) 60 = mI M 60 := (kp_sI kp8 rfl)
  have kp13 : mI (sI (sI (sI M 57 ((((mI M 54 14) + 265) + (2 * (mI M 54 15))).toNat) o) 57 (((((mI M 54 14) + 265) + (2 * (mI M 54 15))) + 1).toNat) v) 54 15 ((mI M 54 15) + 1)) 55 = mI M 55 := (kp_sI kp9 rfl)
  have hB14 : BF fT M (sI (sI (sI M 57 ((((mI M 54 14) + 265) + (2 * (mI M 54 15))).toNat) o) 57 (((((mI M 54 14) + 265) + (2 * (mI M 54 15))) + 1).toNat) v) 54 15 ((mI M 54 15) + 1)) := BF.w54_15 hB10 rfl (by omega) (by omega)
  refine vc_vret dX12_emit_54 rfl (Nat.le_of_ble_eq_true rfl) (Nat.le_of_ble_eq_true rfl) ?_
  have k15 : mI (sI (sI (sI M 57 ((((mI M 54 14) + 265) + (2 * (mI M 54 15))).toNat) o) 57 (((((mI M 54 14) + 265) + (2 * (mI M 54 15))) + 1).toNat) v) 54 15 ((mI M 54 15) + 1)) 54 9 = mI M 54 9 := rfl
  have k16 : mI (sI (sI (sI M 57 ((((mI M 54 14) + 265) + (2 * (mI M 54 15))).toNat) o) 57 (((((mI M 54 14) + 265) + (2 * (mI M 54 15))) + 1).toNat) v) 54 15 ((mI M 54 15) + 1)) 54 10 = mI M 54 10 := rfl
  have k17 : mI (sI (sI (sI M 57 ((((mI M 54 14) + 265) + (2 * (mI M 54 15))).toNat) o) 57 (((((mI M 54 14) + 265) + (2 * (mI M 54 15))) + 1).toNat) v) 54 15 ((mI M 54 15) + 1)) 54 11 = mI M 54 11 := rfl
  have k18 : mI (sI (sI (sI M 57 ((((mI M 54 14) + 265) + (2 * (mI M 54 15))).toNat) o) 57 (((((mI M 54 14) + 265) + (2 * (mI M 54 15))) + 1).toNat) v) 54 15 ((mI M 54 15) + 1)) 54 14 = mI M 54 14 := rfl
  have k19 : mI (sI (sI (sI M 57 ((((mI M 54 14) + 265) + (2 * (mI M 54 15))).toNat) o) 57 (((((mI M 54 14) + 265) + (2 * (mI M 54 15))) + 1).toNat) v) 54 15 ((mI M 54 15) + 1)) 54 15 = (mI M 54 15) + 1 := rfl
  have k20 : mI (sI (sI (sI M 57 ((((mI M 54 14) + 265) + (2 * (mI M 54 15))).toNat) o) 57 (((((mI M 54 14) + 265) + (2 * (mI M 54 15))) + 1).toNat) v) 54 15 ((mI M 54 15) + 1)) 54 16 = mI M 54 16 := rfl
  have k21 : mI (sI (sI (sI M 57 ((((mI M 54 14) + 265) + (2 * (mI M 54 15))).toNat) o) 57 (((((mI M 54 14) + 265) + (2 * (mI M 54 15))) + 1).toNat) v) 54 15 ((mI M 54 15) + 1)) 54 18 = mI M 54 18 := rfl
  have k22 : mI (sI (sI (sI M 57 ((((mI M 54 14) + 265) + (2 * (mI M 54 15))).toNat) o) 57 (((((mI M 54 14) + 265) + (2 * (mI M 54 15))) + 1).toNat) v) 54 15 ((mI M 54 15) + 1)) 54 19 = mI M 54 19 := rfl
  have k23 : mI (sI (sI (sI M 57 ((((mI M 54 14) + 265) + (2 * (mI M 54 15))).toNat) o) 57 (((((mI M 54 14) + 265) + (2 * (mI M 54 15))) + 1).toNat) v) 54 15 ((mI M 54 15) + 1)) 54 20 = mI M 54 20 := rfl
  have k24 : mI (sI (sI (sI M 57 ((((mI M 54 14) + 265) + (2 * (mI M 54 15))).toNat) o) 57 (((((mI M 54 14) + 265) + (2 * (mI M 54 15))) + 1).toNat) v) 54 15 ((mI M 54 15) + 1)) 54 21 = mI M 54 21 := rfl
  have k25 : mI (sI (sI (sI M 57 ((((mI M 54 14) + 265) + (2 * (mI M 54 15))).toNat) o) 57 (((((mI M 54 14) + 265) + (2 * (mI M 54 15))) + 1).toNat) v) 54 15 ((mI M 54 15) + 1)) 54 12 = mI M 54 12 := rfl
  exact ⟨rfl, hB14, kp13, kp12, by omega, by exact kp_sI rfl rfl, by omega, by omega, by omega, by omega, by omega, by omega, by omega, by omega, by omega, by omega, by rfl⟩

set_option maxRecDepth 4000 in
theorem sfX12_settlePileF {l : Launch} {M : Mem} (hB : Box M) (S : Int) (e : Int) (p0 : 1 ≤ e) (p1 : e ≤ 3) (p2 : PI M S) (p3 : mI M 54 14 = 873 * mI M 55 5) (p4 : mI M 54 20 = 1) : Call l mdX12_settlePile [aR 54, aI e] M (fun q N => q = none ∧ BF fT M N ∧ mI N 55 = mI M 55 ∧ mI N 60 = mI M 60 ∧ PI N S ∧ mI N 54 9 = mI M 54 9 ∧ mI N 54 10 = mI M 54 10 ∧ mI N 54 11 = mI M 54 11 ∧ mI N 54 14 = mI M 54 14 ∧ mI N 54 16 = mI M 54 16 ∧ mI N 54 20 = mI M 54 20 ∧ mI N 54 21 = mI M 54 21 ∧ mI N 54 18 ≤ mI M 54 18 ∧ (∀ j : Nat, (j : Int) < mI M 54 14 + 265 + 2 * S → mI N 57 j = mI M 57 j) ∧ (mI N 54 18 = 0 ∨ rkI (mI N 60 (mI N 54 18 - 1).toNat) < e) ∧ (∀ q : Nat, mI N 54 18 ≤ q → (q : Int) < mI M 54 18 → e ≤ rkI (mI M 60 q)) ∧ mI N 54 12 = mI M 54 12 ∧ mJ N 54 13 = mJ M 54 13) := by
  have hB0 : BF fT M M := BF.start hB
  refine Call.of [some (aR 54), some (aI e)] rfl (Nat.le_of_ble_eq_true rfl) rfl ?_
  have lp0 : ∀ (n0 : Nat) (Mq0 : Mem) , (BF fT M Mq0) → (mI Mq0 60 = mI M 60) → (mI Mq0 55 = mI M 55) → (PI Mq0 S) → (mI Mq0 54 9 = mI M 54 9) → (mI Mq0 54 10 = mI M 54 10) → (mI Mq0 54 11 = mI M 54 11) → (mI Mq0 54 14 = mI M 54 14) → (mI Mq0 54 16 = mI M 54 16) → (mI Mq0 54 21 = mI M 54 21) → (mI Mq0 54 20 = 1) → (mI Mq0 54 18 ≤ mI M 54 18) → (∀ j : Nat, (j : Int) < mI M 54 14 + 265 + 2 * S → mI Mq0 57 j = mI M 57 j) → (∀ q : Nat, mI Mq0 54 18 ≤ q → (q : Int) < mI M 54 18 → e ≤ rkI (mI M 60 q)) → (mI Mq0 54 12 = mI M 54 12) → (mJ Mq0 54 13 = mJ M 54 13) → (mI Mq0 54 18).toNat < n0 → VC l mdX12_settlePile 0 [some (aR 54), some (aI e)] [] Mq0 0 0 (fun q N => q = none ∧ BF fT M N ∧ mI N 55 = mI M 55 ∧ mI N 60 = mI M 60 ∧ PI N S ∧ mI N 54 9 = mI M 54 9 ∧ mI N 54 10 = mI M 54 10 ∧ mI N 54 11 = mI M 54 11 ∧ mI N 54 14 = mI M 54 14 ∧ mI N 54 16 = mI M 54 16 ∧ mI N 54 20 = mI M 54 20 ∧ mI N 54 21 = mI M 54 21 ∧ mI N 54 18 ≤ mI M 54 18 ∧ (∀ j : Nat, (j : Int) < mI M 54 14 + 265 + 2 * S → mI N 57 j = mI M 57 j) ∧ (mI N 54 18 = 0 ∨ rkI (mI N 60 (mI N 54 18 - 1).toNat) < e) ∧ (∀ q : Nat, mI N 54 18 ≤ q → (q : Int) < mI M 54 18 → e ≤ rkI (mI M 60 q)) ∧ mI N 54 12 = mI M 54 12 ∧ mJ N 54 13 = mJ M 54 13) := by
    intro n0
    induction n0 with
    | zero => intro Mq0 hQ0 kp0_60 kp0_55 g0i0 g0i1 g0i2 g0i3 g0i4 g0i5 g0i6 g0i7 g0i8 g0i9 g0i10 g0i11 g0i12 hm0; exact absurd hm0 (Nat.not_lt_zero _)
    | succ n0 ih0 =>
      intro Mq0 hQ0 kp0_60 kp0_55 g0i0 g0i1 g0i2 g0i3 g0i4 g0i5 g0i6 g0i7 g0i8 g0i9 g0i10 g0i11 g0i12 hm0
      refine vc_aload_n dX12_settlePile_0 rfl ?_
      refine vc_getI dX12_settlePile_1 flX12_180 (s_54 hQ0.1.1) rfl ?_
      have k1 : 0 ≤ mI Mq0 54 18 ∧ mI Mq0 54 18 ≤ 160 := b54_18 (M := Mq0) hQ0.1
      refine vc_if_le dX12_settlePile_4 (fun h2 => ?_) (fun h2 => ?_)
      · refine vc_vret dX12_settlePile_75 rfl (Nat.le_of_ble_eq_true rfl) (Nat.le_of_ble_eq_true rfl) ?_
        exact ⟨rfl, hQ0, kp0_55, kp0_60, by exact g0i0, by omega, by omega, by omega, by omega, by omega, by omega, by omega, by omega, by exact g0i9, by first | (left; omega) | (right; omega), by exact g0i10, by omega, by exact g0i12⟩
      · refine vc_aload_n dX12_settlePile_7 rfl ?_
        refine vc_getR dX12_settlePile_8 flX12_32 (s_54 hQ0.1.1) rfl (r_54_17 hQ0.1.1) ?_
        refine vc_aload_n dX12_settlePile_11 rfl ?_
        refine vc_getI dX12_settlePile_12 flX12_180 (s_54 hQ0.1.1) rfl ?_
        refine vc_iconst dX12_settlePile_15 rfl ?_
        refine vc_isubE dX12_settlePile_16 (by omega) (by omega) ?_
        refine vc_iaload dX12_settlePile_17 (s_60 hQ0.1.1) (by omega) (by omega) ?_
        have k3 : mI Mq0 60 (((mI Mq0 54 18) - 1).toNat) = mI M 60 (((mI Mq0 54 18) - 1).toNat) := congrFun kp0_60 (((mI Mq0 54 18) - 1).toNat)
        refine vc_cSI dX12_settlePile_18 (sfX12_rank (M := Mq0) hQ0.1  (mI Mq0 60 (((mI Mq0 54 18) - 1).toNat)) ) rfl okX12_rank stX12_rank lkX12_183 rfl (Nat.le_of_ble_eq_true rfl) ⟨rfl, rfl⟩ (Nat.le_of_ble_eq_true rfl) (Nat.le_of_ble_eq_true rfl) (Nat.le_of_ble_eq_true rfl) ?_
        rintro x4 _ ⟨rfl, h5, h6, h7⟩
        have hrkE := h7
        refine vc_iload_n dX12_settlePile_21 rfl ?_
        refine vc_icmp_lt dX12_settlePile_22 (fun h8 => ?_) (fun h8 => ?_)
        · refine vc_vret dX12_settlePile_75 rfl (Nat.le_of_ble_eq_true rfl) (Nat.le_of_ble_eq_true rfl) ?_
          exact ⟨rfl, hQ0, kp0_55, kp0_60, by exact g0i0, by omega, by omega, by omega, by omega, by omega, by omega, by omega, by omega, by exact g0i9, by first | (left; omega) | (right; omega), by exact g0i10, by omega, by exact g0i12⟩
        · refine vc_aload_n dX12_settlePile_25 rfl ?_
          refine vc_dup dX12_settlePile_26 rfl ?_
          refine vc_getI dX12_settlePile_27 flX12_180 (s_54 hQ0.1.1) rfl ?_
          refine vc_iconst dX12_settlePile_30 rfl ?_
          refine vc_isubE dX12_settlePile_31 (by omega) (by omega) ?_
          refine vc_putI dX12_settlePile_32 (plX12_180 _ rfl) (s_54 hQ0.1.1) rfl ?_
          have kp9 : mI (sI Mq0 54 18 ((mI Mq0 54 18) - 1)) 60 = mI M 60 := (kp_sI kp0_60 rfl)
          have kp10 : mI (sI Mq0 54 18 ((mI Mq0 54 18) - 1)) 55 = mI M 55 := (kp_sI kp0_55 rfl)
          have hB11 : BF fT M (sI Mq0 54 18 ((mI Mq0 54 18) - 1)) := BF.w54_18 hQ0 rfl (by omega) (by omega)
          refine vc_aload_n dX12_settlePile_35 rfl ?_
          refine vc_aload_n dX12_settlePile_36 rfl ?_
          refine vc_getR dX12_settlePile_37 flX12_32 (s_54 hB11.1.1) rfl (r_54_17 hB11.1.1) ?_
          refine vc_aload_n dX12_settlePile_40 rfl ?_
          refine vc_getI dX12_settlePile_41 flX12_180 (s_54 hB11.1.1) rfl ?_
          refine vc_topI ((mI Mq0 54 18) - 1) rfl ?_
          refine vc_iaload dX12_settlePile_44 (s_60 hB11.1.1) (by omega) (by omega) ?_
          refine vc_topI (mI Mq0 60 (((mI Mq0 54 18) - 1).toNat)) rfl ?_
          refine vc_iconst dX12_settlePile_45 rfl ?_
          have k13 : mI (sI Mq0 54 18 ((mI Mq0 54 18) - 1)) 54 9 = mI Mq0 54 9 := rfl
          have k14 : mI (sI Mq0 54 18 ((mI Mq0 54 18) - 1)) 54 10 = mI Mq0 54 10 := rfl
          have k15 : mI (sI Mq0 54 18 ((mI Mq0 54 18) - 1)) 54 11 = mI Mq0 54 11 := rfl
          have k16 : mI (sI Mq0 54 18 ((mI Mq0 54 18) - 1)) 54 14 = mI Mq0 54 14 := rfl
          have k17 : mI (sI Mq0 54 18 ((mI Mq0 54 18) - 1)) 54 15 = mI Mq0 54 15 := rfl
          have k18 : mI (sI Mq0 54 18 ((mI Mq0 54 18) - 1)) 54 16 = mI Mq0 54 16 := rfl
          have k19 : mI (sI Mq0 54 18 ((mI Mq0 54 18) - 1)) 54 18 = (mI Mq0 54 18) - 1 := rfl
          have k20 : mI (sI Mq0 54 18 ((mI Mq0 54 18) - 1)) 54 19 = mI Mq0 54 19 := rfl
          have k21 : mI (sI Mq0 54 18 ((mI Mq0 54 18) - 1)) 54 20 = mI Mq0 54 20 := rfl
          have k22 : mI (sI Mq0 54 18 ((mI Mq0 54 18) - 1)) 54 21 = mI Mq0 54 21 := rfl
          have k23 : mI (sI Mq0 54 18 ((mI Mq0 54 18) - 1)) 54 12 = mI Mq0 54 12 := rfl
          have hz5 := congrFun kp10 5
          have hle := g0i0.len
          have htp := g0i0.top (by omega)
          have hrk6 : mI Mq0 60 (mI Mq0 54 18 - 1).toNat ≤ 6 := by
            have hr := hrkE
            unfold rkI at hr
            repeat' split at hr
            all_goals omega
          refine vc_cVU dX12_settlePile_46 (sfX12_emitF (M := (sI Mq0 54 18 ((mI Mq0 54 18) - 1))) hB11.1  (mI Mq0 60 (((mI Mq0 54 18) - 1).toNat)) 0 (by omega) (by omega)) rfl okX12_emit viX12_emit lkX12_186 (s_54 hB11.1.1) cl_12 rfl (Nat.le_of_ble_eq_true rfl) ⟨rfl, rfl⟩ (Nat.le_of_ble_eq_true rfl) (Nat.le_of_ble_eq_true rfl) (Nat.le_of_ble_eq_true rfl) ?_
          rintro M24 ⟨hB25, kp26, kp27, h28, h29, h30, h31, h32, h33, h34, h35, h36, h37, h38, h39, h40⟩
          have hB41 : BF fT M M24 := BF.go hB11 hB25
          have kp42 : mI M24 60 = mI M 60 := kp_go kp9 kp27
          have kp43 : mI M24 55 = mI M 55 := kp_go kp10 kp26
          have hidx : mI M24 60 (mI M24 54 18).toNat = mI Mq0 60 (mI Mq0 54 18 - 1).toNat := by rw [show (mI M24 54 18).toNat = (mI Mq0 54 18 - 1).toNat by omega]; exact congrFun kp27 _
          have h57 := h29
          have h60 := kp27
          have h55 := kp26
          have hj13 := h40
          refine vc_aload_n dX12_settlePile_49 rfl ?_
          refine vc_getR dX12_settlePile_50 flX12_32 (s_54 hB41.1.1) rfl (r_54_17 hB41.1.1) ?_
          refine vc_aload_n dX12_settlePile_53 rfl ?_
          refine vc_getI dX12_settlePile_54 flX12_180 (s_54 hB41.1.1) rfl ?_
          have k44 : 0 ≤ mI M24 54 18 ∧ mI M24 54 18 ≤ 160 := b54_18 (M := M24) hB41.1
          refine vc_iaload dX12_settlePile_57 (s_60 hB41.1.1) (by omega) (by omega) ?_
          have k45 : mI M24 60 ((mI M24 54 18).toNat) = mI M 60 ((mI M24 54 18).toNat) := congrFun kp42 ((mI M24 54 18).toNat)
          refine vc_iconst dX12_settlePile_58 rfl ?_
          refine vc_icmp_ne dX12_settlePile_59 (fun h46 => ?_) (fun h46 => ?_)
          · exact ih0 M24 hB41 kp42 kp43 (by first | exact p2 | exact PI.pop (M := Mq0) g0i0 g0i7 (by omega) rfl hrk6 (by first | exact h57 | exact kp_sI h57 rfl) (by first | exact h60 | exact kp_sI h60 rfl) (by omega) (by omega) (by omega) (by first | (rw [if_pos (by omega)]; omega) | (rw [if_neg (by omega)]; omega)) (by omega) (by omega) (by omega)) (by omega) (by omega) (by omega) (by omega) (by omega) (by omega) (by omega) (by omega) (by first | (intro j hj; rfl) | (first | exact fr_emit (by omega) (by omega) h57 g0i9 | (intro j hj; exact fr_emit (by omega) (by omega) h57 g0i9 j hj))) (by first | (intro q hq1 hq2; exfalso; omega) | (intro q hq1 hq2; by_cases e9 : mI Mq0 54 18 ≤ q; (exact g0i10 q e9 hq2); (rw [← congrFun kp0_60 q, show q = (mI Mq0 54 18 - 1).toNat by omega, ← hrkE]; omega))) (by omega) (by first | rfl | exact hj13.trans g0i12) (by omega)
          · refine vc_aload_n dX12_settlePile_62 rfl ?_
            refine vc_dup dX12_settlePile_63 rfl ?_
            refine vc_getI dX12_settlePile_64 flX12_190 (s_54 hB41.1.1) rfl ?_
            refine vc_iconst dX12_settlePile_67 rfl ?_
            refine vc_isubE dX12_settlePile_68 (by omega) (by omega) ?_
            refine vc_putI dX12_settlePile_69 (plX12_190 _ rfl) (s_54 hB41.1.1) rfl ?_
            have kp47 : mI (sI M24 54 19 ((mI M24 54 19) - 1)) 60 = mI M 60 := (kp_sI kp42 rfl)
            have kp48 : mI (sI M24 54 19 ((mI M24 54 19) - 1)) 55 = mI M 55 := (kp_sI kp43 rfl)
            have hB49 : BF fT M (sI M24 54 19 ((mI M24 54 19) - 1)) := BF.w54_19 hB41 rfl
            refine vc_goto dX12_settlePile_72 ?_
            have k50 : mI (sI M24 54 19 ((mI M24 54 19) - 1)) 54 9 = mI M24 54 9 := rfl
            have k51 : mI (sI M24 54 19 ((mI M24 54 19) - 1)) 54 10 = mI M24 54 10 := rfl
            have k52 : mI (sI M24 54 19 ((mI M24 54 19) - 1)) 54 11 = mI M24 54 11 := rfl
            have k53 : mI (sI M24 54 19 ((mI M24 54 19) - 1)) 54 14 = mI M24 54 14 := rfl
            have k54 : mI (sI M24 54 19 ((mI M24 54 19) - 1)) 54 15 = mI M24 54 15 := rfl
            have k55 : mI (sI M24 54 19 ((mI M24 54 19) - 1)) 54 16 = mI M24 54 16 := rfl
            have k56 : mI (sI M24 54 19 ((mI M24 54 19) - 1)) 54 18 = mI M24 54 18 := rfl
            have k57 : mI (sI M24 54 19 ((mI M24 54 19) - 1)) 54 19 = (mI M24 54 19) - 1 := rfl
            have k58 : mI (sI M24 54 19 ((mI M24 54 19) - 1)) 54 20 = mI M24 54 20 := rfl
            have k59 : mI (sI M24 54 19 ((mI M24 54 19) - 1)) 54 21 = mI M24 54 21 := rfl
            have k60 : mI (sI M24 54 19 ((mI M24 54 19) - 1)) 54 12 = mI M24 54 12 := rfl
            exact ih0 (sI M24 54 19 ((mI M24 54 19) - 1)) hB49 kp47 kp48 (by first | exact p2 | exact PI.pop (M := Mq0) g0i0 g0i7 (by omega) rfl hrk6 (by first | exact h57 | exact kp_sI h57 rfl) (by first | exact h60 | exact kp_sI h60 rfl) (by omega) (by omega) (by omega) (by first | (rw [if_pos (by omega)]; omega) | (rw [if_neg (by omega)]; omega)) (by omega) (by omega) (by omega)) (by omega) (by omega) (by omega) (by omega) (by omega) (by omega) (by omega) (by omega) (by first | (intro j hj; rfl) | (first | exact fr_emit (by omega) (by omega) h57 g0i9 | (intro j hj; exact fr_emit (by omega) (by omega) h57 g0i9 j hj))) (by first | (intro q hq1 hq2; exfalso; omega) | (intro q hq1 hq2; by_cases e9 : mI Mq0 54 18 ≤ q; (exact g0i10 q e9 hq2); (rw [← congrFun kp0_60 q, show q = (mI Mq0 54 18 - 1).toNat by omega, ← hrkE]; omega))) (by omega) (by first | rfl | exact hj13.trans g0i12) (by omega)
  exact lp0 _ M hB0 rfl rfl (by first | exact p2 | exact PI.pop (M := Mq0) g0i0 g0i7 (by omega) rfl hrk6 (by first | exact h57 | exact kp_sI h57 rfl) (by first | exact h60 | exact kp_sI h60 rfl) (by omega) (by omega) (by omega) (by first | (rw [if_pos (by omega)]; omega) | (rw [if_neg (by omega)]; omega)) (by omega) (by omega) (by omega)) (by omega) (by omega) (by omega) (by omega) (by omega) (by omega) (by omega) (by omega) (by first | (intro j hj; rfl) | (first | exact fr_emit (by omega) (by omega) h57 g0i9 | (intro j hj; exact fr_emit (by omega) (by omega) h57 g0i9 j hj))) (by first | (intro q hq1 hq2; exfalso; omega) | (intro q hq1 hq2; by_cases e9 : mI Mq0 54 18 ≤ q; (exact g0i10 q e9 hq2); (rw [← congrFun kp0_60 q, show q = (mI Mq0 54 18 - 1).toNat by omega, ← hrkE]; omega))) (by omega) (by first | rfl | exact hj13.trans g0i12) (Nat.lt_succ_self _)

set_option maxHeartbeats 4000000 in
set_option maxRecDepth 4000 in
theorem sfX12_openedF {l : Launch} {M : Mem} (hB : Box M) (S : Int) (g : Nat → Int) (n p : Int) (hT : RT g n M p) (sk : List Int) (hS : SJ M sk) (o : Int) (p0 : PI M S) (p1 : mI M 54 14 = 873 * mI M 55 5) (p2 : mI M 54 10 ≤ mI M 54 9) (p3 : mI M 54 11 = 0 ∨ mI M 54 10 < mI M 54 9) (p4 : mI M 54 20 = 0) (p5 : mI M 54 11 ≠ 0) (p6 : o = 2 ∨ o = 40 ∨ o = 41 ∨ o = 43) (p7 : 41 ≤ o ∧ (tk g n p = 122 ∨ tk g n p = 123) ∨ o = 40 ∧ tk g n p = -260 ∨ o = 2 ∧ tk g n p = -255) : Call l mdX12_opened [aR 54, aI o] M (fun q N => ∃ r : Int, q = some (aI r) ∧ BF fT M N ∧ mI N 55 = mI M 55 ∧ 0 ≤ r ∧ r ≤ 3 ∧ (r = 0 → PI N S) ∧ (r ≠ 0 ∨ mI M 54 10 < mI N 54 10) ∧ mI N 54 10 ≤ mI N 54 9 ∧ (mI N 54 11 = 0 ∨ mI N 54 10 < mI N 54 9) ∧ mI N 54 14 = mI M 54 14 ∧ mI N 54 16 = mI M 54 16 ∧ mI N 54 21 = mI M 54 21 ∧ (∀ j : Nat, (j : Int) < mI M 54 14 + 265 + 2 * S → mI N 57 j = mI M 57 j) ∧ mI M 54 10 ≤ mI N 54 10 ∧ mI N 54 20 = 0 ∧ OPr g n N r o p sk) := by
  have hB0 : BF fT M M := BF.start hB
  refine Call.of [some (aR 54), some (aI o)] rfl (Nat.le_of_ble_eq_true rfl) rfl ?_
  refine vc_ok (fun hoM hoS hoL => ?_)
  have hr1 : -2147483648 ≤ o ∧ o < 2147483648 := hoL 1 _ rfl
  have hle := p0.len
  have hk9 := b54_9 hB
  have hk5 := b55_5 hB
  have rg1 := RT.rg hT
  refine vc_aload_n dX12_opened_0 rfl ?_
  refine vc_getI dX12_opened_1 flX12_190 (s_54 hB0.1.1) rfl ?_
  refine vc_bipush dX12_opened_4 rfl ?_
  refine vc_icmp_ne dX12_opened_6 (fun h2 => ?_) (fun h2 => ?_)
  · refine vc_aload_n dX12_opened_11 rfl ?_
    refine vc_dup dX12_opened_12 rfl ?_
    refine vc_getI dX12_opened_13 flX12_190 (s_54 hB0.1.1) rfl ?_
    refine vc_iconst dX12_opened_16 rfl ?_
    refine vc_iaddE dX12_opened_17 (by omega) (by omega) ?_
    refine vc_putI dX12_opened_18 (plX12_190 _ rfl) (s_54 hB0.1.1) rfl ?_
    have kp3 : mI (sI M 54 19 ((mI M 54 19) + 1)) 55 = mI M 55 := (kp_sI rfl rfl)
    have hB4 : BF fT M (sI M 54 19 ((mI M 54 19) + 1)) := BF.w54_19 hB0 rfl
    refine vc_aload_n dX12_opened_21 rfl ?_
    refine vc_getR dX12_opened_22 flX12_32 (s_54 hB4.1.1) rfl (r_54_17 hB4.1.1) ?_
    refine vc_aload_n dX12_opened_25 rfl ?_
    refine vc_getI dX12_opened_26 flX12_180 (s_54 hB4.1.1) rfl ?_
    refine vc_topI (mI M 54 18) rfl ?_
    have k5 : 0 ≤ mI M 54 18 ∧ mI M 54 18 ≤ 160 := b54_18 (M := (sI M 54 19 ((mI M 54 19) + 1))) hB4.1
    refine vc_iload_n dX12_opened_29 rfl ?_
    refine vc_iastore dX12_opened_30 (s_60 hB4.1.1) (by omega) (by omega) ?_
    have kp6 : mI (sI (sI M 54 19 ((mI M 54 19) + 1)) 60 ((mI M 54 18).toNat) o) 55 = mI M 55 := (kp_sI kp3 rfl)
    have hB7 : BF fT M (sI (sI M 54 19 ((mI M 54 19) + 1)) 60 ((mI M 54 18).toNat) o) := BF.w60 hB4 (fun _ => rfl) _
    refine vc_aload_n dX12_opened_31 rfl ?_
    refine vc_dup dX12_opened_32 rfl ?_
    refine vc_getI dX12_opened_33 flX12_180 (s_54 hB7.1.1) rfl ?_
    refine vc_topI (mI M 54 18) rfl ?_
    have k8 : 0 ≤ mI M 54 18 ∧ mI M 54 18 ≤ 160 := b54_18 (M := (sI (sI M 54 19 ((mI M 54 19) + 1)) 60 ((mI M 54 18).toNat) o)) hB7.1
    refine vc_iconst dX12_opened_36 rfl ?_
    refine vc_iaddE dX12_opened_37 (by omega) (by omega) ?_
    refine vc_putI dX12_opened_38 (plX12_180 _ rfl) (s_54 hB7.1.1) rfl ?_
    have kp9 : mI (sI (sI (sI M 54 19 ((mI M 54 19) + 1)) 60 ((mI M 54 18).toNat) o) 54 18 ((mI M 54 18) + 1)) 55 = mI M 55 := (kp_sI kp6 rfl)
    have hB10 : BF fT M (sI (sI (sI M 54 19 ((mI M 54 19) + 1)) 60 ((mI M 54 18).toNat) o) 54 18 ((mI M 54 18) + 1)) := BF.w54_18 hB7 rfl (by omega) (by omega)
    refine vc_aload_n dX12_opened_41 rfl ?_
    have hgf := RT.gf hT hB10.2.2
    have hat0 := RT.at hT (by omega)
    have hrg0 := RT.rg hT
    have k11 : mI (sI (sI (sI M 54 19 ((mI M 54 19) + 1)) 60 ((mI M 54 18).toNat) o) 54 18 ((mI M 54 18) + 1)) 54 9 = mI M 54 9 := rfl
    have k12 : mI (sI (sI (sI M 54 19 ((mI M 54 19) + 1)) 60 ((mI M 54 18).toNat) o) 54 18 ((mI M 54 18) + 1)) 54 10 = mI M 54 10 := rfl
    have k13 : mI (sI (sI (sI M 54 19 ((mI M 54 19) + 1)) 60 ((mI M 54 18).toNat) o) 54 18 ((mI M 54 18) + 1)) 54 11 = mI M 54 11 := rfl
    have k14 : mI (sI (sI (sI M 54 19 ((mI M 54 19) + 1)) 60 ((mI M 54 18).toNat) o) 54 18 ((mI M 54 18) + 1)) 54 14 = mI M 54 14 := rfl
    have k15 : mI (sI (sI (sI M 54 19 ((mI M 54 19) + 1)) 60 ((mI M 54 18).toNat) o) 54 18 ((mI M 54 18) + 1)) 54 15 = mI M 54 15 := rfl
    have k16 : mI (sI (sI (sI M 54 19 ((mI M 54 19) + 1)) 60 ((mI M 54 18).toNat) o) 54 18 ((mI M 54 18) + 1)) 54 16 = mI M 54 16 := rfl
    have k17 : mI (sI (sI (sI M 54 19 ((mI M 54 19) + 1)) 60 ((mI M 54 18).toNat) o) 54 18 ((mI M 54 18) + 1)) 54 18 = (mI M 54 18) + 1 := rfl
    have k18 : mI (sI (sI (sI M 54 19 ((mI M 54 19) + 1)) 60 ((mI M 54 18).toNat) o) 54 18 ((mI M 54 18) + 1)) 54 19 = (mI M 54 19) + 1 := rfl
    have k19 : mI (sI (sI (sI M 54 19 ((mI M 54 19) + 1)) 60 ((mI M 54 18).toNat) o) 54 18 ((mI M 54 18) + 1)) 54 20 = mI M 54 20 := rfl
    have k20 : mI (sI (sI (sI M 54 19 ((mI M 54 19) + 1)) 60 ((mI M 54 18).toNat) o) 54 18 ((mI M 54 18) + 1)) 54 21 = mI M 54 21 := rfl
    refine vc_cVU dX12_opened_42 (sfX12_nextTokenF (M := (sI (sI (sI M 54 19 ((mI M 54 19) + 1)) 60 ((mI M 54 18).toNat) o) 54 18 ((mI M 54 18) + 1))) hB10.1   (by first | (rw [hgf.2.1]; omega) | omega) (by first | (rw [hgf.1]; exact hgf.2.2) | assumption)) rfl okX12_nextToken viX12_nextToken lkX12_193 (s_54 hB10.1.1) cl_12 rfl (Nat.le_of_ble_eq_true rfl) ⟨rfl, rfl⟩ (Nat.le_of_ble_eq_true rfl) (Nat.le_of_ble_eq_true rfl) (Nat.le_of_ble_eq_true rfl) ?_
    rintro M21 ⟨hB22, kp23, kp24, kp25, h26, h27, h28, h29, h30, h31, h32, h33, h34, h35, h36⟩
    have hB37 : BF fT M M21 := BF.go hB10 hB22.t
    have kp38 : mI M21 55 = mI M 55 := kp_go kp9 kp23
    have rt39 : RT g n M21 (nx g n p) := by
      have z := h36
      rw [hgf.1, hgf.2.1, show mI (sI (sI (sI M 54 19 ((mI M 54 19) + 1)) 60 ((mI M 54 18).toNat) o) 54 18 ((mI M 54 18) + 1)) 54 9 = en g n p by first | omega | (show mI M 54 9 = _; omega)] at z
      exact z
    clear hrg0
    have rg40 := RT.rg rt39
    have fr41 : ∀ j : Nat, (j : Int) < mI M 54 14 + 265 + 2 * S → mI M21 57 j = mI M 57 j := fun j hj => (congrFun kp24 j).trans ((fun _ _ => rfl) j hj)
    have hbx := b54_10 (M := M21) hB37.1
    have hPI42 : PI M21 S := PI.opn (M := M) (o := o) p0 (by omega) p6 (by omega) kp24 (by first | exact kp25 | (rw [kp25]; funext b; rfl)) (by omega) (by omega) (by omega) (by omega) (by omega) (by omega) (by omega)
    have hSJ1 : SJ M21 ((if o = 43 then 41 else o) :: sk) := SJ.push hS.1 (by omega) (by first | exact kp25 | (rw [kp25]; funext b; rfl)) (by omega) (by omega) (by omega)
    refine vc_iload_n dX12_opened_45 rfl ?_
    refine vc_bipush dX12_opened_46 rfl ?_
    refine vc_icmp_ge dX12_opened_48 (fun h43 => ?_) (fun h43 => ?_)
    · refine vc_aload_n dX12_opened_53 rfl ?_
      refine vc_bipush dX12_opened_54 rfl ?_
      refine vc_bipush dX12_opened_56 rfl ?_
      refine vc_cSL dX12_opened_58 (sfX12_w2F (M := M21) hB37.1  111 102 ) rfl okX12_w2 stX12_w2 lkX12_151 rfl (Nat.le_of_ble_eq_true rfl) ⟨rfl, rfl⟩ (Nat.le_of_ble_eq_true rfl) (Nat.le_of_ble_eq_true rfl) (Nat.le_of_ble_eq_true rfl) ?_
      rintro x44 _ ⟨rfl, h45⟩
      have hw46 : x44 = 28518 := h45.trans (by decide +kernel)
      refine vc_cVI dX12_opened_61 (sfX12_isWordF (M := M21) hB37.1  x44 ) rfl okX12_isWord viX12_isWord lkX12_196 (s_54 hB37.1.1) cl_12 rfl (Nat.le_of_ble_eq_true rfl) ⟨rfl, rfl⟩ (Nat.le_of_ble_eq_true rfl) (Nat.le_of_ble_eq_true rfl) (Nat.le_of_ble_eq_true rfl) ?_
      rintro x47 _ ⟨rfl, h48, h49, h50⟩
      have hz51 := isw h50 (RT.iw rt39 19 (by decide) (hw46.trans pk_19) (t := 120) (by decide))
      clear h50
      refine vc_if_ne dX12_opened_64 (fun h52 => ?_) (fun h52 => ?_)
      · refine vc_aload_n dX12_opened_69 rfl ?_
        have hgf := RT.gf hT hB37.2.2
        have hat0 := RT.at rt39 (by omega)
        have hrg0 := RT.rg rt39
        refine vc_cVU dX12_opened_70 (sfX12_nextTokenF (M := M21) hB37.1   (by first | (rw [hgf.2.1]; omega) | omega) (by first | (rw [hgf.1]; exact hgf.2.2) | assumption)) rfl okX12_nextToken viX12_nextToken lkX12_193 (s_54 hB37.1.1) cl_12 rfl (Nat.le_of_ble_eq_true rfl) ⟨rfl, rfl⟩ (Nat.le_of_ble_eq_true rfl) (Nat.le_of_ble_eq_true rfl) (Nat.le_of_ble_eq_true rfl) ?_
        rintro M53 ⟨hB54, kp55, kp56, kp57, h58, h59, h60, h61, h62, h63, h64, h65, h66, h67, h68⟩
        have hB69 : BF fT M M53 := BF.go hB37 hB54.t
        have kp70 : mI M53 55 = mI M 55 := kp_go kp38 kp55
        have rt71 : RT g n M53 (nx g n (nx g n p)) := by
          have z := h68
          rw [hgf.1, hgf.2.1, show mI M21 54 9 = en g n (nx g n p) by first | omega | (show mI M21 54 9 = _; omega)] at z
          exact z
        clear hrg0
        have rg72 := RT.rg rt71
        have fr73 : ∀ j : Nat, (j : Int) < mI M 54 14 + 265 + 2 * S → mI M53 57 j = mI M 57 j := fun j hj => (congrFun kp56 j).trans (fr41 j hj)
        have hbx := b54_10 (M := M53) hB69.1
        have hPI74 : PI M53 S := PI.tok (M := M21) hPI42 kp56 kp57 (by omega) (by omega) (by omega) (by omega) (by omega) (by omega) (by omega)
        have hSJ2 : SJ M53 ((if o = 43 then 41 else o) :: sk) := SJ.same hSJ1 kp57 (by omega) (by omega)
        refine vc_iconst dX12_opened_73 rfl ?_
        refine vc_iret dX12_opened_74 rfl (Nat.le_of_ble_eq_true rfl) (Nat.le_of_ble_eq_true rfl) ?_
        have hsl := SI0.len hS.1 p0
        exact ⟨_, rfl, hB69, kp70, by omega, by omega, fun _ => hPI74, by omega, by omega, by omega, by omega, by omega, by omega, fr73, by omega, by omega, Or.inl ⟨rfl, by omega, hSJ2, _, rt71, Or.inr ⟨by omega, by omega, rfl⟩⟩⟩
      · refine vc_iconst dX12_opened_67 rfl ?_
        refine vc_iret dX12_opened_68 rfl (Nat.le_of_ble_eq_true rfl) (Nat.le_of_ble_eq_true rfl) ?_
        have hsl := SI0.len hS.1 p0
        exact ⟨_, rfl, hB37, kp38, by omega, by omega, fun h => absurd h (by decide), by omega, by omega, by omega, by omega, by omega, by omega, fr41, by omega, by omega, Or.inr (Or.inr ⟨rfl, by omega, by omega, by omega, by omega⟩)⟩
    · refine vc_iconst dX12_opened_51 rfl ?_
      refine vc_iret dX12_opened_52 rfl (Nat.le_of_ble_eq_true rfl) (Nat.le_of_ble_eq_true rfl) ?_
      have hsl := SI0.len hS.1 p0
      exact ⟨_, rfl, hB37, kp38, by omega, by omega, fun _ => hPI42, by omega, by omega, by omega, by omega, by omega, by omega, fr41, by omega, by omega, Or.inl ⟨rfl, by omega, hSJ1, _, rt39, Or.inl ⟨by omega, rfl⟩⟩⟩
  · refine vc_iconst dX12_opened_9 rfl ?_
    refine vc_iret dX12_opened_10 rfl (Nat.le_of_ble_eq_true rfl) (Nat.le_of_ble_eq_true rfl) ?_
    have hsl := SI0.len hS.1 p0
    exact ⟨_, rfl, hB0, rfl, by omega, by omega, fun h => absurd h (by decide), by omega, by omega, by omega, by omega, by omega, by omega, (fun _ _ => rfl), by omega, by omega, Or.inr (Or.inl ⟨rfl, by omega, by omega⟩)⟩

set_option maxHeartbeats 4000000 in
set_option maxRecDepth 4000 in
theorem sfX12_beginOneF {l : Launch} {M : Mem} (hB : Box M) (S : Int) (g : Nat → Int) (n p : Int) (hT : RT g n M p) (sk : List Int) (hS : SJ M sk) (w : Int)  (p0 : PI M S) (p1 : mI M 54 14 = 873 * mI M 55 5) (p2 : mI M 54 10 ≤ mI M 54 9) (p3 : mI M 54 11 = 0 ∨ mI M 54 10 < mI M 54 9) (p4 : mI M 54 20 = 0) (p5 : mI M 54 16 = w) (p6 : 0 ≤ w) (p7 : w ≤ 4) : Call l mdX12_beginOne [aR 54] M (fun q N => ∃ r : Int, q = some (aI r) ∧ BF fT M N ∧ mI N 55 = mI M 55 ∧ 0 ≤ r ∧ r ≤ 5 ∧ (r = 0 → PI N S) ∧ (r ≠ 0 ∨ mI M 54 10 < mI N 54 10) ∧ mI N 54 10 ≤ mI N 54 9 ∧ (mI N 54 11 = 0 ∨ mI N 54 10 < mI N 54 9) ∧ mI N 54 14 = mI M 54 14 ∧ mI N 54 16 = mI M 54 16 ∧ mI N 54 21 = mI M 54 21 ∧ (∀ j : Nat, (j : Int) < mI M 54 14 + 265 + 2 * S → mI N 57 j = mI M 57 j) ∧ mI M 54 10 ≤ mI N 54 10 ∧ BO g n w N r p sk) := by
  have hB0 : BF fT M M := BF.start hB
  refine Call.of [some (aR 54), none] rfl (Nat.le_of_ble_eq_true rfl) rfl ?_
  have hle := p0.len
  have hk9 := b54_9 hB
  have hk5 := b55_5 hB
  have rg1 := RT.rg hT
  have nm2 := RT.nm hT
  have hw2 := RT.w2 hT
  have hs40 := RT.sg hT 40 (t := -260) (by decide) (by decide)
  have hs45 := RT.sg hT 45 (t := -255) (by decide) (by decide)
  refine vc_aload_n dX12_beginOne_0 rfl ?_
  refine vc_getI dX12_beginOne_1 flX12_129 (s_54 hB0.1.1) rfl ?_
  refine vc_iconst dX12_beginOne_4 rfl ?_
  refine vc_icmp_ne dX12_beginOne_5 (fun h3 => ?_) (fun h3 => ?_)
  · refine vc_aload_n dX12_beginOne_20 rfl ?_
    refine vc_cVI dX12_beginOne_21 (sfX12_nameOfF (M := M) hB0.1  g n p hT ) rfl okX12_nameOf viX12_nameOf lkX12_200 (s_54 hB0.1.1) cl_12 rfl (Nat.le_of_ble_eq_true rfl) ⟨rfl, rfl⟩ (Nat.le_of_ble_eq_true rfl) (Nat.le_of_ble_eq_true rfl) (Nat.le_of_ble_eq_true rfl) ?_
    rintro x4 _ ⟨rfl, h5, h6, h7, h8⟩
    have hnmf := h8
    refine vc_istore_n dX12_beginOne_24 (by decide) rfl (show _ = [some (aR 54), some (aI x4)] from rfl) ?_
    refine vc_iload_n dX12_beginOne_25 rfl ?_
    refine vc_if_lt dX12_beginOne_26 (fun h9 => ?_) (fun h9 => ?_)
    · refine vc_aload_n dX12_beginOne_39 rfl ?_
      refine vc_getI dX12_beginOne_40 flX12_129 (s_54 hB0.1.1) rfl ?_
      refine vc_iconst dX12_beginOne_43 rfl ?_
      refine vc_icmp_eq dX12_beginOne_44 (fun h10 => ?_) (fun h10 => ?_)
      · refine vc_aload_n dX12_beginOne_51 rfl ?_
        refine vc_aload_n dX12_beginOne_52 rfl ?_
        refine vc_getI dX12_beginOne_53 flX12_129 (s_54 hB0.1.1) rfl ?_
        refine vc_iconst dX12_beginOne_56 rfl ?_
        refine vc_icmp_ne dX12_beginOne_57 (fun h11 => by exfalso; omega) (fun h11 => ?_)
        refine vc_iconst dX12_beginOne_60 rfl ?_
        refine vc_goto dX12_beginOne_61 ?_
        refine vc_aload_n dX12_beginOne_65 rfl ?_
        refine vc_getI dX12_beginOne_66 flX12_129 (s_54 hB0.1.1) rfl ?_
        refine vc_iconst dX12_beginOne_69 rfl ?_
        refine vc_icmp_ne dX12_beginOne_70 (fun h12 => by exfalso; omega) (fun h12 => ?_)
        refine vc_aload_n dX12_beginOne_73 rfl ?_
        refine vc_getI dX12_beginOne_74 flX12_135 (s_54 hB0.1.1) rfl ?_
        refine vc_goto dX12_beginOne_77 ?_
        refine vc_cVU dX12_beginOne_81 (sfX12_emitF (M := M) hB0.1  0 (mI M 54 12) (by omega) (by omega)) rfl okX12_emit viX12_emit lkX12_186 (s_54 hB0.1.1) cl_12 rfl (Nat.le_of_ble_eq_true rfl) ⟨rfl, rfl⟩ (Nat.le_of_ble_eq_true rfl) (Nat.le_of_ble_eq_true rfl) (Nat.le_of_ble_eq_true rfl) ?_
        rintro M13 ⟨hB14, kp15, kp16, h17, h18, h19, h20, h21, h22, h23, h24, h25, h26, h27, h28, h29⟩
        have hB30 : BF fT M M13 := BF.go hB0 hB14
        have kp31 : mI M13 55 = mI M 55 := kp_go rfl kp15
        have h57 := h18
        have h60 := kp16
        have fr32 := fr_emit (A := M) (B := M) (t := mI M 54 14 + 265 + 2 * S) (by omega) (by omega) h57 (fun _ _ => rfl)
        refine vc_aload_n dX12_beginOne_84 rfl ?_
        have hgf := RT.gf hT hB30.2.2
        have hat0 := RT.at hT (by omega)
        have hrg0 := RT.rg hT
        refine vc_cVU dX12_beginOne_85 (sfX12_nextTokenF (M := M13) hB30.1   (by first | (rw [hgf.2.1]; omega) | omega) (by first | (rw [hgf.1]; exact hgf.2.2) | assumption)) rfl okX12_nextToken viX12_nextToken lkX12_193 (s_54 hB30.1.1) cl_12 rfl (Nat.le_of_ble_eq_true rfl) ⟨rfl, rfl⟩ (Nat.le_of_ble_eq_true rfl) (Nat.le_of_ble_eq_true rfl) (Nat.le_of_ble_eq_true rfl) ?_
        rintro M33 ⟨hB34, kp35, kp36, kp37, h38, h39, h40, h41, h42, h43, h44, h45, h46, h47, h48⟩
        have hB49 : BF fT M M33 := BF.go hB30 hB34.t
        have kp50 : mI M33 55 = mI M 55 := kp_go kp31 kp35
        have rt51 : RT g n M33 (nx g n p) := by
          have z := h48
          rw [hgf.1, hgf.2.1, show mI M13 54 9 = en g n p by first | omega | (show mI M13 54 9 = _; omega)] at z
          exact z
        clear hrg0
        have rg52 := RT.rg rt51
        have fr53 : ∀ j : Nat, (j : Int) < mI M 54 14 + 265 + 2 * S → mI M33 57 j = mI M 57 j := fun j hj => (congrFun kp36 j).trans (fr32 j hj)
        have hbx := b54_10 (M := M33) hB49.1
        refine vc_aload_n dX12_beginOne_88 rfl ?_
        refine vc_iconst dX12_beginOne_89 rfl ?_
        refine vc_putZ dX12_beginOne_90 (plX12_207 _ rfl) (s_54 hB49.1.1) rfl (by first | decide | omega) ?_
        have kp54 : mI (sI M33 54 20 1) 55 = mI M 55 := (kp_sI kp50 rfl)
        have hB55 : BF fT M (sI M33 54 20 1) := BF.w54_20 hB49 rfl
        refine vc_aload_n dX12_beginOne_93 rfl ?_
        refine vc_iconst dX12_beginOne_94 rfl ?_
        have k56 : mI (sI M33 54 20 1) 54 9 = mI M33 54 9 := rfl
        have k57 : mI (sI M33 54 20 1) 54 10 = mI M33 54 10 := rfl
        have k58 : mI (sI M33 54 20 1) 54 11 = mI M33 54 11 := rfl
        have k59 : mI (sI M33 54 20 1) 54 14 = mI M33 54 14 := rfl
        have k60 : mI (sI M33 54 20 1) 54 15 = mI M33 54 15 := rfl
        have k61 : mI (sI M33 54 20 1) 54 16 = mI M33 54 16 := rfl
        have k62 : mI (sI M33 54 20 1) 54 18 = mI M33 54 18 := rfl
        have k63 : mI (sI M33 54 20 1) 54 19 = mI M33 54 19 := rfl
        have k64 : mI (sI M33 54 20 1) 54 20 = 1 := rfl
        have k65 : mI (sI M33 54 20 1) 54 21 = mI M33 54 21 := rfl
        have hz5 := congrFun kp54 5
        have hPI66 : PI (sI M33 54 20 1) S := PI.num (M := M) (o := 0) (v := (mI M 54 12)) p0 (by omega) (by omega) (fun h => absurd h (by decide)) (kp36.trans h57) (kp37.trans h60) (by omega) (by omega) (by omega) (by omega) (by omega) (by omega) (by omega)
        have rt67 : RT g n (sI M33 54 20 1) (nx g n p) := RT.same rt51 (Fz.sI rfl) rfl rfl rfl rfl rfl
        have k6068 : mI (sI M33 54 20 1) 60 = mI M 60 := (show mI (sI M33 54 20 1) 60 = mI M33 60 from kp_sI rfl rfl).trans (kp37.trans h60)
        refine vc_cVU dX12_beginOne_95 (sfX12_settlePileF (M := (sI M33 54 20 1)) hB55.1  S 3 (by omega) (by omega) (by assumption) (by omega) (by omega)) rfl okX12_settlePile viX12_settlePile lkX12_211 (s_54 hB55.1.1) cl_12 rfl (Nat.le_of_ble_eq_true rfl) ⟨rfl, rfl⟩ (Nat.le_of_ble_eq_true rfl) (Nat.le_of_ble_eq_true rfl) (Nat.le_of_ble_eq_true rfl) ?_
        rintro M69 ⟨hB70, kp71, kp72, h73, h74, h75, h76, h77, h78, h79, h80, h81, h82, h83, h84, h85, h86⟩
        have hB87 : BF fT M M69 := BF.go hB55 hB70
        have kp88 : mI M69 55 = mI M 55 := kp_go kp54 kp71
        have fr89 : ∀ j : Nat, (j : Int) < mI M 54 14 + 265 + 2 * S → mI M69 57 j = mI M 57 j := fun j hj => (h82 j (by omega)).trans (fr53 j hj)
        have hl2 := h73.len
        have hSJn : SJ M69 (dm sk) := SJ.min (M := (sI M33 54 20 1)) (SI0.same hS.1 k6068 (by omega)) hPI66 kp72 (by omega) (by omega) h83 h84
        have rt90 : RT g n M69 (nx g n p) := RT.same rt67 hB70.2.2 (by omega) (by omega) (by omega) h85 h86
        refine vc_iconst dX12_beginOne_98 rfl ?_
        refine vc_iret dX12_beginOne_99 rfl (Nat.le_of_ble_eq_true rfl) (Nat.le_of_ble_eq_true rfl) ?_
        exact ⟨_, rfl, hB87, kp88, by omega, by omega, fun _ => h73, by omega, by omega, by omega, by omega, by omega, by omega, fr89, by omega, Or.inl ⟨rfl, _, _, hSJn, rt90, fun o z => r_num (by omega) (by omega) (rn_t (by omega) z)⟩⟩
      · refine vc_iload_n dX12_beginOne_47 rfl ?_
        refine vc_if_lt dX12_beginOne_48 (fun h91 => ?_) (fun h91 => by exfalso; omega)
        refine vc_aload_n dX12_beginOne_100 rfl ?_
        refine vc_bipush dX12_beginOne_101 rfl ?_
        refine vc_bipush dX12_beginOne_103 rfl ?_
        refine vc_bipush dX12_beginOne_105 rfl ?_
        refine vc_bipush dX12_beginOne_107 rfl ?_
        refine vc_bipush dX12_beginOne_109 rfl ?_
        refine vc_cSL dX12_beginOne_111 (sfX12_w5F (M := M) hB0.1  108 101 97 115 116 ) rfl okX12_w5 stX12_w5 lkX12_163 rfl (Nat.le_of_ble_eq_true rfl) ⟨rfl, rfl⟩ (Nat.le_of_ble_eq_true rfl) (Nat.le_of_ble_eq_true rfl) (Nat.le_of_ble_eq_true rfl) ?_
        rintro x92 _ ⟨rfl, h93⟩
        have hw94 : x92 = 465557353332 := h93.trans (by decide +kernel)
        refine vc_cVI dX12_beginOne_114 (sfX12_isWordF (M := M) hB0.1  x92 ) rfl okX12_isWord viX12_isWord lkX12_196 (s_54 hB0.1.1) cl_12 rfl (Nat.le_of_ble_eq_true rfl) ⟨rfl, rfl⟩ (Nat.le_of_ble_eq_true rfl) (Nat.le_of_ble_eq_true rfl) (Nat.le_of_ble_eq_true rfl) ?_
        rintro x95 _ ⟨rfl, h96, h97, h98⟩
        have hz99 := isw h98 (RT.iw hT 21 (by decide) (hw94.trans pk_21) (t := 122) (by decide))
        clear h98
        refine vc_if_eq dX12_beginOne_117 (fun h100 => ?_) (fun h100 => ?_)
        · refine vc_aload_n dX12_beginOne_127 rfl ?_
          refine vc_bipush dX12_beginOne_128 rfl ?_
          refine vc_bipush dX12_beginOne_130 rfl ?_
          refine vc_bipush dX12_beginOne_132 rfl ?_
          refine vc_bipush dX12_beginOne_134 rfl ?_
          refine vc_cSL dX12_beginOne_136 (sfX12_w4F (M := M) hB0.1  109 111 115 116 ) rfl okX12_w4 stX12_w4 lkX12_159 rfl (Nat.le_of_ble_eq_true rfl) ⟨rfl, rfl⟩ (Nat.le_of_ble_eq_true rfl) (Nat.le_of_ble_eq_true rfl) (Nat.le_of_ble_eq_true rfl) ?_
          rintro x101 _ ⟨rfl, h102⟩
          have hw103 : x101 = 1836020596 := h102.trans (by decide +kernel)
          refine vc_cVI dX12_beginOne_139 (sfX12_isWordF (M := M) hB0.1  x101 ) rfl okX12_isWord viX12_isWord lkX12_196 (s_54 hB0.1.1) cl_12 rfl (Nat.le_of_ble_eq_true rfl) ⟨rfl, rfl⟩ (Nat.le_of_ble_eq_true rfl) (Nat.le_of_ble_eq_true rfl) (Nat.le_of_ble_eq_true rfl) ?_
          rintro x104 _ ⟨rfl, h105, h106, h107⟩
          have hz108 := isw h107 (RT.iw hT 22 (by decide) (hw103.trans pk_22) (t := 123) (by decide))
          clear h107
          refine vc_if_eq dX12_beginOne_142 (fun h109 => ?_) (fun h109 => ?_)
          · refine vc_aload_n dX12_beginOne_152 rfl ?_
            refine vc_getI dX12_beginOne_153 flX12_129 (s_54 hB0.1.1) rfl ?_
            refine vc_bipush dX12_beginOne_156 rfl ?_
            refine vc_icmp_ne dX12_beginOne_158 (fun h110 => ?_) (fun h110 => ?_)
            · refine vc_aload_n dX12_beginOne_170 rfl ?_
              refine vc_getI dX12_beginOne_171 flX12_129 (s_54 hB0.1.1) rfl ?_
              refine vc_bipush dX12_beginOne_174 rfl ?_
              refine vc_icmp_ne dX12_beginOne_176 (fun h111 => ?_) (fun h111 => ?_)
              · refine vc_iconst dX12_beginOne_187 rfl ?_
                refine vc_iret dX12_beginOne_188 rfl (Nat.le_of_ble_eq_true rfl) (Nat.le_of_ble_eq_true rfl) ?_
                exact ⟨_, rfl, hB0, rfl, by omega, by omega, fun h => absurd h (by decide), by omega, by omega, by omega, by omega, by omega, by omega, (fun _ _ => rfl), by omega, Or.inr ⟨by decide, by rw [show mI M 54 10 = p by omega]; exact r_no (by omega) (by omega) (by omega) (by omega) (by omega)⟩⟩
              · refine vc_aload_n dX12_beginOne_179 rfl ?_
                refine vc_iconst dX12_beginOne_180 rfl ?_
                refine vc_cVI dX12_beginOne_181 (sfX12_openedF (M := M) hB0.1  S g n p hT sk hS 2 (by exact p0) (by omega) (by omega) (by omega) (by omega) (by omega) (by omega) (by omega)) rfl okX12_opened viX12_opened lkX12_214 (s_54 hB0.1.1) cl_12 rfl (Nat.le_of_ble_eq_true rfl) ⟨rfl, rfl⟩ (Nat.le_of_ble_eq_true rfl) (Nat.le_of_ble_eq_true rfl) (Nat.le_of_ble_eq_true rfl) ?_
                rintro x112 M113 ⟨hB114, kp115, h116, h117, h118, h119, h120, h121, h122, h123, h124, h125, h126, h127, h128⟩
                have hB129 : BF fT M M113 := BF.go hB0 hB114
                have kp130 : mI M113 55 = mI M 55 := kp_go rfl kp115
                refine vc_goto dX12_beginOne_184 ?_
                refine vc_iret dX12_beginOne_188 rfl (Nat.le_of_ble_eq_true rfl) (Nat.le_of_ble_eq_true rfl) ?_
                exact ⟨_, rfl, hB129, kp130, by omega, by omega, h118, by omega, by omega, by omega, by omega, by omega, by omega, h125, by omega, (by first | exact OPr.two h128 (by omega) (fun _ => by omega) (by omega) | exact OPr.par h128 (fun _ => by omega) (by omega) | exact OPr.neg h128 (fun _ => by omega) (by omega))⟩
            · refine vc_aload_n dX12_beginOne_161 rfl ?_
              refine vc_bipush dX12_beginOne_162 rfl ?_
              refine vc_cVI dX12_beginOne_164 (sfX12_openedF (M := M) hB0.1  S g n p hT sk hS 40 (by exact p0) (by omega) (by omega) (by omega) (by omega) (by omega) (by omega) (by omega)) rfl okX12_opened viX12_opened lkX12_214 (s_54 hB0.1.1) cl_12 rfl (Nat.le_of_ble_eq_true rfl) ⟨rfl, rfl⟩ (Nat.le_of_ble_eq_true rfl) (Nat.le_of_ble_eq_true rfl) (Nat.le_of_ble_eq_true rfl) ?_
              rintro x131 M132 ⟨hB133, kp134, h135, h136, h137, h138, h139, h140, h141, h142, h143, h144, h145, h146, h147⟩
              have hB148 : BF fT M M132 := BF.go hB0 hB133
              have kp149 : mI M132 55 = mI M 55 := kp_go rfl kp134
              refine vc_goto dX12_beginOne_167 ?_
              refine vc_iret dX12_beginOne_188 rfl (Nat.le_of_ble_eq_true rfl) (Nat.le_of_ble_eq_true rfl) ?_
              exact ⟨_, rfl, hB148, kp149, by omega, by omega, h137, by omega, by omega, by omega, by omega, by omega, by omega, h144, by omega, (by first | exact OPr.two h147 (by omega) (fun _ => by omega) (by omega) | exact OPr.par h147 (fun _ => by omega) (by omega) | exact OPr.neg h147 (fun _ => by omega) (by omega))⟩
          · refine vc_aload_n dX12_beginOne_145 rfl ?_
            refine vc_bipush dX12_beginOne_146 rfl ?_
            refine vc_cVI dX12_beginOne_148 (sfX12_openedF (M := M) hB0.1  S g n p hT sk hS 43 (by exact p0) (by omega) (by omega) (by omega) (by omega) (by omega) (by omega) (by omega)) rfl okX12_opened viX12_opened lkX12_214 (s_54 hB0.1.1) cl_12 rfl (Nat.le_of_ble_eq_true rfl) ⟨rfl, rfl⟩ (Nat.le_of_ble_eq_true rfl) (Nat.le_of_ble_eq_true rfl) (Nat.le_of_ble_eq_true rfl) ?_
            rintro x150 M151 ⟨hB152, kp153, h154, h155, h156, h157, h158, h159, h160, h161, h162, h163, h164, h165, h166⟩
            have hB167 : BF fT M M151 := BF.go hB0 hB152
            have kp168 : mI M151 55 = mI M 55 := kp_go rfl kp153
            refine vc_iret dX12_beginOne_151 rfl (Nat.le_of_ble_eq_true rfl) (Nat.le_of_ble_eq_true rfl) ?_
            exact ⟨_, rfl, hB167, kp168, by omega, by omega, h156, by omega, by omega, by omega, by omega, by omega, by omega, h163, by omega, (by first | exact OPr.two h166 (by omega) (fun _ => by omega) (by omega) | exact OPr.par h166 (fun _ => by omega) (by omega) | exact OPr.neg h166 (fun _ => by omega) (by omega))⟩
        · refine vc_aload_n dX12_beginOne_120 rfl ?_
          refine vc_bipush dX12_beginOne_121 rfl ?_
          refine vc_cVI dX12_beginOne_123 (sfX12_openedF (M := M) hB0.1  S g n p hT sk hS 41 (by exact p0) (by omega) (by omega) (by omega) (by omega) (by omega) (by omega) (by omega)) rfl okX12_opened viX12_opened lkX12_214 (s_54 hB0.1.1) cl_12 rfl (Nat.le_of_ble_eq_true rfl) ⟨rfl, rfl⟩ (Nat.le_of_ble_eq_true rfl) (Nat.le_of_ble_eq_true rfl) (Nat.le_of_ble_eq_true rfl) ?_
          rintro x169 M170 ⟨hB171, kp172, h173, h174, h175, h176, h177, h178, h179, h180, h181, h182, h183, h184, h185⟩
          have hB186 : BF fT M M170 := BF.go hB0 hB171
          have kp187 : mI M170 55 = mI M 55 := kp_go rfl kp172
          refine vc_iret dX12_beginOne_126 rfl (Nat.le_of_ble_eq_true rfl) (Nat.le_of_ble_eq_true rfl) ?_
          exact ⟨_, rfl, hB186, kp187, by omega, by omega, h175, by omega, by omega, by omega, by omega, by omega, by omega, h182, by omega, (by first | exact OPr.two h185 (by omega) (fun _ => by omega) (by omega) | exact OPr.par h185 (fun _ => by omega) (by omega) | exact OPr.neg h185 (fun _ => by omega) (by omega))⟩
    · refine vc_aload_n dX12_beginOne_29 rfl ?_
      refine vc_iload_n dX12_beginOne_30 rfl ?_
      refine vc_cVI dX12_beginOne_31 (sfX12_isOfF (M := M) hB0.1  x4 (by omega) (by omega) (by omega) (by omega)) rfl okX12_isOf viX12_isOf lkX12_204 (s_54 hB0.1.1) cl_12 rfl (Nat.le_of_ble_eq_true rfl) ⟨rfl, rfl⟩ (Nat.le_of_ble_eq_true rfl) (Nat.le_of_ble_eq_true rfl) (Nat.le_of_ble_eq_true rfl) ?_
      rintro x188 _ ⟨rfl, h189, h190, h191⟩
      have hof := h191
      rw [p5] at hof
      refine vc_if_ne dX12_beginOne_34 (fun h192 => ?_) (fun h192 => ?_)
      · refine vc_aload_n dX12_beginOne_39 rfl ?_
        refine vc_getI dX12_beginOne_40 flX12_129 (s_54 hB0.1.1) rfl ?_
        refine vc_iconst dX12_beginOne_43 rfl ?_
        refine vc_icmp_eq dX12_beginOne_44 (fun h193 => ?_) (fun h193 => ?_)
        · refine vc_aload_n dX12_beginOne_51 rfl ?_
          refine vc_aload_n dX12_beginOne_52 rfl ?_
          refine vc_getI dX12_beginOne_53 flX12_129 (s_54 hB0.1.1) rfl ?_
          refine vc_iconst dX12_beginOne_56 rfl ?_
          refine vc_icmp_ne dX12_beginOne_57 (fun h194 => by exfalso; omega) (fun h194 => ?_)
          refine vc_iconst dX12_beginOne_60 rfl ?_
          refine vc_goto dX12_beginOne_61 ?_
          refine vc_aload_n dX12_beginOne_65 rfl ?_
          refine vc_getI dX12_beginOne_66 flX12_129 (s_54 hB0.1.1) rfl ?_
          refine vc_iconst dX12_beginOne_69 rfl ?_
          refine vc_icmp_ne dX12_beginOne_70 (fun h195 => by exfalso; omega) (fun h195 => ?_)
          refine vc_aload_n dX12_beginOne_73 rfl ?_
          refine vc_getI dX12_beginOne_74 flX12_135 (s_54 hB0.1.1) rfl ?_
          refine vc_goto dX12_beginOne_77 ?_
          refine vc_cVU dX12_beginOne_81 (sfX12_emitF (M := M) hB0.1  0 (mI M 54 12) (by omega) (by omega)) rfl okX12_emit viX12_emit lkX12_186 (s_54 hB0.1.1) cl_12 rfl (Nat.le_of_ble_eq_true rfl) ⟨rfl, rfl⟩ (Nat.le_of_ble_eq_true rfl) (Nat.le_of_ble_eq_true rfl) (Nat.le_of_ble_eq_true rfl) ?_
          rintro M196 ⟨hB197, kp198, kp199, h200, h201, h202, h203, h204, h205, h206, h207, h208, h209, h210, h211, h212⟩
          have hB213 : BF fT M M196 := BF.go hB0 hB197
          have kp214 : mI M196 55 = mI M 55 := kp_go rfl kp198
          have h57 := h201
          have h60 := kp199
          have fr215 := fr_emit (A := M) (B := M) (t := mI M 54 14 + 265 + 2 * S) (by omega) (by omega) h57 (fun _ _ => rfl)
          refine vc_aload_n dX12_beginOne_84 rfl ?_
          have hgf := RT.gf hT hB213.2.2
          have hat0 := RT.at hT (by omega)
          have hrg0 := RT.rg hT
          refine vc_cVU dX12_beginOne_85 (sfX12_nextTokenF (M := M196) hB213.1   (by first | (rw [hgf.2.1]; omega) | omega) (by first | (rw [hgf.1]; exact hgf.2.2) | assumption)) rfl okX12_nextToken viX12_nextToken lkX12_193 (s_54 hB213.1.1) cl_12 rfl (Nat.le_of_ble_eq_true rfl) ⟨rfl, rfl⟩ (Nat.le_of_ble_eq_true rfl) (Nat.le_of_ble_eq_true rfl) (Nat.le_of_ble_eq_true rfl) ?_
          rintro M216 ⟨hB217, kp218, kp219, kp220, h221, h222, h223, h224, h225, h226, h227, h228, h229, h230, h231⟩
          have hB232 : BF fT M M216 := BF.go hB213 hB217.t
          have kp233 : mI M216 55 = mI M 55 := kp_go kp214 kp218
          have rt234 : RT g n M216 (nx g n p) := by
            have z := h231
            rw [hgf.1, hgf.2.1, show mI M196 54 9 = en g n p by first | omega | (show mI M196 54 9 = _; omega)] at z
            exact z
          clear hrg0
          have rg235 := RT.rg rt234
          have fr236 : ∀ j : Nat, (j : Int) < mI M 54 14 + 265 + 2 * S → mI M216 57 j = mI M 57 j := fun j hj => (congrFun kp219 j).trans (fr215 j hj)
          have hbx := b54_10 (M := M216) hB232.1
          refine vc_aload_n dX12_beginOne_88 rfl ?_
          refine vc_iconst dX12_beginOne_89 rfl ?_
          refine vc_putZ dX12_beginOne_90 (plX12_207 _ rfl) (s_54 hB232.1.1) rfl (by first | decide | omega) ?_
          have kp237 : mI (sI M216 54 20 1) 55 = mI M 55 := (kp_sI kp233 rfl)
          have hB238 : BF fT M (sI M216 54 20 1) := BF.w54_20 hB232 rfl
          refine vc_aload_n dX12_beginOne_93 rfl ?_
          refine vc_iconst dX12_beginOne_94 rfl ?_
          have k239 : mI (sI M216 54 20 1) 54 9 = mI M216 54 9 := rfl
          have k240 : mI (sI M216 54 20 1) 54 10 = mI M216 54 10 := rfl
          have k241 : mI (sI M216 54 20 1) 54 11 = mI M216 54 11 := rfl
          have k242 : mI (sI M216 54 20 1) 54 14 = mI M216 54 14 := rfl
          have k243 : mI (sI M216 54 20 1) 54 15 = mI M216 54 15 := rfl
          have k244 : mI (sI M216 54 20 1) 54 16 = mI M216 54 16 := rfl
          have k245 : mI (sI M216 54 20 1) 54 18 = mI M216 54 18 := rfl
          have k246 : mI (sI M216 54 20 1) 54 19 = mI M216 54 19 := rfl
          have k247 : mI (sI M216 54 20 1) 54 20 = 1 := rfl
          have k248 : mI (sI M216 54 20 1) 54 21 = mI M216 54 21 := rfl
          have hz5 := congrFun kp237 5
          have hPI249 : PI (sI M216 54 20 1) S := PI.num (M := M) (o := 0) (v := (mI M 54 12)) p0 (by omega) (by omega) (fun h => absurd h (by decide)) (kp219.trans h57) (kp220.trans h60) (by omega) (by omega) (by omega) (by omega) (by omega) (by omega) (by omega)
          have rt250 : RT g n (sI M216 54 20 1) (nx g n p) := RT.same rt234 (Fz.sI rfl) rfl rfl rfl rfl rfl
          have k60251 : mI (sI M216 54 20 1) 60 = mI M 60 := (show mI (sI M216 54 20 1) 60 = mI M216 60 from kp_sI rfl rfl).trans (kp220.trans h60)
          refine vc_cVU dX12_beginOne_95 (sfX12_settlePileF (M := (sI M216 54 20 1)) hB238.1  S 3 (by omega) (by omega) (by assumption) (by omega) (by omega)) rfl okX12_settlePile viX12_settlePile lkX12_211 (s_54 hB238.1.1) cl_12 rfl (Nat.le_of_ble_eq_true rfl) ⟨rfl, rfl⟩ (Nat.le_of_ble_eq_true rfl) (Nat.le_of_ble_eq_true rfl) (Nat.le_of_ble_eq_true rfl) ?_
          rintro M252 ⟨hB253, kp254, kp255, h256, h257, h258, h259, h260, h261, h262, h263, h264, h265, h266, h267, h268, h269⟩
          have hB270 : BF fT M M252 := BF.go hB238 hB253
          have kp271 : mI M252 55 = mI M 55 := kp_go kp237 kp254
          have fr272 : ∀ j : Nat, (j : Int) < mI M 54 14 + 265 + 2 * S → mI M252 57 j = mI M 57 j := fun j hj => (h265 j (by omega)).trans (fr236 j hj)
          have hl2 := h256.len
          have hSJn : SJ M252 (dm sk) := SJ.min (M := (sI M216 54 20 1)) (SI0.same hS.1 k60251 (by omega)) hPI249 kp255 (by omega) (by omega) h266 h267
          have rt273 : RT g n M252 (nx g n p) := RT.same rt250 hB253.2.2 (by omega) (by omega) (by omega) h268 h269
          refine vc_iconst dX12_beginOne_98 rfl ?_
          refine vc_iret dX12_beginOne_99 rfl (Nat.le_of_ble_eq_true rfl) (Nat.le_of_ble_eq_true rfl) ?_
          exact ⟨_, rfl, hB270, kp271, by omega, by omega, fun _ => h256, by omega, by omega, by omega, by omega, by omega, by omega, fr272, by omega, Or.inl ⟨rfl, _, _, hSJn, rt273, fun o z => r_num (by omega) (by omega) (rn_t (by omega) z)⟩⟩
        · refine vc_iload_n dX12_beginOne_47 rfl ?_
          refine vc_if_lt dX12_beginOne_48 (fun h274 => by exfalso; omega) (fun h274 => ?_)
          refine vc_aload_n dX12_beginOne_51 rfl ?_
          refine vc_aload_n dX12_beginOne_52 rfl ?_
          refine vc_getI dX12_beginOne_53 flX12_129 (s_54 hB0.1.1) rfl ?_
          refine vc_iconst dX12_beginOne_56 rfl ?_
          refine vc_icmp_ne dX12_beginOne_57 (fun h275 => ?_) (fun h275 => ?_)
          · refine vc_iconst dX12_beginOne_64 rfl ?_
            refine vc_aload_n dX12_beginOne_65 rfl ?_
            refine vc_getI dX12_beginOne_66 flX12_129 (s_54 hB0.1.1) rfl ?_
            refine vc_iconst dX12_beginOne_69 rfl ?_
            refine vc_icmp_ne dX12_beginOne_70 (fun h276 => ?_) (fun h276 => ?_)
            · refine vc_iload_n dX12_beginOne_80 rfl ?_
              refine vc_cVU dX12_beginOne_81 (sfX12_emitF (M := M) hB0.1  1 x4 (by omega) (by omega)) rfl okX12_emit viX12_emit lkX12_186 (s_54 hB0.1.1) cl_12 rfl (Nat.le_of_ble_eq_true rfl) ⟨rfl, rfl⟩ (Nat.le_of_ble_eq_true rfl) (Nat.le_of_ble_eq_true rfl) (Nat.le_of_ble_eq_true rfl) ?_
              rintro M277 ⟨hB278, kp279, kp280, h281, h282, h283, h284, h285, h286, h287, h288, h289, h290, h291, h292, h293⟩
              have hB294 : BF fT M M277 := BF.go hB0 hB278
              have kp295 : mI M277 55 = mI M 55 := kp_go rfl kp279
              have h57 := h282
              have h60 := kp280
              have fr296 := fr_emit (A := M) (B := M) (t := mI M 54 14 + 265 + 2 * S) (by omega) (by omega) h57 (fun _ _ => rfl)
              refine vc_aload_n dX12_beginOne_84 rfl ?_
              have hgf := RT.gf hT hB294.2.2
              have hat0 := RT.at hT (by omega)
              have hrg0 := RT.rg hT
              refine vc_cVU dX12_beginOne_85 (sfX12_nextTokenF (M := M277) hB294.1   (by first | (rw [hgf.2.1]; omega) | omega) (by first | (rw [hgf.1]; exact hgf.2.2) | assumption)) rfl okX12_nextToken viX12_nextToken lkX12_193 (s_54 hB294.1.1) cl_12 rfl (Nat.le_of_ble_eq_true rfl) ⟨rfl, rfl⟩ (Nat.le_of_ble_eq_true rfl) (Nat.le_of_ble_eq_true rfl) (Nat.le_of_ble_eq_true rfl) ?_
              rintro M297 ⟨hB298, kp299, kp300, kp301, h302, h303, h304, h305, h306, h307, h308, h309, h310, h311, h312⟩
              have hB313 : BF fT M M297 := BF.go hB294 hB298.t
              have kp314 : mI M297 55 = mI M 55 := kp_go kp295 kp299
              have rt315 : RT g n M297 (nx g n p) := by
                have z := h312
                rw [hgf.1, hgf.2.1, show mI M277 54 9 = en g n p by first | omega | (show mI M277 54 9 = _; omega)] at z
                exact z
              clear hrg0
              have rg316 := RT.rg rt315
              have fr317 : ∀ j : Nat, (j : Int) < mI M 54 14 + 265 + 2 * S → mI M297 57 j = mI M 57 j := fun j hj => (congrFun kp300 j).trans (fr296 j hj)
              have hbx := b54_10 (M := M297) hB313.1
              refine vc_aload_n dX12_beginOne_88 rfl ?_
              refine vc_iconst dX12_beginOne_89 rfl ?_
              refine vc_putZ dX12_beginOne_90 (plX12_207 _ rfl) (s_54 hB313.1.1) rfl (by first | decide | omega) ?_
              have kp318 : mI (sI M297 54 20 1) 55 = mI M 55 := (kp_sI kp314 rfl)
              have hB319 : BF fT M (sI M297 54 20 1) := BF.w54_20 hB313 rfl
              refine vc_aload_n dX12_beginOne_93 rfl ?_
              refine vc_iconst dX12_beginOne_94 rfl ?_
              have k320 : mI (sI M297 54 20 1) 54 9 = mI M297 54 9 := rfl
              have k321 : mI (sI M297 54 20 1) 54 10 = mI M297 54 10 := rfl
              have k322 : mI (sI M297 54 20 1) 54 11 = mI M297 54 11 := rfl
              have k323 : mI (sI M297 54 20 1) 54 14 = mI M297 54 14 := rfl
              have k324 : mI (sI M297 54 20 1) 54 15 = mI M297 54 15 := rfl
              have k325 : mI (sI M297 54 20 1) 54 16 = mI M297 54 16 := rfl
              have k326 : mI (sI M297 54 20 1) 54 18 = mI M297 54 18 := rfl
              have k327 : mI (sI M297 54 20 1) 54 19 = mI M297 54 19 := rfl
              have k328 : mI (sI M297 54 20 1) 54 20 = 1 := rfl
              have k329 : mI (sI M297 54 20 1) 54 21 = mI M297 54 21 := rfl
              have hz5 := congrFun kp318 5
              have hPI330 : PI (sI M297 54 20 1) S := PI.num (M := M) (o := 1) (v := x4) p0 (by omega) (by omega) (fun _ => ⟨by omega, by omega⟩) (kp300.trans h57) (kp301.trans h60) (by omega) (by omega) (by omega) (by omega) (by omega) (by omega) (by omega)
              have rt331 : RT g n (sI M297 54 20 1) (nx g n p) := RT.same rt315 (Fz.sI rfl) rfl rfl rfl rfl rfl
              have k60332 : mI (sI M297 54 20 1) 60 = mI M 60 := (show mI (sI M297 54 20 1) 60 = mI M297 60 from kp_sI rfl rfl).trans (kp301.trans h60)
              refine vc_cVU dX12_beginOne_95 (sfX12_settlePileF (M := (sI M297 54 20 1)) hB319.1  S 3 (by omega) (by omega) (by assumption) (by omega) (by omega)) rfl okX12_settlePile viX12_settlePile lkX12_211 (s_54 hB319.1.1) cl_12 rfl (Nat.le_of_ble_eq_true rfl) ⟨rfl, rfl⟩ (Nat.le_of_ble_eq_true rfl) (Nat.le_of_ble_eq_true rfl) (Nat.le_of_ble_eq_true rfl) ?_
              rintro M333 ⟨hB334, kp335, kp336, h337, h338, h339, h340, h341, h342, h343, h344, h345, h346, h347, h348, h349, h350⟩
              have hB351 : BF fT M M333 := BF.go hB319 hB334
              have kp352 : mI M333 55 = mI M 55 := kp_go kp318 kp335
              have fr353 : ∀ j : Nat, (j : Int) < mI M 54 14 + 265 + 2 * S → mI M333 57 j = mI M 57 j := fun j hj => (h346 j (by omega)).trans (fr317 j hj)
              have hl2 := h337.len
              have hSJn : SJ M333 (dm sk) := SJ.min (M := (sI M297 54 20 1)) (SI0.same hS.1 k60332 (by omega)) hPI330 kp336 (by omega) (by omega) h347 h348
              have rt354 : RT g n M333 (nx g n p) := RT.same rt331 hB334.2.2 (by omega) (by omega) (by omega) h349 h350
              refine vc_iconst dX12_beginOne_98 rfl ?_
              refine vc_iret dX12_beginOne_99 rfl (Nat.le_of_ble_eq_true rfl) (Nat.le_of_ble_eq_true rfl) ?_
              exact ⟨_, rfl, hB351, kp352, by omega, by omega, fun _ => h337, by omega, by omega, by omega, by omega, by omega, by omega, fr353, by omega, Or.inl ⟨rfl, _, _, hSJn, rt354, fun o z => r_nam (by omega) (by omega) (by rw [show tk g n p - 128 = x4 by omega]; rcases hof with z | z; (exact z.2); (omega)) (rn_t (by omega) z)⟩⟩
            · refine vc_aload_n dX12_beginOne_73 rfl ?_
              refine vc_getI dX12_beginOne_74 flX12_135 (s_54 hB0.1.1) rfl ?_
              refine vc_goto dX12_beginOne_77 ?_
              refine vc_cVU dX12_beginOne_81 (sfX12_emitF (M := M) hB0.1  1 (mI M 54 12) (by omega) (by omega)) rfl okX12_emit viX12_emit lkX12_186 (s_54 hB0.1.1) cl_12 rfl (Nat.le_of_ble_eq_true rfl) ⟨rfl, rfl⟩ (Nat.le_of_ble_eq_true rfl) (Nat.le_of_ble_eq_true rfl) (Nat.le_of_ble_eq_true rfl) ?_
              rintro M355 ⟨hB356, kp357, kp358, h359, h360, h361, h362, h363, h364, h365, h366, h367, h368, h369, h370, h371⟩
              have hB372 : BF fT M M355 := BF.go hB0 hB356
              have kp373 : mI M355 55 = mI M 55 := kp_go rfl kp357
              have h57 := h360
              have h60 := kp358
              have fr374 := fr_emit (A := M) (B := M) (t := mI M 54 14 + 265 + 2 * S) (by omega) (by omega) h57 (fun _ _ => rfl)
              refine vc_aload_n dX12_beginOne_84 rfl ?_
              have hgf := RT.gf hT hB372.2.2
              have hat0 := RT.at hT (by omega)
              have hrg0 := RT.rg hT
              refine vc_cVU dX12_beginOne_85 (sfX12_nextTokenF (M := M355) hB372.1   (by first | (rw [hgf.2.1]; omega) | omega) (by first | (rw [hgf.1]; exact hgf.2.2) | assumption)) rfl okX12_nextToken viX12_nextToken lkX12_193 (s_54 hB372.1.1) cl_12 rfl (Nat.le_of_ble_eq_true rfl) ⟨rfl, rfl⟩ (Nat.le_of_ble_eq_true rfl) (Nat.le_of_ble_eq_true rfl) (Nat.le_of_ble_eq_true rfl) ?_
              rintro M375 ⟨hB376, kp377, kp378, kp379, h380, h381, h382, h383, h384, h385, h386, h387, h388, h389, h390⟩
              have hB391 : BF fT M M375 := BF.go hB372 hB376.t
              have kp392 : mI M375 55 = mI M 55 := kp_go kp373 kp377
              have rt393 : RT g n M375 (nx g n p) := by
                have z := h390
                rw [hgf.1, hgf.2.1, show mI M355 54 9 = en g n p by first | omega | (show mI M355 54 9 = _; omega)] at z
                exact z
              clear hrg0
              have rg394 := RT.rg rt393
              have fr395 : ∀ j : Nat, (j : Int) < mI M 54 14 + 265 + 2 * S → mI M375 57 j = mI M 57 j := fun j hj => (congrFun kp378 j).trans (fr374 j hj)
              have hbx := b54_10 (M := M375) hB391.1
              refine vc_aload_n dX12_beginOne_88 rfl ?_
              refine vc_iconst dX12_beginOne_89 rfl ?_
              refine vc_putZ dX12_beginOne_90 (plX12_207 _ rfl) (s_54 hB391.1.1) rfl (by first | decide | omega) ?_
              have kp396 : mI (sI M375 54 20 1) 55 = mI M 55 := (kp_sI kp392 rfl)
              have hB397 : BF fT M (sI M375 54 20 1) := BF.w54_20 hB391 rfl
              refine vc_aload_n dX12_beginOne_93 rfl ?_
              refine vc_iconst dX12_beginOne_94 rfl ?_
              have k398 : mI (sI M375 54 20 1) 54 9 = mI M375 54 9 := rfl
              have k399 : mI (sI M375 54 20 1) 54 10 = mI M375 54 10 := rfl
              have k400 : mI (sI M375 54 20 1) 54 11 = mI M375 54 11 := rfl
              have k401 : mI (sI M375 54 20 1) 54 14 = mI M375 54 14 := rfl
              have k402 : mI (sI M375 54 20 1) 54 15 = mI M375 54 15 := rfl
              have k403 : mI (sI M375 54 20 1) 54 16 = mI M375 54 16 := rfl
              have k404 : mI (sI M375 54 20 1) 54 18 = mI M375 54 18 := rfl
              have k405 : mI (sI M375 54 20 1) 54 19 = mI M375 54 19 := rfl
              have k406 : mI (sI M375 54 20 1) 54 20 = 1 := rfl
              have k407 : mI (sI M375 54 20 1) 54 21 = mI M375 54 21 := rfl
              have hz5 := congrFun kp396 5
              have hPI408 : PI (sI M375 54 20 1) S := PI.num (M := M) (o := 1) (v := (mI M 54 12)) p0 (by omega) (by omega) (fun _ => ⟨by omega, by omega⟩) (kp378.trans h57) (kp379.trans h60) (by omega) (by omega) (by omega) (by omega) (by omega) (by omega) (by omega)
              have rt409 : RT g n (sI M375 54 20 1) (nx g n p) := RT.same rt393 (Fz.sI rfl) rfl rfl rfl rfl rfl
              have k60410 : mI (sI M375 54 20 1) 60 = mI M 60 := (show mI (sI M375 54 20 1) 60 = mI M375 60 from kp_sI rfl rfl).trans (kp379.trans h60)
              refine vc_cVU dX12_beginOne_95 (sfX12_settlePileF (M := (sI M375 54 20 1)) hB397.1  S 3 (by omega) (by omega) (by assumption) (by omega) (by omega)) rfl okX12_settlePile viX12_settlePile lkX12_211 (s_54 hB397.1.1) cl_12 rfl (Nat.le_of_ble_eq_true rfl) ⟨rfl, rfl⟩ (Nat.le_of_ble_eq_true rfl) (Nat.le_of_ble_eq_true rfl) (Nat.le_of_ble_eq_true rfl) ?_
              rintro M411 ⟨hB412, kp413, kp414, h415, h416, h417, h418, h419, h420, h421, h422, h423, h424, h425, h426, h427, h428⟩
              have hB429 : BF fT M M411 := BF.go hB397 hB412
              have kp430 : mI M411 55 = mI M 55 := kp_go kp396 kp413
              have fr431 : ∀ j : Nat, (j : Int) < mI M 54 14 + 265 + 2 * S → mI M411 57 j = mI M 57 j := fun j hj => (h424 j (by omega)).trans (fr395 j hj)
              have hl2 := h415.len
              have hSJn : SJ M411 (dm sk) := SJ.min (M := (sI M375 54 20 1)) (SI0.same hS.1 k60410 (by omega)) hPI408 kp414 (by omega) (by omega) h425 h426
              have rt432 : RT g n M411 (nx g n p) := RT.same rt409 hB412.2.2 (by omega) (by omega) (by omega) h427 h428
              refine vc_iconst dX12_beginOne_98 rfl ?_
              refine vc_iret dX12_beginOne_99 rfl (Nat.le_of_ble_eq_true rfl) (Nat.le_of_ble_eq_true rfl) ?_
              exact ⟨_, rfl, hB429, kp430, by omega, by omega, fun _ => h415, by omega, by omega, by omega, by omega, by omega, by omega, fr431, by omega, Or.inl ⟨rfl, _, _, hSJn, rt432, fun o z => r_nam (by omega) (by omega) (by rw [show tk g n p - 128 = x4 by omega]; rcases hof with z | z; (exact z.2); (omega)) (rn_t (by omega) z)⟩⟩
          · refine vc_iconst dX12_beginOne_60 rfl ?_
            refine vc_goto dX12_beginOne_61 ?_
            refine vc_aload_n dX12_beginOne_65 rfl ?_
            refine vc_getI dX12_beginOne_66 flX12_129 (s_54 hB0.1.1) rfl ?_
            refine vc_iconst dX12_beginOne_69 rfl ?_
            refine vc_icmp_ne dX12_beginOne_70 (fun h433 => by exfalso; omega) (fun h433 => ?_)
            refine vc_aload_n dX12_beginOne_73 rfl ?_
            refine vc_getI dX12_beginOne_74 flX12_135 (s_54 hB0.1.1) rfl ?_
            refine vc_goto dX12_beginOne_77 ?_
            refine vc_cVU dX12_beginOne_81 (sfX12_emitF (M := M) hB0.1  0 (mI M 54 12) (by omega) (by omega)) rfl okX12_emit viX12_emit lkX12_186 (s_54 hB0.1.1) cl_12 rfl (Nat.le_of_ble_eq_true rfl) ⟨rfl, rfl⟩ (Nat.le_of_ble_eq_true rfl) (Nat.le_of_ble_eq_true rfl) (Nat.le_of_ble_eq_true rfl) ?_
            rintro M434 ⟨hB435, kp436, kp437, h438, h439, h440, h441, h442, h443, h444, h445, h446, h447, h448, h449, h450⟩
            have hB451 : BF fT M M434 := BF.go hB0 hB435
            have kp452 : mI M434 55 = mI M 55 := kp_go rfl kp436
            have h57 := h439
            have h60 := kp437
            have fr453 := fr_emit (A := M) (B := M) (t := mI M 54 14 + 265 + 2 * S) (by omega) (by omega) h57 (fun _ _ => rfl)
            refine vc_aload_n dX12_beginOne_84 rfl ?_
            have hgf := RT.gf hT hB451.2.2
            have hat0 := RT.at hT (by omega)
            have hrg0 := RT.rg hT
            refine vc_cVU dX12_beginOne_85 (sfX12_nextTokenF (M := M434) hB451.1   (by first | (rw [hgf.2.1]; omega) | omega) (by first | (rw [hgf.1]; exact hgf.2.2) | assumption)) rfl okX12_nextToken viX12_nextToken lkX12_193 (s_54 hB451.1.1) cl_12 rfl (Nat.le_of_ble_eq_true rfl) ⟨rfl, rfl⟩ (Nat.le_of_ble_eq_true rfl) (Nat.le_of_ble_eq_true rfl) (Nat.le_of_ble_eq_true rfl) ?_
            rintro M454 ⟨hB455, kp456, kp457, kp458, h459, h460, h461, h462, h463, h464, h465, h466, h467, h468, h469⟩
            have hB470 : BF fT M M454 := BF.go hB451 hB455.t
            have kp471 : mI M454 55 = mI M 55 := kp_go kp452 kp456
            have rt472 : RT g n M454 (nx g n p) := by
              have z := h469
              rw [hgf.1, hgf.2.1, show mI M434 54 9 = en g n p by first | omega | (show mI M434 54 9 = _; omega)] at z
              exact z
            clear hrg0
            have rg473 := RT.rg rt472
            have fr474 : ∀ j : Nat, (j : Int) < mI M 54 14 + 265 + 2 * S → mI M454 57 j = mI M 57 j := fun j hj => (congrFun kp457 j).trans (fr453 j hj)
            have hbx := b54_10 (M := M454) hB470.1
            refine vc_aload_n dX12_beginOne_88 rfl ?_
            refine vc_iconst dX12_beginOne_89 rfl ?_
            refine vc_putZ dX12_beginOne_90 (plX12_207 _ rfl) (s_54 hB470.1.1) rfl (by first | decide | omega) ?_
            have kp475 : mI (sI M454 54 20 1) 55 = mI M 55 := (kp_sI kp471 rfl)
            have hB476 : BF fT M (sI M454 54 20 1) := BF.w54_20 hB470 rfl
            refine vc_aload_n dX12_beginOne_93 rfl ?_
            refine vc_iconst dX12_beginOne_94 rfl ?_
            have k477 : mI (sI M454 54 20 1) 54 9 = mI M454 54 9 := rfl
            have k478 : mI (sI M454 54 20 1) 54 10 = mI M454 54 10 := rfl
            have k479 : mI (sI M454 54 20 1) 54 11 = mI M454 54 11 := rfl
            have k480 : mI (sI M454 54 20 1) 54 14 = mI M454 54 14 := rfl
            have k481 : mI (sI M454 54 20 1) 54 15 = mI M454 54 15 := rfl
            have k482 : mI (sI M454 54 20 1) 54 16 = mI M454 54 16 := rfl
            have k483 : mI (sI M454 54 20 1) 54 18 = mI M454 54 18 := rfl
            have k484 : mI (sI M454 54 20 1) 54 19 = mI M454 54 19 := rfl
            have k485 : mI (sI M454 54 20 1) 54 20 = 1 := rfl
            have k486 : mI (sI M454 54 20 1) 54 21 = mI M454 54 21 := rfl
            have hz5 := congrFun kp475 5
            have hPI487 : PI (sI M454 54 20 1) S := PI.num (M := M) (o := 0) (v := (mI M 54 12)) p0 (by omega) (by omega) (fun h => absurd h (by decide)) (kp457.trans h57) (kp458.trans h60) (by omega) (by omega) (by omega) (by omega) (by omega) (by omega) (by omega)
            have rt488 : RT g n (sI M454 54 20 1) (nx g n p) := RT.same rt472 (Fz.sI rfl) rfl rfl rfl rfl rfl
            have k60489 : mI (sI M454 54 20 1) 60 = mI M 60 := (show mI (sI M454 54 20 1) 60 = mI M454 60 from kp_sI rfl rfl).trans (kp458.trans h60)
            refine vc_cVU dX12_beginOne_95 (sfX12_settlePileF (M := (sI M454 54 20 1)) hB476.1  S 3 (by omega) (by omega) (by assumption) (by omega) (by omega)) rfl okX12_settlePile viX12_settlePile lkX12_211 (s_54 hB476.1.1) cl_12 rfl (Nat.le_of_ble_eq_true rfl) ⟨rfl, rfl⟩ (Nat.le_of_ble_eq_true rfl) (Nat.le_of_ble_eq_true rfl) (Nat.le_of_ble_eq_true rfl) ?_
            rintro M490 ⟨hB491, kp492, kp493, h494, h495, h496, h497, h498, h499, h500, h501, h502, h503, h504, h505, h506, h507⟩
            have hB508 : BF fT M M490 := BF.go hB476 hB491
            have kp509 : mI M490 55 = mI M 55 := kp_go kp475 kp492
            have fr510 : ∀ j : Nat, (j : Int) < mI M 54 14 + 265 + 2 * S → mI M490 57 j = mI M 57 j := fun j hj => (h503 j (by omega)).trans (fr474 j hj)
            have hl2 := h494.len
            have hSJn : SJ M490 (dm sk) := SJ.min (M := (sI M454 54 20 1)) (SI0.same hS.1 k60489 (by omega)) hPI487 kp493 (by omega) (by omega) h504 h505
            have rt511 : RT g n M490 (nx g n p) := RT.same rt488 hB491.2.2 (by omega) (by omega) (by omega) h506 h507
            refine vc_iconst dX12_beginOne_98 rfl ?_
            refine vc_iret dX12_beginOne_99 rfl (Nat.le_of_ble_eq_true rfl) (Nat.le_of_ble_eq_true rfl) ?_
            exact ⟨_, rfl, hB508, kp509, by omega, by omega, fun _ => h494, by omega, by omega, by omega, by omega, by omega, by omega, fr510, by omega, Or.inl ⟨rfl, _, _, hSJn, rt511, fun o z => r_num (by omega) (by omega) (rn_t (by omega) z)⟩⟩
      · refine vc_iconst dX12_beginOne_37 rfl ?_
        refine vc_iret dX12_beginOne_38 rfl (Nat.le_of_ble_eq_true rfl) (Nat.le_of_ble_eq_true rfl) ?_
        exact ⟨_, rfl, hB0, rfl, by omega, by omega, fun h => absurd h (by decide), by omega, by omega, by omega, by omega, by omega, by omega, (fun _ _ => rfl), by omega, Or.inr ⟨by decide, by rw [show mI M 54 10 = p by omega]; exact r_bad (by omega) (by omega) (by rw [show tk g n p - 128 = x4 by omega]; rcases hof with z | z; (omega); (exact z.2))⟩⟩
  · refine vc_aload_n dX12_beginOne_8 rfl ?_
    refine vc_getI dX12_beginOne_9 flX12_135 (s_54 hB0.1.1) rfl ?_
    refine vc_sipush dX12_beginOne_12 rfl ?_
    refine vc_icmp_le dX12_beginOne_15 (fun h512 => ?_) (fun h512 => ?_)
    · refine vc_aload_n dX12_beginOne_20 rfl ?_
      refine vc_cVI dX12_beginOne_21 (sfX12_nameOfF (M := M) hB0.1  g n p hT ) rfl okX12_nameOf viX12_nameOf lkX12_200 (s_54 hB0.1.1) cl_12 rfl (Nat.le_of_ble_eq_true rfl) ⟨rfl, rfl⟩ (Nat.le_of_ble_eq_true rfl) (Nat.le_of_ble_eq_true rfl) (Nat.le_of_ble_eq_true rfl) ?_
      rintro x513 _ ⟨rfl, h514, h515, h516, h517⟩
      have hnmf := h517
      refine vc_istore_n dX12_beginOne_24 (by decide) rfl (show _ = [some (aR 54), some (aI x513)] from rfl) ?_
      refine vc_iload_n dX12_beginOne_25 rfl ?_
      refine vc_if_lt dX12_beginOne_26 (fun h518 => ?_) (fun h518 => ?_)
      · refine vc_aload_n dX12_beginOne_39 rfl ?_
        refine vc_getI dX12_beginOne_40 flX12_129 (s_54 hB0.1.1) rfl ?_
        refine vc_iconst dX12_beginOne_43 rfl ?_
        refine vc_icmp_eq dX12_beginOne_44 (fun h519 => ?_) (fun h519 => by exfalso; omega)
        refine vc_aload_n dX12_beginOne_51 rfl ?_
        refine vc_aload_n dX12_beginOne_52 rfl ?_
        refine vc_getI dX12_beginOne_53 flX12_129 (s_54 hB0.1.1) rfl ?_
        refine vc_iconst dX12_beginOne_56 rfl ?_
        refine vc_icmp_ne dX12_beginOne_57 (fun h520 => by exfalso; omega) (fun h520 => ?_)
        refine vc_iconst dX12_beginOne_60 rfl ?_
        refine vc_goto dX12_beginOne_61 ?_
        refine vc_aload_n dX12_beginOne_65 rfl ?_
        refine vc_getI dX12_beginOne_66 flX12_129 (s_54 hB0.1.1) rfl ?_
        refine vc_iconst dX12_beginOne_69 rfl ?_
        refine vc_icmp_ne dX12_beginOne_70 (fun h521 => by exfalso; omega) (fun h521 => ?_)
        refine vc_aload_n dX12_beginOne_73 rfl ?_
        refine vc_getI dX12_beginOne_74 flX12_135 (s_54 hB0.1.1) rfl ?_
        refine vc_goto dX12_beginOne_77 ?_
        refine vc_cVU dX12_beginOne_81 (sfX12_emitF (M := M) hB0.1  0 (mI M 54 12) (by omega) (by omega)) rfl okX12_emit viX12_emit lkX12_186 (s_54 hB0.1.1) cl_12 rfl (Nat.le_of_ble_eq_true rfl) ⟨rfl, rfl⟩ (Nat.le_of_ble_eq_true rfl) (Nat.le_of_ble_eq_true rfl) (Nat.le_of_ble_eq_true rfl) ?_
        rintro M522 ⟨hB523, kp524, kp525, h526, h527, h528, h529, h530, h531, h532, h533, h534, h535, h536, h537, h538⟩
        have hB539 : BF fT M M522 := BF.go hB0 hB523
        have kp540 : mI M522 55 = mI M 55 := kp_go rfl kp524
        have h57 := h527
        have h60 := kp525
        have fr541 := fr_emit (A := M) (B := M) (t := mI M 54 14 + 265 + 2 * S) (by omega) (by omega) h57 (fun _ _ => rfl)
        refine vc_aload_n dX12_beginOne_84 rfl ?_
        have hgf := RT.gf hT hB539.2.2
        have hat0 := RT.at hT (by omega)
        have hrg0 := RT.rg hT
        refine vc_cVU dX12_beginOne_85 (sfX12_nextTokenF (M := M522) hB539.1   (by first | (rw [hgf.2.1]; omega) | omega) (by first | (rw [hgf.1]; exact hgf.2.2) | assumption)) rfl okX12_nextToken viX12_nextToken lkX12_193 (s_54 hB539.1.1) cl_12 rfl (Nat.le_of_ble_eq_true rfl) ⟨rfl, rfl⟩ (Nat.le_of_ble_eq_true rfl) (Nat.le_of_ble_eq_true rfl) (Nat.le_of_ble_eq_true rfl) ?_
        rintro M542 ⟨hB543, kp544, kp545, kp546, h547, h548, h549, h550, h551, h552, h553, h554, h555, h556, h557⟩
        have hB558 : BF fT M M542 := BF.go hB539 hB543.t
        have kp559 : mI M542 55 = mI M 55 := kp_go kp540 kp544
        have rt560 : RT g n M542 (nx g n p) := by
          have z := h557
          rw [hgf.1, hgf.2.1, show mI M522 54 9 = en g n p by first | omega | (show mI M522 54 9 = _; omega)] at z
          exact z
        clear hrg0
        have rg561 := RT.rg rt560
        have fr562 : ∀ j : Nat, (j : Int) < mI M 54 14 + 265 + 2 * S → mI M542 57 j = mI M 57 j := fun j hj => (congrFun kp545 j).trans (fr541 j hj)
        have hbx := b54_10 (M := M542) hB558.1
        refine vc_aload_n dX12_beginOne_88 rfl ?_
        refine vc_iconst dX12_beginOne_89 rfl ?_
        refine vc_putZ dX12_beginOne_90 (plX12_207 _ rfl) (s_54 hB558.1.1) rfl (by first | decide | omega) ?_
        have kp563 : mI (sI M542 54 20 1) 55 = mI M 55 := (kp_sI kp559 rfl)
        have hB564 : BF fT M (sI M542 54 20 1) := BF.w54_20 hB558 rfl
        refine vc_aload_n dX12_beginOne_93 rfl ?_
        refine vc_iconst dX12_beginOne_94 rfl ?_
        have k565 : mI (sI M542 54 20 1) 54 9 = mI M542 54 9 := rfl
        have k566 : mI (sI M542 54 20 1) 54 10 = mI M542 54 10 := rfl
        have k567 : mI (sI M542 54 20 1) 54 11 = mI M542 54 11 := rfl
        have k568 : mI (sI M542 54 20 1) 54 14 = mI M542 54 14 := rfl
        have k569 : mI (sI M542 54 20 1) 54 15 = mI M542 54 15 := rfl
        have k570 : mI (sI M542 54 20 1) 54 16 = mI M542 54 16 := rfl
        have k571 : mI (sI M542 54 20 1) 54 18 = mI M542 54 18 := rfl
        have k572 : mI (sI M542 54 20 1) 54 19 = mI M542 54 19 := rfl
        have k573 : mI (sI M542 54 20 1) 54 20 = 1 := rfl
        have k574 : mI (sI M542 54 20 1) 54 21 = mI M542 54 21 := rfl
        have hz5 := congrFun kp563 5
        have hPI575 : PI (sI M542 54 20 1) S := PI.num (M := M) (o := 0) (v := (mI M 54 12)) p0 (by omega) (by omega) (fun h => absurd h (by decide)) (kp545.trans h57) (kp546.trans h60) (by omega) (by omega) (by omega) (by omega) (by omega) (by omega) (by omega)
        have rt576 : RT g n (sI M542 54 20 1) (nx g n p) := RT.same rt560 (Fz.sI rfl) rfl rfl rfl rfl rfl
        have k60577 : mI (sI M542 54 20 1) 60 = mI M 60 := (show mI (sI M542 54 20 1) 60 = mI M542 60 from kp_sI rfl rfl).trans (kp546.trans h60)
        refine vc_cVU dX12_beginOne_95 (sfX12_settlePileF (M := (sI M542 54 20 1)) hB564.1  S 3 (by omega) (by omega) (by assumption) (by omega) (by omega)) rfl okX12_settlePile viX12_settlePile lkX12_211 (s_54 hB564.1.1) cl_12 rfl (Nat.le_of_ble_eq_true rfl) ⟨rfl, rfl⟩ (Nat.le_of_ble_eq_true rfl) (Nat.le_of_ble_eq_true rfl) (Nat.le_of_ble_eq_true rfl) ?_
        rintro M578 ⟨hB579, kp580, kp581, h582, h583, h584, h585, h586, h587, h588, h589, h590, h591, h592, h593, h594, h595⟩
        have hB596 : BF fT M M578 := BF.go hB564 hB579
        have kp597 : mI M578 55 = mI M 55 := kp_go kp563 kp580
        have fr598 : ∀ j : Nat, (j : Int) < mI M 54 14 + 265 + 2 * S → mI M578 57 j = mI M 57 j := fun j hj => (h591 j (by omega)).trans (fr562 j hj)
        have hl2 := h582.len
        have hSJn : SJ M578 (dm sk) := SJ.min (M := (sI M542 54 20 1)) (SI0.same hS.1 k60577 (by omega)) hPI575 kp581 (by omega) (by omega) h592 h593
        have rt599 : RT g n M578 (nx g n p) := RT.same rt576 hB579.2.2 (by omega) (by omega) (by omega) h594 h595
        refine vc_iconst dX12_beginOne_98 rfl ?_
        refine vc_iret dX12_beginOne_99 rfl (Nat.le_of_ble_eq_true rfl) (Nat.le_of_ble_eq_true rfl) ?_
        exact ⟨_, rfl, hB596, kp597, by omega, by omega, fun _ => h582, by omega, by omega, by omega, by omega, by omega, by omega, fr598, by omega, Or.inl ⟨rfl, _, _, hSJn, rt599, fun o z => r_num (by omega) (by omega) (rn_t (by omega) z)⟩⟩
      · refine vc_aload_n dX12_beginOne_29 rfl ?_
        refine vc_iload_n dX12_beginOne_30 rfl ?_
        refine vc_cVI dX12_beginOne_31 (sfX12_isOfF (M := M) hB0.1  x513 (by omega) (by omega) (by omega) (by omega)) rfl okX12_isOf viX12_isOf lkX12_204 (s_54 hB0.1.1) cl_12 rfl (Nat.le_of_ble_eq_true rfl) ⟨rfl, rfl⟩ (Nat.le_of_ble_eq_true rfl) (Nat.le_of_ble_eq_true rfl) (Nat.le_of_ble_eq_true rfl) ?_
        rintro x600 _ ⟨rfl, h601, h602, h603⟩
        have hof := h603
        rw [p5] at hof
        refine vc_if_ne dX12_beginOne_34 (fun h604 => ?_) (fun h604 => ?_)
        · refine vc_aload_n dX12_beginOne_39 rfl ?_
          refine vc_getI dX12_beginOne_40 flX12_129 (s_54 hB0.1.1) rfl ?_
          refine vc_iconst dX12_beginOne_43 rfl ?_
          refine vc_icmp_eq dX12_beginOne_44 (fun h605 => ?_) (fun h605 => by exfalso; omega)
          refine vc_aload_n dX12_beginOne_51 rfl ?_
          refine vc_aload_n dX12_beginOne_52 rfl ?_
          refine vc_getI dX12_beginOne_53 flX12_129 (s_54 hB0.1.1) rfl ?_
          refine vc_iconst dX12_beginOne_56 rfl ?_
          refine vc_icmp_ne dX12_beginOne_57 (fun h606 => by exfalso; omega) (fun h606 => ?_)
          refine vc_iconst dX12_beginOne_60 rfl ?_
          refine vc_goto dX12_beginOne_61 ?_
          refine vc_aload_n dX12_beginOne_65 rfl ?_
          refine vc_getI dX12_beginOne_66 flX12_129 (s_54 hB0.1.1) rfl ?_
          refine vc_iconst dX12_beginOne_69 rfl ?_
          refine vc_icmp_ne dX12_beginOne_70 (fun h607 => by exfalso; omega) (fun h607 => ?_)
          refine vc_aload_n dX12_beginOne_73 rfl ?_
          refine vc_getI dX12_beginOne_74 flX12_135 (s_54 hB0.1.1) rfl ?_
          refine vc_goto dX12_beginOne_77 ?_
          refine vc_cVU dX12_beginOne_81 (sfX12_emitF (M := M) hB0.1  0 (mI M 54 12) (by omega) (by omega)) rfl okX12_emit viX12_emit lkX12_186 (s_54 hB0.1.1) cl_12 rfl (Nat.le_of_ble_eq_true rfl) ⟨rfl, rfl⟩ (Nat.le_of_ble_eq_true rfl) (Nat.le_of_ble_eq_true rfl) (Nat.le_of_ble_eq_true rfl) ?_
          rintro M608 ⟨hB609, kp610, kp611, h612, h613, h614, h615, h616, h617, h618, h619, h620, h621, h622, h623, h624⟩
          have hB625 : BF fT M M608 := BF.go hB0 hB609
          have kp626 : mI M608 55 = mI M 55 := kp_go rfl kp610
          have h57 := h613
          have h60 := kp611
          have fr627 := fr_emit (A := M) (B := M) (t := mI M 54 14 + 265 + 2 * S) (by omega) (by omega) h57 (fun _ _ => rfl)
          refine vc_aload_n dX12_beginOne_84 rfl ?_
          have hgf := RT.gf hT hB625.2.2
          have hat0 := RT.at hT (by omega)
          have hrg0 := RT.rg hT
          refine vc_cVU dX12_beginOne_85 (sfX12_nextTokenF (M := M608) hB625.1   (by first | (rw [hgf.2.1]; omega) | omega) (by first | (rw [hgf.1]; exact hgf.2.2) | assumption)) rfl okX12_nextToken viX12_nextToken lkX12_193 (s_54 hB625.1.1) cl_12 rfl (Nat.le_of_ble_eq_true rfl) ⟨rfl, rfl⟩ (Nat.le_of_ble_eq_true rfl) (Nat.le_of_ble_eq_true rfl) (Nat.le_of_ble_eq_true rfl) ?_
          rintro M628 ⟨hB629, kp630, kp631, kp632, h633, h634, h635, h636, h637, h638, h639, h640, h641, h642, h643⟩
          have hB644 : BF fT M M628 := BF.go hB625 hB629.t
          have kp645 : mI M628 55 = mI M 55 := kp_go kp626 kp630
          have rt646 : RT g n M628 (nx g n p) := by
            have z := h643
            rw [hgf.1, hgf.2.1, show mI M608 54 9 = en g n p by first | omega | (show mI M608 54 9 = _; omega)] at z
            exact z
          clear hrg0
          have rg647 := RT.rg rt646
          have fr648 : ∀ j : Nat, (j : Int) < mI M 54 14 + 265 + 2 * S → mI M628 57 j = mI M 57 j := fun j hj => (congrFun kp631 j).trans (fr627 j hj)
          have hbx := b54_10 (M := M628) hB644.1
          refine vc_aload_n dX12_beginOne_88 rfl ?_
          refine vc_iconst dX12_beginOne_89 rfl ?_
          refine vc_putZ dX12_beginOne_90 (plX12_207 _ rfl) (s_54 hB644.1.1) rfl (by first | decide | omega) ?_
          have kp649 : mI (sI M628 54 20 1) 55 = mI M 55 := (kp_sI kp645 rfl)
          have hB650 : BF fT M (sI M628 54 20 1) := BF.w54_20 hB644 rfl
          refine vc_aload_n dX12_beginOne_93 rfl ?_
          refine vc_iconst dX12_beginOne_94 rfl ?_
          have k651 : mI (sI M628 54 20 1) 54 9 = mI M628 54 9 := rfl
          have k652 : mI (sI M628 54 20 1) 54 10 = mI M628 54 10 := rfl
          have k653 : mI (sI M628 54 20 1) 54 11 = mI M628 54 11 := rfl
          have k654 : mI (sI M628 54 20 1) 54 14 = mI M628 54 14 := rfl
          have k655 : mI (sI M628 54 20 1) 54 15 = mI M628 54 15 := rfl
          have k656 : mI (sI M628 54 20 1) 54 16 = mI M628 54 16 := rfl
          have k657 : mI (sI M628 54 20 1) 54 18 = mI M628 54 18 := rfl
          have k658 : mI (sI M628 54 20 1) 54 19 = mI M628 54 19 := rfl
          have k659 : mI (sI M628 54 20 1) 54 20 = 1 := rfl
          have k660 : mI (sI M628 54 20 1) 54 21 = mI M628 54 21 := rfl
          have hz5 := congrFun kp649 5
          have hPI661 : PI (sI M628 54 20 1) S := PI.num (M := M) (o := 0) (v := (mI M 54 12)) p0 (by omega) (by omega) (fun h => absurd h (by decide)) (kp631.trans h57) (kp632.trans h60) (by omega) (by omega) (by omega) (by omega) (by omega) (by omega) (by omega)
          have rt662 : RT g n (sI M628 54 20 1) (nx g n p) := RT.same rt646 (Fz.sI rfl) rfl rfl rfl rfl rfl
          have k60663 : mI (sI M628 54 20 1) 60 = mI M 60 := (show mI (sI M628 54 20 1) 60 = mI M628 60 from kp_sI rfl rfl).trans (kp632.trans h60)
          refine vc_cVU dX12_beginOne_95 (sfX12_settlePileF (M := (sI M628 54 20 1)) hB650.1  S 3 (by omega) (by omega) (by assumption) (by omega) (by omega)) rfl okX12_settlePile viX12_settlePile lkX12_211 (s_54 hB650.1.1) cl_12 rfl (Nat.le_of_ble_eq_true rfl) ⟨rfl, rfl⟩ (Nat.le_of_ble_eq_true rfl) (Nat.le_of_ble_eq_true rfl) (Nat.le_of_ble_eq_true rfl) ?_
          rintro M664 ⟨hB665, kp666, kp667, h668, h669, h670, h671, h672, h673, h674, h675, h676, h677, h678, h679, h680, h681⟩
          have hB682 : BF fT M M664 := BF.go hB650 hB665
          have kp683 : mI M664 55 = mI M 55 := kp_go kp649 kp666
          have fr684 : ∀ j : Nat, (j : Int) < mI M 54 14 + 265 + 2 * S → mI M664 57 j = mI M 57 j := fun j hj => (h677 j (by omega)).trans (fr648 j hj)
          have hl2 := h668.len
          have hSJn : SJ M664 (dm sk) := SJ.min (M := (sI M628 54 20 1)) (SI0.same hS.1 k60663 (by omega)) hPI661 kp667 (by omega) (by omega) h678 h679
          have rt685 : RT g n M664 (nx g n p) := RT.same rt662 hB665.2.2 (by omega) (by omega) (by omega) h680 h681
          refine vc_iconst dX12_beginOne_98 rfl ?_
          refine vc_iret dX12_beginOne_99 rfl (Nat.le_of_ble_eq_true rfl) (Nat.le_of_ble_eq_true rfl) ?_
          exact ⟨_, rfl, hB682, kp683, by omega, by omega, fun _ => h668, by omega, by omega, by omega, by omega, by omega, by omega, fr684, by omega, Or.inl ⟨rfl, _, _, hSJn, rt685, fun o z => r_num (by omega) (by omega) (rn_t (by omega) z)⟩⟩
        · refine vc_iconst dX12_beginOne_37 rfl ?_
          refine vc_iret dX12_beginOne_38 rfl (Nat.le_of_ble_eq_true rfl) (Nat.le_of_ble_eq_true rfl) ?_
          exact ⟨_, rfl, hB0, rfl, by omega, by omega, fun h => absurd h (by decide), by omega, by omega, by omega, by omega, by omega, by omega, (fun _ _ => rfl), by omega, Or.inr ⟨by decide, by rw [show mI M 54 10 = p by omega]; exact r_bad (by omega) (by omega) (by rw [show tk g n p - 128 = x513 by omega]; rcases hof with z | z; (omega); (exact z.2))⟩⟩
    · refine vc_iconst dX12_beginOne_18 rfl ?_
      refine vc_iret dX12_beginOne_19 rfl (Nat.le_of_ble_eq_true rfl) (Nat.le_of_ble_eq_true rfl) ?_
      exact ⟨_, rfl, hB0, rfl, by omega, by omega, fun h => absurd h (by decide), by omega, by omega, by omega, by omega, by omega, by omega, (fun _ _ => rfl), by omega, Or.inr ⟨by decide, by rw [show mI M 54 10 = p by omega]; exact r_big (by omega)⟩⟩
