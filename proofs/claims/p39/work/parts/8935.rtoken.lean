/-! THE REFERENCE'S READER: its state, its answers against the spec -/
/-- the pile without what waits for its second side -/
def stk (f : Nat → Int) : Nat → List Int
  | 0 => []
  | m + 1 => if 3 ≤ f m ∧ f m ≤ 6 then stk f m else (if f m = 43 then 41 else if f m = 44 then 42 else f m) :: stk f m
/-- nothing that waits lies on a minus -/
def OM (f : Nat → Int) (m : Nat) : Prop := ∀ j : Nat, j + 1 < m → 3 ≤ f (j + 1) → f (j + 1) ≤ 6 → f j ≠ 2
theorem stk_co {f g : Nat → Int} : ∀ m : Nat, (∀ q, q < m → g q = f q) → stk g m = stk f m
  | 0, _ => rfl
  | m + 1, h => by
    unfold stk
    rw [h m (by omega), stk_co m (fun q hq => h q (by omega))]
theorem OM.co {f g : Nat → Int} {m : Nat} (h : OM f m) (hg : ∀ q, q < m → g q = f q) : OM g m := fun j a b c => by
  rw [hg _ a] at b c
  rw [hg j (by omega)]
  exact h j a b c
theorem OM.le {f : Nat → Int} {m m2 : Nat} (h : OM f m) (hl : m2 ≤ m) : OM f m2 := fun j a b c => h j (by omega) b c
theorem stk_len {f : Nat → Int} : ∀ m : Nat, plO f m → (stk f m).length = cO f m
  | 0, _ => rfl
  | m + 1, h => by
    have a := stk_len m h.1
    have b := h.2.1
    unfold stk
    rw [cO_s]
    unfold isO
    by_cases e : 3 ≤ f m ∧ f m ≤ 6
    · rw [if_pos e, if_neg (by omega), a]
      rfl
    · rw [if_neg e, List.length_cons, a, if_pos (by omega)]
/-- behind one that is whole no minus is the top: then none is the stack's -/
theorem dm_top {f : Nat → Int} : ∀ m : Nat, plO f m → OM f m → (m = 0 ∨ f (m - 1) ≠ 2) → dm (stk f m) = stk f m
  | 0, _, _, _ => rfl
  | m + 1, h, ho, ht => by
    have b := h.2.1
    have ht2 : f m ≠ 2 := by
      rcases ht with e | e
      · omega
      · exact e
    unfold stk
    by_cases e : 3 ≤ f m ∧ f m ≤ 6
    · rw [if_pos e]
      refine dm_top m h.1 (ho.le (by omega)) ?_
      cases m with
      | zero => exact Or.inl rfl
      | succ m => exact Or.inr (ho m (by omega) e.1 e.2)
    · rw [if_neg e]
      unfold dm
      rw [if_neg (by split <;> first | omega | (split <;> omega))]
/-- what waits goes out: the stack stays -/
theorem stk_ops {f : Nat → Int} : ∀ (d m : Nat), plO f (m + d) → OM f (m + d) → (m + d = 0 ∨ f (m + d - 1) ≠ 2) → (∀ q : Nat, m ≤ q → q < m + d → f q < 40) → stk f (m + d) = stk f m ∧ (m = 0 ∨ f (m - 1) ≠ 2)
  | 0, m, _, _, ht, _ => ⟨rfl, ht⟩
  | d + 1, m, h, ho, ht, hq => by
    have b : (2 ≤ f (m + d) ∧ f (m + d) ≤ 6) ∨ (40 ≤ f (m + d) ∧ f (m + d) ≤ 44) := h.2.1
    have q := hq (m + d) (by omega) (by omega)
    have ht2 : f (m + d) ≠ 2 := by
      rcases ht with e | e
      · omega
      · exact e
    have e : 3 ≤ f (m + d) ∧ f (m + d) ≤ 6 := by omega
    have ih := stk_ops d m h.1 (ho.le (by omega)) (by
      by_cases e0 : m + d = 0
      · exact Or.inl e0
      · right
        have := ho (m + d - 1) (by omega)
        rw [show m + d - 1 + 1 = m + d by omega] at this
        exact this e.1 e.2) (fun q a c => hq q a (by omega))
    refine ⟨?_, ih.2⟩
    show stk f (m + d + 1) = _
    rw [stk, if_pos e]
    exact ih.1
/-- minuses go out -/
theorem stk_min {f : Nat → Int} : ∀ (d m : Nat), (∀ q : Nat, m ≤ q → q < m + d → f q = 2) → dm (stk f (m + d)) = dm (stk f m)
  | 0, m, _ => rfl
  | d + 1, m, hq => by
    have q := hq (m + d) (by omega) (by omega)
    show dm (stk f (m + d + 1)) = _
    rw [stk, if_neg (by omega)]
    rw [if_neg (by omega), if_neg (by omega), q]
    show dm (2 :: stk f (m + d)) = _
    rw [dm, if_pos rfl]
    exact stk_min d m (fun q a c => hq q a (by omega))
/-- the pile of the sum: the stack -/
def SI (M : Mem) (s : List Int) : Prop := s = stk (mI M 60) (mI M 54 18).toNat ∧ OM (mI M 60) (mI M 54 18).toNat
def TKR (tok num a t e : Int) : Prop := (tok = 0 ∧ t = 0) ∨ (tok = 1 ∧ ((1000 ≤ t ∧ t ≤ 10999 ∧ num = t - 1000) ∨ (t = 11000 ∧ 10000 ≤ num)) ∧ a = e) ∨ (tok = 2 ∧ 100 ≤ t ∧ t ≤ 136 ∧ a = e) ∨ (6 ≤ tok ∧ tok ≤ 255 ∧ t = tok - 300 ∧ a = e) ∨ (3 ≤ tok ∧ tok ≤ 5 ∧ -300 ≤ t ∧ t < -44 ∧ t ≠ -260 ∧ t ≠ -259 ∧ t ≠ -258 ∧ t ≠ -257 ∧ t ≠ -256 ∧ t ≠ -255 ∧ t ≠ -253 ∧ t ≠ -242 ∧ t ≠ -241)
def WN (wd t : Int) : Prop := ∀ i : Nat, i < 36 → (wd = pkr (WL.getD i []).reverse ↔ t = 101 + i)
def RT (g : Nat → Int) (n : Int) (M : Mem) (q : Int) : Prop := (mI M 59 = g ∧ mI M 54 6 = n ∧ byt g) ∧ (mI M 54 10 = q ∧ 0 ≤ q ∧ q ≤ n ∧ n ≤ 300) ∧ TKR (mI M 54 11) (mI M 54 12) (mI M 54 9) (tk g n q) (en g n q) ∧ (mI M 54 11 = 2 → WN (mJ M 54 13) (tk g n q))
theorem RT.same {g : Nat → Int} {n : Int} {M N : Mem} {q : Int} (h : RT g n M q) (f : Fz M N) (e9 : mI N 54 9 = mI M 54 9) (e10 : mI N 54 10 = mI M 54 10) (e11 : mI N 54 11 = mI M 54 11) (e12 : mI N 54 12 = mI M 54 12) (e13 : mJ N 54 13 = mJ M 54 13) : RT g n N q := by
  unfold RT
  rw [e9, e10, e11, e12, e13, f 54 6 rfl, show mI N 59 = mI M 59 from funext fun j => f 59 j rfl]
  exact h
theorem RT.gf {g : Nat → Int} {n : Int} {M N : Mem} {q : Int} (h : RT g n M q) (f : Fz M N) : mI N 59 = g ∧ mI N 54 6 = n ∧ byt g := by
  rw [f 54 6 rfl, show mI N 59 = mI M 59 from funext fun j => f 59 j rfl]
  exact h.1
theorem RT.rg {g : Nat → Int} {n : Int} {M : Mem} {q : Int} (h : RT g n M q) : mI M 54 10 = q ∧ 0 ≤ q ∧ q ≤ n ∧ n ≤ 300 ∧ (tk g n q = 0 ∨ (q < n ∧ q < nx g n q ∧ nx g n q ≤ n)) ∧ (q < n → q < en g n q ∧ en g n q ≤ n) := by
  obtain ⟨h1, h2, h3, h4⟩ := h
  refine ⟨h2.1, h2.2.1, h2.2.2.1, h2.2.2.2, ?_, fun e => en_rg h2.2.1 e⟩
  by_cases e : q < n
  · exact Or.inr ⟨e, nx_rg h2.2.1 e⟩
  · exact Or.inl (tk_end (by omega))
theorem RT.tkr {g : Nat → Int} {n : Int} {M : Mem} {q : Int} (h : RT g n M q) : TKR (mI M 54 11) (mI M 54 12) (mI M 54 9) (tk g n q) (en g n q) := h.2.2.1
theorem RT.iw {g : Nat → Int} {n : Int} {M : Mem} {q : Int} (h : RT g n M q) (i : Nat) (hi : i < 36) {w t : Int} (hw : w = pkr (WL.getD i []).reverse) (ht : t = 101 + i) : (mI M 54 11 = 2 ∧ mJ M 54 13 = w) ↔ tk g n q = t := by
  obtain ⟨h1, h2, h3, h4⟩ := h
  rw [hw, ht]
  constructor
  · intro e
    exact ((h4 e.1) i hi).mp e.2
  · intro e
    have a : mI M 54 11 = 2 := by unfold TKR at h3; omega
    exact ⟨a, ((h4 a) i hi).mpr e⟩
/-- the answer of a piece -/
def FR (g : Nat → Int) (n : Int) (N : Mem) (r : Int) (s : Int × Int) : Prop := r = s.1 ∧ ((s.1 = 0 ∧ RT g n N s.2) ∨ (s.1 ≠ 0 ∧ mI N 54 10 = s.2))
theorem FR.ok {g : Nat → Int} {n : Int} {N : Mem} {r : Int} {s : Int × Int} (h : FR g n N r s) (h0 : r = 0) : s.1 = 0 ∧ RT g n N s.2 := by
  obtain ⟨a, b | b⟩ := h
  · exact b
  · exact absurd (a.symm.trans h0) b.1
theorem FR.bad {g : Nat → Int} {n : Int} {N : Mem} {r : Int} {s : Int × Int} (h : FR g n N r s) (h0 : r ≠ 0) : s.1 = r ∧ mI N 54 10 = s.2 := by
  obtain ⟨a, b | b⟩ := h
  · exact absurd (a.trans b.1) h0
  · exact ⟨a.symm, b.2⟩
theorem FR.cast {g : Nat → Int} {n : Int} {N : Mem} {r r2 : Int} {s : Int × Int} (h : FR g n N r s) (e : r2 = r) : FR g n N r2 s := by
  rw [e]; exact h
theorem FR.b_bad {g : Nat → Int} {n : Int} {N : Mem} {r r2 : Int} {s : Int × Int} {F : Int → Int × Int} (h : FR g n N r s) (h0 : r ≠ 0) (h2 : r2 = r) : FR g n N r2 (sBind s F) := by
  have a := h.bad h0
  rw [sBind_bad (by omega), h2]
  exact ⟨a.1.symm, Or.inr ⟨by omega, a.2⟩⟩
theorem FR.b_ok {g : Nat → Int} {n : Int} {M N : Mem} {r r2 : Int} {s : Int × Int} {F : Int → Int × Int} (h : FR g n M r s) (h0 : r = 0) (h2 : FR g n N r2 (F s.2)) : FR g n N r2 (sBind s F) := by
  have a := h.ok h0
  rw [sBind_ok a.1]
  exact h2
theorem FRb {g : Nat → Int} {n : Int} {N : Mem} {r q : Int} {s : Int × Int} (hr : r ≠ 0) (hp : mI N 54 10 = q) (hs : s = (r, q)) : FR g n N r s := by
  rw [hs]; exact ⟨rfl, Or.inr ⟨hr, hp⟩⟩
theorem FRo {g : Nat → Int} {n : Int} {N : Mem} {r q : Int} {s : Int × Int} (hr : r = 0) (h : RT g n N q) (hs : s = (0, q)) : FR g n N r s := by
  rw [hs]; exact ⟨hr, Or.inl ⟨rfl, h⟩⟩
/-- a token made -/
theorem tk_num {g : Nat → Int} {n q e v : Int} (h0 : 0 ≤ q) (h1 : q < n) (hd : 48 ≤ g q.toNat ∧ g q.toNat ≤ 57) (he : en g n q = e) (hv : v = nuR g (e - q).toNat q.toNat 0) : (1000 ≤ tk g n q ∧ tk g n q ≤ 10999 ∧ v = tk g n q - 1000) ∨ (tk g n q = 11000 ∧ 10000 ≤ v) := by
  have a := en_rg (f := g) h0 h1
  have q2 := nu_eq g (e - q).toNat q.toNat 0 0 (fun i x y => tDig_t.mpr (en_in_dig (n := n) h0 hd i (by omega) (by omega))) (by decide) (by decide) (Or.inl ⟨rfl, by decide⟩)
  rw [tk_dig h1 hd, he]
  omega
theorem tk_wn {g : Nat → Int} {n q e v : Int} (h0 : 0 ≤ q) (h1 : q < n) (hl : (97 ≤ g q.toNat ∧ g q.toNat ≤ 122) ∨ (65 ≤ g q.toNat ∧ g q.toNat ≤ 90)) (he : en g n q = e) (hv : v = wpk g (e - q).toNat q.toNat 0) : 100 ≤ tk g n q ∧ tk g n q ≤ 136 ∧ WN v (tk g n q) := by
  have a := en_rg (f := g) h0 h1
  have b := idx36 (tl g (e - q).toNat q.toNat)
  rw [tk_let h1 hl, he]
  refine ⟨by omega, by omega, fun i hi => ?_⟩
  rw [hv, wpk_iff g _ _ (fun i x y => by have := en_in_let (n := n) h0 hl i (by omega) (by omega); omega) i hi]
  omega
theorem RT.nm {g : Nat → Int} {n : Int} {M : Mem} {q : Int} (h : RT g n M q) : (mI M 54 11 = 1 ∧ 1000 ≤ tk g n q ∧ tk g n q ≤ 11000 ∧ ((mI M 54 12 = tk g n q - 1000 ∧ tk g n q ≤ 10999) ∨ (10000 ≤ mI M 54 12 ∧ tk g n q = 11000))) ∨ (mI M 54 11 ≠ 1 ∧ tk g n q < 1000) := by
  have a := h.tkr
  unfold TKR at a
  omega
theorem RT.sg {g : Nat → Int} {n : Int} {M : Mem} {q : Int} (h : RT g n M q) (c : Int) {t : Int} (hc : c = 40 ∨ c = 41 ∨ c = 42 ∨ c = 43 ∨ c = 44 ∨ c = 45 ∨ c = 47 ∨ c = 58 ∨ c = 59) (ht : t = c - 300) : mI M 54 11 = c ↔ tk g n q = t := by
  have a := h.tkr
  unfold TKR at a
  omega
theorem RT.zr {g : Nat → Int} {n : Int} {M : Mem} {q : Int} (h : RT g n M q) : mI M 54 11 = 0 ↔ tk g n q = 0 := by
  have a := h.tkr
  unfold TKR at a
  omega
theorem RT.w2 {g : Nat → Int} {n : Int} {M : Mem} {q : Int} (h : RT g n M q) : mI M 54 11 = 2 ↔ (100 ≤ tk g n q ∧ tk g n q ≤ 136) := by
  have a := h.tkr
  unfold TKR at a
  omega
theorem RT.at {g : Nat → Int} {n : Int} {M : Mem} {q : Int} (h : RT g n M q) (ht : 100 ≤ tk g n q ∨ tk g n q = -260 ∨ tk g n q = -259 ∨ tk g n q = -258 ∨ tk g n q = -257 ∨ tk g n q = -256 ∨ tk g n q = -255 ∨ tk g n q = -253 ∨ tk g n q = -242 ∨ tk g n q = -241) : mI M 54 9 = en g n q := by
  have a := h.tkr
  unfold TKR at a
  omega

theorem i64_nat {x : Int64} (h : x.toBitVec.toNat < 9223372036854775808) : x.toInt = (x.toBitVec.toNat : Int) := by
  show x.toBitVec.toInt = _
  exact BitVec.toInt_eq_toNat_of_lt (by omega)
theorem i64_of {w : Int} (h0 : 0 ≤ w) (h1 : w < 18446744073709551616) : (Int64.ofInt w).toBitVec.toNat = w.toNat := by
  show (BitVec.ofInt 64 w).toNat = _
  rw [BitVec.toNat_ofInt]
  have : w % ((2 ^ 64 : Nat) : Int) = w := Int.emod_eq_of_lt h0 (by exact h1)
  rw [this]
theorem shl8 {w : Int} (h0 : 0 ≤ w) (h1 : w < 281474976710656) : shlL w 8 = 256 * w := by
  unfold shlL
  rw [show (Int32.ofInt 8).toInt64 &&& 63 = 8 by decide]
  have e : (Int64.ofInt w <<< 8).toBitVec.toNat = 256 * w.toNat := by
    rw [Int64.toBitVec_shiftLeft]
    show (Int64.ofInt w).toBitVec.toNat <<< 8 % 18446744073709551616 = _
    rw [i64_of h0 (by omega), Nat.shiftLeft_eq]
    omega
  rw [i64_nat (by rw [e]; omega), e]
  omega
theorem or8 {w b : Int} (h0 : 0 ≤ w) (h1 : w < 281474976710656) (hb : 0 ≤ b) (hb2 : b ≤ 255) : orL (256 * w) b = 256 * w + b := by
  unfold orL
  have e : (Int64.ofInt (256 * w) ||| Int64.ofInt b).toBitVec.toNat = 256 * w.toNat + b.toNat := by
    rw [Int64.toBitVec_or, BitVec.toNat_or, i64_of (by omega) (by omega), i64_of hb (by omega)]
    have q := Nat.two_pow_add_eq_or_of_lt (i := 8) (b := b.toNat) (by omega) w.toNat
    rw [show (256 * w).toNat = 2 ^ 8 * w.toNat by omega, ← q]
  rw [i64_nat (by rw [e]; omega), e]
  omega
theorem shr48 {w : Int} (h0 : 0 ≤ w) (h1 : w < 9223372036854775808) : shrL w 48 = w / 281474976710656 := by
  unfold shrL
  rw [show (Int32.ofInt 48).toInt64 &&& 63 = 48 by decide]
  show ((Int64.ofInt w).toBitVec.sshiftRight 48).toInt = _
  rw [BitVec.toInt_sshiftRight]
  have e : (Int64.ofInt w).toBitVec.toInt = w := by
    rw [show (Int64.ofInt w).toBitVec.toInt = (Int64.ofInt w).toInt from rfl, i64_nat (by rw [i64_of h0 (by omega)]; omega), i64_of h0 (by omega)]
    omega
  rw [e]
  exact Int.shiftRight_eq_div_pow w 48

theorem wpk_rg (f : Nat → Int) : ∀ (k p : Nat) (v : Int), (∀ i, 0 ≤ f i ∧ f i ≤ 255) → 0 ≤ v → v ≤ 1152921504606846976 → 0 ≤ wpk f k p v ∧ wpk f k p v ≤ 1152921504606846976
  | 0, p, v, _, h0, h1 => ⟨h0, h1⟩
  | k + 1, p, v, h, h0, h1 => by
    have d := h p
    unfold wpk
    refine wpk_rg f k (p + 1) _ h ?_ ?_
    · split <;> omega
    · split <;> omega
theorem bt_rg {a n x v : Int} (h : (a < n ∧ x = v) ∨ (n ≤ a ∧ x = -1)) (hv : 0 ≤ v ∧ v ≤ 255) : -1 ≤ x ∧ x ≤ 255 := by omega
set_option maxRecDepth 4000 in
theorem sfX12_isSignF {l : Launch} {M : Mem} (hB : Box M)  (c : Int)  : Call l mdX12_isSign [aI c] M (fun q N => ∃ r : Int, q = some (aI r) ∧ M = N ∧ 0 ≤ r ∧ r ≤ 1 ∧ ((r = 1 ∧ 6 ≤ c) ∨ (r = 0 ∧ c ≠ 40 ∧ c ≠ 41 ∧ c ≠ 42 ∧ c ≠ 43 ∧ c ≠ 44 ∧ c ≠ 45 ∧ c ≠ 47 ∧ c ≠ 58 ∧ c ≠ 59 ∧ c ≠ 60 ∧ c ≠ 62))) := by
  have hB0 : BF fQ M M := BF.start hB
  refine Call.of [some (aI c)] rfl (Nat.le_of_ble_eq_true rfl) rfl ?_
  refine vc_ok (fun hoM hoS hoL => ?_)
  have hr0 : -2147483648 ≤ c ∧ c < 2147483648 := hoL 0 _ rfl
  refine vc_iload_n dX12_isSign_0 rfl ?_
  by_cases h1 : c = 35
  · refine vc_tabIn dX12_isSign_1 35 128 h1 rfl rfl rfl ?_
    refine vc_iconst dX12_isSign_128 rfl ?_
    refine vc_zret dX12_isSign_129 rfl (by first | decide | omega) (Nat.le_of_ble_eq_true rfl) (Nat.le_of_ble_eq_true rfl) ?_
    exact ⟨_, rfl, rfl, by omega, by omega, by omega⟩
  by_cases h2 : c = 40
  · refine vc_tabIn dX12_isSign_1 40 128 h2 rfl rfl rfl ?_
    refine vc_iconst dX12_isSign_128 rfl ?_
    refine vc_zret dX12_isSign_129 rfl (by first | decide | omega) (Nat.le_of_ble_eq_true rfl) (Nat.le_of_ble_eq_true rfl) ?_
    exact ⟨_, rfl, rfl, by omega, by omega, by omega⟩
  by_cases h3 : c = 41
  · refine vc_tabIn dX12_isSign_1 41 128 h3 rfl rfl rfl ?_
    refine vc_iconst dX12_isSign_128 rfl ?_
    refine vc_zret dX12_isSign_129 rfl (by first | decide | omega) (Nat.le_of_ble_eq_true rfl) (Nat.le_of_ble_eq_true rfl) ?_
    exact ⟨_, rfl, rfl, by omega, by omega, by omega⟩
  by_cases h4 : c = 42
  · refine vc_tabIn dX12_isSign_1 42 128 h4 rfl rfl rfl ?_
    refine vc_iconst dX12_isSign_128 rfl ?_
    refine vc_zret dX12_isSign_129 rfl (by first | decide | omega) (Nat.le_of_ble_eq_true rfl) (Nat.le_of_ble_eq_true rfl) ?_
    exact ⟨_, rfl, rfl, by omega, by omega, by omega⟩
  by_cases h5 : c = 43
  · refine vc_tabIn dX12_isSign_1 43 128 h5 rfl rfl rfl ?_
    refine vc_iconst dX12_isSign_128 rfl ?_
    refine vc_zret dX12_isSign_129 rfl (by first | decide | omega) (Nat.le_of_ble_eq_true rfl) (Nat.le_of_ble_eq_true rfl) ?_
    exact ⟨_, rfl, rfl, by omega, by omega, by omega⟩
  by_cases h6 : c = 44
  · refine vc_tabIn dX12_isSign_1 44 128 h6 rfl rfl rfl ?_
    refine vc_iconst dX12_isSign_128 rfl ?_
    refine vc_zret dX12_isSign_129 rfl (by first | decide | omega) (Nat.le_of_ble_eq_true rfl) (Nat.le_of_ble_eq_true rfl) ?_
    exact ⟨_, rfl, rfl, by omega, by omega, by omega⟩
  by_cases h7 : c = 45
  · refine vc_tabIn dX12_isSign_1 45 128 h7 rfl rfl rfl ?_
    refine vc_iconst dX12_isSign_128 rfl ?_
    refine vc_zret dX12_isSign_129 rfl (by first | decide | omega) (Nat.le_of_ble_eq_true rfl) (Nat.le_of_ble_eq_true rfl) ?_
    exact ⟨_, rfl, rfl, by omega, by omega, by omega⟩
  by_cases h8 : c = 47
  · refine vc_tabIn dX12_isSign_1 47 128 h8 rfl rfl rfl ?_
    refine vc_iconst dX12_isSign_128 rfl ?_
    refine vc_zret dX12_isSign_129 rfl (by first | decide | omega) (Nat.le_of_ble_eq_true rfl) (Nat.le_of_ble_eq_true rfl) ?_
    exact ⟨_, rfl, rfl, by omega, by omega, by omega⟩
  by_cases h9 : c = 58
  · refine vc_tabIn dX12_isSign_1 58 128 h9 rfl rfl rfl ?_
    refine vc_iconst dX12_isSign_128 rfl ?_
    refine vc_zret dX12_isSign_129 rfl (by first | decide | omega) (Nat.le_of_ble_eq_true rfl) (Nat.le_of_ble_eq_true rfl) ?_
    exact ⟨_, rfl, rfl, by omega, by omega, by omega⟩
  by_cases h10 : c = 59
  · refine vc_tabIn dX12_isSign_1 59 128 h10 rfl rfl rfl ?_
    refine vc_iconst dX12_isSign_128 rfl ?_
    refine vc_zret dX12_isSign_129 rfl (by first | decide | omega) (Nat.le_of_ble_eq_true rfl) (Nat.le_of_ble_eq_true rfl) ?_
    exact ⟨_, rfl, rfl, by omega, by omega, by omega⟩
  by_cases h11 : c = 60
  · refine vc_tabIn dX12_isSign_1 60 128 h11 rfl rfl rfl ?_
    refine vc_iconst dX12_isSign_128 rfl ?_
    refine vc_zret dX12_isSign_129 rfl (by first | decide | omega) (Nat.le_of_ble_eq_true rfl) (Nat.le_of_ble_eq_true rfl) ?_
    exact ⟨_, rfl, rfl, by omega, by omega, by omega⟩
  by_cases h12 : c = 61
  · refine vc_tabIn dX12_isSign_1 61 128 h12 rfl rfl rfl ?_
    refine vc_iconst dX12_isSign_128 rfl ?_
    refine vc_zret dX12_isSign_129 rfl (by first | decide | omega) (Nat.le_of_ble_eq_true rfl) (Nat.le_of_ble_eq_true rfl) ?_
    exact ⟨_, rfl, rfl, by omega, by omega, by omega⟩
  by_cases h13 : c = 62
  · refine vc_tabIn dX12_isSign_1 62 128 h13 rfl rfl rfl ?_
    refine vc_iconst dX12_isSign_128 rfl ?_
    refine vc_zret dX12_isSign_129 rfl (by first | decide | omega) (Nat.le_of_ble_eq_true rfl) (Nat.le_of_ble_eq_true rfl) ?_
    exact ⟨_, rfl, rfl, by omega, by omega, by omega⟩
  by_cases h14 : c = 36
  · refine vc_tabIn dX12_isSign_1 36 130 h14 rfl rfl rfl ?_
    refine vc_iconst dX12_isSign_130 rfl ?_
    refine vc_zret dX12_isSign_131 rfl (by first | decide | omega) (Nat.le_of_ble_eq_true rfl) (Nat.le_of_ble_eq_true rfl) ?_
    exact ⟨_, rfl, rfl, by omega, by omega, by omega⟩
  by_cases h15 : c = 37
  · refine vc_tabIn dX12_isSign_1 37 130 h15 rfl rfl rfl ?_
    refine vc_iconst dX12_isSign_130 rfl ?_
    refine vc_zret dX12_isSign_131 rfl (by first | decide | omega) (Nat.le_of_ble_eq_true rfl) (Nat.le_of_ble_eq_true rfl) ?_
    exact ⟨_, rfl, rfl, by omega, by omega, by omega⟩
  by_cases h16 : c = 38
  · refine vc_tabIn dX12_isSign_1 38 130 h16 rfl rfl rfl ?_
    refine vc_iconst dX12_isSign_130 rfl ?_
    refine vc_zret dX12_isSign_131 rfl (by first | decide | omega) (Nat.le_of_ble_eq_true rfl) (Nat.le_of_ble_eq_true rfl) ?_
    exact ⟨_, rfl, rfl, by omega, by omega, by omega⟩
  by_cases h17 : c = 39
  · refine vc_tabIn dX12_isSign_1 39 130 h17 rfl rfl rfl ?_
    refine vc_iconst dX12_isSign_130 rfl ?_
    refine vc_zret dX12_isSign_131 rfl (by first | decide | omega) (Nat.le_of_ble_eq_true rfl) (Nat.le_of_ble_eq_true rfl) ?_
    exact ⟨_, rfl, rfl, by omega, by omega, by omega⟩
  by_cases h18 : c = 46
  · refine vc_tabIn dX12_isSign_1 46 130 h18 rfl rfl rfl ?_
    refine vc_iconst dX12_isSign_130 rfl ?_
    refine vc_zret dX12_isSign_131 rfl (by first | decide | omega) (Nat.le_of_ble_eq_true rfl) (Nat.le_of_ble_eq_true rfl) ?_
    exact ⟨_, rfl, rfl, by omega, by omega, by omega⟩
  by_cases h19 : c = 48
  · refine vc_tabIn dX12_isSign_1 48 130 h19 rfl rfl rfl ?_
    refine vc_iconst dX12_isSign_130 rfl ?_
    refine vc_zret dX12_isSign_131 rfl (by first | decide | omega) (Nat.le_of_ble_eq_true rfl) (Nat.le_of_ble_eq_true rfl) ?_
    exact ⟨_, rfl, rfl, by omega, by omega, by omega⟩
  by_cases h20 : c = 49
  · refine vc_tabIn dX12_isSign_1 49 130 h20 rfl rfl rfl ?_
    refine vc_iconst dX12_isSign_130 rfl ?_
    refine vc_zret dX12_isSign_131 rfl (by first | decide | omega) (Nat.le_of_ble_eq_true rfl) (Nat.le_of_ble_eq_true rfl) ?_
    exact ⟨_, rfl, rfl, by omega, by omega, by omega⟩
  by_cases h21 : c = 50
  · refine vc_tabIn dX12_isSign_1 50 130 h21 rfl rfl rfl ?_
    refine vc_iconst dX12_isSign_130 rfl ?_
    refine vc_zret dX12_isSign_131 rfl (by first | decide | omega) (Nat.le_of_ble_eq_true rfl) (Nat.le_of_ble_eq_true rfl) ?_
    exact ⟨_, rfl, rfl, by omega, by omega, by omega⟩
  by_cases h22 : c = 51
  · refine vc_tabIn dX12_isSign_1 51 130 h22 rfl rfl rfl ?_
    refine vc_iconst dX12_isSign_130 rfl ?_
    refine vc_zret dX12_isSign_131 rfl (by first | decide | omega) (Nat.le_of_ble_eq_true rfl) (Nat.le_of_ble_eq_true rfl) ?_
    exact ⟨_, rfl, rfl, by omega, by omega, by omega⟩
  by_cases h23 : c = 52
  · refine vc_tabIn dX12_isSign_1 52 130 h23 rfl rfl rfl ?_
    refine vc_iconst dX12_isSign_130 rfl ?_
    refine vc_zret dX12_isSign_131 rfl (by first | decide | omega) (Nat.le_of_ble_eq_true rfl) (Nat.le_of_ble_eq_true rfl) ?_
    exact ⟨_, rfl, rfl, by omega, by omega, by omega⟩
  by_cases h24 : c = 53
  · refine vc_tabIn dX12_isSign_1 53 130 h24 rfl rfl rfl ?_
    refine vc_iconst dX12_isSign_130 rfl ?_
    refine vc_zret dX12_isSign_131 rfl (by first | decide | omega) (Nat.le_of_ble_eq_true rfl) (Nat.le_of_ble_eq_true rfl) ?_
    exact ⟨_, rfl, rfl, by omega, by omega, by omega⟩
  by_cases h25 : c = 54
  · refine vc_tabIn dX12_isSign_1 54 130 h25 rfl rfl rfl ?_
    refine vc_iconst dX12_isSign_130 rfl ?_
    refine vc_zret dX12_isSign_131 rfl (by first | decide | omega) (Nat.le_of_ble_eq_true rfl) (Nat.le_of_ble_eq_true rfl) ?_
    exact ⟨_, rfl, rfl, by omega, by omega, by omega⟩
  by_cases h26 : c = 55
  · refine vc_tabIn dX12_isSign_1 55 130 h26 rfl rfl rfl ?_
    refine vc_iconst dX12_isSign_130 rfl ?_
    refine vc_zret dX12_isSign_131 rfl (by first | decide | omega) (Nat.le_of_ble_eq_true rfl) (Nat.le_of_ble_eq_true rfl) ?_
    exact ⟨_, rfl, rfl, by omega, by omega, by omega⟩
  by_cases h27 : c = 56
  · refine vc_tabIn dX12_isSign_1 56 130 h27 rfl rfl rfl ?_
    refine vc_iconst dX12_isSign_130 rfl ?_
    refine vc_zret dX12_isSign_131 rfl (by first | decide | omega) (Nat.le_of_ble_eq_true rfl) (Nat.le_of_ble_eq_true rfl) ?_
    exact ⟨_, rfl, rfl, by omega, by omega, by omega⟩
  by_cases h28 : c = 57
  · refine vc_tabIn dX12_isSign_1 57 130 h28 rfl rfl rfl ?_
    refine vc_iconst dX12_isSign_130 rfl ?_
    refine vc_zret dX12_isSign_131 rfl (by first | decide | omega) (Nat.le_of_ble_eq_true rfl) (Nat.le_of_ble_eq_true rfl) ?_
    exact ⟨_, rfl, rfl, by omega, by omega, by omega⟩
  refine vc_tabOut dX12_isSign_1 130 (by omega) rfl ?_
  refine vc_iconst dX12_isSign_130 rfl ?_
  refine vc_zret dX12_isSign_131 rfl (by first | decide | omega) (Nat.le_of_ble_eq_true rfl) (Nat.le_of_ble_eq_true rfl) ?_
  exact ⟨_, rfl, rfl, by omega, by omega, by omega⟩

set_option maxRecDepth 4000 in
theorem sfX12_byteAtF {l : Launch} {M : Mem} (hB : Box M)  (k : Int) (p0 : 0 ≤ k) (p1 : k ≤ 301) : Call l mdX12_byteAt [aR 54, aI k] M (fun q N => ∃ r : Int, q = some (aI r) ∧ M = N ∧ ((k < mI M 54 6 ∧ r = mI M 59 k.toNat) ∨ (mI M 54 6 ≤ k ∧ r = -1))) := by
  have hB0 : BF fQ M M := BF.start hB
  refine Call.of [some (aR 54), some (aI k)] rfl (Nat.le_of_ble_eq_true rfl) rfl ?_
  refine vc_iload_n dX12_byteAt_0 rfl ?_
  refine vc_aload_n dX12_byteAt_1 rfl ?_
  refine vc_getI dX12_byteAt_2 flX12_112 (s_54 hB0.1.1) rfl ?_
  have k1 : 0 ≤ mI M 54 6 ∧ mI M 54 6 ≤ 300 := b54_6 (M := M) hB0.1
  refine vc_icmp_ge dX12_byteAt_5 (fun h2 => ?_) (fun h2 => ?_)
  · refine vc_iconst dX12_byteAt_17 rfl ?_
    refine vc_iret dX12_byteAt_18 rfl (Nat.le_of_ble_eq_true rfl) (Nat.le_of_ble_eq_true rfl) ?_
    exact ⟨_, rfl, rfl, by omega⟩
  · refine vc_aload_n dX12_byteAt_8 rfl ?_
    refine vc_getR dX12_byteAt_9 flX12_22 (s_54 hB0.1.1) rfl (r_54_5 hB0.1.1) ?_
    refine vc_iload_n dX12_byteAt_12 rfl ?_
    refine vc_iaload dX12_byteAt_13 (s_59 hB0.1.1) (by omega) (by omega) ?_
    refine vc_goto dX12_byteAt_14 ?_
    refine vc_iret dX12_byteAt_18 rfl (Nat.le_of_ble_eq_true rfl) (Nat.le_of_ble_eq_true rfl) ?_
    exact ⟨_, rfl, rfl, by omega⟩

set_option maxRecDepth 4000 in
theorem sfX12_nextTokenF {l : Launch} {M : Mem} (hB : Box M)   (p0 : mI M 54 9 ≤ mI M 54 6) (p1 : byt (mI M 59)) : Call l mdX12_nextToken [aR 54] M (fun q N => q = none ∧ BF fQ M N ∧ mI N 55 = mI M 55 ∧ mI N 57 = mI M 57 ∧ mI N 60 = mI M 60 ∧ mI M 54 9 ≤ mI N 54 10 ∧ mI N 54 10 ≤ mI N 54 9 ∧ (mI N 54 11 = 0 ∨ mI N 54 10 < mI N 54 9) ∧ mI N 54 14 = mI M 54 14 ∧ mI N 54 15 = mI M 54 15 ∧ mI N 54 16 = mI M 54 16 ∧ mI N 54 18 = mI M 54 18 ∧ mI N 54 19 = mI M 54 19 ∧ mI N 54 20 = mI M 54 20 ∧ mI N 54 21 = mI M 54 21 ∧ RT (mI M 59) (mI M 54 6) N (skb (mI M 59) (mI M 54 6) (mI M 54 9))) := by
  have hB0 : BF fQ M M := BF.start hB
  refine Call.of [some (aR 54), none] rfl (Nat.le_of_ble_eq_true rfl) rfl ?_
  have hB6 := b54_6 hB
  have lp0 : ∀ (n0 : Nat) (Mq0 : Mem) , (BF fQ M Mq0) → (mI Mq0 57 = mI M 57) → (mI Mq0 59 = mI M 59) → (mI Mq0 60 = mI M 60) → (mI Mq0 55 = mI M 55) → (mI M 54 9 ≤ mI Mq0 54 9) → (mI Mq0 54 14 = mI M 54 14) → (mI Mq0 54 15 = mI M 54 15) → (mI Mq0 54 16 = mI M 54 16) → (mI Mq0 54 18 = mI M 54 18) → (mI Mq0 54 19 = mI M 54 19) → (mI Mq0 54 20 = mI M 54 20) → (mI Mq0 54 21 = mI M 54 21) → (∀ i : Nat, mI M 54 9 ≤ i → (i : Int) < mI Mq0 54 9 → mI M 59 i = 32 ∨ mI M 59 i = 10) → (mI Mq0 54 9 ≤ mI M 54 6) → (300 - mI Mq0 54 9).toNat < n0 → VC l mdX12_nextToken 0 [some (aR 54), none] [] Mq0 0 0 (fun q N => q = none ∧ BF fQ M N ∧ mI N 55 = mI M 55 ∧ mI N 57 = mI M 57 ∧ mI N 60 = mI M 60 ∧ mI M 54 9 ≤ mI N 54 10 ∧ mI N 54 10 ≤ mI N 54 9 ∧ (mI N 54 11 = 0 ∨ mI N 54 10 < mI N 54 9) ∧ mI N 54 14 = mI M 54 14 ∧ mI N 54 15 = mI M 54 15 ∧ mI N 54 16 = mI M 54 16 ∧ mI N 54 18 = mI M 54 18 ∧ mI N 54 19 = mI M 54 19 ∧ mI N 54 20 = mI M 54 20 ∧ mI N 54 21 = mI M 54 21 ∧ RT (mI M 59) (mI M 54 6) N (skb (mI M 59) (mI M 54 6) (mI M 54 9))) := by
    intro n0
    induction n0 with
    | zero => intro Mq0 hQ0 kp0_57 kp0_59 kp0_60 kp0_55 g0i0 g0i1 g0i2 g0i3 g0i4 g0i5 g0i6 g0i7 g0i8 g0i9 hm0; exact absurd hm0 (Nat.not_lt_zero _)
    | succ n0 ih0 =>
      intro Mq0 hQ0 kp0_57 kp0_59 kp0_60 kp0_55 g0i0 g0i1 g0i2 g0i3 g0i4 g0i5 g0i6 g0i7 g0i8 g0i9 hm0
      refine vc_aload_n dX12_nextToken_0 rfl ?_
      refine vc_aload_n dX12_nextToken_1 rfl ?_
      refine vc_getI dX12_nextToken_2 flX12_119 (s_54 hQ0.1.1) rfl ?_
      have k1 : 0 ≤ mI Mq0 54 9 ∧ mI Mq0 54 9 ≤ 300 := b54_9 (M := Mq0) hQ0.1
      refine vc_cVI dX12_nextToken_5 (sfX12_byteAtF (M := Mq0) hQ0.1  (mI Mq0 54 9) (by omega) (by omega)) rfl okX12_byteAt viX12_byteAt lkX12_122 (s_54 hQ0.1.1) cl_12 rfl (Nat.le_of_ble_eq_true rfl) ⟨rfl, rfl⟩ (Nat.le_of_ble_eq_true rfl) (Nat.le_of_ble_eq_true rfl) (Nat.le_of_ble_eq_true rfl) ?_
      rintro x2 _ ⟨rfl, h3⟩
      have hb4 : ((mI Mq0 54 9) < mI M 54 6 ∧ x2 = mI M 59 (mI Mq0 54 9).toNat) ∨ (mI M 54 6 ≤ (mI Mq0 54 9) ∧ x2 = -1) := by have z := h3; rw [hQ0.2.2 54 6 rfl, hQ0.2.2 59 (mI Mq0 54 9).toNat rfl] at z; exact z
      clear h3
      have hy5 := p1 (mI Mq0 54 9).toNat
      have hx6 : -1 ≤ x2 ∧ x2 ≤ 255 := bt_rg hb4 hy5
      refine vc_bipush dX12_nextToken_8 rfl ?_
      refine vc_icmp_eq dX12_nextToken_10 (fun h7 => ?_) (fun h7 => ?_)
      · have hbl : (mI Mq0 54 9) < mI M 54 6 ∧ (mI M 59 (mI Mq0 54 9).toNat = 32 ∨ mI M 59 (mI Mq0 54 9).toNat = 10) := by omega
        clear hb4 hy5
        refine vc_aload_n dX12_nextToken_26 rfl ?_
        refine vc_dup dX12_nextToken_27 rfl ?_
        refine vc_getI dX12_nextToken_28 flX12_119 (s_54 hQ0.1.1) rfl ?_
        refine vc_iconst dX12_nextToken_31 rfl ?_
        refine vc_iaddE dX12_nextToken_32 (by omega) (by omega) ?_
        refine vc_putI dX12_nextToken_33 (plX12_119 _ rfl) (s_54 hQ0.1.1) rfl ?_
        have kp8 : mI (sI Mq0 54 9 ((mI Mq0 54 9) + 1)) 57 = mI M 57 := (kp_sI kp0_57 rfl)
        have kp9 : mI (sI Mq0 54 9 ((mI Mq0 54 9) + 1)) 59 = mI M 59 := (kp_sI kp0_59 rfl)
        have kp10 : mI (sI Mq0 54 9 ((mI Mq0 54 9) + 1)) 60 = mI M 60 := (kp_sI kp0_60 rfl)
        have kp11 : mI (sI Mq0 54 9 ((mI Mq0 54 9) + 1)) 55 = mI M 55 := (kp_sI kp0_55 rfl)
        have hB12 : BF fQ M (sI Mq0 54 9 ((mI Mq0 54 9) + 1)) := BF.w54_9 hQ0 rfl (by omega) (by omega)
        refine vc_goto dX12_nextToken_36 ?_
        have k13 : mI (sI Mq0 54 9 ((mI Mq0 54 9) + 1)) 54 6 = mI Mq0 54 6 := rfl
        have k14 : mI (sI Mq0 54 9 ((mI Mq0 54 9) + 1)) 54 9 = (mI Mq0 54 9) + 1 := rfl
        have k15 : mI (sI Mq0 54 9 ((mI Mq0 54 9) + 1)) 54 10 = mI Mq0 54 10 := rfl
        have k16 : mI (sI Mq0 54 9 ((mI Mq0 54 9) + 1)) 54 11 = mI Mq0 54 11 := rfl
        have k17 : mI (sI Mq0 54 9 ((mI Mq0 54 9) + 1)) 54 12 = mI Mq0 54 12 := rfl
        have k18 : mI (sI Mq0 54 9 ((mI Mq0 54 9) + 1)) 54 14 = mI Mq0 54 14 := rfl
        have k19 : mI (sI Mq0 54 9 ((mI Mq0 54 9) + 1)) 54 15 = mI Mq0 54 15 := rfl
        have k20 : mI (sI Mq0 54 9 ((mI Mq0 54 9) + 1)) 54 16 = mI Mq0 54 16 := rfl
        have k21 : mI (sI Mq0 54 9 ((mI Mq0 54 9) + 1)) 54 18 = mI Mq0 54 18 := rfl
        have k22 : mI (sI Mq0 54 9 ((mI Mq0 54 9) + 1)) 54 19 = mI Mq0 54 19 := rfl
        have k23 : mI (sI Mq0 54 9 ((mI Mq0 54 9) + 1)) 54 20 = mI Mq0 54 20 := rfl
        have k24 : mI (sI Mq0 54 9 ((mI Mq0 54 9) + 1)) 54 21 = mI Mq0 54 21 := rfl
        exact ih0 (sI Mq0 54 9 ((mI Mq0 54 9) + 1)) hB12 kp8 kp9 kp10 kp11 (by omega) (by omega) (by omega) (by omega) (by omega) (by omega) (by omega) (by omega) (by first | (intro i a b; exfalso; omega) | (intro i a b; by_cases e : (i : Int) = mI Mq0 54 9; (rw [show i = (mI Mq0 54 9).toNat by omega]; omega); (exact g0i8 i a (by omega)))) (by omega) (by omega)
      · refine vc_aload_n dX12_nextToken_13 rfl ?_
        refine vc_aload_n dX12_nextToken_14 rfl ?_
        refine vc_getI dX12_nextToken_15 flX12_119 (s_54 hQ0.1.1) rfl ?_
        refine vc_cVI dX12_nextToken_18 (sfX12_byteAtF (M := Mq0) hQ0.1  (mI Mq0 54 9) (by omega) (by omega)) rfl okX12_byteAt viX12_byteAt lkX12_122 (s_54 hQ0.1.1) cl_12 rfl (Nat.le_of_ble_eq_true rfl) ⟨rfl, rfl⟩ (Nat.le_of_ble_eq_true rfl) (Nat.le_of_ble_eq_true rfl) (Nat.le_of_ble_eq_true rfl) ?_
        rintro x25 _ ⟨rfl, h26⟩
        have hb27 : ((mI Mq0 54 9) < mI M 54 6 ∧ x25 = mI M 59 (mI Mq0 54 9).toNat) ∨ (mI M 54 6 ≤ (mI Mq0 54 9) ∧ x25 = -1) := by have z := h26; rw [hQ0.2.2 54 6 rfl, hQ0.2.2 59 (mI Mq0 54 9).toNat rfl] at z; exact z
        clear h26
        have hy28 := p1 (mI Mq0 54 9).toNat
        have hx29 : -1 ≤ x25 ∧ x25 ≤ 255 := bt_rg hb27 hy28
        refine vc_bipush dX12_nextToken_21 rfl ?_
        refine vc_icmp_ne dX12_nextToken_23 (fun h30 => ?_) (fun h30 => ?_)
        · have hsk : skb (mI M 59) (mI M 54 6) (mI M 54 9) = mI Mq0 54 9 := skb_eq (by have := b54_9 hB; omega) (by omega) (by omega) g0i8 (by omega)
          clear hb4 hy5
          clear hb27 hy28
          refine vc_aload_n dX12_nextToken_39 rfl ?_
          refine vc_aload_n dX12_nextToken_40 rfl ?_
          refine vc_getI dX12_nextToken_41 flX12_119 (s_54 hQ0.1.1) rfl ?_
          refine vc_putI dX12_nextToken_44 (plX12_126 _ rfl) (s_54 hQ0.1.1) rfl ?_
          have kp31 : mI (sI Mq0 54 10 (mI Mq0 54 9)) 57 = mI M 57 := (kp_sI kp0_57 rfl)
          have kp32 : mI (sI Mq0 54 10 (mI Mq0 54 9)) 59 = mI M 59 := (kp_sI kp0_59 rfl)
          have kp33 : mI (sI Mq0 54 10 (mI Mq0 54 9)) 60 = mI M 60 := (kp_sI kp0_60 rfl)
          have kp34 : mI (sI Mq0 54 10 (mI Mq0 54 9)) 55 = mI M 55 := (kp_sI kp0_55 rfl)
          have hB35 : BF fQ M (sI Mq0 54 10 (mI Mq0 54 9)) := BF.w54_10 hQ0 rfl (by omega) (by omega)
          refine vc_aload_n dX12_nextToken_47 rfl ?_
          refine vc_aload_n dX12_nextToken_48 rfl ?_
          refine vc_getI dX12_nextToken_49 flX12_119 (s_54 hB35.1.1) rfl ?_
          refine vc_topI (mI Mq0 54 9) rfl ?_
          have k36 : 0 ≤ mI Mq0 54 9 ∧ mI Mq0 54 9 ≤ 300 := b54_9 (M := (sI Mq0 54 10 (mI Mq0 54 9))) hB35.1
          have k37 : mI (sI Mq0 54 10 (mI Mq0 54 9)) 54 6 = mI Mq0 54 6 := rfl
          have k38 : mI (sI Mq0 54 10 (mI Mq0 54 9)) 54 9 = mI Mq0 54 9 := rfl
          have k39 : mI (sI Mq0 54 10 (mI Mq0 54 9)) 54 10 = mI Mq0 54 9 := rfl
          have k40 : mI (sI Mq0 54 10 (mI Mq0 54 9)) 54 11 = mI Mq0 54 11 := rfl
          have k41 : mI (sI Mq0 54 10 (mI Mq0 54 9)) 54 12 = mI Mq0 54 12 := rfl
          have k42 : mI (sI Mq0 54 10 (mI Mq0 54 9)) 54 14 = mI Mq0 54 14 := rfl
          have k43 : mI (sI Mq0 54 10 (mI Mq0 54 9)) 54 15 = mI Mq0 54 15 := rfl
          have k44 : mI (sI Mq0 54 10 (mI Mq0 54 9)) 54 16 = mI Mq0 54 16 := rfl
          have k45 : mI (sI Mq0 54 10 (mI Mq0 54 9)) 54 18 = mI Mq0 54 18 := rfl
          have k46 : mI (sI Mq0 54 10 (mI Mq0 54 9)) 54 19 = mI Mq0 54 19 := rfl
          have k47 : mI (sI Mq0 54 10 (mI Mq0 54 9)) 54 20 = mI Mq0 54 20 := rfl
          have k48 : mI (sI Mq0 54 10 (mI Mq0 54 9)) 54 21 = mI Mq0 54 21 := rfl
          refine vc_cVI dX12_nextToken_52 (sfX12_byteAtF (M := (sI Mq0 54 10 (mI Mq0 54 9))) hB35.1  (mI Mq0 54 9) (by omega) (by omega)) rfl okX12_byteAt viX12_byteAt lkX12_122 (s_54 hB35.1.1) cl_12 rfl (Nat.le_of_ble_eq_true rfl) ⟨rfl, rfl⟩ (Nat.le_of_ble_eq_true rfl) (Nat.le_of_ble_eq_true rfl) (Nat.le_of_ble_eq_true rfl) ?_
          rintro x49 _ ⟨rfl, h50⟩
          have hb51 : ((mI Mq0 54 9) < mI M 54 6 ∧ x49 = mI M 59 (mI Mq0 54 9).toNat) ∨ (mI M 54 6 ≤ (mI Mq0 54 9) ∧ x49 = -1) := by have z := h50; rw [hB35.2.2 54 6 rfl, hB35.2.2 59 (mI Mq0 54 9).toNat rfl] at z; exact z
          clear h50
          have hy52 := p1 (mI Mq0 54 9).toNat
          have hx53 : -1 ≤ x49 ∧ x49 ≤ 255 := bt_rg hb51 hy52
          refine vc_istore_n dX12_nextToken_55 (by decide) rfl (show _ = [some (aR 54), some (aI x49)] from rfl) ?_
          refine vc_iload_n dX12_nextToken_56 rfl ?_
          refine vc_if_ge dX12_nextToken_57 (fun h54 => ?_) (fun h54 => ?_)
          · have hc1 : (mI Mq0 54 9) < mI M 54 6 ∧ x49 = mI M 59 (mI Mq0 54 9).toNat := by omega
            clear hb51 hy52
            refine vc_iload_n dX12_nextToken_68 rfl ?_
            refine vc_cSI dX12_nextToken_69 (sfX12_isFigure (M := (sI Mq0 54 10 (mI Mq0 54 9))) hB35.1  x49 ) rfl okX12_isFigure stX12_isFigure lkX12_132 rfl (Nat.le_of_ble_eq_true rfl) ⟨rfl, rfl⟩ (Nat.le_of_ble_eq_true rfl) (Nat.le_of_ble_eq_true rfl) (Nat.le_of_ble_eq_true rfl) ?_
            rintro x55 _ ⟨rfl, h56, h57, h58⟩
            refine vc_if_eq dX12_nextToken_72 (fun h59 => ?_) (fun h59 => ?_)
            · have hf60 : ¬ (48 ≤ x49 ∧ x49 ≤ 57) := by omega
              clear h58
              refine vc_iload_n dX12_nextToken_151 rfl ?_
              refine vc_cSI dX12_nextToken_152 (sfX12_isLetterByte (M := (sI Mq0 54 10 (mI Mq0 54 9))) hB35.1  x49 ) rfl okX12_isLetterByte stX12_isLetterByte lkX12_139 rfl (Nat.le_of_ble_eq_true rfl) ⟨rfl, rfl⟩ (Nat.le_of_ble_eq_true rfl) (Nat.le_of_ble_eq_true rfl) (Nat.le_of_ble_eq_true rfl) ?_
              rintro x61 _ ⟨rfl, h62, h63, h64⟩
              refine vc_if_eq dX12_nextToken_155 (fun h65 => ?_) (fun h65 => ?_)
              · have hf66 : ¬ ((97 ≤ x49 ∧ x49 ≤ 122) ∨ (65 ≤ x49 ∧ x49 ≤ 90)) := by omega
                clear h64
                refine vc_aload_n dX12_nextToken_234 rfl ?_
                refine vc_iload_n dX12_nextToken_235 rfl ?_
                refine vc_cSI dX12_nextToken_236 (sfX12_isSignF (M := (sI Mq0 54 10 (mI Mq0 54 9))) hB35.1  x49 ) rfl okX12_isSign stX12_isSign lkX12_148 rfl (Nat.le_of_ble_eq_true rfl) ⟨rfl, rfl⟩ (Nat.le_of_ble_eq_true rfl) (Nat.le_of_ble_eq_true rfl) (Nat.le_of_ble_eq_true rfl) ?_
                rintro x67 _ ⟨rfl, h68, h69, h70⟩
                refine vc_if_eq dX12_nextToken_239 (fun h71 => ?_) (fun h71 => ?_)
                · have hf72 : x49 ≠ 40 ∧ x49 ≠ 41 ∧ x49 ≠ 42 ∧ x49 ≠ 43 ∧ x49 ≠ 44 ∧ x49 ≠ 45 ∧ x49 ≠ 47 ∧ x49 ≠ 58 ∧ x49 ≠ 59 ∧ x49 ≠ 60 ∧ x49 ≠ 62 := by omega
                  clear h70
                  refine vc_iconst dX12_nextToken_246 rfl ?_
                  refine vc_putI dX12_nextToken_247 (plX12_129 _ rfl) (s_54 hB35.1.1) rfl ?_
                  have kp73 : mI (sI (sI Mq0 54 10 (mI Mq0 54 9)) 54 11 3) 57 = mI M 57 := (kp_sI kp31 rfl)
                  have kp74 : mI (sI (sI Mq0 54 10 (mI Mq0 54 9)) 54 11 3) 59 = mI M 59 := (kp_sI kp32 rfl)
                  have kp75 : mI (sI (sI Mq0 54 10 (mI Mq0 54 9)) 54 11 3) 60 = mI M 60 := (kp_sI kp33 rfl)
                  have kp76 : mI (sI (sI Mq0 54 10 (mI Mq0 54 9)) 54 11 3) 55 = mI M 55 := (kp_sI kp34 rfl)
                  have hB77 : BF fQ M (sI (sI Mq0 54 10 (mI Mq0 54 9)) 54 11 3) := BF.w54_11 hB35 rfl
                  refine vc_aload_n dX12_nextToken_250 rfl ?_
                  refine vc_dup dX12_nextToken_251 rfl ?_
                  refine vc_getI dX12_nextToken_252 flX12_119 (s_54 hB77.1.1) rfl ?_
                  refine vc_topI (mI Mq0 54 9) rfl ?_
                  have k78 : 0 ≤ mI Mq0 54 9 ∧ mI Mq0 54 9 ≤ 300 := b54_9 (M := (sI (sI Mq0 54 10 (mI Mq0 54 9)) 54 11 3)) hB77.1
                  refine vc_iconst dX12_nextToken_255 rfl ?_
                  refine vc_iaddE dX12_nextToken_256 (by omega) (by omega) ?_
                  refine vc_putI dX12_nextToken_257 (plX12_119 _ rfl) (s_54 hB77.1.1) rfl ?_
                  have kp79 : mI (sI (sI (sI Mq0 54 10 (mI Mq0 54 9)) 54 11 3) 54 9 ((mI Mq0 54 9) + 1)) 57 = mI M 57 := (kp_sI kp73 rfl)
                  have kp80 : mI (sI (sI (sI Mq0 54 10 (mI Mq0 54 9)) 54 11 3) 54 9 ((mI Mq0 54 9) + 1)) 59 = mI M 59 := (kp_sI kp74 rfl)
                  have kp81 : mI (sI (sI (sI Mq0 54 10 (mI Mq0 54 9)) 54 11 3) 54 9 ((mI Mq0 54 9) + 1)) 60 = mI M 60 := (kp_sI kp75 rfl)
                  have kp82 : mI (sI (sI (sI Mq0 54 10 (mI Mq0 54 9)) 54 11 3) 54 9 ((mI Mq0 54 9) + 1)) 55 = mI M 55 := (kp_sI kp76 rfl)
                  have hB83 : BF fQ M (sI (sI (sI Mq0 54 10 (mI Mq0 54 9)) 54 11 3) 54 9 ((mI Mq0 54 9) + 1)) := BF.w54_9 hB77 rfl (by omega) (by omega)
                  refine vc_iload_n dX12_nextToken_260 rfl ?_
                  refine vc_bipush dX12_nextToken_261 rfl ?_
                  refine vc_icmp_eq dX12_nextToken_263 (fun h84 => ?_) (fun h84 => ?_)
                  · refine vc_aload_n dX12_nextToken_272 rfl ?_
                    refine vc_aload_n dX12_nextToken_273 rfl ?_
                    refine vc_getI dX12_nextToken_274 flX12_119 (s_54 hB83.1.1) rfl ?_
                    refine vc_topI ((mI Mq0 54 9) + 1) rfl ?_
                    have k85 : mI (sI (sI (sI Mq0 54 10 (mI Mq0 54 9)) 54 11 3) 54 9 ((mI Mq0 54 9) + 1)) 54 6 = mI Mq0 54 6 := rfl
                    have k86 : mI (sI (sI (sI Mq0 54 10 (mI Mq0 54 9)) 54 11 3) 54 9 ((mI Mq0 54 9) + 1)) 54 9 = (mI Mq0 54 9) + 1 := rfl
                    have k87 : mI (sI (sI (sI Mq0 54 10 (mI Mq0 54 9)) 54 11 3) 54 9 ((mI Mq0 54 9) + 1)) 54 10 = mI Mq0 54 9 := rfl
                    have k88 : mI (sI (sI (sI Mq0 54 10 (mI Mq0 54 9)) 54 11 3) 54 9 ((mI Mq0 54 9) + 1)) 54 11 = 3 := rfl
                    have k89 : mI (sI (sI (sI Mq0 54 10 (mI Mq0 54 9)) 54 11 3) 54 9 ((mI Mq0 54 9) + 1)) 54 12 = mI Mq0 54 12 := rfl
                    have k90 : mI (sI (sI (sI Mq0 54 10 (mI Mq0 54 9)) 54 11 3) 54 9 ((mI Mq0 54 9) + 1)) 54 14 = mI Mq0 54 14 := rfl
                    have k91 : mI (sI (sI (sI Mq0 54 10 (mI Mq0 54 9)) 54 11 3) 54 9 ((mI Mq0 54 9) + 1)) 54 15 = mI Mq0 54 15 := rfl
                    have k92 : mI (sI (sI (sI Mq0 54 10 (mI Mq0 54 9)) 54 11 3) 54 9 ((mI Mq0 54 9) + 1)) 54 16 = mI Mq0 54 16 := rfl
                    have k93 : mI (sI (sI (sI Mq0 54 10 (mI Mq0 54 9)) 54 11 3) 54 9 ((mI Mq0 54 9) + 1)) 54 18 = mI Mq0 54 18 := rfl
                    have k94 : mI (sI (sI (sI Mq0 54 10 (mI Mq0 54 9)) 54 11 3) 54 9 ((mI Mq0 54 9) + 1)) 54 19 = mI Mq0 54 19 := rfl
                    have k95 : mI (sI (sI (sI Mq0 54 10 (mI Mq0 54 9)) 54 11 3) 54 9 ((mI Mq0 54 9) + 1)) 54 20 = mI Mq0 54 20 := rfl
                    have k96 : mI (sI (sI (sI Mq0 54 10 (mI Mq0 54 9)) 54 11 3) 54 9 ((mI Mq0 54 9) + 1)) 54 21 = mI Mq0 54 21 := rfl
                    refine vc_cVI dX12_nextToken_277 (sfX12_byteAtF (M := (sI (sI (sI Mq0 54 10 (mI Mq0 54 9)) 54 11 3) 54 9 ((mI Mq0 54 9) + 1))) hB83.1  ((mI Mq0 54 9) + 1) (by omega) (by omega)) rfl okX12_byteAt viX12_byteAt lkX12_122 (s_54 hB83.1.1) cl_12 rfl (Nat.le_of_ble_eq_true rfl) ⟨rfl, rfl⟩ (Nat.le_of_ble_eq_true rfl) (Nat.le_of_ble_eq_true rfl) (Nat.le_of_ble_eq_true rfl) ?_
                    rintro x97 _ ⟨rfl, h98⟩
                    have hb99 : (((mI Mq0 54 9) + 1) < mI M 54 6 ∧ x97 = mI M 59 ((mI Mq0 54 9) + 1).toNat) ∨ (mI M 54 6 ≤ ((mI Mq0 54 9) + 1) ∧ x97 = -1) := by have z := h98; rw [hB83.2.2 54 6 rfl, hB83.2.2 59 ((mI Mq0 54 9) + 1).toNat rfl] at z; exact z
                    clear h98
                    have hy100 := p1 ((mI Mq0 54 9) + 1).toNat
                    have hx101 : -1 ≤ x97 ∧ x97 ≤ 255 := bt_rg hb99 hy100
                    refine vc_bipush dX12_nextToken_280 rfl ?_
                    refine vc_icmp_ne dX12_nextToken_282 (fun h102 => ?_) (fun h102 => ?_)
                    · refine vc_vret dX12_nextToken_310 rfl (Nat.le_of_ble_eq_true rfl) (Nat.le_of_ble_eq_true rfl) ?_
                      have hb9 := b54_9 hB
                      have hen : en (mI M 59) (mI M 54 6) (mI Mq0 54 9) = mI Mq0 54 9 + 1 := en_sign (by omega) (by omega) (by omega)
                      have htk : tk (mI M 59) (mI M 54 6) (mI Mq0 54 9) = mI M 59 (mI Mq0 54 9).toNat - 300 := tk_sign (by omega) (by omega) (by omega)
                      exact ⟨rfl, hB83, kp82, kp79, kp81, by omega, by omega, by omega, by omega, by omega, by omega, by omega, by omega, by omega, by omega, by rw [hsk]; exact ⟨⟨funext fun j => hB83.2.2 59 j rfl, hB83.2.2 54 6 rfl, p1⟩, ⟨by omega, by omega, by omega, by have := b54_6 hB; omega⟩, Or.inr (Or.inr (Or.inr (Or.inr ⟨by omega, by omega, by omega, by omega, by omega, by omega, by omega, by omega, by omega, by omega, by omega, by omega, by omega⟩))), fun h => absurd h (by omega)⟩⟩
                    · refine vc_aload_n dX12_nextToken_285 rfl ?_
                      refine vc_iload_n dX12_nextToken_286 rfl ?_
                      refine vc_bipush dX12_nextToken_287 rfl ?_
                      refine vc_icmp_ne dX12_nextToken_289 (fun h103 => by exfalso; omega) (fun h103 => ?_)
                      refine vc_iconst dX12_nextToken_292 rfl ?_
                      refine vc_goto dX12_nextToken_293 ?_
                      refine vc_putI dX12_nextToken_297 (plX12_129 _ rfl) (s_54 hB83.1.1) rfl ?_
                      have kp104 : mI (sI (sI (sI (sI Mq0 54 10 (mI Mq0 54 9)) 54 11 3) 54 9 ((mI Mq0 54 9) + 1)) 54 11 4) 57 = mI M 57 := (kp_sI kp79 rfl)
                      have kp105 : mI (sI (sI (sI (sI Mq0 54 10 (mI Mq0 54 9)) 54 11 3) 54 9 ((mI Mq0 54 9) + 1)) 54 11 4) 59 = mI M 59 := (kp_sI kp80 rfl)
                      have kp106 : mI (sI (sI (sI (sI Mq0 54 10 (mI Mq0 54 9)) 54 11 3) 54 9 ((mI Mq0 54 9) + 1)) 54 11 4) 60 = mI M 60 := (kp_sI kp81 rfl)
                      have kp107 : mI (sI (sI (sI (sI Mq0 54 10 (mI Mq0 54 9)) 54 11 3) 54 9 ((mI Mq0 54 9) + 1)) 54 11 4) 55 = mI M 55 := (kp_sI kp82 rfl)
                      have hB108 : BF fQ M (sI (sI (sI (sI Mq0 54 10 (mI Mq0 54 9)) 54 11 3) 54 9 ((mI Mq0 54 9) + 1)) 54 11 4) := BF.w54_11 hB83 rfl
                      refine vc_aload_n dX12_nextToken_300 rfl ?_
                      refine vc_dup dX12_nextToken_301 rfl ?_
                      refine vc_getI dX12_nextToken_302 flX12_119 (s_54 hB108.1.1) rfl ?_
                      refine vc_topI ((mI Mq0 54 9) + 1) rfl ?_
                      refine vc_iconst dX12_nextToken_305 rfl ?_
                      refine vc_iaddE dX12_nextToken_306 (by omega) (by omega) ?_
                      refine vc_putI dX12_nextToken_307 (plX12_119 _ rfl) (s_54 hB108.1.1) rfl ?_
                      have kp109 : mI (sI (sI (sI (sI (sI Mq0 54 10 (mI Mq0 54 9)) 54 11 3) 54 9 ((mI Mq0 54 9) + 1)) 54 11 4) 54 9 (((mI Mq0 54 9) + 1) + 1)) 57 = mI M 57 := (kp_sI kp104 rfl)
                      have kp110 : mI (sI (sI (sI (sI (sI Mq0 54 10 (mI Mq0 54 9)) 54 11 3) 54 9 ((mI Mq0 54 9) + 1)) 54 11 4) 54 9 (((mI Mq0 54 9) + 1) + 1)) 59 = mI M 59 := (kp_sI kp105 rfl)
                      have kp111 : mI (sI (sI (sI (sI (sI Mq0 54 10 (mI Mq0 54 9)) 54 11 3) 54 9 ((mI Mq0 54 9) + 1)) 54 11 4) 54 9 (((mI Mq0 54 9) + 1) + 1)) 60 = mI M 60 := (kp_sI kp106 rfl)
                      have kp112 : mI (sI (sI (sI (sI (sI Mq0 54 10 (mI Mq0 54 9)) 54 11 3) 54 9 ((mI Mq0 54 9) + 1)) 54 11 4) 54 9 (((mI Mq0 54 9) + 1) + 1)) 55 = mI M 55 := (kp_sI kp107 rfl)
                      have hB113 : BF fQ M (sI (sI (sI (sI (sI Mq0 54 10 (mI Mq0 54 9)) 54 11 3) 54 9 ((mI Mq0 54 9) + 1)) 54 11 4) 54 9 (((mI Mq0 54 9) + 1) + 1)) := BF.w54_9 hB108 rfl (by omega) (by omega)
                      refine vc_vret dX12_nextToken_310 rfl (Nat.le_of_ble_eq_true rfl) (Nat.le_of_ble_eq_true rfl) ?_
                      have k114 : mI (sI (sI (sI (sI (sI Mq0 54 10 (mI Mq0 54 9)) 54 11 3) 54 9 ((mI Mq0 54 9) + 1)) 54 11 4) 54 9 (((mI Mq0 54 9) + 1) + 1)) 54 6 = mI Mq0 54 6 := rfl
                      have k115 : mI (sI (sI (sI (sI (sI Mq0 54 10 (mI Mq0 54 9)) 54 11 3) 54 9 ((mI Mq0 54 9) + 1)) 54 11 4) 54 9 (((mI Mq0 54 9) + 1) + 1)) 54 9 = ((mI Mq0 54 9) + 1) + 1 := rfl
                      have k116 : mI (sI (sI (sI (sI (sI Mq0 54 10 (mI Mq0 54 9)) 54 11 3) 54 9 ((mI Mq0 54 9) + 1)) 54 11 4) 54 9 (((mI Mq0 54 9) + 1) + 1)) 54 10 = mI Mq0 54 9 := rfl
                      have k117 : mI (sI (sI (sI (sI (sI Mq0 54 10 (mI Mq0 54 9)) 54 11 3) 54 9 ((mI Mq0 54 9) + 1)) 54 11 4) 54 9 (((mI Mq0 54 9) + 1) + 1)) 54 11 = 4 := rfl
                      have k118 : mI (sI (sI (sI (sI (sI Mq0 54 10 (mI Mq0 54 9)) 54 11 3) 54 9 ((mI Mq0 54 9) + 1)) 54 11 4) 54 9 (((mI Mq0 54 9) + 1) + 1)) 54 12 = mI Mq0 54 12 := rfl
                      have k119 : mI (sI (sI (sI (sI (sI Mq0 54 10 (mI Mq0 54 9)) 54 11 3) 54 9 ((mI Mq0 54 9) + 1)) 54 11 4) 54 9 (((mI Mq0 54 9) + 1) + 1)) 54 14 = mI Mq0 54 14 := rfl
                      have k120 : mI (sI (sI (sI (sI (sI Mq0 54 10 (mI Mq0 54 9)) 54 11 3) 54 9 ((mI Mq0 54 9) + 1)) 54 11 4) 54 9 (((mI Mq0 54 9) + 1) + 1)) 54 15 = mI Mq0 54 15 := rfl
                      have k121 : mI (sI (sI (sI (sI (sI Mq0 54 10 (mI Mq0 54 9)) 54 11 3) 54 9 ((mI Mq0 54 9) + 1)) 54 11 4) 54 9 (((mI Mq0 54 9) + 1) + 1)) 54 16 = mI Mq0 54 16 := rfl
                      have k122 : mI (sI (sI (sI (sI (sI Mq0 54 10 (mI Mq0 54 9)) 54 11 3) 54 9 ((mI Mq0 54 9) + 1)) 54 11 4) 54 9 (((mI Mq0 54 9) + 1) + 1)) 54 18 = mI Mq0 54 18 := rfl
                      have k123 : mI (sI (sI (sI (sI (sI Mq0 54 10 (mI Mq0 54 9)) 54 11 3) 54 9 ((mI Mq0 54 9) + 1)) 54 11 4) 54 9 (((mI Mq0 54 9) + 1) + 1)) 54 19 = mI Mq0 54 19 := rfl
                      have k124 : mI (sI (sI (sI (sI (sI Mq0 54 10 (mI Mq0 54 9)) 54 11 3) 54 9 ((mI Mq0 54 9) + 1)) 54 11 4) 54 9 (((mI Mq0 54 9) + 1) + 1)) 54 20 = mI Mq0 54 20 := rfl
                      have k125 : mI (sI (sI (sI (sI (sI Mq0 54 10 (mI Mq0 54 9)) 54 11 3) 54 9 ((mI Mq0 54 9) + 1)) 54 11 4) 54 9 (((mI Mq0 54 9) + 1) + 1)) 54 21 = mI Mq0 54 21 := rfl
                      have hb9 := b54_9 hB
                      have hen : en (mI M 59) (mI M 54 6) (mI Mq0 54 9) = mI Mq0 54 9 + 1 := en_sign (by omega) (by omega) (by omega)
                      have htk : tk (mI M 59) (mI M 54 6) (mI Mq0 54 9) = mI M 59 (mI Mq0 54 9).toNat - 300 := tk_sign (by omega) (by omega) (by omega)
                      exact ⟨rfl, hB113, kp112, kp109, kp111, by omega, by omega, by omega, by omega, by omega, by omega, by omega, by omega, by omega, by omega, by rw [hsk]; exact ⟨⟨funext fun j => hB113.2.2 59 j rfl, hB113.2.2 54 6 rfl, p1⟩, ⟨by omega, by omega, by omega, by have := b54_6 hB; omega⟩, Or.inr (Or.inr (Or.inr (Or.inr ⟨by omega, by omega, by omega, by omega, by omega, by omega, by omega, by omega, by omega, by omega, by omega, by omega, by omega⟩))), fun h => absurd h (by omega)⟩⟩
                  · refine vc_iload_n dX12_nextToken_266 rfl ?_
                    refine vc_bipush dX12_nextToken_267 rfl ?_
                    refine vc_icmp_ne dX12_nextToken_269 (fun h126 => ?_) (fun h126 => ?_)
                    · refine vc_vret dX12_nextToken_310 rfl (Nat.le_of_ble_eq_true rfl) (Nat.le_of_ble_eq_true rfl) ?_
                      have k127 : mI (sI (sI (sI Mq0 54 10 (mI Mq0 54 9)) 54 11 3) 54 9 ((mI Mq0 54 9) + 1)) 54 6 = mI Mq0 54 6 := rfl
                      have k128 : mI (sI (sI (sI Mq0 54 10 (mI Mq0 54 9)) 54 11 3) 54 9 ((mI Mq0 54 9) + 1)) 54 9 = (mI Mq0 54 9) + 1 := rfl
                      have k129 : mI (sI (sI (sI Mq0 54 10 (mI Mq0 54 9)) 54 11 3) 54 9 ((mI Mq0 54 9) + 1)) 54 10 = mI Mq0 54 9 := rfl
                      have k130 : mI (sI (sI (sI Mq0 54 10 (mI Mq0 54 9)) 54 11 3) 54 9 ((mI Mq0 54 9) + 1)) 54 11 = 3 := rfl
                      have k131 : mI (sI (sI (sI Mq0 54 10 (mI Mq0 54 9)) 54 11 3) 54 9 ((mI Mq0 54 9) + 1)) 54 12 = mI Mq0 54 12 := rfl
                      have k132 : mI (sI (sI (sI Mq0 54 10 (mI Mq0 54 9)) 54 11 3) 54 9 ((mI Mq0 54 9) + 1)) 54 14 = mI Mq0 54 14 := rfl
                      have k133 : mI (sI (sI (sI Mq0 54 10 (mI Mq0 54 9)) 54 11 3) 54 9 ((mI Mq0 54 9) + 1)) 54 15 = mI Mq0 54 15 := rfl
                      have k134 : mI (sI (sI (sI Mq0 54 10 (mI Mq0 54 9)) 54 11 3) 54 9 ((mI Mq0 54 9) + 1)) 54 16 = mI Mq0 54 16 := rfl
                      have k135 : mI (sI (sI (sI Mq0 54 10 (mI Mq0 54 9)) 54 11 3) 54 9 ((mI Mq0 54 9) + 1)) 54 18 = mI Mq0 54 18 := rfl
                      have k136 : mI (sI (sI (sI Mq0 54 10 (mI Mq0 54 9)) 54 11 3) 54 9 ((mI Mq0 54 9) + 1)) 54 19 = mI Mq0 54 19 := rfl
                      have k137 : mI (sI (sI (sI Mq0 54 10 (mI Mq0 54 9)) 54 11 3) 54 9 ((mI Mq0 54 9) + 1)) 54 20 = mI Mq0 54 20 := rfl
                      have k138 : mI (sI (sI (sI Mq0 54 10 (mI Mq0 54 9)) 54 11 3) 54 9 ((mI Mq0 54 9) + 1)) 54 21 = mI Mq0 54 21 := rfl
                      have hb9 := b54_9 hB
                      have hen : en (mI M 59) (mI M 54 6) (mI Mq0 54 9) = mI Mq0 54 9 + 1 := en_sign (by omega) (by omega) (by omega)
                      have htk : tk (mI M 59) (mI M 54 6) (mI Mq0 54 9) = mI M 59 (mI Mq0 54 9).toNat - 300 := tk_sign (by omega) (by omega) (by omega)
                      exact ⟨rfl, hB83, kp82, kp79, kp81, by omega, by omega, by omega, by omega, by omega, by omega, by omega, by omega, by omega, by omega, by rw [hsk]; exact ⟨⟨funext fun j => hB83.2.2 59 j rfl, hB83.2.2 54 6 rfl, p1⟩, ⟨by omega, by omega, by omega, by have := b54_6 hB; omega⟩, Or.inr (Or.inr (Or.inr (Or.inr ⟨by omega, by omega, by omega, by omega, by omega, by omega, by omega, by omega, by omega, by omega, by omega, by omega, by omega⟩))), fun h => absurd h (by omega)⟩⟩
                    · refine vc_aload_n dX12_nextToken_272 rfl ?_
                      refine vc_aload_n dX12_nextToken_273 rfl ?_
                      refine vc_getI dX12_nextToken_274 flX12_119 (s_54 hB83.1.1) rfl ?_
                      refine vc_topI ((mI Mq0 54 9) + 1) rfl ?_
                      have k139 : mI (sI (sI (sI Mq0 54 10 (mI Mq0 54 9)) 54 11 3) 54 9 ((mI Mq0 54 9) + 1)) 54 6 = mI Mq0 54 6 := rfl
                      have k140 : mI (sI (sI (sI Mq0 54 10 (mI Mq0 54 9)) 54 11 3) 54 9 ((mI Mq0 54 9) + 1)) 54 9 = (mI Mq0 54 9) + 1 := rfl
                      have k141 : mI (sI (sI (sI Mq0 54 10 (mI Mq0 54 9)) 54 11 3) 54 9 ((mI Mq0 54 9) + 1)) 54 10 = mI Mq0 54 9 := rfl
                      have k142 : mI (sI (sI (sI Mq0 54 10 (mI Mq0 54 9)) 54 11 3) 54 9 ((mI Mq0 54 9) + 1)) 54 11 = 3 := rfl
                      have k143 : mI (sI (sI (sI Mq0 54 10 (mI Mq0 54 9)) 54 11 3) 54 9 ((mI Mq0 54 9) + 1)) 54 12 = mI Mq0 54 12 := rfl
                      have k144 : mI (sI (sI (sI Mq0 54 10 (mI Mq0 54 9)) 54 11 3) 54 9 ((mI Mq0 54 9) + 1)) 54 14 = mI Mq0 54 14 := rfl
                      have k145 : mI (sI (sI (sI Mq0 54 10 (mI Mq0 54 9)) 54 11 3) 54 9 ((mI Mq0 54 9) + 1)) 54 15 = mI Mq0 54 15 := rfl
                      have k146 : mI (sI (sI (sI Mq0 54 10 (mI Mq0 54 9)) 54 11 3) 54 9 ((mI Mq0 54 9) + 1)) 54 16 = mI Mq0 54 16 := rfl
                      have k147 : mI (sI (sI (sI Mq0 54 10 (mI Mq0 54 9)) 54 11 3) 54 9 ((mI Mq0 54 9) + 1)) 54 18 = mI Mq0 54 18 := rfl
                      have k148 : mI (sI (sI (sI Mq0 54 10 (mI Mq0 54 9)) 54 11 3) 54 9 ((mI Mq0 54 9) + 1)) 54 19 = mI Mq0 54 19 := rfl
                      have k149 : mI (sI (sI (sI Mq0 54 10 (mI Mq0 54 9)) 54 11 3) 54 9 ((mI Mq0 54 9) + 1)) 54 20 = mI Mq0 54 20 := rfl
                      have k150 : mI (sI (sI (sI Mq0 54 10 (mI Mq0 54 9)) 54 11 3) 54 9 ((mI Mq0 54 9) + 1)) 54 21 = mI Mq0 54 21 := rfl
                      refine vc_cVI dX12_nextToken_277 (sfX12_byteAtF (M := (sI (sI (sI Mq0 54 10 (mI Mq0 54 9)) 54 11 3) 54 9 ((mI Mq0 54 9) + 1))) hB83.1  ((mI Mq0 54 9) + 1) (by omega) (by omega)) rfl okX12_byteAt viX12_byteAt lkX12_122 (s_54 hB83.1.1) cl_12 rfl (Nat.le_of_ble_eq_true rfl) ⟨rfl, rfl⟩ (Nat.le_of_ble_eq_true rfl) (Nat.le_of_ble_eq_true rfl) (Nat.le_of_ble_eq_true rfl) ?_
                      rintro x151 _ ⟨rfl, h152⟩
                      have hb153 : (((mI Mq0 54 9) + 1) < mI M 54 6 ∧ x151 = mI M 59 ((mI Mq0 54 9) + 1).toNat) ∨ (mI M 54 6 ≤ ((mI Mq0 54 9) + 1) ∧ x151 = -1) := by have z := h152; rw [hB83.2.2 54 6 rfl, hB83.2.2 59 ((mI Mq0 54 9) + 1).toNat rfl] at z; exact z
                      clear h152
                      have hy154 := p1 ((mI Mq0 54 9) + 1).toNat
                      have hx155 : -1 ≤ x151 ∧ x151 ≤ 255 := bt_rg hb153 hy154
                      refine vc_bipush dX12_nextToken_280 rfl ?_
                      refine vc_icmp_ne dX12_nextToken_282 (fun h156 => ?_) (fun h156 => ?_)
                      · refine vc_vret dX12_nextToken_310 rfl (Nat.le_of_ble_eq_true rfl) (Nat.le_of_ble_eq_true rfl) ?_
                        have hb9 := b54_9 hB
                        have hen : en (mI M 59) (mI M 54 6) (mI Mq0 54 9) = mI Mq0 54 9 + 1 := en_sign (by omega) (by omega) (by omega)
                        have htk : tk (mI M 59) (mI M 54 6) (mI Mq0 54 9) = mI M 59 (mI Mq0 54 9).toNat - 300 := tk_sign (by omega) (by omega) (by omega)
                        exact ⟨rfl, hB83, kp82, kp79, kp81, by omega, by omega, by omega, by omega, by omega, by omega, by omega, by omega, by omega, by omega, by rw [hsk]; exact ⟨⟨funext fun j => hB83.2.2 59 j rfl, hB83.2.2 54 6 rfl, p1⟩, ⟨by omega, by omega, by omega, by have := b54_6 hB; omega⟩, Or.inr (Or.inr (Or.inr (Or.inr ⟨by omega, by omega, by omega, by omega, by omega, by omega, by omega, by omega, by omega, by omega, by omega, by omega, by omega⟩))), fun h => absurd h (by omega)⟩⟩
                      · refine vc_aload_n dX12_nextToken_285 rfl ?_
                        refine vc_iload_n dX12_nextToken_286 rfl ?_
                        refine vc_bipush dX12_nextToken_287 rfl ?_
                        refine vc_icmp_ne dX12_nextToken_289 (fun h157 => ?_) (fun h157 => by exfalso; omega)
                        refine vc_iconst dX12_nextToken_296 rfl ?_
                        refine vc_putI dX12_nextToken_297 (plX12_129 _ rfl) (s_54 hB83.1.1) rfl ?_
                        have kp158 : mI (sI (sI (sI (sI Mq0 54 10 (mI Mq0 54 9)) 54 11 3) 54 9 ((mI Mq0 54 9) + 1)) 54 11 5) 57 = mI M 57 := (kp_sI kp79 rfl)
                        have kp159 : mI (sI (sI (sI (sI Mq0 54 10 (mI Mq0 54 9)) 54 11 3) 54 9 ((mI Mq0 54 9) + 1)) 54 11 5) 59 = mI M 59 := (kp_sI kp80 rfl)
                        have kp160 : mI (sI (sI (sI (sI Mq0 54 10 (mI Mq0 54 9)) 54 11 3) 54 9 ((mI Mq0 54 9) + 1)) 54 11 5) 60 = mI M 60 := (kp_sI kp81 rfl)
                        have kp161 : mI (sI (sI (sI (sI Mq0 54 10 (mI Mq0 54 9)) 54 11 3) 54 9 ((mI Mq0 54 9) + 1)) 54 11 5) 55 = mI M 55 := (kp_sI kp82 rfl)
                        have hB162 : BF fQ M (sI (sI (sI (sI Mq0 54 10 (mI Mq0 54 9)) 54 11 3) 54 9 ((mI Mq0 54 9) + 1)) 54 11 5) := BF.w54_11 hB83 rfl
                        refine vc_aload_n dX12_nextToken_300 rfl ?_
                        refine vc_dup dX12_nextToken_301 rfl ?_
                        refine vc_getI dX12_nextToken_302 flX12_119 (s_54 hB162.1.1) rfl ?_
                        refine vc_topI ((mI Mq0 54 9) + 1) rfl ?_
                        refine vc_iconst dX12_nextToken_305 rfl ?_
                        refine vc_iaddE dX12_nextToken_306 (by omega) (by omega) ?_
                        refine vc_putI dX12_nextToken_307 (plX12_119 _ rfl) (s_54 hB162.1.1) rfl ?_
                        have kp163 : mI (sI (sI (sI (sI (sI Mq0 54 10 (mI Mq0 54 9)) 54 11 3) 54 9 ((mI Mq0 54 9) + 1)) 54 11 5) 54 9 (((mI Mq0 54 9) + 1) + 1)) 57 = mI M 57 := (kp_sI kp158 rfl)
                        have kp164 : mI (sI (sI (sI (sI (sI Mq0 54 10 (mI Mq0 54 9)) 54 11 3) 54 9 ((mI Mq0 54 9) + 1)) 54 11 5) 54 9 (((mI Mq0 54 9) + 1) + 1)) 59 = mI M 59 := (kp_sI kp159 rfl)
                        have kp165 : mI (sI (sI (sI (sI (sI Mq0 54 10 (mI Mq0 54 9)) 54 11 3) 54 9 ((mI Mq0 54 9) + 1)) 54 11 5) 54 9 (((mI Mq0 54 9) + 1) + 1)) 60 = mI M 60 := (kp_sI kp160 rfl)
                        have kp166 : mI (sI (sI (sI (sI (sI Mq0 54 10 (mI Mq0 54 9)) 54 11 3) 54 9 ((mI Mq0 54 9) + 1)) 54 11 5) 54 9 (((mI Mq0 54 9) + 1) + 1)) 55 = mI M 55 := (kp_sI kp161 rfl)
                        have hB167 : BF fQ M (sI (sI (sI (sI (sI Mq0 54 10 (mI Mq0 54 9)) 54 11 3) 54 9 ((mI Mq0 54 9) + 1)) 54 11 5) 54 9 (((mI Mq0 54 9) + 1) + 1)) := BF.w54_9 hB162 rfl (by omega) (by omega)
                        refine vc_vret dX12_nextToken_310 rfl (Nat.le_of_ble_eq_true rfl) (Nat.le_of_ble_eq_true rfl) ?_
                        have k168 : mI (sI (sI (sI (sI (sI Mq0 54 10 (mI Mq0 54 9)) 54 11 3) 54 9 ((mI Mq0 54 9) + 1)) 54 11 5) 54 9 (((mI Mq0 54 9) + 1) + 1)) 54 6 = mI Mq0 54 6 := rfl
                        have k169 : mI (sI (sI (sI (sI (sI Mq0 54 10 (mI Mq0 54 9)) 54 11 3) 54 9 ((mI Mq0 54 9) + 1)) 54 11 5) 54 9 (((mI Mq0 54 9) + 1) + 1)) 54 9 = ((mI Mq0 54 9) + 1) + 1 := rfl
                        have k170 : mI (sI (sI (sI (sI (sI Mq0 54 10 (mI Mq0 54 9)) 54 11 3) 54 9 ((mI Mq0 54 9) + 1)) 54 11 5) 54 9 (((mI Mq0 54 9) + 1) + 1)) 54 10 = mI Mq0 54 9 := rfl
                        have k171 : mI (sI (sI (sI (sI (sI Mq0 54 10 (mI Mq0 54 9)) 54 11 3) 54 9 ((mI Mq0 54 9) + 1)) 54 11 5) 54 9 (((mI Mq0 54 9) + 1) + 1)) 54 11 = 5 := rfl
                        have k172 : mI (sI (sI (sI (sI (sI Mq0 54 10 (mI Mq0 54 9)) 54 11 3) 54 9 ((mI Mq0 54 9) + 1)) 54 11 5) 54 9 (((mI Mq0 54 9) + 1) + 1)) 54 12 = mI Mq0 54 12 := rfl
                        have k173 : mI (sI (sI (sI (sI (sI Mq0 54 10 (mI Mq0 54 9)) 54 11 3) 54 9 ((mI Mq0 54 9) + 1)) 54 11 5) 54 9 (((mI Mq0 54 9) + 1) + 1)) 54 14 = mI Mq0 54 14 := rfl
                        have k174 : mI (sI (sI (sI (sI (sI Mq0 54 10 (mI Mq0 54 9)) 54 11 3) 54 9 ((mI Mq0 54 9) + 1)) 54 11 5) 54 9 (((mI Mq0 54 9) + 1) + 1)) 54 15 = mI Mq0 54 15 := rfl
                        have k175 : mI (sI (sI (sI (sI (sI Mq0 54 10 (mI Mq0 54 9)) 54 11 3) 54 9 ((mI Mq0 54 9) + 1)) 54 11 5) 54 9 (((mI Mq0 54 9) + 1) + 1)) 54 16 = mI Mq0 54 16 := rfl
                        have k176 : mI (sI (sI (sI (sI (sI Mq0 54 10 (mI Mq0 54 9)) 54 11 3) 54 9 ((mI Mq0 54 9) + 1)) 54 11 5) 54 9 (((mI Mq0 54 9) + 1) + 1)) 54 18 = mI Mq0 54 18 := rfl
                        have k177 : mI (sI (sI (sI (sI (sI Mq0 54 10 (mI Mq0 54 9)) 54 11 3) 54 9 ((mI Mq0 54 9) + 1)) 54 11 5) 54 9 (((mI Mq0 54 9) + 1) + 1)) 54 19 = mI Mq0 54 19 := rfl
                        have k178 : mI (sI (sI (sI (sI (sI Mq0 54 10 (mI Mq0 54 9)) 54 11 3) 54 9 ((mI Mq0 54 9) + 1)) 54 11 5) 54 9 (((mI Mq0 54 9) + 1) + 1)) 54 20 = mI Mq0 54 20 := rfl
                        have k179 : mI (sI (sI (sI (sI (sI Mq0 54 10 (mI Mq0 54 9)) 54 11 3) 54 9 ((mI Mq0 54 9) + 1)) 54 11 5) 54 9 (((mI Mq0 54 9) + 1) + 1)) 54 21 = mI Mq0 54 21 := rfl
                        have hb9 := b54_9 hB
                        have hen : en (mI M 59) (mI M 54 6) (mI Mq0 54 9) = mI Mq0 54 9 + 1 := en_sign (by omega) (by omega) (by omega)
                        have htk : tk (mI M 59) (mI M 54 6) (mI Mq0 54 9) = mI M 59 (mI Mq0 54 9).toNat - 300 := tk_sign (by omega) (by omega) (by omega)
                        exact ⟨rfl, hB167, kp166, kp163, kp165, by omega, by omega, by omega, by omega, by omega, by omega, by omega, by omega, by omega, by omega, by rw [hsk]; exact ⟨⟨funext fun j => hB167.2.2 59 j rfl, hB167.2.2 54 6 rfl, p1⟩, ⟨by omega, by omega, by omega, by have := b54_6 hB; omega⟩, Or.inr (Or.inr (Or.inr (Or.inr ⟨by omega, by omega, by omega, by omega, by omega, by omega, by omega, by omega, by omega, by omega, by omega, by omega, by omega⟩))), fun h => absurd h (by omega)⟩⟩
                · have hf180 : 6 ≤ x49 := by omega
                  clear h70
                  refine vc_iload_n dX12_nextToken_242 rfl ?_
                  refine vc_goto dX12_nextToken_243 ?_
                  refine vc_putI dX12_nextToken_247 (plX12_129 _ rfl) (s_54 hB35.1.1) rfl ?_
                  have kp181 : mI (sI (sI Mq0 54 10 (mI Mq0 54 9)) 54 11 x49) 57 = mI M 57 := (kp_sI kp31 rfl)
                  have kp182 : mI (sI (sI Mq0 54 10 (mI Mq0 54 9)) 54 11 x49) 59 = mI M 59 := (kp_sI kp32 rfl)
                  have kp183 : mI (sI (sI Mq0 54 10 (mI Mq0 54 9)) 54 11 x49) 60 = mI M 60 := (kp_sI kp33 rfl)
                  have kp184 : mI (sI (sI Mq0 54 10 (mI Mq0 54 9)) 54 11 x49) 55 = mI M 55 := (kp_sI kp34 rfl)
                  have hB185 : BF fQ M (sI (sI Mq0 54 10 (mI Mq0 54 9)) 54 11 x49) := BF.w54_11 hB35 rfl
                  refine vc_aload_n dX12_nextToken_250 rfl ?_
                  refine vc_dup dX12_nextToken_251 rfl ?_
                  refine vc_getI dX12_nextToken_252 flX12_119 (s_54 hB185.1.1) rfl ?_
                  refine vc_topI (mI Mq0 54 9) rfl ?_
                  have k186 : 0 ≤ mI Mq0 54 9 ∧ mI Mq0 54 9 ≤ 300 := b54_9 (M := (sI (sI Mq0 54 10 (mI Mq0 54 9)) 54 11 x49)) hB185.1
                  refine vc_iconst dX12_nextToken_255 rfl ?_
                  refine vc_iaddE dX12_nextToken_256 (by omega) (by omega) ?_
                  refine vc_putI dX12_nextToken_257 (plX12_119 _ rfl) (s_54 hB185.1.1) rfl ?_
                  have kp187 : mI (sI (sI (sI Mq0 54 10 (mI Mq0 54 9)) 54 11 x49) 54 9 ((mI Mq0 54 9) + 1)) 57 = mI M 57 := (kp_sI kp181 rfl)
                  have kp188 : mI (sI (sI (sI Mq0 54 10 (mI Mq0 54 9)) 54 11 x49) 54 9 ((mI Mq0 54 9) + 1)) 59 = mI M 59 := (kp_sI kp182 rfl)
                  have kp189 : mI (sI (sI (sI Mq0 54 10 (mI Mq0 54 9)) 54 11 x49) 54 9 ((mI Mq0 54 9) + 1)) 60 = mI M 60 := (kp_sI kp183 rfl)
                  have kp190 : mI (sI (sI (sI Mq0 54 10 (mI Mq0 54 9)) 54 11 x49) 54 9 ((mI Mq0 54 9) + 1)) 55 = mI M 55 := (kp_sI kp184 rfl)
                  have hB191 : BF fQ M (sI (sI (sI Mq0 54 10 (mI Mq0 54 9)) 54 11 x49) 54 9 ((mI Mq0 54 9) + 1)) := BF.w54_9 hB185 rfl (by omega) (by omega)
                  refine vc_iload_n dX12_nextToken_260 rfl ?_
                  refine vc_bipush dX12_nextToken_261 rfl ?_
                  refine vc_icmp_eq dX12_nextToken_263 (fun h192 => ?_) (fun h192 => ?_)
                  · refine vc_aload_n dX12_nextToken_272 rfl ?_
                    refine vc_aload_n dX12_nextToken_273 rfl ?_
                    refine vc_getI dX12_nextToken_274 flX12_119 (s_54 hB191.1.1) rfl ?_
                    refine vc_topI ((mI Mq0 54 9) + 1) rfl ?_
                    have k193 : mI (sI (sI (sI Mq0 54 10 (mI Mq0 54 9)) 54 11 x49) 54 9 ((mI Mq0 54 9) + 1)) 54 6 = mI Mq0 54 6 := rfl
                    have k194 : mI (sI (sI (sI Mq0 54 10 (mI Mq0 54 9)) 54 11 x49) 54 9 ((mI Mq0 54 9) + 1)) 54 9 = (mI Mq0 54 9) + 1 := rfl
                    have k195 : mI (sI (sI (sI Mq0 54 10 (mI Mq0 54 9)) 54 11 x49) 54 9 ((mI Mq0 54 9) + 1)) 54 10 = mI Mq0 54 9 := rfl
                    have k196 : mI (sI (sI (sI Mq0 54 10 (mI Mq0 54 9)) 54 11 x49) 54 9 ((mI Mq0 54 9) + 1)) 54 11 = x49 := rfl
                    have k197 : mI (sI (sI (sI Mq0 54 10 (mI Mq0 54 9)) 54 11 x49) 54 9 ((mI Mq0 54 9) + 1)) 54 12 = mI Mq0 54 12 := rfl
                    have k198 : mI (sI (sI (sI Mq0 54 10 (mI Mq0 54 9)) 54 11 x49) 54 9 ((mI Mq0 54 9) + 1)) 54 14 = mI Mq0 54 14 := rfl
                    have k199 : mI (sI (sI (sI Mq0 54 10 (mI Mq0 54 9)) 54 11 x49) 54 9 ((mI Mq0 54 9) + 1)) 54 15 = mI Mq0 54 15 := rfl
                    have k200 : mI (sI (sI (sI Mq0 54 10 (mI Mq0 54 9)) 54 11 x49) 54 9 ((mI Mq0 54 9) + 1)) 54 16 = mI Mq0 54 16 := rfl
                    have k201 : mI (sI (sI (sI Mq0 54 10 (mI Mq0 54 9)) 54 11 x49) 54 9 ((mI Mq0 54 9) + 1)) 54 18 = mI Mq0 54 18 := rfl
                    have k202 : mI (sI (sI (sI Mq0 54 10 (mI Mq0 54 9)) 54 11 x49) 54 9 ((mI Mq0 54 9) + 1)) 54 19 = mI Mq0 54 19 := rfl
                    have k203 : mI (sI (sI (sI Mq0 54 10 (mI Mq0 54 9)) 54 11 x49) 54 9 ((mI Mq0 54 9) + 1)) 54 20 = mI Mq0 54 20 := rfl
                    have k204 : mI (sI (sI (sI Mq0 54 10 (mI Mq0 54 9)) 54 11 x49) 54 9 ((mI Mq0 54 9) + 1)) 54 21 = mI Mq0 54 21 := rfl
                    refine vc_cVI dX12_nextToken_277 (sfX12_byteAtF (M := (sI (sI (sI Mq0 54 10 (mI Mq0 54 9)) 54 11 x49) 54 9 ((mI Mq0 54 9) + 1))) hB191.1  ((mI Mq0 54 9) + 1) (by omega) (by omega)) rfl okX12_byteAt viX12_byteAt lkX12_122 (s_54 hB191.1.1) cl_12 rfl (Nat.le_of_ble_eq_true rfl) ⟨rfl, rfl⟩ (Nat.le_of_ble_eq_true rfl) (Nat.le_of_ble_eq_true rfl) (Nat.le_of_ble_eq_true rfl) ?_
                    rintro x205 _ ⟨rfl, h206⟩
                    have hb207 : (((mI Mq0 54 9) + 1) < mI M 54 6 ∧ x205 = mI M 59 ((mI Mq0 54 9) + 1).toNat) ∨ (mI M 54 6 ≤ ((mI Mq0 54 9) + 1) ∧ x205 = -1) := by have z := h206; rw [hB191.2.2 54 6 rfl, hB191.2.2 59 ((mI Mq0 54 9) + 1).toNat rfl] at z; exact z
                    clear h206
                    have hy208 := p1 ((mI Mq0 54 9) + 1).toNat
                    have hx209 : -1 ≤ x205 ∧ x205 ≤ 255 := bt_rg hb207 hy208
                    refine vc_bipush dX12_nextToken_280 rfl ?_
                    refine vc_icmp_ne dX12_nextToken_282 (fun h210 => ?_) (fun h210 => ?_)
                    · refine vc_vret dX12_nextToken_310 rfl (Nat.le_of_ble_eq_true rfl) (Nat.le_of_ble_eq_true rfl) ?_
                      have hb9 := b54_9 hB
                      have hen : en (mI M 59) (mI M 54 6) (mI Mq0 54 9) = mI Mq0 54 9 + 1 := en_sign (by omega) (by omega) (by omega)
                      have htk : tk (mI M 59) (mI M 54 6) (mI Mq0 54 9) = mI M 59 (mI Mq0 54 9).toNat - 300 := tk_sign (by omega) (by omega) (by omega)
                      exact ⟨rfl, hB191, kp190, kp187, kp189, by omega, by omega, by omega, by omega, by omega, by omega, by omega, by omega, by omega, by omega, by rw [hsk]; exact ⟨⟨funext fun j => hB191.2.2 59 j rfl, hB191.2.2 54 6 rfl, p1⟩, ⟨by omega, by omega, by omega, by have := b54_6 hB; omega⟩, Or.inr (Or.inr (Or.inr (Or.inl ⟨by omega, by omega, by omega, by omega⟩))), fun h => absurd h (by omega)⟩⟩
                    · refine vc_aload_n dX12_nextToken_285 rfl ?_
                      refine vc_iload_n dX12_nextToken_286 rfl ?_
                      refine vc_bipush dX12_nextToken_287 rfl ?_
                      refine vc_icmp_ne dX12_nextToken_289 (fun h211 => by exfalso; omega) (fun h211 => ?_)
                      refine vc_iconst dX12_nextToken_292 rfl ?_
                      refine vc_goto dX12_nextToken_293 ?_
                      refine vc_putI dX12_nextToken_297 (plX12_129 _ rfl) (s_54 hB191.1.1) rfl ?_
                      have kp212 : mI (sI (sI (sI (sI Mq0 54 10 (mI Mq0 54 9)) 54 11 x49) 54 9 ((mI Mq0 54 9) + 1)) 54 11 4) 57 = mI M 57 := (kp_sI kp187 rfl)
                      have kp213 : mI (sI (sI (sI (sI Mq0 54 10 (mI Mq0 54 9)) 54 11 x49) 54 9 ((mI Mq0 54 9) + 1)) 54 11 4) 59 = mI M 59 := (kp_sI kp188 rfl)
                      have kp214 : mI (sI (sI (sI (sI Mq0 54 10 (mI Mq0 54 9)) 54 11 x49) 54 9 ((mI Mq0 54 9) + 1)) 54 11 4) 60 = mI M 60 := (kp_sI kp189 rfl)
                      have kp215 : mI (sI (sI (sI (sI Mq0 54 10 (mI Mq0 54 9)) 54 11 x49) 54 9 ((mI Mq0 54 9) + 1)) 54 11 4) 55 = mI M 55 := (kp_sI kp190 rfl)
                      have hB216 : BF fQ M (sI (sI (sI (sI Mq0 54 10 (mI Mq0 54 9)) 54 11 x49) 54 9 ((mI Mq0 54 9) + 1)) 54 11 4) := BF.w54_11 hB191 rfl
                      refine vc_aload_n dX12_nextToken_300 rfl ?_
                      refine vc_dup dX12_nextToken_301 rfl ?_
                      refine vc_getI dX12_nextToken_302 flX12_119 (s_54 hB216.1.1) rfl ?_
                      refine vc_topI ((mI Mq0 54 9) + 1) rfl ?_
                      refine vc_iconst dX12_nextToken_305 rfl ?_
                      refine vc_iaddE dX12_nextToken_306 (by omega) (by omega) ?_
                      refine vc_putI dX12_nextToken_307 (plX12_119 _ rfl) (s_54 hB216.1.1) rfl ?_
                      have kp217 : mI (sI (sI (sI (sI (sI Mq0 54 10 (mI Mq0 54 9)) 54 11 x49) 54 9 ((mI Mq0 54 9) + 1)) 54 11 4) 54 9 (((mI Mq0 54 9) + 1) + 1)) 57 = mI M 57 := (kp_sI kp212 rfl)
                      have kp218 : mI (sI (sI (sI (sI (sI Mq0 54 10 (mI Mq0 54 9)) 54 11 x49) 54 9 ((mI Mq0 54 9) + 1)) 54 11 4) 54 9 (((mI Mq0 54 9) + 1) + 1)) 59 = mI M 59 := (kp_sI kp213 rfl)
                      have kp219 : mI (sI (sI (sI (sI (sI Mq0 54 10 (mI Mq0 54 9)) 54 11 x49) 54 9 ((mI Mq0 54 9) + 1)) 54 11 4) 54 9 (((mI Mq0 54 9) + 1) + 1)) 60 = mI M 60 := (kp_sI kp214 rfl)
                      have kp220 : mI (sI (sI (sI (sI (sI Mq0 54 10 (mI Mq0 54 9)) 54 11 x49) 54 9 ((mI Mq0 54 9) + 1)) 54 11 4) 54 9 (((mI Mq0 54 9) + 1) + 1)) 55 = mI M 55 := (kp_sI kp215 rfl)
                      have hB221 : BF fQ M (sI (sI (sI (sI (sI Mq0 54 10 (mI Mq0 54 9)) 54 11 x49) 54 9 ((mI Mq0 54 9) + 1)) 54 11 4) 54 9 (((mI Mq0 54 9) + 1) + 1)) := BF.w54_9 hB216 rfl (by omega) (by omega)
                      refine vc_vret dX12_nextToken_310 rfl (Nat.le_of_ble_eq_true rfl) (Nat.le_of_ble_eq_true rfl) ?_
                      have k222 : mI (sI (sI (sI (sI (sI Mq0 54 10 (mI Mq0 54 9)) 54 11 x49) 54 9 ((mI Mq0 54 9) + 1)) 54 11 4) 54 9 (((mI Mq0 54 9) + 1) + 1)) 54 6 = mI Mq0 54 6 := rfl
                      have k223 : mI (sI (sI (sI (sI (sI Mq0 54 10 (mI Mq0 54 9)) 54 11 x49) 54 9 ((mI Mq0 54 9) + 1)) 54 11 4) 54 9 (((mI Mq0 54 9) + 1) + 1)) 54 9 = ((mI Mq0 54 9) + 1) + 1 := rfl
                      have k224 : mI (sI (sI (sI (sI (sI Mq0 54 10 (mI Mq0 54 9)) 54 11 x49) 54 9 ((mI Mq0 54 9) + 1)) 54 11 4) 54 9 (((mI Mq0 54 9) + 1) + 1)) 54 10 = mI Mq0 54 9 := rfl
                      have k225 : mI (sI (sI (sI (sI (sI Mq0 54 10 (mI Mq0 54 9)) 54 11 x49) 54 9 ((mI Mq0 54 9) + 1)) 54 11 4) 54 9 (((mI Mq0 54 9) + 1) + 1)) 54 11 = 4 := rfl
                      have k226 : mI (sI (sI (sI (sI (sI Mq0 54 10 (mI Mq0 54 9)) 54 11 x49) 54 9 ((mI Mq0 54 9) + 1)) 54 11 4) 54 9 (((mI Mq0 54 9) + 1) + 1)) 54 12 = mI Mq0 54 12 := rfl
                      have k227 : mI (sI (sI (sI (sI (sI Mq0 54 10 (mI Mq0 54 9)) 54 11 x49) 54 9 ((mI Mq0 54 9) + 1)) 54 11 4) 54 9 (((mI Mq0 54 9) + 1) + 1)) 54 14 = mI Mq0 54 14 := rfl
                      have k228 : mI (sI (sI (sI (sI (sI Mq0 54 10 (mI Mq0 54 9)) 54 11 x49) 54 9 ((mI Mq0 54 9) + 1)) 54 11 4) 54 9 (((mI Mq0 54 9) + 1) + 1)) 54 15 = mI Mq0 54 15 := rfl
                      have k229 : mI (sI (sI (sI (sI (sI Mq0 54 10 (mI Mq0 54 9)) 54 11 x49) 54 9 ((mI Mq0 54 9) + 1)) 54 11 4) 54 9 (((mI Mq0 54 9) + 1) + 1)) 54 16 = mI Mq0 54 16 := rfl
                      have k230 : mI (sI (sI (sI (sI (sI Mq0 54 10 (mI Mq0 54 9)) 54 11 x49) 54 9 ((mI Mq0 54 9) + 1)) 54 11 4) 54 9 (((mI Mq0 54 9) + 1) + 1)) 54 18 = mI Mq0 54 18 := rfl
                      have k231 : mI (sI (sI (sI (sI (sI Mq0 54 10 (mI Mq0 54 9)) 54 11 x49) 54 9 ((mI Mq0 54 9) + 1)) 54 11 4) 54 9 (((mI Mq0 54 9) + 1) + 1)) 54 19 = mI Mq0 54 19 := rfl
                      have k232 : mI (sI (sI (sI (sI (sI Mq0 54 10 (mI Mq0 54 9)) 54 11 x49) 54 9 ((mI Mq0 54 9) + 1)) 54 11 4) 54 9 (((mI Mq0 54 9) + 1) + 1)) 54 20 = mI Mq0 54 20 := rfl
                      have k233 : mI (sI (sI (sI (sI (sI Mq0 54 10 (mI Mq0 54 9)) 54 11 x49) 54 9 ((mI Mq0 54 9) + 1)) 54 11 4) 54 9 (((mI Mq0 54 9) + 1) + 1)) 54 21 = mI Mq0 54 21 := rfl
                      have hb9 := b54_9 hB
                      have hen : en (mI M 59) (mI M 54 6) (mI Mq0 54 9) = mI Mq0 54 9 + 1 := en_sign (by omega) (by omega) (by omega)
                      have htk : tk (mI M 59) (mI M 54 6) (mI Mq0 54 9) = mI M 59 (mI Mq0 54 9).toNat - 300 := tk_sign (by omega) (by omega) (by omega)
                      exact ⟨rfl, hB221, kp220, kp217, kp219, by omega, by omega, by omega, by omega, by omega, by omega, by omega, by omega, by omega, by omega, by rw [hsk]; exact ⟨⟨funext fun j => hB221.2.2 59 j rfl, hB221.2.2 54 6 rfl, p1⟩, ⟨by omega, by omega, by omega, by have := b54_6 hB; omega⟩, Or.inr (Or.inr (Or.inr (Or.inr ⟨by omega, by omega, by omega, by omega, by omega, by omega, by omega, by omega, by omega, by omega, by omega, by omega, by omega⟩))), fun h => absurd h (by omega)⟩⟩
                  · refine vc_iload_n dX12_nextToken_266 rfl ?_
                    refine vc_bipush dX12_nextToken_267 rfl ?_
                    refine vc_icmp_ne dX12_nextToken_269 (fun h234 => ?_) (fun h234 => ?_)
                    · refine vc_vret dX12_nextToken_310 rfl (Nat.le_of_ble_eq_true rfl) (Nat.le_of_ble_eq_true rfl) ?_
                      have k235 : mI (sI (sI (sI Mq0 54 10 (mI Mq0 54 9)) 54 11 x49) 54 9 ((mI Mq0 54 9) + 1)) 54 6 = mI Mq0 54 6 := rfl
                      have k236 : mI (sI (sI (sI Mq0 54 10 (mI Mq0 54 9)) 54 11 x49) 54 9 ((mI Mq0 54 9) + 1)) 54 9 = (mI Mq0 54 9) + 1 := rfl
                      have k237 : mI (sI (sI (sI Mq0 54 10 (mI Mq0 54 9)) 54 11 x49) 54 9 ((mI Mq0 54 9) + 1)) 54 10 = mI Mq0 54 9 := rfl
                      have k238 : mI (sI (sI (sI Mq0 54 10 (mI Mq0 54 9)) 54 11 x49) 54 9 ((mI Mq0 54 9) + 1)) 54 11 = x49 := rfl
                      have k239 : mI (sI (sI (sI Mq0 54 10 (mI Mq0 54 9)) 54 11 x49) 54 9 ((mI Mq0 54 9) + 1)) 54 12 = mI Mq0 54 12 := rfl
                      have k240 : mI (sI (sI (sI Mq0 54 10 (mI Mq0 54 9)) 54 11 x49) 54 9 ((mI Mq0 54 9) + 1)) 54 14 = mI Mq0 54 14 := rfl
                      have k241 : mI (sI (sI (sI Mq0 54 10 (mI Mq0 54 9)) 54 11 x49) 54 9 ((mI Mq0 54 9) + 1)) 54 15 = mI Mq0 54 15 := rfl
                      have k242 : mI (sI (sI (sI Mq0 54 10 (mI Mq0 54 9)) 54 11 x49) 54 9 ((mI Mq0 54 9) + 1)) 54 16 = mI Mq0 54 16 := rfl
                      have k243 : mI (sI (sI (sI Mq0 54 10 (mI Mq0 54 9)) 54 11 x49) 54 9 ((mI Mq0 54 9) + 1)) 54 18 = mI Mq0 54 18 := rfl
                      have k244 : mI (sI (sI (sI Mq0 54 10 (mI Mq0 54 9)) 54 11 x49) 54 9 ((mI Mq0 54 9) + 1)) 54 19 = mI Mq0 54 19 := rfl
                      have k245 : mI (sI (sI (sI Mq0 54 10 (mI Mq0 54 9)) 54 11 x49) 54 9 ((mI Mq0 54 9) + 1)) 54 20 = mI Mq0 54 20 := rfl
                      have k246 : mI (sI (sI (sI Mq0 54 10 (mI Mq0 54 9)) 54 11 x49) 54 9 ((mI Mq0 54 9) + 1)) 54 21 = mI Mq0 54 21 := rfl
                      have hb9 := b54_9 hB
                      have hen : en (mI M 59) (mI M 54 6) (mI Mq0 54 9) = mI Mq0 54 9 + 1 := en_sign (by omega) (by omega) (by omega)
                      have htk : tk (mI M 59) (mI M 54 6) (mI Mq0 54 9) = mI M 59 (mI Mq0 54 9).toNat - 300 := tk_sign (by omega) (by omega) (by omega)
                      exact ⟨rfl, hB191, kp190, kp187, kp189, by omega, by omega, by omega, by omega, by omega, by omega, by omega, by omega, by omega, by omega, by rw [hsk]; exact ⟨⟨funext fun j => hB191.2.2 59 j rfl, hB191.2.2 54 6 rfl, p1⟩, ⟨by omega, by omega, by omega, by have := b54_6 hB; omega⟩, Or.inr (Or.inr (Or.inr (Or.inl ⟨by omega, by omega, by omega, by omega⟩))), fun h => absurd h (by omega)⟩⟩
                    · refine vc_aload_n dX12_nextToken_272 rfl ?_
                      refine vc_aload_n dX12_nextToken_273 rfl ?_
                      refine vc_getI dX12_nextToken_274 flX12_119 (s_54 hB191.1.1) rfl ?_
                      refine vc_topI ((mI Mq0 54 9) + 1) rfl ?_
                      have k247 : mI (sI (sI (sI Mq0 54 10 (mI Mq0 54 9)) 54 11 x49) 54 9 ((mI Mq0 54 9) + 1)) 54 6 = mI Mq0 54 6 := rfl
                      have k248 : mI (sI (sI (sI Mq0 54 10 (mI Mq0 54 9)) 54 11 x49) 54 9 ((mI Mq0 54 9) + 1)) 54 9 = (mI Mq0 54 9) + 1 := rfl
                      have k249 : mI (sI (sI (sI Mq0 54 10 (mI Mq0 54 9)) 54 11 x49) 54 9 ((mI Mq0 54 9) + 1)) 54 10 = mI Mq0 54 9 := rfl
                      have k250 : mI (sI (sI (sI Mq0 54 10 (mI Mq0 54 9)) 54 11 x49) 54 9 ((mI Mq0 54 9) + 1)) 54 11 = x49 := rfl
                      have k251 : mI (sI (sI (sI Mq0 54 10 (mI Mq0 54 9)) 54 11 x49) 54 9 ((mI Mq0 54 9) + 1)) 54 12 = mI Mq0 54 12 := rfl
                      have k252 : mI (sI (sI (sI Mq0 54 10 (mI Mq0 54 9)) 54 11 x49) 54 9 ((mI Mq0 54 9) + 1)) 54 14 = mI Mq0 54 14 := rfl
                      have k253 : mI (sI (sI (sI Mq0 54 10 (mI Mq0 54 9)) 54 11 x49) 54 9 ((mI Mq0 54 9) + 1)) 54 15 = mI Mq0 54 15 := rfl
                      have k254 : mI (sI (sI (sI Mq0 54 10 (mI Mq0 54 9)) 54 11 x49) 54 9 ((mI Mq0 54 9) + 1)) 54 16 = mI Mq0 54 16 := rfl
                      have k255 : mI (sI (sI (sI Mq0 54 10 (mI Mq0 54 9)) 54 11 x49) 54 9 ((mI Mq0 54 9) + 1)) 54 18 = mI Mq0 54 18 := rfl
                      have k256 : mI (sI (sI (sI Mq0 54 10 (mI Mq0 54 9)) 54 11 x49) 54 9 ((mI Mq0 54 9) + 1)) 54 19 = mI Mq0 54 19 := rfl
                      have k257 : mI (sI (sI (sI Mq0 54 10 (mI Mq0 54 9)) 54 11 x49) 54 9 ((mI Mq0 54 9) + 1)) 54 20 = mI Mq0 54 20 := rfl
                      have k258 : mI (sI (sI (sI Mq0 54 10 (mI Mq0 54 9)) 54 11 x49) 54 9 ((mI Mq0 54 9) + 1)) 54 21 = mI Mq0 54 21 := rfl
                      refine vc_cVI dX12_nextToken_277 (sfX12_byteAtF (M := (sI (sI (sI Mq0 54 10 (mI Mq0 54 9)) 54 11 x49) 54 9 ((mI Mq0 54 9) + 1))) hB191.1  ((mI Mq0 54 9) + 1) (by omega) (by omega)) rfl okX12_byteAt viX12_byteAt lkX12_122 (s_54 hB191.1.1) cl_12 rfl (Nat.le_of_ble_eq_true rfl) ⟨rfl, rfl⟩ (Nat.le_of_ble_eq_true rfl) (Nat.le_of_ble_eq_true rfl) (Nat.le_of_ble_eq_true rfl) ?_
                      rintro x259 _ ⟨rfl, h260⟩
                      have hb261 : (((mI Mq0 54 9) + 1) < mI M 54 6 ∧ x259 = mI M 59 ((mI Mq0 54 9) + 1).toNat) ∨ (mI M 54 6 ≤ ((mI Mq0 54 9) + 1) ∧ x259 = -1) := by have z := h260; rw [hB191.2.2 54 6 rfl, hB191.2.2 59 ((mI Mq0 54 9) + 1).toNat rfl] at z; exact z
                      clear h260
                      have hy262 := p1 ((mI Mq0 54 9) + 1).toNat
                      have hx263 : -1 ≤ x259 ∧ x259 ≤ 255 := bt_rg hb261 hy262
                      refine vc_bipush dX12_nextToken_280 rfl ?_
                      refine vc_icmp_ne dX12_nextToken_282 (fun h264 => ?_) (fun h264 => ?_)
                      · refine vc_vret dX12_nextToken_310 rfl (Nat.le_of_ble_eq_true rfl) (Nat.le_of_ble_eq_true rfl) ?_
                        have hb9 := b54_9 hB
                        have hen : en (mI M 59) (mI M 54 6) (mI Mq0 54 9) = mI Mq0 54 9 + 1 := en_sign (by omega) (by omega) (by omega)
                        have htk : tk (mI M 59) (mI M 54 6) (mI Mq0 54 9) = mI M 59 (mI Mq0 54 9).toNat - 300 := tk_sign (by omega) (by omega) (by omega)
                        exact ⟨rfl, hB191, kp190, kp187, kp189, by omega, by omega, by omega, by omega, by omega, by omega, by omega, by omega, by omega, by omega, by rw [hsk]; exact ⟨⟨funext fun j => hB191.2.2 59 j rfl, hB191.2.2 54 6 rfl, p1⟩, ⟨by omega, by omega, by omega, by have := b54_6 hB; omega⟩, Or.inr (Or.inr (Or.inr (Or.inl ⟨by omega, by omega, by omega, by omega⟩))), fun h => absurd h (by omega)⟩⟩
                      · refine vc_aload_n dX12_nextToken_285 rfl ?_
                        refine vc_iload_n dX12_nextToken_286 rfl ?_
                        refine vc_bipush dX12_nextToken_287 rfl ?_
                        refine vc_icmp_ne dX12_nextToken_289 (fun h265 => ?_) (fun h265 => by exfalso; omega)
                        refine vc_iconst dX12_nextToken_296 rfl ?_
                        refine vc_putI dX12_nextToken_297 (plX12_129 _ rfl) (s_54 hB191.1.1) rfl ?_
                        have kp266 : mI (sI (sI (sI (sI Mq0 54 10 (mI Mq0 54 9)) 54 11 x49) 54 9 ((mI Mq0 54 9) + 1)) 54 11 5) 57 = mI M 57 := (kp_sI kp187 rfl)
                        have kp267 : mI (sI (sI (sI (sI Mq0 54 10 (mI Mq0 54 9)) 54 11 x49) 54 9 ((mI Mq0 54 9) + 1)) 54 11 5) 59 = mI M 59 := (kp_sI kp188 rfl)
                        have kp268 : mI (sI (sI (sI (sI Mq0 54 10 (mI Mq0 54 9)) 54 11 x49) 54 9 ((mI Mq0 54 9) + 1)) 54 11 5) 60 = mI M 60 := (kp_sI kp189 rfl)
                        have kp269 : mI (sI (sI (sI (sI Mq0 54 10 (mI Mq0 54 9)) 54 11 x49) 54 9 ((mI Mq0 54 9) + 1)) 54 11 5) 55 = mI M 55 := (kp_sI kp190 rfl)
                        have hB270 : BF fQ M (sI (sI (sI (sI Mq0 54 10 (mI Mq0 54 9)) 54 11 x49) 54 9 ((mI Mq0 54 9) + 1)) 54 11 5) := BF.w54_11 hB191 rfl
                        refine vc_aload_n dX12_nextToken_300 rfl ?_
                        refine vc_dup dX12_nextToken_301 rfl ?_
                        refine vc_getI dX12_nextToken_302 flX12_119 (s_54 hB270.1.1) rfl ?_
                        refine vc_topI ((mI Mq0 54 9) + 1) rfl ?_
                        refine vc_iconst dX12_nextToken_305 rfl ?_
                        refine vc_iaddE dX12_nextToken_306 (by omega) (by omega) ?_
                        refine vc_putI dX12_nextToken_307 (plX12_119 _ rfl) (s_54 hB270.1.1) rfl ?_
                        have kp271 : mI (sI (sI (sI (sI (sI Mq0 54 10 (mI Mq0 54 9)) 54 11 x49) 54 9 ((mI Mq0 54 9) + 1)) 54 11 5) 54 9 (((mI Mq0 54 9) + 1) + 1)) 57 = mI M 57 := (kp_sI kp266 rfl)
                        have kp272 : mI (sI (sI (sI (sI (sI Mq0 54 10 (mI Mq0 54 9)) 54 11 x49) 54 9 ((mI Mq0 54 9) + 1)) 54 11 5) 54 9 (((mI Mq0 54 9) + 1) + 1)) 59 = mI M 59 := (kp_sI kp267 rfl)
                        have kp273 : mI (sI (sI (sI (sI (sI Mq0 54 10 (mI Mq0 54 9)) 54 11 x49) 54 9 ((mI Mq0 54 9) + 1)) 54 11 5) 54 9 (((mI Mq0 54 9) + 1) + 1)) 60 = mI M 60 := (kp_sI kp268 rfl)
                        have kp274 : mI (sI (sI (sI (sI (sI Mq0 54 10 (mI Mq0 54 9)) 54 11 x49) 54 9 ((mI Mq0 54 9) + 1)) 54 11 5) 54 9 (((mI Mq0 54 9) + 1) + 1)) 55 = mI M 55 := (kp_sI kp269 rfl)
                        have hB275 : BF fQ M (sI (sI (sI (sI (sI Mq0 54 10 (mI Mq0 54 9)) 54 11 x49) 54 9 ((mI Mq0 54 9) + 1)) 54 11 5) 54 9 (((mI Mq0 54 9) + 1) + 1)) := BF.w54_9 hB270 rfl (by omega) (by omega)
                        refine vc_vret dX12_nextToken_310 rfl (Nat.le_of_ble_eq_true rfl) (Nat.le_of_ble_eq_true rfl) ?_
                        have k276 : mI (sI (sI (sI (sI (sI Mq0 54 10 (mI Mq0 54 9)) 54 11 x49) 54 9 ((mI Mq0 54 9) + 1)) 54 11 5) 54 9 (((mI Mq0 54 9) + 1) + 1)) 54 6 = mI Mq0 54 6 := rfl
                        have k277 : mI (sI (sI (sI (sI (sI Mq0 54 10 (mI Mq0 54 9)) 54 11 x49) 54 9 ((mI Mq0 54 9) + 1)) 54 11 5) 54 9 (((mI Mq0 54 9) + 1) + 1)) 54 9 = ((mI Mq0 54 9) + 1) + 1 := rfl
                        have k278 : mI (sI (sI (sI (sI (sI Mq0 54 10 (mI Mq0 54 9)) 54 11 x49) 54 9 ((mI Mq0 54 9) + 1)) 54 11 5) 54 9 (((mI Mq0 54 9) + 1) + 1)) 54 10 = mI Mq0 54 9 := rfl
                        have k279 : mI (sI (sI (sI (sI (sI Mq0 54 10 (mI Mq0 54 9)) 54 11 x49) 54 9 ((mI Mq0 54 9) + 1)) 54 11 5) 54 9 (((mI Mq0 54 9) + 1) + 1)) 54 11 = 5 := rfl
                        have k280 : mI (sI (sI (sI (sI (sI Mq0 54 10 (mI Mq0 54 9)) 54 11 x49) 54 9 ((mI Mq0 54 9) + 1)) 54 11 5) 54 9 (((mI Mq0 54 9) + 1) + 1)) 54 12 = mI Mq0 54 12 := rfl
                        have k281 : mI (sI (sI (sI (sI (sI Mq0 54 10 (mI Mq0 54 9)) 54 11 x49) 54 9 ((mI Mq0 54 9) + 1)) 54 11 5) 54 9 (((mI Mq0 54 9) + 1) + 1)) 54 14 = mI Mq0 54 14 := rfl
                        have k282 : mI (sI (sI (sI (sI (sI Mq0 54 10 (mI Mq0 54 9)) 54 11 x49) 54 9 ((mI Mq0 54 9) + 1)) 54 11 5) 54 9 (((mI Mq0 54 9) + 1) + 1)) 54 15 = mI Mq0 54 15 := rfl
                        have k283 : mI (sI (sI (sI (sI (sI Mq0 54 10 (mI Mq0 54 9)) 54 11 x49) 54 9 ((mI Mq0 54 9) + 1)) 54 11 5) 54 9 (((mI Mq0 54 9) + 1) + 1)) 54 16 = mI Mq0 54 16 := rfl
                        have k284 : mI (sI (sI (sI (sI (sI Mq0 54 10 (mI Mq0 54 9)) 54 11 x49) 54 9 ((mI Mq0 54 9) + 1)) 54 11 5) 54 9 (((mI Mq0 54 9) + 1) + 1)) 54 18 = mI Mq0 54 18 := rfl
                        have k285 : mI (sI (sI (sI (sI (sI Mq0 54 10 (mI Mq0 54 9)) 54 11 x49) 54 9 ((mI Mq0 54 9) + 1)) 54 11 5) 54 9 (((mI Mq0 54 9) + 1) + 1)) 54 19 = mI Mq0 54 19 := rfl
                        have k286 : mI (sI (sI (sI (sI (sI Mq0 54 10 (mI Mq0 54 9)) 54 11 x49) 54 9 ((mI Mq0 54 9) + 1)) 54 11 5) 54 9 (((mI Mq0 54 9) + 1) + 1)) 54 20 = mI Mq0 54 20 := rfl
                        have k287 : mI (sI (sI (sI (sI (sI Mq0 54 10 (mI Mq0 54 9)) 54 11 x49) 54 9 ((mI Mq0 54 9) + 1)) 54 11 5) 54 9 (((mI Mq0 54 9) + 1) + 1)) 54 21 = mI Mq0 54 21 := rfl
                        have hb9 := b54_9 hB
                        have hen : en (mI M 59) (mI M 54 6) (mI Mq0 54 9) = mI Mq0 54 9 + 1 := en_sign (by omega) (by omega) (by omega)
                        have htk : tk (mI M 59) (mI M 54 6) (mI Mq0 54 9) = mI M 59 (mI Mq0 54 9).toNat - 300 := tk_sign (by omega) (by omega) (by omega)
                        exact ⟨rfl, hB275, kp274, kp271, kp273, by omega, by omega, by omega, by omega, by omega, by omega, by omega, by omega, by omega, by omega, by rw [hsk]; exact ⟨⟨funext fun j => hB275.2.2 59 j rfl, hB275.2.2 54 6 rfl, p1⟩, ⟨by omega, by omega, by omega, by have := b54_6 hB; omega⟩, Or.inr (Or.inr (Or.inr (Or.inr ⟨by omega, by omega, by omega, by omega, by omega, by omega, by omega, by omega, by omega, by omega, by omega, by omega, by omega⟩))), fun h => absurd h (by omega)⟩⟩
              · have hf288 : (97 ≤ x49 ∧ x49 ≤ 122) ∨ (65 ≤ x49 ∧ x49 ≤ 90) := by omega
                clear h64
                refine vc_aload_n dX12_nextToken_158 rfl ?_
                refine vc_iconst dX12_nextToken_159 rfl ?_
                refine vc_putI dX12_nextToken_160 (plX12_129 _ rfl) (s_54 hB35.1.1) rfl ?_
                have kp289 : mI (sI (sI Mq0 54 10 (mI Mq0 54 9)) 54 11 2) 57 = mI M 57 := (kp_sI kp31 rfl)
                have kp290 : mI (sI (sI Mq0 54 10 (mI Mq0 54 9)) 54 11 2) 59 = mI M 59 := (kp_sI kp32 rfl)
                have kp291 : mI (sI (sI Mq0 54 10 (mI Mq0 54 9)) 54 11 2) 60 = mI M 60 := (kp_sI kp33 rfl)
                have kp292 : mI (sI (sI Mq0 54 10 (mI Mq0 54 9)) 54 11 2) 55 = mI M 55 := (kp_sI kp34 rfl)
                have hB293 : BF fQ M (sI (sI Mq0 54 10 (mI Mq0 54 9)) 54 11 2) := BF.w54_11 hB35 rfl
                refine vc_aload_n dX12_nextToken_163 rfl ?_
                refine vc_lconst dX12_nextToken_164 ?_
                refine vc_topL 0 rfl ?_
                refine vc_putJ dX12_nextToken_165 (plX12_142 _ rfl) (s_54 hB293.1.1) rfl ?_
                have kp294 : mI (sJ (sI (sI Mq0 54 10 (mI Mq0 54 9)) 54 11 2) 54 13 0) 57 = mI M 57 := (kp_sJ kp289)
                have kp295 : mI (sJ (sI (sI Mq0 54 10 (mI Mq0 54 9)) 54 11 2) 54 13 0) 59 = mI M 59 := (kp_sJ kp290)
                have kp296 : mI (sJ (sI (sI Mq0 54 10 (mI Mq0 54 9)) 54 11 2) 54 13 0) 60 = mI M 60 := (kp_sJ kp291)
                have kp297 : mI (sJ (sI (sI Mq0 54 10 (mI Mq0 54 9)) 54 11 2) 54 13 0) 55 = mI M 55 := (kp_sJ kp292)
                have hB298 : BF fQ M (sJ (sI (sI Mq0 54 10 (mI Mq0 54 9)) 54 11 2) 54 13 0) := BF.J hB293 _ _ _ rfl
                have lp168 : ∀ (n168 : Nat) (Mq168 : Mem) , (BF fQ M Mq168) → (mI Mq168 57 = mI M 57) → (mI Mq168 59 = mI M 59) → (mI Mq168 60 = mI M 60) → (mI Mq168 55 = mI M 55) → (mI M 54 9 ≤ mI Mq168 54 10) → (mI Mq168 54 10 < mI Mq168 54 9 ∨ (mI Mq168 54 10 = mI Mq168 54 9 ∧ mI Mq168 54 9 < mI M 54 6 ∧ ((97 ≤ mI M 59 (mI Mq168 54 9).toNat ∧ mI M 59 (mI Mq168 54 9).toNat ≤ 122) ∨ (65 ≤ mI M 59 (mI Mq168 54 9).toNat ∧ mI M 59 (mI Mq168 54 9).toNat ≤ 90)))) → (mI Mq168 54 10 = mI Mq0 54 9) → (mI Mq168 54 11 = 2) → (∀ i : Nat, mI Mq0 54 9 ≤ i → (i : Int) < mI Mq168 54 9 → (97 ≤ mI M 59 i ∧ mI M 59 i ≤ 122) ∨ (65 ≤ mI M 59 i ∧ mI M 59 i ≤ 90)) → (mJ Mq168 54 13 = wpk (mI M 59) (mI Mq168 54 9 - mI Mq0 54 9).toNat (mI Mq0 54 9).toNat 0) → (mI Mq168 54 9 ≤ mI M 54 6) → (mI Mq168 54 14 = mI M 54 14) → (mI Mq168 54 15 = mI M 54 15) → (mI Mq168 54 16 = mI M 54 16) → (mI Mq168 54 18 = mI M 54 18) → (mI Mq168 54 19 = mI M 54 19) → (mI Mq168 54 20 = mI M 54 20) → (mI Mq168 54 21 = mI M 54 21) → (300 - mI Mq168 54 9).toNat < n168 → VC l mdX12_nextToken 168 [some (aR 54), none] [] Mq168 0 0 (fun q N => q = none ∧ BF fQ M N ∧ mI N 55 = mI M 55 ∧ mI N 57 = mI M 57 ∧ mI N 60 = mI M 60 ∧ mI M 54 9 ≤ mI N 54 10 ∧ mI N 54 10 ≤ mI N 54 9 ∧ (mI N 54 11 = 0 ∨ mI N 54 10 < mI N 54 9) ∧ mI N 54 14 = mI M 54 14 ∧ mI N 54 15 = mI M 54 15 ∧ mI N 54 16 = mI M 54 16 ∧ mI N 54 18 = mI M 54 18 ∧ mI N 54 19 = mI M 54 19 ∧ mI N 54 20 = mI M 54 20 ∧ mI N 54 21 = mI M 54 21 ∧ RT (mI M 59) (mI M 54 6) N (skb (mI M 59) (mI M 54 6) (mI M 54 9))) := by
                  intro n168
                  induction n168 with
                  | zero => intro Mq168 hQ168 kp168_57 kp168_59 kp168_60 kp168_55 g168i0 g168i1 g168i2 g168i3 g168i4 g168i5 g168i6 g168i7 g168i8 g168i9 g168i10 g168i11 g168i12 g168i13 hm168; exact absurd hm168 (Nat.not_lt_zero _)
                  | succ n168 ih168 =>
                    intro Mq168 hQ168 kp168_57 kp168_59 kp168_60 kp168_55 g168i0 g168i1 g168i2 g168i3 g168i4 g168i5 g168i6 g168i7 g168i8 g168i9 g168i10 g168i11 g168i12 g168i13 hm168
                    refine vc_aload_n dX12_nextToken_168 rfl ?_
                    refine vc_aload_n dX12_nextToken_169 rfl ?_
                    refine vc_getI dX12_nextToken_170 flX12_119 (s_54 hQ168.1.1) rfl ?_
                    have k299 : 0 ≤ mI Mq168 54 9 ∧ mI Mq168 54 9 ≤ 300 := b54_9 (M := Mq168) hQ168.1
                    refine vc_cVI dX12_nextToken_173 (sfX12_byteAtF (M := Mq168) hQ168.1  (mI Mq168 54 9) (by omega) (by omega)) rfl okX12_byteAt viX12_byteAt lkX12_122 (s_54 hQ168.1.1) cl_12 rfl (Nat.le_of_ble_eq_true rfl) ⟨rfl, rfl⟩ (Nat.le_of_ble_eq_true rfl) (Nat.le_of_ble_eq_true rfl) (Nat.le_of_ble_eq_true rfl) ?_
                    rintro x300 _ ⟨rfl, h301⟩
                    have hb302 : ((mI Mq168 54 9) < mI M 54 6 ∧ x300 = mI M 59 (mI Mq168 54 9).toNat) ∨ (mI M 54 6 ≤ (mI Mq168 54 9) ∧ x300 = -1) := by have z := h301; rw [hQ168.2.2 54 6 rfl, hQ168.2.2 59 (mI Mq168 54 9).toNat rfl] at z; exact z
                    clear h301
                    have hy303 := p1 (mI Mq168 54 9).toNat
                    have hx304 : -1 ≤ x300 ∧ x300 ≤ 255 := bt_rg hb302 hy303
                    refine vc_cSI dX12_nextToken_176 (sfX12_isLetterByte (M := Mq168) hQ168.1  x300 ) rfl okX12_isLetterByte stX12_isLetterByte lkX12_139 rfl (Nat.le_of_ble_eq_true rfl) ⟨rfl, rfl⟩ (Nat.le_of_ble_eq_true rfl) (Nat.le_of_ble_eq_true rfl) (Nat.le_of_ble_eq_true rfl) ?_
                    rintro x305 _ ⟨rfl, h306, h307, h308⟩
                    refine vc_if_eq dX12_nextToken_179 (fun h309 => ?_) (fun h309 => ?_)
                    · refine vc_vret dX12_nextToken_310 rfl (Nat.le_of_ble_eq_true rfl) (Nat.le_of_ble_eq_true rfl) ?_
                      have hb9 := b54_9 hB
                      have hen : en (mI M 59) (mI M 54 6) (mI Mq0 54 9) = mI Mq168 54 9 := en_let (by omega) (g168i4 (mI Mq0 54 9).toNat (by omega) (by omega)) (by omega) (by omega) (fun i a b => g168i4 i (by omega) b) (by omega)
                      have htk := tk_wn (g := mI M 59) (n := mI M 54 6) (q := mI Mq0 54 9) (e := mI Mq168 54 9) (v := mJ Mq168 54 13) (by omega) (by omega) (g168i4 (mI Mq0 54 9).toNat (by omega) (by omega)) hen g168i5
                      obtain ⟨ht1, ht2, ht3⟩ := htk
                      exact ⟨rfl, hQ168, kp168_55, kp168_57, kp168_60, by omega, by omega, by omega, by omega, by omega, by omega, by omega, by omega, by omega, by omega, by rw [hsk]; exact ⟨⟨funext fun j => hQ168.2.2 59 j rfl, hQ168.2.2 54 6 rfl, p1⟩, ⟨by omega, by omega, by omega, by have := b54_6 hB; omega⟩, Or.inr (Or.inr (Or.inl ⟨by omega, ht1, ht2, by omega⟩)), fun h => ht3⟩⟩
                    · have hd1 : (mI Mq168 54 9) < mI M 54 6 ∧ ((97 ≤ mI M 59 (mI Mq168 54 9).toNat ∧ mI M 59 (mI Mq168 54 9).toNat ≤ 122) ∨ (65 ≤ mI M 59 (mI Mq168 54 9).toNat ∧ mI M 59 (mI Mq168 54 9).toNat ≤ 90)) := by omega
                      clear h308 hb302 hy303
                      have hwr := wpk_rg (mI M 59) (mI Mq168 54 9 - mI Mq0 54 9).toNat (mI Mq0 54 9).toNat 0 p1 (by decide) (by decide)
                      rw [← g168i5] at hwr
                      have hsh := shr48 hwr.1 (by omega)
                      refine vc_aload_n dX12_nextToken_182 rfl ?_
                      refine vc_aload_n dX12_nextToken_183 rfl ?_
                      refine vc_getJ dX12_nextToken_184 flX12_142 (s_54 hQ168.1.1) rfl ?_
                      refine vc_bipush dX12_nextToken_187 rfl ?_
                      refine vc_lshr dX12_nextToken_189 ?_
                      refine vc_lconst dX12_nextToken_190 ?_
                      refine vc_topL 0 rfl ?_
                      refine vc_lif_eq dX12_nextToken_191 dX12_nextToken_192 (fun h310 => ?_) (fun h310 => ?_)
                      · have hsl := shl8 (w := mJ Mq168 54 13) hwr.1 (by omega)
                        refine vc_aload_n dX12_nextToken_201 rfl ?_
                        refine vc_getJ dX12_nextToken_202 flX12_142 (s_54 hQ168.1.1) rfl ?_
                        refine vc_bipush dX12_nextToken_205 rfl ?_
                        refine vc_lshl dX12_nextToken_207 ?_
                        refine vc_aload_n dX12_nextToken_208 rfl ?_
                        refine vc_aload_n dX12_nextToken_209 rfl ?_
                        refine vc_getI dX12_nextToken_210 flX12_119 (s_54 hQ168.1.1) rfl ?_
                        refine vc_cVI dX12_nextToken_213 (sfX12_byteAtF (M := Mq168) hQ168.1  (mI Mq168 54 9) (by omega) (by omega)) rfl okX12_byteAt viX12_byteAt lkX12_122 (s_54 hQ168.1.1) cl_12 rfl (Nat.le_of_ble_eq_true rfl) ⟨rfl, rfl⟩ (Nat.le_of_ble_eq_true rfl) (Nat.le_of_ble_eq_true rfl) (Nat.le_of_ble_eq_true rfl) ?_
                        rintro x311 _ ⟨rfl, h312⟩
                        have hb313 : ((mI Mq168 54 9) < mI M 54 6 ∧ x311 = mI M 59 (mI Mq168 54 9).toNat) ∨ (mI M 54 6 ≤ (mI Mq168 54 9) ∧ x311 = -1) := by have z := h312; rw [hQ168.2.2 54 6 rfl, hQ168.2.2 59 (mI Mq168 54 9).toNat rfl] at z; exact z
                        clear h312
                        have hy314 := p1 (mI Mq168 54 9).toNat
                        have hx315 : -1 ≤ x311 ∧ x311 ≤ 255 := bt_rg hb313 hy314
                        have hd2 : x311 = mI M 59 (mI Mq168 54 9).toNat := by omega
                        clear hb313
                        refine vc_i2l dX12_nextToken_216 ?_
                        refine vc_lor dX12_nextToken_217 ?_
                        refine vc_putJ dX12_nextToken_218 (plX12_142 _ rfl) (s_54 hQ168.1.1) rfl ?_
                        have kp316 : mI (sJ Mq168 54 13 (orL (shlL (mJ Mq168 54 13) 8) x311)) 57 = mI M 57 := (kp_sJ kp168_57)
                        have kp317 : mI (sJ Mq168 54 13 (orL (shlL (mJ Mq168 54 13) 8) x311)) 59 = mI M 59 := (kp_sJ kp168_59)
                        have kp318 : mI (sJ Mq168 54 13 (orL (shlL (mJ Mq168 54 13) 8) x311)) 60 = mI M 60 := (kp_sJ kp168_60)
                        have kp319 : mI (sJ Mq168 54 13 (orL (shlL (mJ Mq168 54 13) 8) x311)) 55 = mI M 55 := (kp_sJ kp168_55)
                        have hB320 : BF fQ M (sJ Mq168 54 13 (orL (shlL (mJ Mq168 54 13) 8) x311)) := BF.J hQ168 _ _ _ rfl
                        have hwnew : mJ (sJ Mq168 54 13 (orL (shlL (mJ Mq168 54 13) 8) x311)) 54 13 = if 281474976710656 ≤ mJ Mq168 54 13 then 1152921504606846976 else 256 * mJ Mq168 54 13 + mI M 59 (mI Mq168 54 9).toNat := by
                          rw [if_neg (by omega), ← show x311 = mI M 59 (mI Mq168 54 9).toNat by omega, ← or8 hwr.1 (by omega) (by omega) (by omega), ← hsl]
                          rfl
                        refine vc_aload_n dX12_nextToken_221 rfl ?_
                        refine vc_dup dX12_nextToken_222 rfl ?_
                        refine vc_getI dX12_nextToken_223 flX12_119 (s_54 hB320.1.1) rfl ?_
                        refine vc_topI (mI Mq168 54 9) rfl ?_
                        have k321 : 0 ≤ mI Mq168 54 9 ∧ mI Mq168 54 9 ≤ 300 := b54_9 (M := (sJ Mq168 54 13 (orL (shlL (mJ Mq168 54 13) 8) x311))) hB320.1
                        refine vc_iconst dX12_nextToken_226 rfl ?_
                        refine vc_iaddE dX12_nextToken_227 (by omega) (by omega) ?_
                        refine vc_putI dX12_nextToken_228 (plX12_119 _ rfl) (s_54 hB320.1.1) rfl ?_
                        have kp322 : mI (sI (sJ Mq168 54 13 (orL (shlL (mJ Mq168 54 13) 8) x311)) 54 9 ((mI Mq168 54 9) + 1)) 57 = mI M 57 := (kp_sI kp316 rfl)
                        have kp323 : mI (sI (sJ Mq168 54 13 (orL (shlL (mJ Mq168 54 13) 8) x311)) 54 9 ((mI Mq168 54 9) + 1)) 59 = mI M 59 := (kp_sI kp317 rfl)
                        have kp324 : mI (sI (sJ Mq168 54 13 (orL (shlL (mJ Mq168 54 13) 8) x311)) 54 9 ((mI Mq168 54 9) + 1)) 60 = mI M 60 := (kp_sI kp318 rfl)
                        have kp325 : mI (sI (sJ Mq168 54 13 (orL (shlL (mJ Mq168 54 13) 8) x311)) 54 9 ((mI Mq168 54 9) + 1)) 55 = mI M 55 := (kp_sI kp319 rfl)
                        have hB326 : BF fQ M (sI (sJ Mq168 54 13 (orL (shlL (mJ Mq168 54 13) 8) x311)) 54 9 ((mI Mq168 54 9) + 1)) := BF.w54_9 hB320 rfl (by omega) (by omega)
                        refine vc_goto dX12_nextToken_231 ?_
                        have k327 : mI (sI (sJ Mq168 54 13 (orL (shlL (mJ Mq168 54 13) 8) x311)) 54 9 ((mI Mq168 54 9) + 1)) 54 6 = mI Mq168 54 6 := rfl
                        have k328 : mI (sI (sJ Mq168 54 13 (orL (shlL (mJ Mq168 54 13) 8) x311)) 54 9 ((mI Mq168 54 9) + 1)) 54 9 = (mI Mq168 54 9) + 1 := rfl
                        have k329 : mI (sI (sJ Mq168 54 13 (orL (shlL (mJ Mq168 54 13) 8) x311)) 54 9 ((mI Mq168 54 9) + 1)) 54 10 = mI Mq168 54 10 := rfl
                        have k330 : mI (sI (sJ Mq168 54 13 (orL (shlL (mJ Mq168 54 13) 8) x311)) 54 9 ((mI Mq168 54 9) + 1)) 54 11 = mI Mq168 54 11 := rfl
                        have k331 : mI (sI (sJ Mq168 54 13 (orL (shlL (mJ Mq168 54 13) 8) x311)) 54 9 ((mI Mq168 54 9) + 1)) 54 12 = mI Mq168 54 12 := rfl
                        have k332 : mI (sI (sJ Mq168 54 13 (orL (shlL (mJ Mq168 54 13) 8) x311)) 54 9 ((mI Mq168 54 9) + 1)) 54 14 = mI Mq168 54 14 := rfl
                        have k333 : mI (sI (sJ Mq168 54 13 (orL (shlL (mJ Mq168 54 13) 8) x311)) 54 9 ((mI Mq168 54 9) + 1)) 54 15 = mI Mq168 54 15 := rfl
                        have k334 : mI (sI (sJ Mq168 54 13 (orL (shlL (mJ Mq168 54 13) 8) x311)) 54 9 ((mI Mq168 54 9) + 1)) 54 16 = mI Mq168 54 16 := rfl
                        have k335 : mI (sI (sJ Mq168 54 13 (orL (shlL (mJ Mq168 54 13) 8) x311)) 54 9 ((mI Mq168 54 9) + 1)) 54 18 = mI Mq168 54 18 := rfl
                        have k336 : mI (sI (sJ Mq168 54 13 (orL (shlL (mJ Mq168 54 13) 8) x311)) 54 9 ((mI Mq168 54 9) + 1)) 54 19 = mI Mq168 54 19 := rfl
                        have k337 : mI (sI (sJ Mq168 54 13 (orL (shlL (mJ Mq168 54 13) 8) x311)) 54 9 ((mI Mq168 54 9) + 1)) 54 20 = mI Mq168 54 20 := rfl
                        have k338 : mI (sI (sJ Mq168 54 13 (orL (shlL (mJ Mq168 54 13) 8) x311)) 54 9 ((mI Mq168 54 9) + 1)) 54 21 = mI Mq168 54 21 := rfl
                        exact ih168 (sI (sJ Mq168 54 13 (orL (shlL (mJ Mq168 54 13) 8) x311)) 54 9 ((mI Mq168 54 9) + 1)) hB326 kp322 kp323 kp324 kp325 (by omega) (by first | (left; omega) | (right; rw [ee9]; omega)) (by omega) (by omega) (by first | (intro i a b; exfalso; omega) | (intro i a b; by_cases e : (i : Int) = mI Mq168 54 9; (rw [show i = (mI Mq168 54 9).toNat by omega]; omega); (exact g168i4 i a (by omega)))) (by first | (rw [ee9, Int.sub_self]; rfl) | (refine hwnew.trans ?_; show _ = wpk (mI M 59) (mI Mq168 54 9 + 1 - mI Mq0 54 9).toNat (mI Mq0 54 9).toNat 0; rw [show (mI Mq168 54 9 + 1 - mI Mq0 54 9).toNat = (mI Mq168 54 9 - mI Mq0 54 9).toNat + 1 by omega, wpk_snoc, show (mI Mq0 54 9).toNat + (mI Mq168 54 9 - mI Mq0 54 9).toNat = (mI Mq168 54 9).toNat by omega, ← g168i5])) (by omega) (by omega) (by omega) (by omega) (by omega) (by omega) (by omega) (by omega) (by omega)
                      · refine vc_ldc2 dX12_nextToken_195 rfl klX12_146 ?_
                        refine vc_goto dX12_nextToken_198 ?_
                        refine vc_putJ dX12_nextToken_218 (plX12_142 _ rfl) (s_54 hQ168.1.1) rfl ?_
                        have kp339 : mI (sJ Mq168 54 13 1152921504606846976) 57 = mI M 57 := (kp_sJ kp168_57)
                        have kp340 : mI (sJ Mq168 54 13 1152921504606846976) 59 = mI M 59 := (kp_sJ kp168_59)
                        have kp341 : mI (sJ Mq168 54 13 1152921504606846976) 60 = mI M 60 := (kp_sJ kp168_60)
                        have kp342 : mI (sJ Mq168 54 13 1152921504606846976) 55 = mI M 55 := (kp_sJ kp168_55)
                        have hB343 : BF fQ M (sJ Mq168 54 13 1152921504606846976) := BF.J hQ168 _ _ _ rfl
                        have hwnew : mJ (sJ Mq168 54 13 1152921504606846976) 54 13 = if 281474976710656 ≤ mJ Mq168 54 13 then 1152921504606846976 else 256 * mJ Mq168 54 13 + mI M 59 (mI Mq168 54 9).toNat := by
                          rw [if_pos (by omega)]; rfl
                        refine vc_aload_n dX12_nextToken_221 rfl ?_
                        refine vc_dup dX12_nextToken_222 rfl ?_
                        refine vc_getI dX12_nextToken_223 flX12_119 (s_54 hB343.1.1) rfl ?_
                        refine vc_topI (mI Mq168 54 9) rfl ?_
                        have k344 : 0 ≤ mI Mq168 54 9 ∧ mI Mq168 54 9 ≤ 300 := b54_9 (M := (sJ Mq168 54 13 1152921504606846976)) hB343.1
                        refine vc_iconst dX12_nextToken_226 rfl ?_
                        refine vc_iaddE dX12_nextToken_227 (by omega) (by omega) ?_
                        refine vc_putI dX12_nextToken_228 (plX12_119 _ rfl) (s_54 hB343.1.1) rfl ?_
                        have kp345 : mI (sI (sJ Mq168 54 13 1152921504606846976) 54 9 ((mI Mq168 54 9) + 1)) 57 = mI M 57 := (kp_sI kp339 rfl)
                        have kp346 : mI (sI (sJ Mq168 54 13 1152921504606846976) 54 9 ((mI Mq168 54 9) + 1)) 59 = mI M 59 := (kp_sI kp340 rfl)
                        have kp347 : mI (sI (sJ Mq168 54 13 1152921504606846976) 54 9 ((mI Mq168 54 9) + 1)) 60 = mI M 60 := (kp_sI kp341 rfl)
                        have kp348 : mI (sI (sJ Mq168 54 13 1152921504606846976) 54 9 ((mI Mq168 54 9) + 1)) 55 = mI M 55 := (kp_sI kp342 rfl)
                        have hB349 : BF fQ M (sI (sJ Mq168 54 13 1152921504606846976) 54 9 ((mI Mq168 54 9) + 1)) := BF.w54_9 hB343 rfl (by omega) (by omega)
                        refine vc_goto dX12_nextToken_231 ?_
                        have k350 : mI (sI (sJ Mq168 54 13 1152921504606846976) 54 9 ((mI Mq168 54 9) + 1)) 54 6 = mI Mq168 54 6 := rfl
                        have k351 : mI (sI (sJ Mq168 54 13 1152921504606846976) 54 9 ((mI Mq168 54 9) + 1)) 54 9 = (mI Mq168 54 9) + 1 := rfl
                        have k352 : mI (sI (sJ Mq168 54 13 1152921504606846976) 54 9 ((mI Mq168 54 9) + 1)) 54 10 = mI Mq168 54 10 := rfl
                        have k353 : mI (sI (sJ Mq168 54 13 1152921504606846976) 54 9 ((mI Mq168 54 9) + 1)) 54 11 = mI Mq168 54 11 := rfl
                        have k354 : mI (sI (sJ Mq168 54 13 1152921504606846976) 54 9 ((mI Mq168 54 9) + 1)) 54 12 = mI Mq168 54 12 := rfl
                        have k355 : mI (sI (sJ Mq168 54 13 1152921504606846976) 54 9 ((mI Mq168 54 9) + 1)) 54 14 = mI Mq168 54 14 := rfl
                        have k356 : mI (sI (sJ Mq168 54 13 1152921504606846976) 54 9 ((mI Mq168 54 9) + 1)) 54 15 = mI Mq168 54 15 := rfl
                        have k357 : mI (sI (sJ Mq168 54 13 1152921504606846976) 54 9 ((mI Mq168 54 9) + 1)) 54 16 = mI Mq168 54 16 := rfl
                        have k358 : mI (sI (sJ Mq168 54 13 1152921504606846976) 54 9 ((mI Mq168 54 9) + 1)) 54 18 = mI Mq168 54 18 := rfl
                        have k359 : mI (sI (sJ Mq168 54 13 1152921504606846976) 54 9 ((mI Mq168 54 9) + 1)) 54 19 = mI Mq168 54 19 := rfl
                        have k360 : mI (sI (sJ Mq168 54 13 1152921504606846976) 54 9 ((mI Mq168 54 9) + 1)) 54 20 = mI Mq168 54 20 := rfl
                        have k361 : mI (sI (sJ Mq168 54 13 1152921504606846976) 54 9 ((mI Mq168 54 9) + 1)) 54 21 = mI Mq168 54 21 := rfl
                        exact ih168 (sI (sJ Mq168 54 13 1152921504606846976) 54 9 ((mI Mq168 54 9) + 1)) hB349 kp345 kp346 kp347 kp348 (by omega) (by first | (left; omega) | (right; rw [ee9]; omega)) (by omega) (by omega) (by first | (intro i a b; exfalso; omega) | (intro i a b; by_cases e : (i : Int) = mI Mq168 54 9; (rw [show i = (mI Mq168 54 9).toNat by omega]; omega); (exact g168i4 i a (by omega)))) (by first | (rw [ee9, Int.sub_self]; rfl) | (refine hwnew.trans ?_; show _ = wpk (mI M 59) (mI Mq168 54 9 + 1 - mI Mq0 54 9).toNat (mI Mq0 54 9).toNat 0; rw [show (mI Mq168 54 9 + 1 - mI Mq0 54 9).toNat = (mI Mq168 54 9 - mI Mq0 54 9).toNat + 1 by omega, wpk_snoc, show (mI Mq0 54 9).toNat + (mI Mq168 54 9 - mI Mq0 54 9).toNat = (mI Mq168 54 9).toNat by omega, ← g168i5])) (by omega) (by omega) (by omega) (by omega) (by omega) (by omega) (by omega) (by omega) (by omega)
                refine vc_less [some (aR 54), none] (lessL_keep (lessL_drop (lessL_nil))) ?_
                have k362 : mI (sJ (sI (sI Mq0 54 10 (mI Mq0 54 9)) 54 11 2) 54 13 0) 54 6 = mI Mq0 54 6 := rfl
                have k363 : mI (sJ (sI (sI Mq0 54 10 (mI Mq0 54 9)) 54 11 2) 54 13 0) 54 9 = mI Mq0 54 9 := rfl
                have k364 : mI (sJ (sI (sI Mq0 54 10 (mI Mq0 54 9)) 54 11 2) 54 13 0) 54 10 = mI Mq0 54 9 := rfl
                have k365 : mI (sJ (sI (sI Mq0 54 10 (mI Mq0 54 9)) 54 11 2) 54 13 0) 54 11 = 2 := rfl
                have k366 : mI (sJ (sI (sI Mq0 54 10 (mI Mq0 54 9)) 54 11 2) 54 13 0) 54 12 = mI Mq0 54 12 := rfl
                have k367 : mI (sJ (sI (sI Mq0 54 10 (mI Mq0 54 9)) 54 11 2) 54 13 0) 54 14 = mI Mq0 54 14 := rfl
                have k368 : mI (sJ (sI (sI Mq0 54 10 (mI Mq0 54 9)) 54 11 2) 54 13 0) 54 15 = mI Mq0 54 15 := rfl
                have k369 : mI (sJ (sI (sI Mq0 54 10 (mI Mq0 54 9)) 54 11 2) 54 13 0) 54 16 = mI Mq0 54 16 := rfl
                have k370 : mI (sJ (sI (sI Mq0 54 10 (mI Mq0 54 9)) 54 11 2) 54 13 0) 54 18 = mI Mq0 54 18 := rfl
                have k371 : mI (sJ (sI (sI Mq0 54 10 (mI Mq0 54 9)) 54 11 2) 54 13 0) 54 19 = mI Mq0 54 19 := rfl
                have k372 : mI (sJ (sI (sI Mq0 54 10 (mI Mq0 54 9)) 54 11 2) 54 13 0) 54 20 = mI Mq0 54 20 := rfl
                have k373 : mI (sJ (sI (sI Mq0 54 10 (mI Mq0 54 9)) 54 11 2) 54 13 0) 54 21 = mI Mq0 54 21 := rfl
                have ee9 : mI (sJ (sI (sI Mq0 54 10 (mI Mq0 54 9)) 54 11 2) 54 13 0) 54 9 = mI Mq0 54 9 := rfl
                have ee6 : mI (sJ (sI (sI Mq0 54 10 (mI Mq0 54 9)) 54 11 2) 54 13 0) 54 6 = mI Mq0 54 6 := rfl
                have ee10 : mI (sJ (sI (sI Mq0 54 10 (mI Mq0 54 9)) 54 11 2) 54 13 0) 54 10 = mI Mq0 54 9 := rfl
                exact lp168 _ (sJ (sI (sI Mq0 54 10 (mI Mq0 54 9)) 54 11 2) 54 13 0) hB298 kp294 kp295 kp296 kp297 (by omega) (by first | (left; omega) | (right; rw [ee9]; omega)) (by omega) (by omega) (by first | (intro i a b; exfalso; omega) | (intro i a b; by_cases e : (i : Int) = mI Mq168 54 9; (rw [show i = (mI Mq168 54 9).toNat by omega]; omega); (exact g168i4 i a (by omega)))) (by first | (rw [ee9, Int.sub_self]; rfl) | (refine hwnew.trans ?_; show _ = wpk (mI M 59) (mI Mq168 54 9 + 1 - mI Mq0 54 9).toNat (mI Mq0 54 9).toNat 0; rw [show (mI Mq168 54 9 + 1 - mI Mq0 54 9).toNat = (mI Mq168 54 9 - mI Mq0 54 9).toNat + 1 by omega, wpk_snoc, show (mI Mq0 54 9).toNat + (mI Mq168 54 9 - mI Mq0 54 9).toNat = (mI Mq168 54 9).toNat by omega, ← g168i5])) (by omega) (by omega) (by omega) (by omega) (by omega) (by omega) (by omega) (by omega) (Nat.lt_succ_self _)
            · have hf374 : 48 ≤ x49 ∧ x49 ≤ 57 := by omega
              clear h58
              refine vc_aload_n dX12_nextToken_75 rfl ?_
              refine vc_iconst dX12_nextToken_76 rfl ?_
              refine vc_putI dX12_nextToken_77 (plX12_129 _ rfl) (s_54 hB35.1.1) rfl ?_
              have kp375 : mI (sI (sI Mq0 54 10 (mI Mq0 54 9)) 54 11 1) 57 = mI M 57 := (kp_sI kp31 rfl)
              have kp376 : mI (sI (sI Mq0 54 10 (mI Mq0 54 9)) 54 11 1) 59 = mI M 59 := (kp_sI kp32 rfl)
              have kp377 : mI (sI (sI Mq0 54 10 (mI Mq0 54 9)) 54 11 1) 60 = mI M 60 := (kp_sI kp33 rfl)
              have kp378 : mI (sI (sI Mq0 54 10 (mI Mq0 54 9)) 54 11 1) 55 = mI M 55 := (kp_sI kp34 rfl)
              have hB379 : BF fQ M (sI (sI Mq0 54 10 (mI Mq0 54 9)) 54 11 1) := BF.w54_11 hB35 rfl
              refine vc_aload_n dX12_nextToken_80 rfl ?_
              refine vc_iconst dX12_nextToken_81 rfl ?_
              refine vc_putI dX12_nextToken_82 (plX12_135 _ rfl) (s_54 hB379.1.1) rfl ?_
              have kp380 : mI (sI (sI (sI Mq0 54 10 (mI Mq0 54 9)) 54 11 1) 54 12 0) 57 = mI M 57 := (kp_sI kp375 rfl)
              have kp381 : mI (sI (sI (sI Mq0 54 10 (mI Mq0 54 9)) 54 11 1) 54 12 0) 59 = mI M 59 := (kp_sI kp376 rfl)
              have kp382 : mI (sI (sI (sI Mq0 54 10 (mI Mq0 54 9)) 54 11 1) 54 12 0) 60 = mI M 60 := (kp_sI kp377 rfl)
              have kp383 : mI (sI (sI (sI Mq0 54 10 (mI Mq0 54 9)) 54 11 1) 54 12 0) 55 = mI M 55 := (kp_sI kp378 rfl)
              have hB384 : BF fQ M (sI (sI (sI Mq0 54 10 (mI Mq0 54 9)) 54 11 1) 54 12 0) := BF.w54_12 hB379 rfl
              have lp85 : ∀ (n85 : Nat) (Mq85 : Mem) , (BF fQ M Mq85) → (mI Mq85 57 = mI M 57) → (mI Mq85 59 = mI M 59) → (mI Mq85 60 = mI M 60) → (mI Mq85 55 = mI M 55) → (mI M 54 9 ≤ mI Mq85 54 10) → (mI Mq85 54 10 < mI Mq85 54 9 ∨ (mI Mq85 54 10 = mI Mq85 54 9 ∧ mI Mq85 54 9 < mI M 54 6 ∧ (48 ≤ mI M 59 (mI Mq85 54 9).toNat ∧ mI M 59 (mI Mq85 54 9).toNat ≤ 57))) → (mI Mq85 54 10 = mI Mq0 54 9) → (mI Mq85 54 11 = 1) → (∀ i : Nat, mI Mq0 54 9 ≤ i → (i : Int) < mI Mq85 54 9 → 48 ≤ mI M 59 i ∧ mI M 59 i ≤ 57) → (mI Mq85 54 12 = nuR (mI M 59) (mI Mq85 54 9 - mI Mq0 54 9).toNat (mI Mq0 54 9).toNat 0) → (mI Mq85 54 9 ≤ mI M 54 6) → (mI Mq85 54 14 = mI M 54 14) → (mI Mq85 54 15 = mI M 54 15) → (mI Mq85 54 16 = mI M 54 16) → (mI Mq85 54 18 = mI M 54 18) → (mI Mq85 54 19 = mI M 54 19) → (mI Mq85 54 20 = mI M 54 20) → (mI Mq85 54 21 = mI M 54 21) → (0 ≤ mI Mq85 54 12) → (mI Mq85 54 12 ≤ 1000000) → (300 - mI Mq85 54 9).toNat < n85 → VC l mdX12_nextToken 85 [some (aR 54), none] [] Mq85 0 0 (fun q N => q = none ∧ BF fQ M N ∧ mI N 55 = mI M 55 ∧ mI N 57 = mI M 57 ∧ mI N 60 = mI M 60 ∧ mI M 54 9 ≤ mI N 54 10 ∧ mI N 54 10 ≤ mI N 54 9 ∧ (mI N 54 11 = 0 ∨ mI N 54 10 < mI N 54 9) ∧ mI N 54 14 = mI M 54 14 ∧ mI N 54 15 = mI M 54 15 ∧ mI N 54 16 = mI M 54 16 ∧ mI N 54 18 = mI M 54 18 ∧ mI N 54 19 = mI M 54 19 ∧ mI N 54 20 = mI M 54 20 ∧ mI N 54 21 = mI M 54 21 ∧ RT (mI M 59) (mI M 54 6) N (skb (mI M 59) (mI M 54 6) (mI M 54 9))) := by
                intro n85
                induction n85 with
                | zero => intro Mq85 hQ85 kp85_57 kp85_59 kp85_60 kp85_55 g85i0 g85i1 g85i2 g85i3 g85i4 g85i5 g85i6 g85i7 g85i8 g85i9 g85i10 g85i11 g85i12 g85i13 g85i14 g85i15 hm85; exact absurd hm85 (Nat.not_lt_zero _)
                | succ n85 ih85 =>
                  intro Mq85 hQ85 kp85_57 kp85_59 kp85_60 kp85_55 g85i0 g85i1 g85i2 g85i3 g85i4 g85i5 g85i6 g85i7 g85i8 g85i9 g85i10 g85i11 g85i12 g85i13 g85i14 g85i15 hm85
                  refine vc_aload_n dX12_nextToken_85 rfl ?_
                  refine vc_aload_n dX12_nextToken_86 rfl ?_
                  refine vc_getI dX12_nextToken_87 flX12_119 (s_54 hQ85.1.1) rfl ?_
                  have k385 : 0 ≤ mI Mq85 54 9 ∧ mI Mq85 54 9 ≤ 300 := b54_9 (M := Mq85) hQ85.1
                  refine vc_cVI dX12_nextToken_90 (sfX12_byteAtF (M := Mq85) hQ85.1  (mI Mq85 54 9) (by omega) (by omega)) rfl okX12_byteAt viX12_byteAt lkX12_122 (s_54 hQ85.1.1) cl_12 rfl (Nat.le_of_ble_eq_true rfl) ⟨rfl, rfl⟩ (Nat.le_of_ble_eq_true rfl) (Nat.le_of_ble_eq_true rfl) (Nat.le_of_ble_eq_true rfl) ?_
                  rintro x386 _ ⟨rfl, h387⟩
                  have hb388 : ((mI Mq85 54 9) < mI M 54 6 ∧ x386 = mI M 59 (mI Mq85 54 9).toNat) ∨ (mI M 54 6 ≤ (mI Mq85 54 9) ∧ x386 = -1) := by have z := h387; rw [hQ85.2.2 54 6 rfl, hQ85.2.2 59 (mI Mq85 54 9).toNat rfl] at z; exact z
                  clear h387
                  have hy389 := p1 (mI Mq85 54 9).toNat
                  have hx390 : -1 ≤ x386 ∧ x386 ≤ 255 := bt_rg hb388 hy389
                  refine vc_cSI dX12_nextToken_93 (sfX12_isFigure (M := Mq85) hQ85.1  x386 ) rfl okX12_isFigure stX12_isFigure lkX12_132 rfl (Nat.le_of_ble_eq_true rfl) ⟨rfl, rfl⟩ (Nat.le_of_ble_eq_true rfl) (Nat.le_of_ble_eq_true rfl) (Nat.le_of_ble_eq_true rfl) ?_
                  rintro x391 _ ⟨rfl, h392, h393, h394⟩
                  refine vc_if_eq dX12_nextToken_96 (fun h395 => ?_) (fun h395 => ?_)
                  · refine vc_vret dX12_nextToken_310 rfl (Nat.le_of_ble_eq_true rfl) (Nat.le_of_ble_eq_true rfl) ?_
                    have hb9 := b54_9 hB
                    have hen : en (mI M 59) (mI M 54 6) (mI Mq0 54 9) = mI Mq85 54 9 := en_dig (by omega) (g85i4 (mI Mq0 54 9).toNat (by omega) (by omega)) (by omega) (by omega) (fun i a b => g85i4 i (by omega) b) (by omega)
                    have htk := tk_num (g := mI M 59) (n := mI M 54 6) (q := mI Mq0 54 9) (e := mI Mq85 54 9) (v := mI Mq85 54 12) (by omega) (by omega) (g85i4 (mI Mq0 54 9).toNat (by omega) (by omega)) hen g85i5
                    exact ⟨rfl, hQ85, kp85_55, kp85_57, kp85_60, by omega, by omega, by omega, by omega, by omega, by omega, by omega, by omega, by omega, by omega, by rw [hsk]; exact ⟨⟨funext fun j => hQ85.2.2 59 j rfl, hQ85.2.2 54 6 rfl, p1⟩, ⟨by omega, by omega, by omega, by have := b54_6 hB; omega⟩, Or.inr (Or.inl ⟨by omega, htk, by omega⟩), fun h => absurd h (by omega)⟩⟩
                  · have hd1 : (mI Mq85 54 9) < mI M 54 6 ∧ 48 ≤ mI M 59 (mI Mq85 54 9).toNat ∧ mI M 59 (mI Mq85 54 9).toNat ≤ 57 := by omega
                    clear h394 hb388 hy389
                    refine vc_aload_n dX12_nextToken_99 rfl ?_
                    refine vc_aload_n dX12_nextToken_100 rfl ?_
                    refine vc_getI dX12_nextToken_101 flX12_135 (s_54 hQ85.1.1) rfl ?_
                    refine vc_ldc dX12_nextToken_104 rfl kcX12_138 ?_
                    refine vc_icmp_le dX12_nextToken_106 (fun h396 => ?_) (fun h396 => ?_)
                    · refine vc_bipush dX12_nextToken_116 rfl ?_
                      refine vc_aload_n dX12_nextToken_118 rfl ?_
                      refine vc_getI dX12_nextToken_119 flX12_135 (s_54 hQ85.1.1) rfl ?_
                      refine vc_imulE dX12_nextToken_122 (by omega) (by omega) ?_
                      refine vc_aload_n dX12_nextToken_123 rfl ?_
                      refine vc_aload_n dX12_nextToken_124 rfl ?_
                      refine vc_getI dX12_nextToken_125 flX12_119 (s_54 hQ85.1.1) rfl ?_
                      refine vc_cVI dX12_nextToken_128 (sfX12_byteAtF (M := Mq85) hQ85.1  (mI Mq85 54 9) (by omega) (by omega)) rfl okX12_byteAt viX12_byteAt lkX12_122 (s_54 hQ85.1.1) cl_12 rfl (Nat.le_of_ble_eq_true rfl) ⟨rfl, rfl⟩ (Nat.le_of_ble_eq_true rfl) (Nat.le_of_ble_eq_true rfl) (Nat.le_of_ble_eq_true rfl) ?_
                      rintro x397 _ ⟨rfl, h398⟩
                      have hb399 : ((mI Mq85 54 9) < mI M 54 6 ∧ x397 = mI M 59 (mI Mq85 54 9).toNat) ∨ (mI M 54 6 ≤ (mI Mq85 54 9) ∧ x397 = -1) := by have z := h398; rw [hQ85.2.2 54 6 rfl, hQ85.2.2 59 (mI Mq85 54 9).toNat rfl] at z; exact z
                      clear h398
                      have hy400 := p1 (mI Mq85 54 9).toNat
                      have hx401 : -1 ≤ x397 ∧ x397 ≤ 255 := bt_rg hb399 hy400
                      have hd2 : x397 = mI M 59 (mI Mq85 54 9).toNat := by omega
                      clear hb399 hy400
                      refine vc_iaddE dX12_nextToken_131 (by omega) (by omega) ?_
                      refine vc_bipush dX12_nextToken_132 rfl ?_
                      refine vc_isubE dX12_nextToken_134 (by omega) (by omega) ?_
                      refine vc_putI dX12_nextToken_135 (plX12_135 _ rfl) (s_54 hQ85.1.1) rfl ?_
                      have kp402 : mI (sI Mq85 54 12 (((10 * (mI Mq85 54 12)) + x397) - 48)) 57 = mI M 57 := (kp_sI kp85_57 rfl)
                      have kp403 : mI (sI Mq85 54 12 (((10 * (mI Mq85 54 12)) + x397) - 48)) 59 = mI M 59 := (kp_sI kp85_59 rfl)
                      have kp404 : mI (sI Mq85 54 12 (((10 * (mI Mq85 54 12)) + x397) - 48)) 60 = mI M 60 := (kp_sI kp85_60 rfl)
                      have kp405 : mI (sI Mq85 54 12 (((10 * (mI Mq85 54 12)) + x397) - 48)) 55 = mI M 55 := (kp_sI kp85_55 rfl)
                      have hB406 : BF fQ M (sI Mq85 54 12 (((10 * (mI Mq85 54 12)) + x397) - 48)) := BF.w54_12 hQ85 rfl
                      refine vc_aload_n dX12_nextToken_138 rfl ?_
                      refine vc_dup dX12_nextToken_139 rfl ?_
                      refine vc_getI dX12_nextToken_140 flX12_119 (s_54 hB406.1.1) rfl ?_
                      refine vc_topI (mI Mq85 54 9) rfl ?_
                      have k407 : 0 ≤ mI Mq85 54 9 ∧ mI Mq85 54 9 ≤ 300 := b54_9 (M := (sI Mq85 54 12 (((10 * (mI Mq85 54 12)) + x397) - 48))) hB406.1
                      refine vc_iconst dX12_nextToken_143 rfl ?_
                      refine vc_iaddE dX12_nextToken_144 (by omega) (by omega) ?_
                      refine vc_putI dX12_nextToken_145 (plX12_119 _ rfl) (s_54 hB406.1.1) rfl ?_
                      have kp408 : mI (sI (sI Mq85 54 12 (((10 * (mI Mq85 54 12)) + x397) - 48)) 54 9 ((mI Mq85 54 9) + 1)) 57 = mI M 57 := (kp_sI kp402 rfl)
                      have kp409 : mI (sI (sI Mq85 54 12 (((10 * (mI Mq85 54 12)) + x397) - 48)) 54 9 ((mI Mq85 54 9) + 1)) 59 = mI M 59 := (kp_sI kp403 rfl)
                      have kp410 : mI (sI (sI Mq85 54 12 (((10 * (mI Mq85 54 12)) + x397) - 48)) 54 9 ((mI Mq85 54 9) + 1)) 60 = mI M 60 := (kp_sI kp404 rfl)
                      have kp411 : mI (sI (sI Mq85 54 12 (((10 * (mI Mq85 54 12)) + x397) - 48)) 54 9 ((mI Mq85 54 9) + 1)) 55 = mI M 55 := (kp_sI kp405 rfl)
                      have hB412 : BF fQ M (sI (sI Mq85 54 12 (((10 * (mI Mq85 54 12)) + x397) - 48)) 54 9 ((mI Mq85 54 9) + 1)) := BF.w54_9 hB406 rfl (by omega) (by omega)
                      refine vc_goto dX12_nextToken_148 ?_
                      have k413 : mI (sI (sI Mq85 54 12 (((10 * (mI Mq85 54 12)) + x397) - 48)) 54 9 ((mI Mq85 54 9) + 1)) 54 6 = mI Mq85 54 6 := rfl
                      have k414 : mI (sI (sI Mq85 54 12 (((10 * (mI Mq85 54 12)) + x397) - 48)) 54 9 ((mI Mq85 54 9) + 1)) 54 9 = (mI Mq85 54 9) + 1 := rfl
                      have k415 : mI (sI (sI Mq85 54 12 (((10 * (mI Mq85 54 12)) + x397) - 48)) 54 9 ((mI Mq85 54 9) + 1)) 54 10 = mI Mq85 54 10 := rfl
                      have k416 : mI (sI (sI Mq85 54 12 (((10 * (mI Mq85 54 12)) + x397) - 48)) 54 9 ((mI Mq85 54 9) + 1)) 54 11 = mI Mq85 54 11 := rfl
                      have k417 : mI (sI (sI Mq85 54 12 (((10 * (mI Mq85 54 12)) + x397) - 48)) 54 9 ((mI Mq85 54 9) + 1)) 54 12 = ((10 * (mI Mq85 54 12)) + x397) - 48 := rfl
                      have k418 : mI (sI (sI Mq85 54 12 (((10 * (mI Mq85 54 12)) + x397) - 48)) 54 9 ((mI Mq85 54 9) + 1)) 54 14 = mI Mq85 54 14 := rfl
                      have k419 : mI (sI (sI Mq85 54 12 (((10 * (mI Mq85 54 12)) + x397) - 48)) 54 9 ((mI Mq85 54 9) + 1)) 54 15 = mI Mq85 54 15 := rfl
                      have k420 : mI (sI (sI Mq85 54 12 (((10 * (mI Mq85 54 12)) + x397) - 48)) 54 9 ((mI Mq85 54 9) + 1)) 54 16 = mI Mq85 54 16 := rfl
                      have k421 : mI (sI (sI Mq85 54 12 (((10 * (mI Mq85 54 12)) + x397) - 48)) 54 9 ((mI Mq85 54 9) + 1)) 54 18 = mI Mq85 54 18 := rfl
                      have k422 : mI (sI (sI Mq85 54 12 (((10 * (mI Mq85 54 12)) + x397) - 48)) 54 9 ((mI Mq85 54 9) + 1)) 54 19 = mI Mq85 54 19 := rfl
                      have k423 : mI (sI (sI Mq85 54 12 (((10 * (mI Mq85 54 12)) + x397) - 48)) 54 9 ((mI Mq85 54 9) + 1)) 54 20 = mI Mq85 54 20 := rfl
                      have k424 : mI (sI (sI Mq85 54 12 (((10 * (mI Mq85 54 12)) + x397) - 48)) 54 9 ((mI Mq85 54 9) + 1)) 54 21 = mI Mq85 54 21 := rfl
                      exact ih85 (sI (sI Mq85 54 12 (((10 * (mI Mq85 54 12)) + x397) - 48)) 54 9 ((mI Mq85 54 9) + 1)) hB412 kp408 kp409 kp410 kp411 (by omega) (by first | (left; omega) | (right; rw [ee9]; omega)) (by omega) (by omega) (by first | (intro i a b; exfalso; omega) | (intro i a b; by_cases e : (i : Int) = mI Mq85 54 9; (rw [show i = (mI Mq85 54 9).toNat by omega]; omega); (exact g85i4 i a (by omega)))) (by first | (rw [ee9, Int.sub_self]; rfl) | (show _ = nuR (mI M 59) (mI Mq85 54 9 + 1 - mI Mq0 54 9).toNat (mI Mq0 54 9).toNat 0; rw [show (mI Mq85 54 9 + 1 - mI Mq0 54 9).toNat = (mI Mq85 54 9 - mI Mq0 54 9).toNat + 1 by omega, nuR_snoc, show (mI Mq0 54 9).toNat + (mI Mq85 54 9 - mI Mq0 54 9).toNat = (mI Mq85 54 9).toNat by omega, ← g85i5]; split <;> omega)) (by omega) (by omega) (by omega) (by omega) (by omega) (by omega) (by omega) (by omega) (by omega) (by omega) (by omega)
                    · refine vc_aload_n dX12_nextToken_109 rfl ?_
                      refine vc_getI dX12_nextToken_110 flX12_135 (s_54 hQ85.1.1) rfl ?_
                      refine vc_goto dX12_nextToken_113 ?_
                      refine vc_putI dX12_nextToken_135 (plX12_135 _ rfl) (s_54 hQ85.1.1) rfl ?_
                      have kp425 : mI (sI Mq85 54 12 (mI Mq85 54 12)) 57 = mI M 57 := (kp_sI kp85_57 rfl)
                      have kp426 : mI (sI Mq85 54 12 (mI Mq85 54 12)) 59 = mI M 59 := (kp_sI kp85_59 rfl)
                      have kp427 : mI (sI Mq85 54 12 (mI Mq85 54 12)) 60 = mI M 60 := (kp_sI kp85_60 rfl)
                      have kp428 : mI (sI Mq85 54 12 (mI Mq85 54 12)) 55 = mI M 55 := (kp_sI kp85_55 rfl)
                      have hB429 : BF fQ M (sI Mq85 54 12 (mI Mq85 54 12)) := BF.w54_12 hQ85 rfl
                      refine vc_aload_n dX12_nextToken_138 rfl ?_
                      refine vc_dup dX12_nextToken_139 rfl ?_
                      refine vc_getI dX12_nextToken_140 flX12_119 (s_54 hB429.1.1) rfl ?_
                      refine vc_topI (mI Mq85 54 9) rfl ?_
                      have k430 : 0 ≤ mI Mq85 54 9 ∧ mI Mq85 54 9 ≤ 300 := b54_9 (M := (sI Mq85 54 12 (mI Mq85 54 12))) hB429.1
                      refine vc_iconst dX12_nextToken_143 rfl ?_
                      refine vc_iaddE dX12_nextToken_144 (by omega) (by omega) ?_
                      refine vc_putI dX12_nextToken_145 (plX12_119 _ rfl) (s_54 hB429.1.1) rfl ?_
                      have kp431 : mI (sI (sI Mq85 54 12 (mI Mq85 54 12)) 54 9 ((mI Mq85 54 9) + 1)) 57 = mI M 57 := (kp_sI kp425 rfl)
                      have kp432 : mI (sI (sI Mq85 54 12 (mI Mq85 54 12)) 54 9 ((mI Mq85 54 9) + 1)) 59 = mI M 59 := (kp_sI kp426 rfl)
                      have kp433 : mI (sI (sI Mq85 54 12 (mI Mq85 54 12)) 54 9 ((mI Mq85 54 9) + 1)) 60 = mI M 60 := (kp_sI kp427 rfl)
                      have kp434 : mI (sI (sI Mq85 54 12 (mI Mq85 54 12)) 54 9 ((mI Mq85 54 9) + 1)) 55 = mI M 55 := (kp_sI kp428 rfl)
                      have hB435 : BF fQ M (sI (sI Mq85 54 12 (mI Mq85 54 12)) 54 9 ((mI Mq85 54 9) + 1)) := BF.w54_9 hB429 rfl (by omega) (by omega)
                      refine vc_goto dX12_nextToken_148 ?_
                      have k436 : mI (sI (sI Mq85 54 12 (mI Mq85 54 12)) 54 9 ((mI Mq85 54 9) + 1)) 54 6 = mI Mq85 54 6 := rfl
                      have k437 : mI (sI (sI Mq85 54 12 (mI Mq85 54 12)) 54 9 ((mI Mq85 54 9) + 1)) 54 9 = (mI Mq85 54 9) + 1 := rfl
                      have k438 : mI (sI (sI Mq85 54 12 (mI Mq85 54 12)) 54 9 ((mI Mq85 54 9) + 1)) 54 10 = mI Mq85 54 10 := rfl
                      have k439 : mI (sI (sI Mq85 54 12 (mI Mq85 54 12)) 54 9 ((mI Mq85 54 9) + 1)) 54 11 = mI Mq85 54 11 := rfl
                      have k440 : mI (sI (sI Mq85 54 12 (mI Mq85 54 12)) 54 9 ((mI Mq85 54 9) + 1)) 54 12 = mI Mq85 54 12 := rfl
                      have k441 : mI (sI (sI Mq85 54 12 (mI Mq85 54 12)) 54 9 ((mI Mq85 54 9) + 1)) 54 14 = mI Mq85 54 14 := rfl
                      have k442 : mI (sI (sI Mq85 54 12 (mI Mq85 54 12)) 54 9 ((mI Mq85 54 9) + 1)) 54 15 = mI Mq85 54 15 := rfl
                      have k443 : mI (sI (sI Mq85 54 12 (mI Mq85 54 12)) 54 9 ((mI Mq85 54 9) + 1)) 54 16 = mI Mq85 54 16 := rfl
                      have k444 : mI (sI (sI Mq85 54 12 (mI Mq85 54 12)) 54 9 ((mI Mq85 54 9) + 1)) 54 18 = mI Mq85 54 18 := rfl
                      have k445 : mI (sI (sI Mq85 54 12 (mI Mq85 54 12)) 54 9 ((mI Mq85 54 9) + 1)) 54 19 = mI Mq85 54 19 := rfl
                      have k446 : mI (sI (sI Mq85 54 12 (mI Mq85 54 12)) 54 9 ((mI Mq85 54 9) + 1)) 54 20 = mI Mq85 54 20 := rfl
                      have k447 : mI (sI (sI Mq85 54 12 (mI Mq85 54 12)) 54 9 ((mI Mq85 54 9) + 1)) 54 21 = mI Mq85 54 21 := rfl
                      exact ih85 (sI (sI Mq85 54 12 (mI Mq85 54 12)) 54 9 ((mI Mq85 54 9) + 1)) hB435 kp431 kp432 kp433 kp434 (by omega) (by first | (left; omega) | (right; rw [ee9]; omega)) (by omega) (by omega) (by first | (intro i a b; exfalso; omega) | (intro i a b; by_cases e : (i : Int) = mI Mq85 54 9; (rw [show i = (mI Mq85 54 9).toNat by omega]; omega); (exact g85i4 i a (by omega)))) (by first | (rw [ee9, Int.sub_self]; rfl) | (show _ = nuR (mI M 59) (mI Mq85 54 9 + 1 - mI Mq0 54 9).toNat (mI Mq0 54 9).toNat 0; rw [show (mI Mq85 54 9 + 1 - mI Mq0 54 9).toNat = (mI Mq85 54 9 - mI Mq0 54 9).toNat + 1 by omega, nuR_snoc, show (mI Mq0 54 9).toNat + (mI Mq85 54 9 - mI Mq0 54 9).toNat = (mI Mq85 54 9).toNat by omega, ← g85i5]; split <;> omega)) (by omega) (by omega) (by omega) (by omega) (by omega) (by omega) (by omega) (by omega) (by omega) (by omega) (by omega)
              refine vc_less [some (aR 54), none] (lessL_keep (lessL_drop (lessL_nil))) ?_
              have k448 : mI (sI (sI (sI Mq0 54 10 (mI Mq0 54 9)) 54 11 1) 54 12 0) 54 6 = mI Mq0 54 6 := rfl
              have k449 : mI (sI (sI (sI Mq0 54 10 (mI Mq0 54 9)) 54 11 1) 54 12 0) 54 9 = mI Mq0 54 9 := rfl
              have k450 : mI (sI (sI (sI Mq0 54 10 (mI Mq0 54 9)) 54 11 1) 54 12 0) 54 10 = mI Mq0 54 9 := rfl
              have k451 : mI (sI (sI (sI Mq0 54 10 (mI Mq0 54 9)) 54 11 1) 54 12 0) 54 11 = 1 := rfl
              have k452 : mI (sI (sI (sI Mq0 54 10 (mI Mq0 54 9)) 54 11 1) 54 12 0) 54 12 = 0 := rfl
              have k453 : mI (sI (sI (sI Mq0 54 10 (mI Mq0 54 9)) 54 11 1) 54 12 0) 54 14 = mI Mq0 54 14 := rfl
              have k454 : mI (sI (sI (sI Mq0 54 10 (mI Mq0 54 9)) 54 11 1) 54 12 0) 54 15 = mI Mq0 54 15 := rfl
              have k455 : mI (sI (sI (sI Mq0 54 10 (mI Mq0 54 9)) 54 11 1) 54 12 0) 54 16 = mI Mq0 54 16 := rfl
              have k456 : mI (sI (sI (sI Mq0 54 10 (mI Mq0 54 9)) 54 11 1) 54 12 0) 54 18 = mI Mq0 54 18 := rfl
              have k457 : mI (sI (sI (sI Mq0 54 10 (mI Mq0 54 9)) 54 11 1) 54 12 0) 54 19 = mI Mq0 54 19 := rfl
              have k458 : mI (sI (sI (sI Mq0 54 10 (mI Mq0 54 9)) 54 11 1) 54 12 0) 54 20 = mI Mq0 54 20 := rfl
              have k459 : mI (sI (sI (sI Mq0 54 10 (mI Mq0 54 9)) 54 11 1) 54 12 0) 54 21 = mI Mq0 54 21 := rfl
              have ee9 : mI (sI (sI (sI Mq0 54 10 (mI Mq0 54 9)) 54 11 1) 54 12 0) 54 9 = mI Mq0 54 9 := rfl
              have ee6 : mI (sI (sI (sI Mq0 54 10 (mI Mq0 54 9)) 54 11 1) 54 12 0) 54 6 = mI Mq0 54 6 := rfl
              have ee10 : mI (sI (sI (sI Mq0 54 10 (mI Mq0 54 9)) 54 11 1) 54 12 0) 54 10 = mI Mq0 54 9 := rfl
              exact lp85 _ (sI (sI (sI Mq0 54 10 (mI Mq0 54 9)) 54 11 1) 54 12 0) hB384 kp380 kp381 kp382 kp383 (by omega) (by first | (left; omega) | (right; rw [ee9]; omega)) (by omega) (by omega) (by first | (intro i a b; exfalso; omega) | (intro i a b; by_cases e : (i : Int) = mI Mq85 54 9; (rw [show i = (mI Mq85 54 9).toNat by omega]; omega); (exact g85i4 i a (by omega)))) (by first | (rw [ee9, Int.sub_self]; rfl) | (show _ = nuR (mI M 59) (mI Mq85 54 9 + 1 - mI Mq0 54 9).toNat (mI Mq0 54 9).toNat 0; rw [show (mI Mq85 54 9 + 1 - mI Mq0 54 9).toNat = (mI Mq85 54 9 - mI Mq0 54 9).toNat + 1 by omega, nuR_snoc, show (mI Mq0 54 9).toNat + (mI Mq85 54 9 - mI Mq0 54 9).toNat = (mI Mq85 54 9).toNat by omega, ← g85i5]; split <;> omega)) (by omega) (by omega) (by omega) (by omega) (by omega) (by omega) (by omega) (by omega) (by omega) (by omega) (Nat.lt_succ_self _)
          · have hc1 : mI M 54 6 ≤ (mI Mq0 54 9) := by omega
            clear hb51 hy52
            refine vc_aload_n dX12_nextToken_60 rfl ?_
            refine vc_iconst dX12_nextToken_61 rfl ?_
            refine vc_putI dX12_nextToken_62 (plX12_129 _ rfl) (s_54 hB35.1.1) rfl ?_
            have kp460 : mI (sI (sI Mq0 54 10 (mI Mq0 54 9)) 54 11 0) 57 = mI M 57 := (kp_sI kp31 rfl)
            have kp461 : mI (sI (sI Mq0 54 10 (mI Mq0 54 9)) 54 11 0) 59 = mI M 59 := (kp_sI kp32 rfl)
            have kp462 : mI (sI (sI Mq0 54 10 (mI Mq0 54 9)) 54 11 0) 60 = mI M 60 := (kp_sI kp33 rfl)
            have kp463 : mI (sI (sI Mq0 54 10 (mI Mq0 54 9)) 54 11 0) 55 = mI M 55 := (kp_sI kp34 rfl)
            have hB464 : BF fQ M (sI (sI Mq0 54 10 (mI Mq0 54 9)) 54 11 0) := BF.w54_11 hB35 rfl
            refine vc_goto dX12_nextToken_65 ?_
            refine vc_vret dX12_nextToken_310 rfl (Nat.le_of_ble_eq_true rfl) (Nat.le_of_ble_eq_true rfl) ?_
            have k465 : mI (sI (sI Mq0 54 10 (mI Mq0 54 9)) 54 11 0) 54 6 = mI Mq0 54 6 := rfl
            have k466 : mI (sI (sI Mq0 54 10 (mI Mq0 54 9)) 54 11 0) 54 9 = mI Mq0 54 9 := rfl
            have k467 : mI (sI (sI Mq0 54 10 (mI Mq0 54 9)) 54 11 0) 54 10 = mI Mq0 54 9 := rfl
            have k468 : mI (sI (sI Mq0 54 10 (mI Mq0 54 9)) 54 11 0) 54 11 = 0 := rfl
            have k469 : mI (sI (sI Mq0 54 10 (mI Mq0 54 9)) 54 11 0) 54 12 = mI Mq0 54 12 := rfl
            have k470 : mI (sI (sI Mq0 54 10 (mI Mq0 54 9)) 54 11 0) 54 14 = mI Mq0 54 14 := rfl
            have k471 : mI (sI (sI Mq0 54 10 (mI Mq0 54 9)) 54 11 0) 54 15 = mI Mq0 54 15 := rfl
            have k472 : mI (sI (sI Mq0 54 10 (mI Mq0 54 9)) 54 11 0) 54 16 = mI Mq0 54 16 := rfl
            have k473 : mI (sI (sI Mq0 54 10 (mI Mq0 54 9)) 54 11 0) 54 18 = mI Mq0 54 18 := rfl
            have k474 : mI (sI (sI Mq0 54 10 (mI Mq0 54 9)) 54 11 0) 54 19 = mI Mq0 54 19 := rfl
            have k475 : mI (sI (sI Mq0 54 10 (mI Mq0 54 9)) 54 11 0) 54 20 = mI Mq0 54 20 := rfl
            have k476 : mI (sI (sI Mq0 54 10 (mI Mq0 54 9)) 54 11 0) 54 21 = mI Mq0 54 21 := rfl
            have hb9 := b54_9 hB
            exact ⟨rfl, hB464, kp463, kp460, kp462, by omega, by omega, by omega, by omega, by omega, by omega, by omega, by omega, by omega, by omega, by rw [hsk]; exact ⟨⟨funext fun j => hB464.2.2 59 j rfl, hB464.2.2 54 6 rfl, p1⟩, ⟨by omega, by omega, by omega, by have := b54_6 hB; omega⟩, Or.inl ⟨by omega, tk_end (by omega)⟩, fun h => absurd h (by omega)⟩⟩
        · have hbl : (mI Mq0 54 9) < mI M 54 6 ∧ (mI M 59 (mI Mq0 54 9).toNat = 32 ∨ mI M 59 (mI Mq0 54 9).toNat = 10) := by omega
          clear hb4 hy5
          clear hb27 hy28
          refine vc_aload_n dX12_nextToken_26 rfl ?_
          refine vc_dup dX12_nextToken_27 rfl ?_
          refine vc_getI dX12_nextToken_28 flX12_119 (s_54 hQ0.1.1) rfl ?_
          refine vc_iconst dX12_nextToken_31 rfl ?_
          refine vc_iaddE dX12_nextToken_32 (by omega) (by omega) ?_
          refine vc_putI dX12_nextToken_33 (plX12_119 _ rfl) (s_54 hQ0.1.1) rfl ?_
          have kp477 : mI (sI Mq0 54 9 ((mI Mq0 54 9) + 1)) 57 = mI M 57 := (kp_sI kp0_57 rfl)
          have kp478 : mI (sI Mq0 54 9 ((mI Mq0 54 9) + 1)) 59 = mI M 59 := (kp_sI kp0_59 rfl)
          have kp479 : mI (sI Mq0 54 9 ((mI Mq0 54 9) + 1)) 60 = mI M 60 := (kp_sI kp0_60 rfl)
          have kp480 : mI (sI Mq0 54 9 ((mI Mq0 54 9) + 1)) 55 = mI M 55 := (kp_sI kp0_55 rfl)
          have hB481 : BF fQ M (sI Mq0 54 9 ((mI Mq0 54 9) + 1)) := BF.w54_9 hQ0 rfl (by omega) (by omega)
          refine vc_goto dX12_nextToken_36 ?_
          have k482 : mI (sI Mq0 54 9 ((mI Mq0 54 9) + 1)) 54 6 = mI Mq0 54 6 := rfl
          have k483 : mI (sI Mq0 54 9 ((mI Mq0 54 9) + 1)) 54 9 = (mI Mq0 54 9) + 1 := rfl
          have k484 : mI (sI Mq0 54 9 ((mI Mq0 54 9) + 1)) 54 10 = mI Mq0 54 10 := rfl
          have k485 : mI (sI Mq0 54 9 ((mI Mq0 54 9) + 1)) 54 11 = mI Mq0 54 11 := rfl
          have k486 : mI (sI Mq0 54 9 ((mI Mq0 54 9) + 1)) 54 12 = mI Mq0 54 12 := rfl
          have k487 : mI (sI Mq0 54 9 ((mI Mq0 54 9) + 1)) 54 14 = mI Mq0 54 14 := rfl
          have k488 : mI (sI Mq0 54 9 ((mI Mq0 54 9) + 1)) 54 15 = mI Mq0 54 15 := rfl
          have k489 : mI (sI Mq0 54 9 ((mI Mq0 54 9) + 1)) 54 16 = mI Mq0 54 16 := rfl
          have k490 : mI (sI Mq0 54 9 ((mI Mq0 54 9) + 1)) 54 18 = mI Mq0 54 18 := rfl
          have k491 : mI (sI Mq0 54 9 ((mI Mq0 54 9) + 1)) 54 19 = mI Mq0 54 19 := rfl
          have k492 : mI (sI Mq0 54 9 ((mI Mq0 54 9) + 1)) 54 20 = mI Mq0 54 20 := rfl
          have k493 : mI (sI Mq0 54 9 ((mI Mq0 54 9) + 1)) 54 21 = mI Mq0 54 21 := rfl
          exact ih0 (sI Mq0 54 9 ((mI Mq0 54 9) + 1)) hB481 kp477 kp478 kp479 kp480 (by omega) (by omega) (by omega) (by omega) (by omega) (by omega) (by omega) (by omega) (by first | (intro i a b; exfalso; omega) | (intro i a b; by_cases e : (i : Int) = mI Mq0 54 9; (rw [show i = (mI Mq0 54 9).toNat by omega]; omega); (exact g0i8 i a (by omega)))) (by omega) (by omega)
  exact lp0 _ M hB0 rfl rfl rfl rfl (by omega) (by omega) (by omega) (by omega) (by omega) (by omega) (by omega) (by omega) (by first | (intro i a b; exfalso; omega) | (intro i a b; by_cases e : (i : Int) = mI Mq0 54 9; (rw [show i = (mI Mq0 54 9).toNat by omega]; omega); (exact g0i8 i a (by omega)))) (by omega) (Nat.lt_succ_self _)
