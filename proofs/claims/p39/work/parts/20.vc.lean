/-! THE ABSTRACT MACHINE: values are whole numbers (Int) or cells by their number; memory is shapes and three tables. -/
abbrev AV : Type := Int ⊕ (Int ⊕ Option Nat)
abbrev aI (x : Int) : AV := .inl x
abbrev aL (x : Int) : AV := .inr (.inl x)
abbrev aR (k : Nat) : AV := .inr (.inr (some k))
abbrev aN : AV := .inr (.inr none)
abbrev Sh : Type := Nat ⊕ (Nat × Nat)
abbrev Mem : Type := List Sh × (Nat → Nat → Int) × (Nat → Nat → Int) × (Nat → Nat → Option Nat)
def inI (x : Int) : Prop := -2147483648 ≤ x ∧ x < 2147483648
def inL (x : Int) : Prop := -9223372036854775808 ≤ x ∧ x < 9223372036854775808
def wI (x : Int) : Int := x.bmod 4294967296
def wL (x : Int) : Int := x.bmod 18446744073709551616
def mI (M : Mem) (k j : Nat) : Int := M.2.1 k j
def mJ (M : Mem) (k j : Nat) : Int := M.2.2.1 k j
def mR (M : Mem) (k j : Nat) : Option Nat := M.2.2.2 k j
def up2 {α : Type} (f : Nat → Nat → α) (k j : Nat) (v : α) : Nat → Nat → α := fun a b => if a = k ∧ b = j then v else f a b
def sI (M : Mem) (k j : Nat) (v : Int) : Mem := (M.1, up2 M.2.1 k j v, M.2.2)
def sJ (M : Mem) (k j : Nat) (v : Int) : Mem := (M.1, M.2.1, up2 M.2.2.1 k j v, M.2.2.2)
def sR (M : Mem) (k j : Nat) (v : Option Nat) : Mem := (M.1, M.2.1, M.2.2.1, up2 M.2.2.2 k j v)
theorem inI_wI (x : Int) : inI (wI x) := by
  unfold inI wI
  have h1 := Int.le_bmod (x := x) (m := 4294967296) (by decide)
  have h2 := Int.bmod_lt (x := x) (m := 4294967296) (by decide)
  omega
theorem inL_wL (x : Int) : inL (wL x) := by
  unfold inL wL
  have h1 := Int.le_bmod (x := x) (m := 18446744073709551616) (by decide)
  have h2 := Int.bmod_lt (x := x) (m := 18446744073709551616) (by decide)
  omega
theorem wI_id {x : Int} (h1 : -2147483648 ≤ x) (h2 : x < 2147483648) : wI x = x := by
  unfold wI
  exact Int.bmod_eq_of_le_mul_two (by omega) (by omega)
theorem wL_id {x : Int} (h1 : -9223372036854775808 ≤ x) (h2 : x < 9223372036854775808) : wL x = x := by
  unfold wL
  exact Int.bmod_eq_of_le_mul_two (by omega) (by omega)
theorem oI (x : Int) : (Int32.ofInt x).toInt = wI x := Int32.toInt_ofInt
theorem oL (x : Int) : (Int64.ofInt x).toInt = wL x := Int64.toInt_ofInt
theorem oI_id {x : Int} (h : inI x) : (Int32.ofInt x).toInt = x := (oI x).trans (wI_id h.1 h.2)
theorem oL_id {x : Int} (h : inL x) : (Int64.ofInt x).toInt = x := (oL x).trans (wL_id h.1 h.2)
theorem oI_to (x : Int32) : Int32.ofInt x.toInt = x := Int32.ofInt_toInt x
theorem oL_to (x : Int64) : Int64.ofInt x.toInt = x := Int64.ofInt_toInt x
theorem oI_w (x : Int) : Int32.ofInt (wI x) = Int32.ofInt x := by rw [← oI, oI_to]
theorem oL_w (x : Int) : Int64.ofInt (wL x) = Int64.ofInt x := by rw [← oL, oL_to]
theorem inI_to (x : Int32) : inI x.toInt := ⟨x.le_toInt, x.toInt_lt⟩
theorem inL_to (x : Int64) : inL x.toInt := ⟨x.le_toInt, x.toInt_lt⟩
theorem oI_add (x y : Int) : Int32.ofInt x + Int32.ofInt y = Int32.ofInt (wI (x + y)) := by rw [oI_w, Int32.ofInt_add]
theorem oI_sub (x y : Int) : Int32.ofInt x - Int32.ofInt y = Int32.ofInt (wI (x - y)) := by rw [oI_w, Int32.ofInt_sub]
theorem oI_mul (x y : Int) : Int32.ofInt x * Int32.ofInt y = Int32.ofInt (wI (x * y)) := by rw [oI_w, Int32.ofInt_mul]
theorem oI_neg (x : Int) : - Int32.ofInt x = Int32.ofInt (wI (-x)) := by rw [oI_w, Int32.ofInt_neg]
theorem oL_add (x y : Int) : Int64.ofInt x + Int64.ofInt y = Int64.ofInt (wL (x + y)) := by rw [oL_w, Int64.ofInt_add]
theorem oL_sub (x y : Int) : Int64.ofInt x - Int64.ofInt y = Int64.ofInt (wL (x - y)) := by rw [oL_w, Int64.ofInt_sub]
theorem oL_mul (x y : Int) : Int64.ofInt x * Int64.ofInt y = Int64.ofInt (wL (x * y)) := by rw [oL_w, Int64.ofInt_mul]
theorem oL_neg (x : Int) : - Int64.ofInt x = Int64.ofInt (wL (-x)) := by rw [oL_w, Int64.ofInt_neg]
theorem oI_eq {x y : Int} (hx : inI x) (hy : inI y) : Int32.ofInt x = Int32.ofInt y ↔ x = y := by
  rw [← Int32.toInt_inj, oI_id hx, oI_id hy]
theorem oI_lt {x y : Int} (hx : inI x) (hy : inI y) : Int32.ofInt x < Int32.ofInt y ↔ x < y := by
  rw [Int32.lt_iff_toInt_lt, oI_id hx, oI_id hy]
theorem oI_le {x y : Int} (hx : inI x) (hy : inI y) : Int32.ofInt x ≤ Int32.ofInt y ↔ x ≤ y := by
  rw [Int32.le_iff_toInt_le, oI_id hx, oI_id hy]
theorem oL_eq {x y : Int} (hx : inL x) (hy : inL y) : Int64.ofInt x = Int64.ofInt y ↔ x = y := by
  rw [← Int64.toInt_inj, oL_id hx, oL_id hy]
theorem oL_lt {x y : Int} (hx : inL x) (hy : inL y) : Int64.ofInt x < Int64.ofInt y ↔ x < y := by
  rw [Int64.lt_iff_toInt_lt, oL_id hx, oL_id hy]
theorem oI_0 : (0 : Int32) = Int32.ofInt 0 := rfl
theorem inI_0 : inI 0 := ⟨by decide, by decide⟩
def dvI (x y : Int) : Int := wI (x.tdiv y)
def rmI (x y : Int) : Int := x.tmod y
def dvL (x y : Int) : Int := wL (x.tdiv y)
def rmL (x y : Int) : Int := x.tmod y
theorem oI_div {x y : Int} (hx : inI x) (hy : inI y) : Int32.ofInt x / Int32.ofInt y = Int32.ofInt (dvI x y) := by
  apply Int32.toInt_inj.mp
  show _ = (Int32.ofInt (wI _)).toInt
  rw [Int32.toInt_div, oI_id hx, oI_id hy, oI_id (inI_wI _)]
  rfl
theorem oI_rem {x y : Int} (hx : inI x) (hy : inI y) : Int32.ofInt x - Int32.ofInt x / Int32.ofInt y * Int32.ofInt y = Int32.ofInt (rmI x y) := by
  rw [oI_div hx hy]
  unfold dvI rmI
  rw [oI_w, ← Int32.ofInt_mul, ← Int32.ofInt_sub, Int.tmod_def, Int.mul_comm]
theorem inI_rm {x y : Int} (hx : inI x) (hy : ¬ y = 0) : inI (rmI x y) := by
  unfold rmI
  unfold inI at *
  have h1 := Int.natAbs_tmod x y
  have h2 : x.natAbs % y.natAbs ≤ x.natAbs := Nat.mod_le _ _
  have h3 : 0 ≤ x → 0 ≤ x.tmod y := fun h => Int.tmod_nonneg y h
  have h4 : x ≤ 0 → x.tmod y ≤ 0 := fun h => by
    have := Int.tmod_nonneg y (a := -x) (by omega)
    rw [Int.neg_tmod] at this
    omega
  omega
theorem oL_div {x y : Int} (hx : inL x) (hy : inL y) : Int64.ofInt x / Int64.ofInt y = Int64.ofInt (dvL x y) := by
  apply Int64.toInt_inj.mp
  show _ = (Int64.ofInt (wL _)).toInt
  rw [Int64.toInt_div, oL_id hx, oL_id hy, oL_id (inL_wL _)]
  rfl
theorem oL_rem {x y : Int} (hx : inL x) (hy : inL y) : Int64.ofInt x - Int64.ofInt x / Int64.ofInt y * Int64.ofInt y = Int64.ofInt (rmL x y) := by
  rw [oL_div hx hy]
  unfold dvL rmL
  rw [oL_w, ← Int64.ofInt_mul, ← Int64.ofInt_sub, Int.tmod_def, Int.mul_comm]
theorem inL_rm {x y : Int} (hx : inL x) (hy : ¬ y = 0) : inL (rmL x y) := by
  unfold rmL
  unfold inL at *
  have h1 := Int.natAbs_tmod x y
  have h2 : x.natAbs % y.natAbs ≤ x.natAbs := Nat.mod_le _ _
  have h3 : 0 ≤ x → 0 ≤ x.tmod y := fun h => Int.tmod_nonneg y h
  have h4 : x ≤ 0 → x.tmod y ≤ 0 := fun h => by
    have := Int.tmod_nonneg y (a := -x) (by omega)
    rw [Int.neg_tmod] at this
    omega
  omega
def andI (x y : Int) : Int := (Int32.ofInt x &&& Int32.ofInt y).toInt
def orI (x y : Int) : Int := (Int32.ofInt x ||| Int32.ofInt y).toInt
def xorI (x y : Int) : Int := (Int32.ofInt x ^^^ Int32.ofInt y).toInt
def shlI (x y : Int) : Int := (Int32.ofInt x <<< (Int32.ofInt y &&& 31)).toInt
def shrI (x y : Int) : Int := (Int32.ofInt x >>> (Int32.ofInt y &&& 31)).toInt
def ushrI (x y : Int) : Int := ((Int32.ofInt x).toUInt32 >>> ((Int32.ofInt y).toUInt32 &&& Int32.toUInt32 31)).toInt32.toInt
def andL (x y : Int) : Int := (Int64.ofInt x &&& Int64.ofInt y).toInt
def orL (x y : Int) : Int := (Int64.ofInt x ||| Int64.ofInt y).toInt
def shlL (x y : Int) : Int := (Int64.ofInt x <<< ((Int32.ofInt y).toInt64 &&& 63)).toInt
def shrL (x y : Int) : Int := (Int64.ofInt x >>> ((Int32.ofInt y).toInt64 &&& 63)).toInt
def cmpL (x y : Int) : Int := if y < x then 1 else if x = y then 0 else -1
/-! THE WORLD that a memory stands for, and the judgement VC: from this abstract state the method comes to its end with Q. -/
def aV (ad : Nat → Nat) : AV → Value
  | .inl x => .int (Int32.ofInt x)
  | .inr (.inl x) => .long (Int64.ofInt x)
  | .inr (.inr r) => va_rf (r.map ad)
def tyC (ci : Nat) : Nat → FieldType := match ci with
  | 0 => tyX0 | 1 => tyX1 | 2 => tyX2 | 3 => tyX3 | 4 => tyX4 | 5 => tyX5 | 6 => tyX6 | 7 => tyX7 | 8 => tyX8 | 9 => tyX9 | 10 => tyX10 | 11 => tyX11 | _ => tyX12
def nFC (ci : Nat) : Nat := match vwCl[ci]? with
  | some q => q.2.2
  | none => 0
/-- what a place of a cell holds, by its type -/
def fV (ad : Nat → Nat) (M : Mem) (k j : Nat) (ty : FieldType) : Value := match ty with
  | .long => .long (Int64.ofInt (mJ M k j))
  | .object _ => va_rf ((mR M k j).map ad)
  | .array _ => va_rf ((mR M k j).map ad)
  | _ => .int (Int32.ofInt (mI M k j))
def tyA (t : Nat) : FieldType := match t with
  | 0 => .int
  | 1 => .long
  | 2 => .boolean
  | _ => .object "SecondLeft$Text"
def arA (ad : Nat → Nat) (M : Mem) (k t : Nat) : (Nat → Int32) ⊕ (Nat → Int64) ⊕ (Nat → UInt32) ⊕ (Nat → UInt64) ⊕ (Nat → Option Nat) := match t with
  | 0 => .inl (fun i => Int32.ofInt (mI M k i))
  | 1 => .inr (.inl (fun i => Int64.ofInt (mJ M k i)))
  | 2 => .inl (fun i => Int32.ofInt (mI M k i))
  | _ => .inr (.inr (.inr (.inr (fun i => (mR M k i).map ad))))
def flC (ad : Nat → Nat) (M : Mem) (k ci : Nat) : List Value := (List.range (nFC ci)).map (fun j => fV ad M k j (tyC ci j))
def cellW (dA : Nat → ClassId) (ad : Nat → Nat) (M : Mem) (k : Nat) (sh : Sh) : va_E := match sh with
  | .inl ci => .inr (ci, flC ad M k ci)
  | .inr (t, n) => .inl (dA t, n, arA ad M k t)
def wld (dA : Nat → ClassId) (ad : Nat → Nat) (M : Mem) : va_W := M.1.mapIdx (fun k sh => (ad k, cellW dA ad M k sh))
def tysA (dA : Nat → ClassId) : List (ClassId × FieldType) := [(dA 0, tyA 0), (dA 1, tyA 1), (dA 2, tyA 2), (dA 3, tyA 3)]
theorem wld_at {dA : Nat → ClassId} {ad : Nat → Nat} {M : Mem} {k : Nat} {sh : Sh} (h : M.1[k]? = some sh) : (wld dA ad M)[k]? = some (ad k, cellW dA ad M k sh) := by
  unfold wld
  rw [List.getElem?_mapIdx, h]
  rfl
theorem wld_get {dA : Nat → ClassId} {ad : Nat → Nat} {M : Mem} {k : Nat} {q : Nat × va_E} (h : (wld dA ad M)[k]? = some q) : ∃ sh, M.1[k]? = some sh ∧ q = (ad k, cellW dA ad M k sh) := by
  unfold wld at h
  rw [List.getElem?_mapIdx] at h
  cases hs : M.1[k]? with
  | none => rw [hs] at h; cases h
  | some sh => rw [hs] at h; exact ⟨sh, rfl, (Option.some.inj h).symm⟩
theorem wld_len {dA : Nat → ClassId} {ad : Nat → Nat} {M : Mem} : (wld dA ad M).length = M.1.length := by unfold wld; simp
/-- a value is in its range, a cell's number is one of the memory's -/
def okV (S : List Sh) : AV → Prop
  | .inl x => inI x
  | .inr (.inl x) => inL x
  | .inr (.inr none) => True
  | .inr (.inr (some k)) => k < S.length
def okM (M : Mem) : Prop := ∀ k j, inI (mI M k j) ∧ inL (mJ M k j) ∧ ∀ r, mR M k j = some r → r < M.1.length
def okS (S : List Sh) (st : List AV) : Prop := ∀ v ∈ st, okV S v
def okL (S : List Sh) (L : List (Option AV)) : Prop := ∀ (i : Nat) (v : AV), L[i]? = some (some v) → okV S v
def lvL (ad : Nat → Nat) (L : List (Option AV)) : List (Nat × Value) := (List.range L.length).filterMap (fun i => (L[i]?.join).map (fun v => (i, aV ad v)))
theorem lvL_mem {ad : Nat → Nat} {L : List (Option AV)} {q : Nat × Value} : q ∈ lvL ad L ↔ ∃ v, L[q.1]? = some (some v) ∧ q.2 = aV ad v := by
  unfold lvL
  rw [List.mem_filterMap]
  constructor
  · rintro ⟨i, -, h⟩
    cases h2 : L[i]? with
    | none => rw [h2] at h; cases h
    | some o =>
      cases o with
      | none => rw [h2] at h; cases h
      | some v =>
        rw [h2] at h
        have e := (Option.some.inj h).symm
        subst e
        exact ⟨v, h2, rfl⟩
  · rintro ⟨v, h1, h2⟩
    refine ⟨q.1, List.mem_range.mpr (List.getElem?_eq_some_iff.mp h1).1, ?_⟩
    rw [h1]
    show some (q.1, aV ad v) = some q
    rw [← h2]
theorem lvL_at {ad : Nat → Nat} {L : List (Option AV)} {ls : Array Slot} {nL i : Nat} {v : AV} (h : lv_has ls nL (lvL ad L)) (hi : L[i]? = some (some v)) : ls[i]? = some (.val (aV ad v)) := h.2.2 (i, aV ad v) (lvL_mem.mpr ⟨v, hi, rfl⟩)
theorem aV_ext {ad ad' : Nat → Nat} {S : List Sh} {v : AV} (hv : okV S v) (h : ∀ k, k < S.length → ad' k = ad k) : aV ad' v = aV ad v := by
  rcases v with x | x | r
  · rfl
  · rfl
  · cases r with
    | none => rfl
    | some k => show va_rf (some (ad' k)) = va_rf (some (ad k)); rw [h k hv]
theorem lvL_ext {ad ad' : Nat → Nat} {S : List Sh} {L : List (Option AV)} (hv : okL S L) (h : ∀ k, k < S.length → ad' k = ad k) {ls : Array Slot} {nL : Nat} (hl : lv_has ls nL (lvL ad L)) : lv_has ls nL (lvL ad' L) := by
  refine ⟨hl.1, hl.2.1, fun q hq => ?_⟩
  obtain ⟨v, h1, h2⟩ := lvL_mem.mp hq
  rw [h2, aV_ext (hv _ _ h1) h]
  exact lvL_at hl h1
theorem stk_ext {ad ad' : Nat → Nat} {S : List Sh} {st : List AV} (hv : okS S st) (h : ∀ k, k < S.length → ad' k = ad k) : st.map (aV ad') = st.map (aV ad) := List.map_congr_left fun v hm => aV_ext (hv v hm) h
theorem okS_cons {S : List Sh} {v : AV} {st : List AV} : okS S (v :: st) ↔ okV S v ∧ okS S st := List.forall_mem_cons
/-- fewer places known -/
def lessL (L' L : List (Option AV)) : Prop := ∀ (i : Nat) (v : AV), L'[i]? = some (some v) → L[i]? = some (some v)
theorem lvL_less {ad : Nat → Nat} {L L' : List (Option AV)} {ls : Array Slot} {nL : Nat} (hl : lv_has ls nL (lvL ad L)) (h : lessL L' L) : lv_has ls nL (lvL ad L') := by
  refine ⟨hl.1, hl.2.1, fun q hq => ?_⟩
  obtain ⟨v, h1, h2⟩ := lvL_mem.mp hq
  rw [h2]
  exact lvL_at hl (h _ _ h1)
def catA : AV → Nat
  | .inr (.inl _) => 2
  | _ => 1
theorem aV_cat (ad : Nat → Nat) (v : AV) : (aV ad v).category = catA v := by
  rcases v with x | x | r
  · rfl
  · rfl
  · cases r <;> rfl
/-- the place ahead holds no long: a store here spoils nothing -/
def freeB (L : List (Option AV)) (i : Nat) : Bool := match i with
  | 0 => true
  | j + 1 => match L[j]? with
    | some (some v) => catA v == 1
    | _ => true
theorem freeB_spec {L : List (Option AV)} {i j : Nat} {v : AV} (h : freeB L i = true) (hj : j + 1 = i) (hv : L[j]? = some (some v)) : catA v = 1 := by
  subst hj
  simp only [freeB, hv] at h
  simpa using h
theorem lvL_set1 {ad : Nat → Nat} {L : List (Option AV)} {ls' : Array Slot} {nL i : Nat} {v : AV} (hf : freeB L i = true) (h : lv_has ls' nL ((i, aV ad v) :: (lvL ad L).filter (fun q => !(q.1 == i) && !(q.1 + 1 == i && q.2.category == 2)))) : lv_has ls' nL (lvL ad (L.set i (some v))) := by
  refine ⟨h.1, h.2.1, fun q hq => ?_⟩
  obtain ⟨w, h1, h2⟩ := lvL_mem.mp hq
  by_cases hi : q.1 = i
  · have hlt : i < L.length := by
      have := (List.getElem?_eq_some_iff.mp h1).1
      rw [List.length_set] at this
      omega
    rw [hi, List.getElem?_set_self hlt] at h1
    cases h1
    exact h.2.2 q (by rw [List.mem_cons]; left; exact Prod.ext hi h2)
  · rw [List.getElem?_set_ne (Ne.symm hi)] at h1
    refine h.2.2 q (List.mem_cons_of_mem _ (List.mem_filter.mpr ⟨lvL_mem.mpr ⟨w, h1, h2⟩, ?_⟩))
    have e2 : q.2.category = catA w := by rw [h2, aV_cat]
    by_cases hj : q.1 + 1 = i
    · have e3 := freeB_spec hf hj h1
      simp [hi, e2, e3]
    · simp [hi, hj]
theorem lvL_set2 {ad : Nat → Nat} {L : List (Option AV)} {ls' : Array Slot} {nL i : Nat} {v : AV} (hf : freeB L i = true) (hn : (L.set (i + 1) none)[i + 1]? = some none) (h : lv_has ls' nL ((i, aV ad v) :: (lvL ad L).filter (fun q => !(q.1 == i) && (!(q.1 == i + 1) && !(q.1 + 1 == i && q.2.category == 2))))) : lv_has ls' nL (lvL ad ((L.set (i + 1) none).set i (some v))) := by
  refine ⟨h.1, h.2.1, fun q hq => ?_⟩
  obtain ⟨w, h1, h2⟩ := lvL_mem.mp hq
  by_cases hi : q.1 = i
  · have hlt : i < (L.set (i + 1) none).length := by
      have := (List.getElem?_eq_some_iff.mp h1).1
      rw [List.length_set] at this
      omega
    rw [hi, List.getElem?_set_self hlt] at h1
    cases h1
    exact h.2.2 q (by rw [List.mem_cons]; left; exact Prod.ext hi h2)
  · rw [List.getElem?_set_ne (Ne.symm hi)] at h1
    have hi1 : ¬ q.1 = i + 1 := fun e => by rw [e, hn] at h1; cases h1
    rw [List.getElem?_set_ne (fun e => hi1 e.symm)] at h1
    refine h.2.2 q (List.mem_cons_of_mem _ (List.mem_filter.mpr ⟨lvL_mem.mpr ⟨w, h1, h2⟩, ?_⟩))
    have e2 : q.2.category = catA w := by rw [h2, aV_cat]
    by_cases hj : q.1 + 1 = i
    · have e3 := freeB_spec hf hj h1
      simp [hi, hi1, e2, e3]
    · simp [hi, hi1, hj]
theorem okL_set {S : List Sh} {L : List (Option AV)} {i : Nat} {v : AV} (h : okL S L) (hv : okV S v) : okL S (L.set i (some v)) := by
  intro j w hj
  by_cases hi : j = i
  · subst hi
    have hlt : j < L.length := by
      have := (List.getElem?_eq_some_iff.mp hj).1
      rwa [List.length_set] at this
    rw [List.getElem?_set_self hlt] at hj
    cases hj
    exact hv
  · rw [List.getElem?_set_ne (Ne.symm hi)] at hj
    exact h j w hj
theorem okL_clr {S : List Sh} {L : List (Option AV)} {i : Nat} (h : okL S L) : okL S (L.set i none) := by
  intro j w hj
  by_cases hi : j = i
  · subst hi
    have hlt : j < L.length := by
      have := (List.getElem?_eq_some_iff.mp hj).1
      rwa [List.length_set] at this
    rw [List.getElem?_set_self hlt] at hj
    cases hj
  · rw [List.getElem?_set_ne (Ne.symm hi)] at hj
    exact h j w hj
def rmD (D : MD) : Room := { frames := mV D + 1, cells := mC D, slots := mS D, locals := 64 * mV D + 64 }
def wsD (D : MD) : List Cond := .code (mY D) (mB D) (mN D) (mT D) :: tblG
/-- what stays fixed while a method is walked -/
def Cx (D : MD) (p : Program) (s : State) (m : MethodId) (args : Array Value) (meth : Method) (c : Code) (dC : Nat → ClassId) (dI : Nat → Nat → Nat) (dA : Nat → ClassId) (A : Nat → Prop) : Prop :=
  p.tables.exec = Jvm.exec ∧ c.code = mB D ∧ meth.sig.returnType = mT D ∧ meth.locks = false ∧ c.maxLocals = mN D ∧ s.vm.findClass (mY D).cls = some m.cls ∧ (∀ w ∈ tblG, w.before args s = true) ∧ va_K (dC, dI) vwCl (tysA dA) s ∧ meth.name = (mY D).name ∧ Ext A s s.heap
/-- a memory stands in a heap -/
def Wd (dC : Nat → ClassId) (dI : Nat → Nat → Nat) (dA : Nat → ClassId) (ad : Nat → Nat) (A : Nat → Prop) (M : Mem) (H : Heap) : Prop :=
  okM M ∧ va_P (dC, dI) vwCl (wld dA ad M) H ∧ va_D A (wld dA ad M)
def okO (S : List Sh) : Option AV → Prop
  | none => True
  | some v => okV S v
def QcA (dC : Nat → ClassId) (dI : Nat → Nat → Nat) (dA : Nat → ClassId) (ad0 : Nat → Nat) (n0 : Nat) (A : Nat → Prop) (Q : Option AV → Mem → Prop) : Array Value → State → Outcome → State → Prop := fun _ st o t =>
  ∃ (r : Option AV) (M : Mem) (ad : Nat → Nat), o = .returned (r.map (aV ad)) ∧ Q r M ∧ okO M.1 r ∧ (∀ k, k < n0 → ad k = ad0 k) ∧ n0 ≤ M.1.length ∧ Wd dC dI dA ad A M t.heap ∧ va_K (dC, dI) vwCl (tysA dA) t ∧ va_F A st t
def VC (l : Launch) (D : MD) (pc : Nat) (L : List (Option AV)) (st : List AV) (M : Mem) (kc ks : Nat) (Q : Option AV → Mem → Prop) : Prop :=
  ∀ (p : Program) (e : Env) (s : State) (m : MethodId) (args : Array Value) (below : List Frame) (meth : Method) (c : Code) (dC : Nat → ClassId) (dI : Nat → Nat → Nat) (dA : Nat → ClassId) (ad0 : Nat → Nat) (n0 : Nat) (A : Nat → Prop) (ad : Nat → Nat) (H : Heap) (locs : List Loc) (ls : Array Slot),
    Cx D p s m args meth c dC dI dA A → (∀ q, s.heap.size ≤ q → A q) → (∀ k, k < n0 → ad k = ad0 k) → n0 ≤ M.1.length → okS M.1 st → okL M.1 L → Wd dC dI dA ad A M H → va_S A s.heap H locs → lv_has ls (mN D) (lvL ad L) →
    W p l e (rmD D) s m args below meth c H locs kc ks (MQ below (QcA dC dI dA ad0 n0 A Q) args s (mC D) (mS D) A) (F0 m pc ls (st.map (aV ad)))
def PcA (dC : Nat → ClassId) (dI : Nat → Nat → Nat) (dA : Nat → ClassId) (ad : Nat → Nat) (sz : Nat) (as : List AV) (M : Mem) : Array Value → State → Prop :=
  va_Pc (as.map (aV ad)) (fun U => U.heap.size = sz ∧ Wd dC dI dA ad (fun _ => True) M U.heap ∧ va_K (dC, dI) vwCl (tysA dA) U ∧ Ext (va_A (wld dA ad M) sz) U U.heap)
/-- a call of D with these answers and this memory behind it -/
def Call (l : Launch) (D : MD) (as : List AV) (M : Mem) (Q : Option AV → Mem → Prop) : Prop :=
  ∀ (dC : Nat → ClassId) (dI : Nat → Nat → Nat) (dA : Nat → ClassId) (ad : Nat → Nat) (sz : Nat), okS M.1 as →
    Met l (mY D) (wsD D) (rmD D) (PcA dC dI dA ad sz as M) (QcA dC dI dA ad M.1.length (va_A (wld dA ad M) sz) Q) (mC D) (mS D) (va_A (wld dA ad M) sz)
def slA : List AV → List (Option AV)
  | [] => []
  | v :: vs => (if catA v = 2 then [some v, none] else [some v]) ++ slA vs
def entA (as : List AV) (n : Nat) : List (Option AV) := slA as ++ List.replicate (n - (slA as).length) none
theorem slA_len (ad : Nat → Nat) (as : List AV) : (lg_sl (as.map (aV ad))).length = (slA as).length := by
  induction as with
  | nil => rfl
  | cons v vs ih =>
    simp only [lg_sl, List.map_cons, List.flatMap_cons, List.length_append, slA] at ih ⊢
    rw [ih, aV_cat]
    by_cases h : catA v = 2 <;> simp [h]
theorem slA_at (ad : Nat → Nat) : ∀ (as : List AV) (b i : Nat) (v : AV), (slA as)[i]? = some (some v) → (b + i, aV ad v) ∈ lv_args b (as.map (aV ad))
  | [], b, i, v, h => by simp [slA] at h
  | w :: vs, b, i, v, h => by
    simp only [slA] at h
    simp only [List.map_cons, lv_args, aV_cat]
    by_cases hc : catA w = 2
    · rw [if_pos hc] at h ⊢
      match i, h with
      | 0, h => cases h; exact List.mem_cons_self
      | 1, h => cases h
      | i + 2, h =>
        have := slA_at ad vs (b + 2) i v (by simpa using h)
        rw [show b + (i + 2) = b + 2 + i by omega]
        exact List.mem_cons_of_mem _ this
    · rw [if_neg hc] at h ⊢
      match i, h with
      | 0, h => cases h; exact List.mem_cons_self
      | i + 1, h =>
        have := slA_at ad vs (b + 1) i v (by simpa using h)
        rw [show b + (i + 1) = b + 1 + i by omega]
        exact List.mem_cons_of_mem _ this
theorem entA_at {as : List AV} {n i : Nat} {v : AV} (h : (entA as n)[i]? = some (some v)) : (slA as)[i]? = some (some v) := by
  unfold entA at h
  by_cases hl : i < (slA as).length
  · rwa [List.getElem?_append_left hl] at h
  · rw [List.getElem?_append_right (by omega), List.getElem?_replicate] at h
    split at h <;> cases h
theorem slA_mem : ∀ (as : List AV) (i : Nat) (v : AV), (slA as)[i]? = some (some v) → v ∈ as
  | [], i, v, h => by simp [slA] at h
  | w :: vs, i, v, h => by
    simp only [slA] at h
    by_cases hc : catA w = 2
    · rw [if_pos hc] at h
      match i, h with
      | 0, h => cases h; exact List.mem_cons_self
      | 1, h => cases h
      | i + 2, h => exact List.mem_cons_of_mem _ (slA_mem vs i v (by simpa using h))
    · rw [if_neg hc] at h
      match i, h with
      | 0, h => cases h; exact List.mem_cons_self
      | i + 1, h => exact List.mem_cons_of_mem _ (slA_mem vs i v (by simpa using h))
theorem Call.of {l : Launch} {D : MD} {as : List AV} {M : Mem} {Q : Option AV → Mem → Prop} (L : List (Option AV)) (hy : plainName (mY D).cls = true) (hn : (slA as).length ≤ mN D) (hL : entA as (mN D) = L) (h : VC l D 0 L [] M 0 0 Q) : Call l D as M Q := by
  intro dC dI dA ad sz hok
  refine Met.ofW (cc := mB D) (maxL := mN D) (ret := mT D) hy rfl ?_
  intro p e s m args below meth c s₁ B hml hv
  obtain ⟨rfl, hsz, ⟨hM, hP, hD⟩, hK, hE⟩ := hv
  have hts : ∀ w ∈ wsD D, w.before _ s = true := atoms_spec (ws := wsD D) B.pre
  subst hsz
  have hcx : Cx D p s m (as.map (aV ad)).toArray meth c dC dI dA (va_A (wld dA ad M) s.heap.size) := ⟨B.exec, B.bytes, B.returns, B.notSynchronized, hml, findClass_of_methodNamed B.named, fun w hw => hts w (List.mem_cons_of_mem _ hw), hK, (name_of_methodNamed B.named B.method).1, hE⟩
  have hlv : lv_has ((lg_sl (as.map (aV ad)) ++ List.replicate (mN D - (lg_sl (as.map (aV ad))).length) Slot.unset).toArray) (mN D) (lvL ad L) := by
    have h1 := lv_entry (as.map (aV ad)) (n := mN D) (by rw [slA_len]; exact hn)
    refine ⟨h1.1, h1.2.1, fun q hq => ?_⟩
    obtain ⟨v, h2, h3⟩ := lvL_mem.mp hq
    rw [← hL] at h2
    have h4 := slA_at ad as 0 q.1 v (entA_at h2)
    rw [h3]
    have h5 := h1.2.2 _ h4
    simpa using h5
  rw [lg_entry_eq]
  exact h p e s m _ below meth c dC dI dA ad M.1.length (va_A (wld dA ad M) s.heap.size) ad s.heap [] _ hcx (fun q hq => Or.inr hq) (fun _ _ => rfl) (Nat.le_refl _) (fun v hv => by cases hv) (fun i v hv => by rw [← hL] at hv; exact hok v (slA_mem as i v (entA_at hv))) ⟨hM, hP, hD.self⟩ va_S.rf hlv
