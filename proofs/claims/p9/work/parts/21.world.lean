/-! THE WORLD that a memory stands for, and the judgement VC: from this abstract state the method comes to its end with Q. -/
def aV (ad : Nat → Nat) : AV → Value
  | .inl x => .int (Int32.ofInt x)
  | .inr (.inl x) => .long (Int64.ofInt x)
  | .inr (.inr r) => va_rf (r.map ad)
def tyC (ci : Nat) : Nat → FieldType := match ci with
  | 0 => tyX0 | 1 => tyX1 | 2 => tyX2 | 3 => tyX3 | 4 => tyX4 | 5 => tyX5 | 6 => tyX6 | 7 => tyX7 | 8 => tyX8 | 9 => tyX9 | 10 => tyX10 | 11 => tyX11 | _ => tyX12
def nFC (ci : Nat) : Nat := match vwCl[ci]? with
  | some q => q.2.2
  | none => 0
/-- what a place of a cell holds, by its type -/
def fV (ad : Nat → Nat) (M : Mem) (k j : Nat) (ty : FieldType) : Value := match ty with
  | .long => .long (Int64.ofInt (mJ M k j))
  | .object _ => va_rf ((mR M k j).map ad)
  | .array _ => va_rf ((mR M k j).map ad)
  | _ => .int (Int32.ofInt (mI M k j))
def tyA (t : Nat) : FieldType := match t with
  | 0 => .int
  | 1 => .long
  | 2 => .boolean
  | _ => .object "SecondLeft$Text"
def arA (ad : Nat → Nat) (M : Mem) (k t : Nat) : (Nat → Int32) ⊕ (Nat → Int64) ⊕ (Nat → UInt32) ⊕ (Nat → UInt64) ⊕ (Nat → Option Nat) := match t with
  | 0 => .inl (fun i => Int32.ofInt (mI M k i))
  | 1 => .inr (.inl (fun i => Int64.ofInt (mJ M k i)))
  | 2 => .inl (fun i => Int32.ofInt (mI M k i))
  | _ => .inr (.inr (.inr (.inr (fun i => (mR M k i).map ad))))
def flC (ad : Nat → Nat) (M : Mem) (k ci : Nat) : List Value := (List.range (nFC ci)).map (fun j => fV ad M k j (tyC ci j))
def cellW (dA : Nat → ClassId) (ad : Nat → Nat) (M : Mem) (k : Nat) (sh : Sh) : va_E := match sh with
  | .inl ci => .inr (ci, flC ad M k ci)
  | .inr (t, n) => .inl (dA t, n, arA ad M k t)
def wld (dA : Nat → ClassId) (ad : Nat → Nat) (M : Mem) : va_W := M.1.mapIdx (fun k sh => (ad k, cellW dA ad M k sh))
def tysA (dA : Nat → ClassId) : List (ClassId × FieldType) := [(dA 0, tyA 0), (dA 1, tyA 1), (dA 2, tyA 2), (dA 3, tyA 3)]
theorem wld_at {dA : Nat → ClassId} {ad : Nat → Nat} {M : Mem} {k : Nat} {sh : Sh} (h : M.1[k]? = some sh) : (wld dA ad M)[k]? = some (ad k, cellW dA ad M k sh) := by
  unfold wld
  rw [List.getElem?_mapIdx, h]
  rfl
theorem wld_get {dA : Nat → ClassId} {ad : Nat → Nat} {M : Mem} {k : Nat} {q : Nat × va_E} (h : (wld dA ad M)[k]? = some q) : ∃ sh, M.1[k]? = some sh ∧ q = (ad k, cellW dA ad M k sh) := by
  unfold wld at h
  rw [List.getElem?_mapIdx] at h
  cases hs : M.1[k]? with
  | none => rw [hs] at h; cases h
  | some sh => rw [hs] at h; exact ⟨sh, rfl, (Option.some.inj h).symm⟩
theorem wld_len {dA : Nat → ClassId} {ad : Nat → Nat} {M : Mem} : (wld dA ad M).length = M.1.length := by unfold wld; simp
/-- a value is in its range, a cell's number is one of the memory's -/
def okV (S : List Sh) : AV → Prop
  | .inl x => inI x
  | .inr (.inl x) => inL x
  | .inr (.inr none) => True
  | .inr (.inr (some k)) => k < S.length
def okM (M : Mem) : Prop := ∀ k j, inI (mI M k j) ∧ inL (mJ M k j) ∧ ∀ r, mR M k j = some r → r < M.1.length
def okS (S : List Sh) (st : List AV) : Prop := ∀ v ∈ st, okV S v
def okL (S : List Sh) (L : List (Option AV)) : Prop := ∀ (i : Nat) (v : AV), L[i]? = some (some v) → okV S v
def lvL (ad : Nat → Nat) (L : List (Option AV)) : List (Nat × Value) := (List.range L.length).filterMap (fun i => (L[i]?.join).map (fun v => (i, aV ad v)))
theorem lvL_mem {ad : Nat → Nat} {L : List (Option AV)} {q : Nat × Value} : q ∈ lvL ad L ↔ ∃ v, L[q.1]? = some (some v) ∧ q.2 = aV ad v := by
  unfold lvL
  rw [List.mem_filterMap]
  constructor
  · rintro ⟨i, -, h⟩
    cases h2 : L[i]? with
    | none => rw [h2] at h; cases h
    | some o =>
      cases o with
      | none => rw [h2] at h; cases h
      | some v =>
        rw [h2] at h
        have e := (Option.some.inj h).symm
        subst e
        exact ⟨v, h2, rfl⟩
  · rintro ⟨v, h1, h2⟩
    refine ⟨q.1, List.mem_range.mpr (List.getElem?_eq_some_iff.mp h1).1, ?_⟩
    rw [h1]
    show some (q.1, aV ad v) = some q
    rw [← h2]
theorem lvL_at {ad : Nat → Nat} {L : List (Option AV)} {ls : Array Slot} {nL i : Nat} {v : AV} (h : lv_has ls nL (lvL ad L)) (hi : L[i]? = some (some v)) : ls[i]? = some (.val (aV ad v)) := h.2.2 (i, aV ad v) (lvL_mem.mpr ⟨v, hi, rfl⟩)
theorem aV_ext {ad ad' : Nat → Nat} {S : List Sh} {v : AV} (hv : okV S v) (h : ∀ k, k < S.length → ad' k = ad k) : aV ad' v = aV ad v := by
  rcases v with x | x | r
  · rfl
  · rfl
  · cases r with
    | none => rfl
    | some k => show va_rf (some (ad' k)) = va_rf (some (ad k)); rw [h k hv]
theorem lvL_ext {ad ad' : Nat → Nat} {S : List Sh} {L : List (Option AV)} (hv : okL S L) (h : ∀ k, k < S.length → ad' k = ad k) {ls : Array Slot} {nL : Nat} (hl : lv_has ls nL (lvL ad L)) : lv_has ls nL (lvL ad' L) := by
  refine ⟨hl.1, hl.2.1, fun q hq => ?_⟩
  obtain ⟨v, h1, h2⟩ := lvL_mem.mp hq
  rw [h2, aV_ext (hv _ _ h1) h]
  exact lvL_at hl h1
theorem stk_ext {ad ad' : Nat → Nat} {S : List Sh} {st : List AV} (hv : okS S st) (h : ∀ k, k < S.length → ad' k = ad k) : st.map (aV ad') = st.map (aV ad) := List.map_congr_left fun v hm => aV_ext (hv v hm) h
theorem okS_cons {S : List Sh} {v : AV} {st : List AV} : okS S (v :: st) ↔ okV S v ∧ okS S st := List.forall_mem_cons
/-- fewer places known -/
def lessL (L' L : List (Option AV)) : Prop := ∀ (i : Nat) (v : AV), L'[i]? = some (some v) → L[i]? = some (some v)
theorem lvL_less {ad : Nat → Nat} {L L' : List (Option AV)} {ls : Array Slot} {nL : Nat} (hl : lv_has ls nL (lvL ad L)) (h : lessL L' L) : lv_has ls nL (lvL ad L') := by
  refine ⟨hl.1, hl.2.1, fun q hq => ?_⟩
  obtain ⟨v, h1, h2⟩ := lvL_mem.mp hq
  rw [h2]
  exact lvL_at hl (h _ _ h1)
def catA : AV → Nat
  | .inr (.inl _) => 2
  | _ => 1
theorem aV_cat (ad : Nat → Nat) (v : AV) : (aV ad v).category = catA v := by
  rcases v with x | x | r
  · rfl
  · rfl
  · cases r <;> rfl
/-- the place ahead holds no long: a store here spoils nothing -/
def freeB (L : List (Option AV)) (i : Nat) : Bool := match i with
  | 0 => true
  | j + 1 => match L[j]? with
    | some (some v) => catA v == 1
    | _ => true
theorem freeB_spec {L : List (Option AV)} {i j : Nat} {v : AV} (h : freeB L i = true) (hj : j + 1 = i) (hv : L[j]? = some (some v)) : catA v = 1 := by
  subst hj
  simp only [freeB, hv] at h
  simpa using h
theorem lvL_set1 {ad : Nat → Nat} {L : List (Option AV)} {ls' : Array Slot} {nL i : Nat} {v : AV} (hf : freeB L i = true) (h : lv_has ls' nL ((i, aV ad v) :: (lvL ad L).filter (fun q => !(q.1 == i) && !(q.1 + 1 == i && q.2.category == 2)))) : lv_has ls' nL (lvL ad (L.set i (some v))) := by
  refine ⟨h.1, h.2.1, fun q hq => ?_⟩
  obtain ⟨w, h1, h2⟩ := lvL_mem.mp hq
  by_cases hi : q.1 = i
  · have hlt : i < L.length := by
      have := (List.getElem?_eq_some_iff.mp h1).1
      rw [List.length_set] at this
      omega
    rw [hi, List.getElem?_set_self hlt] at h1
    cases h1
    exact h.2.2 q (by rw [List.mem_cons]; left; exact Prod.ext hi h2)
  · rw [List.getElem?_set_ne (Ne.symm hi)] at h1
    refine h.2.2 q (List.mem_cons_of_mem _ (List.mem_filter.mpr ⟨lvL_mem.mpr ⟨w, h1, h2⟩, ?_⟩))
    have e2 : q.2.category = catA w := by rw [h2, aV_cat]
    by_cases hj : q.1 + 1 = i
    · have e3 := freeB_spec hf hj h1
      simp [hi, e2, e3]
    · simp [hi, hj]
theorem lvL_set2 {ad : Nat → Nat} {L : List (Option AV)} {ls' : Array Slot} {nL i : Nat} {v : AV} (hf : freeB L i = true) (hn : (L.set (i + 1) none)[i + 1]? = some none) (h : lv_has ls' nL ((i, aV ad v) :: (lvL ad L).filter (fun q => !(q.1 == i) && (!(q.1 == i + 1) && !(q.1 + 1 == i && q.2.category == 2))))) : lv_has ls' nL (lvL ad ((L.set (i + 1) none).set i (some v))) := by
  refine ⟨h.1, h.2.1, fun q hq => ?_⟩
  obtain ⟨w, h1, h2⟩ := lvL_mem.mp hq
  by_cases hi : q.1 = i
  · have hlt : i < (L.set (i + 1) none).length := by
      have := (List.getElem?_eq_some_iff.mp h1).1
      rw [List.length_set] at this
      omega
    rw [hi, List.getElem?_set_self hlt] at h1
    cases h1
    exact h.2.2 q (by rw [List.mem_cons]; left; exact Prod.ext hi h2)
  · rw [List.getElem?_set_ne (Ne.symm hi)] at h1
    have hi1 : ¬ q.1 = i + 1 := fun e => by rw [e, hn] at h1; cases h1
    rw [List.getElem?_set_ne (fun e => hi1 e.symm)] at h1
    refine h.2.2 q (List.mem_cons_of_mem _ (List.mem_filter.mpr ⟨lvL_mem.mpr ⟨w, h1, h2⟩, ?_⟩))
    have e2 : q.2.category = catA w := by rw [h2, aV_cat]
    by_cases hj : q.1 + 1 = i
    · have e3 := freeB_spec hf hj h1
      simp [hi, hi1, e2, e3]
    · simp [hi, hi1, hj]
theorem okL_set {S : List Sh} {L : List (Option AV)} {i : Nat} {v : AV} (h : okL S L) (hv : okV S v) : okL S (L.set i (some v)) := by
  intro j w hj
  by_cases hi : j = i
  · subst hi
    have hlt : j < L.length := by
      have := (List.getElem?_eq_some_iff.mp hj).1
      rwa [List.length_set] at this
    rw [List.getElem?_set_self hlt] at hj
    cases hj
    exact hv
  · rw [List.getElem?_set_ne (Ne.symm hi)] at hj
    exact h j w hj
theorem okL_clr {S : List Sh} {L : List (Option AV)} {i : Nat} (h : okL S L) : okL S (L.set i none) := by
  intro j w hj
  by_cases hi : j = i
  · subst hi
    have hlt : j < L.length := by
      have := (List.getElem?_eq_some_iff.mp hj).1
      rwa [List.length_set] at this
    rw [List.getElem?_set_self hlt] at hj
    cases hj
  · rw [List.getElem?_set_ne (Ne.symm hi)] at hj
    exact h j w hj
