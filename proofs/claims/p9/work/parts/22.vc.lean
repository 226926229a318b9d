def rmD (D : MD) : Room := { frames := mV D + 1, cells := mC D, slots := mS D, locals := 64 * mV D + 64 }
def wsD (D : MD) : List Cond := .code (mY D) (mB D) (mN D) (mT D) :: tblG
/-- what stays fixed while a method is walked -/
def Cx (D : MD) (p : Program) (s : State) (m : MethodId) (args : Array Value) (meth : Method) (c : Code) (dC : Nat → ClassId) (dI : Nat → Nat → Nat) (dA : Nat → ClassId) (A : Nat → Prop) : Prop :=
  p.tables.exec = Jvm.exec ∧ c.code = mB D ∧ meth.sig.returnType = mT D ∧ meth.locks = false ∧ c.maxLocals = mN D ∧ s.vm.findClass (mY D).cls = some m.cls ∧ (∀ w ∈ tblG, w.before args s = true) ∧ va_K (dC, dI) vwCl (tysA dA) s ∧ meth.name = (mY D).name ∧ Ext A s s.heap
/-- a memory stands in a heap -/
def Wd (dC : Nat → ClassId) (dI : Nat → Nat → Nat) (dA : Nat → ClassId) (ad : Nat → Nat) (A : Nat → Prop) (M : Mem) (H : Heap) : Prop :=
  okM M ∧ va_P (dC, dI) vwCl (wld dA ad M) H ∧ va_D A (wld dA ad M)
def okO (S : List Sh) : Option AV → Prop
  | none => True
  | some v => okV S v
def QcA (dC : Nat → ClassId) (dI : Nat → Nat → Nat) (dA : Nat → ClassId) (ad0 : Nat → Nat) (n0 : Nat) (A : Nat → Prop) (Q : Option AV → Mem → Prop) : Array Value → State → Outcome → State → Prop := fun _ st o t =>
  ∃ (r : Option AV) (M : Mem) (ad : Nat → Nat), o = .returned (r.map (aV ad)) ∧ Q r M ∧ okO M.1 r ∧ (∀ k, k < n0 → ad k = ad0 k) ∧ n0 ≤ M.1.length ∧ Wd dC dI dA ad A M t.heap ∧ va_K (dC, dI) vwCl (tysA dA) t ∧ va_F A st t
def VC (l : Launch) (D : MD) (pc : Nat) (L : List (Option AV)) (st : List AV) (M : Mem) (kc ks : Nat) (Q : Option AV → Mem → Prop) : Prop :=
  ∀ (p : Program) (e : Env) (s : State) (m : MethodId) (args : Array Value) (below : List Frame) (meth : Method) (c : Code) (dC : Nat → ClassId) (dI : Nat → Nat → Nat) (dA : Nat → ClassId) (ad0 : Nat → Nat) (n0 : Nat) (A : Nat → Prop) (ad : Nat → Nat) (H : Heap) (locs : List Loc) (ls : Array Slot),
    Cx D p s m args meth c dC dI dA A → (∀ q, s.heap.size ≤ q → A q) → (∀ k, k < n0 → ad k = ad0 k) → n0 ≤ M.1.length → okS M.1 st → okL M.1 L → Wd dC dI dA ad A M H → va_S A s.heap H locs → lv_has ls (mN D) (lvL ad L) →
    W p l e (rmD D) s m args below meth c H locs kc ks (MQ below (QcA dC dI dA ad0 n0 A Q) args s (mC D) (mS D) A) (F0 m pc ls (st.map (aV ad)))
def PcA (dC : Nat → ClassId) (dI : Nat → Nat → Nat) (dA : Nat → ClassId) (ad : Nat → Nat) (sz : Nat) (as : List AV) (M : Mem) : Array Value → State → Prop :=
  va_Pc (as.map (aV ad)) (fun U => U.heap.size = sz ∧ Wd dC dI dA ad (fun _ => True) M U.heap ∧ va_K (dC, dI) vwCl (tysA dA) U ∧ Ext (va_A (wld dA ad M) sz) U U.heap)
/-- a call of D with these answers and this memory behind it -/
def Call (l : Launch) (D : MD) (as : List AV) (M : Mem) (Q : Option AV → Mem → Prop) : Prop :=
  ∀ (dC : Nat → ClassId) (dI : Nat → Nat → Nat) (dA : Nat → ClassId) (ad : Nat → Nat) (sz : Nat), okS M.1 as →
    Met l (mY D) (wsD D) (rmD D) (PcA dC dI dA ad sz as M) (QcA dC dI dA ad M.1.length (va_A (wld dA ad M) sz) Q) (mC D) (mS D) (va_A (wld dA ad M) sz)
def slA : List AV → List (Option AV)
  | [] => []
  | v :: vs => (if catA v = 2 then [some v, none] else [some v]) ++ slA vs
def entA (as : List AV) (n : Nat) : List (Option AV) := slA as ++ List.replicate (n - (slA as).length) none
theorem slA_len (ad : Nat → Nat) (as : List AV) : (lg_sl (as.map (aV ad))).length = (slA as).length := by
  induction as with
  | nil => rfl
  | cons v vs ih =>
    simp only [lg_sl, List.map_cons, List.flatMap_cons, List.length_append, slA] at ih ⊢
    rw [ih, aV_cat]
    by_cases h : catA v = 2 <;> simp [h]
theorem slA_at (ad : Nat → Nat) : ∀ (as : List AV) (b i : Nat) (v : AV), (slA as)[i]? = some (some v) → (b + i, aV ad v) ∈ lv_args b (as.map (aV ad))
  | [], b, i, v, h => by simp [slA] at h
  | w :: vs, b, i, v, h => by
    simp only [slA] at h
    simp only [List.map_cons, lv_args, aV_cat]
    by_cases hc : catA w = 2
    · rw [if_pos hc] at h ⊢
      match i, h with
      | 0, h => cases h; exact List.mem_cons_self
      | 1, h => cases h
      | i + 2, h =>
        have := slA_at ad vs (b + 2) i v (by simpa using h)
        rw [show b + (i + 2) = b + 2 + i by omega]
        exact List.mem_cons_of_mem _ this
    · rw [if_neg hc] at h ⊢
      match i, h with
      | 0, h => cases h; exact List.mem_cons_self
      | i + 1, h =>
        have := slA_at ad vs (b + 1) i v (by simpa using h)
        rw [show b + (i + 1) = b + 1 + i by omega]
        exact List.mem_cons_of_mem _ this
theorem entA_at {as : List AV} {n i : Nat} {v : AV} (h : (entA as n)[i]? = some (some v)) : (slA as)[i]? = some (some v) := by
  unfold entA at h
  by_cases hl : i < (slA as).length
  · rwa [List.getElem?_append_left hl] at h
  · rw [List.getElem?_append_right (by omega), List.getElem?_replicate] at h
    split at h <;> cases h
theorem slA_mem : ∀ (as : List AV) (i : Nat) (v : AV), (slA as)[i]? = some (some v) → v ∈ as
  | [], i, v, h => by simp [slA] at h
  | w :: vs, i, v, h => by
    simp only [slA] at h
    by_cases hc : catA w = 2
    · rw [if_pos hc] at h
      match i, h with
      | 0, h => cases h; exact List.mem_cons_self
      | 1, h => cases h
      | i + 2, h => exact List.mem_cons_of_mem _ (slA_mem vs i v (by simpa using h))
    · rw [if_neg hc] at h
      match i, h with
      | 0, h => cases h; exact List.mem_cons_self
      | i + 1, h => exact List.mem_cons_of_mem _ (slA_mem vs i v (by simpa using h))
theorem Call.of {l : Launch} {D : MD} {as : List AV} {M : Mem} {Q : Option AV → Mem → Prop} (L : List (Option AV)) (hy : plainName (mY D).cls = true) (hn : (slA as).length ≤ mN D) (hL : entA as (mN D) = L) (h : VC l D 0 L [] M 0 0 Q) : Call l D as M Q := by
  intro dC dI dA ad sz hok
  refine Met.ofW (cc := mB D) (maxL := mN D) (ret := mT D) hy rfl ?_
  intro p e s m args below meth c s₁ B hml hv
  obtain ⟨rfl, hsz, ⟨hM, hP, hD⟩, hK, hE⟩ := hv
  have hts : ∀ w ∈ wsD D, w.before _ s = true := atoms_spec (ws := wsD D) B.pre
  subst hsz
  have hcx : Cx D p s m (as.map (aV ad)).toArray meth c dC dI dA (va_A (wld dA ad M) s.heap.size) := ⟨B.exec, B.bytes, B.returns, B.notSynchronized, hml, findClass_of_methodNamed B.named, fun w hw => hts w (List.mem_cons_of_mem _ hw), hK, (name_of_methodNamed B.named B.method).1, hE⟩
  have hlv : lv_has ((lg_sl (as.map (aV ad)) ++ List.replicate (mN D - (lg_sl (as.map (aV ad))).length) Slot.unset).toArray) (mN D) (lvL ad L) := by
    have h1 := lv_entry (as.map (aV ad)) (n := mN D) (by rw [slA_len]; exact hn)
    refine ⟨h1.1, h1.2.1, fun q hq => ?_⟩
    obtain ⟨v, h2, h3⟩ := lvL_mem.mp hq
    rw [← hL] at h2
    have h4 := slA_at ad as 0 q.1 v (entA_at h2)
    rw [h3]
    have h5 := h1.2.2 _ h4
    simpa using h5
  rw [lg_entry_eq]
  exact h p e s m _ below meth c dC dI dA ad M.1.length (va_A (wld dA ad M) s.heap.size) ad s.heap [] _ hcx (fun q hq => Or.inr hq) (fun _ _ => rfl) (Nat.le_refl _) (fun v hv => by cases hv) (fun i v hv => by rw [← hL] at hv; exact hok v (slA_mem as i v (entA_at hv))) ⟨hM, hP, hD.self⟩ va_S.rf hlv
