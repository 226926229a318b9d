/-! VC ROWS that touch the heap. -/
theorem mI_sI (M : Mem) (k j : Nat) (v : Int) (a b : Nat) : mI (sI M k j v) a b = if a = k ∧ b = j then v else mI M a b := rfl
theorem mJ_sI (M : Mem) (k j : Nat) (v : Int) (a b : Nat) : mJ (sI M k j v) a b = mJ M a b := rfl
theorem mR_sI (M : Mem) (k j : Nat) (v : Int) (a b : Nat) : mR (sI M k j v) a b = mR M a b := rfl
theorem mI_sJ (M : Mem) (k j : Nat) (v : Int) (a b : Nat) : mI (sJ M k j v) a b = mI M a b := rfl
theorem mJ_sJ (M : Mem) (k j : Nat) (v : Int) (a b : Nat) : mJ (sJ M k j v) a b = if a = k ∧ b = j then v else mJ M a b := rfl
theorem mR_sJ (M : Mem) (k j : Nat) (v : Int) (a b : Nat) : mR (sJ M k j v) a b = mR M a b := rfl
theorem mI_sR (M : Mem) (k j : Nat) (v : Option Nat) (a b : Nat) : mI (sR M k j v) a b = mI M a b := rfl
theorem mJ_sR (M : Mem) (k j : Nat) (v : Option Nat) (a b : Nat) : mJ (sR M k j v) a b = mJ M a b := rfl
theorem mR_sR (M : Mem) (k j : Nat) (v : Option Nat) (a b : Nat) : mR (sR M k j v) a b = if a = k ∧ b = j then v else mR M a b := rfl
theorem okM_sI {M : Mem} {k j : Nat} {v : Int} (h : okM M) (hv : inI v) : okM (sI M k j v) := by
  intro a b
  refine ⟨?_, (h a b).2.1, (h a b).2.2⟩
  rw [mI_sI]
  split
  · exact hv
  · exact (h a b).1
theorem okM_sJ {M : Mem} {k j : Nat} {v : Int} (h : okM M) (hv : inL v) : okM (sJ M k j v) := by
  intro a b
  refine ⟨(h a b).1, ?_, (h a b).2.2⟩
  rw [mJ_sJ]
  split
  · exact hv
  · exact (h a b).2.1
theorem okM_sR {M : Mem} {k j : Nat} {v : Option Nat} (h : okM M) (hv : ∀ r, v = some r → r < M.1.length) : okM (sR M k j v) := by
  intro a b
  refine ⟨(h a b).1, (h a b).2.1, fun r hr => ?_⟩
  rw [mR_sR] at hr
  split at hr
  · exact hv r hr
  · exact (h a b).2.2 r hr
theorem fV_cong {ad : Nat → Nat} {M M' : Mem} {k j : Nat} (h1 : mI M' k j = mI M k j) (h2 : mJ M' k j = mJ M k j) (h3 : mR M' k j = mR M k j) (ty : FieldType) : fV ad M' k j ty = fV ad M k j ty := by
  unfold fV
  rw [h1, h2, h3]
theorem cellW_cong {dA : Nat → ClassId} {ad : Nat → Nat} {M M' : Mem} {k : Nat} (h1 : ∀ j, mI M' k j = mI M k j) (h2 : ∀ j, mJ M' k j = mJ M k j) (h3 : ∀ j, mR M' k j = mR M k j) (sh : Sh) : cellW dA ad M' k sh = cellW dA ad M k sh := by
  rcases sh with ci | ⟨t, n⟩
  · show Sum.inr (ci, flC ad M' k ci) = Sum.inr (ci, flC ad M k ci)
    unfold flC
    rw [List.map_congr_left (fun j _ => fV_cong (h1 j) (h2 j) (h3 j) (tyC ci j))]
  · show Sum.inl (dA t, n, arA ad M' k t) = Sum.inl (dA t, n, arA ad M k t)
    unfold arA
    simp only [h1, h2, h3]
theorem wld_upd {dA : Nat → ClassId} {ad : Nat → Nat} {M M' : Mem} {k : Nat} {sh : Sh} {e : va_E} (hS : M'.1 = M.1) (hs : M.1[k]? = some sh) (h1 : ∀ i j, i ≠ k → mI M' i j = mI M i j) (h2 : ∀ i j, i ≠ k → mJ M' i j = mJ M i j) (h3 : ∀ i j, i ≠ k → mR M' i j = mR M i j) (he : cellW dA ad M' k sh = e) : wld dA ad M' = (wld dA ad M).set k (ad k, e) := by
  apply List.ext_getElem?
  intro i
  have hlt : k < (wld dA ad M).length := by rw [wld_len]; exact (List.getElem?_eq_some_iff.mp hs).1
  by_cases hi : i = k
  · subst hi
    rw [List.getElem?_set_self hlt, wld_at (by rw [hS]; exact hs), he]
  · rw [List.getElem?_set_ne (Ne.symm hi)]
    unfold wld
    rw [List.getElem?_mapIdx, List.getElem?_mapIdx, hS]
    cases M.1[i]? with
    | none => rfl
    | some sh2 =>
      show some (ad i, cellW dA ad M' i sh2) = some (ad i, cellW dA ad M i sh2)
      rw [cellW_cong (fun j => h1 i j hi) (fun j => h2 i j hi) (fun j => h3 i j hi)]
theorem flC_at {ad : Nat → Nat} {M : Mem} {k ci j : Nat} (hj : j < nFC ci) : (flC ad M k ci)[j]? = some (fV ad M k j (tyC ci j)) := by
  unfold flC
  rw [List.getElem?_map, List.getElem?_range hj]
  rfl
theorem flC_len {ad : Nat → Nat} {M : Mem} {k ci : Nat} : (flC ad M k ci).length = nFC ci := by unfold flC; simp
theorem flC_set {ad : Nat → Nat} {M M' : Mem} {k ci j : Nat} {v : Value} (hj : j < nFC ci) (h1 : fV ad M' k j (tyC ci j) = v) (h2 : ∀ i, i ≠ j → mI M' k i = mI M k i ∧ mJ M' k i = mJ M k i ∧ mR M' k i = mR M k i) : flC ad M' k ci = (flC ad M k ci).set j v := by
  apply List.ext_getElem?
  intro i
  by_cases hi : i = j
  · subst hi
    rw [List.getElem?_set_self (by rw [flC_len]; exact hj), flC_at hj, h1]
  · rw [List.getElem?_set_ne (Ne.symm hi)]
    unfold flC
    rw [List.getElem?_map, List.getElem?_map]
    by_cases hl : i < nFC ci
    · rw [List.getElem?_range hl]
      show some (fV ad M' k i (tyC ci i)) = some (fV ad M k i (tyC ci i))
      rw [fV_cong (h2 i hi).1 (h2 i hi).2.1 (h2 i hi).2.2]
    · rw [List.getElem?_eq_none (by simpa using hl)]
      rfl
theorem ne_and {a k b j : Nat} (h : a ≠ k) : ¬ (a = k ∧ b = j) := fun q => h q.1
theorem ne_and2 {a k b j : Nat} (h : b ≠ j) : ¬ (a = k ∧ b = j) := fun q => h q.2
def kindT : FieldType → Nat
  | .long => 1
  | .object _ => 2
  | .array _ => 2
  | .int => 0
  | .boolean => 3
  | _ => 4
theorem fV_I {ad : Nat → Nat} {M : Mem} {k j : Nat} {ty : FieldType} (h : kindT ty = 0 ∨ kindT ty = 3) : fV ad M k j ty = .int (Int32.ofInt (mI M k j)) := by cases ty <;> first | rfl | (simp [kindT] at h)
theorem fV_J {ad : Nat → Nat} {M : Mem} {k j : Nat} {ty : FieldType} (h : kindT ty = 1) : fV ad M k j ty = .long (Int64.ofInt (mJ M k j)) := by cases ty <;> first | rfl | (simp [kindT] at h)
theorem fV_R {ad : Nat → Nat} {M : Mem} {k j : Nat} {ty : FieldType} (h : kindT ty = 2) : fV ad M k j ty = va_rf ((mR M k j).map ad) := by cases ty <;> first | rfl | (simp [kindT] at h)
section VCH
variable {l : Launch} {D : MD} {pc pc' tgt : Nat} {L L' : List (Option AV)} {st : List AV} {M : Mem} {kc ks : Nat} {Q : Option AV → Mem → Prop}
theorem vc_getV {idx ci j k : Nat} {v : AV} (hd : At (mB D) pc (.getfield idx) 3 pc') (fl : FLk (mY D).cls idx ci j) (hs : M.1[k]? = some (.inl ci)) (hv : ∀ ad, fV ad M k j (tyC ci j) = aV ad v) (hok : okM M → okV M.1 v) (kk : VC l D pc' L (v :: st) M kc ks Q) : VC l D pc L (aR k :: st) M kc ks Q := by
  intro p e s m args below meth c dC dI dA ad0 n0 A ad H locs ls C hA h0 hn hst hL hW hS hl
  obtain ⟨hd, rfl⟩ := hd
  obtain ⟨hx, hst⟩ := okS_cons.mp hst
  obtain ⟨CC, T, N, q1, q2, q3, q4⟩ := fl
  obtain ⟨c1, c2, c3, c4⟩ := clsOk ci _ q1
  have hts := C.2.2.2.2.2.2.1
  refine va_get C.1 C.2.1 hts c1 C.2.2.2.2.2.1 C.2.2.2.2.2.2.2.1 hW.2.1 k (wld_at hs) q1 j q2 (hts _ q4) (fun x hx => by rw [q3] at hx; exact hx) (v := aV ad v) ?_ hd ?_
  · rw [flC_at (by rw [c3]; exact q2), hv ad]
  · exact kk p e s m args below meth c dC dI dA ad0 n0 A ad H locs ls C hA h0 hn (okS_cons.mpr ⟨hok hW.1, hst⟩) hL hW hS hl
theorem vc_getI {idx ci j k : Nat} (hd : At (mB D) pc (.getfield idx) 3 pc') (fl : FLk (mY D).cls idx ci j) (hs : M.1[k]? = some (.inl ci)) (ht : kindT (tyC ci j) = 0) (kk : VC l D pc' L (aI (mI M k j) :: st) M kc ks Q) : VC l D pc L (aR k :: st) M kc ks Q :=
  vc_getV (v := aI (mI M k j)) hd fl hs (fun _ => fV_I (Or.inl ht)) (fun h => (h k j).1) kk
theorem vc_getZ {idx ci j k : Nat} (hd : At (mB D) pc (.getfield idx) 3 pc') (fl : FLk (mY D).cls idx ci j) (hs : M.1[k]? = some (.inl ci)) (ht : kindT (tyC ci j) = 3) (kk : VC l D pc' L (aI (mI M k j) :: st) M kc ks Q) : VC l D pc L (aR k :: st) M kc ks Q :=
  vc_getV (v := aI (mI M k j)) hd fl hs (fun _ => fV_I (Or.inr ht)) (fun h => (h k j).1) kk
theorem vc_getJ {idx ci j k : Nat} (hd : At (mB D) pc (.getfield idx) 3 pc') (fl : FLk (mY D).cls idx ci j) (hs : M.1[k]? = some (.inl ci)) (ht : kindT (tyC ci j) = 1) (kk : VC l D pc' L (aL (mJ M k j) :: st) M kc ks Q) : VC l D pc L (aR k :: st) M kc ks Q :=
  vc_getV (v := aL (mJ M k j)) hd fl hs (fun _ => fV_J ht) (fun h => (h k j).2.1) kk
theorem vc_getRo {idx ci j k : Nat} (hd : At (mB D) pc (.getfield idx) 3 pc') (fl : FLk (mY D).cls idx ci j) (hs : M.1[k]? = some (.inl ci)) (ht : kindT (tyC ci j) = 2) (kk : VC l D pc' L (.inr (.inr (mR M k j)) :: st) M kc ks Q) : VC l D pc L (aR k :: st) M kc ks Q :=
  vc_getV (v := .inr (.inr (mR M k j))) hd fl hs (fun _ => fV_R ht) (fun h => by have h3 := (h k j).2.2; cases hr : mR M k j with | none => trivial | some r => exact h3 r hr) kk
theorem vc_getR {idx ci j k r : Nat} (hd : At (mB D) pc (.getfield idx) 3 pc') (fl : FLk (mY D).cls idx ci j) (hs : M.1[k]? = some (.inl ci)) (ht : kindT (tyC ci j) = 2) (hr : mR M k j = some r) (kk : VC l D pc' L (aR r :: st) M kc ks Q) : VC l D pc L (aR k :: st) M kc ks Q :=
  vc_getRo hd fl hs ht (by rw [hr]; exact kk)
/-- a write of a field, in any memory M' that differs there alone -/
theorem vc_putV {idx ci j k : Nat} {v : AV} {M' : Mem} {T : u_T} {N : Nat} {CC : String} (q1 : vwCl[ci]? = some (CC, T, N)) (q2 : j < N) (q3 : (T j).1 = CC) (q4 : Cond.fieldLink (mY D).cls idx CC (T j).2.1 (T j).2.2.1 ∈ tblG) (hfin : (T j).2.2.2 = false ∨ ((T j).2.2.2 = true ∧ (mY D).name = "<init>" ∧ CC = (mY D).cls)) (hs : M.1[k]? = some (.inl ci)) (hS1 : M'.1 = M.1)
    (hn2 : ∀ ad, narrow (tyC ci j) (aV ad v) = aV ad v) (hfit : ∀ ad, fits (tyC ci j) (aV ad v) = true) (h1 : ∀ a b, a ≠ k ∨ b ≠ j → mI M' a b = mI M a b ∧ mJ M' a b = mJ M a b ∧ mR M' a b = mR M a b) (hv : ∀ ad, fV ad M' k j (tyC ci j) = aV ad v) (hok : okM M → okV M.1 v → okM M') (hd : At (mB D) pc (.putfield idx) 3 pc') (kk : VC l D pc' L st M' kc ks Q) : VC l D pc L (v :: aR k :: st) M kc ks Q := by
  intro p e s m args below meth c dC dI dA ad0 n0 A ad H locs ls C hA h0 hn hst hL hW hS hl
  obtain ⟨hd, rfl⟩ := hd
  obtain ⟨hv2, hst⟩ := okS_cons.mp hst
  obtain ⟨hx, hst⟩ := okS_cons.mp hst
  obtain ⟨c1, c2, c3, c4⟩ := clsOk ci _ q1
  have hts := C.2.2.2.2.2.2.1
  have ew : wld dA ad M' = (wld dA ad M).set k (ad k, .inr (ci, (flC ad M k ci).set j (aV ad v))) := by
    refine wld_upd hS1 hs (fun i b h => (h1 i b (Or.inl h)).1) (fun i b h => (h1 i b (Or.inl h)).2.1) (fun i b h => (h1 i b (Or.inl h)).2.2) ?_
    show Sum.inr (ci, flC ad M' k ci) = _
    rw [flC_set (M := M) (by rw [c3]; exact q2) (hv ad) (fun i h => h1 k i (Or.inr h))]
  have k2 : ∀ (H1 : Heap) (locs1 : List Loc), va_P (dC, dI) vwCl ((wld dA ad M).set k (ad k, .inr (ci, (flC ad M k ci).set j (aV ad v)))) H1 → va_D A ((wld dA ad M).set k (ad k, .inr (ci, (flC ad M k ci).set j (aV ad v)))) → va_S A s.heap H1 locs1 → W p l e (rmD D) s m args below meth c H1 locs1 kc ks (MQ below (QcA dC dI dA ad0 n0 A Q) args s (mC D) (mS D) A) (F0 m (pc + 3) ls (st.map (aV ad))) := by
    intro H1 locs1 hP1 hD1 hS2
    rw [← ew] at hP1 hD1
    exact kk p e s m args below meth c dC dI dA ad0 n0 A ad H1 locs1 ls C hA h0 (by rw [hS1]; exact hn) (by rw [hS1]; exact hst) (by rw [hS1]; exact hL) ⟨hok hW.1 hv2, hP1, hD1⟩ hS2 hl
  rcases hfin with hf | ⟨hf, hi, ho⟩
  · exact va_put C.1 C.2.1 hts c1 (tyC ci) c2 c4 C.2.2.2.2.2.1 C.2.2.2.2.2.2.2.1 hW.2.1 hW.2.2 hS k (wld_at hs) q1 j q2 (hts _ q4) (fun x hx => by rw [q3] at hx; exact hx) hf (c2 j q2) (hn2 ad) (hfit ad) (by rw [flC_len, c3]; exact q2) hd k2
  · exact va_putF C.1 C.2.1 hts c1 (tyC ci) c2 c4 C.2.2.2.2.2.1 C.2.2.2.2.2.2.2.1 hW.2.1 hW.2.2 hS k (wld_at hs) q1 j q2 (hts _ q4) (fun x hx => by rw [q3] at hx; exact hx) hf (C.2.2.2.2.2.2.2.2.1.trans hi) (q3.trans ho) (c2 j q2) (hn2 ad) (hfit ad) (by rw [flC_len, c3]; exact q2) hd k2
theorem ty0 {t : FieldType} (h : kindT t = 0) : t = .int := by cases t <;> first | rfl | (simp [kindT] at h)
theorem ty1 {t : FieldType} (h : kindT t = 1) : t = .long := by cases t <;> first | rfl | (simp [kindT] at h)
theorem ty3 {t : FieldType} (h : kindT t = 3) : t = .boolean := by cases t <;> first | rfl | (simp [kindT] at h)
theorem vc_putI {idx ci j k : Nat} {x : Int} (hd : At (mB D) pc (.putfield idx) 3 pc') (fl : PLk D idx ci j) (hs : M.1[k]? = some (.inl ci)) (ht : kindT (tyC ci j) = 0) (kk : VC l D pc' L st (sI M k j x) kc ks Q) : VC l D pc L (aI x :: aR k :: st) M kc ks Q := by
  obtain ⟨C, T, N, q1, q2, q3, q4, q5⟩ := fl
  refine vc_putV (M' := (sI M k j x)) q1 q2 q3 q4 q5 hs rfl (fun ad => by rw [ty0 ht]; rfl) (fun ad => by rw [ty0 ht]; rfl) (fun a b h => ⟨?_, rfl, rfl⟩) (fun ad => ?_) (fun h1 h2 => okM_sI h1 h2) hd kk
  · rw [mI_sI, if_neg]
    rcases h with h | h
    · exact ne_and h
    · exact ne_and2 h
  · rw [fV_I (Or.inl ht), mI_sI, if_pos ⟨rfl, rfl⟩]; rfl
theorem vc_putZ {idx ci j k : Nat} {x : Int} (hd : At (mB D) pc (.putfield idx) 3 pc') (fl : PLk D idx ci j) (hs : M.1[k]? = some (.inl ci)) (ht : kindT (tyC ci j) = 3) (hb : x = 0 ∨ x = 1) (kk : VC l D pc' L st (sI M k j x) kc ks Q) : VC l D pc L (aI x :: aR k :: st) M kc ks Q := by
  obtain ⟨C, T, N, q1, q2, q3, q4, q5⟩ := fl
  refine vc_putV (M' := (sI M k j x)) q1 q2 q3 q4 q5 hs rfl (fun ad => by rw [ty3 ht]; rcases hb with rfl | rfl <;> rfl) (fun ad => by rw [ty3 ht]; rcases hb with rfl | rfl <;> rfl) (fun a b h => ⟨?_, rfl, rfl⟩) (fun ad => ?_) (fun h1 h2 => okM_sI h1 h2) hd kk
  · rw [mI_sI, if_neg]
    rcases h with h | h
    · exact ne_and h
    · exact ne_and2 h
  · rw [fV_I (Or.inr ht), mI_sI, if_pos ⟨rfl, rfl⟩]; rfl
theorem vc_putJ {idx ci j k : Nat} {x : Int} (hd : At (mB D) pc (.putfield idx) 3 pc') (fl : PLk D idx ci j) (hs : M.1[k]? = some (.inl ci)) (ht : kindT (tyC ci j) = 1) (kk : VC l D pc' L st (sJ M k j x) kc ks Q) : VC l D pc L (aL x :: aR k :: st) M kc ks Q := by
  obtain ⟨C, T, N, q1, q2, q3, q4, q5⟩ := fl
  refine vc_putV (M' := (sJ M k j x)) q1 q2 q3 q4 q5 hs rfl (fun ad => by rw [ty1 ht]; rfl) (fun ad => by rw [ty1 ht]; rfl) (fun a b h => ⟨rfl, ?_, rfl⟩) (fun ad => ?_) (fun h1 h2 => okM_sJ h1 h2) hd kk
  · rw [mJ_sJ, if_neg]
    rcases h with h | h
    · exact ne_and h
    · exact ne_and2 h
  · rw [fV_J ht, mJ_sJ, if_pos ⟨rfl, rfl⟩]; rfl
theorem vc_putR {idx ci j k r : Nat} (hd : At (mB D) pc (.putfield idx) 3 pc') (fl : PLk D idx ci j) (hs : M.1[k]? = some (.inl ci)) (ht : kindT (tyC ci j) = 2) (kk : VC l D pc' L st (sR M k j (some r)) kc ks Q) : VC l D pc L (aR r :: aR k :: st) M kc ks Q := by
  obtain ⟨C, T, N, q1, q2, q3, q4, q5⟩ := fl
  refine vc_putV (M' := (sR M k j (some r))) q1 q2 q3 q4 q5 hs rfl (fun ad => ?_) (fun ad => ?_) (fun a b h => ⟨rfl, rfl, ?_⟩) (fun ad => ?_) (fun h1 h2 => okM_sR h1 (fun r2 e => by cases e; exact h2)) hd kk
  · cases hh : tyC ci j <;> first | rfl | (rw [hh] at ht; simp [kindT] at ht)
  · cases hh : tyC ci j <;> first | rfl | (rw [hh] at ht; simp [kindT] at ht)
  · rw [mR_sR, if_neg]
    rcases h with h | h
    · exact ne_and h
    · exact ne_and2 h
  · rw [fV_R ht, mR_sR, if_pos ⟨rfl, rfl⟩]; rfl
theorem oI_nat {x : Int} (h : inI x) (h0 : 0 ≤ x) : (Int32.ofInt x).toNatClampNeg = x.toNat := by
  show (Int32.ofInt x).toInt.toNat = x.toNat
  rw [oI_id h]
theorem oI_in {x : Int} {n : Nat} (h : inI x) (h0 : 0 ≤ x) (h1 : x < n) : vp_in (Int32.ofInt x) n := by
  rw [vp_in_iff, oI_id h]
  exact ⟨h0, h1⟩
theorem vc_iaload {k n : Nat} {i : Int} (hd : At (mB D) pc .iaload 1 pc') (hs : M.1[k]? = some (.inr (0, n))) (h0 : 0 ≤ i) (h1 : i < n) (kk : VC l D pc' L (aI (mI M k i.toNat) :: st) M kc ks Q) : VC l D pc L (aI i :: aR k :: st) M kc ks Q := by
  intro p e s m args below meth c dC dI dA ad0 n0 A ad H locs ls C hA h0' hn hst hL hW hS hl
  obtain ⟨hd, rfl⟩ := hd
  obtain ⟨hi, hst⟩ := okS_cons.mp hst
  obtain ⟨hx, hst⟩ := okS_cons.mp hst
  refine va_iald C.1 C.2.1 C.2.2.2.2.2.2.2.1 hW.2.1 k 0 (wld_at hs) rfl (oI_in hi h0 h1) hd ?_
  rw [oI_nat hi h0]
  exact kk p e s m args below meth c dC dI dA ad0 n0 A ad H locs ls C hA h0' hn (okS_cons.mpr ⟨(hW.1 k i.toNat).1, hst⟩) hL hW hS hl
theorem vc_laload {k n : Nat} {i : Int} (hd : At (mB D) pc .laload 1 pc') (hs : M.1[k]? = some (.inr (1, n))) (h0 : 0 ≤ i) (h1 : i < n) (kk : VC l D pc' L (aL (mJ M k i.toNat) :: st) M kc ks Q) : VC l D pc L (aI i :: aR k :: st) M kc ks Q := by
  intro p e s m args below meth c dC dI dA ad0 n0 A ad H locs ls C hA h0' hn hst hL hW hS hl
  obtain ⟨hd, rfl⟩ := hd
  obtain ⟨hi, hst⟩ := okS_cons.mp hst
  obtain ⟨hx, hst⟩ := okS_cons.mp hst
  refine va_lald C.1 C.2.1 C.2.2.2.2.2.2.2.1 hW.2.1 k 1 (wld_at hs) rfl (oI_in hi h0 h1) hd ?_
  rw [oI_nat hi h0]
  exact kk p e s m args below meth c dC dI dA ad0 n0 A ad H locs ls C hA h0' hn (okS_cons.mpr ⟨(hW.1 k i.toNat).2.1, hst⟩) hL hW hS hl
theorem vc_baload {k n : Nat} {i : Int} (hd : At (mB D) pc .baload 1 pc') (hs : M.1[k]? = some (.inr (2, n))) (h0 : 0 ≤ i) (h1 : i < n) (kk : VC l D pc' L (aI (mI M k i.toNat) :: st) M kc ks Q) : VC l D pc L (aI i :: aR k :: st) M kc ks Q := by
  intro p e s m args below meth c dC dI dA ad0 n0 A ad H locs ls C hA h0' hn hst hL hW hS hl
  obtain ⟨hd, rfl⟩ := hd
  obtain ⟨hi, hst⟩ := okS_cons.mp hst
  obtain ⟨hx, hst⟩ := okS_cons.mp hst
  refine va_zald C.1 C.2.1 C.2.2.2.2.2.2.2.1 hW.2.1 k 2 (wld_at hs) rfl (oI_in hi h0 h1) hd ?_
  rw [oI_nat hi h0]
  exact kk p e s m args below meth c dC dI dA ad0 n0 A ad H locs ls C hA h0' hn (okS_cons.mpr ⟨(hW.1 k i.toNat).1, hst⟩) hL hW hS hl
theorem vc_aaload {k n : Nat} {i : Int} (hd : At (mB D) pc .aaload 1 pc') (hs : M.1[k]? = some (.inr (3, n))) (h0 : 0 ≤ i) (h1 : i < n) (kk : VC l D pc' L (.inr (.inr (mR M k i.toNat)) :: st) M kc ks Q) : VC l D pc L (aI i :: aR k :: st) M kc ks Q := by
  intro p e s m args below meth c dC dI dA ad0 n0 A ad H locs ls C hA h0' hn hst hL hW hS hl
  obtain ⟨hd, rfl⟩ := hd
  obtain ⟨hi, hst⟩ := okS_cons.mp hst
  obtain ⟨hx, hst⟩ := okS_cons.mp hst
  refine va_aldq C.1 C.2.1 C.2.2.2.2.2.2.2.1 hW.2.1 k 3 (wld_at hs) rfl (oI_in hi h0 h1) hd ?_
  rw [oI_nat hi h0]
  refine kk p e s m args below meth c dC dI dA ad0 n0 A ad H locs ls C hA h0' hn (okS_cons.mpr ⟨?_, hst⟩) hL hW hS hl
  have h3 := (hW.1 k i.toNat).2.2
  cases hr : mR M k i.toNat with
  | none => trivial
  | some r => exact h3 r hr
theorem upd_oI (M : Mem) (k : Nat) (i : Nat) (x : Int) : (fun j => Int32.ofInt (mI (sI M k i x) k j)) = upd (fun j => Int32.ofInt (mI M k j)) i (Int32.ofInt x) := by
  funext j
  unfold upd
  rw [mI_sI]
  by_cases h : j = i
  · rw [if_pos ⟨rfl, h⟩, if_pos h]
  · rw [if_neg (ne_and2 h), if_neg h]
theorem upd_oJ (M : Mem) (k : Nat) (i : Nat) (x : Int) : (fun j => Int64.ofInt (mJ (sJ M k i x) k j)) = vp_updL (fun j => Int64.ofInt (mJ M k j)) i (Int64.ofInt x) := by
  funext j
  unfold vp_updL
  rw [mJ_sJ]
  by_cases h : j = i
  · rw [if_pos ⟨rfl, h⟩, if_pos h]
  · rw [if_neg (ne_and2 h), if_neg h]
theorem upd_oR (ad : Nat → Nat) (M : Mem) (k : Nat) (i : Nat) (x : Option Nat) : (fun j => (mR (sR M k i x) k j).map ad) = va_up (fun j => (mR M k j).map ad) i (x.map ad) := by
  funext j
  unfold va_up
  rw [mR_sR]
  by_cases h : j = i
  · rw [if_pos ⟨rfl, h⟩, if_pos h]
  · rw [if_neg (ne_and2 h), if_neg h]
theorem vc_iastore {k n : Nat} {i x : Int} (hd : At (mB D) pc .iastore 1 pc') (hs : M.1[k]? = some (.inr (0, n))) (h0 : 0 ≤ i) (h1 : i < n) (kk : VC l D pc' L st (sI M k i.toNat x) kc ks Q) : VC l D pc L (aI x :: aI i :: aR k :: st) M kc ks Q := by
  intro p e s m args below meth c dC dI dA ad0 n0 A ad H locs ls C hA h0' hn hst hL hW hS hl
  obtain ⟨hd, rfl⟩ := hd
  obtain ⟨hx, hst⟩ := okS_cons.mp hst
  obtain ⟨hi, hst⟩ := okS_cons.mp hst
  obtain ⟨_, hst⟩ := okS_cons.mp hst
  refine va_iast C.1 C.2.1 C.2.2.2.2.2.2.2.1 hW.2.1 hW.2.2 hS k 0 (wld_at hs) rfl (oI_in hi h0 h1) hd ?_
  rw [oI_nat hi h0, ← upd_oI]
  intro H1 locs1 hP1 hD1 hS1
  have ew : wld dA ad (sI M k i.toNat x) = (wld dA ad M).set k (ad k, .inl (dA 0, n, .inl (fun j => Int32.ofInt (mI (sI M k i.toNat x) k j)))) := wld_upd rfl hs (fun a b h => by rw [mI_sI, if_neg (ne_and h)]) (fun _ _ _ => rfl) (fun _ _ _ => rfl) rfl
  rw [← ew] at hP1 hD1
  exact kk p e s m args below meth c dC dI dA ad0 n0 A ad H1 locs1 ls C hA h0' hn hst hL ⟨okM_sI hW.1 hx, hP1, hD1⟩ hS1 hl
theorem vc_bastore {k n : Nat} {i x : Int} (hd : At (mB D) pc .bastore 1 pc') (hs : M.1[k]? = some (.inr (2, n))) (h0 : 0 ≤ i) (h1 : i < n) (hb : x = 0 ∨ x = 1) (kk : VC l D pc' L st (sI M k i.toNat x) kc ks Q) : VC l D pc L (aI x :: aI i :: aR k :: st) M kc ks Q := by
  intro p e s m args below meth c dC dI dA ad0 n0 A ad H locs ls C hA h0' hn hst hL hW hS hl
  obtain ⟨hd, rfl⟩ := hd
  obtain ⟨hx, hst⟩ := okS_cons.mp hst
  obtain ⟨hi, hst⟩ := okS_cons.mp hst
  obtain ⟨_, hst⟩ := okS_cons.mp hst
  refine va_zast C.1 C.2.1 C.2.2.2.2.2.2.2.1 hW.2.1 hW.2.2 hS k 2 (wld_at hs) rfl (oI_in hi h0 h1) hd ?_
  have en : vp_nar .boolean (Int32.ofInt x) = Int32.ofInt x := by rcases hb with rfl | rfl <;> rfl
  rw [en, oI_nat hi h0, ← upd_oI]
  intro H1 locs1 hP1 hD1 hS1
  have ew : wld dA ad (sI M k i.toNat x) = (wld dA ad M).set k (ad k, .inl (dA 2, n, .inl (fun j => Int32.ofInt (mI (sI M k i.toNat x) k j)))) := wld_upd rfl hs (fun a b h => by rw [mI_sI, if_neg (ne_and h)]) (fun _ _ _ => rfl) (fun _ _ _ => rfl) rfl
  rw [← ew] at hP1 hD1
  exact kk p e s m args below meth c dC dI dA ad0 n0 A ad H1 locs1 ls C hA h0' hn hst hL ⟨okM_sI hW.1 hx, hP1, hD1⟩ hS1 hl
theorem vc_lastore {k n : Nat} {i x : Int} (hd : At (mB D) pc .lastore 1 pc') (hs : M.1[k]? = some (.inr (1, n))) (h0 : 0 ≤ i) (h1 : i < n) (kk : VC l D pc' L st (sJ M k i.toNat x) kc ks Q) : VC l D pc L (aL x :: aI i :: aR k :: st) M kc ks Q := by
  intro p e s m args below meth c dC dI dA ad0 n0 A ad H locs ls C hA h0' hn hst hL hW hS hl
  obtain ⟨hd, rfl⟩ := hd
  obtain ⟨hx, hst⟩ := okS_cons.mp hst
  obtain ⟨hi, hst⟩ := okS_cons.mp hst
  obtain ⟨_, hst⟩ := okS_cons.mp hst
  refine va_last C.1 C.2.1 C.2.2.2.2.2.2.2.1 hW.2.1 hW.2.2 hS k 1 (wld_at hs) rfl (oI_in hi h0 h1) hd ?_
  rw [oI_nat hi h0, ← upd_oJ]
  intro H1 locs1 hP1 hD1 hS1
  have ew : wld dA ad (sJ M k i.toNat x) = (wld dA ad M).set k (ad k, .inl (dA 1, n, .inr (.inl (fun j => Int64.ofInt (mJ (sJ M k i.toNat x) k j))))) := wld_upd rfl hs (fun _ _ _ => rfl) (fun a b h => by rw [mJ_sJ, if_neg (ne_and h)]) (fun _ _ _ => rfl) rfl
  rw [← ew] at hP1 hD1
  exact kk p e s m args below meth c dC dI dA ad0 n0 A ad H1 locs1 ls C hA h0' hn hst hL ⟨okM_sJ hW.1 hx, hP1, hD1⟩ hS1 hl
theorem vc_alen {k t n : Nat} (hd : At (mB D) pc .arraylength 1 pc') (hs : M.1[k]? = some (.inr (t, n))) (ht : (decide (t < 4) && decide (n < 2147483648)) = true) (kk : VC l D pc' L (aI (n : Int) :: st) M kc ks Q) : VC l D pc L (aR k :: st) M kc ks Q := by
  intro p e s m args below meth c dC dI dA ad0 n0 A ad H locs ls C hA h0' hn hst hL hW hS hl
  obtain ⟨hd, rfl⟩ := hd
  obtain ⟨_, hst⟩ := okS_cons.mp hst
  simp only [Bool.and_eq_true, decide_eq_true_eq] at ht
  refine va_alen C.1 C.2.1 C.2.2.2.2.2.2.2.1 hW.2.1 k t (wld_at hs) (ty := tyA t) ?_ rfl hd ?_
  · match t, ht.1 with
    | 0, _ => rfl
    | 1, _ => rfl
    | 2, _ => rfl
    | 3, _ => rfl
    | t + 4, h => exact absurd h (by omega)
  · exact kk p e s m args below meth c dC dI dA ad0 n0 A ad H locs ls C hA h0' hn (okS_cons.mpr ⟨(⟨by omega, by omega⟩ : inI (n : Int)), hst⟩) hL hW hS hl
end VCH
