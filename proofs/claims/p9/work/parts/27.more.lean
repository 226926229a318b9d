/-! ROWS: switches, copies, things made (written by wip/whole/gen_more.py) -/
set_option maxRecDepth 20000 in
theorem oiX11_1 : Cond.methodLink RX11 1 objectInit ∈ tblG := tb_in (t1_in (List.mem_of_getElem? (i := 27) rfl)) rfl
set_option maxRecDepth 20000 in
theorem oiX6_3 : Cond.methodLink RX6 3 objectInit ∈ tblG := tb_in (t1_in (List.mem_of_getElem? (i := 35) rfl)) rfl
set_option maxRecDepth 20000 in
theorem oiX8_3 : Cond.methodLink RX8 3 objectInit ∈ tblG := tb_in (t1_in (List.mem_of_getElem? (i := 100) rfl)) rfl
set_option maxRecDepth 20000 in
theorem oiX4_3 : Cond.methodLink RX4 3 objectInit ∈ tblG := tb_in (t1_in (List.mem_of_getElem? (i := 124) rfl)) rfl
set_option maxRecDepth 20000 in
theorem oiX2_3 : Cond.methodLink RX2 3 objectInit ∈ tblG := tb_in (t1_in (List.mem_of_getElem? (i := 178) rfl)) rfl
set_option maxRecDepth 20000 in
theorem oiX1_3 : Cond.methodLink RX1 3 objectInit ∈ tblG := tb_in (t1_in (List.mem_of_getElem? (i := 197) rfl)) rfl
set_option maxRecDepth 20000 in
theorem oiX9_3 : Cond.methodLink RX9 3 objectInit ∈ tblG := tb_in (t1_in (List.mem_of_getElem? (i := 230) rfl)) rfl
set_option maxRecDepth 20000 in
theorem oiX10_3 : Cond.methodLink RX10 3 objectInit ∈ tblG := tb_in (t2_in (List.mem_of_getElem? (i := 9) rfl)) rfl
set_option maxRecDepth 20000 in
theorem oiX7_3 : Cond.methodLink RX7 3 objectInit ∈ tblG := tb_in (t2_in (List.mem_of_getElem? (i := 46) rfl)) rfl
set_option maxRecDepth 20000 in
theorem oiX0_3 : Cond.methodLink RX0 3 objectInit ∈ tblG := tb_in (t2_in (List.mem_of_getElem? (i := 89) rfl)) rfl
set_option maxRecDepth 20000 in
theorem oiX3_3 : Cond.methodLink RX3 3 objectInit ∈ tblG := tb_in (t2_in (List.mem_of_getElem? (i := 112) rfl)) rfl
set_option maxRecDepth 20000 in
theorem acJ7_150 : Cond.methodLink RJ7 150 arraycopyName ∈ tblG := tb_in (t3_in (List.mem_of_getElem? (i := 203) rfl)) rfl
set_option maxRecDepth 20000 in
theorem oiX5_3 : Cond.methodLink RX5 3 objectInit ∈ tblG := tb_in (t3_in (List.mem_of_getElem? (i := 209) rfl)) rfl
set_option maxRecDepth 20000 in
theorem acX8_18 : Cond.methodLink RX8 18 arraycopyName ∈ tblG := tb_in (t4_in (List.mem_of_getElem? (i := 12) rfl)) rfl
set_option maxRecDepth 20000 in
theorem acX7_110 : Cond.methodLink RX7 110 arraycopyName ∈ tblG := tb_in (t5_in (List.mem_of_getElem? (i := 146) rfl)) rfl
set_option maxRecDepth 20000 in
theorem acX6_46 : Cond.methodLink RX6 46 arraycopyName ∈ tblG := tb_in (t6_in (List.mem_of_getElem? (i := 59) rfl)) rfl
set_option maxRecDepth 20000 in
theorem oiX12_1 : Cond.methodLink RX12 1 objectInit ∈ tblG := tb_in (t6_in (List.mem_of_getElem? (i := 77) rfl)) rfl
set_option maxRecDepth 20000 in
theorem ac_nat : Cond.native arraycopyName ∈ tblG := tb_in (t3_in (List.mem_of_getElem? (i := 205) rfl)) rfl
set_option maxRecDepth 20000 in
theorem ac_st : Cond.static arraycopyName ∈ tblG := tb_in (t3_in (List.mem_of_getElem? (i := 204) rfl)) rfl
set_option maxRecDepth 20000 in
theorem ac_ini : Cond.initialized "java/lang/System" ∈ tblG := tb_in (t1_in (List.mem_of_getElem? (i := 20) rfl)) rfl
set_option maxRecDepth 20000 in
theorem oi_in : Cond.instanceMethod objectInit ∈ tblG := tb_in (t1_in (List.mem_of_getElem? (i := 28) rfl)) rfl
set_option maxRecDepth 20000 in
theorem oi_code : Cond.code objectInit ⟨#[0xb1]⟩ 1 none ∈ tblG := tb_in (t1_in (List.mem_of_getElem? (i := 29) rfl)) rfl
set_option maxRecDepth 20000 in
theorem ay_I : Cond.arrayClass .int ∈ tblG := tb_in (t1_in (List.mem_of_getElem? (i := 94) rfl)) rfl
set_option maxRecDepth 20000 in
theorem ay_J : Cond.arrayClass .long ∈ tblG := tb_in (t2_in (List.mem_of_getElem? (i := 40) rfl)) rfl
set_option maxRecDepth 20000 in
theorem ay_Z : Cond.arrayClass .boolean ∈ tblG := tb_in (t6_in (List.mem_of_getElem? (i := 223) rfl)) rfl
set_option maxRecDepth 20000 in
theorem clL_7 : Cond.classLink RL 7 RX11 ∈ tblG := tb_in (t1_in (List.mem_of_getElem? (i := 22) rfl)) rfl
set_option maxRecDepth 20000 in
theorem clX11_7 : Cond.classLink RX11 7 RX6 ∈ tblG := tb_in (t1_in (List.mem_of_getElem? (i := 30) rfl)) rfl
set_option maxRecDepth 20000 in
theorem clX6_27 : Cond.classLink RX6 27 RX5 ∈ tblG := tb_in (t1_in (List.mem_of_getElem? (i := 36) rfl)) rfl
set_option maxRecDepth 20000 in
theorem clX11_19 : Cond.classLink RX11 19 RX8 ∈ tblG := tb_in (t1_in (List.mem_of_getElem? (i := 95) rfl)) rfl
set_option maxRecDepth 20000 in
theorem clX11_33 : Cond.classLink RX11 33 RX4 ∈ tblG := tb_in (t1_in (List.mem_of_getElem? (i := 119) rfl)) rfl
set_option maxRecDepth 20000 in
theorem clX11_42 : Cond.classLink RX11 42 RX2 ∈ tblG := tb_in (t1_in (List.mem_of_getElem? (i := 173) rfl)) rfl
set_option maxRecDepth 20000 in
theorem clX11_51 : Cond.classLink RX11 51 RX1 ∈ tblG := tb_in (t1_in (List.mem_of_getElem? (i := 192) rfl)) rfl
set_option maxRecDepth 20000 in
theorem clX11_60 : Cond.classLink RX11 60 RX9 ∈ tblG := tb_in (t1_in (List.mem_of_getElem? (i := 225) rfl)) rfl
set_option maxRecDepth 20000 in
theorem clX11_69 : Cond.classLink RX11 69 RX10 ∈ tblG := tb_in (t2_in (List.mem_of_getElem? (i := 4) rfl)) rfl
set_option maxRecDepth 20000 in
theorem clX11_78 : Cond.classLink RX11 78 RX7 ∈ tblG := tb_in (t2_in (List.mem_of_getElem? (i := 41) rfl)) rfl
set_option maxRecDepth 20000 in
theorem clX11_87 : Cond.classLink RX11 87 RX0 ∈ tblG := tb_in (t2_in (List.mem_of_getElem? (i := 84) rfl)) rfl
set_option maxRecDepth 20000 in
theorem clX11_96 : Cond.classLink RX11 96 RX3 ∈ tblG := tb_in (t2_in (List.mem_of_getElem? (i := 107) rfl)) rfl
set_option maxRecDepth 20000 in
theorem clX4_75 : Cond.classLink RX4 75 RX5 ∈ tblG := tb_in (t3_in (List.mem_of_getElem? (i := 190) rfl)) rfl
set_option maxRecDepth 20000 in
theorem clL_10 : Cond.classLink RL 10 RX12 ∈ tblG := tb_in (t6_in (List.mem_of_getElem? (i := 72) rfl)) rfl
set_option maxRecDepth 20000 in
theorem iaX11 : Cond.instantiable RX11 16 ∈ tblG := tb_in (t1_in (List.mem_of_getElem? (i := 23) rfl)) rfl
set_option maxRecDepth 20000 in
theorem iiX11 : Cond.initialized RX11 ∈ tblG := tb_in (t1_in (List.mem_of_getElem? (i := 1) rfl)) rfl
set_option maxRecDepth 20000 in
theorem iaX6 : Cond.instantiable RX6 12 ∈ tblG := tb_in (t1_in (List.mem_of_getElem? (i := 31) rfl)) rfl
set_option maxRecDepth 20000 in
theorem iiX6 : Cond.initialized RX6 ∈ tblG := tb_in (t1_in (List.mem_of_getElem? (i := 2) rfl)) rfl
set_option maxRecDepth 20000 in
theorem iaX8 : Cond.instantiable RX8 4 ∈ tblG := tb_in (t1_in (List.mem_of_getElem? (i := 96) rfl)) rfl
set_option maxRecDepth 20000 in
theorem iiX8 : Cond.initialized RX8 ∈ tblG := tb_in (t1_in (List.mem_of_getElem? (i := 4) rfl)) rfl
set_option maxRecDepth 20000 in
theorem iaX4 : Cond.instantiable RX4 15 ∈ tblG := tb_in (t1_in (List.mem_of_getElem? (i := 120) rfl)) rfl
set_option maxRecDepth 20000 in
theorem iiX4 : Cond.initialized RX4 ∈ tblG := tb_in (t1_in (List.mem_of_getElem? (i := 5) rfl)) rfl
set_option maxRecDepth 20000 in
theorem iaX2 : Cond.instantiable RX2 4 ∈ tblG := tb_in (t1_in (List.mem_of_getElem? (i := 174) rfl)) rfl
set_option maxRecDepth 20000 in
theorem iiX2 : Cond.initialized RX2 ∈ tblG := tb_in (t1_in (List.mem_of_getElem? (i := 6) rfl)) rfl
set_option maxRecDepth 20000 in
theorem iaX1 : Cond.instantiable RX1 5 ∈ tblG := tb_in (t1_in (List.mem_of_getElem? (i := 193) rfl)) rfl
set_option maxRecDepth 20000 in
theorem iiX1 : Cond.initialized RX1 ∈ tblG := tb_in (t1_in (List.mem_of_getElem? (i := 7) rfl)) rfl
set_option maxRecDepth 20000 in
theorem iaX9 : Cond.instantiable RX9 4 ∈ tblG := tb_in (t1_in (List.mem_of_getElem? (i := 226) rfl)) rfl
set_option maxRecDepth 20000 in
theorem iiX9 : Cond.initialized RX9 ∈ tblG := tb_in (t1_in (List.mem_of_getElem? (i := 8) rfl)) rfl
set_option maxRecDepth 20000 in
theorem iaX10 : Cond.instantiable RX10 8 ∈ tblG := tb_in (t2_in (List.mem_of_getElem? (i := 5) rfl)) rfl
set_option maxRecDepth 20000 in
theorem iiX10 : Cond.initialized RX10 ∈ tblG := tb_in (t1_in (List.mem_of_getElem? (i := 9) rfl)) rfl
set_option maxRecDepth 20000 in
theorem iaX7 : Cond.instantiable RX7 11 ∈ tblG := tb_in (t2_in (List.mem_of_getElem? (i := 42) rfl)) rfl
set_option maxRecDepth 20000 in
theorem iiX7 : Cond.initialized RX7 ∈ tblG := tb_in (t1_in (List.mem_of_getElem? (i := 10) rfl)) rfl
set_option maxRecDepth 20000 in
theorem iaX0 : Cond.instantiable RX0 5 ∈ tblG := tb_in (t2_in (List.mem_of_getElem? (i := 85) rfl)) rfl
set_option maxRecDepth 20000 in
theorem iiX0 : Cond.initialized RX0 ∈ tblG := tb_in (t1_in (List.mem_of_getElem? (i := 11) rfl)) rfl
set_option maxRecDepth 20000 in
theorem iaX3 : Cond.instantiable RX3 6 ∈ tblG := tb_in (t2_in (List.mem_of_getElem? (i := 108) rfl)) rfl
set_option maxRecDepth 20000 in
theorem iiX3 : Cond.initialized RX3 ∈ tblG := tb_in (t1_in (List.mem_of_getElem? (i := 12) rfl)) rfl
set_option maxRecDepth 20000 in
theorem iaX5 : Cond.instantiable RX5 4 ∈ tblG := tb_in (t3_in (List.mem_of_getElem? (i := 191) rfl)) rfl
set_option maxRecDepth 20000 in
theorem iiX5 : Cond.initialized RX5 ∈ tblG := tb_in (t1_in (List.mem_of_getElem? (i := 19) rfl)) rfl
set_option maxRecDepth 20000 in
theorem iaX12 : Cond.instantiable RX12 47 ∈ tblG := tb_in (t6_in (List.mem_of_getElem? (i := 73) rfl)) rfl
set_option maxRecDepth 20000 in
theorem iiX12 : Cond.initialized RX12 ∈ tblG := tb_in (t1_in (List.mem_of_getElem? (i := 13) rfl)) rfl
set_option maxRecDepth 20000 in
theorem cl_same : Cond.sameMethod "[I" "java/lang/Object" "clone" "()Ljava/lang/Object;" ∈ tblG := tb_in (t3_in (List.mem_of_getElem? (i := 196) rfl)) rfl
set_option maxRecDepth 20000 in
theorem cl_nat : Cond.native ⟨"java/lang/Object", "clone", "()Ljava/lang/Object;"⟩ ∈ tblG := tb_in (t3_in (List.mem_of_getElem? (i := 197) rfl)) rfl
set_option maxRecDepth 20000 in
theorem cl_inst : Cond.instanceMethod ⟨"java/lang/Object", "clone", "()Ljava/lang/Object;"⟩ ∈ tblG := tb_in (t3_in (List.mem_of_getElem? (i := 198) rfl)) rfl
set_option maxRecDepth 20000 in
theorem cl_sel : Cond.selects "[I" ⟨"[I", "clone", "()Ljava/lang/Object;"⟩ ⟨"java/lang/Object", "clone", "()Ljava/lang/Object;"⟩ ∈ tblG := tb_in (t3_in (List.mem_of_getElem? (i := 199) rfl)) rfl
set_option maxRecDepth 20000 in
theorem cl_lk : Cond.methodLink RJ7 316 ⟨"[I", "clone", "()Ljava/lang/Object;"⟩ ∈ tblG := tb_in (t3_in (List.mem_of_getElem? (i := 195) rfl)) rfl
set_option maxRecDepth 20000 in
theorem cl_ck : Cond.classLink RJ7 317 "[I" ∈ tblG := tb_in (t3_in (List.mem_of_getElem? (i := 201) rfl)) rfl
/-- a copy of ints from one row to another -/
def cpI (M : Mem) (k2 k1 dp sp n : Nat) : Mem := (M.1, fun a b => if a = k2 ∧ dp ≤ b ∧ b < dp + n then mI M k1 (sp + (b - dp)) else mI M a b, M.2.2)
theorem mI_cpI (M : Mem) (k2 k1 dp sp n a b : Nat) : mI (cpI M k2 k1 dp sp n) a b = if a = k2 ∧ dp ≤ b ∧ b < dp + n then mI M k1 (sp + (b - dp)) else mI M a b := rfl
theorem okM_cpI {M : Mem} {k2 k1 dp sp n : Nat} (h : okM M) : okM (cpI M k2 k1 dp sp n) := by
  intro a b
  refine ⟨?_, (h a b).2.1, (h a b).2.2⟩
  rw [mI_cpI]
  split
  · exact (h _ _).1
  · exact (h a b).1
/-- a new cell at the end, empty -/
def mkC (M : Mem) (sh : Sh) : Mem := (M.1 ++ [sh], fun a b => if a = M.1.length then 0 else mI M a b, fun a b => if a = M.1.length then 0 else mJ M a b, fun a b => if a = M.1.length then none else mR M a b)
theorem mI_mkC (M : Mem) (sh : Sh) (a b : Nat) : mI (mkC M sh) a b = if a = M.1.length then 0 else mI M a b := rfl
theorem mJ_mkC (M : Mem) (sh : Sh) (a b : Nat) : mJ (mkC M sh) a b = if a = M.1.length then 0 else mJ M a b := rfl
theorem mR_mkC (M : Mem) (sh : Sh) (a b : Nat) : mR (mkC M sh) a b = if a = M.1.length then none else mR M a b := rfl
theorem mkC_len (M : Mem) (sh : Sh) : (mkC M sh).1.length = M.1.length + 1 := by show (M.1 ++ [sh]).length = _; simp
theorem okM_mkC {M : Mem} {sh : Sh} (h : okM M) : okM (mkC M sh) := by
  intro a b
  rw [mI_mkC, mJ_mkC, mR_mkC, mkC_len]
  by_cases e : a = M.1.length
  · rw [if_pos e, if_pos e, if_pos e]
    exact ⟨inI_0, ⟨by decide, by decide⟩, fun r hr => by cases hr⟩
  · rw [if_neg e, if_neg e, if_neg e]
    exact ⟨(h a b).1, (h a b).2.1, fun r hr => Nat.lt_succ_of_lt ((h a b).2.2 r hr)⟩
theorem map_ext {ad ad' : Nat → Nat} {n : Nat} {r : Option Nat} (hr : ∀ x, r = some x → x < n) (h : ∀ k, k < n → ad' k = ad k) : r.map ad' = r.map ad := by
  cases r with
  | none => rfl
  | some x => show some _ = some _; rw [h x (hr x rfl)]
theorem cellW_ext {dA : Nat → ClassId} {ad ad' : Nat → Nat} {M M' : Mem} {k n : Nat} (h1 : ∀ j, mI M' k j = mI M k j) (h2 : ∀ j, mJ M' k j = mJ M k j) (h3 : ∀ j, mR M' k j = mR M k j) (hr : ∀ j x, mR M k j = some x → x < n) (h : ∀ k, k < n → ad' k = ad k) (sh : Sh) : cellW dA ad' M' k sh = cellW dA ad M k sh := by
  have e : ∀ j, (mR M' k j).map ad' = (mR M k j).map ad := fun j => by rw [h3 j]; exact map_ext (hr j) h
  rcases sh with ci | ⟨t, q⟩
  · show Sum.inr (ci, flC ad' M' k ci) = Sum.inr (ci, flC ad M k ci)
    unfold flC
    rw [List.map_congr_left (fun j _ => (by unfold fV; rw [h1 j, h2 j, e j] : fV ad' M' k j (tyC ci j) = fV ad M k j (tyC ci j)))]
  · show Sum.inl (dA t, q, arA ad' M' k t) = Sum.inl (dA t, q, arA ad M k t)
    unfold arA
    simp only [h1, h2, e]
theorem wld_mkC {dA : Nat → ClassId} {ad : Nat → Nat} {M : Mem} {sh : Sh} {q : Nat} {e : va_E} (h : okM M) (he : cellW dA (va_up ad M.1.length q) (mkC M sh) M.1.length sh = e) : wld dA (va_up ad M.1.length q) (mkC M sh) = wld dA ad M ++ [(q, e)] := by
  apply List.ext_getElem?
  intro i
  by_cases hi : i < M.1.length
  · rw [List.getElem?_append_left (by rw [wld_len]; exact hi)]
    have hs : M.1[i]? = some M.1[i] := List.getElem?_eq_getElem hi
    have hs2 : (mkC M sh).1[i]? = some M.1[i] := by show (M.1 ++ [sh])[i]? = _; rw [List.getElem?_append_left hi]; exact hs
    have hne : ¬ i = M.1.length := by omega
    rw [wld_at hs, wld_at hs2]
    rw [cellW_ext (M := M) (n := M.1.length) (fun j => by rw [mI_mkC, if_neg hne]) (fun j => by rw [mJ_mkC, if_neg hne]) (fun j => by rw [mR_mkC, if_neg hne]) (fun j x hx => (h i j).2.2 x hx) (fun k hk => by unfold va_up; rw [if_neg (by omega)])]
    unfold va_up
    rw [if_neg hne]
  · rw [List.getElem?_append_right (by rw [wld_len]; omega), wld_len]
    by_cases hi2 : i = M.1.length
    · subst hi2
      have hs2 : (mkC M sh).1[M.1.length]? = some sh := by show (M.1 ++ [sh])[M.1.length]? = _; simp
      rw [wld_at hs2, he, Nat.sub_self]
      unfold va_up
      rw [if_pos rfl]
      rfl
    · rw [List.getElem?_eq_none (by rw [wld_len, mkC_len]; omega), List.getElem?_eq_none (by simp; omega)]
theorem okS_mk {S S' : List Sh} (h : S.length ≤ S'.length) {st : List AV} (hst : okS S st) : okS S' st := fun v hv => by
  have := hst v hv
  rcases v with x | x | q
  · exact this
  · exact this
  · cases q with
    | none => trivial
    | some k => exact Nat.lt_of_lt_of_le this h
theorem okL_mk {S S' : List Sh} (h : S.length ≤ S'.length) {L : List (Option AV)} (hL : okL S L) : okL S' L := fun i v hv => by
  have := hL i v hv
  rcases v with x | x | q
  · exact this
  · exact this
  · cases q with
    | none => trivial
    | some k => exact Nat.lt_of_lt_of_le this h
theorem vcl_kinds (ci j : Nat) (q : vw_C) (h : vwCl[ci]? = some q) (hj : j < q.2.2) : kindT (tyC ci j) ≠ 4 := by
  have key : ∀ c, c < 13 → ∀ j, j < 47 → kindT (tyC c j) ≠ 4 := by decide +kernel
  have h1 : ci < 13 := (List.getElem?_eq_some_iff.mp h).1
  have h2 : q.2.2 ≤ 47 := by
    have key2 : ∀ r ∈ vwCl, r.2.2 ≤ 47 := by decide
    exact key2 q (List.mem_of_getElem? h)
  exact key ci h1 j (by omega)
section VCM
variable {l : Launch} {D : MD} {pc pc' tgt : Nat} {L L' : List (Option AV)} {st : List AV} {M : Mem} {kc ks : Nat} {Q : Option AV → Mem → Prop}
theorem vc_tabOut {x dflt lo hi : Int} {offs : Array Int} {len : Nat} (hd : At (mB D) pc (.tableswitch dflt lo hi offs) len pc') (tgt : Nat) (h : x < lo ∨ hi < x) (ht : (pc : Int) + dflt = (tgt : Int)) (k : VC l D tgt L st M kc ks Q) : VC l D pc L (aI x :: st) M kc ks Q := by
  intro p e s m args below meth c dC dI dA ad0 n0 A ad H locs ls C hA h0 hn hst hL hW hS hl
  obtain ⟨hx, hst⟩ := okS_cons.mp hst
  exact lv_tableOut C.1 C.2.1 hd.1 (by rw [oI_id hx]; exact h) ht (k p e s m args below meth c dC dI dA ad0 n0 A ad H locs ls C hA h0 hn hst hL hW hS hl)
theorem vc_tabIn {x dflt lo hi off : Int} {offs : Array Int} {len : Nat} (hd : At (mB D) pc (.tableswitch dflt lo hi offs) len pc') (v : Int) (tgt : Nat) (hv : x = v) (h1 : (decide (lo ≤ v) && decide (v ≤ hi)) = true) (ho : offs[(v - lo).toNat]? = some off) (ht : (pc : Int) + off = (tgt : Int)) (k : VC l D tgt L st M kc ks Q) : VC l D pc L (aI x :: st) M kc ks Q := by
  subst hv
  simp only [Bool.and_eq_true, decide_eq_true_eq] at h1
  intro p e s m args below meth c dC dI dA ad0 n0 A ad H locs ls C hA h0 hn hst hL hW hS hl
  obtain ⟨hx, hst⟩ := okS_cons.mp hst
  exact lv_tableIn C.1 C.2.1 hd.1 (by rw [oI_id hx]; omega) (by rw [oI_id hx]; omega) (by rw [oI_id hx]; exact ho) ht (k p e s m args below meth c dC dI dA ad0 n0 A ad H locs ls C hA h0 hn hst hL hW hS hl)
theorem vc_acopy {idx k1 k2 n1 n2 : Nat} {sp dp n : Int} (hd : At (mB D) pc (.invokestatic idx) 3 pc') (hlk : Cond.methodLink (mY D).cls idx arraycopyName ∈ tblG) (hs1 : M.1[k1]? = some (.inr (0, n1))) (hs2 : M.1[k2]? = some (.inr (0, n2))) (h1 : 0 ≤ sp) (h2 : 0 ≤ dp) (h3 : 0 ≤ n) (h4 : sp + n ≤ n1) (h5 : dp + n ≤ n2) (hsum : (st.map catA).sum ≤ 8) (k : VC l D pc' L st (cpI M k2 k1 dp.toNat sp.toNat n.toNat) kc ks Q) : VC l D pc L (aI n :: aI dp :: aR k2 :: aI sp :: aR k1 :: st) M kc ks Q := by
  intro p e s m args below meth c dC dI dA ad0 n0 A ad H locs ls C hA h0 hn hst hL hW hS hl
  obtain ⟨hd, rfl⟩ := hd
  obtain ⟨hx3, hst⟩ := okS_cons.mp hst
  obtain ⟨hx2, hst⟩ := okS_cons.mp hst
  obtain ⟨_, hst⟩ := okS_cons.mp hst
  obtain ⟨hx1, hst⟩ := okS_cons.mp hst
  obtain ⟨_, hst⟩ := okS_cons.mp hst
  have hts := C.2.2.2.2.2.2.1
  refine va_copyi (sp := Int32.ofInt sp) (dp := Int32.ofInt dp) (n := Int32.ofInt n) C.1 C.2.1 (by rw [C.2.2.2.2.1]; exact hl.1.symm) C.2.2.2.2.2.1 (hts _ hlk) (hts _ ac_nat) (hts _ ac_st) (hts _ ac_ini) C.2.2.2.2.2.2.2.1 hW.2.1 hW.2.2 hS k1 k2 0 0 (wld_at hs1) (wld_at hs2) rfl rfl rfl (fun h => by rw [oI_0, oI_lt hx1 inI_0] at h; omega) (fun h => by rw [oI_0, oI_lt hx2 inI_0] at h; omega) (fun h => by rw [oI_0, oI_lt hx3 inI_0] at h; omega) ?_ ?_ (fun _ _ => rfl) (Nat.succ_le_succ (Nat.zero_le _)) ?_ hd ?_
  · rw [oI_nat hx1 h1, oI_nat hx3 h3]; omega
  · rw [oI_nat hx2 h2, oI_nat hx3 h3]; omega
  · rw [cat_sum]
    have : nativeFrameWords "java/lang/System" "arraycopy" 5 ≤ 20 := by decide +kernel
    show _ ≤ 64 * mV D + 64
    omega
  · rw [oI_nat hx1 h1, oI_nat hx2 h2, oI_nat hx3 h3]
    intro H1 locs1 hP1 hD1 hS1
    have ew : wld dA ad (cpI M k2 k1 dp.toNat sp.toNat n.toNat) = (wld dA ad M).set k2 (ad k2, .inl (dA 0, n2, .inl (va_cpy (fun i => Int32.ofInt (mI M k1 i)) (fun i => Int32.ofInt (mI M k2 i)) sp.toNat dp.toNat n.toNat))) := by
      refine wld_upd rfl hs2 (fun a b h => by rw [mI_cpI, if_neg (fun q => h q.1)]) (fun _ _ _ => rfl) (fun _ _ _ => rfl) ?_
      show Sum.inl (dA 0, n2, Sum.inl (fun i => Int32.ofInt (mI (cpI M k2 k1 dp.toNat sp.toNat n.toNat) k2 i))) = _
      congr 4
      funext i
      unfold va_cpy
      rw [mI_cpI]
      by_cases h : dp.toNat ≤ i ∧ i < dp.toNat + n.toNat
      · rw [if_pos ⟨rfl, h⟩, if_pos h]
      · rw [if_neg (fun q => h q.2), if_neg h]
    rw [← ew] at hP1 hD1
    exact k p e s m args below meth c dC dI dA ad0 n0 A ad H1 locs1 ls C hA h0 hn hst hL ⟨okM_cpI hW.1, hP1, hD1⟩ hS1 hl
theorem vc_objInit {idx k : Nat} (hd : At (mB D) pc (.invokespecial idx) 3 pc') (hlk : Cond.methodLink (mY D).cls idx objectInit ∈ tblG) (hsum : (st.map catA).sum ≤ 8) (kk : VC l D pc' L st M kc ks Q) : VC l D pc L (aR k :: st) M kc ks Q := by
  intro p e s m args below meth c dC dI dA ad0 n0 A ad H locs ls C hA h0 hn hst hL hW hS hl
  obtain ⟨hd, rfl⟩ := hd
  obtain ⟨_, hst⟩ := okS_cons.mp hst
  have hts := C.2.2.2.2.2.2.1
  refine W.objInit (g := F0 m pc ls ((aR k :: st).map (aV ad))) (rest := st.map (aV ad)) C.1 C.2.1 C.2.2.2.2.2.1 (hts _ hlk) (hts _ oi_in) (hts _ oi_code) rfl (hl.1.trans C.2.2.2.2.1.symm) rfl hd (Nat.succ_le_succ (Nat.zero_le _)) ?_ (kk p e s m args below meth c dC dI dA ad0 n0 A ad H locs ls C hA h0 hn hst hL hW hS hl)
  have h1 := lv_room (m := m) (pc := pc) (ls := ls) (rest := (aR k :: st).map (aV ad)) (st := st.map (aV ad)) (by rw [cat_sum]; exact hsum)
  show _ ≤ 64 * mV D + 64
  omega
theorem vc_new {idx ci : Nat} {CC : String} {T : u_T} {N : Nat} (hd : At (mB D) pc (.new idx) 3 pc') (hci : vwCl[ci]? = some (CC, T, N)) (hlk : Cond.classLink (mY D).cls idx CC ∈ tblG) (hins : Cond.instantiable CC N ∈ tblG) (hini : Cond.initialized CC ∈ tblG) (h1 : kc + 1 ≤ mC D) (h2 : ks + N ≤ mS D) (kk : VC l D pc' L (aR M.1.length :: st) (mkC M (.inl ci)) (kc + 1) (ks + N) Q) : VC l D pc L st M kc ks Q := by
  intro p e s m args below meth c dC dI dA ad0 n0 A ad H locs ls C hA h0 hn hst hL hW hS hl
  obtain ⟨hd, rfl⟩ := hd
  obtain ⟨c1, c2, c3, c4⟩ := clsOk ci _ hci
  have hts := C.2.2.2.2.2.2.1
  refine va_new (ci := ci) (fs := flC (va_up ad M.1.length 0) (mkC M (.inl ci)) M.1.length ci) C.1 C.2.1 hts c1 (tyC ci) c2 C.2.2.2.2.2.1 (hts _ hlk) (hts _ hins) (hts _ hini) C.2.2.2.2.2.2.2.1 hW.2.1 hW.2.2 hS hA hci ?_ h1 h2 hd ?_
  · intro j hj
    unfold vp_V
    rw [List.getD_eq_getElem?_getD, flC_at (by rw [c3]; exact hj)]
    show _ = fV _ _ _ _ _
    unfold fV
    rw [mI_mkC, mJ_mkC, mR_mkC, if_pos rfl, if_pos rfl, if_pos rfl]
    have hty : ∀ t : FieldType, parseFieldDescriptor (T j).2.2.1 = some t → t = tyC ci j := fun t ht => Option.some.inj (ht.symm.trans (c2 j hj))
    have hk : kindT (tyC ci j) ≠ 4 := vcl_kinds ci j _ hci hj
    cases hh : tyC ci j <;> first | rfl | (rw [hh] at hk; exact absurd rfl hk)
  · intro q H1 hP1 hD1 hS1
    have ec : cellW dA (va_up ad M.1.length q) (mkC M (.inl ci)) M.1.length (.inl ci) = .inr (ci, flC (va_up ad M.1.length 0) (mkC M (.inl ci)) M.1.length ci) := by
      show Sum.inr (ci, flC (va_up ad M.1.length q) (mkC M (.inl ci)) M.1.length ci) = _
      unfold flC
      rw [List.map_congr_left (fun j _ => (by unfold fV; rw [mR_mkC, if_pos rfl]; rfl : fV (va_up ad M.1.length q) (mkC M (.inl ci)) M.1.length j (tyC ci j) = fV (va_up ad M.1.length 0) (mkC M (.inl ci)) M.1.length j (tyC ci j)))]
    rw [← wld_mkC hW.1 ec] at hP1 hD1
    have hext : ∀ k, k < M.1.length → va_up ad M.1.length q k = ad k := fun k hk => by unfold va_up; rw [if_neg (by omega)]
    have hlen : M.1.length ≤ (mkC M (.inl ci)).1.length := by rw [mkC_len]; omega
    have k2 := kk p e s m args below meth c dC dI dA ad0 n0 A (va_up ad M.1.length q) H1 locs ls C hA (fun k hk => (hext k (by omega)).trans (h0 k hk)) (Nat.le_trans hn hlen) (okS_cons.mpr ⟨(by show M.1.length < (mkC M (.inl ci)).1.length; rw [mkC_len]; omega), okS_mk hlen hst⟩) (okL_mk hlen hL) ⟨okM_mkC hW.1, hP1, hD1⟩ hS1 (lvL_ext hL hext hl)
    have es : (aR M.1.length :: st).map (aV (va_up ad M.1.length q)) = .ref q :: st.map (aV ad) := by
      rw [List.map_cons, stk_ext hst hext]
      show Value.ref (va_up ad M.1.length q M.1.length) :: _ = _
      unfold va_up
      rw [if_pos rfl]
    rw [es] at k2
    exact k2
theorem arr_cls0 {dC : Nat → ClassId} {dI : Nat → Nat → Nat} {dA : Nat → ClassId} {s : State} {cA : ClassId} (h : va_K (dC, dI) vwCl (tysA dA ++ [(cA, .int)]) s) : cA = dA 0 := by
  have h1 : s.vm.findClass ("[" ++ (FieldType.toString .int)) = some cA := (h.2 4 (cA, .int) rfl).2
  have h2 : s.vm.findClass ("[" ++ (FieldType.toString .int)) = some (dA 0) := (h.2 0 (dA 0, .int) rfl).2
  exact Option.some.inj (h1.symm.trans h2)
theorem arr_cls1 {dC : Nat → ClassId} {dI : Nat → Nat → Nat} {dA : Nat → ClassId} {s : State} {cA : ClassId} (h : va_K (dC, dI) vwCl (tysA dA ++ [(cA, .long)]) s) : cA = dA 1 := by
  have h1 : s.vm.findClass ("[" ++ (FieldType.toString .long)) = some cA := (h.2 4 (cA, .long) rfl).2
  have h2 : s.vm.findClass ("[" ++ (FieldType.toString .long)) = some (dA 1) := (h.2 1 (dA 1, .long) rfl).2
  exact Option.some.inj (h1.symm.trans h2)
theorem arr_cls2 {dC : Nat → ClassId} {dI : Nat → Nat → Nat} {dA : Nat → ClassId} {s : State} {cA : ClassId} (h : va_K (dC, dI) vwCl (tysA dA ++ [(cA, .boolean)]) s) : cA = dA 2 := by
  have h1 : s.vm.findClass ("[" ++ (FieldType.toString .boolean)) = some cA := (h.2 4 (cA, .boolean) rfl).2
  have h2 : s.vm.findClass ("[" ++ (FieldType.toString .boolean)) = some (dA 2) := (h.2 2 (dA 2, .boolean) rfl).2
  exact Option.some.inj (h1.symm.trans h2)
theorem arr_clsT {dC : Nat → ClassId} {dI : Nat → Nat → Nat} {dA : Nat → ClassId} {s : State} {cA : ClassId} (h : va_K (dC, dI) vwCl (tysA dA ++ [(cA, tyA 3)]) s) : cA = dA 3 := by
  obtain ⟨_, _, _, _, _, h1⟩ := (h.2 4 (cA, tyA 3) rfl).2
  obtain ⟨_, _, _, _, _, h2⟩ := (h.2 3 (dA 3, tyA 3) rfl).2
  exact Option.some.inj (h1.symm.trans h2)
/-- behind the making of a row -/
theorem mk_row {t N : Nat} {p : Program} {e : Env} {s : State} {m : MethodId} {args : Array Value} {below : List Frame} {meth : Method} {c : Code} {dC : Nat → ClassId} {dI : Nat → Nat → Nat} {dA : Nat → ClassId} {ad0 : Nat → Nat} {n0 : Nat} {A : Nat → Prop} {ad : Nat → Nat} {H H1 : Heap} {locs : List Loc} {ls : Array Slot} {q kc2 ks2 : Nat} {a0 : (Nat → Int32) ⊕ (Nat → Int64) ⊕ (Nat → UInt32) ⊕ (Nat → UInt64) ⊕ (Nat → Option Nat)}
    (C : Cx D p s m args meth c dC dI dA A) (hA : ∀ q, s.heap.size ≤ q → A q) (h0 : ∀ k, k < n0 → ad k = ad0 k) (hn : n0 ≤ M.1.length) (hst : okS M.1 st) (hL : okL M.1 L) (hW : Wd dC dI dA ad A M H) (hl : lv_has ls (mN D) (lvL ad L))
    (ha : ∀ ad2, arA ad2 (mkC M (.inr (t, N))) M.1.length t = a0) (hP1 : va_P (dC, dI) vwCl (wld dA ad M ++ [(q, .inl (dA t, N, a0))]) H1) (hD1 : va_D A (wld dA ad M ++ [(q, .inl (dA t, N, a0))])) (hS1 : va_S A s.heap H1 locs)
    (kk : VC l D pc' L (aR M.1.length :: st) (mkC M (.inr (t, N))) kc2 ks2 Q) : W p l e (rmD D) s m args below meth c H1 locs kc2 ks2 (MQ below (QcA dC dI dA ad0 n0 A Q) args s (mC D) (mS D) A) (F0 m pc' ls (.ref q :: st.map (aV ad))) := by
  have ec : cellW dA (va_up ad M.1.length q) (mkC M (.inr (t, N))) M.1.length (.inr (t, N)) = .inl (dA t, N, a0) := by
    show Sum.inl (dA t, N, arA _ _ _ t) = _
    rw [ha]
  rw [← wld_mkC hW.1 ec] at hP1 hD1
  have hext : ∀ k, k < M.1.length → va_up ad M.1.length q k = ad k := fun k hk => by unfold va_up; rw [if_neg (by omega)]
  have hlen : M.1.length ≤ (mkC M (.inr (t, N))).1.length := by rw [mkC_len]; omega
  have k2 := kk p e s m args below meth c dC dI dA ad0 n0 A (va_up ad M.1.length q) H1 locs ls C hA (fun k hk => (hext k (by omega)).trans (h0 k hk)) (Nat.le_trans hn hlen) (okS_cons.mpr ⟨(by show M.1.length < (mkC M (.inr (t, N))).1.length; rw [mkC_len]; omega), okS_mk hlen hst⟩) (okL_mk hlen hL) ⟨okM_mkC hW.1, hP1, hD1⟩ hS1 (lvL_ext hL hext hl)
  have es : (aR M.1.length :: st).map (aV (va_up ad M.1.length q)) = .ref q :: st.map (aV ad) := by
    rw [List.map_cons, stk_ext hst hext]
    show Value.ref (va_up ad M.1.length q M.1.length) :: _ = _
    unfold va_up
    rw [if_pos rfl]
  rw [es] at k2
  exact k2
theorem vc_newI {n : Int} (hd : At (mB D) pc (.newarray .int) 2 pc') (h0n : 0 ≤ n) (hbig : n ≤ 100000) (h1 : kc + 1 ≤ mC D) (h2 : ks + n.toNat ≤ mS D) (kk : VC l D pc' L (aR M.1.length :: st) (mkC M (.inr (0, n.toNat))) (kc + 1) (ks + n.toNat) Q) : VC l D pc L (aI n :: st) M kc ks Q := by
  intro p e s m args below meth c dC dI dA ad0 n0 A ad H locs ls C hA h0 hn hst hL hW hS hl
  obtain ⟨hd, rfl⟩ := hd
  obtain ⟨hx, hst⟩ := okS_cons.mp hst
  have hts := C.2.2.2.2.2.2.1
  refine va_newa (atype := .int) (ty := .int) (N' := n.toNat) (a0 := (n.toNat, .inl (fun _ => 0))) C.1 C.2.1 (hts _ ay_I) rfl C.2.2.2.2.2.2.2.1 hW.2.1 hW.2.2 hS hA (fun cA => rfl) (fun h => by rw [oI_0, oI_lt hx inI_0] at h; omega) (oI_nat hx h0n) (by show n.toNat * 4 ≤ _; omega) h1 h2 hd ?_
  intro q cA H1 hK1 hP1 hD1 hS1
  have ecA : cA = dA 0 := arr_cls0 hK1
  subst ecA
  exact mk_row (t := 0) C hA h0 hn hst hL hW hl (fun ad2 => by show Sum.inl _ = Sum.inl _; congr 1; funext i; rw [mI_mkC, if_pos rfl]; rfl) hP1 hD1 hS1 kk
theorem vc_newJ {n : Int} (hd : At (mB D) pc (.newarray .long) 2 pc') (h0n : 0 ≤ n) (hbig : n ≤ 100000) (h1 : kc + 1 ≤ mC D) (h2 : ks + n.toNat ≤ mS D) (kk : VC l D pc' L (aR M.1.length :: st) (mkC M (.inr (1, n.toNat))) (kc + 1) (ks + n.toNat) Q) : VC l D pc L (aI n :: st) M kc ks Q := by
  intro p e s m args below meth c dC dI dA ad0 n0 A ad H locs ls C hA h0 hn hst hL hW hS hl
  obtain ⟨hd, rfl⟩ := hd
  obtain ⟨hx, hst⟩ := okS_cons.mp hst
  have hts := C.2.2.2.2.2.2.1
  refine va_newa (atype := .long) (ty := .long) (N' := n.toNat) (a0 := (n.toNat, .inr (.inl (fun _ => 0)))) C.1 C.2.1 (hts _ ay_J) rfl C.2.2.2.2.2.2.2.1 hW.2.1 hW.2.2 hS hA (fun cA => rfl) (fun h => by rw [oI_0, oI_lt hx inI_0] at h; omega) (oI_nat hx h0n) (by show n.toNat * 8 ≤ _; omega) h1 h2 hd ?_
  intro q cA H1 hK1 hP1 hD1 hS1
  have ecA : cA = dA 1 := arr_cls1 hK1
  subst ecA
  exact mk_row (t := 1) C hA h0 hn hst hL hW hl (fun ad2 => by show Sum.inr (Sum.inl _) = Sum.inr (Sum.inl _); congr 2; funext i; rw [mJ_mkC, if_pos rfl]; rfl) hP1 hD1 hS1 kk
theorem vc_newZ {n : Int} (hd : At (mB D) pc (.newarray .boolean) 2 pc') (h0n : 0 ≤ n) (hbig : n ≤ 100000) (h1 : kc + 1 ≤ mC D) (h2 : ks + n.toNat ≤ mS D) (kk : VC l D pc' L (aR M.1.length :: st) (mkC M (.inr (2, n.toNat))) (kc + 1) (ks + n.toNat) Q) : VC l D pc L (aI n :: st) M kc ks Q := by
  intro p e s m args below meth c dC dI dA ad0 n0 A ad H locs ls C hA h0 hn hst hL hW hS hl
  obtain ⟨hd, rfl⟩ := hd
  obtain ⟨hx, hst⟩ := okS_cons.mp hst
  have hts := C.2.2.2.2.2.2.1
  refine va_newa (atype := .boolean) (ty := .boolean) (N' := n.toNat) (a0 := (n.toNat, .inl (fun _ => 0))) C.1 C.2.1 (hts _ ay_Z) rfl C.2.2.2.2.2.2.2.1 hW.2.1 hW.2.2 hS hA (fun cA => rfl) (fun h => by rw [oI_0, oI_lt hx inI_0] at h; omega) (oI_nat hx h0n) (by show n.toNat * 1 ≤ _; omega) h1 h2 hd ?_
  intro q cA H1 hK1 hP1 hD1 hS1
  have ecA : cA = dA 2 := arr_cls2 hK1
  subst ecA
  exact mk_row (t := 2) C hA h0 hn hst hL hW hl (fun ad2 => by show Sum.inl _ = Sum.inl _; congr 1; funext i; rw [mI_mkC, if_pos rfl]; rfl) hP1 hD1 hS1 kk
theorem vc_newT {n : Int} {idx : Nat} (hd : At (mB D) pc (.anewarray idx) 3 pc') (hlk : Cond.classLink (mY D).cls idx RX5 ∈ tblG) (h0n : 0 ≤ n) (hbig : n ≤ 100000) (h1 : kc + 1 ≤ mC D) (h2 : ks + n.toNat ≤ mS D) (kk : VC l D pc' L (aR M.1.length :: st) (mkC M (.inr (3, n.toNat))) (kc + 1) (ks + n.toNat) Q) : VC l D pc L (aI n :: st) M kc ks Q := by
  intro p e s m args below meth c dC dI dA ad0 n0 A ad H locs ls C hA h0 hn hst hL hW hS hl
  obtain ⟨hd, rfl⟩ := hd
  obtain ⟨hx, hst⟩ := okS_cons.mp hst
  have hts := C.2.2.2.2.2.2.1
  refine va_newq (C := "SecondLeft$Text") (N' := n.toNat) C.1 C.2.1 C.2.2.2.2.2.1 (hts _ hlk) C.2.2.2.2.2.2.2.2.2.2.1 C.2.2.2.2.2.2.2.1 hW.2.1 hW.2.2 hS hA (fun h => by rw [oI_0, oI_lt hx inI_0] at h; omega) (oI_nat hx h0n) (by omega) h1 h2 hd ?_
  intro q cA H1 hK1 hP1 hD1 hS1
  have ecA : cA = dA 3 := arr_clsT hK1
  subst ecA
  exact mk_row (t := 3) C hA h0 hn hst hL hW hl (fun ad2 => by show Sum.inr (Sum.inr (Sum.inr (Sum.inr _))) = Sum.inr (Sum.inr (Sum.inr (Sum.inr _))); congr 4; funext i; rw [mR_mkC, if_pos rfl]; rfl) hP1 hD1 hS1 kk
theorem vc_aastore {k n : Nat} {i : Int} {r : Option Nat} (hd : At (mB D) pc .aastore 1 pc') (hs : M.1[k]? = some (.inr (3, n))) (h0 : 0 ≤ i) (h1 : i < n) (hr : ∀ x, r = some x → M.1[x]? = some (.inl 5)) (kk : VC l D pc' L st (sR M k i.toNat r) kc ks Q) : VC l D pc L (.inr (.inr r) :: aI i :: aR k :: st) M kc ks Q := by
  intro p e s m args below meth c dC dI dA ad0 n0 A ad H locs ls C hA h0' hn hst hL hW hS hl
  obtain ⟨hd, rfl⟩ := hd
  obtain ⟨hx, hst1⟩ := okS_cons.mp hst
  obtain ⟨hi, hst1⟩ := okS_cons.mp hst1
  obtain ⟨_, hst1⟩ := okS_cons.mp hst1
  have ew : wld dA ad (sR M k i.toNat r) = (wld dA ad M).set k (ad k, .inl (dA 3, n, .inr (.inr (.inr (.inr (fun j => (mR (sR M k i.toNat r) k j).map ad)))))) := wld_upd rfl hs (fun _ _ _ => rfl) (fun _ _ _ => rfl) (fun a b h => by rw [mR_sR, if_neg (ne_and h)]) rfl
  have k2 : ∀ (H1 : Heap) (locs1 : List Loc), va_P (dC, dI) vwCl ((wld dA ad M).set k (ad k, .inl (dA 3, n, .inr (.inr (.inr (.inr (va_up (fun j => (mR M k j).map ad) (Int32.ofInt i).toNatClampNeg (r.map ad)))))))) H1 → va_D A ((wld dA ad M).set k (ad k, .inl (dA 3, n, .inr (.inr (.inr (.inr (va_up (fun j => (mR M k j).map ad) (Int32.ofInt i).toNatClampNeg (r.map ad)))))))) → va_S A s.heap H1 locs1 → W p l e (rmD D) s m args below meth c H1 locs1 kc ks (MQ below (QcA dC dI dA ad0 n0 A Q) args s (mC D) (mS D) A) (F0 m (pc + 1) ls (st.map (aV ad))) := by
    intro H1 locs1 hP1 hD1 hS1
    rw [oI_nat hi h0, ← upd_oR, ← ew] at hP1 hD1
    exact kk p e s m args below meth c dC dI dA ad0 n0 A ad H1 locs1 ls C hA h0' hn hst1 hL ⟨okM_sR hW.1 (fun x hx2 => by subst hx2; exact hx), hP1, hD1⟩ hS1 hl
  cases r with
  | none => exact va_astqN (C := "SecondLeft$Text") C.1 C.2.1 C.2.2.2.2.2.2.2.1 hW.2.1 hW.2.2 hS k 3 (wld_at hs) rfl (oI_in hi h0 h1) hd k2
  | some x => exact va_astq (r := (RX5, TX5, 4)) C.1 C.2.1 C.2.2.2.2.2.2.2.1 hW.2.1 hW.2.2 hS k 3 x 5 (wld_at hs) rfl (wld_at (hr x rfl)) rfl (oI_in hi h0 h1) hd k2
end VCM
/-- a copy of a row of ints as a new cell -/
def clC (M : Mem) (k n : Nat) : Mem := (M.1 ++ [.inr (0, n)], fun a b => if a = M.1.length then mI M k b else mI M a b, fun a b => if a = M.1.length then 0 else mJ M a b, fun a b => if a = M.1.length then none else mR M a b)
theorem mI_clC (M : Mem) (k n a b : Nat) : mI (clC M k n) a b = if a = M.1.length then mI M k b else mI M a b := rfl
theorem mJ_clC (M : Mem) (k n a b : Nat) : mJ (clC M k n) a b = if a = M.1.length then 0 else mJ M a b := rfl
theorem mR_clC (M : Mem) (k n a b : Nat) : mR (clC M k n) a b = if a = M.1.length then none else mR M a b := rfl
theorem clC_len (M : Mem) (k n : Nat) : (clC M k n).1.length = M.1.length + 1 := by show (M.1 ++ [_]).length = _; simp
theorem okM_clC {M : Mem} {k n : Nat} (h : okM M) : okM (clC M k n) := by
  intro a b
  rw [mI_clC, mJ_clC, mR_clC, clC_len]
  by_cases e : a = M.1.length
  · rw [if_pos e, if_pos e, if_pos e]
    exact ⟨(h k b).1, ⟨by decide, by decide⟩, fun r hr => by cases hr⟩
  · rw [if_neg e, if_neg e, if_neg e]
    exact ⟨(h a b).1, (h a b).2.1, fun r hr => Nat.lt_succ_of_lt ((h a b).2.2 r hr)⟩
theorem wld_clC {dA : Nat → ClassId} {ad : Nat → Nat} {M : Mem} {k n q : Nat} (h : okM M) : wld dA (va_up ad M.1.length q) (clC M k n) = wld dA ad M ++ [(q, .inl (dA 0, n, .inl (fun i => Int32.ofInt (mI M k i))))] := by
  apply List.ext_getElem?
  intro i
  by_cases hi : i < M.1.length
  · rw [List.getElem?_append_left (by rw [wld_len]; exact hi)]
    have hs : M.1[i]? = some M.1[i] := List.getElem?_eq_getElem hi
    have hs2 : (clC M k n).1[i]? = some M.1[i] := by show (M.1 ++ [_])[i]? = _; rw [List.getElem?_append_left hi]; exact hs
    have hne : ¬ i = M.1.length := by omega
    rw [wld_at hs, wld_at hs2]
    rw [cellW_ext (M := M) (n := M.1.length) (fun j => by rw [mI_clC, if_neg hne]) (fun j => by rw [mJ_clC, if_neg hne]) (fun j => by rw [mR_clC, if_neg hne]) (fun j x hx => (h i j).2.2 x hx) (fun k hk => by unfold va_up; rw [if_neg (by omega)])]
    unfold va_up
    rw [if_neg hne]
  · rw [List.getElem?_append_right (by rw [wld_len]; omega), wld_len]
    by_cases hi2 : i = M.1.length
    · subst hi2
      have hs2 : (clC M k n).1[M.1.length]? = some (.inr (0, n)) := by show (M.1 ++ [_])[M.1.length]? = _; simp
      rw [wld_at hs2, Nat.sub_self]
      have ec : cellW dA (va_up ad M.1.length q) (clC M k n) M.1.length (.inr (0, n)) = .inl (dA 0, n, .inl (fun i => Int32.ofInt (mI M k i))) := by
        show Sum.inl (dA 0, n, Sum.inl (fun i => Int32.ofInt (mI (clC M k n) M.1.length i))) = _
        congr 4
        funext i
        rw [mI_clC, if_pos rfl]
      rw [ec]
      unfold va_up
      rw [if_pos rfl]
      rfl
    · rw [List.getElem?_eq_none (by rw [wld_len, clC_len]; omega), List.getElem?_eq_none (by simp; omega)]
section VCL
variable {l : Launch} {D : MD} {pc pc' tgt : Nat} {L L' : List (Option AV)} {st : List AV} {M : Mem} {kc ks : Nat} {Q : Option AV → Mem → Prop}
theorem nmI {dC : Nat → ClassId} {dI : Nat → Nat → Nat} {dA : Nat → ClassId} {s : State} (h : va_K (dC, dI) vwCl (tysA dA) s) : s.vm.findClass "[I" = some (dA 0) := (h.2 0 (dA 0, .int) rfl).2
theorem vc_clone {idx k n : Nat} (hd : At (mB D) pc (.invokevirtual idx) 3 pc') (hlk : Cond.methodLink (mY D).cls idx ⟨"[I", "clone", "()Ljava/lang/Object;"⟩ ∈ tblG) (hs : M.1[k]? = some (.inr (0, n))) (h1 : kc + 1 ≤ mC D) (h2 : ks + n ≤ mS D) (hsum : (st.map catA).sum ≤ 8) (kk : VC l D pc' L (aR M.1.length :: st) (clC M k n) (kc + 1) (ks + n) Q) : VC l D pc L (aR k :: st) M kc ks Q := by
  intro p e s m args below meth c dC dI dA ad0 n0 A ad H locs ls C hA h0 hn hst hL hW hS hl
  obtain ⟨hd, rfl⟩ := hd
  obtain ⟨_, hst⟩ := okS_cons.mp hst
  have hts := C.2.2.2.2.2.2.1
  have hK := C.2.2.2.2.2.2.2.1
  refine va_clone (ad := "[I") C.1 C.2.1 (by rw [C.2.2.2.2.1]; exact hl.1.symm) C.2.2.2.2.2.1 (hts _ hlk) (hts _ cl_same) (hts _ cl_nat) (hts _ cl_inst) (hts _ cl_sel) C.2.2.2.2.2.2.2.2.2.2.2.2.2.2 hK hW.2.1 hW.2.2 hS hA k 0 (wld_at hs) (ty := .int) rfl (nmI hK) ?_ (Nat.succ_le_succ (Nat.zero_le _)) ?_ h1 h2 hd ?_
  · intro i v hv
    have h3 : (arrV (dA 0) n (fun j => .int (Int32.ofInt (mI M k j)))).slots[i]? = some v := hv
    by_cases hi : i < n
    · rw [arrV_read _ _ hi] at h3
      cases h3
      rfl
    · rw [Array.getElem?_eq_none (by rw [arrV_size]; omega)] at h3
      cases h3
  · rw [cat_sum]
    show _ ≤ 64 * mV D + 64
    omega
  · intro q H1 hK1 hP1 hD1 hS1
    have hP2 : va_P (dC, dI) vwCl (wld dA (va_up ad M.1.length q) (clC M k n)) H1 := by rw [wld_clC hW.1]; exact hP1
    have hD2 : va_D A (wld dA (va_up ad M.1.length q) (clC M k n)) := by rw [wld_clC hW.1]; exact hD1
    have hext : ∀ k, k < M.1.length → va_up ad M.1.length q k = ad k := fun k hk => by unfold va_up; rw [if_neg (by omega)]
    have hlen : M.1.length ≤ (clC M k n).1.length := by rw [clC_len]; omega
    have k2 := kk p e s m args below meth c dC dI dA ad0 n0 A (va_up ad M.1.length q) H1 locs ls C hA (fun k hk => (hext k (by omega)).trans (h0 k hk)) (Nat.le_trans hn hlen) (okS_cons.mpr ⟨(by show M.1.length < (clC M k n).1.length; rw [clC_len]; omega), okS_mk hlen hst⟩) (okL_mk hlen hL) ⟨okM_clC hW.1, hP2, hD2⟩ hS1 (lvL_ext hL hext hl)
    have es : (aR M.1.length :: st).map (aV (va_up ad M.1.length q)) = .ref q :: st.map (aV ad) := by
      rw [List.map_cons, stk_ext hst hext]
      show Value.ref (va_up ad M.1.length q M.1.length) :: _ = _
      unfold va_up
      rw [if_pos rfl]
    rw [es] at k2
    exact k2
theorem vc_castI {idx k n : Nat} (hd : At (mB D) pc (.checkcast idx) 3 pc') (hlk : Cond.classLink (mY D).cls idx "[I" ∈ tblG) (hs : M.1[k]? = some (.inr (0, n))) (kk : VC l D pc' L (aR k :: st) M kc ks Q) : VC l D pc L (aR k :: st) M kc ks Q := by
  intro p e s m args below meth c dC dI dA ad0 n0 A ad H locs ls C hA h0 hn hst hL hW hS hl
  obtain ⟨hd, rfl⟩ := hd
  exact va_castA C.1 C.2.1 C.2.2.2.2.2.1 (C.2.2.2.2.2.2.1 _ hlk) hW.2.1 k (wld_at hs) (nmI C.2.2.2.2.2.2.2.1) hd (kk p e s m args below meth c dC dI dA ad0 n0 A ad H locs ls C hA h0 hn hst hL hW hS hl)
/-- an answer that is a row -/
theorem vc_arow {r : Option Nat} {ty : FieldType} (hd : At (mB D) pc .areturn 1 pc') (hr : mT D = some (.array ty)) (h1 : kc ≤ mC D) (h2 : ks ≤ mS D) (hq : Q (some (.inr (.inr r))) M) : VC l D pc L [.inr (.inr r)] M kc ks Q := by
  intro p e s m args below meth c dC dI dA ad0 n0 A ad H locs ls C hA h0 hn hst hL hW hS hl
  obtain ⟨hd, rfl⟩ := hd
  obtain ⟨hx, hst⟩ := okS_cons.mp hst
  refine W.widen h1 h2 ?_
  exact W.aret (v := va_rf (r.map ad)) C.1 C.2.1 (C.2.2.1.trans hr) (Or.inr ⟨_, rfl⟩) (by cases r with | none => exact Or.inl rfl | some x => exact Or.inr ⟨_, rfl⟩) (fun t ht hw => ⟨some (.inr (.inr r)), M, ad, rfl, hq, hx, h0, hn, by rw [ht]; exact hW, va_K.moved hw.alike C.2.2.2.2.2.2.2.1, hS.F ht⟩) hS.2.2 hd C.2.2.2.1
end VCL

