/-! BASE: words, method descriptors, links. -/
def tblG : List Cond := lw_tbl.filter goodWord
theorem tblG_good {w : Cond} (h : w ∈ tblG) : (w.onTables && w.keeps) = true ∨ ∃ ty, w = .arrayClass ty := good_of_word (List.mem_filter.mp h).2
theorem tblG_in {w : Cond} (h : w ∈ tblG) : w ∈ lw_tbl := (List.mem_filter.mp h).1
/-- a method: its name, its bytes, its locals, what it answers; its level (room), the cells and slots that it may make -/
abbrev MD : Type := MethodName × ByteArray × Nat × Option FieldType × Nat × Nat × Nat
abbrev mY (D : MD) : MethodName := D.1
abbrev mB (D : MD) : ByteArray := D.2.1
abbrev mN (D : MD) : Nat := D.2.2.1
abbrev mT (D : MD) : Option FieldType := D.2.2.2.1
abbrev mV (D : MD) : Nat := D.2.2.2.2.1
abbrev mC (D : MD) : Nat := D.2.2.2.2.2.1
abbrev mS (D : MD) : Nat := D.2.2.2.2.2.2
def At (cc : ByteArray) (pc : Nat) (i : Instr) (len pc' : Nat) : Prop := decode cc pc = .ok (i, len) ∧ pc + len = pc'
def AtB (cc : ByteArray) (pc : Nat) (i : Instr) (off : Int) (pc' tgt : Nat) : Prop := decode cc pc = .ok (i, 3) ∧ pc + 3 = pc' ∧ (pc : Int) + off = (tgt : Int)
/-- the pool's entry idx of the class own is the j-th field of the class ci -/
def FLk (own : String) (idx ci j : Nat) : Prop := ∃ (C : String) (T : u_T) (N : Nat), vwCl[ci]? = some (C, T, N) ∧ j < N ∧ (T j).1 = C ∧ Cond.fieldLink own idx C (T j).2.1 (T j).2.2.1 ∈ tblG
/-- as FLk, for writes: not final, or written by the class's own constructor -/
def PLk (D : MD) (idx ci j : Nat) : Prop := ∃ (C : String) (T : u_T) (N : Nat), vwCl[ci]? = some (C, T, N) ∧ j < N ∧ (T j).1 = C ∧ Cond.fieldLink (mY D).cls idx C (T j).2.1 (T j).2.2.1 ∈ tblG ∧ ((T j).2.2.2 = false ∨ ((T j).2.2.2 = true ∧ (mY D).name = "<init>" ∧ C = (mY D).cls))
/-- what every call of D needs of the tables -/
def MOk (D : MD) (n : Nat) : Prop := Cond.code (mY D) (mB D) (mN D) (mT D) ∈ tblG ∧ Cond.initialized (mY D).cls ∈ tblG ∧ ((mY D).cls ≠ "java/lang/invoke/MethodHandle" ∧ (mY D).cls ≠ "java/lang/invoke/VarHandle" ∧ (parseMethodDescriptor (mY D).desc).map (fun d => d.parameters.length) = some n) ∧ mN D ≤ 45
def MVi (D : MD) : Prop := Cond.instanceMethod (mY D) ∈ tblG ∧ Cond.selects (mY D).cls (mY D) (mY D) ∈ tblG
def MSt (D : MD) : Prop := Cond.static (mY D) ∈ tblG
def LkM (own : String) (idx : Nat) (D : MD) : Prop := Cond.methodLink own idx (mY D) ∈ tblG
/-! OUTSIDE THE WORLD (written by wip/whole/gen_ext.py) -/
def wTxt : String := "swaps leaves mixes pace asks corner street lane goal teller telling start walk turn ask follow to facing at of end least most left right on back who here asked turns face told narrow sight way "
def wByt : List Int32 := [115, 119, 97, 112, 115, 32, 108, 101, 97, 118, 101, 115, 32, 109, 105, 120, 101, 115, 32, 112, 97, 99, 101, 32, 97, 115, 107, 115, 32, 99, 111, 114, 110, 101, 114, 32, 115, 116, 114, 101, 101, 116, 32, 108, 97, 110, 101, 32, 103, 111, 97, 108, 32, 116, 101, 108, 108, 101, 114, 32, 116, 101, 108, 108, 105, 110, 103, 32, 115, 116, 97, 114, 116, 32, 119, 97, 108, 107, 32, 116, 117, 114, 110, 32, 97, 115, 107, 32, 102, 111, 108, 108, 111, 119, 32, 116, 111, 32, 102, 97, 99, 105, 110, 103, 32, 97, 116, 32, 111, 102, 32, 101, 110, 100, 32, 108, 101, 97, 115, 116, 32, 109, 111, 115, 116, 32, 108, 101, 102, 116, 32, 114, 105, 103, 104, 116, 32, 111, 110, 32, 98, 97, 99, 107, 32, 119, 104, 111, 32, 104, 101, 114, 101, 32, 97, 115, 107, 101, 100, 32, 116, 117, 114, 110, 115, 32, 102, 97, 99, 101, 32, 116, 111, 108, 100, 32, 110, 97, 114, 114, 111, 119, 32, 115, 105, 103, 104, 116, 32, 119, 97, 121, 32]
def wLen : Nat := 193
def nw0 : Cond := .methodLinkNest RX6 81 yX11_isDirection "SecondLeft"
def nw1 : Cond := .methodLinkNest RX6 84 yX11_isSlip "SecondLeft"
def nw2 : Cond := .methodLinkNest RX9 39 yX11_isDirection "SecondLeft"
def nw3 : Cond := .methodLinkNest RX2 57 yX11_held "SecondLeft"
def Ext (A : Nat → Prop) (U : State) (H : Heap) : Prop := (va_Nw nw0 U ∧ va_Nw nw1 U ∧ va_Nw nw2 U ∧ va_Nw nw3 U) ∧ va_AO "SecondLeft$Text" U ∧ (∃ adK adV : Nat → Nat, vk_S 1 [wLen] [wByt] adK adV A U H ∧ vk_R "SecondLeft$Reader" 107 wTxt (adK 0) U) ∧ va_Z "java/lang/String" "COMPACT_STRINGS" "Z" (.int 1) A U H ∧ va_Zq "jdk/internal/util/Preconditions" "SIOOBE_FORMATTER" "Ljava/util/function/BiFunction;" A U H
theorem Ext.same {A : Nat → Prop} {u U : State} {H : Heap} (hv : u.vm = U.vm) (h : Ext A u H) : Ext A U H := by
  obtain ⟨⟨n0, n1, n2, n3⟩, h2, ⟨adK, adV, h3, h4⟩, h5, h6⟩ := h
  have ha : u.vm.Alike U.vm := by rw [hv]; exact Vm.Alike.refl _
  exact ⟨⟨va_Nw.same rfl hv n0, va_Nw.same rfl hv n1, va_Nw.same rfl hv n2, va_Nw.same rfl hv n3⟩, h2.moved ha, ⟨adK, adV, h3.moved ha, vk_R.same hv.symm h4⟩, h5.moved ha, h6.moved ha⟩
theorem Ext.warm {A : Nat → Prop} {u U : State} {H : Heap} (hv : u.WarmedH U.vm) (h : Ext A u H) : Ext A U H := by
  obtain ⟨⟨n0, n1, n2, n3⟩, h2, ⟨adK, adV, h3, h4⟩, h5, h6⟩ := h
  have ha : u.vm.Alike U.vm := hv.alike
  exact ⟨⟨va_Nw.warmM hv n0, va_Nw.warmM hv n1, va_Nw.warmM hv n2, va_Nw.warmM hv n3⟩, h2.moved ha, ⟨adK, adV, h3.moved ha, vk_R.warm hv h4⟩, h5.moved ha, h6.moved ha⟩
theorem Ext.kept {A : Nat → Prop} {U : State} {H H1 : Heap} (h : Ext A U H) (hq : ∀ a : Nat, a < H.size → ¬ A a → H1[a]? = H[a]?) : Ext A U H1 := by
  obtain ⟨h1, h2, ⟨adK, adV, h3, h4⟩, h5, h6⟩ := h
  exact ⟨h1, h2, ⟨adK, adV, h3.kept hq, h4⟩, h5.kept hq, h6.kept hq⟩
theorem Ext.narrow {A B : Nat → Prop} {U : State} {H : Heap} (h : Ext A U H) (hAB : ∀ q, B q → A q) : Ext B U H := by
  obtain ⟨h1, h2, ⟨adK, adV, h3, h4⟩, h5, h6⟩ := h
  exact ⟨h1, h2, ⟨adK, adV, h3.narrow hAB, h4⟩, h5.narrow hAB, h6.narrow hAB⟩
