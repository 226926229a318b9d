/-! BASE: words, method descriptors, links. -/
def tblG : List Cond := lw_tbl.filter goodWord
theorem tblG_good {w : Cond} (h : w ∈ tblG) : (w.onTables && w.keeps) = true ∨ ∃ ty, w = .arrayClass ty := good_of_word (List.mem_filter.mp h).2
theorem tblG_in {w : Cond} (h : w ∈ tblG) : w ∈ lw_tbl := (List.mem_filter.mp h).1
/-- a method: its name, its bytes, its locals, what it answers; its level (room), the cells and slots that it may make -/
abbrev MD : Type := MethodName × ByteArray × Nat × Option FieldType × Nat × Nat × Nat
abbrev mY (D : MD) : MethodName := D.1
abbrev mB (D : MD) : ByteArray := D.2.1
abbrev mN (D : MD) : Nat := D.2.2.1
abbrev mT (D : MD) : Option FieldType := D.2.2.2.1
abbrev mV (D : MD) : Nat := D.2.2.2.2.1
abbrev mC (D : MD) : Nat := D.2.2.2.2.2.1
abbrev mS (D : MD) : Nat := D.2.2.2.2.2.2
def At (cc : ByteArray) (pc : Nat) (i : Instr) (len pc' : Nat) : Prop := decode cc pc = .ok (i, len) ∧ pc + len = pc'
def AtB (cc : ByteArray) (pc : Nat) (i : Instr) (off : Int) (pc' tgt : Nat) : Prop := decode cc pc = .ok (i, 3) ∧ pc + 3 = pc' ∧ (pc : Int) + off = (tgt : Int)
/-- the pool's entry idx of the class own is the j-th field of the class ci -/
def FLk (own : String) (idx ci j : Nat) : Prop := ∃ (C : String) (T : u_T) (N : Nat), vwCl[ci]? = some (C, T, N) ∧ j < N ∧ (T j).1 = C ∧ Cond.fieldLink own idx C (T j).2.1 (T j).2.2.1 ∈ tblG
/-- as FLk, for writes: not final, or written by the class's own constructor -/
def PLk (D : MD) (idx ci j : Nat) : Prop := ∃ (C : String) (T : u_T) (N : Nat), vwCl[ci]? = some (C, T, N) ∧ j < N ∧ (T j).1 = C ∧ Cond.fieldLink (mY D).cls idx C (T j).2.1 (T j).2.2.1 ∈ tblG ∧ ((T j).2.2.2 = false ∨ ((T j).2.2.2 = true ∧ (mY D).name = "<init>" ∧ C = (mY D).cls))
/-- what every call of D needs of the tables -/
def MOk (D : MD) (n : Nat) : Prop := Cond.code (mY D) (mB D) (mN D) (mT D) ∈ tblG ∧ Cond.initialized (mY D).cls ∈ tblG ∧ ((mY D).cls ≠ "java/lang/invoke/MethodHandle" ∧ (mY D).cls ≠ "java/lang/invoke/VarHandle" ∧ (parseMethodDescriptor (mY D).desc).map (fun d => d.parameters.length) = some n) ∧ mN D ≤ 45
def MVi (D : MD) : Prop := Cond.instanceMethod (mY D) ∈ tblG ∧ Cond.selects (mY D).cls (mY D) (mY D) ∈ tblG
def MSt (D : MD) : Prop := Cond.static (mY D) ∈ tblG
def LkM (own : String) (idx : Nat) (D : MD) : Prop := Cond.methodLink own idx (mY D) ∈ tblG
