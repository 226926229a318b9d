def Byt (c : ByteArray) (p b : Nat) : Prop := ∃ h : p < c.size, (c[p]'h).toNat = b
theorem u1_run {c : ByteArray} {p b : Nat} (h : Byt c p b) : (Jvm.ClassFile.Reader.u1 : Jvm.ClassFile.Decoder Nat) c p = .ok (b, p + 1) := by
  obtain ⟨h1, h2⟩ := h
  unfold Jvm.ClassFile.Reader.u1
  show (dite (p < c.size) (fun h => (do set (p + 1); Pure.pure (c[p]'h).toNat : Jvm.ClassFile.Decoder Nat)) (fun _ => throw (Jvm.ClassFile.HasTruncated.truncated p))) c p = _
  rw [dif_pos h1]
  subst h2
  rfl
theorem bind_run {α β : Type} {x : Jvm.ClassFile.Decoder α} {f : α → Jvm.ClassFile.Decoder β} {c : ByteArray} {p q : Nat} {a : α} (h : x c p = .ok (a, q)) : (x >>= f) c p = f a c q := by
  have e : (x >>= f) c p = Except.bind (x c p) (fun v => f v.1 c v.2) := rfl
  rw [e, h]
  rfl
theorem dec_of {c : ByteArray} {p q : Nat} {i : Instr} (h : (Jvm.ClassFile.Decoder.instr p) c p = .ok (i, q)) : decode c p = .ok (i, q - p) := by
  have e : decode c p = Except.bind ((Jvm.ClassFile.Decoder.instr p) c p) (fun v => Except.ok (v.1, v.2 - p)) := rfl
  rw [e, h]
  rfl
theorem u2_run {c : ByteArray} {p a b : Nat} (h1 : Byt c p a) (h2 : Byt c (p + 1) b) : (Jvm.ClassFile.Reader.u2 : Jvm.ClassFile.Decoder Nat) c p = .ok (a * 256 + b, p + 1 + 1) := by
  unfold Jvm.ClassFile.Reader.u2
  rw [bind_run (u1_run h1), bind_run (u1_run h2)]
  rfl
theorem s1_run {c : ByteArray} {p a : Nat} (h : Byt c p a) : (Jvm.ClassFile.Reader.s1 : Jvm.ClassFile.Decoder Int) c p = .ok (Jvm.ClassFile.Reader.signed 8 a, p + 1) := by
  have e : (Jvm.ClassFile.Reader.s1 : Jvm.ClassFile.Decoder Int) c p = Except.bind ((Jvm.ClassFile.Reader.u1 : Jvm.ClassFile.Decoder Nat) c p) (fun v => Except.ok (Jvm.ClassFile.Reader.signed 8 v.1, v.2)) := rfl
  rw [e, u1_run h]
  rfl
theorem s2_run {c : ByteArray} {p a b : Nat} (h1 : Byt c p a) (h2 : Byt c (p + 1) b) : (Jvm.ClassFile.Reader.s2 : Jvm.ClassFile.Decoder Int) c p = .ok (Jvm.ClassFile.Reader.signed 16 (a * 256 + b), p + 1 + 1) := by
  have e : (Jvm.ClassFile.Reader.s2 : Jvm.ClassFile.Decoder Int) c p = Except.bind ((Jvm.ClassFile.Reader.u2 : Jvm.ClassFile.Decoder Nat) c p) (fun v => Except.ok (Jvm.ClassFile.Reader.signed 16 v.1, v.2)) := rfl
  rw [e, u2_run h1 h2]
  rfl
theorem byt_ck {c : ByteArray} {lo k m b : Nat} {x : UInt8} {C : List UInt8} (h : ((Array.toList (ByteArray.data c)).drop lo).take m = C) (hk : C[k]? = some x) (hx : x.toNat = b) : Byt c (lo + k) b := by
  have e : (Array.toList (ByteArray.data c))[lo + k]? = some x := by
    rw [← List.getElem?_drop]
    rw [← h, List.getElem?_take] at hk
    split at hk
    · exact hk
    · cases hk
  obtain ⟨h1, h2⟩ := List.getElem?_eq_some_iff.mp e
  refine ⟨h1, ?_⟩
  rw [← hx]
  exact congrArg UInt8.toNat h2

set_option maxRecDepth 20000 in
theorem o187 {c : ByteArray} {p a b : Nat} (v : Nat) (h : Byt c p 187) (h1 : Byt c (p + 1) a) (h2 : Byt c (p + 1 + 1) b) (hv : (a * 256 + b) = v) : decode c p = .ok ((.new v), 3) := by
  have e : (Jvm.ClassFile.Decoder.instr p) c p = .ok ((.new v), p + 1 + 1 + 1) := by
    unfold Jvm.ClassFile.Decoder.instr
    rw [bind_run (u1_run h)]
    subst hv
    exact bind_run (u2_run h1 h2)
  rw [dec_of e, show p + 1 + 1 + 1 - p = 3 by omega]
set_option maxRecDepth 20000 in
theorem o89 {c : ByteArray} {p : Nat} (h : Byt c p 89) : decode c p = .ok ((.dup), 1) := by
  have e : (Jvm.ClassFile.Decoder.instr p) c p = .ok ((.dup), p + 1) := by
    unfold Jvm.ClassFile.Decoder.instr
    rw [bind_run (u1_run h)]
    rfl
  rw [dec_of e, Nat.add_sub_cancel_left]
set_option maxRecDepth 20000 in
theorem o183 {c : ByteArray} {p a b : Nat} (v : Nat) (h : Byt c p 183) (h1 : Byt c (p + 1) a) (h2 : Byt c (p + 1 + 1) b) (hv : (a * 256 + b) = v) : decode c p = .ok ((.invokespecial v), 3) := by
  have e : (Jvm.ClassFile.Decoder.instr p) c p = .ok ((.invokespecial v), p + 1 + 1 + 1) := by
    unfold Jvm.ClassFile.Decoder.instr
    rw [bind_run (u1_run h)]
    subst hv
    exact bind_run (u2_run h1 h2)
  rw [dec_of e, show p + 1 + 1 + 1 - p = 3 by omega]
set_option maxRecDepth 20000 in
theorem o76 {c : ByteArray} {p : Nat} (h : Byt c p 76) : decode c p = .ok ((.astore_n 1), 1) := by
  have e : (Jvm.ClassFile.Decoder.instr p) c p = .ok ((.astore_n 1), p + 1) := by
    unfold Jvm.ClassFile.Decoder.instr
    rw [bind_run (u1_run h)]
    rfl
  rw [dec_of e, Nat.add_sub_cancel_left]
set_option maxRecDepth 20000 in
theorem o77 {c : ByteArray} {p : Nat} (h : Byt c p 77) : decode c p = .ok ((.astore_n 2), 1) := by
  have e : (Jvm.ClassFile.Decoder.instr p) c p = .ok ((.astore_n 2), p + 1) := by
    unfold Jvm.ClassFile.Decoder.instr
    rw [bind_run (u1_run h)]
    rfl
  rw [dec_of e, Nat.add_sub_cancel_left]
set_option maxRecDepth 20000 in
theorem o3 {c : ByteArray} {p : Nat} (h : Byt c p 3) : decode c p = .ok ((.iconst 0), 1) := by
  have e : (Jvm.ClassFile.Decoder.instr p) c p = .ok ((.iconst 0), p + 1) := by
    unfold Jvm.ClassFile.Decoder.instr
    rw [bind_run (u1_run h)]
    rfl
  rw [dec_of e, Nat.add_sub_cancel_left]
set_option maxRecDepth 20000 in
theorem o62 {c : ByteArray} {p : Nat} (h : Byt c p 62) : decode c p = .ok ((.istore_n 3), 1) := by
  have e : (Jvm.ClassFile.Decoder.instr p) c p = .ok ((.istore_n 3), p + 1) := by
    unfold Jvm.ClassFile.Decoder.instr
    rw [bind_run (u1_run h)]
    rfl
  rw [dec_of e, Nat.add_sub_cancel_left]
set_option maxRecDepth 20000 in
theorem o29 {c : ByteArray} {p : Nat} (h : Byt c p 29) : decode c p = .ok ((.iload_n 3), 1) := by
  have e : (Jvm.ClassFile.Decoder.instr p) c p = .ok ((.iload_n 3), p + 1) := by
    unfold Jvm.ClassFile.Decoder.instr
    rw [bind_run (u1_run h)]
    rfl
  rw [dec_of e, Nat.add_sub_cancel_left]
set_option maxRecDepth 20000 in
theorem o42 {c : ByteArray} {p : Nat} (h : Byt c p 42) : decode c p = .ok ((.aload_n 0), 1) := by
  have e : (Jvm.ClassFile.Decoder.instr p) c p = .ok ((.aload_n 0), p + 1) := by
    unfold Jvm.ClassFile.Decoder.instr
    rw [bind_run (u1_run h)]
    rfl
  rw [dec_of e, Nat.add_sub_cancel_left]
set_option maxRecDepth 20000 in
theorem o190 {c : ByteArray} {p : Nat} (h : Byt c p 190) : decode c p = .ok ((.arraylength), 1) := by
  have e : (Jvm.ClassFile.Decoder.instr p) c p = .ok ((.arraylength), p + 1) := by
    unfold Jvm.ClassFile.Decoder.instr
    rw [bind_run (u1_run h)]
    rfl
  rw [dec_of e, Nat.add_sub_cancel_left]
set_option maxRecDepth 20000 in
theorem o16 {c : ByteArray} {p a : Nat} (v : Int) (h : Byt c p 16) (h1 : Byt c (p + 1) a) (hv : (Jvm.ClassFile.Reader.signed 8 a) = v) : decode c p = .ok ((.bipush v), 2) := by
  have e : (Jvm.ClassFile.Decoder.instr p) c p = .ok ((.bipush v), p + 1 + 1) := by
    unfold Jvm.ClassFile.Decoder.instr
    rw [bind_run (u1_run h)]
    subst hv
    exact bind_run (s1_run h1)
  rw [dec_of e, show p + 1 + 1 - p = 2 by omega]
set_option maxRecDepth 20000 in
theorem o100 {c : ByteArray} {p : Nat} (h : Byt c p 100) : decode c p = .ok ((.isub), 1) := by
  have e : (Jvm.ClassFile.Decoder.instr p) c p = .ok ((.isub), p + 1) := by
    unfold Jvm.ClassFile.Decoder.instr
    rw [bind_run (u1_run h)]
    rfl
  rw [dec_of e, Nat.add_sub_cancel_left]
set_option maxRecDepth 20000 in
theorem o163 {c : ByteArray} {p a b : Nat} (v : Int) (h : Byt c p 163) (h1 : Byt c (p + 1) a) (h2 : Byt c (p + 1 + 1) b) (hv : (Jvm.ClassFile.Reader.signed 16 (a * 256 + b)) = v) : decode c p = .ok ((.if_icmp .gt v), 3) := by
  have e : (Jvm.ClassFile.Decoder.instr p) c p = .ok ((.if_icmp .gt v), p + 1 + 1 + 1) := by
    unfold Jvm.ClassFile.Decoder.instr
    rw [bind_run (u1_run h)]
    subst hv
    exact bind_run (s2_run h1 h2)
  rw [dec_of e, show p + 1 + 1 + 1 - p = 3 by omega]
set_option maxRecDepth 20000 in
theorem o46 {c : ByteArray} {p : Nat} (h : Byt c p 46) : decode c p = .ok ((.iaload), 1) := by
  have e : (Jvm.ClassFile.Decoder.instr p) c p = .ok ((.iaload), p + 1) := by
    unfold Jvm.ClassFile.Decoder.instr
    rw [bind_run (u1_run h)]
    rfl
  rw [dec_of e, Nat.add_sub_cancel_left]
set_option maxRecDepth 20000 in
theorem o126 {c : ByteArray} {p : Nat} (h : Byt c p 126) : decode c p = .ok ((.iand), 1) := by
  have e : (Jvm.ClassFile.Decoder.instr p) c p = .ok ((.iand), p + 1) := by
    unfold Jvm.ClassFile.Decoder.instr
    rw [bind_run (u1_run h)]
    rfl
  rw [dec_of e, Nat.add_sub_cancel_left]
set_option maxRecDepth 20000 in
theorem o43 {c : ByteArray} {p : Nat} (h : Byt c p 43) : decode c p = .ok ((.aload_n 1), 1) := by
  have e : (Jvm.ClassFile.Decoder.instr p) c p = .ok ((.aload_n 1), p + 1) := by
    unfold Jvm.ClassFile.Decoder.instr
    rw [bind_run (u1_run h)]
    rfl
  rw [dec_of e, Nat.add_sub_cancel_left]
set_option maxRecDepth 20000 in
theorem o4 {c : ByteArray} {p : Nat} (h : Byt c p 4) : decode c p = .ok ((.iconst 1), 1) := by
  have e : (Jvm.ClassFile.Decoder.instr p) c p = .ok ((.iconst 1), p + 1) := by
    unfold Jvm.ClassFile.Decoder.instr
    rw [bind_run (u1_run h)]
    rfl
  rw [dec_of e, Nat.add_sub_cancel_left]
set_option maxRecDepth 20000 in
theorem o96 {c : ByteArray} {p : Nat} (h : Byt c p 96) : decode c p = .ok ((.iadd), 1) := by
  have e : (Jvm.ClassFile.Decoder.instr p) c p = .ok ((.iadd), p + 1) := by
    unfold Jvm.ClassFile.Decoder.instr
    rw [bind_run (u1_run h)]
    rfl
  rw [dec_of e, Nat.add_sub_cancel_left]
set_option maxRecDepth 20000 in
theorem o182 {c : ByteArray} {p a b : Nat} (v : Nat) (h : Byt c p 182) (h1 : Byt c (p + 1) a) (h2 : Byt c (p + 1 + 1) b) (hv : (a * 256 + b) = v) : decode c p = .ok ((.invokevirtual v), 3) := by
  have e : (Jvm.ClassFile.Decoder.instr p) c p = .ok ((.invokevirtual v), p + 1 + 1 + 1) := by
    unfold Jvm.ClassFile.Decoder.instr
    rw [bind_run (u1_run h)]
    subst hv
    exact bind_run (u2_run h1 h2)
  rw [dec_of e, show p + 1 + 1 + 1 - p = 3 by omega]
set_option maxRecDepth 20000 in
theorem o87 {c : ByteArray} {p : Nat} (h : Byt c p 87) : decode c p = .ok ((.pop), 1) := by
  have e : (Jvm.ClassFile.Decoder.instr p) c p = .ok ((.pop), p + 1) := by
    unfold Jvm.ClassFile.Decoder.instr
    rw [bind_run (u1_run h)]
    rfl
  rw [dec_of e, Nat.add_sub_cancel_left]
set_option maxRecDepth 20000 in
theorem o44 {c : ByteArray} {p : Nat} (h : Byt c p 44) : decode c p = .ok ((.aload_n 2), 1) := by
  have e : (Jvm.ClassFile.Decoder.instr p) c p = .ok ((.aload_n 2), p + 1) := by
    unfold Jvm.ClassFile.Decoder.instr
    rw [bind_run (u1_run h)]
    rfl
  rw [dec_of e, Nat.add_sub_cancel_left]
set_option maxRecDepth 20000 in
theorem o167 {c : ByteArray} {p a b : Nat} (v : Int) (h : Byt c p 167) (h1 : Byt c (p + 1) a) (h2 : Byt c (p + 1 + 1) b) (hv : (Jvm.ClassFile.Reader.signed 16 (a * 256 + b)) = v) : decode c p = .ok ((.goto v), 3) := by
  have e : (Jvm.ClassFile.Decoder.instr p) c p = .ok ((.goto v), p + 1 + 1 + 1) := by
    unfold Jvm.ClassFile.Decoder.instr
    rw [bind_run (u1_run h)]
    subst hv
    exact bind_run (s2_run h1 h2)
  rw [dec_of e, show p + 1 + 1 + 1 - p = 3 by omega]
set_option maxRecDepth 20000 in
theorem o5 {c : ByteArray} {p : Nat} (h : Byt c p 5) : decode c p = .ok ((.iconst 2), 1) := by
  have e : (Jvm.ClassFile.Decoder.instr p) c p = .ok ((.iconst 2), p + 1) := by
    unfold Jvm.ClassFile.Decoder.instr
    rw [bind_run (u1_run h)]
    rfl
  rw [dec_of e, Nat.add_sub_cancel_left]
set_option maxRecDepth 20000 in
theorem o6 {c : ByteArray} {p : Nat} (h : Byt c p 6) : decode c p = .ok ((.iconst 3), 1) := by
  have e : (Jvm.ClassFile.Decoder.instr p) c p = .ok ((.iconst 3), p + 1) := by
    unfold Jvm.ClassFile.Decoder.instr
    rw [bind_run (u1_run h)]
    rfl
  rw [dec_of e, Nat.add_sub_cancel_left]
set_option maxRecDepth 20000 in
theorem o7 {c : ByteArray} {p : Nat} (h : Byt c p 7) : decode c p = .ok ((.iconst 4), 1) := by
  have e : (Jvm.ClassFile.Decoder.instr p) c p = .ok ((.iconst 4), p + 1) := by
    unfold Jvm.ClassFile.Decoder.instr
    rw [bind_run (u1_run h)]
    rfl
  rw [dec_of e, Nat.add_sub_cancel_left]
set_option maxRecDepth 20000 in
theorem o153 {c : ByteArray} {p a b : Nat} (v : Int) (h : Byt c p 153) (h1 : Byt c (p + 1) a) (h2 : Byt c (p + 1 + 1) b) (hv : (Jvm.ClassFile.Reader.signed 16 (a * 256 + b)) = v) : decode c p = .ok ((.ifCond .eq v), 3) := by
  have e : (Jvm.ClassFile.Decoder.instr p) c p = .ok ((.ifCond .eq v), p + 1 + 1 + 1) := by
    unfold Jvm.ClassFile.Decoder.instr
    rw [bind_run (u1_run h)]
    subst hv
    exact bind_run (s2_run h1 h2)
  rw [dec_of e, show p + 1 + 1 + 1 - p = 3 by omega]
set_option maxRecDepth 20000 in
theorem o8 {c : ByteArray} {p : Nat} (h : Byt c p 8) : decode c p = .ok ((.iconst 5), 1) := by
  have e : (Jvm.ClassFile.Decoder.instr p) c p = .ok ((.iconst 5), p + 1) := by
    unfold Jvm.ClassFile.Decoder.instr
    rw [bind_run (u1_run h)]
    rfl
  rw [dec_of e, Nat.add_sub_cancel_left]
set_option maxRecDepth 20000 in
theorem o88 {c : ByteArray} {p : Nat} (h : Byt c p 88) : decode c p = .ok ((.pop2), 1) := by
  have e : (Jvm.ClassFile.Decoder.instr p) c p = .ok ((.pop2), p + 1) := by
    unfold Jvm.ClassFile.Decoder.instr
    rw [bind_run (u1_run h)]
    rfl
  rw [dec_of e, Nat.add_sub_cancel_left]
set_option maxRecDepth 20000 in
theorem o159 {c : ByteArray} {p a b : Nat} (v : Int) (h : Byt c p 159) (h1 : Byt c (p + 1) a) (h2 : Byt c (p + 1 + 1) b) (hv : (Jvm.ClassFile.Reader.signed 16 (a * 256 + b)) = v) : decode c p = .ok ((.if_icmp .eq v), 3) := by
  have e : (Jvm.ClassFile.Decoder.instr p) c p = .ok ((.if_icmp .eq v), p + 1 + 1 + 1) := by
    unfold Jvm.ClassFile.Decoder.instr
    rw [bind_run (u1_run h)]
    subst hv
    exact bind_run (s2_run h1 h2)
  rw [dec_of e, show p + 1 + 1 + 1 - p = 3 by omega]
set_option maxRecDepth 20000 in
theorem o172 {c : ByteArray} {p : Nat} (h : Byt c p 172) : decode c p = .ok ((.ireturn), 1) := by
  have e : (Jvm.ClassFile.Decoder.instr p) c p = .ok ((.ireturn), p + 1) := by
    unfold Jvm.ClassFile.Decoder.instr
    rw [bind_run (u1_run h)]
    rfl
  rw [dec_of e, Nat.add_sub_cancel_left]
