/-! THE WORDS' STRING: length and charAt of the JDK, over the one literal. -/
def SX (adK adV : Nat → Nat) (A : Nat → Prop) (U : State) (H : Heap) : Prop := vk_S 1 [wLen] [wByt] adK adV A U H ∧ va_Z "java/lang/String" "COMPACT_STRINGS" "Z" (.int 1) A U H ∧ va_Zq "jdk/internal/util/Preconditions" "SIOOBE_FORMATTER" "Ljava/util/function/BiFunction;" A U H
theorem SX.moved {adK adV : Nat → Nat} {A : Nat → Prop} {u U : State} {H : Heap} (ha : u.vm.Alike U.vm) (h : SX adK adV A u H) : SX adK adV A U H := ⟨h.1.moved ha, h.2.1.moved ha, h.2.2.moved ha⟩
def SPc (adK adV : Nat → Nat) (A : Nat → Prop) (av : List Value) : Array Value → State → Prop := va_Pc av (fun U => SX adK adV A U U.heap)
def SQc (r : Option Value) : Array Value → State → Outcome → State → Prop := fun _ st oc t => oc = .returned r ∧ t.heap = st.heap
def SMet (l : Launch) (D : MD) (adK adV : Nat → Nat) (A : Nat → Prop) (av : List Value) (r : Option Value) : Prop := Met l (mY D) (wsD D) (rmD D) (SPc adK adV A av) (SQc r) 0 0 (fun _ => False)
theorem SPc_blind {adK adV : Nat → Nat} {A : Nat → Prop} {av : List Value} : FrameBlind (SPc adK adV A av) := by
  intro a U g mk q
  obtain ⟨q0, q1⟩ := q
  exact ⟨q0, SX.moved (u := U) (U := U.calling g mk a) (Vm.Alike.refl U.vm) q1⟩
def SCx (D : MD) (p : Program) (s : State) (m : MethodId) (args : Array Value) (meth : Method) (c : Code) : Prop := p.tables.exec = Jvm.exec ∧ c.code = mB D ∧ meth.sig.returnType = mT D ∧ meth.locks = false ∧ c.maxLocals = mN D ∧ s.vm.findClass (mY D).cls = some m.cls ∧ (∀ w ∈ tblG, w.before args s = true)
theorem SMet.of {l : Launch} {D : MD} {adK adV : Nat → Nat} {A : Nat → Prop} {av : List Value} {r : Option Value} (hy : plainName (mY D).cls = true) (hn : (lg_sl av).length ≤ mN D)
    (h : ∀ (p : Program) (e : Env) (s : State) (m : MethodId) (below : List Frame) (meth : Method) (c : Code) (ls : Array Slot), SCx D p s m av.toArray meth c → SX adK adV A s s.heap → lv_has ls (mN D) (lv_args 0 av) → W p l e (rmD D) s m av.toArray below meth c s.heap [] 0 0 (MQ below (SQc r) av.toArray s 0 0 (fun _ => False)) (F0 m 0 ls [])) : SMet l D adK adV A av r := by
  refine Met.ofW (cc := mB D) (maxL := mN D) (ret := mT D) hy rfl ?_
  intro p e s m args below meth c s₁ B hml hv
  obtain ⟨rfl, hX⟩ := hv
  have hts : ∀ w ∈ wsD D, w.before _ s = true := atoms_spec (ws := wsD D) B.pre
  have hcx : SCx D p s m av.toArray meth c := ⟨B.exec, B.bytes, B.returns, B.notSynchronized, hml, findClass_of_methodNamed B.named, fun w hw => hts w (List.mem_cons_of_mem _ hw)⟩
  rw [lg_entry_eq]
  exact h p e s m below meth c _ hcx hX (lv_entry av (n := mN D) hn)
section SWA
variable {p : Program} {l : Launch} {e : Env} {R : Room} {s : State} {m : MethodId} {args : Array Value} {below : List Frame} {meth : Method} {c : Code} {H : Heap} {locs : List Loc} {cells slots : Nat} {Q : State → Prop}
theorem sw_after {pc : Nat} {ls : Array Slot} {st0 rest : List Value} {arr : Array Value} {r : Option Value} (hrun : va_Run p l e R s m args below meth c H locs cells slots 0 0 (F0 m pc ls st0) rest (SQc r arr) (fun _ => False)) (kk : W p l e R s m args below meth c H locs cells slots Q (F0 m (pc + 3) ls (r.toList ++ rest))) : W p l e R s m args below meth c H locs cells slots Q (F0 m pc ls st0) := by
  intro T hT X
  obtain ⟨v, st₀, t, T', L, e0, X', hL, e1, e2, ⟨ho, hh⟩, go⟩ := hrun T hT X
  cases ho
  have hLn : L = [] := by
    cases L with
    | nil => rfl
    | cons a b => exact absurd (hL a List.mem_cons_self) (fun h => h)
  subst hLn
  rw [List.append_nil] at X'
  obtain ⟨t2, a1, b1⟩ := kk T' (by rw [e1, hh, e0]) X'
  exact ⟨t2, go t2 a1, b1⟩
theorem sw_callS {D D' : MD} {pc idx n : Nat} {ls : Array Slot} {st0 rest : List Value} {adK adV : Nat → Nat} {A : Nat → Prop} {av : List Value} {r : Option Value} (C : SCx D p s m args meth c) (hX : SX adK adV A s H) (hR : R = rmD D) (hM : SMet l D' adK adV A av r) (hm : MOk D' n) (hv : MSt D') (hlk : LkM (mY D).cls idx D') (hlev : mV D' < mV D) (h0 : mC D' = 0 ∧ mS D' = 0) (hc : cells ≤ mC D ∧ slots ≤ mS D) (hn : av.length = n) (hls : ls.size = mN D) (hst : st0 = av.reverse ++ rest) (hW : 2 * 0 + (rest.map fun v => v.category).sum ≤ 8) (hdg : decode (mB D) pc = .ok (.invokestatic idx, 3)) (kk : W p l e R s m args below meth c H locs cells slots Q (F0 m (pc + 3) ls (r.toList ++ rest))) : W p l e R s m args below meth c H locs cells slots Q (F0 m pc ls st0) := by
  subst hR
  have hts := C.2.2.2.2.2.2
  have hcb : CallB (rmD D) s args (mY D).cls idx (mY D') (mB D') (mN D') (mT D') (wsD D') (rmD D') 0 0 n := callB_of n hts (wsD_good hm) rfl h0.1 h0.2 (hts _ hm.2.1) (hts _ hlk) hm.2.2.1 (rmD_room hlev hm.2.2.2)
  exact sw_after (va_runS (As := av) (rest := rest) ⟨C.1, C.2.1, C.2.2.2.2.1, C.2.2.2.2.2.1, hts⟩ hM ⟨hcb, hts _ hv⟩ ⟨SPc_blind, fun U hU hWm => ⟨rfl, by show SX adK adV A U U.heap; rw [hU]; exact hX.moved hWm.alike⟩⟩ rfl hn hls hst hW hdg hc) kk
theorem sw_callV {D D' : MD} {pc idx n b : Nat} {ls : Array Slot} {st0 rest : List Value} {adK adV : Nat → Nat} {A : Nat → Prop} {av : List Value} {r : Option Value} (hexec : p.tables.exec = Jvm.exec) (hcode : c.code = mB D) (hml : c.maxLocals = mN D) (hfc : s.vm.findClass (mY D).cls = some m.cls) (hts : ∀ w ∈ tblG, w.before args s = true) (hX : SX adK adV A s H) (hrc : ∃ cell : Cell, H[b]? = some cell ∧ cell.vm.isStatics = false ∧ s.vm.findClass (mY D').cls = some cell.cls) (hR : R = rmD D) (hM : SMet l D' adK adV A (.ref b :: av) r) (hm : MOk D' n) (hv : MVi D') (hlk : LkM (mY D).cls idx D') (hlev : mV D' < mV D) (h0 : mC D' = 0 ∧ mS D' = 0) (hc : cells ≤ mC D ∧ slots ≤ mS D) (hn : av.length = n) (hls : ls.size = mN D) (hst : st0 = av.reverse ++ .ref b :: rest) (hW : 2 * 0 + (rest.map fun v => v.category).sum ≤ 8) (hdg : decode (mB D) pc = .ok (.invokevirtual idx, 3)) (kk : W p l e R s m args below meth c H locs cells slots Q (F0 m (pc + 3) ls (r.toList ++ rest))) : W p l e R s m args below meth c H locs cells slots Q (F0 m pc ls st0) := by
  subst hR
  have hcb : CallB (rmD D) s args (mY D).cls idx (mY D') (mB D') (mN D') (mT D') (wsD D') (rmD D') 0 0 n := callB_of n hts (wsD_good hm) rfl h0.1 h0.2 (hts _ hm.2.1) (hts _ hlk) hm.2.2.1 (rmD_room hlev hm.2.2.2)
  exact sw_after (va_runV (C := (mY D').cls) (b := b) (As := av) (rest := rest) ⟨hexec, hcode, hml, hfc, hts⟩ hM ⟨hcb, hts _ hv.1, hts _ hv.2⟩ ⟨SPc_blind, hrc, fun U hU hWm => ⟨rfl, by show SX adK adV A U U.heap; rw [hU]; exact hX.moved hWm.alike⟩⟩ rfl hn hls hst hW hdg hc) kk
end SWA
theorem fk_38 : Cond.fieldLink RJ0 38 "java/lang/String" "COMPACT_STRINGS" "Z" ∈ tblG := tb_in (t3_in (List.mem_of_getElem? (i := 61) rfl)) rfl
theorem fk_1053 : Cond.fieldLink RJ0 1053 "jdk/internal/util/Preconditions" "SIOOBE_FORMATTER" "Ljava/util/function/BiFunction;" ∈ tblG := tb_in (t3_in (List.mem_of_getElem? (i := 77) rfl)) rfl
theorem fk_9 : Cond.fieldLink RJ0 9 "java/lang/String" "value" "[B" ∈ tblG := tb_in (t9_in (List.mem_of_getElem? (i := 98) rfl)) rfl
theorem fk_15 : Cond.fieldLink RJ0 15 "java/lang/String" "coder" "B" ∈ tblG := tb_in (t9_in (List.mem_of_getElem? (i := 99) rfl)) rfl
theorem lvA {ls : Array Slot} {n i : Nat} {v : Value} {L : List (Nat × Value)} (h : lv_has ls n L) (hm : (i, v) ∈ L) : ls[i]? = some (.val v) := h.2.2 (i, v) hm
theorem no_locs {free : Addr → Prop} : ∀ q ∈ ([] : List Loc), free q.base := fun q hq => by cases hq
section STR
variable {l : Launch} {adK adV : Nat → Nat} {A : Nat → Prop}
theorem sm_coder : SMet l mdJ0_coder_7d493 adK adV A [.ref (adK 0)] (some (.int 0)) := by
  refine SMet.of (by decide +kernel) (Nat.le_of_ble_eq_true rfl) ?_
  intro p e s m below meth c ls C X hl
  have hts := C.2.2.2.2.2.2
  refine va_gets C.1 C.2.1 X.2.1 va_S.rf C.2.2.2.2.2.1 (hts _ fk_38) (fun x h => h) dJ0_coder_7d493_0.1 ?_
  refine lv_if_eq C.1 C.2.1 dJ0_coder_7d493_3.1 dJ0_coder_7d493_3.2.2 (fun h => absurd h (by decide)) (fun h => ?_)
  refine lv_aload_n C.1 C.2.1 dJ0_coder_7d493_6.1 rfl (lvA hl List.mem_cons_self) ?_
  refine vk_getf C.1 C.2.1 (X.1.1 0 (by decide)).2.1 va_S.rf C.2.2.2.2.2.1 (hts _ fk_15) (fun x h => h) dJ0_coder_7d493_7.1 ?_
  refine lv_goto C.1 C.2.1 dJ0_coder_7d493_10.1 dJ0_coder_7d493_10.2.2 ?_
  exact W.zret C.1 C.2.1 (C.2.2.1.trans rfl) rfl (fun t ht hw => ⟨rfl, ht⟩) no_locs dJ0_coder_7d493_14.1 C.2.2.2.1
theorem sm_isLatin1 : SMet l mdJ0_isLatin1_aae02 adK adV A [.ref (adK 0)] (some (.int 1)) := by
  refine SMet.of (by decide +kernel) (Nat.le_of_ble_eq_true rfl) ?_
  intro p e s m below meth c ls C X hl
  have hts := C.2.2.2.2.2.2
  refine va_gets C.1 C.2.1 X.2.1 va_S.rf C.2.2.2.2.2.1 (hts _ fk_38) (fun x h => h) dJ0_isLatin1_aae02_0.1 ?_
  refine lv_if_eq C.1 C.2.1 dJ0_isLatin1_aae02_3.1 dJ0_isLatin1_aae02_3.2.2 (fun h => absurd h (by decide)) (fun h => ?_)
  refine lv_aload_n C.1 C.2.1 dJ0_isLatin1_aae02_6.1 rfl (lvA hl List.mem_cons_self) ?_
  refine vk_getf C.1 C.2.1 (X.1.1 0 (by decide)).2.1 va_S.rf C.2.2.2.2.2.1 (hts _ fk_15) (fun x h => h) dJ0_isLatin1_aae02_7.1 ?_
  refine lv_if_ne C.1 C.2.1 dJ0_isLatin1_aae02_10.1 dJ0_isLatin1_aae02_10.2.2 (fun h => absurd rfl h) (fun h => ?_)
  refine lv_iconst C.1 C.2.1 dJ0_isLatin1_aae02_13.1 rfl ?_
  refine lv_goto C.1 C.2.1 dJ0_isLatin1_aae02_14.1 dJ0_isLatin1_aae02_14.2.2 ?_
  exact W.zret C.1 C.2.1 (C.2.2.1.trans rfl) rfl (fun t ht hw => ⟨rfl, ht⟩) no_locs dJ0_isLatin1_aae02_18.1 C.2.2.2.1
theorem sm_check3 {i n : Int32} {f : Value} (hf : (lg_sl [.int i, .int n, f]).length ≤ 3) (h0 : ¬ i < 0) (h1 : i < n) : SMet l mdJ3_checkIndex_8e157 adK adV A [.int i, .int n, f] (some (.int i)) := by
  refine SMet.of (by decide +kernel) hf ?_
  intro p e s m below meth c ls C X hl
  have hl0 : ls[0]? = some (.val (.int i)) := lvA hl List.mem_cons_self
  have hl1 : ls[1]? = some (.val (.int n)) := lvA hl (List.mem_cons_of_mem _ List.mem_cons_self)
  refine lv_iload_n C.1 C.2.1 dJ3_checkIndex_8e157_0.1 rfl hl0 ?_
  refine lv_if_lt C.1 C.2.1 dJ3_checkIndex_8e157_1.1 dJ3_checkIndex_8e157_1.2.2 (fun h => absurd h h0) (fun h => ?_)
  refine lv_iload_n C.1 C.2.1 dJ3_checkIndex_8e157_4.1 rfl hl0 ?_
  refine lv_iload_n C.1 C.2.1 dJ3_checkIndex_8e157_5.1 rfl hl1 ?_
  refine lv_icmp_lt C.1 C.2.1 dJ3_checkIndex_8e157_6.1 dJ3_checkIndex_8e157_6.2.2 (fun h => ?_) (fun h => absurd h1 h)
  refine lv_iload_n C.1 C.2.1 dJ3_checkIndex_8e157_16.1 rfl hl0 ?_
  exact W.iret C.1 C.2.1 (C.2.2.1.trans rfl) (fun t ht hw => ⟨rfl, ht⟩) no_locs dJ3_checkIndex_8e157_17.1 C.2.2.2.1
theorem sm_check0 {i n : Int32} (h0 : ¬ i < 0) (h1 : i < n) : SMet l mdJ0_checkIndex_df160 adK adV A [.int i, .int n] none := by
  refine SMet.of (by decide +kernel) (Nat.le_of_ble_eq_true rfl) ?_
  intro p e s m below meth c ls C X hl
  have hts := C.2.2.2.2.2.2
  have hl0 : ls[0]? = some (.val (.int i)) := lvA hl List.mem_cons_self
  have hl1 : ls[1]? = some (.val (.int n)) := lvA hl (List.mem_cons_of_mem _ List.mem_cons_self)
  refine lv_iload_n C.1 C.2.1 dJ0_checkIndex_df160_0.1 rfl hl0 ?_
  refine lv_iload_n C.1 C.2.1 dJ0_checkIndex_df160_1.1 rfl hl1 ?_
  have go : ∀ f : Value, (lg_sl [.int i, .int n, f]).length ≤ 3 → va_Z "jdk/internal/util/Preconditions" "SIOOBE_FORMATTER" "Ljava/util/function/BiFunction;" f A s s.heap → W p l e (rmD mdJ0_checkIndex_df160) s m ([.int i, .int n] : List Value).toArray below meth c s.heap [] 0 0 (MQ below (SQc none) ([.int i, .int n] : List Value).toArray s 0 0 (fun _ => False)) (F0 m 2 ls [.int n, .int i]) := by
    intro f hf hZ
    refine va_gets C.1 C.2.1 hZ va_S.rf C.2.2.2.2.2.1 (hts _ fk_1053) (fun x h => h) dJ0_checkIndex_df160_2.1 ?_
    refine sw_callS (D := mdJ0_checkIndex_df160) (D' := mdJ3_checkIndex_8e157) C X rfl (sm_check3 hf h0 h1) okJ3_checkIndex_8e157 stJ3_checkIndex_8e157 lkJ0_1059 (Nat.le_of_ble_eq_true rfl) ⟨rfl, rfl⟩ ⟨Nat.le_refl _, Nat.le_refl _⟩ rfl hl.1 (rest := []) rfl (by decide) dJ0_checkIndex_df160_5.1 ?_
    refine lv_pop C.1 C.2.1 dJ0_checkIndex_df160_8.1 rfl ?_
    exact W.vret C.1 C.2.1 (C.2.2.1.trans rfl) (fun t ht hw => ⟨rfl, ht⟩) no_locs dJ0_checkIndex_df160_9.1 C.2.2.2.1
  rcases X.2.2 with h | ⟨t, h⟩
  · exact go .null (Nat.le_of_ble_eq_true rfl) h
  · exact go (.ref t) (Nat.le_of_ble_eq_true rfl) h
theorem sm_length : SMet l mdJ0_length_8abf5 adK adV A [.ref (adK 0)] (some (.int (Int32.ofInt 193))) := by
  refine SMet.of (by decide +kernel) (Nat.le_of_ble_eq_true rfl) ?_
  intro p e s m below meth c ls C X hl
  have hts := C.2.2.2.2.2.2
  have hl0 : ls[0]? = some (.val (.ref (adK 0))) := lvA hl List.mem_cons_self
  have h1 := X.1.1 0 (by decide)
  refine lv_aload_n C.1 C.2.1 dJ0_length_8abf5_0.1 rfl hl0 ?_
  refine vk_getf C.1 C.2.1 h1.2.2.1 va_S.rf C.2.2.2.2.2.1 (hts _ fk_9) (fun x h => h) dJ0_length_8abf5_1.1 ?_
  refine va_tlen C.1 C.2.1 h1.2.2.2 va_S.rf (v := 193) rfl dJ0_length_8abf5_4.1 ?_
  refine lv_aload_n C.1 C.2.1 dJ0_length_8abf5_5.1 rfl hl0 ?_
  refine sw_callV (D := mdJ0_length_8abf5) (D' := mdJ0_coder_7d493) (av := []) C.1 C.2.1 C.2.2.2.2.1 C.2.2.2.2.2.1 hts X (vk_recv X.1 (by decide) va_S.rf) rfl sm_coder okJ0_coder_7d493 viJ0_coder_7d493 lkJ0_335 (Nat.le_of_ble_eq_true rfl) ⟨rfl, rfl⟩ ⟨Nat.le_refl _, Nat.le_refl _⟩ rfl hl.1 (rest := [.int 193]) rfl (by decide) dJ0_length_8abf5_6.1 ?_
  refine lv_ishr C.1 C.2.1 dJ0_length_8abf5_9.1 ?_
  exact W.iret C.1 C.2.1 (C.2.2.1.trans rfl) (fun t ht hw => ⟨rfl, ht⟩) no_locs dJ0_length_8abf5_10.1 C.2.2.2.1
/-- a sign of the words -/
def wCh (i : Int32) : Int32 := wByt.getD i.toNatClampNeg 0 &&& 255
theorem sm_charAt1 {i : Int32} (h0 : ¬ i < 0) (h1 : i < 193) (hin : vp_in i 193) : SMet l mdJ1_charAt_3b067 adK adV A [.ref (adV 0), .int i] (some (.int (wCh i))) := by
  refine SMet.of (by decide +kernel) (Nat.le_of_ble_eq_true rfl) ?_
  intro p e s m below meth c ls C X hl
  have hts := C.2.2.2.2.2.2
  have hl0 : ls[0]? = some (.val (.ref (adV 0))) := lvA hl List.mem_cons_self
  have hl1 : ls[1]? = some (.val (.int i)) := lvA hl (List.mem_cons_of_mem _ List.mem_cons_self)
  have hX := X.1.1 0 (by decide)
  refine lv_iload_n C.1 C.2.1 dJ1_charAt_3b067_0.1 rfl hl1 ?_
  refine lv_aload_n C.1 C.2.1 dJ1_charAt_3b067_1.1 rfl hl0 ?_
  refine va_tlen C.1 C.2.1 hX.2.2.2 va_S.rf (v := 193) rfl dJ1_charAt_3b067_2.1 ?_
  refine sw_callS (D := mdJ1_charAt_3b067) (D' := mdJ0_checkIndex_df160) C X rfl (sm_check0 h0 h1) okJ0_checkIndex_df160 stJ0_checkIndex_df160 lkJ1_9 (Nat.le_of_ble_eq_true rfl) ⟨rfl, rfl⟩ ⟨Nat.le_refl _, Nat.le_refl _⟩ rfl hl.1 (rest := []) rfl (by decide) dJ1_charAt_3b067_3.1 ?_
  refine lv_aload_n C.1 C.2.1 dJ1_charAt_3b067_6.1 rfl hl0 ?_
  refine lv_iload_n C.1 C.2.1 dJ1_charAt_3b067_7.1 rfl hl1 ?_
  refine va_tb C.1 C.2.1 hX.2.2.2 va_S.rf hin rfl dJ1_charAt_3b067_8.1 ?_
  refine lv_sipush C.1 C.2.1 dJ1_charAt_3b067_9.1 (v := 255) rfl ?_
  refine lv_iand C.1 C.2.1 dJ1_charAt_3b067_12.1 ?_
  refine lv_i2c C.1 C.2.1 dJ1_charAt_3b067_13.1 (sc_c2 _) ?_
  exact W.zret C.1 C.2.1 (C.2.2.1.trans rfl) (sc_nar _) (fun t ht hw => ⟨rfl, ht⟩) no_locs dJ1_charAt_3b067_14.1 C.2.2.2.1
theorem sm_charAt {i : Int32} (h0 : ¬ i < 0) (h1 : i < 193) (hin : vp_in i 193) : SMet l mdJ0_charAt_5068e adK adV A [.ref (adK 0), .int i] (some (.int (wCh i))) := by
  refine SMet.of (by decide +kernel) (Nat.le_of_ble_eq_true rfl) ?_
  intro p e s m below meth c ls C X hl
  have hts := C.2.2.2.2.2.2
  have hl0 : ls[0]? = some (.val (.ref (adK 0))) := lvA hl List.mem_cons_self
  have hl1 : ls[1]? = some (.val (.int i)) := lvA hl (List.mem_cons_of_mem _ List.mem_cons_self)
  have hX := X.1.1 0 (by decide)
  refine lv_aload_n C.1 C.2.1 dJ0_charAt_5068e_0.1 rfl hl0 ?_
  refine sw_callV (D := mdJ0_charAt_5068e) (D' := mdJ0_isLatin1_aae02) (av := []) C.1 C.2.1 C.2.2.2.2.1 C.2.2.2.2.2.1 hts X (vk_recv X.1 (by decide) va_S.rf) rfl sm_isLatin1 okJ0_isLatin1_aae02 viJ0_isLatin1_aae02 lkJ0_492 (Nat.le_of_ble_eq_true rfl) ⟨rfl, rfl⟩ ⟨Nat.le_refl _, Nat.le_refl _⟩ rfl hl.1 (rest := []) rfl (by decide) dJ0_charAt_5068e_1.1 ?_
  refine lv_if_eq C.1 C.2.1 dJ0_charAt_5068e_4.1 dJ0_charAt_5068e_4.2.2 (fun h => absurd h (by decide)) (fun h => ?_)
  refine lv_aload_n C.1 C.2.1 dJ0_charAt_5068e_7.1 rfl hl0 ?_
  refine vk_getf C.1 C.2.1 hX.2.2.1 va_S.rf C.2.2.2.2.2.1 (hts _ fk_9) (fun x h => h) dJ0_charAt_5068e_8.1 ?_
  refine lv_iload_n C.1 C.2.1 dJ0_charAt_5068e_11.1 rfl hl1 ?_
  refine sw_callS (D := mdJ0_charAt_5068e) (D' := mdJ1_charAt_3b067) C X rfl (sm_charAt1 h0 h1 hin) okJ1_charAt_3b067 stJ1_charAt_3b067 lkJ0_495 (Nat.le_of_ble_eq_true rfl) ⟨rfl, rfl⟩ ⟨Nat.le_refl _, Nat.le_refl _⟩ rfl hl.1 (rest := []) rfl (by decide) dJ0_charAt_5068e_12.1 ?_
  exact W.zret C.1 C.2.1 (C.2.2.1.trans rfl) (sc_nar _) (fun t ht hw => ⟨rfl, ht⟩) no_locs dJ0_charAt_5068e_15.1 C.2.2.2.1
end STR
section VCW
variable {l : Launch} {pc pc1 pc2 pc' : Nat} {L : List (Option AV)} {st : List AV} {M : Mem} {kc ks : Nat} {Q : Option AV → Mem → Prop}
theorem vc_wlen (hd : At (mB mdX4_wordOf) pc (.ldc 107) 2 pc1) (hd2 : At (mB mdX4_wordOf) pc1 (.invokevirtual 109) 3 pc') (h1 : kc ≤ mC mdX4_wordOf) (h2 : ks ≤ mS mdX4_wordOf) (hsum : (st.map catA).sum ≤ 8) (k : VC l mdX4_wordOf pc' L (aI 193 :: st) M kc ks Q) : VC l mdX4_wordOf pc L st M kc ks Q := by
  intro p e s m args below meth c dC dI dA ad0 n0 A ad H locs ls C hA h0 hn hst hL hW hS hl
  obtain ⟨hd, rfl⟩ := hd
  obtain ⟨hd2, rfl⟩ := hd2
  obtain ⟨-, -, ⟨adK, adV, e3, e4⟩, e5, e6, -⟩ := C.2.2.2.2.2.2.2.2.2
  refine va_ldcS C.1 C.2.1 C.2.2.2.2.2.1 e4 hd ?_
  have hX : SX adK adV A s H := ⟨e3.kept hS.2.1, e5.kept hS.2.1, e6.kept hS.2.1⟩
  refine sw_callV (D := mdX4_wordOf) (D' := mdJ0_length_8abf5) (av := []) C.1 C.2.1 C.2.2.2.2.1 C.2.2.2.2.2.1 C.2.2.2.2.2.2.1 hX (vk_recv e3 (by decide) hS) rfl sm_length okJ0_length_8abf5 viJ0_length_8abf5 lkX4_109 (Nat.le_of_ble_eq_true rfl) ⟨rfl, rfl⟩ ⟨h1, h2⟩ rfl hl.1 (rest := st.map (aV ad)) rfl (by rw [cat_sum]; omega) hd2 ?_
  exact k p e s m args below meth c dC dI dA ad0 n0 A ad H locs ls C hA h0 hn (okS_cons.mpr ⟨(⟨by decide, by decide⟩ : inI 193), hst⟩) hL hW hS hl
end VCW

