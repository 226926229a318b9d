/-! CALLS: by the callee's Call. -/
theorem wsD_good {D : MD} {n : Nat} (h : MOk D n) : GoodIn tblG (wsD D) := by
  intro w hw
  rcases List.mem_cons.mp hw with rfl | hw
  · exact ⟨h.1, tblG_good h.1⟩
  · exact ⟨hw, tblG_good hw⟩
theorem PcA_blind {dC : Nat → ClassId} {dI : Nat → Nat → Nat} {dA : Nat → ClassId} {ad : Nat → Nat} {sz : Nat} {as : List AV} {M : Mem} : FrameBlind (PcA dC dI dA ad sz as M) := by
  intro a U g mk q
  obtain ⟨q0, q1, q2, qK, qE⟩ := q
  exact ⟨q0, q1, q2, va_K.moved (u := U) (U := U.calling g mk a) (Vm.Alike.refl U.vm) qK, Ext.same (u := U) (U := U.calling g mk a) rfl qE⟩
theorem rmD_room {D D' : MD} (h : mV D' < mV D) (h2 : mN D' ≤ 45) : (rmD D').frames + 1 ≤ (rmD D).frames ∧ 8 + (mN D' + 11) + (rmD D').locals ≤ (rmD D).locals := by
  unfold rmD
  constructor
  · show mV D' + 1 + 1 ≤ mV D + 1
    omega
  · show 8 + (mN D' + 11) + (64 * mV D' + 64) ≤ 64 * mV D + 64
    omega
section VCC
variable {l : Launch} {D : MD} {pc pc' tgt : Nat} {L L' : List (Option AV)} {st : List AV} {M : Mem} {kc ks : Nat} {Q : Option AV → Mem → Prop}
variable {D' : MD} {as : List AV} {Q' : Option AV → Mem → Prop}
theorem vc_after {st0 : List Value} {arr : Array Value} {p : Program} {e : Env} {s : State} {m : MethodId} {args : Array Value} {below : List Frame} {meth : Method} {c : Code} {dC : Nat → ClassId} {dI : Nat → Nat → Nat} {dA : Nat → ClassId} {ad0 : Nat → Nat} {n0 : Nat} {A : Nat → Prop} {ad : Nat → Nat} {H : Heap} {locs : List Loc} {ls : Array Slot}
    (C : Cx D p s m args meth c dC dI dA A) (hA : ∀ q, s.heap.size ≤ q → A q) (h0 : ∀ k, k < n0 → ad k = ad0 k) (hn : n0 ≤ M.1.length) (hst : okS M.1 st) (hL : okL M.1 L) (hW : Wd dC dI dA ad A M H) (hS : va_S A s.heap H locs) (hl : lv_has ls (mN D) (lvL ad L))
    (hrun : va_Run p l e (rmD D) s m args below meth c H locs kc ks (mC D') (mS D') (F0 m pc ls st0) (st.map (aV ad)) (QcA dC dI dA ad M.1.length (va_A (wld dA ad M) H.size) Q' arr) (va_A (wld dA ad M) H.size))
    (kk : ∀ r M', Q' r M' → M.1.length ≤ M'.1.length → VC l D (pc + 3) L (r.toList ++ st) M' (kc + mC D') (ks + mS D') Q) :
    W p l e (rmD D) s m args below meth c H locs kc ks (MQ below (QcA dC dI dA ad0 n0 A Q) args s (mC D) (mS D) A) (F0 m pc ls st0) := by
  intro T hT X
  obtain ⟨v, st₀, t, T', L2, e0, X', hLf, e1, e2, ⟨r, M', ad', ho, hq, hok, had, hlen, hWd, hK, hF⟩, go⟩ := hrun T hT X
  have hA1 : ∀ q, va_A (wld dA ad M) H.size q → A q := by
    intro q hq
    rcases hq with ⟨k, e, hk⟩ | hk
    · exact hW.2.2.2 k _ hk
    · exact hA q (Nat.le_trans hS.1 hk)
  obtain ⟨hz, hkp⟩ := hF
  rw [e0] at hz hkp
  have hS' : va_S A s.heap T'.heap (locs ++ L2) := by
    refine ⟨Nat.le_trans hS.1 (by rw [e1]; exact hz), fun q a1 a2 => ?_, fun q hq2 => ?_⟩
    · rw [e1, hkp q (Nat.lt_of_lt_of_le a1 hS.1) (fun z => a2 (hA1 q z))]
      exact hS.2.1 q a1 a2
    · rcases List.mem_append.mp hq2 with h | h
      · exact hS.2.2 q h
      · exact hA1 _ (hLf q h)
  cases ho
  have k2 := kk r M' hq hlen p e s m args below meth c dC dI dA ad0 n0 A ad' T'.heap (locs ++ L2) ls C hA (fun k hk => (had k (Nat.lt_of_lt_of_le hk hn)).trans (h0 k hk)) (Nat.le_trans hn hlen) ?_ ?_ ⟨hWd.1, by rw [e1]; exact hWd.2.1, hWd.2.2.weaken (fun _ q _ h => hA1 q.1 h)⟩ hS' (lvL_ext hL had hl)
  · obtain ⟨t2, a1, b1⟩ := k2 T' rfl X'
    refine ⟨t2, go t2 ?_, b1⟩
    have es : (r.toList ++ st).map (aV ad') = (r.map (aV ad')).toList ++ st.map (aV ad) := by
      rw [List.map_append, stk_ext hst had]
      cases r <;> rfl
    rw [es] at a1
    exact a1
  · intro v hv
    rcases List.mem_append.mp hv with h | h
    · cases r with
      | none => cases h
      | some w => rcases List.mem_cons.mp h with rfl | h; exact hok; cases h
    · have := hst v h
      rcases v with x | x | q
      · exact this
      · exact this
      · cases q with
        | none => trivial
        | some k => exact Nat.lt_of_lt_of_le this hlen
  · intro i v hv
    have := hL i v hv
    rcases v with x | x | q
    · exact this
    · exact this
    · cases q with
      | none => trivial
      | some k => exact Nat.lt_of_lt_of_le this hlen
theorem ext_call {p : Program} {s : State} {m : MethodId} {args : Array Value} {meth : Method} {c : Code} {dC : Nat → ClassId} {dI : Nat → Nat → Nat} {dA : Nat → ClassId} {A : Nat → Prop} {ad : Nat → Nat} {H : Heap} {locs : List Loc} {U : State}
    (C : Cx D p s m args meth c dC dI dA A) (hA : ∀ q, s.heap.size ≤ q → A q) (hW : Wd dC dI dA ad A M H) (hS : va_S A s.heap H locs) (hU : U.heap = H) (hWm : s.WarmedH U.vm) : Ext (va_A (wld dA ad M) H.size) U U.heap := by
  have hA1 : ∀ q, va_A (wld dA ad M) H.size q → A q := by
    intro q hq
    rcases hq with ⟨k, e, hk⟩ | hk
    · exact hW.2.2.2 k _ hk
    · exact hA q (Nat.le_trans hS.1 hk)
  rw [hU]
  exact ((C.2.2.2.2.2.2.2.2.2.kept hS.2.1).narrow hA1).warm hWm
theorem cat_sum (ad : Nat → Nat) (st : List AV) : ((st.map (aV ad)).map fun v => v.category).sum = (st.map catA).sum := by
  rw [List.map_map]
  exact congrArg List.sum (List.map_congr_left fun v _ => aV_cat ad v)
theorem okS_rev {S : List Sh} {as st : List AV} (h : okS S (as.reverse ++ st)) : okS S as ∧ okS S st := ⟨fun v hv => h v (List.mem_append_left _ (List.mem_reverse.mpr hv)), fun v hv => h v (List.mem_append_right _ hv)⟩
theorem vc_callV {idx k ci n : Nat} {T : u_T} {N : Nat} (hd : At (mB D) pc (.invokevirtual idx) 3 pc') (hm : MOk D' n) (hv : MVi D') (hlk : LkM (mY D).cls idx D') (hs : M.1[k]? = some (.inl ci)) (hci : vwCl[ci]? = some ((mY D').cls, T, N)) (hlen : as.length = n) (hlev : mV D' < mV D) (hc1 : kc + mC D' ≤ mC D) (hc2 : ks + mS D' ≤ mS D) (hsum : (st.map catA).sum ≤ 8) (stk : List AV) (hstk : as.reverse ++ aR k :: st = stk) (hcall : Call l D' (aR k :: as) M Q')
    (kk : ∀ r M', Q' r M' → M.1.length ≤ M'.1.length → VC l D pc' L (r.toList ++ st) M' (kc + mC D') (ks + mS D') Q) : VC l D pc L stk M kc ks Q := by
  subst hstk
  intro p e s m args below meth c dC dI dA ad0 n0 A ad H locs ls C hA h0 hn hst hL hW hS hl
  obtain ⟨hd, rfl⟩ := hd
  obtain ⟨hst1, hst2⟩ := okS_rev hst
  obtain ⟨hr, hst⟩ := okS_cons.mp hst2
  have hts := C.2.2.2.2.2.2.1
  have hM := hcall dC dI dA ad H.size (okS_cons.mpr ⟨hr, hst1⟩)
  have hcb : CallB (rmD D) s args (mY D).cls idx (mY D') (mB D') (mN D') (mT D') (wsD D') (rmD D') (mC D') (mS D') n := callB_of n hts (wsD_good hm) rfl rfl rfl (hts _ hm.2.1) (hts _ hlk) hm.2.2.1 (rmD_room hlev hm.2.2.2)
  refine vc_after (D' := D') (st0 := (as.reverse ++ aR k :: st).map (aV ad)) (arr := ((aR k :: as).map (aV ad)).toArray) C hA h0 hn hst hL hW hS hl (va_runV (C := (mY D').cls) (b := ad k) (As := as.map (aV ad)) (rest := st.map (aV ad)) ⟨C.1, C.2.1, C.2.2.2.2.1, C.2.2.2.2.2.1, hts⟩ hM ⟨hcb, hts _ hv.1, hts _ hv.2⟩ ⟨PcA_blind, va_recv C.2.2.2.2.2.2.2.1 hW.2.1 hci (wld_at hs), fun U hU hWm => ⟨rfl, by rw [hU], ⟨hW.1, by rw [hU]; exact hW.2.1, hW.2.2.weaken (fun _ _ _ _ => trivial)⟩, va_K.moved hWm.alike C.2.2.2.2.2.2.2.1, ext_call C hA hW hS hU hWm⟩⟩ rfl (by simpa using hlen) hl.1 (by simp [aV, va_rf]) (lv_room (by rw [cat_sum]; exact hsum)) hd ⟨hc1, hc2⟩) kk
theorem vc_callS {idx n : Nat} (hd : At (mB D) pc (.invokestatic idx) 3 pc') (hm : MOk D' n) (hv : MSt D') (hlk : LkM (mY D).cls idx D') (hlen : as.length = n) (hlev : mV D' < mV D) (hc1 : kc + mC D' ≤ mC D) (hc2 : ks + mS D' ≤ mS D) (hsum : (st.map catA).sum ≤ 8) (stk : List AV) (hstk : as.reverse ++ st = stk) (hcall : Call l D' as M Q')
    (kk : ∀ r M', Q' r M' → M.1.length ≤ M'.1.length → VC l D pc' L (r.toList ++ st) M' (kc + mC D') (ks + mS D') Q) : VC l D pc L stk M kc ks Q := by
  subst hstk
  intro p e s m args below meth c dC dI dA ad0 n0 A ad H locs ls C hA h0 hn hst hL hW hS hl
  obtain ⟨hd, rfl⟩ := hd
  obtain ⟨hst1, hst⟩ := okS_rev hst
  have hts := C.2.2.2.2.2.2.1
  have hM := hcall dC dI dA ad H.size hst1
  have hcb : CallB (rmD D) s args (mY D).cls idx (mY D') (mB D') (mN D') (mT D') (wsD D') (rmD D') (mC D') (mS D') n := callB_of n hts (wsD_good hm) rfl rfl rfl (hts _ hm.2.1) (hts _ hlk) hm.2.2.1 (rmD_room hlev hm.2.2.2)
  refine vc_after (D' := D') (st0 := (as.reverse ++ st).map (aV ad)) (arr := (as.map (aV ad)).toArray) C hA h0 hn hst hL hW hS hl (va_runS (As := as.map (aV ad)) (rest := st.map (aV ad)) ⟨C.1, C.2.1, C.2.2.2.2.1, C.2.2.2.2.2.1, hts⟩ hM ⟨hcb, hts _ hv⟩ ⟨PcA_blind, fun U hU hWm => ⟨rfl, by rw [hU], ⟨hW.1, by rw [hU]; exact hW.2.1, hW.2.2.weaken (fun _ _ _ _ => trivial)⟩, va_K.moved hWm.alike C.2.2.2.2.2.2.2.1, ext_call C hA hW hS hU hWm⟩⟩ rfl (by simpa using hlen) hl.1 (by simp) (lv_room (by rw [cat_sum]; exact hsum)) hd ⟨hc1, hc2⟩) kk
/-- a private static method of a nest mate -/
theorem vc_callSN {idx n : Nat} {host : String} (hd : At (mB D) pc (.invokestatic idx) 3 pc') (hm : MOk D' n) (hv : MSt D') (hlk : ∀ (A : Nat → Prop) (U : State) (H : Heap), Ext A U H → va_Nw (.methodLinkNest (mY D).cls idx (mY D') host) U) (hlen : as.length = n) (hlev : mV D' < mV D) (hc1 : kc + mC D' ≤ mC D) (hc2 : ks + mS D' ≤ mS D) (hsum : (st.map catA).sum ≤ 8) (stk : List AV) (hstk : as.reverse ++ st = stk) (hcall : Call l D' as M Q')
    (kk : ∀ r M', Q' r M' → M.1.length ≤ M'.1.length → VC l D pc' L (r.toList ++ st) M' (kc + mC D') (ks + mS D') Q) : VC l D pc L stk M kc ks Q := by
  subst hstk
  intro p e s m args below meth c dC dI dA ad0 n0 A ad H locs ls C hA h0 hn hst hL hW hS hl
  obtain ⟨hd, rfl⟩ := hd
  obtain ⟨hst1, hst⟩ := okS_rev hst
  have hts := C.2.2.2.2.2.2.1
  have hM := hcall dC dI dA ad H.size hst1
  have hr := rmD_room hlev hm.2.2.2
  have hcn : va_CN (rmD D) s args (mY D).cls idx (mY D') host (mB D') (mN D') (mT D') (wsD D') (rmD D') (mC D') (mS D') n := by
    refine ⟨⟨rfl, rfl, hr.1, hr.2, pay_in hts (wsD_good hm), List.mem_cons_self⟩, hts _ hm.1, hts _ hm.2.1, ⟨hm.2.2.1.1, hm.2.2.1.2.1⟩, fun sig h => ?_, va_Nw.use rfl (hlk _ _ _ C.2.2.2.2.2.2.2.2.2)⟩
    have h2 := hm.2.2.1.2.2
    rw [h] at h2
    exact (Option.some.inj h2).symm
  refine vc_after (D' := D') (st0 := (as.reverse ++ st).map (aV ad)) (arr := (as.map (aV ad)).toArray) C hA h0 hn hst hL hW hS hl (va_runSN (As := as.map (aV ad)) (rest := st.map (aV ad)) ⟨C.1, C.2.1, C.2.2.2.2.1, C.2.2.2.2.2.1, hts⟩ hM ⟨hcn, hts _ hv, trivial⟩ ⟨PcA_blind, fun U hU hWm => ⟨rfl, by rw [hU], ⟨hW.1, by rw [hU]; exact hW.2.1, hW.2.2.weaken (fun _ _ _ _ => trivial)⟩, va_K.moved hWm.alike C.2.2.2.2.2.2.2.1, ext_call C hA hW hS hU hWm⟩⟩ rfl (by simpa using hlen) hl.1 (by simp) (lv_room (by rw [cat_sum]; exact hsum)) hd ⟨hc1, hc2⟩) kk
/-- a constructor -/
theorem vc_callI {idx k n : Nat} (hd : At (mB D) pc (.invokespecial idx) 3 pc') (hm : MOk D' n) (hv : Cond.instanceMethod (mY D') ∈ tblG) (hnm : (mY D').name = "<init>") (hret : mT D' = none) (hlk : LkM (mY D).cls idx D') (hlen : as.length = n) (hlev : mV D' < mV D) (hc1 : kc + mC D' ≤ mC D) (hc2 : ks + mS D' ≤ mS D) (hsum : (st.map catA).sum ≤ 8) (stk : List AV) (hstk : as.reverse ++ aR k :: st = stk) (hcall : Call l D' (aR k :: as) M Q')
    (kk : ∀ r M', Q' r M' → M.1.length ≤ M'.1.length → VC l D pc' L (r.toList ++ st) M' (kc + mC D') (ks + mS D') Q) : VC l D pc L stk M kc ks Q := by
  subst hstk
  intro p e s m args below meth c dC dI dA ad0 n0 A ad H locs ls C hA h0 hn hst hL hW hS hl
  obtain ⟨hd, rfl⟩ := hd
  obtain ⟨hst1, hst2⟩ := okS_rev hst
  obtain ⟨hr, hst⟩ := okS_cons.mp hst2
  have hts := C.2.2.2.2.2.2.1
  have hM := hcall dC dI dA ad H.size (okS_cons.mpr ⟨hr, hst1⟩)
  have hcb : CallB (rmD D) s args (mY D).cls idx (mY D') (mB D') (mN D') none (wsD D') (rmD D') (mC D') (mS D') n := callB_of n hts (wsD_good hm) (by rw [← hret]; rfl) rfl rfl (hts _ hm.2.1) (hts _ hlk) hm.2.2.1 (rmD_room hlev hm.2.2.2)
  refine vc_after (D' := D') (st0 := (as.reverse ++ aR k :: st).map (aV ad)) (arr := ((aR k :: as).map (aV ad)).toArray) C hA h0 hn hst hL hW hS hl (va_runI (b := ad k) (As := as.map (aV ad)) (rest := st.map (aV ad)) ⟨C.1, C.2.1, C.2.2.2.2.1, C.2.2.2.2.2.1, hts⟩ hM ⟨hcb, hnm, hts _ hv⟩ ⟨PcA_blind, fun U hU hWm => ⟨rfl, by rw [hU], ⟨hW.1, by rw [hU]; exact hW.2.1, hW.2.2.weaken (fun _ _ _ _ => trivial)⟩, va_K.moved hWm.alike C.2.2.2.2.2.2.2.1, ext_call C hA hW hS hU hWm⟩⟩ rfl (by simpa using hlen) hl.1 (by simp [aV, va_rf]) (lv_room (by rw [cat_sum]; exact hsum)) hd ⟨hc1, hc2⟩) kk
theorem Call.mono {Q2 : Option AV → Mem → Prop} (h : Call l D as M Q) (hq : ∀ r M', Q r M' → Q2 r M') : Call l D as M Q2 := by
  intro dC dI dA ad sz hok
  have h1 := h dC dI dA ad sz hok
  intro p e ha hc hk s m args below hf happ hP hT
  obtain ⟨k, o, a1, a2, a3, ⟨⟨r, M', ad', q1, q2, q3⟩, a5⟩⟩ := h1 p e ha hc hk s m args below hf happ hP hT
  exact ⟨k, o, a1, a2, a3, ⟨⟨r, M', ad', q1, hq r M' q2, q3⟩, a5⟩⟩
end VCC
