/-! THE LAW: the skeleton's words (a starting text), the judgement VL, its rows (written by wip/whole/p60.py) -/
/-! THE CLAIM OUT OF ONE WALK OF THE LAW'S BODY. Your part is whole_start (and what it stands on); all else here is the same for every law, but numbers. -/
def R_law : String := "SecondLeftLaw"
def lw_P (b : Addr) (xs : List Int32) (args : Array Value) (s : State) : Prop := args = #[.ref b] ∧ s.IntsAt b xs ∧ xs.length ≤ 3072 ∧ (Jvm.Cond.and given_1 narrow_1).before args s = true
def lw_Q (_ : Array Value) (s : State) (o : Outcome) (t : State) : Prop := o = .returned (some (.int 1)) ∧ Framed s o t [] 600000 7302250
def lw_Z (below : List Frame) (a : Array Value) (s : State) : State → Prop := fun t => ∃ o, t.status = .running ∧ Ended t below o ∧ lw_Q a s o t
/-- the law's own end, with 1 on the stack, nothing written that was there before, its room as the claim has it -/
theorem lw_ret {p : Program} {l : Launch} {e : Env} {s : State} {m : MethodId} {below : List Frame} {meth : Method} {c : Code} {b : Nat} (hx : p.tables.exec = Jvm.exec) (hb : c.code = code) (hr : meth.sig.returnType = ret) (hlocks : meth.locks = false) {pc : Nat} {H : Heap} {ls : Array Slot} (hdg : decode code pc = .ok (.ireturn, 1)) : W p l e room_1 s m #[Value.ref b] below meth c H [] 600000 7302250 (lw_Z below #[Value.ref b] s) (F0 m pc ls [.int 1]) := by
  intro T hT X
  obtain ⟨fs, hret, hrun, hended, hW, hframe⟩ := X.leave (v := some (.int 1)) (hlocks := hlocks) (fun h => by rw [hr] at h; cases h)
  have hmeth' : T.vm.method? m = some meth := X.method'
  refine ⟨T.setFrames fs, ?_, .returned (some (.int 1)), hrun, hended, rfl, ⟨_, rfl⟩, hW, hframe⟩
  jvm_step X.here [X.here.top, hx, hb, hdg, hmeth', hr, ret, narrow_b1]
  (try refine ⟨rfl, ?_⟩); (try refine ⟨rfl, ?_⟩)
  first | (intro acts; rw [hret _ acts rfl rfl rfl]) | rw [hret _ _ rfl rfl rfl]
  exact Steps.refl _
/-- what holds at the law's entry: the machine, the code, the tables' words (any of lw_tbl by 'hts w (by decide +kernel)'), the script of L ints xs at the cell b, what the Statement gives of the start (any of its parts by flat_of_before) -/
def lw_At (p : Program) (s : State) (m : MethodId) (meth : Method) (c : Code) (b L : Nat) (xs : Nat → Int32) : Prop :=
  p.tables.exec = Jvm.exec ∧ c.code = code ∧ meth.sig.returnType = ret ∧ c.maxLocals = 4 ∧ s.vm.findClass R_law = some m.cls ∧ (∀ w ∈ lw_tbl, w.before #[Value.ref b] s = true) ∧ va_X b L xs s s.heap ∧ b < s.heap.size ∧ meth.locks = false ∧ (Jvm.Cond.and given_1 narrow_1).before #[Value.ref b] s = true
def CxL (b : Nat) (p : Program) (s : State) (m : MethodId) (meth : Method) (c : Code) (dC : Nat → ClassId) (dI : Nat → Nat → Nat) (dA : Nat → ClassId) : Prop :=
  p.tables.exec = Jvm.exec ∧ c.code = code ∧ meth.sig.returnType = ret ∧ meth.locks = false ∧ c.maxLocals = 4 ∧ s.vm.findClass R_law = some m.cls ∧ (∀ w ∈ tblG, w.before #[Value.ref b] s = true) ∧ va_K (dC, dI) vwCl (tysA dA) s ∧ Ext (fun q => s.heap.size ≤ q) s s.heap
def lvX (b : Nat) (ad : Nat → Nat) (L : List (Option AV)) : List (Nat × Value) := (0, .ref b) :: lvL ad L
/-- the law from this abstract state comes to its end with 1 -/
def VL (l : Launch) (b Ls : Nat) (xs : Nat → Int32) (pc : Nat) (L : List (Option AV)) (st : List AV) (M : Mem) (kc ks : Nat) : Prop :=
  ∀ (p : Program) (e : Env) (s : State) (m : MethodId) (below : List Frame) (meth : Method) (c : Code) (dC : Nat → ClassId) (dI : Nat → Nat → Nat) (dA : Nat → ClassId) (ad : Nat → Nat) (H : Heap) (locs : List Loc) (ls : Array Slot),
    CxL b p s m meth c dC dI dA → va_X b Ls xs s s.heap ∧ b < s.heap.size → okS M.1 st → okL M.1 L → Wd dC dI dA ad (fun q => s.heap.size ≤ q) M H → va_S (fun q => s.heap.size ≤ q) s.heap H locs → lv_has ls 4 (lvX b ad L) →
    W p l e room_1 s m #[Value.ref b] below meth c H locs kc ks (lw_Z below #[Value.ref b] s) (F0 m pc ls (st.map (aV ad)))
theorem lvX_L {b : Nat} {ad : Nat → Nat} {L : List (Option AV)} {ls : Array Slot} (h : lv_has ls 4 (lvX b ad L)) : lv_has ls 4 (lvL ad L) := ⟨h.1, h.2.1, fun q hq => h.2.2 q (List.mem_cons_of_mem _ hq)⟩
theorem lvX_0 {b : Nat} {ad : Nat → Nat} {L : List (Option AV)} {ls : Array Slot} (h : lv_has ls 4 (lvX b ad L)) : ls[0]? = some (.val (.ref b)) := h.2.2 (0, .ref b) List.mem_cons_self
theorem lvX_mk {b : Nat} {ad : Nat → Nat} {L : List (Option AV)} {ls : Array Slot} (h : lv_has ls 4 (lvL ad L)) (h0 : ls[0]? = some (.val (.ref b))) : lv_has ls 4 (lvX b ad L) := ⟨h.1, h.2.1, fun q hq => by
  rcases List.mem_cons.mp hq with rfl | hq
  · exact h0
  · exact h.2.2 q hq⟩
theorem lvX_set1 {b : Nat} {ad : Nat → Nat} {L : List (Option AV)} {ls' : Array Slot} {i : Nat} {v : AV} (hi : i ≠ 0) (hf : freeB L i = true) (h : lv_has ls' 4 ((i, aV ad v) :: (lvX b ad L).filter (fun q => !(q.1 == i) && !(q.1 + 1 == i && q.2.category == 2)))) : lv_has ls' 4 (lvX b ad (L.set i (some v))) := by
  refine lvX_mk (lvL_set1 hf ⟨h.1, h.2.1, fun q hq => h.2.2 q ?_⟩) (h.2.2 (0, .ref b) ?_)
  · rcases List.mem_cons.mp hq with e | hq
    · rw [e]; exact List.mem_cons_self
    · obtain ⟨h1, h2⟩ := List.mem_filter.mp hq
      exact List.mem_cons_of_mem _ (List.mem_filter.mpr ⟨List.mem_cons_of_mem _ h1, h2⟩)
  · refine List.mem_cons_of_mem _ (List.mem_filter.mpr ⟨List.mem_cons_self, ?_⟩)
    simp [Value.category]
    omega
theorem lvX_ext {b : Nat} {ad ad' : Nat → Nat} {S : List Sh} {L : List (Option AV)} (hv : okL S L) (h : ∀ k, k < S.length → ad' k = ad k) {ls : Array Slot} (hl : lv_has ls 4 (lvX b ad L)) : lv_has ls 4 (lvX b ad' L) := lvX_mk (lvL_ext hv h (lvX_L hl)) (lvX_0 hl)
section VLR
variable {l : Launch} {b Ls : Nat} {xs : Nat → Int32} {pc pc' tgt : Nat} {L L' : List (Option AV)} {st : List AV} {M : Mem} {kc ks : Nat}
theorem vl_iconst {n : Int} (hd : At code pc (.iconst n) 1 pc') (h : inB n = true) (k : VL l b Ls xs pc' L (aI n :: st) M kc ks) : VL l b Ls xs pc L st M kc ks := by
  intro p e s m below meth c dC dI dA ad H locs ls C X hst hL hW hS hl
  obtain ⟨hd, rfl⟩ := hd
  refine lv_iconst C.1 C.2.1 hd rfl ?_
  exact k p e s m below meth c dC dI dA ad H locs ls C X (okS_cons.mpr ⟨inB_ok h, hst⟩) hL hW hS hl

theorem vl_bipush {n : Int} (hd : At code pc (.bipush n) 2 pc') (h : (decide (-128 ≤ n) && decide (n < 128)) = true) (k : VL l b Ls xs pc' L (aI n :: st) M kc ks) : VL l b Ls xs pc L st M kc ks := by
  intro p e s m below meth c dC dI dA ad H locs ls C X hst hL hW hS hl
  obtain ⟨hd, rfl⟩ := hd
  refine lv_bipush C.1 C.2.1 hd (i8_ok h) ?_
  exact k p e s m below meth c dC dI dA ad H locs ls C X (okS_cons.mpr ⟨by simp only [Bool.and_eq_true, decide_eq_true_eq] at h; exact ⟨by omega, by omega⟩, hst⟩) hL hW hS hl

theorem vl_iload_n {i : Fin 4} {x : Int} (hd : At code pc (.iload_n i) 1 pc') (hi : L[(i : Nat)]? = some (some (aI x))) (k : VL l b Ls xs pc' L (aI x :: st) M kc ks) : VL l b Ls xs pc L st M kc ks := by
  intro p e s m below meth c dC dI dA ad H locs ls C X hst hL hW hS hl
  obtain ⟨hd, rfl⟩ := hd
  refine lv_iload_n C.1 C.2.1 hd rfl (lvL_at (lvX_L hl) hi) ?_
  exact k p e s m below meth c dC dI dA ad H locs ls C X (okS_cons.mpr ⟨hL _ _ hi, hst⟩) hL hW hS hl

theorem vl_aload_n {i : Fin 4} {x : Nat} (hd : At code pc (.aload_n i) 1 pc') (hi : L[(i : Nat)]? = some (some (aR x))) (k : VL l b Ls xs pc' L (aR x :: st) M kc ks) : VL l b Ls xs pc L st M kc ks := by
  intro p e s m below meth c dC dI dA ad H locs ls C X hst hL hW hS hl
  obtain ⟨hd, rfl⟩ := hd
  refine lv_aload_n C.1 C.2.1 hd rfl (lvL_at (lvX_L hl) hi) ?_
  exact k p e s m below meth c dC dI dA ad H locs ls C X (okS_cons.mpr ⟨hL _ _ hi, hst⟩) hL hW hS hl

theorem vl_isubE {x y : Int} (hd : At code pc .isub 1 pc') (h1 : -2147483648 ≤ x - y) (h2 : x - y < 2147483648) (k : VL l b Ls xs pc' L (aI (x - y) :: st) M kc ks) : VL l b Ls xs pc L (aI y :: aI x :: st) M kc ks := by
  intro p e s m below meth c dC dI dA ad H locs ls C X hst hL hW hS hl
  obtain ⟨hd, rfl⟩ := hd
  obtain ⟨hy, hst⟩ := okS_cons.mp hst
  obtain ⟨hx, hst⟩ := okS_cons.mp hst
  have k2 := k p e s m below meth c dC dI dA ad H locs ls C X (okS_cons.mpr ⟨⟨h1, h2⟩, hst⟩) hL hW hS hl
  refine lv_isub C.1 C.2.1 hd ?_
  rw [oI_sub, wI_id h1 h2]
  exact k2

theorem vl_iandM {x y : Int} (hd : At code pc .iand 1 pc') (m2 : Int) (e2 : Nat) (hm : m2 = 2 ^ e2) (he : e2 < 31) (hy2 : y = m2 - 1) (k : VL l b Ls xs pc' L (aI (x % m2) :: st) M kc ks) : VL l b Ls xs pc L (aI y :: aI x :: st) M kc ks := by
  intro p e s m below meth c dC dI dA ad H locs ls C X hst hL hW hS hl
  obtain ⟨hd, rfl⟩ := hd
  obtain ⟨hy, hst⟩ := okS_cons.mp hst
  obtain ⟨hx, hst⟩ := okS_cons.mp hst
  have ei : inI (x % m2) := by rw [← and_m hm he]; exact inI_to _
  have k2 := k p e s m below meth c dC dI dA ad H locs ls C X (okS_cons.mpr ⟨ei, hst⟩) hL hW hS hl
  have k3 : W p l e room_1 s m #[Value.ref b] below meth c H locs kc ks (lw_Z below #[Value.ref b] s) (F0 m (pc + 1) ls (.int (Int32.ofInt x &&& Int32.ofInt y) :: st.map (aV ad))) := by
    have e9 : Int32.ofInt x &&& Int32.ofInt y = Int32.ofInt (x % m2) := by
      rw [hy2, ← and_m hm he]
      unfold andI
      rw [oI_to]
    rw [e9]
    exact k2
  exact lv_iand C.1 C.2.1 hd k3

theorem vl_dup {v : AV} (hd : At code pc .dup 1 pc') (hv : catA v = 1) (k : VL l b Ls xs pc' L (v :: v :: st) M kc ks) : VL l b Ls xs pc L (v :: st) M kc ks := by
  intro p e s m below meth c dC dI dA ad H locs ls C X hst hL hW hS hl
  obtain ⟨hd, rfl⟩ := hd
  obtain ⟨hv2, hst⟩ := okS_cons.mp hst
  exact lv_dup C.1 C.2.1 hd (by rw [aV_cat]; exact hv) (k p e s m below meth c dC dI dA ad H locs ls C X (okS_cons.mpr ⟨hv2, okS_cons.mpr ⟨hv2, hst⟩⟩) hL hW hS hl)

theorem vl_istore_n {i : Fin 4} {x : Int} (hd : At code pc (.istore_n i) 1 pc') (hi0 : (i : Nat) ≠ 0) (hf : freeB L (i : Nat) = true) (hL2 : L.set (i : Nat) (some (aI x)) = L') (k : VL l b Ls xs pc' L' st M kc ks) : VL l b Ls xs pc L ((aI x) :: st) M kc ks := by
  intro p e s m below meth c dC dI dA ad H locs ls C X hst hL hW hS hl
  obtain ⟨hd, rfl⟩ := hd
  obtain ⟨hx, hst⟩ := okS_cons.mp hst
  subst hL2
  exact lv_istore_n C.1 C.2.1 hd rfl hl i.isLt rfl (fun ls2 hl2 => k p e s m below meth c dC dI dA ad H locs ls2 C X hst (okL_set hL hx) hW hS (lvX_set1 (v := (aI x)) hi0 hf hl2))

theorem vl_astore_n {i : Fin 4} {x : Nat} (hd : At code pc (.astore_n i) 1 pc') (hi0 : (i : Nat) ≠ 0) (hf : freeB L (i : Nat) = true) (hL2 : L.set (i : Nat) (some (aR x)) = L') (k : VL l b Ls xs pc' L' st M kc ks) : VL l b Ls xs pc L ((aR x) :: st) M kc ks := by
  intro p e s m below meth c dC dI dA ad H locs ls C X hst hL hW hS hl
  obtain ⟨hd, rfl⟩ := hd
  obtain ⟨hx, hst⟩ := okS_cons.mp hst
  subst hL2
  exact lv_astore_n C.1 C.2.1 hd rfl hl i.isLt rfl (fun ls2 hl2 => k p e s m below meth c dC dI dA ad H locs ls2 C X hst (okL_set hL hx) hW hS (lvX_set1 (v := (aR x)) hi0 hf hl2))

theorem vl_iincE {n x : Int} {i : Nat} (hd : At code pc (.iinc i n) 3 pc') (hi : L[i]? = some (some (aI x))) (h1 : -2147483648 ≤ x + n) (h2 : x + n < 2147483648) (hi0 : i ≠ 0) (hi4 : i < 4) (hf : freeB L i = true) (hL2 : L.set i (some (aI (x + n))) = L') (k : VL l b Ls xs pc' L' st M kc ks) : VL l b Ls xs pc L st M kc ks := by
  intro p e s m below meth c dC dI dA ad H locs ls C X hst hL hW hS hl
  obtain ⟨hd, rfl⟩ := hd
  subst hL2
  have hm : (i, Value.int (Int32.ofInt x)) ∈ lvX b ad L := List.mem_cons_of_mem _ (lvL_mem.mpr ⟨aI x, hi, rfl⟩)
  obtain ⟨j, hj⟩ := List.getElem?_of_mem hm
  refine lv_iinc (v := Int32.ofInt (x + n)) C.1 C.2.1 hd hl hj (by rw [oI_add, wI_id h1 h2]) hi4 rfl (fun ls2 hl2 => ?_)
  exact k p e s m below meth c dC dI dA ad H locs ls2 C X hst (okL_set hL (⟨h1, h2⟩ : okV M.1 (aI (x + n)))) hW hS (lvX_set1 (v := aI (x + n)) hi0 hf hl2)

theorem vl_icmp_eq {x y off : Int} (hd : AtB code pc (.if_icmp .eq off) off pc' tgt) (kt : x = y → VL l b Ls xs tgt L st M kc ks) (kf : ¬ (x = y) → VL l b Ls xs pc' L st M kc ks) : VL l b Ls xs pc L (aI y :: aI x :: st) M kc ks := by
  intro p e s m below meth c dC dI dA ad H locs ls C X hst hL hW hS hl
  obtain ⟨hd, rfl, ht⟩ := hd
  obtain ⟨hy, hst⟩ := okS_cons.mp hst
  obtain ⟨hx, hst⟩ := okS_cons.mp hst
  have hh := oI_eq hx hy
  exact lv_icmp_eq C.1 C.2.1 hd ht (fun h => kt (hh.mp h) p e s m below meth c dC dI dA ad H locs ls C X hst hL hW hS hl) (fun h => kf (fun h2 => h (hh.mpr h2)) p e s m below meth c dC dI dA ad H locs ls C X hst hL hW hS hl)

theorem vl_icmp_gt {x y off : Int} (hd : AtB code pc (.if_icmp .gt off) off pc' tgt) (kt : y < x → VL l b Ls xs tgt L st M kc ks) (kf : ¬ (y < x) → VL l b Ls xs pc' L st M kc ks) : VL l b Ls xs pc L (aI y :: aI x :: st) M kc ks := by
  intro p e s m below meth c dC dI dA ad H locs ls C X hst hL hW hS hl
  obtain ⟨hd, rfl, ht⟩ := hd
  obtain ⟨hy, hst⟩ := okS_cons.mp hst
  obtain ⟨hx, hst⟩ := okS_cons.mp hst
  have hh := oI_lt hy hx
  exact lv_icmp_gt C.1 C.2.1 hd ht (fun h => kt (hh.mp h) p e s m below meth c dC dI dA ad H locs ls C X hst hL hW hS hl) (fun h => kf (fun h2 => h (hh.mpr h2)) p e s m below meth c dC dI dA ad H locs ls C X hst hL hW hS hl)

theorem vl_if_eq {x off : Int} (hd : AtB code pc (.ifCond .eq off) off pc' tgt) (kt : x = 0 → VL l b Ls xs tgt L st M kc ks) (kf : ¬ (x = 0) → VL l b Ls xs pc' L st M kc ks) : VL l b Ls xs pc L (aI x :: st) M kc ks := by
  intro p e s m below meth c dC dI dA ad H locs ls C X hst hL hW hS hl
  obtain ⟨hd, rfl, ht⟩ := hd
  obtain ⟨hx, hst⟩ := okS_cons.mp hst
  have hh := oI_eq hx inI_0
  exact lv_if_eq C.1 C.2.1 hd ht (fun h => kt (hh.mp h) p e s m below meth c dC dI dA ad H locs ls C X hst hL hW hS hl) (fun h => kf (fun h2 => h (hh.mpr h2)) p e s m below meth c dC dI dA ad H locs ls C X hst hL hW hS hl)

theorem vl_goto {off : Int} (hd : AtB code pc (.goto off) off pc' tgt) (k : VL l b Ls xs tgt L st M kc ks) : VL l b Ls xs pc L st M kc ks := by
  intro p e s m below meth c dC dI dA ad H locs ls C X hst hL hW hS hl
  obtain ⟨hd, rfl, ht⟩ := hd
  exact lv_goto C.1 C.2.1 hd ht (k p e s m below meth c dC dI dA ad H locs ls C X hst hL hW hS hl)

theorem vl_tabOut {x dflt lo hi : Int} {offs : Array Int} {len : Nat} (hd : At code pc (.tableswitch dflt lo hi offs) len pc') (tgt : Nat) (h : x < lo ∨ hi < x) (ht : (pc : Int) + dflt = (tgt : Int)) (k : VL l b Ls xs tgt L st M kc ks) : VL l b Ls xs pc L (aI x :: st) M kc ks := by
  intro p e s m below meth c dC dI dA ad H locs ls C X hst hL hW hS hl
  obtain ⟨hx, hst⟩ := okS_cons.mp hst
  exact lv_tableOut C.1 C.2.1 hd.1 (by rw [oI_id hx]; exact h) ht (k p e s m below meth c dC dI dA ad H locs ls C X hst hL hW hS hl)
theorem vl_tabIn {x dflt lo hi off : Int} {offs : Array Int} {len : Nat} (hd : At code pc (.tableswitch dflt lo hi offs) len pc') (v : Int) (tgt : Nat) (hv : x = v) (h1 : (decide (lo ≤ v) && decide (v ≤ hi)) = true) (ho : offs[(v - lo).toNat]? = some off) (ht : (pc : Int) + off = (tgt : Int)) (k : VL l b Ls xs tgt L st M kc ks) : VL l b Ls xs pc L (aI x :: st) M kc ks := by
  subst hv
  simp only [Bool.and_eq_true, decide_eq_true_eq] at h1
  intro p e s m below meth c dC dI dA ad H locs ls C X hst hL hW hS hl
  obtain ⟨hx, hst⟩ := okS_cons.mp hst
  exact lv_tableIn C.1 C.2.1 hd.1 (by rw [oI_id hx]; omega) (by rw [oI_id hx]; omega) (by rw [oI_id hx]; exact ho) ht (k p e s m below meth c dC dI dA ad H locs ls C X hst hL hW hS hl)
/-- the end, with 1 -/
theorem vl_ret (hd : At code pc .ireturn 1 pc') (h1 : kc ≤ 600000) (h2 : ks ≤ 7302250) : VL l b Ls xs pc L [aI 1] M kc ks := by
  intro p e s m below meth c dC dI dA ad H locs ls C X hst hL hW hS hl
  obtain ⟨hd, rfl⟩ := hd
  refine va_forget (fun q hq => hS.2.2 q hq) ?_
  refine W.widen h1 h2 ?_
  exact lw_ret C.1 C.2.1 C.2.2.1 C.2.2.2.1 hd
/-- how long the script is -/
theorem vl_slen {pc1 : Nat} (hd : At code pc (.aload_n 0) 1 pc1) (hd2 : At code pc1 .arraylength 1 pc') (hLs : Ls ≤ 3072) (k : VL l b Ls xs pc' L (aI (Ls : Int) :: st) M kc ks) : VL l b Ls xs pc L st M kc ks := by
  intro p e s m below meth c dC dI dA ad H locs ls C X hst hL hW hS hl
  obtain ⟨hd, rfl⟩ := hd
  obtain ⟨hd2, rfl⟩ := hd2
  refine lv_aload_n C.1 C.2.1 hd rfl (lvX_0 hl) ?_
  refine va_slen C.1 C.2.1 X.1 X.2 (Nat.not_le.mpr X.2) hS hd2 ?_
  exact k p e s m below meth c dC dI dA ad H locs ls C X (okS_cons.mpr ⟨(⟨by omega, by omega⟩ : inI (Ls : Int)), hst⟩) hL hW hS hl
theorem vl_s0 {pc1 pc2 : Nat} {i : Int} (hd : At code pc (.aload_n 0) 1 pc1) (hd2 : At code pc1 (.iload_n 3) 1 pc2) (hd3 : At code pc2 .iaload 1 pc') (hi : L[3]? = some (some (aI i))) (h0 : 0 ≤ i) (h1 : i < Ls) (k : VL l b Ls xs pc' L (aI (xs i.toNat).toInt :: st) M kc ks) : VL l b Ls xs pc L st M kc ks := by
  intro p e s m below meth c dC dI dA ad H locs ls C X hst hL hW hS hl
  obtain ⟨hd, rfl⟩ := hd
  obtain ⟨hd2, rfl⟩ := hd2
  obtain ⟨hd3, rfl⟩ := hd3
  have hin : inI i := hL _ _ hi
  refine lv_aload_n C.1 C.2.1 hd rfl (lvX_0 hl) ?_
  refine lv_iload_n (x := Int32.ofInt i) C.1 C.2.1 hd2 rfl (lvL_at (lvX_L hl) hi) ?_
  refine va_sld C.1 C.2.1 X.1 X.2 (Nat.not_le.mpr X.2) hS (oI_in hin h0 h1) hd3 ?_
  rw [oI_nat hin h0]
  have k2 := k p e s m below meth c dC dI dA ad H locs ls C X (okS_cons.mpr ⟨inI_to _, hst⟩) hL hW hS hl
  simp only [List.map_cons, aV, oI_to] at k2
  exact k2
theorem vl_sk {pc1 pc2 pc3 pc4 : Nat} {i : Int} {n : Int} (hd : At code pc (.aload_n 0) 1 pc1) (hd2 : At code pc1 (.iload_n 3) 1 pc2) (hd3 : At code pc2 (.iconst n) 1 pc3) (hd4 : At code pc3 .iadd 1 pc4) (hd5 : At code pc4 .iaload 1 pc') (hi : L[3]? = some (some (aI i))) (hn : inB n = true) (h0 : 0 ≤ i + n) (h1 : i + n < Ls) (hLs : Ls ≤ 3072) (k : VL l b Ls xs pc' L (aI (xs (i + n).toNat).toInt :: st) M kc ks) : VL l b Ls xs pc L st M kc ks := by
  intro p e s m below meth c dC dI dA ad H locs ls C X hst hL hW hS hl
  obtain ⟨hd, rfl⟩ := hd
  obtain ⟨hd2, rfl⟩ := hd2
  obtain ⟨hd3, rfl⟩ := hd3
  obtain ⟨hd4, rfl⟩ := hd4
  obtain ⟨hd5, rfl⟩ := hd5
  have hin : inI i := hL _ _ hi
  have hin2 : inI (i + n) := ⟨by omega, by omega⟩
  refine lv_aload_n C.1 C.2.1 hd rfl (lvX_0 hl) ?_
  refine lv_iload_n (x := Int32.ofInt i) C.1 C.2.1 hd2 rfl (lvL_at (lvX_L hl) hi) ?_
  refine lv_iconst C.1 C.2.1 hd3 rfl ?_
  refine lv_iadd C.1 C.2.1 hd4 ?_
  rw [oI_add, wI_id hin2.1 hin2.2]
  refine va_sld C.1 C.2.1 X.1 X.2 (Nat.not_le.mpr X.2) hS (oI_in hin2 h0 h1) hd5 ?_
  rw [oI_nat hin2 h0]
  have k2 := k p e s m below meth c dC dI dA ad H locs ls C X (okS_cons.mpr ⟨inI_to _, hst⟩) hL hW hS hl
  simp only [List.map_cons, aV, oI_to] at k2
  exact k2

theorem rm_law {D' : MD} (h : mV D' ≤ 1000) (h2 : mN D' ≤ 45) : (rmD D').frames + 1 ≤ room_1.frames ∧ 8 + (mN D' + 11) + (rmD D').locals ≤ room_1.locals := by
  unfold rmD
  constructor
  · show mV D' + 1 + 1 ≤ 2048
    omega
  · show 8 + (mN D' + 11) + (64 * mV D' + 64) ≤ 84000
    omega
variable {D' : MD} {as : List AV} {Q' : Option AV → Mem → Prop}
theorem vl_after {st0 : List Value} {arr : Array Value} {p : Program} {e : Env} {s : State} {m : MethodId} {below : List Frame} {meth : Method} {c : Code} {dC : Nat → ClassId} {dI : Nat → Nat → Nat} {dA : Nat → ClassId} {ad : Nat → Nat} {H : Heap} {locs : List Loc} {ls : Array Slot}
    (C : CxL b p s m meth c dC dI dA) (X : va_X b Ls xs s s.heap ∧ b < s.heap.size) (hst : okS M.1 st) (hL : okL M.1 L) (hW : Wd dC dI dA ad (fun q => s.heap.size ≤ q) M H) (hS : va_S (fun q => s.heap.size ≤ q) s.heap H locs) (hl : lv_has ls 4 (lvX b ad L))
    (hrun : va_Run p l e room_1 s m #[Value.ref b] below meth c H locs kc ks (mC D') (mS D') (F0 m pc ls st0) (st.map (aV ad)) (QcA dC dI dA ad M.1.length (va_A (wld dA ad M) H.size) Q' arr) (va_A (wld dA ad M) H.size))
    (kk : ∀ r M', Q' r M' → M.1.length ≤ M'.1.length → VL l b Ls xs (pc + 3) L (r.toList ++ st) M' (kc + mC D') (ks + mS D')) :
    W p l e room_1 s m #[Value.ref b] below meth c H locs kc ks (lw_Z below #[Value.ref b] s) (F0 m pc ls st0) := by
  intro T hT X0
  obtain ⟨v, st₀, t, T', L2, e0, X', hLf, e1, e2, ⟨r, M', ad', ho, hq, hok, had, hlen, hWd, hK, hF⟩, go⟩ := hrun T hT X0
  have hA1 : ∀ q, va_A (wld dA ad M) H.size q → s.heap.size ≤ q := by
    intro q hq
    rcases hq with ⟨k, e, hk⟩ | hk
    · exact hW.2.2.2 k _ hk
    · exact Nat.le_trans hS.1 hk
  obtain ⟨hz, hkp⟩ := hF
  rw [e0] at hz hkp
  have hS' : va_S (fun q => s.heap.size ≤ q) s.heap T'.heap (locs ++ L2) := by
    refine ⟨Nat.le_trans hS.1 (by rw [e1]; exact hz), fun q a1 a2 => ?_, fun q hq2 => ?_⟩
    · rw [e1, hkp q (Nat.lt_of_lt_of_le a1 hS.1) (fun z => a2 (hA1 q z))]
      exact hS.2.1 q a1 a2
    · rcases List.mem_append.mp hq2 with h | h
      · exact hS.2.2 q h
      · exact hA1 _ (hLf q h)
  cases ho
  have k2 := kk r M' hq hlen p e s m below meth c dC dI dA ad' T'.heap (locs ++ L2) ls C X ?_ (okL_mk hlen hL) ⟨hWd.1, by rw [e1]; exact hWd.2.1, hWd.2.2.weaken (fun _ q _ h => hA1 q.1 h)⟩ hS' (lvX_ext hL had hl)
  · obtain ⟨t2, a1, b1⟩ := k2 T' rfl X'
    refine ⟨t2, go t2 ?_, b1⟩
    have es : (r.toList ++ st).map (aV ad') = (r.map (aV ad')).toList ++ st.map (aV ad) := by
      rw [List.map_append, stk_ext hst had]
      cases r <;> rfl
    rw [es] at a1
    exact a1
  · intro v hv
    rcases List.mem_append.mp hv with h | h
    · cases r with
      | none => cases h
      | some w => rcases List.mem_cons.mp h with rfl | h; exact hok; cases h
    · exact okS_mk hlen hst v h
theorem ext_law {p : Program} {s : State} {m : MethodId} {meth : Method} {c : Code} {dC : Nat → ClassId} {dI : Nat → Nat → Nat} {dA : Nat → ClassId} {ad : Nat → Nat} {H : Heap} {locs : List Loc} {U : State}
    (C : CxL b p s m meth c dC dI dA) (hW : Wd dC dI dA ad (fun q => s.heap.size ≤ q) M H) (hS : va_S (fun q => s.heap.size ≤ q) s.heap H locs) (hU : U.heap = H) (hWm : s.WarmedH U.vm) : Ext (va_A (wld dA ad M) H.size) U U.heap := by
  have hA1 : ∀ q, va_A (wld dA ad M) H.size q → s.heap.size ≤ q := by
    intro q hq
    rcases hq with ⟨k, e, hk⟩ | hk
    · exact hW.2.2.2 k _ hk
    · exact Nat.le_trans hS.1 hk
  rw [hU]
  exact ((C.2.2.2.2.2.2.2.2.kept hS.2.1).narrow hA1).warm hWm
theorem vl_callV {idx k ci n : Nat} {T : u_T} {N : Nat} {stk : List AV} (hd : At code pc (.invokevirtual idx) 3 pc') (hcall : Call l D' (aR k :: as) M Q') (hstk : as.reverse ++ aR k :: st = stk) (hm : MOk D' n) (hv : MVi D') (hlk : LkM R_law idx D') (hs : M.1[k]? = some (.inl ci)) (hci : vwCl[ci]? = some ((mY D').cls, T, N)) (hlen : as.length = n) (hlev : mV D' ≤ 1000) (hc1 : kc + mC D' ≤ 600000) (hc2 : ks + mS D' ≤ 7302250) (hsum : (st.map catA).sum ≤ 8)
    (kk : ∀ r M', Q' r M' → M.1.length ≤ M'.1.length → VL l b Ls xs pc' L (r.toList ++ st) M' (kc + mC D') (ks + mS D')) : VL l b Ls xs pc L stk M kc ks := by
  subst hstk
  intro p e s m below meth c dC dI dA ad H locs ls C X hst hL hW hS hl
  obtain ⟨hd, rfl⟩ := hd
  obtain ⟨hst1, hst2⟩ := okS_rev hst
  obtain ⟨hr, hst⟩ := okS_cons.mp hst2
  have hts := C.2.2.2.2.2.2.1
  have hM := hcall dC dI dA ad H.size (okS_cons.mpr ⟨hr, hst1⟩)
  have hcb : CallB room_1 s #[Value.ref b] R_law idx (mY D') (mB D') (mN D') (mT D') (wsD D') (rmD D') (mC D') (mS D') n := callB_of n hts (wsD_good hm) rfl rfl rfl (hts _ hm.2.1) (hts _ hlk) hm.2.2.1 (rm_law hlev hm.2.2.2)
  refine vl_after (D' := D') (st0 := (as.reverse ++ aR k :: st).map (aV ad)) (arr := ((aR k :: as).map (aV ad)).toArray) C X hst hL hW hS hl (va_runV (C := (mY D').cls) (b := ad k) (As := as.map (aV ad)) (rest := st.map (aV ad)) ⟨C.1, C.2.1, C.2.2.2.2.1, C.2.2.2.2.2.1, hts⟩ hM ⟨hcb, hts _ hv.1, hts _ hv.2⟩ ⟨PcA_blind, va_recv C.2.2.2.2.2.2.2.1 hW.2.1 hci (wld_at hs), fun U hU hWm => ⟨rfl, by rw [hU], ⟨hW.1, by rw [hU]; exact hW.2.1, hW.2.2.weaken (fun _ _ _ _ => trivial)⟩, va_K.moved hWm.alike C.2.2.2.2.2.2.2.1, ext_law C hW hS hU hWm⟩⟩ rfl (by simpa using hlen) hl.1 (by simp [aV, va_rf]) (lv_room (by rw [cat_sum]; exact hsum)) hd ⟨hc1, hc2⟩) kk
theorem vl_callI {idx k n : Nat} {stk : List AV} {M2 : Mem} (hd : At code pc (.invokespecial idx) 3 pc') (hcall : Fn l D' (aR k :: as) M none M2) (hstk : as.reverse ++ aR k :: st = stk) (hm : MOk D' n) (hv : Cond.instanceMethod (mY D') ∈ tblG) (hnm : (mY D').name = "<init>") (hret : mT D' = none) (hlk : LkM R_law idx D') (hlen : as.length = n) (hlev : mV D' ≤ 1000) (hc1 : kc + mC D' ≤ 600000) (hc2 : ks + mS D' ≤ 7302250) (hsum : (st.map catA).sum ≤ 8) (kk : VL l b Ls xs pc' L st M2 (kc + mC D') (ks + mS D')) : VL l b Ls xs pc L stk M kc ks := by
  subst hstk
  intro p e s m below meth c dC dI dA ad H locs ls C X hst hL hW hS hl
  obtain ⟨hd, rfl⟩ := hd
  obtain ⟨hst1, hst2⟩ := okS_rev hst
  obtain ⟨hr, hst⟩ := okS_cons.mp hst2
  have hts := C.2.2.2.2.2.2.1
  have hM := hcall dC dI dA ad H.size (okS_cons.mpr ⟨hr, hst1⟩)
  have hcb : CallB room_1 s #[Value.ref b] R_law idx (mY D') (mB D') (mN D') none (wsD D') (rmD D') (mC D') (mS D') n := callB_of n hts (wsD_good hm) (by rw [← hret]; rfl) rfl rfl (hts _ hm.2.1) (hts _ hlk) hm.2.2.1 (rm_law hlev hm.2.2.2)
  refine vl_after (D' := D') (st0 := (as.reverse ++ aR k :: st).map (aV ad)) (arr := ((aR k :: as).map (aV ad)).toArray) C X hst hL hW hS hl (va_runI (b := ad k) (As := as.map (aV ad)) (rest := st.map (aV ad)) ⟨C.1, C.2.1, C.2.2.2.2.1, C.2.2.2.2.2.1, hts⟩ hM ⟨hcb, hnm, hts _ hv⟩ ⟨PcA_blind, fun U hU hWm => ⟨rfl, by rw [hU], ⟨hW.1, by rw [hU]; exact hW.2.1, hW.2.2.weaken (fun _ _ _ _ => trivial)⟩, va_K.moved hWm.alike C.2.2.2.2.2.2.2.1, ext_law C hW hS hU hWm⟩⟩ rfl (by simpa using hlen) hl.1 (by simp [aV, va_rf]) (lv_room (by rw [cat_sum]; exact hsum)) hd ⟨hc1, hc2⟩) (fun r M' h _ => by obtain ⟨rfl, rfl⟩ := h; exact kk)
theorem vl_newOq (q : Nat) {idx ci : Nat} {CC : String} {T : u_T} {N : Nat} (hd : At code pc (.new idx) 3 pc') (hq : M.1.length = q) (hci : vwCl[ci]? = some (CC, T, N)) (hlk : Cond.classLink R_law idx CC ∈ tblG) (hins : Cond.instantiable CC N ∈ tblG) (hini : Cond.initialized CC ∈ tblG) (h1 : kc + 1 ≤ 600000) (h2 : ks + N ≤ 7302250) (kk : VL l b Ls xs pc' L (aR q :: st) (mkC M (.inl ci)) (kc + 1) (ks + N)) : VL l b Ls xs pc L st M kc ks := by
  subst hq
  intro p e s m below meth c dC dI dA ad H locs ls C X hst hL hW hS hl
  obtain ⟨hd, rfl⟩ := hd
  obtain ⟨c1, c2, c3, c4⟩ := clsOk ci _ hci
  have hts := C.2.2.2.2.2.2.1
  refine va_new (ci := ci) (fs := flC (va_up ad M.1.length 0) (mkC M (.inl ci)) M.1.length ci) C.1 C.2.1 hts c1 (tyC ci) c2 C.2.2.2.2.2.1 (hts _ hlk) (hts _ hins) (hts _ hini) C.2.2.2.2.2.2.2.1 hW.2.1 hW.2.2 hS (fun _ h => h) hci ?_ h1 h2 hd ?_
  · intro j hj
    unfold vp_V
    rw [List.getD_eq_getElem?_getD, flC_at (by rw [c3]; exact hj)]
    show _ = fV _ _ _ _ _
    unfold fV
    rw [mI_mkC, mJ_mkC, mR_mkC, if_pos rfl, if_pos rfl, if_pos rfl]
    have hk : kindT (tyC ci j) ≠ 4 := vcl_kinds ci j _ hci hj
    cases hh : tyC ci j <;> first | rfl | (rw [hh] at hk; exact absurd rfl hk)
  · intro q H1 hP1 hD1 hS1
    have ec : cellW dA (va_up ad M.1.length q) (mkC M (.inl ci)) M.1.length (.inl ci) = .inr (ci, flC (va_up ad M.1.length 0) (mkC M (.inl ci)) M.1.length ci) := by
      show Sum.inr (ci, flC (va_up ad M.1.length q) (mkC M (.inl ci)) M.1.length ci) = _
      unfold flC
      rw [List.map_congr_left (fun j _ => (by unfold fV; rw [mR_mkC, if_pos rfl]; rfl : fV (va_up ad M.1.length q) (mkC M (.inl ci)) M.1.length j (tyC ci j) = fV (va_up ad M.1.length 0) (mkC M (.inl ci)) M.1.length j (tyC ci j)))]
    rw [← wld_mkC hW.1 ec] at hP1 hD1
    have hext : ∀ k, k < M.1.length → va_up ad M.1.length q k = ad k := fun k hk => by unfold va_up; rw [if_neg (by omega)]
    have hlen : M.1.length ≤ (mkC M (.inl ci)).1.length := by rw [mkC_len]; omega
    have k2 := kk p e s m below meth c dC dI dA (va_up ad M.1.length q) H1 locs ls C X (okS_cons.mpr ⟨(by show M.1.length < (mkC M (.inl ci)).1.length; rw [mkC_len]; omega), okS_mk hlen hst⟩) (okL_mk hlen hL) ⟨okM_mkC hW.1, hP1, hD1⟩ hS1 (lvX_ext hL hext hl)
    have es : (aR M.1.length :: st).map (aV (va_up ad M.1.length q)) = .ref q :: st.map (aV ad) := by
      rw [List.map_cons, stk_ext hst hext]
      show Value.ref (va_up ad M.1.length q M.1.length) :: _ = _
      unfold va_up
      rw [if_pos rfl]
    rw [es] at k2
    exact k2
end VLR

