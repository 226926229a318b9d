/-! VC ROWS of instructions that touch no heap (written by wip/whole/gen_rows.py) -/
def inB (n : Int) : Bool := decide (-2147483648 ≤ n) && decide (n < 2147483648)
theorem inB_ok {n : Int} (h : inB n = true) : inI n := by
  unfold inB at h
  simp only [Bool.and_eq_true, decide_eq_true_eq] at h
  exact h
theorem i8_ok {n : Int} (h : (decide (-128 ≤ n) && decide (n < 128)) = true) : (Int8.ofInt n).toInt32 = Int32.ofInt n := by
  simp only [Bool.and_eq_true, decide_eq_true_eq] at h
  apply Int32.toInt_inj.mp
  rw [Int8.toInt_toInt32, Int8.toInt_ofInt, oI_id ⟨by omega, by omega⟩]
  have e : ((Int8.size : Nat) : Int) = 256 := rfl
  exact Int.bmod_eq_of_le_mul_two (by omega) (by omega)
theorem i16_ok {n : Int} (h : (decide (-32768 ≤ n) && decide (n < 32768)) = true) : (Int16.ofInt n).toInt32 = Int32.ofInt n := by
  simp only [Bool.and_eq_true, decide_eq_true_eq] at h
  apply Int32.toInt_inj.mp
  rw [Int16.toInt_toInt32, Int16.toInt_ofInt, oI_id ⟨by omega, by omega⟩]
  have e : ((Int16.size : Nat) : Int) = 65536 := rfl
  exact Int.bmod_eq_of_le_mul_two (by omega) (by omega)
section VCR
variable {l : Launch} {D : MD} {pc pc' tgt : Nat} {L L' : List (Option AV)} {st : List AV} {M : Mem} {kc ks : Nat} {Q : Option AV → Mem → Prop}
theorem VC.mono {Q' : Option AV → Mem → Prop} (h : VC l D pc L st M kc ks Q) (hq : ∀ r M', Q r M' → Q' r M') : VC l D pc L st M kc ks Q' := by
  intro p e s m args below meth c dC dI dA ad0 n0 A ad H locs ls C hA h0 hn hst hL hW hS hl T hT X
  obtain ⟨t, h1, o, h2, h3, ⟨r, M', ad', q1, q2, q3⟩, h5⟩ := h p e s m args below meth c dC dI dA ad0 n0 A ad H locs ls C hA h0 hn hst hL hW hS hl T hT X
  exact ⟨t, h1, o, h2, h3, ⟨r, M', ad', q1, hq r M' q2, q3⟩, h5⟩
/-- what is known of the values may be used -/
theorem vc_ok (k : okM M → okS M.1 st → okL M.1 L → VC l D pc L st M kc ks Q) : VC l D pc L st M kc ks Q := by
  intro p e s m args below meth c dC dI dA ad0 n0 A ad H locs ls C hA h0 hn hst hL hW hS hl
  exact k hW.1 hst hL p e s m args below meth c dC dI dA ad0 n0 A ad H locs ls C hA h0 hn hst hL hW hS hl
/-- fewer locals known -/
theorem vc_less (L' : List (Option AV)) (h : lessL L' L) (k : VC l D pc L' st M kc ks Q) : VC l D pc L st M kc ks Q := by
  intro p e s m args below meth c dC dI dA ad0 n0 A ad H locs ls C hA h0 hn hst hL hW hS hl
  exact k p e s m args below meth c dC dI dA ad0 n0 A ad H locs ls C hA h0 hn hst (fun i v hv => hL i v (h i v hv)) hW hS (lvL_less hl h)
theorem vc_wide (kc' ks' : Nat) (h1 : kc ≤ kc') (h2 : ks ≤ ks') (k : VC l D pc L st M kc' ks' Q) : VC l D pc L st M kc ks Q := by
  intro p e s m args below meth c dC dI dA ad0 n0 A ad H locs ls C hA h0 hn hst hL hW hS hl
  exact W.widen h1 h2 (k p e s m args below meth c dC dI dA ad0 n0 A ad H locs ls C hA h0 hn hst hL hW hS hl)
/-- a value gets a name -/
theorem vc_nameI {x : Int} (k : ∀ y : Int, y = x → VC l D pc L (aI y :: st) M kc ks Q) : VC l D pc L (aI x :: st) M kc ks Q := k x rfl
theorem vc_nameL {x : Int} (k : ∀ y : Int, y = x → VC l D pc L (aL y :: st) M kc ks Q) : VC l D pc L (aL x :: st) M kc ks Q := k x rfl
theorem vc_eq {pc2 : Nat} {L2 : List (Option AV)} {st2 : List AV} {M2 : Mem} (e1 : pc = pc2) (e2 : L = L2) (e3 : st = st2) (e4 : M = M2) (k : VC l D pc2 L2 st2 M2 kc ks Q) : VC l D pc L st M kc ks Q := by
  subst e1; subst e2; subst e3; subst e4; exact k

theorem vc_iconst {n : Int} (hd : At (mB D) pc (.iconst n) 1 pc') (h : inB n = true) (k : VC l D pc' L (aI n :: st) M kc ks Q) : VC l D pc L st M kc ks Q := by
  intro p e s m args below meth c dC dI dA ad0 n0 A ad H locs ls C hA h0 hn hst hL hW hS hl
  obtain ⟨hd, rfl⟩ := hd
  refine lv_iconst C.1 C.2.1 hd rfl ?_
  exact k p e s m args below meth c dC dI dA ad0 n0 A ad H locs ls C hA h0 hn (okS_cons.mpr ⟨inB_ok h, hst⟩) hL hW hS hl

theorem vc_bipush {n : Int} (hd : At (mB D) pc (.bipush n) 2 pc') (h : (decide (-128 ≤ n) && decide (n < 128)) = true) (k : VC l D pc' L (aI n :: st) M kc ks Q) : VC l D pc L st M kc ks Q := by
  intro p e s m args below meth c dC dI dA ad0 n0 A ad H locs ls C hA h0 hn hst hL hW hS hl
  obtain ⟨hd, rfl⟩ := hd
  refine lv_bipush C.1 C.2.1 hd (i8_ok h) ?_
  exact k p e s m args below meth c dC dI dA ad0 n0 A ad H locs ls C hA h0 hn (okS_cons.mpr ⟨by simp only [Bool.and_eq_true, decide_eq_true_eq] at h; exact ⟨by omega, by omega⟩, hst⟩) hL hW hS hl

theorem vc_sipush {n : Int} (hd : At (mB D) pc (.sipush n) 3 pc') (h : (decide (-32768 ≤ n) && decide (n < 32768)) = true) (k : VC l D pc' L (aI n :: st) M kc ks Q) : VC l D pc L st M kc ks Q := by
  intro p e s m args below meth c dC dI dA ad0 n0 A ad H locs ls C hA h0 hn hst hL hW hS hl
  obtain ⟨hd, rfl⟩ := hd
  refine lv_sipush C.1 C.2.1 hd (i16_ok h) ?_
  exact k p e s m args below meth c dC dI dA ad0 n0 A ad H locs ls C hA h0 hn (okS_cons.mpr ⟨by simp only [Bool.and_eq_true, decide_eq_true_eq] at h; exact ⟨by omega, by omega⟩, hst⟩) hL hW hS hl

theorem vc_lconst {n : Fin 2} (hd : At (mB D) pc (.lconst n) 1 pc') (k : VC l D pc' L (aL (n : Nat) :: st) M kc ks Q) : VC l D pc L st M kc ks Q := by
  intro p e s m args below meth c dC dI dA ad0 n0 A ad H locs ls C hA h0 hn hst hL hW hS hl
  obtain ⟨hd, rfl⟩ := hd
  refine lv_lconst (v := Int64.ofInt ((n : Nat) : Int)) C.1 C.2.1 hd (by match n with | 0 => rfl | 1 => rfl) ?_
  exact k p e s m args below meth c dC dI dA ad0 n0 A ad H locs ls C hA h0 hn (okS_cons.mpr ⟨(by match n with | 0 => exact ⟨by decide, by decide⟩ | 1 => exact ⟨by decide, by decide⟩ : inL ((n : Nat) : Int)), hst⟩) hL hW hS hl

theorem vc_ldc {idx : Nat} {n : Int} (hd : At (mB D) pc (.ldc idx) 2 pc') (h : inB n = true) (hc : Cond.constant (mY D).cls idx (Int32.ofInt n) ∈ tblG) (k : VC l D pc' L (aI n :: st) M kc ks Q) : VC l D pc L st M kc ks Q := by
  intro p e s m args below meth c dC dI dA ad0 n0 A ad H locs ls C hA h0 hn hst hL hW hS hl
  obtain ⟨hd, rfl⟩ := hd
  refine lv_ldc C.1 C.2.1 C.2.2.2.2.2.1 (C.2.2.2.2.2.2.1 _ hc) hd ?_
  exact k p e s m args below meth c dC dI dA ad0 n0 A ad H locs ls C hA h0 hn (okS_cons.mpr ⟨inB_ok h, hst⟩) hL hW hS hl

theorem vc_ldc2 {idx : Nat} {n : Int} (hd : At (mB D) pc (.ldc2_w idx) 3 pc') (h : (decide (-9223372036854775808 ≤ n) && decide (n < 9223372036854775808)) = true) (hc : Cond.constantLong (mY D).cls idx (Int64.ofInt n) ∈ tblG) (k : VC l D pc' L (aL n :: st) M kc ks Q) : VC l D pc L st M kc ks Q := by
  intro p e s m args below meth c dC dI dA ad0 n0 A ad H locs ls C hA h0 hn hst hL hW hS hl
  obtain ⟨hd, rfl⟩ := hd
  refine lv_ldc2 C.1 C.2.1 C.2.2.2.2.2.1 (C.2.2.2.2.2.2.1 _ hc) hd ?_
  exact k p e s m args below meth c dC dI dA ad0 n0 A ad H locs ls C hA h0 hn (okS_cons.mpr ⟨by simp only [Bool.and_eq_true, decide_eq_true_eq] at h; exact h, hst⟩) hL hW hS hl

theorem vc_null (hd : At (mB D) pc .aconst_null 1 pc') (k : VC l D pc' L (aN :: st) M kc ks Q) : VC l D pc L st M kc ks Q := by
  intro p e s m args below meth c dC dI dA ad0 n0 A ad H locs ls C hA h0 hn hst hL hW hS hl
  obtain ⟨hd, rfl⟩ := hd
  refine lv_null C.1 C.2.1 hd ?_
  exact k p e s m args below meth c dC dI dA ad0 n0 A ad H locs ls C hA h0 hn (okS_cons.mpr ⟨trivial, hst⟩) hL hW hS hl

theorem vc_iload_n {i : Fin 4} {x : Int} (hd : At (mB D) pc (.iload_n i) 1 pc') (hi : L[(i : Nat)]? = some (some (aI x))) (k : VC l D pc' L (aI x :: st) M kc ks Q) : VC l D pc L st M kc ks Q := by
  intro p e s m args below meth c dC dI dA ad0 n0 A ad H locs ls C hA h0 hn hst hL hW hS hl
  obtain ⟨hd, rfl⟩ := hd
  refine lv_iload_n C.1 C.2.1 hd rfl (lvL_at hl hi) ?_
  exact k p e s m args below meth c dC dI dA ad0 n0 A ad H locs ls C hA h0 hn (okS_cons.mpr ⟨hL _ _ hi, hst⟩) hL hW hS hl

theorem vc_iload {i : Nat} {x : Int} (hd : At (mB D) pc (.iload i) 2 pc') (hi : L[i]? = some (some (aI x))) (k : VC l D pc' L (aI x :: st) M kc ks Q) : VC l D pc L st M kc ks Q := by
  intro p e s m args below meth c dC dI dA ad0 n0 A ad H locs ls C hA h0 hn hst hL hW hS hl
  obtain ⟨hd, rfl⟩ := hd
  refine lv_iload C.1 C.2.1 hd (lvL_at hl hi) ?_
  exact k p e s m args below meth c dC dI dA ad0 n0 A ad H locs ls C hA h0 hn (okS_cons.mpr ⟨hL _ _ hi, hst⟩) hL hW hS hl

theorem vc_lload_n {i : Fin 4} {x : Int} (hd : At (mB D) pc (.lload_n i) 1 pc') (hi : L[(i : Nat)]? = some (some (aL x))) (k : VC l D pc' L (aL x :: st) M kc ks Q) : VC l D pc L st M kc ks Q := by
  intro p e s m args below meth c dC dI dA ad0 n0 A ad H locs ls C hA h0 hn hst hL hW hS hl
  obtain ⟨hd, rfl⟩ := hd
  refine lv_lload_n C.1 C.2.1 hd rfl (lvL_at hl hi) ?_
  exact k p e s m args below meth c dC dI dA ad0 n0 A ad H locs ls C hA h0 hn (okS_cons.mpr ⟨hL _ _ hi, hst⟩) hL hW hS hl

theorem vc_lload {i : Nat} {x : Int} (hd : At (mB D) pc (.lload i) 2 pc') (hi : L[i]? = some (some (aL x))) (k : VC l D pc' L (aL x :: st) M kc ks Q) : VC l D pc L st M kc ks Q := by
  intro p e s m args below meth c dC dI dA ad0 n0 A ad H locs ls C hA h0 hn hst hL hW hS hl
  obtain ⟨hd, rfl⟩ := hd
  refine lv_lload C.1 C.2.1 hd (lvL_at hl hi) ?_
  exact k p e s m args below meth c dC dI dA ad0 n0 A ad H locs ls C hA h0 hn (okS_cons.mpr ⟨hL _ _ hi, hst⟩) hL hW hS hl

theorem vc_aload_n {i : Fin 4} {r : Option Nat} (hd : At (mB D) pc (.aload_n i) 1 pc') (hi : L[(i : Nat)]? = some (some (.inr (.inr r)))) (k : VC l D pc' L (.inr (.inr r) :: st) M kc ks Q) : VC l D pc L st M kc ks Q := by
  intro p e s m args below meth c dC dI dA ad0 n0 A ad H locs ls C hA h0 hn hst hL hW hS hl
  obtain ⟨hd, rfl⟩ := hd
  have hl2 := lvL_at hl hi
  have k2 := k p e s m args below meth c dC dI dA ad0 n0 A ad H locs ls C hA h0 hn (okS_cons.mpr ⟨hL _ _ hi, hst⟩) hL hW hS hl
  cases r with
  | none => exact lv_aload_nN C.1 C.2.1 hd rfl hl2 k2
  | some x => exact lv_aload_n C.1 C.2.1 hd rfl hl2 k2
--  exact k p e s m args below meth c dC dI dA ad0 n0 A ad H locs ls C hA h0 hn (okS_cons.mpr ⟨hL _ _ hi, hst⟩) hL hW hS hl

theorem vc_aload {i : Nat} {r : Option Nat} (hd : At (mB D) pc (.aload i) 2 pc') (hi : L[i]? = some (some (.inr (.inr r)))) (k : VC l D pc' L (.inr (.inr r) :: st) M kc ks Q) : VC l D pc L st M kc ks Q := by
  intro p e s m args below meth c dC dI dA ad0 n0 A ad H locs ls C hA h0 hn hst hL hW hS hl
  obtain ⟨hd, rfl⟩ := hd
  have hl2 := lvL_at hl hi
  have k2 := k p e s m args below meth c dC dI dA ad0 n0 A ad H locs ls C hA h0 hn (okS_cons.mpr ⟨hL _ _ hi, hst⟩) hL hW hS hl
  cases r with
  | none => exact lv_aloadN C.1 C.2.1 hd hl2 k2
  | some x => exact lv_aload C.1 C.2.1 hd hl2 k2
--  exact k p e s m args below meth c dC dI dA ad0 n0 A ad H locs ls C hA h0 hn (okS_cons.mpr ⟨hL _ _ hi, hst⟩) hL hW hS hl

theorem vc_iadd {x y : Int} (hd : At (mB D) pc .iadd 1 pc') (k : VC l D pc' L (aI (wI (x + y)) :: st) M kc ks Q) : VC l D pc L (aI y :: aI x :: st) M kc ks Q := by
  intro p e s m args below meth c dC dI dA ad0 n0 A ad H locs ls C hA h0 hn hst hL hW hS hl
  obtain ⟨hd, rfl⟩ := hd
  obtain ⟨hy, hst⟩ := okS_cons.mp hst
  obtain ⟨hx, hst⟩ := okS_cons.mp hst
  have k2 := k p e s m args below meth c dC dI dA ad0 n0 A ad H locs ls C hA h0 hn (okS_cons.mpr ⟨inI_wI _, hst⟩) hL hW hS hl
  refine lv_iadd C.1 C.2.1 hd ?_
  rw [oI_add]
  exact k2

theorem vc_isub {x y : Int} (hd : At (mB D) pc .isub 1 pc') (k : VC l D pc' L (aI (wI (x - y)) :: st) M kc ks Q) : VC l D pc L (aI y :: aI x :: st) M kc ks Q := by
  intro p e s m args below meth c dC dI dA ad0 n0 A ad H locs ls C hA h0 hn hst hL hW hS hl
  obtain ⟨hd, rfl⟩ := hd
  obtain ⟨hy, hst⟩ := okS_cons.mp hst
  obtain ⟨hx, hst⟩ := okS_cons.mp hst
  have k2 := k p e s m args below meth c dC dI dA ad0 n0 A ad H locs ls C hA h0 hn (okS_cons.mpr ⟨inI_wI _, hst⟩) hL hW hS hl
  refine lv_isub C.1 C.2.1 hd ?_
  rw [oI_sub]
  exact k2

theorem vc_imul {x y : Int} (hd : At (mB D) pc .imul 1 pc') (k : VC l D pc' L (aI (wI (x * y)) :: st) M kc ks Q) : VC l D pc L (aI y :: aI x :: st) M kc ks Q := by
  intro p e s m args below meth c dC dI dA ad0 n0 A ad H locs ls C hA h0 hn hst hL hW hS hl
  obtain ⟨hd, rfl⟩ := hd
  obtain ⟨hy, hst⟩ := okS_cons.mp hst
  obtain ⟨hx, hst⟩ := okS_cons.mp hst
  have k2 := k p e s m args below meth c dC dI dA ad0 n0 A ad H locs ls C hA h0 hn (okS_cons.mpr ⟨inI_wI _, hst⟩) hL hW hS hl
  refine lv_imul C.1 C.2.1 hd ?_
  rw [oI_mul]
  exact k2

theorem vc_ladd {x y : Int} (hd : At (mB D) pc .ladd 1 pc') (k : VC l D pc' L (aL (wL (x + y)) :: st) M kc ks Q) : VC l D pc L (aL y :: aL x :: st) M kc ks Q := by
  intro p e s m args below meth c dC dI dA ad0 n0 A ad H locs ls C hA h0 hn hst hL hW hS hl
  obtain ⟨hd, rfl⟩ := hd
  obtain ⟨hy, hst⟩ := okS_cons.mp hst
  obtain ⟨hx, hst⟩ := okS_cons.mp hst
  have k2 := k p e s m args below meth c dC dI dA ad0 n0 A ad H locs ls C hA h0 hn (okS_cons.mpr ⟨inL_wL _, hst⟩) hL hW hS hl
  refine lv_ladd C.1 C.2.1 hd ?_
  rw [oL_add]
  exact k2

theorem vc_lsub {x y : Int} (hd : At (mB D) pc .lsub 1 pc') (k : VC l D pc' L (aL (wL (x - y)) :: st) M kc ks Q) : VC l D pc L (aL y :: aL x :: st) M kc ks Q := by
  intro p e s m args below meth c dC dI dA ad0 n0 A ad H locs ls C hA h0 hn hst hL hW hS hl
  obtain ⟨hd, rfl⟩ := hd
  obtain ⟨hy, hst⟩ := okS_cons.mp hst
  obtain ⟨hx, hst⟩ := okS_cons.mp hst
  have k2 := k p e s m args below meth c dC dI dA ad0 n0 A ad H locs ls C hA h0 hn (okS_cons.mpr ⟨inL_wL _, hst⟩) hL hW hS hl
  refine lv_lsub C.1 C.2.1 hd ?_
  rw [oL_sub]
  exact k2

theorem vc_lmul {x y : Int} (hd : At (mB D) pc .lmul 1 pc') (k : VC l D pc' L (aL (wL (x * y)) :: st) M kc ks Q) : VC l D pc L (aL y :: aL x :: st) M kc ks Q := by
  intro p e s m args below meth c dC dI dA ad0 n0 A ad H locs ls C hA h0 hn hst hL hW hS hl
  obtain ⟨hd, rfl⟩ := hd
  obtain ⟨hy, hst⟩ := okS_cons.mp hst
  obtain ⟨hx, hst⟩ := okS_cons.mp hst
  have k2 := k p e s m args below meth c dC dI dA ad0 n0 A ad H locs ls C hA h0 hn (okS_cons.mpr ⟨inL_wL _, hst⟩) hL hW hS hl
  refine lv_lmul C.1 C.2.1 hd ?_
  rw [oL_mul]
  exact k2

theorem vc_idiv {x y : Int} (hd : At (mB D) pc .idiv 1 pc') (hne : ¬ y = 0) (k : VC l D pc' L (aI (dvI x y) :: st) M kc ks Q) : VC l D pc L (aI y :: aI x :: st) M kc ks Q := by
  intro p e s m args below meth c dC dI dA ad0 n0 A ad H locs ls C hA h0 hn hst hL hW hS hl
  obtain ⟨hd, rfl⟩ := hd
  obtain ⟨hy, hst⟩ := okS_cons.mp hst
  obtain ⟨hx, hst⟩ := okS_cons.mp hst
  have k2 := k p e s m args below meth c dC dI dA ad0 n0 A ad H locs ls C hA h0 hn (okS_cons.mpr ⟨inI_wI _, hst⟩) hL hW hS hl
  refine lv_idiv C.1 C.2.1 hd (fun h => hne ((oI_eq hy inI_0).mp h)) ?_
  rw [oI_div hx hy]
  exact k2

theorem vc_irem {x y : Int} (hd : At (mB D) pc .irem 1 pc') (hne : ¬ y = 0) (k : VC l D pc' L (aI (rmI x y) :: st) M kc ks Q) : VC l D pc L (aI y :: aI x :: st) M kc ks Q := by
  intro p e s m args below meth c dC dI dA ad0 n0 A ad H locs ls C hA h0 hn hst hL hW hS hl
  obtain ⟨hd, rfl⟩ := hd
  obtain ⟨hy, hst⟩ := okS_cons.mp hst
  obtain ⟨hx, hst⟩ := okS_cons.mp hst
  have k2 := k p e s m args below meth c dC dI dA ad0 n0 A ad H locs ls C hA h0 hn (okS_cons.mpr ⟨inI_rm hx hne, hst⟩) hL hW hS hl
  refine lv_irem C.1 C.2.1 hd (fun h => hne ((oI_eq hy inI_0).mp h)) ?_
  rw [oI_rem hx hy]
  exact k2

theorem vc_ldiv {x y : Int} (hd : At (mB D) pc .ldiv 1 pc') (hne : ¬ y = 0) (k : VC l D pc' L (aL (dvL x y) :: st) M kc ks Q) : VC l D pc L (aL y :: aL x :: st) M kc ks Q := by
  intro p e s m args below meth c dC dI dA ad0 n0 A ad H locs ls C hA h0 hn hst hL hW hS hl
  obtain ⟨hd, rfl⟩ := hd
  obtain ⟨hy, hst⟩ := okS_cons.mp hst
  obtain ⟨hx, hst⟩ := okS_cons.mp hst
  have k2 := k p e s m args below meth c dC dI dA ad0 n0 A ad H locs ls C hA h0 hn (okS_cons.mpr ⟨inL_wL _, hst⟩) hL hW hS hl
  refine lv_ldiv C.1 C.2.1 hd (fun h => hne ((oL_eq hy ⟨by decide, by decide⟩).mp h)) ?_
  rw [oL_div hx hy]
  exact k2

theorem vc_lrem {x y : Int} (hd : At (mB D) pc .lrem 1 pc') (hne : ¬ y = 0) (k : VC l D pc' L (aL (rmL x y) :: st) M kc ks Q) : VC l D pc L (aL y :: aL x :: st) M kc ks Q := by
  intro p e s m args below meth c dC dI dA ad0 n0 A ad H locs ls C hA h0 hn hst hL hW hS hl
  obtain ⟨hd, rfl⟩ := hd
  obtain ⟨hy, hst⟩ := okS_cons.mp hst
  obtain ⟨hx, hst⟩ := okS_cons.mp hst
  have k2 := k p e s m args below meth c dC dI dA ad0 n0 A ad H locs ls C hA h0 hn (okS_cons.mpr ⟨inL_rm hx hne, hst⟩) hL hW hS hl
  refine lv_lrem C.1 C.2.1 hd (fun h => hne ((oL_eq hy ⟨by decide, by decide⟩).mp h)) ?_
  rw [oL_rem hx hy]
  exact k2

theorem vc_iand {x y : Int} (hd : At (mB D) pc .iand 1 pc') (k : VC l D pc' L (aI (andI x y) :: st) M kc ks Q) : VC l D pc L (aI y :: aI x :: st) M kc ks Q := by
  intro p e s m args below meth c dC dI dA ad0 n0 A ad H locs ls C hA h0 hn hst hL hW hS hl
  obtain ⟨hd, rfl⟩ := hd
  obtain ⟨hy, hst⟩ := okS_cons.mp hst
  obtain ⟨hx, hst⟩ := okS_cons.mp hst
  have k2 := k p e s m args below meth c dC dI dA ad0 n0 A ad H locs ls C hA h0 hn (okS_cons.mpr ⟨inI_to _, hst⟩) hL hW hS hl
  refine lv_iand C.1 C.2.1 hd ?_
  simp only [List.map_cons, aV, andI, oI_to] at k2
  exact k2

theorem vc_ior {x y : Int} (hd : At (mB D) pc .ior 1 pc') (k : VC l D pc' L (aI (orI x y) :: st) M kc ks Q) : VC l D pc L (aI y :: aI x :: st) M kc ks Q := by
  intro p e s m args below meth c dC dI dA ad0 n0 A ad H locs ls C hA h0 hn hst hL hW hS hl
  obtain ⟨hd, rfl⟩ := hd
  obtain ⟨hy, hst⟩ := okS_cons.mp hst
  obtain ⟨hx, hst⟩ := okS_cons.mp hst
  have k2 := k p e s m args below meth c dC dI dA ad0 n0 A ad H locs ls C hA h0 hn (okS_cons.mpr ⟨inI_to _, hst⟩) hL hW hS hl
  refine lv_ior C.1 C.2.1 hd ?_
  simp only [List.map_cons, aV, orI, oI_to] at k2
  exact k2

theorem vc_ixor {x y : Int} (hd : At (mB D) pc .ixor 1 pc') (k : VC l D pc' L (aI (xorI x y) :: st) M kc ks Q) : VC l D pc L (aI y :: aI x :: st) M kc ks Q := by
  intro p e s m args below meth c dC dI dA ad0 n0 A ad H locs ls C hA h0 hn hst hL hW hS hl
  obtain ⟨hd, rfl⟩ := hd
  obtain ⟨hy, hst⟩ := okS_cons.mp hst
  obtain ⟨hx, hst⟩ := okS_cons.mp hst
  have k2 := k p e s m args below meth c dC dI dA ad0 n0 A ad H locs ls C hA h0 hn (okS_cons.mpr ⟨inI_to _, hst⟩) hL hW hS hl
  refine lv_ixor C.1 C.2.1 hd ?_
  simp only [List.map_cons, aV, xorI, oI_to] at k2
  exact k2

theorem vc_ishl {x y : Int} (hd : At (mB D) pc .ishl 1 pc') (k : VC l D pc' L (aI (shlI x y) :: st) M kc ks Q) : VC l D pc L (aI y :: aI x :: st) M kc ks Q := by
  intro p e s m args below meth c dC dI dA ad0 n0 A ad H locs ls C hA h0 hn hst hL hW hS hl
  obtain ⟨hd, rfl⟩ := hd
  obtain ⟨hy, hst⟩ := okS_cons.mp hst
  obtain ⟨hx, hst⟩ := okS_cons.mp hst
  have k2 := k p e s m args below meth c dC dI dA ad0 n0 A ad H locs ls C hA h0 hn (okS_cons.mpr ⟨inI_to _, hst⟩) hL hW hS hl
  refine lv_ishl C.1 C.2.1 hd ?_
  simp only [List.map_cons, aV, shlI, oI_to] at k2
  exact k2

theorem vc_ishr {x y : Int} (hd : At (mB D) pc .ishr 1 pc') (k : VC l D pc' L (aI (shrI x y) :: st) M kc ks Q) : VC l D pc L (aI y :: aI x :: st) M kc ks Q := by
  intro p e s m args below meth c dC dI dA ad0 n0 A ad H locs ls C hA h0 hn hst hL hW hS hl
  obtain ⟨hd, rfl⟩ := hd
  obtain ⟨hy, hst⟩ := okS_cons.mp hst
  obtain ⟨hx, hst⟩ := okS_cons.mp hst
  have k2 := k p e s m args below meth c dC dI dA ad0 n0 A ad H locs ls C hA h0 hn (okS_cons.mpr ⟨inI_to _, hst⟩) hL hW hS hl
  refine lv_ishr C.1 C.2.1 hd ?_
  simp only [List.map_cons, aV, shrI, oI_to] at k2
  exact k2

theorem vc_land {x y : Int} (hd : At (mB D) pc .land 1 pc') (k : VC l D pc' L (aL (andL x y) :: st) M kc ks Q) : VC l D pc L (aL y :: aL x :: st) M kc ks Q := by
  intro p e s m args below meth c dC dI dA ad0 n0 A ad H locs ls C hA h0 hn hst hL hW hS hl
  obtain ⟨hd, rfl⟩ := hd
  obtain ⟨hy, hst⟩ := okS_cons.mp hst
  obtain ⟨hx, hst⟩ := okS_cons.mp hst
  have k2 := k p e s m args below meth c dC dI dA ad0 n0 A ad H locs ls C hA h0 hn (okS_cons.mpr ⟨inL_to _, hst⟩) hL hW hS hl
  refine lv_land C.1 C.2.1 hd ?_
  simp only [List.map_cons, aV, andL, oL_to] at k2
  exact k2

theorem vc_lor {x y : Int} (hd : At (mB D) pc .lor 1 pc') (k : VC l D pc' L (aL (orL x y) :: st) M kc ks Q) : VC l D pc L (aL y :: aL x :: st) M kc ks Q := by
  intro p e s m args below meth c dC dI dA ad0 n0 A ad H locs ls C hA h0 hn hst hL hW hS hl
  obtain ⟨hd, rfl⟩ := hd
  obtain ⟨hy, hst⟩ := okS_cons.mp hst
  obtain ⟨hx, hst⟩ := okS_cons.mp hst
  have k2 := k p e s m args below meth c dC dI dA ad0 n0 A ad H locs ls C hA h0 hn (okS_cons.mpr ⟨inL_to _, hst⟩) hL hW hS hl
  refine lv_lor C.1 C.2.1 hd ?_
  simp only [List.map_cons, aV, orL, oL_to] at k2
  exact k2

theorem vc_iushr {x y : Int} (hd : At (mB D) pc .iushr 1 pc') (k : VC l D pc' L (aI (ushrI x y) :: st) M kc ks Q) : VC l D pc L (aI y :: aI x :: st) M kc ks Q := by
  intro p e s m args below meth c dC dI dA ad0 n0 A ad H locs ls C hA h0 hn hst hL hW hS hl
  obtain ⟨hd, rfl⟩ := hd
  obtain ⟨hy, hst⟩ := okS_cons.mp hst
  obtain ⟨hx, hst⟩ := okS_cons.mp hst
  have k2 := k p e s m args below meth c dC dI dA ad0 n0 A ad H locs ls C hA h0 hn (okS_cons.mpr ⟨inI_to _, hst⟩) hL hW hS hl
  simp only [List.map_cons, aV, ushrI, oI_to] at k2
  exact lv_iushr C.1 C.2.1 hd rfl k2

theorem vc_lshl {x y : Int} (hd : At (mB D) pc .lshl 1 pc') (k : VC l D pc' L (aL (shlL x y) :: st) M kc ks Q) : VC l D pc L (aI y :: aL x :: st) M kc ks Q := by
  intro p e s m args below meth c dC dI dA ad0 n0 A ad H locs ls C hA h0 hn hst hL hW hS hl
  obtain ⟨hd, rfl⟩ := hd
  obtain ⟨hy, hst⟩ := okS_cons.mp hst
  obtain ⟨hx, hst⟩ := okS_cons.mp hst
  have k2 := k p e s m args below meth c dC dI dA ad0 n0 A ad H locs ls C hA h0 hn (okS_cons.mpr ⟨inL_to _, hst⟩) hL hW hS hl
  simp only [List.map_cons, aV, shlL, oL_to] at k2
  exact lv_lshl C.1 C.2.1 hd rfl k2

theorem vc_lshr {x y : Int} (hd : At (mB D) pc .lshr 1 pc') (k : VC l D pc' L (aL (shrL x y) :: st) M kc ks Q) : VC l D pc L (aI y :: aL x :: st) M kc ks Q := by
  intro p e s m args below meth c dC dI dA ad0 n0 A ad H locs ls C hA h0 hn hst hL hW hS hl
  obtain ⟨hd, rfl⟩ := hd
  obtain ⟨hy, hst⟩ := okS_cons.mp hst
  obtain ⟨hx, hst⟩ := okS_cons.mp hst
  have k2 := k p e s m args below meth c dC dI dA ad0 n0 A ad H locs ls C hA h0 hn (okS_cons.mpr ⟨inL_to _, hst⟩) hL hW hS hl
  simp only [List.map_cons, aV, shrL, oL_to] at k2
  exact lv_lshr C.1 C.2.1 hd rfl k2

theorem vc_ineg {x : Int} (hd : At (mB D) pc .ineg 1 pc') (k : VC l D pc' L (aI (wI (-x)) :: st) M kc ks Q) : VC l D pc L (aI x :: st) M kc ks Q := by
  intro p e s m args below meth c dC dI dA ad0 n0 A ad H locs ls C hA h0 hn hst hL hW hS hl
  obtain ⟨hd, rfl⟩ := hd
  obtain ⟨hx, hst⟩ := okS_cons.mp hst
  have k2 := k p e s m args below meth c dC dI dA ad0 n0 A ad H locs ls C hA h0 hn (okS_cons.mpr ⟨inI_wI _, hst⟩) hL hW hS hl
  refine lv_ineg C.1 C.2.1 hd ?_
  rw [oI_neg]
  exact k2

theorem vc_lneg {x : Int} (hd : At (mB D) pc .lneg 1 pc') (k : VC l D pc' L (aL (wL (-x)) :: st) M kc ks Q) : VC l D pc L (aL x :: st) M kc ks Q := by
  intro p e s m args below meth c dC dI dA ad0 n0 A ad H locs ls C hA h0 hn hst hL hW hS hl
  obtain ⟨hd, rfl⟩ := hd
  obtain ⟨hx, hst⟩ := okS_cons.mp hst
  have k2 := k p e s m args below meth c dC dI dA ad0 n0 A ad H locs ls C hA h0 hn (okS_cons.mpr ⟨inL_wL _, hst⟩) hL hW hS hl
  refine lv_lneg C.1 C.2.1 hd ?_
  rw [oL_neg]
  exact k2

theorem vc_i2l {x : Int} (hd : At (mB D) pc .i2l 1 pc') (k : VC l D pc' L (aL x :: st) M kc ks Q) : VC l D pc L (aI x :: st) M kc ks Q := by
  intro p e s m args below meth c dC dI dA ad0 n0 A ad H locs ls C hA h0 hn hst hL hW hS hl
  obtain ⟨hd, rfl⟩ := hd
  obtain ⟨hx, hst⟩ := okS_cons.mp hst
  have k2 := k p e s m args below meth c dC dI dA ad0 n0 A ad H locs ls C hA h0 hn (okS_cons.mpr ⟨(show inL x from ⟨by have := hx.1; omega, by have := hx.2; omega⟩), hst⟩) hL hW hS hl
  exact lv_i2l C.1 C.2.1 hd (Int64.toInt_inj.mp (by rw [Int32.toInt_toInt64, oI_id hx, oL_id ⟨by have := hx.1; omega, by have := hx.2; omega⟩])) k2

theorem vc_l2i {x : Int} (hd : At (mB D) pc .l2i 1 pc') (k : VC l D pc' L (aI (wI x) :: st) M kc ks Q) : VC l D pc L (aL x :: st) M kc ks Q := by
  intro p e s m args below meth c dC dI dA ad0 n0 A ad H locs ls C hA h0 hn hst hL hW hS hl
  obtain ⟨hd, rfl⟩ := hd
  obtain ⟨hx, hst⟩ := okS_cons.mp hst
  have k2 := k p e s m args below meth c dC dI dA ad0 n0 A ad H locs ls C hA h0 hn (okS_cons.mpr ⟨inI_wI _, hst⟩) hL hW hS hl
  exact lv_l2i C.1 C.2.1 hd (Int32.toInt_inj.mp (by rw [Int64.toInt_toInt32, oL_id hx, oI_id (inI_wI x)]; rfl)) k2

theorem vc_lcmp {x y : Int} (hd : At (mB D) pc .lcmp 1 pc') (k : VC l D pc' L (aI (cmpL x y) :: st) M kc ks Q) : VC l D pc L (aL y :: aL x :: st) M kc ks Q := by
  intro p e s m args below meth c dC dI dA ad0 n0 A ad H locs ls C hA h0 hn hst hL hW hS hl
  obtain ⟨hd, rfl⟩ := hd
  obtain ⟨hy, hst⟩ := okS_cons.mp hst
  obtain ⟨hx, hst⟩ := okS_cons.mp hst
  have hr : inI (cmpL x y) := by unfold cmpL; split; exact ⟨by decide, by decide⟩; split <;> exact ⟨by decide, by decide⟩
  have k2 := k p e s m args below meth c dC dI dA ad0 n0 A ad H locs ls C hA h0 hn (okS_cons.mpr ⟨hr, hst⟩) hL hW hS hl
  have e : lg_cmp (Int64.ofInt x) (Int64.ofInt y) = Int32.ofInt (cmpL x y) := by
    unfold lg_cmp cmpL
    simp only [GT.gt, oL_lt hy hx, oL_eq hx hy]
    split
    · rfl
    · split <;> rfl
  refine W.lcmp C.1 C.2.1 hd ?_
  rw [e]
  exact k2

theorem vc_dup {v : AV} (hd : At (mB D) pc .dup 1 pc') (hv : catA v = 1) (k : VC l D pc' L (v :: v :: st) M kc ks Q) : VC l D pc L (v :: st) M kc ks Q := by
  intro p e s m args below meth c dC dI dA ad0 n0 A ad H locs ls C hA h0 hn hst hL hW hS hl
  obtain ⟨hd, rfl⟩ := hd
  obtain ⟨hv2, hst⟩ := okS_cons.mp hst
  exact lv_dup C.1 C.2.1 hd (by rw [aV_cat]; exact hv) (k p e s m args below meth c dC dI dA ad0 n0 A ad H locs ls C hA h0 hn (okS_cons.mpr ⟨hv2, okS_cons.mpr ⟨hv2, hst⟩⟩) hL hW hS hl)

theorem vc_pop {v : AV} (hd : At (mB D) pc .pop 1 pc') (hv : catA v = 1) (k : VC l D pc' L (st) M kc ks Q) : VC l D pc L (v :: st) M kc ks Q := by
  intro p e s m args below meth c dC dI dA ad0 n0 A ad H locs ls C hA h0 hn hst hL hW hS hl
  obtain ⟨hd, rfl⟩ := hd
  obtain ⟨hv2, hst⟩ := okS_cons.mp hst
  exact lv_pop C.1 C.2.1 hd (by rw [aV_cat]; exact hv) (k p e s m args below meth c dC dI dA ad0 n0 A ad H locs ls C hA h0 hn hst hL hW hS hl)

theorem vc_dup2 {v w : AV} (hd : At (mB D) pc .dup2 1 pc') (hv : catA v = 1) (hw : catA w = 1) (k : VC l D pc' L (v :: w :: v :: w :: st) M kc ks Q) : VC l D pc L (v :: w :: st) M kc ks Q := by
  intro p e s m args below meth c dC dI dA ad0 n0 A ad H locs ls C hA h0 hn hst hL hW hS hl
  obtain ⟨hd, rfl⟩ := hd
  obtain ⟨hv2, hst⟩ := okS_cons.mp hst
  obtain ⟨hw2, hst⟩ := okS_cons.mp hst
  exact lv_dup2_11 C.1 C.2.1 hd (by rw [aV_cat]; exact hv) (by rw [aV_cat]; exact hw) (k p e s m args below meth c dC dI dA ad0 n0 A ad H locs ls C hA h0 hn (okS_cons.mpr ⟨hv2, okS_cons.mpr ⟨hw2, okS_cons.mpr ⟨hv2, okS_cons.mpr ⟨hw2, hst⟩⟩⟩⟩) hL hW hS hl)

theorem vc_istore_n {i : Fin 4} {x : Int} (hd : At (mB D) pc (.istore_n i) 1 pc') (hn2 : (i : Nat) < mN D) (hf : freeB L (i : Nat) = true) (hL2 : L.set (i : Nat) (some (aI x)) = L') (k : VC l D pc' L' st M kc ks Q) : VC l D pc L (aI x :: st) M kc ks Q := by
  intro p e s m args below meth c dC dI dA ad0 n0 A ad H locs ls C hA h0 hn hst hL hW hS hl
  obtain ⟨hd, rfl⟩ := hd
  obtain ⟨hx, hst⟩ := okS_cons.mp hst
  subst hL2
  exact lv_istore_n C.1 C.2.1 hd rfl hl hn2 rfl (fun ls2 hl2 => k p e s m args below meth c dC dI dA ad0 n0 A ad H locs ls2 C hA h0 hn hst (okL_set hL hx) hW hS (lvL_set1 hf hl2))

theorem vc_istore {i : Nat} {x : Int} (hd : At (mB D) pc (.istore i) 2 pc') (hn2 : i < mN D) (hf : freeB L i = true) (hL2 : L.set i (some (aI x)) = L') (k : VC l D pc' L' st M kc ks Q) : VC l D pc L (aI x :: st) M kc ks Q := by
  intro p e s m args below meth c dC dI dA ad0 n0 A ad H locs ls C hA h0 hn hst hL hW hS hl
  obtain ⟨hd, rfl⟩ := hd
  obtain ⟨hx, hst⟩ := okS_cons.mp hst
  subst hL2
  exact lv_istore C.1 C.2.1 hd hl hn2 rfl (fun ls2 hl2 => k p e s m args below meth c dC dI dA ad0 n0 A ad H locs ls2 C hA h0 hn hst (okL_set hL hx) hW hS (lvL_set1 hf hl2))

theorem vc_lstore_n {i : Fin 4} {x : Int} (hd : At (mB D) pc (.lstore_n i) 1 pc') (hn2 : (i : Nat) + 1 < mN D) (hf : freeB L (i : Nat) = true) (hn3 : (L.set ((i : Nat) + 1) none)[(i : Nat) + 1]? = some none) (hL2 : (L.set ((i : Nat) + 1) none).set (i : Nat) (some (aL x)) = L') (k : VC l D pc' L' st M kc ks Q) : VC l D pc L (aL x :: st) M kc ks Q := by
  intro p e s m args below meth c dC dI dA ad0 n0 A ad H locs ls C hA h0 hn hst hL hW hS hl
  obtain ⟨hd, rfl⟩ := hd
  obtain ⟨hx, hst⟩ := okS_cons.mp hst
  subst hL2
  exact lv_lstore_n C.1 C.2.1 hd rfl hl hn2 rfl (fun ls2 hl2 => k p e s m args below meth c dC dI dA ad0 n0 A ad H locs ls2 C hA h0 hn hst (okL_set (okL_clr hL) hx) hW hS (lvL_set2 hf hn3 hl2))

theorem vc_lstore {i : Nat} {x : Int} (hd : At (mB D) pc (.lstore i) 2 pc') (hn2 : i + 1 < mN D) (hf : freeB L i = true) (hn3 : (L.set (i + 1) none)[i + 1]? = some none) (hL2 : (L.set (i + 1) none).set i (some (aL x)) = L') (k : VC l D pc' L' st M kc ks Q) : VC l D pc L (aL x :: st) M kc ks Q := by
  intro p e s m args below meth c dC dI dA ad0 n0 A ad H locs ls C hA h0 hn hst hL hW hS hl
  obtain ⟨hd, rfl⟩ := hd
  obtain ⟨hx, hst⟩ := okS_cons.mp hst
  subst hL2
  exact lv_lstore C.1 C.2.1 hd hl hn2 rfl (fun ls2 hl2 => k p e s m args below meth c dC dI dA ad0 n0 A ad H locs ls2 C hA h0 hn hst (okL_set (okL_clr hL) hx) hW hS (lvL_set2 hf hn3 hl2))

theorem vc_astore_n {i : Fin 4} {r : Option Nat} (hd : At (mB D) pc (.astore_n i) 1 pc') (hn2 : (i : Nat) < mN D) (hf : freeB L (i : Nat) = true) (hL2 : L.set (i : Nat) (some (.inr (.inr r))) = L') (k : VC l D pc' L' st M kc ks Q) : VC l D pc L (.inr (.inr r) :: st) M kc ks Q := by
  intro p e s m args below meth c dC dI dA ad0 n0 A ad H locs ls C hA h0 hn hst hL hW hS hl
  obtain ⟨hd, rfl⟩ := hd
  obtain ⟨hx, hst⟩ := okS_cons.mp hst
  subst hL2
  have k2 := fun ls2 hl2 => k p e s m args below meth c dC dI dA ad0 n0 A ad H locs ls2 C hA h0 hn hst (okL_set hL hx) hW hS (lvL_set1 hf hl2)
  cases r with
  | none => exact lv_astore_nN C.1 C.2.1 hd rfl hl hn2 rfl k2
  | some x => exact lv_astore_n C.1 C.2.1 hd rfl hl hn2 rfl k2

theorem vc_astore {i : Nat} {r : Option Nat} (hd : At (mB D) pc (.astore i) 2 pc') (hn2 : i < mN D) (hf : freeB L i = true) (hL2 : L.set i (some (.inr (.inr r))) = L') (k : VC l D pc' L' st M kc ks Q) : VC l D pc L (.inr (.inr r) :: st) M kc ks Q := by
  intro p e s m args below meth c dC dI dA ad0 n0 A ad H locs ls C hA h0 hn hst hL hW hS hl
  obtain ⟨hd, rfl⟩ := hd
  obtain ⟨hx, hst⟩ := okS_cons.mp hst
  subst hL2
  have k2 := fun ls2 hl2 => k p e s m args below meth c dC dI dA ad0 n0 A ad H locs ls2 C hA h0 hn hst (okL_set hL hx) hW hS (lvL_set1 hf hl2)
  cases r with
  | none => exact lv_astoreN C.1 C.2.1 hd hl hn2 rfl k2
  | some x => exact lv_astore C.1 C.2.1 hd hl hn2 rfl k2

theorem vc_iinc {i : Nat} {n x : Int} (hd : At (mB D) pc (.iinc i n) 3 pc') (hi : L[i]? = some (some (aI x))) (hn2 : i < mN D) (hf : freeB L i = true) (hL2 : L.set i (some (aI (wI (x + n)))) = L') (k : VC l D pc' L' st M kc ks Q) : VC l D pc L st M kc ks Q := by
  intro p e s m args below meth c dC dI dA ad0 n0 A ad H locs ls C hA h0 hn hst hL hW hS hl
  obtain ⟨hd, rfl⟩ := hd
  subst hL2
  have hm : (i, Value.int (Int32.ofInt x)) ∈ lvL ad L := lvL_mem.mpr ⟨aI x, hi, rfl⟩
  obtain ⟨j, hj⟩ := List.getElem?_of_mem hm
  refine lv_iinc (v := Int32.ofInt (wI (x + n))) C.1 C.2.1 hd hl hj (by rw [oI_add]) hn2 rfl (fun ls2 hl2 => ?_)
  exact k p e s m args below meth c dC dI dA ad0 n0 A ad H locs ls2 C hA h0 hn hst (okL_set hL (inI_wI _ : okV M.1 (aI (wI (x + n))))) hW hS (lvL_set1 (v := aI (wI (x + n))) hf hl2)

theorem vc_icmp_eq {x y off : Int} (hd : AtB (mB D) pc (.if_icmp .eq off) off pc' tgt) (kt : x = y → VC l D tgt L st M kc ks Q) (kf : ¬ (x = y) → VC l D pc' L st M kc ks Q) : VC l D pc L (aI y :: aI x :: st) M kc ks Q := by
  intro p e s m args below meth c dC dI dA ad0 n0 A ad H locs ls C hA h0 hn hst hL hW hS hl
  obtain ⟨hd, rfl, ht⟩ := hd
  obtain ⟨hy, hst⟩ := okS_cons.mp hst
  obtain ⟨hx, hst⟩ := okS_cons.mp hst
  have hh := oI_eq hx hy
  exact lv_icmp_eq C.1 C.2.1 hd ht (fun h => kt (hh.mp h) p e s m args below meth c dC dI dA ad0 n0 A ad H locs ls C hA h0 hn hst hL hW hS hl) (fun h => kf (fun h2 => h (hh.mpr h2)) p e s m args below meth c dC dI dA ad0 n0 A ad H locs ls C hA h0 hn hst hL hW hS hl)

theorem vc_if_eq {x off : Int} (hd : AtB (mB D) pc (.ifCond .eq off) off pc' tgt) (kt : x = 0 → VC l D tgt L st M kc ks Q) (kf : ¬ (x = 0) → VC l D pc' L st M kc ks Q) : VC l D pc L (aI x :: st) M kc ks Q := by
  intro p e s m args below meth c dC dI dA ad0 n0 A ad H locs ls C hA h0 hn hst hL hW hS hl
  obtain ⟨hd, rfl, ht⟩ := hd
  obtain ⟨hx, hst⟩ := okS_cons.mp hst
  have hh := oI_eq hx inI_0
  exact lv_if_eq C.1 C.2.1 hd ht (fun h => kt (hh.mp h) p e s m args below meth c dC dI dA ad0 n0 A ad H locs ls C hA h0 hn hst hL hW hS hl) (fun h => kf (fun h2 => h (hh.mpr h2)) p e s m args below meth c dC dI dA ad0 n0 A ad H locs ls C hA h0 hn hst hL hW hS hl)

theorem vc_icmp_ne {x y off : Int} (hd : AtB (mB D) pc (.if_icmp .ne off) off pc' tgt) (kt : ¬ x = y → VC l D tgt L st M kc ks Q) (kf : x = y → VC l D pc' L st M kc ks Q) : VC l D pc L (aI y :: aI x :: st) M kc ks Q := by
  intro p e s m args below meth c dC dI dA ad0 n0 A ad H locs ls C hA h0 hn hst hL hW hS hl
  obtain ⟨hd, rfl, ht⟩ := hd
  obtain ⟨hy, hst⟩ := okS_cons.mp hst
  obtain ⟨hx, hst⟩ := okS_cons.mp hst
  have hh := not_congr (oI_eq hx hy)
  exact lv_icmp_ne C.1 C.2.1 hd ht (fun h => kt (hh.mp h) p e s m args below meth c dC dI dA ad0 n0 A ad H locs ls C hA h0 hn hst hL hW hS hl) (fun h => kf ((oI_eq hx hy).mp h) p e s m args below meth c dC dI dA ad0 n0 A ad H locs ls C hA h0 hn hst hL hW hS hl)

theorem vc_if_ne {x off : Int} (hd : AtB (mB D) pc (.ifCond .ne off) off pc' tgt) (kt : ¬ x = 0 → VC l D tgt L st M kc ks Q) (kf : x = 0 → VC l D pc' L st M kc ks Q) : VC l D pc L (aI x :: st) M kc ks Q := by
  intro p e s m args below meth c dC dI dA ad0 n0 A ad H locs ls C hA h0 hn hst hL hW hS hl
  obtain ⟨hd, rfl, ht⟩ := hd
  obtain ⟨hx, hst⟩ := okS_cons.mp hst
  have hh := not_congr (oI_eq hx inI_0)
  exact lv_if_ne C.1 C.2.1 hd ht (fun h => kt (hh.mp h) p e s m args below meth c dC dI dA ad0 n0 A ad H locs ls C hA h0 hn hst hL hW hS hl) (fun h => kf ((oI_eq hx inI_0).mp h) p e s m args below meth c dC dI dA ad0 n0 A ad H locs ls C hA h0 hn hst hL hW hS hl)

theorem vc_icmp_lt {x y off : Int} (hd : AtB (mB D) pc (.if_icmp .lt off) off pc' tgt) (kt : x < y → VC l D tgt L st M kc ks Q) (kf : ¬ (x < y) → VC l D pc' L st M kc ks Q) : VC l D pc L (aI y :: aI x :: st) M kc ks Q := by
  intro p e s m args below meth c dC dI dA ad0 n0 A ad H locs ls C hA h0 hn hst hL hW hS hl
  obtain ⟨hd, rfl, ht⟩ := hd
  obtain ⟨hy, hst⟩ := okS_cons.mp hst
  obtain ⟨hx, hst⟩ := okS_cons.mp hst
  have hh := oI_lt hx hy
  exact lv_icmp_lt C.1 C.2.1 hd ht (fun h => kt (hh.mp h) p e s m args below meth c dC dI dA ad0 n0 A ad H locs ls C hA h0 hn hst hL hW hS hl) (fun h => kf (fun h2 => h (hh.mpr h2)) p e s m args below meth c dC dI dA ad0 n0 A ad H locs ls C hA h0 hn hst hL hW hS hl)

theorem vc_if_lt {x off : Int} (hd : AtB (mB D) pc (.ifCond .lt off) off pc' tgt) (kt : x < 0 → VC l D tgt L st M kc ks Q) (kf : ¬ (x < 0) → VC l D pc' L st M kc ks Q) : VC l D pc L (aI x :: st) M kc ks Q := by
  intro p e s m args below meth c dC dI dA ad0 n0 A ad H locs ls C hA h0 hn hst hL hW hS hl
  obtain ⟨hd, rfl, ht⟩ := hd
  obtain ⟨hx, hst⟩ := okS_cons.mp hst
  have hh := oI_lt hx inI_0
  exact lv_if_lt C.1 C.2.1 hd ht (fun h => kt (hh.mp h) p e s m args below meth c dC dI dA ad0 n0 A ad H locs ls C hA h0 hn hst hL hW hS hl) (fun h => kf (fun h2 => h (hh.mpr h2)) p e s m args below meth c dC dI dA ad0 n0 A ad H locs ls C hA h0 hn hst hL hW hS hl)

theorem vc_icmp_ge {x y off : Int} (hd : AtB (mB D) pc (.if_icmp .ge off) off pc' tgt) (kt : y ≤ x → VC l D tgt L st M kc ks Q) (kf : ¬ (y ≤ x) → VC l D pc' L st M kc ks Q) : VC l D pc L (aI y :: aI x :: st) M kc ks Q := by
  intro p e s m args below meth c dC dI dA ad0 n0 A ad H locs ls C hA h0 hn hst hL hW hS hl
  obtain ⟨hd, rfl, ht⟩ := hd
  obtain ⟨hy, hst⟩ := okS_cons.mp hst
  obtain ⟨hx, hst⟩ := okS_cons.mp hst
  have hh := oI_le hy hx
  exact lv_icmp_ge C.1 C.2.1 hd ht (fun h => kt (hh.mp h) p e s m args below meth c dC dI dA ad0 n0 A ad H locs ls C hA h0 hn hst hL hW hS hl) (fun h => kf (fun h2 => h (hh.mpr h2)) p e s m args below meth c dC dI dA ad0 n0 A ad H locs ls C hA h0 hn hst hL hW hS hl)

theorem vc_if_ge {x off : Int} (hd : AtB (mB D) pc (.ifCond .ge off) off pc' tgt) (kt : 0 ≤ x → VC l D tgt L st M kc ks Q) (kf : ¬ (0 ≤ x) → VC l D pc' L st M kc ks Q) : VC l D pc L (aI x :: st) M kc ks Q := by
  intro p e s m args below meth c dC dI dA ad0 n0 A ad H locs ls C hA h0 hn hst hL hW hS hl
  obtain ⟨hd, rfl, ht⟩ := hd
  obtain ⟨hx, hst⟩ := okS_cons.mp hst
  have hh := oI_le inI_0 hx
  exact lv_if_ge C.1 C.2.1 hd ht (fun h => kt (hh.mp h) p e s m args below meth c dC dI dA ad0 n0 A ad H locs ls C hA h0 hn hst hL hW hS hl) (fun h => kf (fun h2 => h (hh.mpr h2)) p e s m args below meth c dC dI dA ad0 n0 A ad H locs ls C hA h0 hn hst hL hW hS hl)

theorem vc_icmp_gt {x y off : Int} (hd : AtB (mB D) pc (.if_icmp .gt off) off pc' tgt) (kt : y < x → VC l D tgt L st M kc ks Q) (kf : ¬ (y < x) → VC l D pc' L st M kc ks Q) : VC l D pc L (aI y :: aI x :: st) M kc ks Q := by
  intro p e s m args below meth c dC dI dA ad0 n0 A ad H locs ls C hA h0 hn hst hL hW hS hl
  obtain ⟨hd, rfl, ht⟩ := hd
  obtain ⟨hy, hst⟩ := okS_cons.mp hst
  obtain ⟨hx, hst⟩ := okS_cons.mp hst
  have hh := oI_lt hy hx
  exact lv_icmp_gt C.1 C.2.1 hd ht (fun h => kt (hh.mp h) p e s m args below meth c dC dI dA ad0 n0 A ad H locs ls C hA h0 hn hst hL hW hS hl) (fun h => kf (fun h2 => h (hh.mpr h2)) p e s m args below meth c dC dI dA ad0 n0 A ad H locs ls C hA h0 hn hst hL hW hS hl)

theorem vc_if_gt {x off : Int} (hd : AtB (mB D) pc (.ifCond .gt off) off pc' tgt) (kt : 0 < x → VC l D tgt L st M kc ks Q) (kf : ¬ (0 < x) → VC l D pc' L st M kc ks Q) : VC l D pc L (aI x :: st) M kc ks Q := by
  intro p e s m args below meth c dC dI dA ad0 n0 A ad H locs ls C hA h0 hn hst hL hW hS hl
  obtain ⟨hd, rfl, ht⟩ := hd
  obtain ⟨hx, hst⟩ := okS_cons.mp hst
  have hh := oI_lt inI_0 hx
  exact lv_if_gt C.1 C.2.1 hd ht (fun h => kt (hh.mp h) p e s m args below meth c dC dI dA ad0 n0 A ad H locs ls C hA h0 hn hst hL hW hS hl) (fun h => kf (fun h2 => h (hh.mpr h2)) p e s m args below meth c dC dI dA ad0 n0 A ad H locs ls C hA h0 hn hst hL hW hS hl)

theorem vc_icmp_le {x y off : Int} (hd : AtB (mB D) pc (.if_icmp .le off) off pc' tgt) (kt : x ≤ y → VC l D tgt L st M kc ks Q) (kf : ¬ (x ≤ y) → VC l D pc' L st M kc ks Q) : VC l D pc L (aI y :: aI x :: st) M kc ks Q := by
  intro p e s m args below meth c dC dI dA ad0 n0 A ad H locs ls C hA h0 hn hst hL hW hS hl
  obtain ⟨hd, rfl, ht⟩ := hd
  obtain ⟨hy, hst⟩ := okS_cons.mp hst
  obtain ⟨hx, hst⟩ := okS_cons.mp hst
  have hh := oI_le hx hy
  exact lv_icmp_le C.1 C.2.1 hd ht (fun h => kt (hh.mp h) p e s m args below meth c dC dI dA ad0 n0 A ad H locs ls C hA h0 hn hst hL hW hS hl) (fun h => kf (fun h2 => h (hh.mpr h2)) p e s m args below meth c dC dI dA ad0 n0 A ad H locs ls C hA h0 hn hst hL hW hS hl)

theorem vc_if_le {x off : Int} (hd : AtB (mB D) pc (.ifCond .le off) off pc' tgt) (kt : x ≤ 0 → VC l D tgt L st M kc ks Q) (kf : ¬ (x ≤ 0) → VC l D pc' L st M kc ks Q) : VC l D pc L (aI x :: st) M kc ks Q := by
  intro p e s m args below meth c dC dI dA ad0 n0 A ad H locs ls C hA h0 hn hst hL hW hS hl
  obtain ⟨hd, rfl, ht⟩ := hd
  obtain ⟨hx, hst⟩ := okS_cons.mp hst
  have hh := oI_le hx inI_0
  exact lv_if_le C.1 C.2.1 hd ht (fun h => kt (hh.mp h) p e s m args below meth c dC dI dA ad0 n0 A ad H locs ls C hA h0 hn hst hL hW hS hl) (fun h => kf (fun h2 => h (hh.mpr h2)) p e s m args below meth c dC dI dA ad0 n0 A ad H locs ls C hA h0 hn hst hL hW hS hl)

theorem vc_goto {off : Int} (hd : AtB (mB D) pc (.goto off) off pc' tgt) (k : VC l D tgt L st M kc ks Q) : VC l D pc L st M kc ks Q := by
  intro p e s m args below meth c dC dI dA ad0 n0 A ad H locs ls C hA h0 hn hst hL hW hS hl
  obtain ⟨hd, rfl, ht⟩ := hd
  exact lv_goto C.1 C.2.1 hd ht (k p e s m args below meth c dC dI dA ad0 n0 A ad H locs ls C hA h0 hn hst hL hW hS hl)

theorem vc_ifnull {r : Option Nat} {off : Int} (hd : AtB (mB D) pc (.ifnull off) off pc' tgt) (kt : r = none → VC l D tgt L st M kc ks Q) (kf : ¬ (r = none) → VC l D pc' L st M kc ks Q) : VC l D pc L (.inr (.inr r) :: st) M kc ks Q := by
  intro p e s m args below meth c dC dI dA ad0 n0 A ad H locs ls C hA h0 hn hst hL hW hS hl
  obtain ⟨hd, rfl, ht⟩ := hd
  have hst2 := (okS_cons.mp hst).2
  cases r with
  | none => exact lv_ifnullN C.1 C.2.1 hd ht (kt rfl p e s m args below meth c dC dI dA ad0 n0 A ad H locs ls C hA h0 hn hst2 hL hW hS hl)
  | some x => exact lv_ifnull C.1 C.2.1 hd (kf (fun h => by cases h) p e s m args below meth c dC dI dA ad0 n0 A ad H locs ls C hA h0 hn hst2 hL hW hS hl)

theorem vc_ifnonnull {r : Option Nat} {off : Int} (hd : AtB (mB D) pc (.ifnonnull off) off pc' tgt) (kt : ¬ r = none → VC l D tgt L st M kc ks Q) (kf : ¬ (¬ r = none) → VC l D pc' L st M kc ks Q) : VC l D pc L (.inr (.inr r) :: st) M kc ks Q := by
  intro p e s m args below meth c dC dI dA ad0 n0 A ad H locs ls C hA h0 hn hst hL hW hS hl
  obtain ⟨hd, rfl, ht⟩ := hd
  have hst2 := (okS_cons.mp hst).2
  cases r with
  | none => exact lv_ifnonnullN C.1 C.2.1 hd (kf (fun h => h rfl) p e s m args below meth c dC dI dA ad0 n0 A ad H locs ls C hA h0 hn hst2 hL hW hS hl)
  | some x => exact lv_ifnonnull C.1 C.2.1 hd ht (kt (fun h => by cases h) p e s m args below meth c dC dI dA ad0 n0 A ad H locs ls C hA h0 hn hst2 hL hW hS hl)

theorem vc_iret {x : Int} (hd : At (mB D) pc .ireturn 1 pc') (hr : mT D = some .int) (h1 : kc ≤ mC D) (h2 : ks ≤ mS D) (hq : Q (some (aI x)) M) : VC l D pc L [aI x] M kc ks Q := by
  intro p e s m args below meth c dC dI dA ad0 n0 A ad H locs ls C hA h0 hn hst hL hW hS hl
  obtain ⟨hd, rfl⟩ := hd
  obtain ⟨hx, hst⟩ := okS_cons.mp hst
  refine W.widen h1 h2 ?_
  exact W.iret C.1 C.2.1 (C.2.2.1.trans hr) (fun t ht hw => ⟨some (aI x), M, ad, rfl, hq, hx, h0, hn, by rw [ht]; exact hW, va_K.moved hw.alike C.2.2.2.2.2.2.2.1, hS.F ht⟩) hS.2.2 hd C.2.2.2.1

theorem vc_zret {x : Int} (hd : At (mB D) pc .ireturn 1 pc') (hr : mT D = some .boolean) (hb : x = 0 ∨ x = 1) (h1 : kc ≤ mC D) (h2 : ks ≤ mS D) (hq : Q (some (aI x)) M) : VC l D pc L [aI x] M kc ks Q := by
  intro p e s m args below meth c dC dI dA ad0 n0 A ad H locs ls C hA h0 hn hst hL hW hS hl
  obtain ⟨hd, rfl⟩ := hd
  obtain ⟨hx, hst⟩ := okS_cons.mp hst
  refine W.widen h1 h2 ?_
  exact W.zret C.1 C.2.1 (C.2.2.1.trans hr) (by rcases hb with rfl | rfl <;> rfl) (fun t ht hw => ⟨some (aI x), M, ad, rfl, hq, hx, h0, hn, by rw [ht]; exact hW, va_K.moved hw.alike C.2.2.2.2.2.2.2.1, hS.F ht⟩) hS.2.2 hd C.2.2.2.1

theorem vc_lret {x : Int} (hd : At (mB D) pc .lreturn 1 pc') (hr : mT D = some .long) (h1 : kc ≤ mC D) (h2 : ks ≤ mS D) (hq : Q (some (aL x)) M) : VC l D pc L [aL x] M kc ks Q := by
  intro p e s m args below meth c dC dI dA ad0 n0 A ad H locs ls C hA h0 hn hst hL hW hS hl
  obtain ⟨hd, rfl⟩ := hd
  obtain ⟨hx, hst⟩ := okS_cons.mp hst
  refine W.widen h1 h2 ?_
  exact W.lret C.1 C.2.1 (C.2.2.1.trans hr) (fun t ht hw => ⟨some (aL x), M, ad, rfl, hq, hx, h0, hn, by rw [ht]; exact hW, va_K.moved hw.alike C.2.2.2.2.2.2.2.1, hS.F ht⟩) hS.2.2 hd C.2.2.2.1

theorem vc_vret (hd : At (mB D) pc .return_ 1 pc') (hr : mT D = none) (h1 : kc ≤ mC D) (h2 : ks ≤ mS D) (hq : Q none M) : VC l D pc L [] M kc ks Q := by
  intro p e s m args below meth c dC dI dA ad0 n0 A ad H locs ls C hA h0 hn hst hL hW hS hl
  obtain ⟨hd, rfl⟩ := hd
  refine W.widen h1 h2 ?_
  exact W.vret C.1 C.2.1 (C.2.2.1.trans hr) (fun t ht hw => ⟨none, M, ad, rfl, hq, trivial, h0, hn, by rw [ht]; exact hW, va_K.moved hw.alike C.2.2.2.2.2.2.2.1, hS.F ht⟩) hS.2.2 hd C.2.2.2.1

theorem vc_aret {r : Option Nat} {C2 : String} (hd : At (mB D) pc .areturn 1 pc') (hr : mT D = some (.object C2)) (h1 : kc ≤ mC D) (h2 : ks ≤ mS D) (hq : Q (some (.inr (.inr r))) M) : VC l D pc L [.inr (.inr r)] M kc ks Q := by
  intro p e s m args below meth c dC dI dA ad0 n0 A ad H locs ls C hA h0 hn hst hL hW hS hl
  obtain ⟨hd, rfl⟩ := hd
  obtain ⟨hx, hst⟩ := okS_cons.mp hst
  refine W.widen h1 h2 ?_
  exact W.aret (v := va_rf (r.map ad)) C.1 C.2.1 (C.2.2.1.trans hr) (Or.inl ⟨_, rfl⟩) (by cases r with | none => exact Or.inl rfl | some x => exact Or.inr ⟨_, rfl⟩) (fun t ht hw => ⟨some (.inr (.inr r)), M, ad, rfl, hq, hx, h0, hn, by rw [ht]; exact hW, va_K.moved hw.alike C.2.2.2.2.2.2.2.1, hS.F ht⟩) hS.2.2 hd C.2.2.2.1

end VCR
