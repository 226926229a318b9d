/-! VC ROWS of instructions that touch no heap (written by wip/whole/gen_rows.py) -/
def inB (n : Int) : Bool := decide (-2147483648 ≤ n) && decide (n < 2147483648)
theorem inB_ok {n : Int} (h : inB n = true) : inI n := by
  unfold inB at h
  simp only [Bool.and_eq_true, decide_eq_true_eq] at h
  exact h
theorem i8_ok {n : Int} (h : (decide (-128 ≤ n) && decide (n < 128)) = true) : (Int8.ofInt n).toInt32 = Int32.ofInt n := by
  simp only [Bool.and_eq_true, decide_eq_true_eq] at h
  apply Int32.toInt_inj.mp
  rw [Int8.toInt_toInt32, Int8.toInt_ofInt, oI_id ⟨by omega, by omega⟩]
  have e : ((Int8.size : Nat) : Int) = 256 := rfl
  exact Int.bmod_eq_of_le_mul_two (by omega) (by omega)
theorem i16_ok {n : Int} (h : (decide (-32768 ≤ n) && decide (n < 32768)) = true) : (Int16.ofInt n).toInt32 = Int32.ofInt n := by
  simp only [Bool.and_eq_true, decide_eq_true_eq] at h
  apply Int32.toInt_inj.mp
  rw [Int16.toInt_toInt32, Int16.toInt_ofInt, oI_id ⟨by omega, by omega⟩]
  have e : ((Int16.size : Nat) : Int) = 65536 := rfl
  exact Int.bmod_eq_of_le_mul_two (by omega) (by omega)
section VCR
variable {l : Launch} {D : MD} {pc pc' tgt : Nat} {L L' : List (Option AV)} {st : List AV} {M : Mem} {kc ks : Nat} {Q : Option AV → Mem → Prop}
/-- what is known of the values may be used -/
theorem vc_ok (k : okM M → okS M.1 st → okL M.1 L → VC l D pc L st M kc ks Q) : VC l D pc L st M kc ks Q := by
  intro p e s m args below meth c dC dI dA ad0 n0 A ad H locs ls C hA h0 hn hst hL hW hS hl
  exact k hW.1 hst hL p e s m args below meth c dC dI dA ad0 n0 A ad H locs ls C hA h0 hn hst hL hW hS hl
/-- fewer locals known -/
theorem vc_less (L' : List (Option AV)) (h : lessL L' L) (k : VC l D pc L' st M kc ks Q) : VC l D pc L st M kc ks Q := by
  intro p e s m args below meth c dC dI dA ad0 n0 A ad H locs ls C hA h0 hn hst hL hW hS hl
  exact k p e s m args below meth c dC dI dA ad0 n0 A ad H locs ls C hA h0 hn hst (fun i v hv => hL i v (h i v hv)) hW hS (lvL_less hl h)
/-- a value gets a name -/
theorem vc_nameI {x : Int} (k : ∀ y : Int, y = x → VC l D pc L (aI y :: st) M kc ks Q) : VC l D pc L (aI x :: st) M kc ks Q := k x rfl
theorem vc_nameL {x : Int} (k : ∀ y : Int, y = x → VC l D pc L (aL y :: st) M kc ks Q) : VC l D pc L (aL x :: st) M kc ks Q := k x rfl
theorem vc_iconst {n : Int} (hd : At (mB D) pc (.iconst n) 1 pc') (h : inB n = true) (k : VC l D pc' L (aI n :: st) M kc ks Q) : VC l D pc L st M kc ks Q := by
  intro p e s m args below meth c dC dI dA ad0 n0 A ad H locs ls C hA h0 hn hst hL hW hS hl
  obtain ⟨hd, rfl⟩ := hd
  refine lv_iconst C.1 C.2.1 hd rfl ?_
  exact k p e s m args below meth c dC dI dA ad0 n0 A ad H locs ls C hA h0 hn (okS_cons.mpr ⟨inB_ok h, hst⟩) hL hW hS hl

theorem vc_bipush {n : Int} (hd : At (mB D) pc (.bipush n) 2 pc') (h : (decide (-128 ≤ n) && decide (n < 128)) = true) (k : VC l D pc' L (aI n :: st) M kc ks Q) : VC l D pc L st M kc ks Q := by
  intro p e s m args below meth c dC dI dA ad0 n0 A ad H locs ls C hA h0 hn hst hL hW hS hl
  obtain ⟨hd, rfl⟩ := hd
  refine lv_bipush C.1 C.2.1 hd (i8_ok h) ?_
  exact k p e s m args below meth c dC dI dA ad0 n0 A ad H locs ls C hA h0 hn (okS_cons.mpr ⟨by simp only [Bool.and_eq_true, decide_eq_true_eq] at h; exact ⟨by omega, by omega⟩, hst⟩) hL hW hS hl

theorem vc_sipush {n : Int} (hd : At (mB D) pc (.sipush n) 3 pc') (h : (decide (-32768 ≤ n) && decide (n < 32768)) = true) (k : VC l D pc' L (aI n :: st) M kc ks Q) : VC l D pc L st M kc ks Q := by
  intro p e s m args below meth c dC dI dA ad0 n0 A ad H locs ls C hA h0 hn hst hL hW hS hl
  obtain ⟨hd, rfl⟩ := hd
  refine lv_sipush C.1 C.2.1 hd (i16_ok h) ?_
  exact k p e s m args below meth c dC dI dA ad0 n0 A ad H locs ls C hA h0 hn (okS_cons.mpr ⟨by simp only [Bool.and_eq_true, decide_eq_true_eq] at h; exact ⟨by omega, by omega⟩, hst⟩) hL hW hS hl

theorem vc_lconst {n : Fin 2} (hd : At (mB D) pc (.lconst n) 1 pc') (k : VC l D pc' L (aL (n : Nat) :: st) M kc ks Q) : VC l D pc L st M kc ks Q := by
  intro p e s m args below meth c dC dI dA ad0 n0 A ad H locs ls C hA h0 hn hst hL hW hS hl
  obtain ⟨hd, rfl⟩ := hd
  refine lv_lconst (v := Int64.ofInt ((n : Nat) : Int)) C.1 C.2.1 hd (by match n with | 0 => rfl | 1 => rfl) ?_
  exact k p e s m args below meth c dC dI dA ad0 n0 A ad H locs ls C hA h0 hn (okS_cons.mpr ⟨(by match n with | 0 => exact ⟨by decide, by decide⟩ | 1 => exact ⟨by decide, by decide⟩ : inL ((n : Nat) : Int)), hst⟩) hL hW hS hl

theorem vc_ldc {idx : Nat} {n : Int} (hd : At (mB D) pc (.ldc idx) 2 pc') (h : inB n = true) (hc : Cond.constant (mY D).cls idx (Int32.ofInt n) ∈ tblG) (k : VC l D pc' L (aI n :: st) M kc ks Q) : VC l D pc L st M kc ks Q := by
  intro p e s m args below meth c dC dI dA ad0 n0 A ad H locs ls C hA h0 hn hst hL hW hS hl
  obtain ⟨hd, rfl⟩ := hd
  refine lv_ldc C.1 C.2.1 C.2.2.2.2.2.1 (C.2.2.2.2.2.2.1 _ hc) hd ?_
  exact k p e s m args below meth c dC dI dA ad0 n0 A ad H locs ls C hA h0 hn (okS_cons.mpr ⟨inB_ok h, hst⟩) hL hW hS hl

theorem vc_ldc2 {idx : Nat} {n : Int} (hd : At (mB D) pc (.ldc2_w idx) 3 pc') (h : (decide (-9223372036854775808 ≤ n) && decide (n < 9223372036854775808)) = true) (hc : Cond.constantLong (mY D).cls idx (Int64.ofInt n) ∈ tblG) (k : VC l D pc' L (aL n :: st) M kc ks Q) : VC l D pc L st M kc ks Q := by
  intro p e s m args below meth c dC dI dA ad0 n0 A ad H locs ls C hA h0 hn hst hL hW hS hl
  obtain ⟨hd, rfl⟩ := hd
  refine lv_ldc2 C.1 C.2.1 C.2.2.2.2.2.1 (C.2.2.2.2.2.2.1 _ hc) hd ?_
  exact k p e s m args below meth c dC dI dA ad0 n0 A ad H locs ls C hA h0 hn (okS_cons.mpr ⟨by simp only [Bool.and_eq_true, decide_eq_true_eq] at h; exact h, hst⟩) hL hW hS hl

theorem vc_null (hd : At (mB D) pc .aconst_null 1 pc') (k : VC l D pc' L (aN :: st) M kc ks Q) : VC l D pc L st M kc ks Q := by
  intro p e s m args below meth c dC dI dA ad0 n0 A ad H locs ls C hA h0 hn hst hL hW hS hl
  obtain ⟨hd, rfl⟩ := hd
  refine lv_null C.1 C.2.1 hd ?_
  exact k p e s m args below meth c dC dI dA ad0 n0 A ad H locs ls C hA h0 hn (okS_cons.mpr ⟨trivial, hst⟩) hL hW hS hl

theorem vc_iload_n {i : Fin 4} {x : Int} (hd : At (mB D) pc (.iload_n i) 1 pc') (hi : L[(i : Nat)]? = some (some (aI x))) (k : VC l D pc' L (aI x :: st) M kc ks Q) : VC l D pc L st M kc ks Q := by
  intro p e s m args below meth c dC dI dA ad0 n0 A ad H locs ls C hA h0 hn hst hL hW hS hl
  obtain ⟨hd, rfl⟩ := hd
  refine lv_iload_n C.1 C.2.1 hd rfl (lvL_at hl hi) ?_
  exact k p e s m args below meth c dC dI dA ad0 n0 A ad H locs ls C hA h0 hn (okS_cons.mpr ⟨hL _ _ hi, hst⟩) hL hW hS hl

theorem vc_iload {i : Nat} {x : Int} (hd : At (mB D) pc (.iload i) 2 pc') (hi : L[i]? = some (some (aI x))) (k : VC l D pc' L (aI x :: st) M kc ks Q) : VC l D pc L st M kc ks Q := by
  intro p e s m args below meth c dC dI dA ad0 n0 A ad H locs ls C hA h0 hn hst hL hW hS hl
  obtain ⟨hd, rfl⟩ := hd
  refine lv_iload C.1 C.2.1 hd (lvL_at hl hi) ?_
  exact k p e s m args below meth c dC dI dA ad0 n0 A ad H locs ls C hA h0 hn (okS_cons.mpr ⟨hL _ _ hi, hst⟩) hL hW hS hl

theorem vc_lload_n {i : Fin 4} {x : Int} (hd : At (mB D) pc (.lload_n i) 1 pc') (hi : L[(i : Nat)]? = some (some (aL x))) (k : VC l D pc' L (aL x :: st) M kc ks Q) : VC l D pc L st M kc ks Q := by
  intro p e s m args below meth c dC dI dA ad0 n0 A ad H locs ls C hA h0 hn hst hL hW hS hl
  obtain ⟨hd, rfl⟩ := hd
  refine lv_lload_n C.1 C.2.1 hd rfl (lvL_at hl hi) ?_
  exact k p e s m args below meth c dC dI dA ad0 n0 A ad H locs ls C hA h0 hn (okS_cons.mpr ⟨hL _ _ hi, hst⟩) hL hW hS hl

theorem vc_lload {i : Nat} {x : Int} (hd : At (mB D) pc (.lload i) 2 pc') (hi : L[i]? = some (some (aL x))) (k : VC l D pc' L (aL x :: st) M kc ks Q) : VC l D pc L st M kc ks Q := by
  intro p e s m args below meth c dC dI dA ad0 n0 A ad H locs ls C hA h0 hn hst hL hW hS hl
  obtain ⟨hd, rfl⟩ := hd
  refine lv_lload C.1 C.2.1 hd (lvL_at hl hi) ?_
  exact k p e s m args below meth c dC dI dA ad0 n0 A ad H locs ls C hA h0 hn (okS_cons.mpr ⟨hL _ _ hi, hst⟩) hL hW hS hl

theorem vc_aload_n {i : Fin 4} {r : Option Nat} (hd : At (mB D) pc (.aload_n i) 1 pc') (hi : L[(i : Nat)]? = some (some (.inr (.inr r)))) (k : VC l D pc' L (.inr (.inr r) :: st) M kc ks Q) : VC l D pc L st M kc ks Q := by
  intro p e s m args below meth c dC dI dA ad0 n0 A ad H locs ls C hA h0 hn hst hL hW hS hl
  obtain ⟨hd, rfl⟩ := hd
  have hl2 := lvL_at hl hi
  have k2 := k p e s m args below meth c dC dI dA ad0 n0 A ad H locs ls C hA h0 hn (okS_cons.mpr ⟨hL _ _ hi, hst⟩) hL hW hS hl
  cases r with
  | none => exact lv_aload_nN C.1 C.2.1 hd rfl hl2 k2
  | some x => exact lv_aload_n C.1 C.2.1 hd rfl hl2 k2
--  exact k p e s m args below meth c dC dI dA ad0 n0 A ad H locs ls C hA h0 hn (okS_cons.mpr ⟨hL _ _ hi, hst⟩) hL hW hS hl

theorem vc_aload {i : Nat} {r : Option Nat} (hd : At (mB D) pc (.aload i) 2 pc') (hi : L[i]? = some (some (.inr (.inr r)))) (k : VC l D pc' L (.inr (.inr r) :: st) M kc ks Q) : VC l D pc L st M kc ks Q := by
  intro p e s m args below meth c dC dI dA ad0 n0 A ad H locs ls C hA h0 hn hst hL hW hS hl
  obtain ⟨hd, rfl⟩ := hd
  have hl2 := lvL_at hl hi
  have k2 := k p e s m args below meth c dC dI dA ad0 n0 A ad H locs ls C hA h0 hn (okS_cons.mpr ⟨hL _ _ hi, hst⟩) hL hW hS hl
  cases r with
  | none => exact lv_aloadN C.1 C.2.1 hd hl2 k2
  | some x => exact lv_aload C.1 C.2.1 hd hl2 k2
--  exact k p e s m args below meth c dC dI dA ad0 n0 A ad H locs ls C hA h0 hn (okS_cons.mpr ⟨hL _ _ hi, hst⟩) hL hW hS hl

theorem vc_iadd {x y : Int} (hd : At (mB D) pc .iadd 1 pc') (k : VC l D pc' L (aI (wI (x + y)) :: st) M kc ks Q) : VC l D pc L (aI y :: aI x :: st) M kc ks Q := by
  intro p e s m args below meth c dC dI dA ad0 n0 A ad H locs ls C hA h0 hn hst hL hW hS hl
  obtain ⟨hd, rfl⟩ := hd
  obtain ⟨hy, hst⟩ := okS_cons.mp hst
  obtain ⟨hx, hst⟩ := okS_cons.mp hst
  have k2 := k p e s m args below meth c dC dI dA ad0 n0 A ad H locs ls C hA h0 hn (okS_cons.mpr ⟨inI_wI _, hst⟩) hL hW hS hl
  refine lv_iadd C.1 C.2.1 hd ?_
  rw [oI_add]
  exact k2

theorem vc_isub {x y : Int} (hd : At (mB D) pc .isub 1 pc') (k : VC l D pc' L (aI (wI (x - y)) :: st) M kc ks Q) : VC l D pc L (aI y :: aI x :: st) M kc ks Q := by
  intro p e s m args below meth c dC dI dA ad0 n0 A ad H locs ls C hA h0 hn hst hL hW hS hl
  obtain ⟨hd, rfl⟩ := hd
  obtain ⟨hy, hst⟩ := okS_cons.mp hst
  obtain ⟨hx, hst⟩ := okS_cons.mp hst
  have k2 := k p e s m args below meth c dC dI dA ad0 n0 A ad H locs ls C hA h0 hn (okS_cons.mpr ⟨inI_wI _, hst⟩) hL hW hS hl
  refine lv_isub C.1 C.2.1 hd ?_
  rw [oI_sub]
  exact k2

theorem vc_imul {x y : Int} (hd : At (mB D) pc .imul 1 pc') (k : VC l D pc' L (aI (wI (x * y)) :: st) M kc ks Q) : VC l D pc L (aI y :: aI x :: st) M kc ks Q := by
  intro p e s m args below meth c dC dI dA ad0 n0 A ad H locs ls C hA h0 hn hst hL hW hS hl
  obtain ⟨hd, rfl⟩ := hd
  obtain ⟨hy, hst⟩ := okS_cons.mp hst
  obtain ⟨hx, hst⟩ := okS_cons.mp hst
  have k2 := k p e s m args below meth c dC dI dA ad0 n0 A ad H locs ls C hA h0 hn (okS_cons.mpr ⟨inI_wI _, hst⟩) hL hW hS hl
  refine lv_imul C.1 C.2.1 hd ?_
  rw [oI_mul]
  exact k2

theorem vc_ladd {x y : Int} (hd : At (mB D) pc .ladd 1 pc') (k : VC l D pc' L (aL (wL (x + y)) :: st) M kc ks Q) : VC l D pc L (aL y :: aL x :: st) M kc ks Q := by
  intro p e s m args below meth c dC dI dA ad0 n0 A ad H locs ls C hA h0 hn hst hL hW hS hl
  obtain ⟨hd, rfl⟩ := hd
  obtain ⟨hy, hst⟩ := okS_cons.mp hst
  obtain ⟨hx, hst⟩ := okS_cons.mp hst
  have k2 := k p e s m args below meth c dC dI dA ad0 n0 A ad H locs ls C hA h0 hn (okS_cons.mpr ⟨inL_wL _, hst⟩) hL hW hS hl
  refine lv_ladd C.1 C.2.1 hd ?_
  rw [oL_add]
  exact k2

theorem vc_lsub {x y : Int} (hd : At (mB D) pc .lsub 1 pc') (k : VC l D pc' L (aL (wL (x - y)) :: st) M kc ks Q) : VC l D pc L (aL y :: aL x :: st) M kc ks Q := by
  intro p e s m args below meth c dC dI dA ad0 n0 A ad H locs ls C hA h0 hn hst hL hW hS hl
  obtain ⟨hd, rfl⟩ := hd
  obtain ⟨hy, hst⟩ := okS_cons.mp hst
  obtain ⟨hx, hst⟩ := okS_cons.mp hst
  have k2 := k p e s m args below meth c dC dI dA ad0 n0 A ad H locs ls C hA h0 hn (okS_cons.mpr ⟨inL_wL _, hst⟩) hL hW hS hl
  refine lv_lsub C.1 C.2.1 hd ?_
  rw [oL_sub]
  exact k2

theorem vc_lmul {x y : Int} (hd : At (mB D) pc .lmul 1 pc') (k : VC l D pc' L (aL (wL (x * y)) :: st) M kc ks Q) : VC l D pc L (aL y :: aL x :: st) M kc ks Q := by
  intro p e s m args below meth c dC dI dA ad0 n0 A ad H locs ls C hA h0 hn hst hL hW hS hl
  obtain ⟨hd, rfl⟩ := hd
  obtain ⟨hy, hst⟩ := okS_cons.mp hst
  obtain ⟨hx, hst⟩ := okS_cons.mp hst
  have k2 := k p e s m args below meth c dC dI dA ad0 n0 A ad H locs ls C hA h0 hn (okS_cons.mpr ⟨inL_wL _, hst⟩) hL hW hS hl
  refine lv_lmul C.1 C.2.1 hd ?_
  rw [oL_mul]
  exact k2

theorem vc_idiv {x y : Int} (hd : At (mB D) pc .idiv 1 pc') (hne : ¬ y = 0) (k : VC l D pc' L (aI (dvI x y) :: st) M kc ks Q) : VC l D pc L (aI y :: aI x :: st) M kc ks Q := by
  intro p e s m args below meth c dC dI dA ad0 n0 A ad H locs ls C hA h0 hn hst hL hW hS hl
  obtain ⟨hd, rfl⟩ := hd
  obtain ⟨hy, hst⟩ := okS_cons.mp hst
  obtain ⟨hx, hst⟩ := okS_cons.mp hst
  have k2 := k p e s m args below meth c dC dI dA ad0 n0 A ad H locs ls C hA h0 hn (okS_cons.mpr ⟨inI_wI _, hst⟩) hL hW hS hl
  refine lv_idiv C.1 C.2.1 hd (fun h => hne ((oI_eq hy inI_0).mp h)) ?_
  rw [oI_div hx hy]
  exact k2

theorem vc_irem {x y : Int} (hd : At (mB D) pc .irem 1 pc') (hne : ¬ y = 0) (k : VC l D pc' L (aI (rmI x y) :: st) M kc ks Q) : VC l D pc L (aI y :: aI x :: st) M kc ks Q := by
  intro p e s m args below meth c dC dI dA ad0 n0 A ad H locs ls C hA h0 hn hst hL hW hS hl
  obtain ⟨hd, rfl⟩ := hd
  obtain ⟨hy, hst⟩ := okS_cons.mp hst
  obtain ⟨hx, hst⟩ := okS_cons.mp hst
  have k2 := k p e s m args below meth c dC dI dA ad0 n0 A ad H locs ls C hA h0 hn (okS_cons.mpr ⟨inI_rm hx hne, hst⟩) hL hW hS hl
  refine lv_irem C.1 C.2.1 hd (fun h => hne ((oI_eq hy inI_0).mp h)) ?_
  rw [oI_rem hx hy]
  exact k2

theorem vc_ldiv {x y : Int} (hd : At (mB D) pc .ldiv 1 pc') (hne : ¬ y = 0) (k : VC l D pc' L (aL (dvL x y) :: st) M kc ks Q) : VC l D pc L (aL y :: aL x :: st) M kc ks Q := by
  intro p e s m args below meth c dC dI dA ad0 n0 A ad H locs ls C hA h0 hn hst hL hW hS hl
  obtain ⟨hd, rfl⟩ := hd
  obtain ⟨hy, hst⟩ := okS_cons.mp hst
  obtain ⟨hx, hst⟩ := okS_cons.mp hst
  have k2 := k p e s m args below meth c dC dI dA ad0 n0 A ad H locs ls C hA h0 hn (okS_cons.mpr ⟨inL_wL _, hst⟩) hL hW hS hl
  refine lv_ldiv C.1 C.2.1 hd (fun h => hne ((oL_eq hy ⟨by decide, by decide⟩).mp h)) ?_
  rw [oL_div hx hy]
  exact k2

theorem vc_lrem {x y : Int} (hd : At (mB D) pc .lrem 1 pc') (hne : ¬ y = 0) (k : VC l D pc' L (aL (rmL x y) :: st) M kc ks Q) : VC l D pc L (aL y :: aL x :: st) M kc ks Q := by
  intro p e s m args below meth c dC dI dA ad0 n0 A ad H locs ls C hA h0 hn hst hL hW hS hl
  obtain ⟨hd, rfl⟩ := hd
  obtain ⟨hy, hst⟩ := okS_cons.mp hst
  obtain ⟨hx, hst⟩ := okS_cons.mp hst
  have k2 := k p e s m args below meth c dC dI dA ad0 n0 A ad H locs ls C hA h0 hn (okS_cons.mpr ⟨inL_rm hx hne, hst⟩) hL hW hS hl
  refine lv_lrem C.1 C.2.1 hd (fun h => hne ((oL_eq hy ⟨by decide, by decide⟩).mp h)) ?_
  rw [oL_rem hx hy]
  exact k2

theorem vc_iand {x y : Int} (hd : At (mB D) pc .iand 1 pc') (k : VC l D pc' L (aI (andI x y) :: st) M kc ks Q) : VC l D pc L (aI y :: aI x :: st) M kc ks Q := by
  intro p e s m args below meth c dC dI dA ad0 n0 A ad H locs ls C hA h0 hn hst hL hW hS hl
  obtain ⟨hd, rfl⟩ := hd
  obtain ⟨hy, hst⟩ := okS_cons.mp hst
  obtain ⟨hx, hst⟩ := okS_cons.mp hst
  have k2 := k p e s m args below meth c dC dI dA ad0 n0 A ad H locs ls C hA h0 hn (okS_cons.mpr ⟨inI_to _, hst⟩) hL hW hS hl
  refine lv_iand C.1 C.2.1 hd ?_
  simp only [List.map_cons, aV, andI, oI_to] at k2
  exact k2

theorem vc_ior {x y : Int} (hd : At (mB D) pc .ior 1 pc') (k : VC l D pc' L (aI (orI x y) :: st) M kc ks Q) : VC l D pc L (aI y :: aI x :: st) M kc ks Q := by
  intro p e s m args below meth c dC dI dA ad0 n0 A ad H locs ls C hA h0 hn hst hL hW hS hl
  obtain ⟨hd, rfl⟩ := hd
  obtain ⟨hy, hst⟩ := okS_cons.mp hst
  obtain ⟨hx, hst⟩ := okS_cons.mp hst
  have k2 := k p e s m args below meth c dC dI dA ad0 n0 A ad H locs ls C hA h0 hn (okS_cons.mpr ⟨inI_to _, hst⟩) hL hW hS hl
  refine lv_ior C.1 C.2.1 hd ?_
  simp only [List.map_cons, aV, orI, oI_to] at k2
  exact k2

theorem vc_ixor {x y : Int} (hd : At (mB D) pc .ixor 1 pc') (k : VC l D pc' L (aI (xorI x y) :: st) M kc ks Q) : VC l D pc L (aI y :: aI x :: st) M kc ks Q := by
  intro p e s m args below meth c dC dI dA ad0 n0 A ad H locs ls C hA h0 hn hst hL hW hS hl
  obtain ⟨hd, rfl⟩ := hd
  obtain ⟨hy, hst⟩ := okS_cons.mp hst
  obtain ⟨hx, hst⟩ := okS_cons.mp hst
  have k2 := k p e s m args below meth c dC dI dA ad0 n0 A ad H locs ls C hA h0 hn (okS_cons.mpr ⟨inI_to _, hst⟩) hL hW hS hl
  refine lv_ixor C.1 C.2.1 hd ?_
  simp only [List.map_cons, aV, xorI, oI_to] at k2
  exact k2

theorem vc_ishl {x y : Int} (hd : At (mB D) pc .ishl 1 pc') (k : VC l D pc' L (aI (shlI x y) :: st) M kc ks Q) : VC l D pc L (aI y :: aI x :: st) M kc ks Q := by
  intro p e s m args below meth c dC dI dA ad0 n0 A ad H locs ls C hA h0 hn hst hL hW hS hl
  obtain ⟨hd, rfl⟩ := hd
  obtain ⟨hy, hst⟩ := okS_cons.mp hst
  obtain ⟨hx, hst⟩ := okS_cons.mp hst
  have k2 := k p e s m args below meth c dC dI dA ad0 n0 A ad H locs ls C hA h0 hn (okS_cons.mpr ⟨inI_to _, hst⟩) hL hW hS hl
  refine lv_ishl C.1 C.2.1 hd ?_
  simp only [List.map_cons, aV, shlI, oI_to] at k2
  exact k2

theorem vc_ishr {x y : Int} (hd : At (mB D) pc .ishr 1 pc') (k : VC l D pc' L (aI (shrI x y) :: st) M kc ks Q) : VC l D pc L (aI y :: aI x :: st) M kc ks Q := by
  intro p e s m args below meth c dC dI dA ad0 n0 A ad H locs ls C hA h0 hn hst hL hW hS hl
  obtain ⟨hd, rfl⟩ := hd
  obtain ⟨hy, hst⟩ := okS_cons.mp hst
  obtain ⟨hx, hst⟩ := okS_cons.mp hst
  have k2 := k p e s m args below meth c dC dI dA ad0 n0 A ad H locs ls C hA h0 hn (okS_cons.mpr ⟨inI_to _, hst⟩) hL hW hS hl
  refine lv_ishr C.1 C.2.1 hd ?_
  simp only [List.map_cons, aV, shrI, oI_to] at k2
  exact k2

theorem vc_land {x y : Int} (hd : At (mB D) pc .land 1 pc') (k : VC l D pc' L (aL (andL x y) :: st) M kc ks Q) : VC l D pc L (aL y :: aL x :: st) M kc ks Q := by
  intro p e s m args below meth c dC dI dA ad0 n0 A ad H locs ls C hA h0 hn hst hL hW hS hl
  obtain ⟨hd, rfl⟩ := hd
  obtain ⟨hy, hst⟩ := okS_cons.mp hst
  obtain ⟨hx, hst⟩ := okS_cons.mp hst
  have k2 := k p e s m args below meth c dC dI dA ad0 n0 A ad H locs ls C hA h0 hn (okS_cons.mpr ⟨inL_to _, hst⟩) hL hW hS hl
  refine lv_land C.1 C.2.1 hd ?_
  simp only [List.map_cons, aV, andL, oL_to] at k2
  exact k2

theorem vc_lor {x y : Int} (hd : At (mB D) pc .lor 1 pc') (k : VC l D pc' L (aL (orL x y) :: st) M kc ks Q) : VC l D pc L (aL y :: aL x :: st) M kc ks Q := by
  intro p e s m args below meth c dC dI dA ad0 n0 A ad H locs ls C hA h0 hn hst hL hW hS hl
  obtain ⟨hd, rfl⟩ := hd
  obtain ⟨hy, hst⟩ := okS_cons.mp hst
  obtain ⟨hx, hst⟩ := okS_cons.mp hst
  have k2 := k p e s m args below meth c dC dI dA ad0 n0 A ad H locs ls C hA h0 hn (okS_cons.mpr ⟨inL_to _, hst⟩) hL hW hS hl
  refine lv_lor C.1 C.2.1 hd ?_
  simp only [List.map_cons, aV, orL, oL_to] at k2
  exact k2

theorem vc_iushr {x y : Int} (hd : At (mB D) pc .iushr 1 pc') (k : VC l D pc' L (aI (ushrI x y) :: st) M kc ks Q) : VC l D pc L (aI y :: aI x :: st) M kc ks Q := by
  intro p e s m args below meth c dC dI dA ad0 n0 A ad H locs ls C hA h0 hn hst hL hW hS hl
  obtain ⟨hd, rfl⟩ := hd
  obtain ⟨hy, hst⟩ := okS_cons.mp hst
  obtain ⟨hx, hst⟩ := okS_cons.mp hst
  have k2 := k p e s m args below meth c dC dI dA ad0 n0 A ad H locs ls C hA h0 hn (okS_cons.mpr ⟨inI_to _, hst⟩) hL hW hS hl
  simp only [List.map_cons, aV, ushrI, oI_to] at k2
  exact lv_iushr C.1 C.2.1 hd rfl k2

theorem vc_lshl {x y : Int} (hd : At (mB D) pc .lshl 1 pc') (k : VC l D pc' L (aL (shlL x y) :: st) M kc ks Q) : VC l D pc L (aI y :: aL x :: st) M kc ks Q := by
  intro p e s m args below meth c dC dI dA ad0 n0 A ad H locs ls C hA h0 hn hst hL hW hS hl
  obtain ⟨hd, rfl⟩ := hd
  obtain ⟨hy, hst⟩ := okS_cons.mp hst
  obtain ⟨hx, hst⟩ := okS_cons.mp hst
  have k2 := k p e s m args below meth c dC dI dA ad0 n0 A ad H locs ls C hA h0 hn (okS_cons.mpr ⟨inL_to _, hst⟩) hL hW hS hl
  simp only [List.map_cons, aV, shlL, oL_to] at k2
  exact lv_lshl C.1 C.2.1 hd rfl k2

theorem vc_lshr {x y : Int} (hd : At (mB D) pc .lshr 1 pc') (k : VC l D pc' L (aL (shrL x y) :: st) M kc ks Q) : VC l D pc L (aI y :: aL x :: st) M kc ks Q := by
  intro p e s m args below meth c dC dI dA ad0 n0 A ad H locs ls C hA h0 hn hst hL hW hS hl
  obtain ⟨hd, rfl⟩ := hd
  obtain ⟨hy, hst⟩ := okS_cons.mp hst
  obtain ⟨hx, hst⟩ := okS_cons.mp hst
  have k2 := k p e s m args below meth c dC dI dA ad0 n0 A ad H locs ls C hA h0 hn (okS_cons.mpr ⟨inL_to _, hst⟩) hL hW hS hl
  simp only [List.map_cons, aV, shrL, oL_to] at k2
  exact lv_lshr C.1 C.2.1 hd rfl k2

theorem vc_ineg {x : Int} (hd : At (mB D) pc .ineg 1 pc') (k : VC l D pc' L (aI (wI (-x)) :: st) M kc ks Q) : VC l D pc L (aI x :: st) M kc ks Q := by
  intro p e s m args below meth c dC dI dA ad0 n0 A ad H locs ls C hA h0 hn hst hL hW hS hl
  obtain ⟨hd, rfl⟩ := hd
  obtain ⟨hx, hst⟩ := okS_cons.mp hst
  have k2 := k p e s m args below meth c dC dI dA ad0 n0 A ad H locs ls C hA h0 hn (okS_cons.mpr ⟨inI_wI _, hst⟩) hL hW hS hl
  refine lv_ineg C.1 C.2.1 hd ?_
  rw [oI_neg]
  exact k2

theorem vc_lneg {x : Int} (hd : At (mB D) pc .lneg 1 pc') (k : VC l D pc' L (aL (wL (-x)) :: st) M kc ks Q) : VC l D pc L (aL x :: st) M kc ks Q := by
  intro p e s m args below meth c dC dI dA ad0 n0 A ad H locs ls C hA h0 hn hst hL hW hS hl
  obtain ⟨hd, rfl⟩ := hd
  obtain ⟨hx, hst⟩ := okS_cons.mp hst
  have k2 := k p e s m args below meth c dC dI dA ad0 n0 A ad H locs ls C hA h0 hn (okS_cons.mpr ⟨inL_wL _, hst⟩) hL hW hS hl
  refine lv_lneg C.1 C.2.1 hd ?_
  rw [oL_neg]
  exact k2

theorem vc_i2l {x : Int} (hd : At (mB D) pc .i2l 1 pc') (k : VC l D pc' L (aL x :: st) M kc ks Q) : VC l D pc L (aI x :: st) M kc ks Q := by
  intro p e s m args below meth c dC dI dA ad0 n0 A ad H locs ls C hA h0 hn hst hL hW hS hl
  obtain ⟨hd, rfl⟩ := hd
  obtain ⟨hx, hst⟩ := okS_cons.mp hst
  have k2 := k p e s m args below meth c dC dI dA ad0 n0 A ad H locs ls C hA h0 hn (okS_cons.mpr ⟨(show inL x from ⟨by have := hx.1; omega, by have := hx.2; omega⟩), hst⟩) hL hW hS hl
  exact lv_i2l C.1 C.2.1 hd (Int64.toInt_inj.mp (by rw [Int32.toInt_toInt64, oI_id hx, oL_id ⟨by have := hx.1; omega, by have := hx.2; omega⟩])) k2

theorem vc_l2i {x : Int} (hd : At (mB D) pc .l2i 1 pc') (k : VC l D pc' L (aI (wI x) :: st) M kc ks Q) : VC l D pc L (aL x :: st) M kc ks Q := by
  intro p e s m args below meth c dC dI dA ad0 n0 A ad H locs ls C hA h0 hn hst hL hW hS hl
  obtain ⟨hd, rfl⟩ := hd
  obtain ⟨hx, hst⟩ := okS_cons.mp hst
  have k2 := k p e s m args below meth c dC dI dA ad0 n0 A ad H locs ls C hA h0 hn (okS_cons.mpr ⟨inI_wI _, hst⟩) hL hW hS hl
  exact lv_l2i C.1 C.2.1 hd (Int32.toInt_inj.mp (by rw [Int64.toInt_toInt32, oL_id hx, oI_id (inI_wI x)]; rfl)) k2

theorem vc_lcmp {x y : Int} (hd : At (mB D) pc .lcmp 1 pc') (k : VC l D pc' L (aI (cmpL x y) :: st) M kc ks Q) : VC l D pc L (aL y :: aL x :: st) M kc ks Q := by
  intro p e s m args below meth c dC dI dA ad0 n0 A ad H locs ls C hA h0 hn hst hL hW hS hl
  obtain ⟨hd, rfl⟩ := hd
  obtain ⟨hy, hst⟩ := okS_cons.mp hst
  obtain ⟨hx, hst⟩ := okS_cons.mp hst
  have hr : inI (cmpL x y) := by unfold cmpL; split; exact ⟨by decide, by decide⟩; split <;> exact ⟨by decide, by decide⟩
  have k2 := k p e s m args below meth c dC dI dA ad0 n0 A ad H locs ls C hA h0 hn (okS_cons.mpr ⟨hr, hst⟩) hL hW hS hl
  have e : lg_cmp (Int64.ofInt x) (Int64.ofInt y) = Int32.ofInt (cmpL x y) := by
    unfold lg_cmp cmpL
    simp only [GT.gt, oL_lt hy hx, oL_eq hx hy]
    split
    · rfl
    · split <;> rfl
  refine W.lcmp C.1 C.2.1 hd ?_
  rw [e]
  exact k2

theorem vc_dup {v : AV} (hd : At (mB D) pc .dup 1 pc') (hv : catA v = 1) (k : VC l D pc' L (v :: v :: st) M kc ks Q) : VC l D pc L (v :: st) M kc ks Q := by
  intro p e s m args below meth c dC dI dA ad0 n0 A ad H locs ls C hA h0 hn hst hL hW hS hl
  obtain ⟨hd, rfl⟩ := hd
  obtain ⟨hv2, hst⟩ := okS_cons.mp hst
  exact lv_dup C.1 C.2.1 hd (by rw [aV_cat]; exact hv) (k p e s m args below meth c dC dI dA ad0 n0 A ad H locs ls C hA h0 hn (okS_cons.mpr ⟨hv2, okS_cons.mpr ⟨hv2, hst⟩⟩) hL hW hS hl)

theorem vc_pop {v : AV} (hd : At (mB D) pc .pop 1 pc') (hv : catA v = 1) (k : VC l D pc' L (st) M kc ks Q) : VC l D pc L (v :: st) M kc ks Q := by
  intro p e s m args below meth c dC dI dA ad0 n0 A ad H locs ls C hA h0 hn hst hL hW hS hl
  obtain ⟨hd, rfl⟩ := hd
  obtain ⟨hv2, hst⟩ := okS_cons.mp hst
  exact lv_pop C.1 C.2.1 hd (by rw [aV_cat]; exact hv) (k p e s m args below meth c dC dI dA ad0 n0 A ad H locs ls C hA h0 hn hst hL hW hS hl)

theorem vc_dup2 {v w : AV} (hd : At (mB D) pc .dup2 1 pc') (hv : catA v = 1) (hw : catA w = 1) (k : VC l D pc' L (v :: w :: v :: w :: st) M kc ks Q) : VC l D pc L (v :: w :: st) M kc ks Q := by
  intro p e s m args below meth c dC dI dA ad0 n0 A ad H locs ls C hA h0 hn hst hL hW hS hl
  obtain ⟨hd, rfl⟩ := hd
  obtain ⟨hv2, hst⟩ := okS_cons.mp hst
  obtain ⟨hw2, hst⟩ := okS_cons.mp hst
  exact lv_dup2_11 C.1 C.2.1 hd (by rw [aV_cat]; exact hv) (by rw [aV_cat]; exact hw) (k p e s m args below meth c dC dI dA ad0 n0 A ad H locs ls C hA h0 hn (okS_cons.mpr ⟨hv2, okS_cons.mpr ⟨hw2, okS_cons.mpr ⟨hv2, okS_cons.mpr ⟨hw2, hst⟩⟩⟩⟩) hL hW hS hl)

theorem vc_istore_n {i : Fin 4} {x : Int} (hd : At (mB D) pc (.istore_n i) 1 pc') (hn2 : (i : Nat) < mN D) (hf : freeB L (i : Nat) = true) (hL2 : L.set (i : Nat) (some (aI x)) = L') (k : VC l D pc' L' st M kc ks Q) : VC l D pc L (aI x :: st) M kc ks Q := by
  intro p e s m args below meth c dC dI dA ad0 n0 A ad H locs ls C hA h0 hn hst hL hW hS hl
  obtain ⟨hd, rfl⟩ := hd
  obtain ⟨hx, hst⟩ := okS_cons.mp hst
  subst hL2
  exact lv_istore_n C.1 C.2.1 hd rfl hl hn2 rfl (fun ls2 hl2 => k p e s m args below meth c dC dI dA ad0 n0 A ad H locs ls2 C hA h0 hn hst (okL_set hL hx) hW hS (lvL_set1 hf hl2))

theorem vc_istore {i : Nat} {x : Int} (hd : At (mB D) pc (.istore i) 2 pc') (hn2 : i < mN D) (hf : freeB L i = true) (hL2 : L.set i (some (aI x)) = L') (k : VC l D pc' L' st M kc ks Q) : VC l D pc L (aI x :: st) M kc ks Q := by
  intro p e s m args below meth c dC dI dA ad0 n0 A ad H locs ls C hA h0 hn hst hL hW hS hl
  obtain ⟨hd, rfl⟩ := hd
  obtain ⟨hx, hst⟩ := okS_cons.mp hst
  subst hL2
  exact lv_istore C.1 C.2.1 hd hl hn2 rfl (fun ls2 hl2 => k p e s m args below meth c dC dI dA ad0 n0 A ad H locs ls2 C hA h0 hn hst (okL_set hL hx) hW hS (lvL_set1 hf hl2))

theorem vc_lstore_n {i : Fin 4} {x : Int} (hd : At (mB D) pc (.lstore_n i) 1 pc') (hn2 : (i : Nat) + 1 < mN D) (hf : freeB L (i : Nat) = true) (hn3 : (L.set ((i : Nat) + 1) none)[(i : Nat) + 1]? = some none) (hL2 : (L.set ((i : Nat) + 1) none).set (i : Nat) (some (aL x)) = L') (k : VC l D pc' L' st M kc ks Q) : VC l D pc L (aL x :: st) M kc ks Q := by
  intro p e s m args below meth c dC dI dA ad0 n0 A ad H locs ls C hA h0 hn hst hL hW hS hl
  obtain ⟨hd, rfl⟩ := hd
  obtain ⟨hx, hst⟩ := okS_cons.mp hst
  subst hL2
  exact lv_lstore_n C.1 C.2.1 hd rfl hl hn2 rfl (fun ls2 hl2 => k p e s m args below meth c dC dI dA ad0 n0 A ad H locs ls2 C hA h0 hn hst (okL_set (okL_clr hL) hx) hW hS (lvL_set2 hf hn3 hl2))

theorem vc_lstore {i : Nat} {x : Int} (hd : At (mB D) pc (.lstore i) 2 pc') (hn2 : i + 1 < mN D) (hf : freeB L i = true) (hn3 : (L.set (i + 1) none)[i + 1]? = some none) (hL2 : (L.set (i + 1) none).set i (some (aL x)) = L') (k : VC l D pc' L' st M kc ks Q) : VC l D pc L (aL x :: st) M kc ks Q := by
  intro p e s m args below meth c dC dI dA ad0 n0 A ad H locs ls C hA h0 hn hst hL hW hS hl
  obtain ⟨hd, rfl⟩ := hd
  obtain ⟨hx, hst⟩ := okS_cons.mp hst
  subst hL2
  exact lv_lstore C.1 C.2.1 hd hl hn2 rfl (fun ls2 hl2 => k p e s m args below meth c dC dI dA ad0 n0 A ad H locs ls2 C hA h0 hn hst (okL_set (okL_clr hL) hx) hW hS (lvL_set2 hf hn3 hl2))

theorem vc_astore_n {i : Fin 4} {r : Option Nat} (hd : At (mB D) pc (.astore_n i) 1 pc') (hn2 : (i : Nat) < mN D) (hf : freeB L (i : Nat) = true) (hL2 : L.set (i : Nat) (some (.inr (.inr r))) = L') (k : VC l D pc' L' st M kc ks Q) : VC l D pc L (.inr (.inr r) :: st) M kc ks Q := by
  intro p e s m args below meth c dC dI dA ad0 n0 A ad H locs ls C hA h0 hn hst hL hW hS hl
  obtain ⟨hd, rfl⟩ := hd
  obtain ⟨hx, hst⟩ := okS_cons.mp hst
  subst hL2
  have k2 := fun ls2 hl2 => k p e s m args below meth c dC dI dA ad0 n0 A ad H locs ls2 C hA h0 hn hst (okL_set hL hx) hW hS (lvL_set1 hf hl2)
  cases r with
  | none => exact lv_astore_nN C.1 C.2.1 hd rfl hl hn2 rfl k2
  | some x => exact lv_astore_n C.1 C.2.1 hd rfl hl hn2 rfl k2

theorem vc_astore {i : Nat} {r : Option Nat} (hd : At (mB D) pc (.astore i) 2 pc') (hn2 : i < mN D) (hf : freeB L i = true) (hL2 : L.set i (some (.inr (.inr r))) = L') (k : VC l D pc' L' st M kc ks Q) : VC l D pc L (.inr (.inr r) :: st) M kc ks Q := by
  intro p e s m args below meth c dC dI dA ad0 n0 A ad H locs ls C hA h0 hn hst hL hW hS hl
  obtain ⟨hd, rfl⟩ := hd
  obtain ⟨hx, hst⟩ := okS_cons.mp hst
  subst hL2
  have k2 := fun ls2 hl2 => k p e s m args below meth c dC dI dA ad0 n0 A ad H locs ls2 C hA h0 hn hst (okL_set hL hx) hW hS (lvL_set1 hf hl2)
  cases r with
  | none => exact lv_astoreN C.1 C.2.1 hd hl hn2 rfl k2
  | some x => exact lv_astore C.1 C.2.1 hd hl hn2 rfl k2

theorem vc_iinc {i : Nat} {n x : Int} (hd : At (mB D) pc (.iinc i n) 3 pc') (hi : L[i]? = some (some (aI x))) (hn2 : i < mN D) (hf : freeB L i = true) (hL2 : L.set i (some (aI (wI (x + n)))) = L') (k : VC l D pc' L' st M kc ks Q) : VC l D pc L st M kc ks Q := by
  intro p e s m args below meth c dC dI dA ad0 n0 A ad H locs ls C hA h0 hn hst hL hW hS hl
  obtain ⟨hd, rfl⟩ := hd
  subst hL2
  have hm : (i, Value.int (Int32.ofInt x)) ∈ lvL ad L := lvL_mem.mpr ⟨aI x, hi, rfl⟩
  obtain ⟨j, hj⟩ := List.getElem?_of_mem hm
  refine lv_iinc (v := Int32.ofInt (wI (x + n))) C.1 C.2.1 hd hl hj (by rw [oI_add]) hn2 rfl (fun ls2 hl2 => ?_)
  exact k p e s m args below meth c dC dI dA ad0 n0 A ad H locs ls2 C hA h0 hn hst (okL_set hL (inI_wI _ : okV M.1 (aI (wI (x + n))))) hW hS (lvL_set1 (v := aI (wI (x + n))) hf hl2)

theorem vc_icmp_eq {x y off : Int} (hd : AtB (mB D) pc (.if_icmp .eq off) off pc' tgt) (kt : x = y → VC l D tgt L st M kc ks Q) (kf : ¬ (x = y) → VC l D pc' L st M kc ks Q) : VC l D pc L (aI y :: aI x :: st) M kc ks Q := by
  intro p e s m args below meth c dC dI dA ad0 n0 A ad H locs ls C hA h0 hn hst hL hW hS hl
  obtain ⟨hd, rfl, ht⟩ := hd
  obtain ⟨hy, hst⟩ := okS_cons.mp hst
  obtain ⟨hx, hst⟩ := okS_cons.mp hst
  have hh := oI_eq hx hy
  exact lv_icmp_eq C.1 C.2.1 hd ht (fun h => kt (hh.mp h) p e s m args below meth c dC dI dA ad0 n0 A ad H locs ls C hA h0 hn hst hL hW hS hl) (fun h => kf (fun h2 => h (hh.mpr h2)) p e s m args below meth c dC dI dA ad0 n0 A ad H locs ls C hA h0 hn hst hL hW hS hl)

theorem vc_if_eq {x off : Int} (hd : AtB (mB D) pc (.ifCond .eq off) off pc' tgt) (kt : x = 0 → VC l D tgt L st M kc ks Q) (kf : ¬ (x = 0) → VC l D pc' L st M kc ks Q) : VC l D pc L (aI x :: st) M kc ks Q := by
  intro p e s m args below meth c dC dI dA ad0 n0 A ad H locs ls C hA h0 hn hst hL hW hS hl
  obtain ⟨hd, rfl, ht⟩ := hd
  obtain ⟨hx, hst⟩ := okS_cons.mp hst
  have hh := oI_eq hx inI_0
  exact lv_if_eq C.1 C.2.1 hd ht (fun h => kt (hh.mp h) p e s m args below meth c dC dI dA ad0 n0 A ad H locs ls C hA h0 hn hst hL hW hS hl) (fun h => kf (fun h2 => h (hh.mpr h2)) p e s m args below meth c dC dI dA ad0 n0 A ad H locs ls C hA h0 hn hst hL hW hS hl)

theorem vc_icmp_ne {x y off : Int} (hd : AtB (mB D) pc (.if_icmp .ne off) off pc' tgt) (kt : ¬ x = y → VC l D tgt L st M kc ks Q) (kf : x = y → VC l D pc' L st M kc ks Q) : VC l D pc L (aI y :: aI x :: st) M kc ks Q := by
  intro p e s m args below meth c dC dI dA ad0 n0 A ad H locs ls C hA h0 hn hst hL hW hS hl
  obtain ⟨hd, rfl, ht⟩ := hd
  obtain ⟨hy, hst⟩ := okS_cons.mp hst
  obtain ⟨hx, hst⟩ := okS_cons.mp hst
  have hh := not_congr (oI_eq hx hy)
  exact lv_icmp_ne C.1 C.2.1 hd ht (fun h => kt (hh.mp h) p e s m args below meth c dC dI dA ad0 n0 A ad H locs ls C hA h0 hn hst hL hW hS hl) (fun h => kf ((oI_eq hx hy).mp h) p e s m args below meth c dC dI dA ad0 n0 A ad H locs ls C hA h0 hn hst hL hW hS hl)

theorem vc_if_ne {x off : Int} (hd : AtB (mB D) pc (.ifCond .ne off) off pc' tgt) (kt : ¬ x = 0 → VC l D tgt L st M kc ks Q) (kf : x = 0 → VC l D pc' L st M kc ks Q) : VC l D pc L (aI x :: st) M kc ks Q := by
  intro p e s m args below meth c dC dI dA ad0 n0 A ad H locs ls C hA h0 hn hst hL hW hS hl
  obtain ⟨hd, rfl, ht⟩ := hd
  obtain ⟨hx, hst⟩ := okS_cons.mp hst
  have hh := not_congr (oI_eq hx inI_0)
  exact lv_if_ne C.1 C.2.1 hd ht (fun h => kt (hh.mp h) p e s m args below meth c dC dI dA ad0 n0 A ad H locs ls C hA h0 hn hst hL hW hS hl) (fun h => kf ((oI_eq hx inI_0).mp h) p e s m args below meth c dC dI dA ad0 n0 A ad H locs ls C hA h0 hn hst hL hW hS hl)

theorem vc_icmp_lt {x y off : Int} (hd : AtB (mB D) pc (.if_icmp .lt off) off pc' tgt) (kt : x < y → VC l D tgt L st M kc ks Q) (kf : ¬ (x < y) → VC l D pc' L st M kc ks Q) : VC l D pc L (aI y :: aI x :: st) M kc ks Q := by
  intro p e s m args below meth c dC dI dA ad0 n0 A ad H locs ls C hA h0 hn hst hL hW hS hl
  obtain ⟨hd, rfl, ht⟩ := hd
  obtain ⟨hy, hst⟩ := okS_cons.mp hst
  obtain ⟨hx, hst⟩ := okS_cons.mp hst
  have hh := oI_lt hx hy
  exact lv_icmp_lt C.1 C.2.1 hd ht (fun h => kt (hh.mp h) p e s m args below meth c dC dI dA ad0 n0 A ad H locs ls C hA h0 hn hst hL hW hS hl) (fun h => kf (fun h2 => h (hh.mpr h2)) p e s m args below meth c dC dI dA ad0 n0 A ad H locs ls C hA h0 hn hst hL hW hS hl)

theorem vc_if_lt {x off : Int} (hd : AtB (mB D) pc (.ifCond .lt off) off pc' tgt) (kt : x < 0 → VC l D tgt L st M kc ks Q) (kf : ¬ (x < 0) → VC l D pc' L st M kc ks Q) : VC l D pc L (aI x :: st) M kc ks Q := by
  intro p e s m args below meth c dC dI dA ad0 n0 A ad H locs ls C hA h0 hn hst hL hW hS hl
  obtain ⟨hd, rfl, ht⟩ := hd
  obtain ⟨hx, hst⟩ := okS_cons.mp hst
  have hh := oI_lt hx inI_0
  exact lv_if_lt C.1 C.2.1 hd ht (fun h => kt (hh.mp h) p e s m args below meth c dC dI dA ad0 n0 A ad H locs ls C hA h0 hn hst hL hW hS hl) (fun h => kf (fun h2 => h (hh.mpr h2)) p e s m args below meth c dC dI dA ad0 n0 A ad H locs ls C hA h0 hn hst hL hW hS hl)

theorem vc_icmp_ge {x y off : Int} (hd : AtB (mB D) pc (.if_icmp .ge off) off pc' tgt) (kt : y ≤ x → VC l D tgt L st M kc ks Q) (kf : ¬ (y ≤ x) → VC l D pc' L st M kc ks Q) : VC l D pc L (aI y :: aI x :: st) M kc ks Q := by
  intro p e s m args below meth c dC dI dA ad0 n0 A ad H locs ls C hA h0 hn hst hL hW hS hl
  obtain ⟨hd, rfl, ht⟩ := hd
  obtain ⟨hy, hst⟩ := okS_cons.mp hst
  obtain ⟨hx, hst⟩ := okS_cons.mp hst
  have hh := oI_le hy hx
  exact lv_icmp_ge C.1 C.2.1 hd ht (fun h => kt (hh.mp h) p e s m args below meth c dC dI dA ad0 n0 A ad H locs ls C hA h0 hn hst hL hW hS hl) (fun h => kf (fun h2 => h (hh.mpr h2)) p e s m args below meth c dC dI dA ad0 n0 A ad H locs ls C hA h0 hn hst hL hW hS hl)

theorem vc_if_ge {x off : Int} (hd : AtB (mB D) pc (.ifCond .ge off) off pc' tgt) (kt : 0 ≤ x → VC l D tgt L st M kc ks Q) (kf : ¬ (0 ≤ x) → VC l D pc' L st M kc ks Q) : VC l D pc L (aI x :: st) M kc ks Q := by
  intro p e s m args below meth c dC dI dA ad0 n0 A ad H locs ls C hA h0 hn hst hL hW hS hl
  obtain ⟨hd, rfl, ht⟩ := hd
  obtain ⟨hx, hst⟩ := okS_cons.mp hst
  have hh := oI_le inI_0 hx
  exact lv_if_ge C.1 C.2.1 hd ht (fun h => kt (hh.mp h) p e s m args below meth c dC dI dA ad0 n0 A ad H locs ls C hA h0 hn hst hL hW hS hl) (fun h => kf (fun h2 => h (hh.mpr h2)) p e s m args below meth c dC dI dA ad0 n0 A ad H locs ls C hA h0 hn hst hL hW hS hl)

theorem vc_icmp_gt {x y off : Int} (hd : AtB (mB D) pc (.if_icmp .gt off) off pc' tgt) (kt : y < x → VC l D tgt L st M kc ks Q) (kf : ¬ (y < x) → VC l D pc' L st M kc ks Q) : VC l D pc L (aI y :: aI x :: st) M kc ks Q := by
  intro p e s m args below meth c dC dI dA ad0 n0 A ad H locs ls C hA h0 hn hst hL hW hS hl
  obtain ⟨hd, rfl, ht⟩ := hd
  obtain ⟨hy, hst⟩ := okS_cons.mp hst
  obtain ⟨hx, hst⟩ := okS_cons.mp hst
  have hh := oI_lt hy hx
  exact lv_icmp_gt C.1 C.2.1 hd ht (fun h => kt (hh.mp h) p e s m args below meth c dC dI dA ad0 n0 A ad H locs ls C hA h0 hn hst hL hW hS hl) (fun h => kf (fun h2 => h (hh.mpr h2)) p e s m args below meth c dC dI dA ad0 n0 A ad H locs ls C hA h0 hn hst hL hW hS hl)

theorem vc_icmp_le {x y off : Int} (hd : AtB (mB D) pc (.if_icmp .le off) off pc' tgt) (kt : x ≤ y → VC l D tgt L st M kc ks Q) (kf : ¬ (x ≤ y) → VC l D pc' L st M kc ks Q) : VC l D pc L (aI y :: aI x :: st) M kc ks Q := by
  intro p e s m args below meth c dC dI dA ad0 n0 A ad H locs ls C hA h0 hn hst hL hW hS hl
  obtain ⟨hd, rfl, ht⟩ := hd
  obtain ⟨hy, hst⟩ := okS_cons.mp hst
  obtain ⟨hx, hst⟩ := okS_cons.mp hst
  have hh := oI_le hx hy
  exact lv_icmp_le C.1 C.2.1 hd ht (fun h => kt (hh.mp h) p e s m args below meth c dC dI dA ad0 n0 A ad H locs ls C hA h0 hn hst hL hW hS hl) (fun h => kf (fun h2 => h (hh.mpr h2)) p e s m args below meth c dC dI dA ad0 n0 A ad H locs ls C hA h0 hn hst hL hW hS hl)

theorem vc_if_le {x off : Int} (hd : AtB (mB D) pc (.ifCond .le off) off pc' tgt) (kt : x ≤ 0 → VC l D tgt L st M kc ks Q) (kf : ¬ (x ≤ 0) → VC l D pc' L st M kc ks Q) : VC l D pc L (aI x :: st) M kc ks Q := by
  intro p e s m args below meth c dC dI dA ad0 n0 A ad H locs ls C hA h0 hn hst hL hW hS hl
  obtain ⟨hd, rfl, ht⟩ := hd
  obtain ⟨hx, hst⟩ := okS_cons.mp hst
  have hh := oI_le hx inI_0
  exact lv_if_le C.1 C.2.1 hd ht (fun h => kt (hh.mp h) p e s m args below meth c dC dI dA ad0 n0 A ad H locs ls C hA h0 hn hst hL hW hS hl) (fun h => kf (fun h2 => h (hh.mpr h2)) p e s m args below meth c dC dI dA ad0 n0 A ad H locs ls C hA h0 hn hst hL hW hS hl)

theorem vc_goto {off : Int} (hd : AtB (mB D) pc (.goto off) off pc' tgt) (k : VC l D tgt L st M kc ks Q) : VC l D pc L st M kc ks Q := by
  intro p e s m args below meth c dC dI dA ad0 n0 A ad H locs ls C hA h0 hn hst hL hW hS hl
  obtain ⟨hd, rfl, ht⟩ := hd
  exact lv_goto C.1 C.2.1 hd ht (k p e s m args below meth c dC dI dA ad0 n0 A ad H locs ls C hA h0 hn hst hL hW hS hl)

theorem vc_ifnull {r : Option Nat} {off : Int} (hd : AtB (mB D) pc (.ifnull off) off pc' tgt) (kt : r = none → VC l D tgt L st M kc ks Q) (kf : ¬ (r = none) → VC l D pc' L st M kc ks Q) : VC l D pc L (.inr (.inr r) :: st) M kc ks Q := by
  intro p e s m args below meth c dC dI dA ad0 n0 A ad H locs ls C hA h0 hn hst hL hW hS hl
  obtain ⟨hd, rfl, ht⟩ := hd
  have hst2 := (okS_cons.mp hst).2
  cases r with
  | none => exact lv_ifnullN C.1 C.2.1 hd ht (kt rfl p e s m args below meth c dC dI dA ad0 n0 A ad H locs ls C hA h0 hn hst2 hL hW hS hl)
  | some x => exact lv_ifnull C.1 C.2.1 hd (kf (fun h => by cases h) p e s m args below meth c dC dI dA ad0 n0 A ad H locs ls C hA h0 hn hst2 hL hW hS hl)

theorem vc_ifnonnull {r : Option Nat} {off : Int} (hd : AtB (mB D) pc (.ifnonnull off) off pc' tgt) (kt : ¬ r = none → VC l D tgt L st M kc ks Q) (kf : ¬ (¬ r = none) → VC l D pc' L st M kc ks Q) : VC l D pc L (.inr (.inr r) :: st) M kc ks Q := by
  intro p e s m args below meth c dC dI dA ad0 n0 A ad H locs ls C hA h0 hn hst hL hW hS hl
  obtain ⟨hd, rfl, ht⟩ := hd
  have hst2 := (okS_cons.mp hst).2
  cases r with
  | none => exact lv_ifnonnullN C.1 C.2.1 hd (kf (fun h => h rfl) p e s m args below meth c dC dI dA ad0 n0 A ad H locs ls C hA h0 hn hst2 hL hW hS hl)
  | some x => exact lv_ifnonnull C.1 C.2.1 hd ht (kt (fun h => by cases h) p e s m args below meth c dC dI dA ad0 n0 A ad H locs ls C hA h0 hn hst2 hL hW hS hl)

theorem vc_iret {x : Int} (hd : At (mB D) pc .ireturn 1 pc') (hr : mT D = some .int) (h1 : kc ≤ mC D) (h2 : ks ≤ mS D) (hq : Q (some (aI x)) M) : VC l D pc L [aI x] M kc ks Q := by
  intro p e s m args below meth c dC dI dA ad0 n0 A ad H locs ls C hA h0 hn hst hL hW hS hl
  obtain ⟨hd, rfl⟩ := hd
  obtain ⟨hx, hst⟩ := okS_cons.mp hst
  refine W.widen h1 h2 ?_
  exact W.iret C.1 C.2.1 (C.2.2.1.trans hr) (fun t ht hw => ⟨some (aI x), M, ad, rfl, hq, hx, h0, hn, by rw [ht]; exact hW, va_K.moved hw.alike C.2.2.2.2.2.2.2.1, hS.F ht⟩) hS.2.2 hd C.2.2.2.1

theorem vc_zret {x : Int} (hd : At (mB D) pc .ireturn 1 pc') (hr : mT D = some .boolean) (hb : x = 0 ∨ x = 1) (h1 : kc ≤ mC D) (h2 : ks ≤ mS D) (hq : Q (some (aI x)) M) : VC l D pc L [aI x] M kc ks Q := by
  intro p e s m args below meth c dC dI dA ad0 n0 A ad H locs ls C hA h0 hn hst hL hW hS hl
  obtain ⟨hd, rfl⟩ := hd
  obtain ⟨hx, hst⟩ := okS_cons.mp hst
  refine W.widen h1 h2 ?_
  exact W.zret C.1 C.2.1 (C.2.2.1.trans hr) (by rcases hb with rfl | rfl <;> rfl) (fun t ht hw => ⟨some (aI x), M, ad, rfl, hq, hx, h0, hn, by rw [ht]; exact hW, va_K.moved hw.alike C.2.2.2.2.2.2.2.1, hS.F ht⟩) hS.2.2 hd C.2.2.2.1

theorem vc_lret {x : Int} (hd : At (mB D) pc .lreturn 1 pc') (hr : mT D = some .long) (h1 : kc ≤ mC D) (h2 : ks ≤ mS D) (hq : Q (some (aL x)) M) : VC l D pc L [aL x] M kc ks Q := by
  intro p e s m args below meth c dC dI dA ad0 n0 A ad H locs ls C hA h0 hn hst hL hW hS hl
  obtain ⟨hd, rfl⟩ := hd
  obtain ⟨hx, hst⟩ := okS_cons.mp hst
  refine W.widen h1 h2 ?_
  exact W.lret C.1 C.2.1 (C.2.2.1.trans hr) (fun t ht hw => ⟨some (aL x), M, ad, rfl, hq, hx, h0, hn, by rw [ht]; exact hW, va_K.moved hw.alike C.2.2.2.2.2.2.2.1, hS.F ht⟩) hS.2.2 hd C.2.2.2.1

theorem vc_vret (hd : At (mB D) pc .return_ 1 pc') (hr : mT D = none) (h1 : kc ≤ mC D) (h2 : ks ≤ mS D) (hq : Q none M) : VC l D pc L [] M kc ks Q := by
  intro p e s m args below meth c dC dI dA ad0 n0 A ad H locs ls C hA h0 hn hst hL hW hS hl
  obtain ⟨hd, rfl⟩ := hd
  refine W.widen h1 h2 ?_
  exact W.vret C.1 C.2.1 (C.2.2.1.trans hr) (fun t ht hw => ⟨none, M, ad, rfl, hq, trivial, h0, hn, by rw [ht]; exact hW, va_K.moved hw.alike C.2.2.2.2.2.2.2.1, hS.F ht⟩) hS.2.2 hd C.2.2.2.1

theorem vc_aret {r : Option Nat} {C2 : String} (hd : At (mB D) pc .areturn 1 pc') (hr : mT D = some (.object C2)) (h1 : kc ≤ mC D) (h2 : ks ≤ mS D) (hq : Q (some (.inr (.inr r))) M) : VC l D pc L [.inr (.inr r)] M kc ks Q := by
  intro p e s m args below meth c dC dI dA ad0 n0 A ad H locs ls C hA h0 hn hst hL hW hS hl
  obtain ⟨hd, rfl⟩ := hd
  obtain ⟨hx, hst⟩ := okS_cons.mp hst
  refine W.widen h1 h2 ?_
  exact W.aret (v := va_rf (r.map ad)) C.1 C.2.1 (C.2.2.1.trans hr) (Or.inl ⟨_, rfl⟩) (by cases r with | none => exact Or.inl rfl | some x => exact Or.inr ⟨_, rfl⟩) (fun t ht hw => ⟨some (.inr (.inr r)), M, ad, rfl, hq, hx, h0, hn, by rw [ht]; exact hW, va_K.moved hw.alike C.2.2.2.2.2.2.2.1, hS.F ht⟩) hS.2.2 hd C.2.2.2.1

end VCR
/-! VC ROWS that touch the heap. -/
theorem mI_sI (M : Mem) (k j : Nat) (v : Int) (a b : Nat) : mI (sI M k j v) a b = if a = k ∧ b = j then v else mI M a b := rfl
theorem mJ_sI (M : Mem) (k j : Nat) (v : Int) (a b : Nat) : mJ (sI M k j v) a b = mJ M a b := rfl
theorem mR_sI (M : Mem) (k j : Nat) (v : Int) (a b : Nat) : mR (sI M k j v) a b = mR M a b := rfl
theorem mJ_sJ (M : Mem) (k j : Nat) (v : Int) (a b : Nat) : mJ (sJ M k j v) a b = if a = k ∧ b = j then v else mJ M a b := rfl
theorem mJ_sR (M : Mem) (k j : Nat) (v : Option Nat) (a b : Nat) : mJ (sR M k j v) a b = mJ M a b := rfl
theorem mR_sR (M : Mem) (k j : Nat) (v : Option Nat) (a b : Nat) : mR (sR M k j v) a b = if a = k ∧ b = j then v else mR M a b := rfl
theorem okM_sI {M : Mem} {k j : Nat} {v : Int} (h : okM M) (hv : inI v) : okM (sI M k j v) := by
  intro a b
  refine ⟨?_, (h a b).2.1, (h a b).2.2⟩
  rw [mI_sI]
  split
  · exact hv
  · exact (h a b).1
theorem okM_sJ {M : Mem} {k j : Nat} {v : Int} (h : okM M) (hv : inL v) : okM (sJ M k j v) := by
  intro a b
  refine ⟨(h a b).1, ?_, (h a b).2.2⟩
  rw [mJ_sJ]
  split
  · exact hv
  · exact (h a b).2.1
theorem okM_sR {M : Mem} {k j : Nat} {v : Option Nat} (h : okM M) (hv : ∀ r, v = some r → r < M.1.length) : okM (sR M k j v) := by
  intro a b
  refine ⟨(h a b).1, (h a b).2.1, fun r hr => ?_⟩
  rw [mR_sR] at hr
  split at hr
  · exact hv r hr
  · exact (h a b).2.2 r hr
theorem fV_cong {ad : Nat → Nat} {M M' : Mem} {k j : Nat} (h1 : mI M' k j = mI M k j) (h2 : mJ M' k j = mJ M k j) (h3 : mR M' k j = mR M k j) (ty : FieldType) : fV ad M' k j ty = fV ad M k j ty := by
  unfold fV
  rw [h1, h2, h3]
theorem cellW_cong {dA : Nat → ClassId} {ad : Nat → Nat} {M M' : Mem} {k : Nat} (h1 : ∀ j, mI M' k j = mI M k j) (h2 : ∀ j, mJ M' k j = mJ M k j) (h3 : ∀ j, mR M' k j = mR M k j) (sh : Sh) : cellW dA ad M' k sh = cellW dA ad M k sh := by
  rcases sh with ci | ⟨t, n⟩
  · show Sum.inr (ci, flC ad M' k ci) = Sum.inr (ci, flC ad M k ci)
    unfold flC
    rw [List.map_congr_left (fun j _ => fV_cong (h1 j) (h2 j) (h3 j) (tyC ci j))]
  · show Sum.inl (dA t, n, arA ad M' k t) = Sum.inl (dA t, n, arA ad M k t)
    unfold arA
    simp only [h1, h2, h3]
theorem wld_upd {dA : Nat → ClassId} {ad : Nat → Nat} {M M' : Mem} {k : Nat} {sh : Sh} {e : va_E} (hS : M'.1 = M.1) (hs : M.1[k]? = some sh) (h1 : ∀ i j, i ≠ k → mI M' i j = mI M i j) (h2 : ∀ i j, i ≠ k → mJ M' i j = mJ M i j) (h3 : ∀ i j, i ≠ k → mR M' i j = mR M i j) (he : cellW dA ad M' k sh = e) : wld dA ad M' = (wld dA ad M).set k (ad k, e) := by
  apply List.ext_getElem?
  intro i
  have hlt : k < (wld dA ad M).length := by rw [wld_len]; exact (List.getElem?_eq_some_iff.mp hs).1
  by_cases hi : i = k
  · subst hi
    rw [List.getElem?_set_self hlt, wld_at (by rw [hS]; exact hs), he]
  · rw [List.getElem?_set_ne (Ne.symm hi)]
    unfold wld
    rw [List.getElem?_mapIdx, List.getElem?_mapIdx, hS]
    cases M.1[i]? with
    | none => rfl
    | some sh2 =>
      show some (ad i, cellW dA ad M' i sh2) = some (ad i, cellW dA ad M i sh2)
      rw [cellW_cong (fun j => h1 i j hi) (fun j => h2 i j hi) (fun j => h3 i j hi)]
theorem flC_at {ad : Nat → Nat} {M : Mem} {k ci j : Nat} (hj : j < nFC ci) : (flC ad M k ci)[j]? = some (fV ad M k j (tyC ci j)) := by
  unfold flC
  rw [List.getElem?_map, List.getElem?_range hj]
  rfl
theorem flC_len {ad : Nat → Nat} {M : Mem} {k ci : Nat} : (flC ad M k ci).length = nFC ci := by unfold flC; simp
theorem flC_set {ad : Nat → Nat} {M M' : Mem} {k ci j : Nat} {v : Value} (hj : j < nFC ci) (h1 : fV ad M' k j (tyC ci j) = v) (h2 : ∀ i, i ≠ j → mI M' k i = mI M k i ∧ mJ M' k i = mJ M k i ∧ mR M' k i = mR M k i) : flC ad M' k ci = (flC ad M k ci).set j v := by
  apply List.ext_getElem?
  intro i
  by_cases hi : i = j
  · subst hi
    rw [List.getElem?_set_self (by rw [flC_len]; exact hj), flC_at hj, h1]
  · rw [List.getElem?_set_ne (Ne.symm hi)]
    unfold flC
    rw [List.getElem?_map, List.getElem?_map]
    by_cases hl : i < nFC ci
    · rw [List.getElem?_range hl]
      show some (fV ad M' k i (tyC ci i)) = some (fV ad M k i (tyC ci i))
      rw [fV_cong (h2 i hi).1 (h2 i hi).2.1 (h2 i hi).2.2]
    · rw [List.getElem?_eq_none (by simpa using hl)]
      rfl
theorem ne_and {a k b j : Nat} (h : a ≠ k) : ¬ (a = k ∧ b = j) := fun q => h q.1
theorem ne_and2 {a k b j : Nat} (h : b ≠ j) : ¬ (a = k ∧ b = j) := fun q => h q.2
def kindT : FieldType → Nat
  | .long => 1
  | .object _ => 2
  | .array _ => 2
  | .int => 0
  | .boolean => 3
  | _ => 4
theorem fV_I {ad : Nat → Nat} {M : Mem} {k j : Nat} {ty : FieldType} (h : kindT ty = 0 ∨ kindT ty = 3) : fV ad M k j ty = .int (Int32.ofInt (mI M k j)) := by cases ty <;> first | rfl | (simp [kindT] at h)
theorem fV_J {ad : Nat → Nat} {M : Mem} {k j : Nat} {ty : FieldType} (h : kindT ty = 1) : fV ad M k j ty = .long (Int64.ofInt (mJ M k j)) := by cases ty <;> first | rfl | (simp [kindT] at h)
theorem fV_R {ad : Nat → Nat} {M : Mem} {k j : Nat} {ty : FieldType} (h : kindT ty = 2) : fV ad M k j ty = va_rf ((mR M k j).map ad) := by cases ty <;> first | rfl | (simp [kindT] at h)
section VCH
variable {l : Launch} {D : MD} {pc pc' tgt : Nat} {L L' : List (Option AV)} {st : List AV} {M : Mem} {kc ks : Nat} {Q : Option AV → Mem → Prop}
theorem vc_getV {idx ci j k : Nat} {v : AV} (hd : At (mB D) pc (.getfield idx) 3 pc') (fl : FLk (mY D).cls idx ci j) (hs : M.1[k]? = some (.inl ci)) (hv : ∀ ad, fV ad M k j (tyC ci j) = aV ad v) (hok : okM M → okV M.1 v) (kk : VC l D pc' L (v :: st) M kc ks Q) : VC l D pc L (aR k :: st) M kc ks Q := by
  intro p e s m args below meth c dC dI dA ad0 n0 A ad H locs ls C hA h0 hn hst hL hW hS hl
  obtain ⟨hd, rfl⟩ := hd
  obtain ⟨hx, hst⟩ := okS_cons.mp hst
  obtain ⟨CC, T, N, q1, q2, q3, q4⟩ := fl
  obtain ⟨c1, c2, c3, c4⟩ := clsOk ci _ q1
  have hts := C.2.2.2.2.2.2.1
  refine va_get C.1 C.2.1 hts c1 C.2.2.2.2.2.1 C.2.2.2.2.2.2.2.1 hW.2.1 k (wld_at hs) q1 j q2 (hts _ q4) (fun x hx => by rw [q3] at hx; exact hx) (v := aV ad v) ?_ hd ?_
  · rw [flC_at (by rw [c3]; exact q2), hv ad]
  · exact kk p e s m args below meth c dC dI dA ad0 n0 A ad H locs ls C hA h0 hn (okS_cons.mpr ⟨hok hW.1, hst⟩) hL hW hS hl
theorem vc_getI {idx ci j k : Nat} (hd : At (mB D) pc (.getfield idx) 3 pc') (fl : FLk (mY D).cls idx ci j) (hs : M.1[k]? = some (.inl ci)) (ht : kindT (tyC ci j) = 0) (kk : VC l D pc' L (aI (mI M k j) :: st) M kc ks Q) : VC l D pc L (aR k :: st) M kc ks Q :=
  vc_getV (v := aI (mI M k j)) hd fl hs (fun _ => fV_I (Or.inl ht)) (fun h => (h k j).1) kk
theorem vc_getZ {idx ci j k : Nat} (hd : At (mB D) pc (.getfield idx) 3 pc') (fl : FLk (mY D).cls idx ci j) (hs : M.1[k]? = some (.inl ci)) (ht : kindT (tyC ci j) = 3) (kk : VC l D pc' L (aI (mI M k j) :: st) M kc ks Q) : VC l D pc L (aR k :: st) M kc ks Q :=
  vc_getV (v := aI (mI M k j)) hd fl hs (fun _ => fV_I (Or.inr ht)) (fun h => (h k j).1) kk
theorem vc_getJ {idx ci j k : Nat} (hd : At (mB D) pc (.getfield idx) 3 pc') (fl : FLk (mY D).cls idx ci j) (hs : M.1[k]? = some (.inl ci)) (ht : kindT (tyC ci j) = 1) (kk : VC l D pc' L (aL (mJ M k j) :: st) M kc ks Q) : VC l D pc L (aR k :: st) M kc ks Q :=
  vc_getV (v := aL (mJ M k j)) hd fl hs (fun _ => fV_J ht) (fun h => (h k j).2.1) kk
theorem vc_getRo {idx ci j k : Nat} (hd : At (mB D) pc (.getfield idx) 3 pc') (fl : FLk (mY D).cls idx ci j) (hs : M.1[k]? = some (.inl ci)) (ht : kindT (tyC ci j) = 2) (kk : VC l D pc' L (.inr (.inr (mR M k j)) :: st) M kc ks Q) : VC l D pc L (aR k :: st) M kc ks Q :=
  vc_getV (v := .inr (.inr (mR M k j))) hd fl hs (fun _ => fV_R ht) (fun h => by have h3 := (h k j).2.2; cases hr : mR M k j with | none => trivial | some r => exact h3 r hr) kk
theorem vc_getR {idx ci j k r : Nat} (hd : At (mB D) pc (.getfield idx) 3 pc') (fl : FLk (mY D).cls idx ci j) (hs : M.1[k]? = some (.inl ci)) (ht : kindT (tyC ci j) = 2) (hr : mR M k j = some r) (kk : VC l D pc' L (aR r :: st) M kc ks Q) : VC l D pc L (aR k :: st) M kc ks Q :=
  vc_getRo hd fl hs ht (by rw [hr]; exact kk)
/-- a write of a field, in any memory M' that differs there alone -/
theorem vc_putV {idx ci j k : Nat} {v : AV} {M' : Mem} {T : u_T} {N : Nat} {CC : String} (q1 : vwCl[ci]? = some (CC, T, N)) (q2 : j < N) (q3 : (T j).1 = CC) (q4 : Cond.fieldLink (mY D).cls idx CC (T j).2.1 (T j).2.2.1 ∈ tblG) (hfin : (T j).2.2.2 = false ∨ ((T j).2.2.2 = true ∧ (mY D).name = "<init>" ∧ CC = (mY D).cls)) (hs : M.1[k]? = some (.inl ci)) (hS1 : M'.1 = M.1)
    (hn2 : ∀ ad, narrow (tyC ci j) (aV ad v) = aV ad v) (hfit : ∀ ad, fits (tyC ci j) (aV ad v) = true) (h1 : ∀ a b, a ≠ k ∨ b ≠ j → mI M' a b = mI M a b ∧ mJ M' a b = mJ M a b ∧ mR M' a b = mR M a b) (hv : ∀ ad, fV ad M' k j (tyC ci j) = aV ad v) (hok : okM M → okV M.1 v → okM M') (hd : At (mB D) pc (.putfield idx) 3 pc') (kk : VC l D pc' L st M' kc ks Q) : VC l D pc L (v :: aR k :: st) M kc ks Q := by
  intro p e s m args below meth c dC dI dA ad0 n0 A ad H locs ls C hA h0 hn hst hL hW hS hl
  obtain ⟨hd, rfl⟩ := hd
  obtain ⟨hv2, hst⟩ := okS_cons.mp hst
  obtain ⟨hx, hst⟩ := okS_cons.mp hst
  obtain ⟨c1, c2, c3, c4⟩ := clsOk ci _ q1
  have hts := C.2.2.2.2.2.2.1
  have ew : wld dA ad M' = (wld dA ad M).set k (ad k, .inr (ci, (flC ad M k ci).set j (aV ad v))) := by
    refine wld_upd hS1 hs (fun i b h => (h1 i b (Or.inl h)).1) (fun i b h => (h1 i b (Or.inl h)).2.1) (fun i b h => (h1 i b (Or.inl h)).2.2) ?_
    show Sum.inr (ci, flC ad M' k ci) = _
    rw [flC_set (M := M) (by rw [c3]; exact q2) (hv ad) (fun i h => h1 k i (Or.inr h))]
  have k2 : ∀ (H1 : Heap) (locs1 : List Loc), va_P (dC, dI) vwCl ((wld dA ad M).set k (ad k, .inr (ci, (flC ad M k ci).set j (aV ad v)))) H1 → va_D A ((wld dA ad M).set k (ad k, .inr (ci, (flC ad M k ci).set j (aV ad v)))) → va_S A s.heap H1 locs1 → W p l e (rmD D) s m args below meth c H1 locs1 kc ks (MQ below (QcA dC dI dA ad0 n0 A Q) args s (mC D) (mS D) A) (F0 m (pc + 3) ls (st.map (aV ad))) := by
    intro H1 locs1 hP1 hD1 hS2
    rw [← ew] at hP1 hD1
    exact kk p e s m args below meth c dC dI dA ad0 n0 A ad H1 locs1 ls C hA h0 (by rw [hS1]; exact hn) (by rw [hS1]; exact hst) (by rw [hS1]; exact hL) ⟨hok hW.1 hv2, hP1, hD1⟩ hS2 hl
  rcases hfin with hf | ⟨hf, hi, ho⟩
  · exact va_put C.1 C.2.1 hts c1 (tyC ci) c2 c4 C.2.2.2.2.2.1 C.2.2.2.2.2.2.2.1 hW.2.1 hW.2.2 hS k (wld_at hs) q1 j q2 (hts _ q4) (fun x hx => by rw [q3] at hx; exact hx) hf (c2 j q2) (hn2 ad) (hfit ad) (by rw [flC_len, c3]; exact q2) hd k2
  · exact va_putF C.1 C.2.1 hts c1 (tyC ci) c2 c4 C.2.2.2.2.2.1 C.2.2.2.2.2.2.2.1 hW.2.1 hW.2.2 hS k (wld_at hs) q1 j q2 (hts _ q4) (fun x hx => by rw [q3] at hx; exact hx) hf (C.2.2.2.2.2.2.2.2.1.trans hi) (q3.trans ho) (c2 j q2) (hn2 ad) (hfit ad) (by rw [flC_len, c3]; exact q2) hd k2
theorem ty0 {t : FieldType} (h : kindT t = 0) : t = .int := by cases t <;> first | rfl | (simp [kindT] at h)
theorem ty1 {t : FieldType} (h : kindT t = 1) : t = .long := by cases t <;> first | rfl | (simp [kindT] at h)
theorem ty3 {t : FieldType} (h : kindT t = 3) : t = .boolean := by cases t <;> first | rfl | (simp [kindT] at h)
theorem vc_putI {idx ci j k : Nat} {x : Int} (hd : At (mB D) pc (.putfield idx) 3 pc') (fl : PLk D idx ci j) (hs : M.1[k]? = some (.inl ci)) (ht : kindT (tyC ci j) = 0) (kk : VC l D pc' L st (sI M k j x) kc ks Q) : VC l D pc L (aI x :: aR k :: st) M kc ks Q := by
  obtain ⟨C, T, N, q1, q2, q3, q4, q5⟩ := fl
  refine vc_putV (M' := (sI M k j x)) q1 q2 q3 q4 q5 hs rfl (fun ad => by rw [ty0 ht]; rfl) (fun ad => by rw [ty0 ht]; rfl) (fun a b h => ⟨?_, rfl, rfl⟩) (fun ad => ?_) (fun h1 h2 => okM_sI h1 h2) hd kk
  · rw [mI_sI, if_neg]
    rcases h with h | h
    · exact ne_and h
    · exact ne_and2 h
  · rw [fV_I (Or.inl ht), mI_sI, if_pos ⟨rfl, rfl⟩]; rfl
theorem vc_putZ {idx ci j k : Nat} {x : Int} (hd : At (mB D) pc (.putfield idx) 3 pc') (fl : PLk D idx ci j) (hs : M.1[k]? = some (.inl ci)) (ht : kindT (tyC ci j) = 3) (hb : x = 0 ∨ x = 1) (kk : VC l D pc' L st (sI M k j x) kc ks Q) : VC l D pc L (aI x :: aR k :: st) M kc ks Q := by
  obtain ⟨C, T, N, q1, q2, q3, q4, q5⟩ := fl
  refine vc_putV (M' := (sI M k j x)) q1 q2 q3 q4 q5 hs rfl (fun ad => by rw [ty3 ht]; rcases hb with rfl | rfl <;> rfl) (fun ad => by rw [ty3 ht]; rcases hb with rfl | rfl <;> rfl) (fun a b h => ⟨?_, rfl, rfl⟩) (fun ad => ?_) (fun h1 h2 => okM_sI h1 h2) hd kk
  · rw [mI_sI, if_neg]
    rcases h with h | h
    · exact ne_and h
    · exact ne_and2 h
  · rw [fV_I (Or.inr ht), mI_sI, if_pos ⟨rfl, rfl⟩]; rfl
theorem vc_putJ {idx ci j k : Nat} {x : Int} (hd : At (mB D) pc (.putfield idx) 3 pc') (fl : PLk D idx ci j) (hs : M.1[k]? = some (.inl ci)) (ht : kindT (tyC ci j) = 1) (kk : VC l D pc' L st (sJ M k j x) kc ks Q) : VC l D pc L (aL x :: aR k :: st) M kc ks Q := by
  obtain ⟨C, T, N, q1, q2, q3, q4, q5⟩ := fl
  refine vc_putV (M' := (sJ M k j x)) q1 q2 q3 q4 q5 hs rfl (fun ad => by rw [ty1 ht]; rfl) (fun ad => by rw [ty1 ht]; rfl) (fun a b h => ⟨rfl, ?_, rfl⟩) (fun ad => ?_) (fun h1 h2 => okM_sJ h1 h2) hd kk
  · rw [mJ_sJ, if_neg]
    rcases h with h | h
    · exact ne_and h
    · exact ne_and2 h
  · rw [fV_J ht, mJ_sJ, if_pos ⟨rfl, rfl⟩]; rfl
theorem vc_putR {idx ci j k r : Nat} (hd : At (mB D) pc (.putfield idx) 3 pc') (fl : PLk D idx ci j) (hs : M.1[k]? = some (.inl ci)) (ht : kindT (tyC ci j) = 2) (kk : VC l D pc' L st (sR M k j (some r)) kc ks Q) : VC l D pc L (aR r :: aR k :: st) M kc ks Q := by
  obtain ⟨C, T, N, q1, q2, q3, q4, q5⟩ := fl
  refine vc_putV (M' := (sR M k j (some r))) q1 q2 q3 q4 q5 hs rfl (fun ad => ?_) (fun ad => ?_) (fun a b h => ⟨rfl, rfl, ?_⟩) (fun ad => ?_) (fun h1 h2 => okM_sR h1 (fun r2 e => by cases e; exact h2)) hd kk
  · cases hh : tyC ci j <;> first | rfl | (rw [hh] at ht; simp [kindT] at ht)
  · cases hh : tyC ci j <;> first | rfl | (rw [hh] at ht; simp [kindT] at ht)
  · rw [mR_sR, if_neg]
    rcases h with h | h
    · exact ne_and h
    · exact ne_and2 h
  · rw [fV_R ht, mR_sR, if_pos ⟨rfl, rfl⟩]; rfl
theorem oI_nat {x : Int} (h : inI x) (h0 : 0 ≤ x) : (Int32.ofInt x).toNatClampNeg = x.toNat := by
  show (Int32.ofInt x).toInt.toNat = x.toNat
  rw [oI_id h]
theorem oI_in {x : Int} {n : Nat} (h : inI x) (h0 : 0 ≤ x) (h1 : x < n) : vp_in (Int32.ofInt x) n := by
  rw [vp_in_iff, oI_id h]
  exact ⟨h0, h1⟩
theorem vc_iaload {k n : Nat} {i : Int} (hd : At (mB D) pc .iaload 1 pc') (hs : M.1[k]? = some (.inr (0, n))) (h0 : 0 ≤ i) (h1 : i < n) (kk : VC l D pc' L (aI (mI M k i.toNat) :: st) M kc ks Q) : VC l D pc L (aI i :: aR k :: st) M kc ks Q := by
  intro p e s m args below meth c dC dI dA ad0 n0 A ad H locs ls C hA h0' hn hst hL hW hS hl
  obtain ⟨hd, rfl⟩ := hd
  obtain ⟨hi, hst⟩ := okS_cons.mp hst
  obtain ⟨hx, hst⟩ := okS_cons.mp hst
  refine va_iald C.1 C.2.1 C.2.2.2.2.2.2.2.1 hW.2.1 k 0 (wld_at hs) rfl (oI_in hi h0 h1) hd ?_
  rw [oI_nat hi h0]
  exact kk p e s m args below meth c dC dI dA ad0 n0 A ad H locs ls C hA h0' hn (okS_cons.mpr ⟨(hW.1 k i.toNat).1, hst⟩) hL hW hS hl
theorem vc_laload {k n : Nat} {i : Int} (hd : At (mB D) pc .laload 1 pc') (hs : M.1[k]? = some (.inr (1, n))) (h0 : 0 ≤ i) (h1 : i < n) (kk : VC l D pc' L (aL (mJ M k i.toNat) :: st) M kc ks Q) : VC l D pc L (aI i :: aR k :: st) M kc ks Q := by
  intro p e s m args below meth c dC dI dA ad0 n0 A ad H locs ls C hA h0' hn hst hL hW hS hl
  obtain ⟨hd, rfl⟩ := hd
  obtain ⟨hi, hst⟩ := okS_cons.mp hst
  obtain ⟨hx, hst⟩ := okS_cons.mp hst
  refine va_lald C.1 C.2.1 C.2.2.2.2.2.2.2.1 hW.2.1 k 1 (wld_at hs) rfl (oI_in hi h0 h1) hd ?_
  rw [oI_nat hi h0]
  exact kk p e s m args below meth c dC dI dA ad0 n0 A ad H locs ls C hA h0' hn (okS_cons.mpr ⟨(hW.1 k i.toNat).2.1, hst⟩) hL hW hS hl
theorem vc_baload {k n : Nat} {i : Int} (hd : At (mB D) pc .baload 1 pc') (hs : M.1[k]? = some (.inr (2, n))) (h0 : 0 ≤ i) (h1 : i < n) (kk : VC l D pc' L (aI (mI M k i.toNat) :: st) M kc ks Q) : VC l D pc L (aI i :: aR k :: st) M kc ks Q := by
  intro p e s m args below meth c dC dI dA ad0 n0 A ad H locs ls C hA h0' hn hst hL hW hS hl
  obtain ⟨hd, rfl⟩ := hd
  obtain ⟨hi, hst⟩ := okS_cons.mp hst
  obtain ⟨hx, hst⟩ := okS_cons.mp hst
  refine va_zald C.1 C.2.1 C.2.2.2.2.2.2.2.1 hW.2.1 k 2 (wld_at hs) rfl (oI_in hi h0 h1) hd ?_
  rw [oI_nat hi h0]
  exact kk p e s m args below meth c dC dI dA ad0 n0 A ad H locs ls C hA h0' hn (okS_cons.mpr ⟨(hW.1 k i.toNat).1, hst⟩) hL hW hS hl
theorem vc_aaload {k n : Nat} {i : Int} (hd : At (mB D) pc .aaload 1 pc') (hs : M.1[k]? = some (.inr (3, n))) (h0 : 0 ≤ i) (h1 : i < n) (kk : VC l D pc' L (.inr (.inr (mR M k i.toNat)) :: st) M kc ks Q) : VC l D pc L (aI i :: aR k :: st) M kc ks Q := by
  intro p e s m args below meth c dC dI dA ad0 n0 A ad H locs ls C hA h0' hn hst hL hW hS hl
  obtain ⟨hd, rfl⟩ := hd
  obtain ⟨hi, hst⟩ := okS_cons.mp hst
  obtain ⟨hx, hst⟩ := okS_cons.mp hst
  refine va_aldq C.1 C.2.1 C.2.2.2.2.2.2.2.1 hW.2.1 k 3 (wld_at hs) rfl (oI_in hi h0 h1) hd ?_
  rw [oI_nat hi h0]
  refine kk p e s m args below meth c dC dI dA ad0 n0 A ad H locs ls C hA h0' hn (okS_cons.mpr ⟨?_, hst⟩) hL hW hS hl
  have h3 := (hW.1 k i.toNat).2.2
  cases hr : mR M k i.toNat with
  | none => trivial
  | some r => exact h3 r hr
theorem upd_oI (M : Mem) (k : Nat) (i : Nat) (x : Int) : (fun j => Int32.ofInt (mI (sI M k i x) k j)) = upd (fun j => Int32.ofInt (mI M k j)) i (Int32.ofInt x) := by
  funext j
  unfold upd
  rw [mI_sI]
  by_cases h : j = i
  · rw [if_pos ⟨rfl, h⟩, if_pos h]
  · rw [if_neg (ne_and2 h), if_neg h]
theorem upd_oJ (M : Mem) (k : Nat) (i : Nat) (x : Int) : (fun j => Int64.ofInt (mJ (sJ M k i x) k j)) = vp_updL (fun j => Int64.ofInt (mJ M k j)) i (Int64.ofInt x) := by
  funext j
  unfold vp_updL
  rw [mJ_sJ]
  by_cases h : j = i
  · rw [if_pos ⟨rfl, h⟩, if_pos h]
  · rw [if_neg (ne_and2 h), if_neg h]
theorem upd_oR (ad : Nat → Nat) (M : Mem) (k : Nat) (i : Nat) (x : Option Nat) : (fun j => (mR (sR M k i x) k j).map ad) = va_up (fun j => (mR M k j).map ad) i (x.map ad) := by
  funext j
  unfold va_up
  rw [mR_sR]
  by_cases h : j = i
  · rw [if_pos ⟨rfl, h⟩, if_pos h]
  · rw [if_neg (ne_and2 h), if_neg h]
theorem vc_iastore {k n : Nat} {i x : Int} (hd : At (mB D) pc .iastore 1 pc') (hs : M.1[k]? = some (.inr (0, n))) (h0 : 0 ≤ i) (h1 : i < n) (kk : VC l D pc' L st (sI M k i.toNat x) kc ks Q) : VC l D pc L (aI x :: aI i :: aR k :: st) M kc ks Q := by
  intro p e s m args below meth c dC dI dA ad0 n0 A ad H locs ls C hA h0' hn hst hL hW hS hl
  obtain ⟨hd, rfl⟩ := hd
  obtain ⟨hx, hst⟩ := okS_cons.mp hst
  obtain ⟨hi, hst⟩ := okS_cons.mp hst
  obtain ⟨_, hst⟩ := okS_cons.mp hst
  refine va_iast C.1 C.2.1 C.2.2.2.2.2.2.2.1 hW.2.1 hW.2.2 hS k 0 (wld_at hs) rfl (oI_in hi h0 h1) hd ?_
  rw [oI_nat hi h0, ← upd_oI]
  intro H1 locs1 hP1 hD1 hS1
  have ew : wld dA ad (sI M k i.toNat x) = (wld dA ad M).set k (ad k, .inl (dA 0, n, .inl (fun j => Int32.ofInt (mI (sI M k i.toNat x) k j)))) := wld_upd rfl hs (fun a b h => by rw [mI_sI, if_neg (ne_and h)]) (fun _ _ _ => rfl) (fun _ _ _ => rfl) rfl
  rw [← ew] at hP1 hD1
  exact kk p e s m args below meth c dC dI dA ad0 n0 A ad H1 locs1 ls C hA h0' hn hst hL ⟨okM_sI hW.1 hx, hP1, hD1⟩ hS1 hl
theorem vc_bastore {k n : Nat} {i x : Int} (hd : At (mB D) pc .bastore 1 pc') (hs : M.1[k]? = some (.inr (2, n))) (h0 : 0 ≤ i) (h1 : i < n) (hb : x = 0 ∨ x = 1) (kk : VC l D pc' L st (sI M k i.toNat x) kc ks Q) : VC l D pc L (aI x :: aI i :: aR k :: st) M kc ks Q := by
  intro p e s m args below meth c dC dI dA ad0 n0 A ad H locs ls C hA h0' hn hst hL hW hS hl
  obtain ⟨hd, rfl⟩ := hd
  obtain ⟨hx, hst⟩ := okS_cons.mp hst
  obtain ⟨hi, hst⟩ := okS_cons.mp hst
  obtain ⟨_, hst⟩ := okS_cons.mp hst
  refine va_zast C.1 C.2.1 C.2.2.2.2.2.2.2.1 hW.2.1 hW.2.2 hS k 2 (wld_at hs) rfl (oI_in hi h0 h1) hd ?_
  have en : vp_nar .boolean (Int32.ofInt x) = Int32.ofInt x := by rcases hb with rfl | rfl <;> rfl
  rw [en, oI_nat hi h0, ← upd_oI]
  intro H1 locs1 hP1 hD1 hS1
  have ew : wld dA ad (sI M k i.toNat x) = (wld dA ad M).set k (ad k, .inl (dA 2, n, .inl (fun j => Int32.ofInt (mI (sI M k i.toNat x) k j)))) := wld_upd rfl hs (fun a b h => by rw [mI_sI, if_neg (ne_and h)]) (fun _ _ _ => rfl) (fun _ _ _ => rfl) rfl
  rw [← ew] at hP1 hD1
  exact kk p e s m args below meth c dC dI dA ad0 n0 A ad H1 locs1 ls C hA h0' hn hst hL ⟨okM_sI hW.1 hx, hP1, hD1⟩ hS1 hl
theorem vc_lastore {k n : Nat} {i x : Int} (hd : At (mB D) pc .lastore 1 pc') (hs : M.1[k]? = some (.inr (1, n))) (h0 : 0 ≤ i) (h1 : i < n) (kk : VC l D pc' L st (sJ M k i.toNat x) kc ks Q) : VC l D pc L (aL x :: aI i :: aR k :: st) M kc ks Q := by
  intro p e s m args below meth c dC dI dA ad0 n0 A ad H locs ls C hA h0' hn hst hL hW hS hl
  obtain ⟨hd, rfl⟩ := hd
  obtain ⟨hx, hst⟩ := okS_cons.mp hst
  obtain ⟨hi, hst⟩ := okS_cons.mp hst
  obtain ⟨_, hst⟩ := okS_cons.mp hst
  refine va_last C.1 C.2.1 C.2.2.2.2.2.2.2.1 hW.2.1 hW.2.2 hS k 1 (wld_at hs) rfl (oI_in hi h0 h1) hd ?_
  rw [oI_nat hi h0, ← upd_oJ]
  intro H1 locs1 hP1 hD1 hS1
  have ew : wld dA ad (sJ M k i.toNat x) = (wld dA ad M).set k (ad k, .inl (dA 1, n, .inr (.inl (fun j => Int64.ofInt (mJ (sJ M k i.toNat x) k j))))) := wld_upd rfl hs (fun _ _ _ => rfl) (fun a b h => by rw [mJ_sJ, if_neg (ne_and h)]) (fun _ _ _ => rfl) rfl
  rw [← ew] at hP1 hD1
  exact kk p e s m args below meth c dC dI dA ad0 n0 A ad H1 locs1 ls C hA h0' hn hst hL ⟨okM_sJ hW.1 hx, hP1, hD1⟩ hS1 hl
theorem vc_alen {k t n : Nat} (hd : At (mB D) pc .arraylength 1 pc') (hs : M.1[k]? = some (.inr (t, n))) (ht : (decide (t < 4) && decide (n < 2147483648)) = true) (kk : VC l D pc' L (aI (n : Int) :: st) M kc ks Q) : VC l D pc L (aR k :: st) M kc ks Q := by
  intro p e s m args below meth c dC dI dA ad0 n0 A ad H locs ls C hA h0' hn hst hL hW hS hl
  obtain ⟨hd, rfl⟩ := hd
  obtain ⟨_, hst⟩ := okS_cons.mp hst
  simp only [Bool.and_eq_true, decide_eq_true_eq] at ht
  refine va_alen C.1 C.2.1 C.2.2.2.2.2.2.2.1 hW.2.1 k t (wld_at hs) (ty := tyA t) ?_ rfl hd ?_
  · match t, ht.1 with
    | 0, _ => rfl
    | 1, _ => rfl
    | 2, _ => rfl
    | 3, _ => rfl
    | t + 4, h => exact absurd h (by omega)
  · exact kk p e s m args below meth c dC dI dA ad0 n0 A ad H locs ls C hA h0' hn (okS_cons.mpr ⟨(⟨by omega, by omega⟩ : inI (n : Int)), hst⟩) hL hW hS hl
end VCH
/-! CALLS: by the callee's Call. -/
theorem wsD_good {D : MD} {n : Nat} (h : MOk D n) : GoodIn tblG (wsD D) := by
  intro w hw
  rcases List.mem_cons.mp hw with rfl | hw
  · exact ⟨h.1, tblG_good h.1⟩
  · exact ⟨hw, tblG_good hw⟩
theorem PcA_blind {dC : Nat → ClassId} {dI : Nat → Nat → Nat} {dA : Nat → ClassId} {ad : Nat → Nat} {sz : Nat} {as : List AV} {M : Mem} : FrameBlind (PcA dC dI dA ad sz as M) := by
  intro a U g mk q
  obtain ⟨q0, q1, q2, qK, qE⟩ := q
  exact ⟨q0, q1, q2, va_K.moved (u := U) (U := U.calling g mk a) (Vm.Alike.refl U.vm) qK, Ext.same (u := U) (U := U.calling g mk a) rfl qE⟩
theorem rmD_room {D D' : MD} (h : mV D' < mV D) (h2 : mN D' ≤ 45) : (rmD D').frames + 1 ≤ (rmD D).frames ∧ 8 + (mN D' + 11) + (rmD D').locals ≤ (rmD D).locals := by
  unfold rmD
  constructor
  · show mV D' + 1 + 1 ≤ mV D + 1
    omega
  · show 8 + (mN D' + 11) + (64 * mV D' + 64) ≤ 64 * mV D + 64
    omega
section VCC
variable {l : Launch} {D : MD} {pc pc' tgt : Nat} {L L' : List (Option AV)} {st : List AV} {M : Mem} {kc ks : Nat} {Q : Option AV → Mem → Prop}
variable {D' : MD} {as : List AV} {Q' : Option AV → Mem → Prop}
theorem vc_after {st0 : List Value} {arr : Array Value} {p : Program} {e : Env} {s : State} {m : MethodId} {args : Array Value} {below : List Frame} {meth : Method} {c : Code} {dC : Nat → ClassId} {dI : Nat → Nat → Nat} {dA : Nat → ClassId} {ad0 : Nat → Nat} {n0 : Nat} {A : Nat → Prop} {ad : Nat → Nat} {H : Heap} {locs : List Loc} {ls : Array Slot}
    (C : Cx D p s m args meth c dC dI dA A) (hA : ∀ q, s.heap.size ≤ q → A q) (h0 : ∀ k, k < n0 → ad k = ad0 k) (hn : n0 ≤ M.1.length) (hst : okS M.1 st) (hL : okL M.1 L) (hW : Wd dC dI dA ad A M H) (hS : va_S A s.heap H locs) (hl : lv_has ls (mN D) (lvL ad L))
    (hrun : va_Run p l e (rmD D) s m args below meth c H locs kc ks (mC D') (mS D') (F0 m pc ls st0) (st.map (aV ad)) (QcA dC dI dA ad M.1.length (va_A (wld dA ad M) H.size) Q' arr) (va_A (wld dA ad M) H.size))
    (kk : ∀ r M', Q' r M' → M.1.length ≤ M'.1.length → VC l D (pc + 3) L (r.toList ++ st) M' (kc + mC D') (ks + mS D') Q) :
    W p l e (rmD D) s m args below meth c H locs kc ks (MQ below (QcA dC dI dA ad0 n0 A Q) args s (mC D) (mS D) A) (F0 m pc ls st0) := by
  intro T hT X
  obtain ⟨v, st₀, t, T', L2, e0, X', hLf, e1, e2, ⟨r, M', ad', ho, hq, hok, had, hlen, hWd, hK, hF⟩, go⟩ := hrun T hT X
  have hA1 : ∀ q, va_A (wld dA ad M) H.size q → A q := by
    intro q hq
    rcases hq with ⟨k, e, hk⟩ | hk
    · exact hW.2.2.2 k _ hk
    · exact hA q (Nat.le_trans hS.1 hk)
  obtain ⟨hz, hkp⟩ := hF
  rw [e0] at hz hkp
  have hS' : va_S A s.heap T'.heap (locs ++ L2) := by
    refine ⟨Nat.le_trans hS.1 (by rw [e1]; exact hz), fun q a1 a2 => ?_, fun q hq2 => ?_⟩
    · rw [e1, hkp q (Nat.lt_of_lt_of_le a1 hS.1) (fun z => a2 (hA1 q z))]
      exact hS.2.1 q a1 a2
    · rcases List.mem_append.mp hq2 with h | h
      · exact hS.2.2 q h
      · exact hA1 _ (hLf q h)
  cases ho
  have k2 := kk r M' hq hlen p e s m args below meth c dC dI dA ad0 n0 A ad' T'.heap (locs ++ L2) ls C hA (fun k hk => (had k (Nat.lt_of_lt_of_le hk hn)).trans (h0 k hk)) (Nat.le_trans hn hlen) ?_ ?_ ⟨hWd.1, by rw [e1]; exact hWd.2.1, hWd.2.2.weaken (fun _ q _ h => hA1 q.1 h)⟩ hS' (lvL_ext hL had hl)
  · obtain ⟨t2, a1, b1⟩ := k2 T' rfl X'
    refine ⟨t2, go t2 ?_, b1⟩
    have es : (r.toList ++ st).map (aV ad') = (r.map (aV ad')).toList ++ st.map (aV ad) := by
      rw [List.map_append, stk_ext hst had]
      cases r <;> rfl
    rw [es] at a1
    exact a1
  · intro v hv
    rcases List.mem_append.mp hv with h | h
    · cases r with
      | none => cases h
      | some w => rcases List.mem_cons.mp h with rfl | h; exact hok; cases h
    · have := hst v h
      rcases v with x | x | q
      · exact this
      · exact this
      · cases q with
        | none => trivial
        | some k => exact Nat.lt_of_lt_of_le this hlen
  · intro i v hv
    have := hL i v hv
    rcases v with x | x | q
    · exact this
    · exact this
    · cases q with
      | none => trivial
      | some k => exact Nat.lt_of_lt_of_le this hlen
theorem ext_call {p : Program} {s : State} {m : MethodId} {args : Array Value} {meth : Method} {c : Code} {dC : Nat → ClassId} {dI : Nat → Nat → Nat} {dA : Nat → ClassId} {A : Nat → Prop} {ad : Nat → Nat} {H : Heap} {locs : List Loc} {U : State}
    (C : Cx D p s m args meth c dC dI dA A) (hA : ∀ q, s.heap.size ≤ q → A q) (hW : Wd dC dI dA ad A M H) (hS : va_S A s.heap H locs) (hU : U.heap = H) (hWm : s.WarmedH U.vm) : Ext (va_A (wld dA ad M) H.size) U U.heap := by
  have hA1 : ∀ q, va_A (wld dA ad M) H.size q → A q := by
    intro q hq
    rcases hq with ⟨k, e, hk⟩ | hk
    · exact hW.2.2.2 k _ hk
    · exact hA q (Nat.le_trans hS.1 hk)
  rw [hU]
  exact ((C.2.2.2.2.2.2.2.2.2.kept hS.2.1).narrow hA1).warm hWm
theorem cat_sum (ad : Nat → Nat) (st : List AV) : ((st.map (aV ad)).map fun v => v.category).sum = (st.map catA).sum := by
  rw [List.map_map]
  exact congrArg List.sum (List.map_congr_left fun v _ => aV_cat ad v)
theorem okS_rev {S : List Sh} {as st : List AV} (h : okS S (as.reverse ++ st)) : okS S as ∧ okS S st := ⟨fun v hv => h v (List.mem_append_left _ (List.mem_reverse.mpr hv)), fun v hv => h v (List.mem_append_right _ hv)⟩
theorem vc_callV {idx k ci n : Nat} {T : u_T} {N : Nat} (hd : At (mB D) pc (.invokevirtual idx) 3 pc') (hm : MOk D' n) (hv : MVi D') (hlk : LkM (mY D).cls idx D') (hs : M.1[k]? = some (.inl ci)) (hci : vwCl[ci]? = some ((mY D').cls, T, N)) (hlen : as.length = n) (hlev : mV D' < mV D) (hc1 : kc + mC D' ≤ mC D) (hc2 : ks + mS D' ≤ mS D) (hsum : (st.map catA).sum ≤ 8) (stk : List AV) (hstk : as.reverse ++ aR k :: st = stk) (hcall : Call l D' (aR k :: as) M Q')
    (kk : ∀ r M', Q' r M' → M.1.length ≤ M'.1.length → VC l D pc' L (r.toList ++ st) M' (kc + mC D') (ks + mS D') Q) : VC l D pc L stk M kc ks Q := by
  subst hstk
  intro p e s m args below meth c dC dI dA ad0 n0 A ad H locs ls C hA h0 hn hst hL hW hS hl
  obtain ⟨hd, rfl⟩ := hd
  obtain ⟨hst1, hst2⟩ := okS_rev hst
  obtain ⟨hr, hst⟩ := okS_cons.mp hst2
  have hts := C.2.2.2.2.2.2.1
  have hM := hcall dC dI dA ad H.size (okS_cons.mpr ⟨hr, hst1⟩)
  have hcb : CallB (rmD D) s args (mY D).cls idx (mY D') (mB D') (mN D') (mT D') (wsD D') (rmD D') (mC D') (mS D') n := callB_of n hts (wsD_good hm) rfl rfl rfl (hts _ hm.2.1) (hts _ hlk) hm.2.2.1 (rmD_room hlev hm.2.2.2)
  refine vc_after (D' := D') (st0 := (as.reverse ++ aR k :: st).map (aV ad)) (arr := ((aR k :: as).map (aV ad)).toArray) C hA h0 hn hst hL hW hS hl (va_runV (C := (mY D').cls) (b := ad k) (As := as.map (aV ad)) (rest := st.map (aV ad)) ⟨C.1, C.2.1, C.2.2.2.2.1, C.2.2.2.2.2.1, hts⟩ hM ⟨hcb, hts _ hv.1, hts _ hv.2⟩ ⟨PcA_blind, va_recv C.2.2.2.2.2.2.2.1 hW.2.1 hci (wld_at hs), fun U hU hWm => ⟨rfl, by rw [hU], ⟨hW.1, by rw [hU]; exact hW.2.1, hW.2.2.weaken (fun _ _ _ _ => trivial)⟩, va_K.moved hWm.alike C.2.2.2.2.2.2.2.1, ext_call C hA hW hS hU hWm⟩⟩ rfl (by simpa using hlen) hl.1 (by simp [aV, va_rf]) (lv_room (by rw [cat_sum]; exact hsum)) hd ⟨hc1, hc2⟩) kk
theorem vc_callS {idx n : Nat} (hd : At (mB D) pc (.invokestatic idx) 3 pc') (hm : MOk D' n) (hv : MSt D') (hlk : LkM (mY D).cls idx D') (hlen : as.length = n) (hlev : mV D' < mV D) (hc1 : kc + mC D' ≤ mC D) (hc2 : ks + mS D' ≤ mS D) (hsum : (st.map catA).sum ≤ 8) (stk : List AV) (hstk : as.reverse ++ st = stk) (hcall : Call l D' as M Q')
    (kk : ∀ r M', Q' r M' → M.1.length ≤ M'.1.length → VC l D pc' L (r.toList ++ st) M' (kc + mC D') (ks + mS D') Q) : VC l D pc L stk M kc ks Q := by
  subst hstk
  intro p e s m args below meth c dC dI dA ad0 n0 A ad H locs ls C hA h0 hn hst hL hW hS hl
  obtain ⟨hd, rfl⟩ := hd
  obtain ⟨hst1, hst⟩ := okS_rev hst
  have hts := C.2.2.2.2.2.2.1
  have hM := hcall dC dI dA ad H.size hst1
  have hcb : CallB (rmD D) s args (mY D).cls idx (mY D') (mB D') (mN D') (mT D') (wsD D') (rmD D') (mC D') (mS D') n := callB_of n hts (wsD_good hm) rfl rfl rfl (hts _ hm.2.1) (hts _ hlk) hm.2.2.1 (rmD_room hlev hm.2.2.2)
  refine vc_after (D' := D') (st0 := (as.reverse ++ st).map (aV ad)) (arr := (as.map (aV ad)).toArray) C hA h0 hn hst hL hW hS hl (va_runS (As := as.map (aV ad)) (rest := st.map (aV ad)) ⟨C.1, C.2.1, C.2.2.2.2.1, C.2.2.2.2.2.1, hts⟩ hM ⟨hcb, hts _ hv⟩ ⟨PcA_blind, fun U hU hWm => ⟨rfl, by rw [hU], ⟨hW.1, by rw [hU]; exact hW.2.1, hW.2.2.weaken (fun _ _ _ _ => trivial)⟩, va_K.moved hWm.alike C.2.2.2.2.2.2.2.1, ext_call C hA hW hS hU hWm⟩⟩ rfl (by simpa using hlen) hl.1 (by simp) (lv_room (by rw [cat_sum]; exact hsum)) hd ⟨hc1, hc2⟩) kk
/-- a private static method of a nest mate -/
theorem vc_callSN {idx n : Nat} {host : String} (hd : At (mB D) pc (.invokestatic idx) 3 pc') (hm : MOk D' n) (hv : MSt D') (hlk : ∀ (A : Nat → Prop) (U : State) (H : Heap), Ext A U H → va_Nw (.methodLinkNest (mY D).cls idx (mY D') host) U) (hlen : as.length = n) (hlev : mV D' < mV D) (hc1 : kc + mC D' ≤ mC D) (hc2 : ks + mS D' ≤ mS D) (hsum : (st.map catA).sum ≤ 8) (stk : List AV) (hstk : as.reverse ++ st = stk) (hcall : Call l D' as M Q')
    (kk : ∀ r M', Q' r M' → M.1.length ≤ M'.1.length → VC l D pc' L (r.toList ++ st) M' (kc + mC D') (ks + mS D') Q) : VC l D pc L stk M kc ks Q := by
  subst hstk
  intro p e s m args below meth c dC dI dA ad0 n0 A ad H locs ls C hA h0 hn hst hL hW hS hl
  obtain ⟨hd, rfl⟩ := hd
  obtain ⟨hst1, hst⟩ := okS_rev hst
  have hts := C.2.2.2.2.2.2.1
  have hM := hcall dC dI dA ad H.size hst1
  have hr := rmD_room hlev hm.2.2.2
  have hcn : va_CN (rmD D) s args (mY D).cls idx (mY D') host (mB D') (mN D') (mT D') (wsD D') (rmD D') (mC D') (mS D') n := by
    refine ⟨⟨rfl, rfl, hr.1, hr.2, pay_in hts (wsD_good hm), List.mem_cons_self⟩, hts _ hm.1, hts _ hm.2.1, ⟨hm.2.2.1.1, hm.2.2.1.2.1⟩, fun sig h => ?_, va_Nw.use rfl (hlk _ _ _ C.2.2.2.2.2.2.2.2.2)⟩
    have h2 := hm.2.2.1.2.2
    rw [h] at h2
    exact (Option.some.inj h2).symm
  refine vc_after (D' := D') (st0 := (as.reverse ++ st).map (aV ad)) (arr := (as.map (aV ad)).toArray) C hA h0 hn hst hL hW hS hl (va_runSN (As := as.map (aV ad)) (rest := st.map (aV ad)) ⟨C.1, C.2.1, C.2.2.2.2.1, C.2.2.2.2.2.1, hts⟩ hM ⟨hcn, hts _ hv, trivial⟩ ⟨PcA_blind, fun U hU hWm => ⟨rfl, by rw [hU], ⟨hW.1, by rw [hU]; exact hW.2.1, hW.2.2.weaken (fun _ _ _ _ => trivial)⟩, va_K.moved hWm.alike C.2.2.2.2.2.2.2.1, ext_call C hA hW hS hU hWm⟩⟩ rfl (by simpa using hlen) hl.1 (by simp) (lv_room (by rw [cat_sum]; exact hsum)) hd ⟨hc1, hc2⟩) kk
/-- a constructor -/
theorem vc_callI {idx k n : Nat} (hd : At (mB D) pc (.invokespecial idx) 3 pc') (hm : MOk D' n) (hv : Cond.instanceMethod (mY D') ∈ tblG) (hnm : (mY D').name = "<init>") (hret : mT D' = none) (hlk : LkM (mY D).cls idx D') (hlen : as.length = n) (hlev : mV D' < mV D) (hc1 : kc + mC D' ≤ mC D) (hc2 : ks + mS D' ≤ mS D) (hsum : (st.map catA).sum ≤ 8) (stk : List AV) (hstk : as.reverse ++ aR k :: st = stk) (hcall : Call l D' (aR k :: as) M Q')
    (kk : ∀ r M', Q' r M' → M.1.length ≤ M'.1.length → VC l D pc' L (r.toList ++ st) M' (kc + mC D') (ks + mS D') Q) : VC l D pc L stk M kc ks Q := by
  subst hstk
  intro p e s m args below meth c dC dI dA ad0 n0 A ad H locs ls C hA h0 hn hst hL hW hS hl
  obtain ⟨hd, rfl⟩ := hd
  obtain ⟨hst1, hst2⟩ := okS_rev hst
  obtain ⟨hr, hst⟩ := okS_cons.mp hst2
  have hts := C.2.2.2.2.2.2.1
  have hM := hcall dC dI dA ad H.size (okS_cons.mpr ⟨hr, hst1⟩)
  have hcb : CallB (rmD D) s args (mY D).cls idx (mY D') (mB D') (mN D') none (wsD D') (rmD D') (mC D') (mS D') n := callB_of n hts (wsD_good hm) (by rw [← hret]; rfl) rfl rfl (hts _ hm.2.1) (hts _ hlk) hm.2.2.1 (rmD_room hlev hm.2.2.2)
  refine vc_after (D' := D') (st0 := (as.reverse ++ aR k :: st).map (aV ad)) (arr := ((aR k :: as).map (aV ad)).toArray) C hA h0 hn hst hL hW hS hl (va_runI (b := ad k) (As := as.map (aV ad)) (rest := st.map (aV ad)) ⟨C.1, C.2.1, C.2.2.2.2.1, C.2.2.2.2.2.1, hts⟩ hM ⟨hcb, hnm, hts _ hv⟩ ⟨PcA_blind, fun U hU hWm => ⟨rfl, by rw [hU], ⟨hW.1, by rw [hU]; exact hW.2.1, hW.2.2.weaken (fun _ _ _ _ => trivial)⟩, va_K.moved hWm.alike C.2.2.2.2.2.2.2.1, ext_call C hA hW hS hU hWm⟩⟩ rfl (by simpa using hlen) hl.1 (by simp [aV, va_rf]) (lv_room (by rw [cat_sum]; exact hsum)) hd ⟨hc1, hc2⟩) kk
end VCC
/-! ROWS: switches, copies, things made (written by wip/whole/gen_more.py) -/
set_option maxRecDepth 20000 in
theorem oiX11_1 : Cond.methodLink RX11 1 objectInit ∈ tblG := tb_in (t1_in (List.mem_of_getElem? (i := 27) rfl)) rfl
set_option maxRecDepth 20000 in
theorem oiX6_3 : Cond.methodLink RX6 3 objectInit ∈ tblG := tb_in (t1_in (List.mem_of_getElem? (i := 35) rfl)) rfl
set_option maxRecDepth 20000 in
theorem oiX8_3 : Cond.methodLink RX8 3 objectInit ∈ tblG := tb_in (t1_in (List.mem_of_getElem? (i := 100) rfl)) rfl
set_option maxRecDepth 20000 in
theorem oiX4_3 : Cond.methodLink RX4 3 objectInit ∈ tblG := tb_in (t1_in (List.mem_of_getElem? (i := 124) rfl)) rfl
set_option maxRecDepth 20000 in
theorem oiX2_3 : Cond.methodLink RX2 3 objectInit ∈ tblG := tb_in (t1_in (List.mem_of_getElem? (i := 178) rfl)) rfl
set_option maxRecDepth 20000 in
theorem oiX1_3 : Cond.methodLink RX1 3 objectInit ∈ tblG := tb_in (t1_in (List.mem_of_getElem? (i := 197) rfl)) rfl
set_option maxRecDepth 20000 in
theorem oiX9_3 : Cond.methodLink RX9 3 objectInit ∈ tblG := tb_in (t1_in (List.mem_of_getElem? (i := 230) rfl)) rfl
set_option maxRecDepth 20000 in
theorem oiX10_3 : Cond.methodLink RX10 3 objectInit ∈ tblG := tb_in (t2_in (List.mem_of_getElem? (i := 9) rfl)) rfl
set_option maxRecDepth 20000 in
theorem oiX7_3 : Cond.methodLink RX7 3 objectInit ∈ tblG := tb_in (t2_in (List.mem_of_getElem? (i := 46) rfl)) rfl
set_option maxRecDepth 20000 in
theorem oiX0_3 : Cond.methodLink RX0 3 objectInit ∈ tblG := tb_in (t2_in (List.mem_of_getElem? (i := 89) rfl)) rfl
set_option maxRecDepth 20000 in
theorem oiX3_3 : Cond.methodLink RX3 3 objectInit ∈ tblG := tb_in (t2_in (List.mem_of_getElem? (i := 112) rfl)) rfl
set_option maxRecDepth 20000 in
theorem acJ7_150 : Cond.methodLink RJ7 150 arraycopyName ∈ tblG := tb_in (t3_in (List.mem_of_getElem? (i := 203) rfl)) rfl
set_option maxRecDepth 20000 in
theorem oiX5_3 : Cond.methodLink RX5 3 objectInit ∈ tblG := tb_in (t3_in (List.mem_of_getElem? (i := 209) rfl)) rfl
set_option maxRecDepth 20000 in
theorem acX8_18 : Cond.methodLink RX8 18 arraycopyName ∈ tblG := tb_in (t4_in (List.mem_of_getElem? (i := 12) rfl)) rfl
set_option maxRecDepth 20000 in
theorem acX7_110 : Cond.methodLink RX7 110 arraycopyName ∈ tblG := tb_in (t5_in (List.mem_of_getElem? (i := 146) rfl)) rfl
set_option maxRecDepth 20000 in
theorem acX6_46 : Cond.methodLink RX6 46 arraycopyName ∈ tblG := tb_in (t6_in (List.mem_of_getElem? (i := 59) rfl)) rfl
set_option maxRecDepth 20000 in
theorem oiX12_1 : Cond.methodLink RX12 1 objectInit ∈ tblG := tb_in (t6_in (List.mem_of_getElem? (i := 77) rfl)) rfl
set_option maxRecDepth 20000 in
theorem ac_nat : Cond.native arraycopyName ∈ tblG := tb_in (t3_in (List.mem_of_getElem? (i := 205) rfl)) rfl
set_option maxRecDepth 20000 in
theorem ac_st : Cond.static arraycopyName ∈ tblG := tb_in (t3_in (List.mem_of_getElem? (i := 204) rfl)) rfl
set_option maxRecDepth 20000 in
theorem ac_ini : Cond.initialized "java/lang/System" ∈ tblG := tb_in (t1_in (List.mem_of_getElem? (i := 20) rfl)) rfl
set_option maxRecDepth 20000 in
theorem oi_in : Cond.instanceMethod objectInit ∈ tblG := tb_in (t1_in (List.mem_of_getElem? (i := 28) rfl)) rfl
set_option maxRecDepth 20000 in
theorem oi_code : Cond.code objectInit ⟨#[0xb1]⟩ 1 none ∈ tblG := tb_in (t1_in (List.mem_of_getElem? (i := 29) rfl)) rfl
set_option maxRecDepth 20000 in
theorem ay_I : Cond.arrayClass .int ∈ tblG := tb_in (t1_in (List.mem_of_getElem? (i := 94) rfl)) rfl
set_option maxRecDepth 20000 in
theorem ay_J : Cond.arrayClass .long ∈ tblG := tb_in (t2_in (List.mem_of_getElem? (i := 40) rfl)) rfl
set_option maxRecDepth 20000 in
theorem ay_Z : Cond.arrayClass .boolean ∈ tblG := tb_in (t6_in (List.mem_of_getElem? (i := 223) rfl)) rfl
set_option maxRecDepth 20000 in
theorem clL_7 : Cond.classLink RL 7 RX11 ∈ tblG := tb_in (t1_in (List.mem_of_getElem? (i := 22) rfl)) rfl
set_option maxRecDepth 20000 in
theorem clX11_7 : Cond.classLink RX11 7 RX6 ∈ tblG := tb_in (t1_in (List.mem_of_getElem? (i := 30) rfl)) rfl
set_option maxRecDepth 20000 in
theorem clX6_27 : Cond.classLink RX6 27 RX5 ∈ tblG := tb_in (t1_in (List.mem_of_getElem? (i := 36) rfl)) rfl
set_option maxRecDepth 20000 in
theorem clX11_19 : Cond.classLink RX11 19 RX8 ∈ tblG := tb_in (t1_in (List.mem_of_getElem? (i := 95) rfl)) rfl
set_option maxRecDepth 20000 in
theorem clX11_33 : Cond.classLink RX11 33 RX4 ∈ tblG := tb_in (t1_in (List.mem_of_getElem? (i := 119) rfl)) rfl
set_option maxRecDepth 20000 in
theorem clX11_42 : Cond.classLink RX11 42 RX2 ∈ tblG := tb_in (t1_in (List.mem_of_getElem? (i := 173) rfl)) rfl
set_option maxRecDepth 20000 in
theorem clX11_51 : Cond.classLink RX11 51 RX1 ∈ tblG := tb_in (t1_in (List.mem_of_getElem? (i := 192) rfl)) rfl
set_option maxRecDepth 20000 in
theorem clX11_60 : Cond.classLink RX11 60 RX9 ∈ tblG := tb_in (t1_in (List.mem_of_getElem? (i := 225) rfl)) rfl
set_option maxRecDepth 20000 in
theorem clX11_69 : Cond.classLink RX11 69 RX10 ∈ tblG := tb_in (t2_in (List.mem_of_getElem? (i := 4) rfl)) rfl
set_option maxRecDepth 20000 in
theorem clX11_78 : Cond.classLink RX11 78 RX7 ∈ tblG := tb_in (t2_in (List.mem_of_getElem? (i := 41) rfl)) rfl
set_option maxRecDepth 20000 in
theorem clX11_87 : Cond.classLink RX11 87 RX0 ∈ tblG := tb_in (t2_in (List.mem_of_getElem? (i := 84) rfl)) rfl
set_option maxRecDepth 20000 in
theorem clX11_96 : Cond.classLink RX11 96 RX3 ∈ tblG := tb_in (t2_in (List.mem_of_getElem? (i := 107) rfl)) rfl
set_option maxRecDepth 20000 in
theorem clX4_75 : Cond.classLink RX4 75 RX5 ∈ tblG := tb_in (t3_in (List.mem_of_getElem? (i := 190) rfl)) rfl
set_option maxRecDepth 20000 in
theorem clL_10 : Cond.classLink RL 10 RX12 ∈ tblG := tb_in (t6_in (List.mem_of_getElem? (i := 72) rfl)) rfl
set_option maxRecDepth 20000 in
theorem iaX11 : Cond.instantiable RX11 16 ∈ tblG := tb_in (t1_in (List.mem_of_getElem? (i := 23) rfl)) rfl
set_option maxRecDepth 20000 in
theorem iiX11 : Cond.initialized RX11 ∈ tblG := tb_in (t1_in (List.mem_of_getElem? (i := 1) rfl)) rfl
set_option maxRecDepth 20000 in
theorem iaX6 : Cond.instantiable RX6 12 ∈ tblG := tb_in (t1_in (List.mem_of_getElem? (i := 31) rfl)) rfl
set_option maxRecDepth 20000 in
theorem iiX6 : Cond.initialized RX6 ∈ tblG := tb_in (t1_in (List.mem_of_getElem? (i := 2) rfl)) rfl
set_option maxRecDepth 20000 in
theorem iaX8 : Cond.instantiable RX8 4 ∈ tblG := tb_in (t1_in (List.mem_of_getElem? (i := 96) rfl)) rfl
set_option maxRecDepth 20000 in
theorem iiX8 : Cond.initialized RX8 ∈ tblG := tb_in (t1_in (List.mem_of_getElem? (i := 4) rfl)) rfl
set_option maxRecDepth 20000 in
theorem iaX4 : Cond.instantiable RX4 15 ∈ tblG := tb_in (t1_in (List.mem_of_getElem? (i := 120) rfl)) rfl
set_option maxRecDepth 20000 in
theorem iiX4 : Cond.initialized RX4 ∈ tblG := tb_in (t1_in (List.mem_of_getElem? (i := 5) rfl)) rfl
set_option maxRecDepth 20000 in
theorem iaX2 : Cond.instantiable RX2 4 ∈ tblG := tb_in (t1_in (List.mem_of_getElem? (i := 174) rfl)) rfl
set_option maxRecDepth 20000 in
theorem iiX2 : Cond.initialized RX2 ∈ tblG := tb_in (t1_in (List.mem_of_getElem? (i := 6) rfl)) rfl
set_option maxRecDepth 20000 in
theorem iaX1 : Cond.instantiable RX1 5 ∈ tblG := tb_in (t1_in (List.mem_of_getElem? (i := 193) rfl)) rfl
set_option maxRecDepth 20000 in
theorem iiX1 : Cond.initialized RX1 ∈ tblG := tb_in (t1_in (List.mem_of_getElem? (i := 7) rfl)) rfl
set_option maxRecDepth 20000 in
theorem iaX9 : Cond.instantiable RX9 4 ∈ tblG := tb_in (t1_in (List.mem_of_getElem? (i := 226) rfl)) rfl
set_option maxRecDepth 20000 in
theorem iiX9 : Cond.initialized RX9 ∈ tblG := tb_in (t1_in (List.mem_of_getElem? (i := 8) rfl)) rfl
set_option maxRecDepth 20000 in
theorem iaX10 : Cond.instantiable RX10 8 ∈ tblG := tb_in (t2_in (List.mem_of_getElem? (i := 5) rfl)) rfl
set_option maxRecDepth 20000 in
theorem iiX10 : Cond.initialized RX10 ∈ tblG := tb_in (t1_in (List.mem_of_getElem? (i := 9) rfl)) rfl
set_option maxRecDepth 20000 in
theorem iaX7 : Cond.instantiable RX7 11 ∈ tblG := tb_in (t2_in (List.mem_of_getElem? (i := 42) rfl)) rfl
set_option maxRecDepth 20000 in
theorem iiX7 : Cond.initialized RX7 ∈ tblG := tb_in (t1_in (List.mem_of_getElem? (i := 10) rfl)) rfl
set_option maxRecDepth 20000 in
theorem iaX0 : Cond.instantiable RX0 5 ∈ tblG := tb_in (t2_in (List.mem_of_getElem? (i := 85) rfl)) rfl
set_option maxRecDepth 20000 in
theorem iiX0 : Cond.initialized RX0 ∈ tblG := tb_in (t1_in (List.mem_of_getElem? (i := 11) rfl)) rfl
set_option maxRecDepth 20000 in
theorem iaX3 : Cond.instantiable RX3 6 ∈ tblG := tb_in (t2_in (List.mem_of_getElem? (i := 108) rfl)) rfl
set_option maxRecDepth 20000 in
theorem iiX3 : Cond.initialized RX3 ∈ tblG := tb_in (t1_in (List.mem_of_getElem? (i := 12) rfl)) rfl
set_option maxRecDepth 20000 in
theorem iaX5 : Cond.instantiable RX5 4 ∈ tblG := tb_in (t3_in (List.mem_of_getElem? (i := 191) rfl)) rfl
set_option maxRecDepth 20000 in
theorem iiX5 : Cond.initialized RX5 ∈ tblG := tb_in (t1_in (List.mem_of_getElem? (i := 19) rfl)) rfl
set_option maxRecDepth 20000 in
theorem iaX12 : Cond.instantiable RX12 47 ∈ tblG := tb_in (t6_in (List.mem_of_getElem? (i := 73) rfl)) rfl
set_option maxRecDepth 20000 in
theorem iiX12 : Cond.initialized RX12 ∈ tblG := tb_in (t1_in (List.mem_of_getElem? (i := 13) rfl)) rfl
set_option maxRecDepth 20000 in
theorem cl_same : Cond.sameMethod "[I" "java/lang/Object" "clone" "()Ljava/lang/Object;" ∈ tblG := tb_in (t3_in (List.mem_of_getElem? (i := 196) rfl)) rfl
set_option maxRecDepth 20000 in
theorem cl_nat : Cond.native ⟨"java/lang/Object", "clone", "()Ljava/lang/Object;"⟩ ∈ tblG := tb_in (t3_in (List.mem_of_getElem? (i := 197) rfl)) rfl
set_option maxRecDepth 20000 in
theorem cl_inst : Cond.instanceMethod ⟨"java/lang/Object", "clone", "()Ljava/lang/Object;"⟩ ∈ tblG := tb_in (t3_in (List.mem_of_getElem? (i := 198) rfl)) rfl
set_option maxRecDepth 20000 in
theorem cl_sel : Cond.selects "[I" ⟨"[I", "clone", "()Ljava/lang/Object;"⟩ ⟨"java/lang/Object", "clone", "()Ljava/lang/Object;"⟩ ∈ tblG := tb_in (t3_in (List.mem_of_getElem? (i := 199) rfl)) rfl
set_option maxRecDepth 20000 in
theorem cl_lk : Cond.methodLink RJ7 316 ⟨"[I", "clone", "()Ljava/lang/Object;"⟩ ∈ tblG := tb_in (t3_in (List.mem_of_getElem? (i := 195) rfl)) rfl
set_option maxRecDepth 20000 in
theorem cl_ck : Cond.classLink RJ7 317 "[I" ∈ tblG := tb_in (t3_in (List.mem_of_getElem? (i := 201) rfl)) rfl
/-- a copy of ints from one row to another -/
def cpI (M : Mem) (k2 k1 dp sp n : Nat) : Mem := (M.1, fun a b => if a = k2 ∧ dp ≤ b ∧ b < dp + n then mI M k1 (sp + (b - dp)) else mI M a b, M.2.2)
theorem mI_cpI (M : Mem) (k2 k1 dp sp n a b : Nat) : mI (cpI M k2 k1 dp sp n) a b = if a = k2 ∧ dp ≤ b ∧ b < dp + n then mI M k1 (sp + (b - dp)) else mI M a b := rfl
theorem okM_cpI {M : Mem} {k2 k1 dp sp n : Nat} (h : okM M) : okM (cpI M k2 k1 dp sp n) := by
  intro a b
  refine ⟨?_, (h a b).2.1, (h a b).2.2⟩
  rw [mI_cpI]
  split
  · exact (h _ _).1
  · exact (h a b).1
/-- a new cell at the end, empty -/
def mkC (M : Mem) (sh : Sh) : Mem := (M.1 ++ [sh], fun a b => if a = M.1.length then 0 else mI M a b, fun a b => if a = M.1.length then 0 else mJ M a b, fun a b => if a = M.1.length then none else mR M a b)
theorem mI_mkC (M : Mem) (sh : Sh) (a b : Nat) : mI (mkC M sh) a b = if a = M.1.length then 0 else mI M a b := rfl
theorem mJ_mkC (M : Mem) (sh : Sh) (a b : Nat) : mJ (mkC M sh) a b = if a = M.1.length then 0 else mJ M a b := rfl
theorem mR_mkC (M : Mem) (sh : Sh) (a b : Nat) : mR (mkC M sh) a b = if a = M.1.length then none else mR M a b := rfl
theorem mkC_len (M : Mem) (sh : Sh) : (mkC M sh).1.length = M.1.length + 1 := by show (M.1 ++ [sh]).length = _; simp
theorem okM_mkC {M : Mem} {sh : Sh} (h : okM M) : okM (mkC M sh) := by
  intro a b
  rw [mI_mkC, mJ_mkC, mR_mkC, mkC_len]
  by_cases e : a = M.1.length
  · rw [if_pos e, if_pos e, if_pos e]
    exact ⟨inI_0, ⟨by decide, by decide⟩, fun r hr => by cases hr⟩
  · rw [if_neg e, if_neg e, if_neg e]
    exact ⟨(h a b).1, (h a b).2.1, fun r hr => Nat.lt_succ_of_lt ((h a b).2.2 r hr)⟩
theorem map_ext {ad ad' : Nat → Nat} {n : Nat} {r : Option Nat} (hr : ∀ x, r = some x → x < n) (h : ∀ k, k < n → ad' k = ad k) : r.map ad' = r.map ad := by
  cases r with
  | none => rfl
  | some x => show some _ = some _; rw [h x (hr x rfl)]
theorem cellW_ext {dA : Nat → ClassId} {ad ad' : Nat → Nat} {M M' : Mem} {k n : Nat} (h1 : ∀ j, mI M' k j = mI M k j) (h2 : ∀ j, mJ M' k j = mJ M k j) (h3 : ∀ j, mR M' k j = mR M k j) (hr : ∀ j x, mR M k j = some x → x < n) (h : ∀ k, k < n → ad' k = ad k) (sh : Sh) : cellW dA ad' M' k sh = cellW dA ad M k sh := by
  have e : ∀ j, (mR M' k j).map ad' = (mR M k j).map ad := fun j => by rw [h3 j]; exact map_ext (hr j) h
  rcases sh with ci | ⟨t, q⟩
  · show Sum.inr (ci, flC ad' M' k ci) = Sum.inr (ci, flC ad M k ci)
    unfold flC
    rw [List.map_congr_left (fun j _ => (by unfold fV; rw [h1 j, h2 j, e j] : fV ad' M' k j (tyC ci j) = fV ad M k j (tyC ci j)))]
  · show Sum.inl (dA t, q, arA ad' M' k t) = Sum.inl (dA t, q, arA ad M k t)
    unfold arA
    simp only [h1, h2, e]
theorem wld_mkC {dA : Nat → ClassId} {ad : Nat → Nat} {M : Mem} {sh : Sh} {q : Nat} {e : va_E} (h : okM M) (he : cellW dA (va_up ad M.1.length q) (mkC M sh) M.1.length sh = e) : wld dA (va_up ad M.1.length q) (mkC M sh) = wld dA ad M ++ [(q, e)] := by
  apply List.ext_getElem?
  intro i
  by_cases hi : i < M.1.length
  · rw [List.getElem?_append_left (by rw [wld_len]; exact hi)]
    have hs : M.1[i]? = some M.1[i] := List.getElem?_eq_getElem hi
    have hs2 : (mkC M sh).1[i]? = some M.1[i] := by show (M.1 ++ [sh])[i]? = _; rw [List.getElem?_append_left hi]; exact hs
    have hne : ¬ i = M.1.length := by omega
    rw [wld_at hs, wld_at hs2]
    rw [cellW_ext (M := M) (n := M.1.length) (fun j => by rw [mI_mkC, if_neg hne]) (fun j => by rw [mJ_mkC, if_neg hne]) (fun j => by rw [mR_mkC, if_neg hne]) (fun j x hx => (h i j).2.2 x hx) (fun k hk => by unfold va_up; rw [if_neg (by omega)])]
    unfold va_up
    rw [if_neg hne]
  · rw [List.getElem?_append_right (by rw [wld_len]; omega), wld_len]
    by_cases hi2 : i = M.1.length
    · subst hi2
      have hs2 : (mkC M sh).1[M.1.length]? = some sh := by show (M.1 ++ [sh])[M.1.length]? = _; simp
      rw [wld_at hs2, he, Nat.sub_self]
      unfold va_up
      rw [if_pos rfl]
      rfl
    · rw [List.getElem?_eq_none (by rw [wld_len, mkC_len]; omega), List.getElem?_eq_none (by simp; omega)]
theorem okS_mk {S S' : List Sh} (h : S.length ≤ S'.length) {st : List AV} (hst : okS S st) : okS S' st := fun v hv => by
  have := hst v hv
  rcases v with x | x | q
  · exact this
  · exact this
  · cases q with
    | none => trivial
    | some k => exact Nat.lt_of_lt_of_le this h
theorem okL_mk {S S' : List Sh} (h : S.length ≤ S'.length) {L : List (Option AV)} (hL : okL S L) : okL S' L := fun i v hv => by
  have := hL i v hv
  rcases v with x | x | q
  · exact this
  · exact this
  · cases q with
    | none => trivial
    | some k => exact Nat.lt_of_lt_of_le this h
theorem vcl_kinds (ci j : Nat) (q : vw_C) (h : vwCl[ci]? = some q) (hj : j < q.2.2) : kindT (tyC ci j) ≠ 4 := by
  have key : ∀ c, c < 13 → ∀ j, j < 47 → kindT (tyC c j) ≠ 4 := by decide +kernel
  have h1 : ci < 13 := (List.getElem?_eq_some_iff.mp h).1
  have h2 : q.2.2 ≤ 47 := by
    have key2 : ∀ r ∈ vwCl, r.2.2 ≤ 47 := by decide
    exact key2 q (List.mem_of_getElem? h)
  exact key ci h1 j (by omega)
section VCM
variable {l : Launch} {D : MD} {pc pc' tgt : Nat} {L L' : List (Option AV)} {st : List AV} {M : Mem} {kc ks : Nat} {Q : Option AV → Mem → Prop}
theorem vc_tabOut {x dflt lo hi : Int} {offs : Array Int} {len : Nat} (hd : At (mB D) pc (.tableswitch dflt lo hi offs) len pc') (tgt : Nat) (h : x < lo ∨ hi < x) (ht : (pc : Int) + dflt = (tgt : Int)) (k : VC l D tgt L st M kc ks Q) : VC l D pc L (aI x :: st) M kc ks Q := by
  intro p e s m args below meth c dC dI dA ad0 n0 A ad H locs ls C hA h0 hn hst hL hW hS hl
  obtain ⟨hx, hst⟩ := okS_cons.mp hst
  exact lv_tableOut C.1 C.2.1 hd.1 (by rw [oI_id hx]; exact h) ht (k p e s m args below meth c dC dI dA ad0 n0 A ad H locs ls C hA h0 hn hst hL hW hS hl)
theorem vc_tabIn {x dflt lo hi off : Int} {offs : Array Int} {len : Nat} (hd : At (mB D) pc (.tableswitch dflt lo hi offs) len pc') (v : Int) (tgt : Nat) (hv : x = v) (h1 : (decide (lo ≤ v) && decide (v ≤ hi)) = true) (ho : offs[(v - lo).toNat]? = some off) (ht : (pc : Int) + off = (tgt : Int)) (k : VC l D tgt L st M kc ks Q) : VC l D pc L (aI x :: st) M kc ks Q := by
  subst hv
  simp only [Bool.and_eq_true, decide_eq_true_eq] at h1
  intro p e s m args below meth c dC dI dA ad0 n0 A ad H locs ls C hA h0 hn hst hL hW hS hl
  obtain ⟨hx, hst⟩ := okS_cons.mp hst
  exact lv_tableIn C.1 C.2.1 hd.1 (by rw [oI_id hx]; omega) (by rw [oI_id hx]; omega) (by rw [oI_id hx]; exact ho) ht (k p e s m args below meth c dC dI dA ad0 n0 A ad H locs ls C hA h0 hn hst hL hW hS hl)
theorem vc_acopy {idx k1 k2 n1 n2 : Nat} {sp dp n : Int} (hd : At (mB D) pc (.invokestatic idx) 3 pc') (hlk : Cond.methodLink (mY D).cls idx arraycopyName ∈ tblG) (hs1 : M.1[k1]? = some (.inr (0, n1))) (hs2 : M.1[k2]? = some (.inr (0, n2))) (h1 : 0 ≤ sp) (h2 : 0 ≤ dp) (h3 : 0 ≤ n) (h4 : sp + n ≤ n1) (h5 : dp + n ≤ n2) (hsum : (st.map catA).sum ≤ 8) (k : VC l D pc' L st (cpI M k2 k1 dp.toNat sp.toNat n.toNat) kc ks Q) : VC l D pc L (aI n :: aI dp :: aR k2 :: aI sp :: aR k1 :: st) M kc ks Q := by
  intro p e s m args below meth c dC dI dA ad0 n0 A ad H locs ls C hA h0 hn hst hL hW hS hl
  obtain ⟨hd, rfl⟩ := hd
  obtain ⟨hx3, hst⟩ := okS_cons.mp hst
  obtain ⟨hx2, hst⟩ := okS_cons.mp hst
  obtain ⟨_, hst⟩ := okS_cons.mp hst
  obtain ⟨hx1, hst⟩ := okS_cons.mp hst
  obtain ⟨_, hst⟩ := okS_cons.mp hst
  have hts := C.2.2.2.2.2.2.1
  refine va_copyi (sp := Int32.ofInt sp) (dp := Int32.ofInt dp) (n := Int32.ofInt n) C.1 C.2.1 (by rw [C.2.2.2.2.1]; exact hl.1.symm) C.2.2.2.2.2.1 (hts _ hlk) (hts _ ac_nat) (hts _ ac_st) (hts _ ac_ini) C.2.2.2.2.2.2.2.1 hW.2.1 hW.2.2 hS k1 k2 0 0 (wld_at hs1) (wld_at hs2) rfl rfl rfl (fun h => by rw [oI_0, oI_lt hx1 inI_0] at h; omega) (fun h => by rw [oI_0, oI_lt hx2 inI_0] at h; omega) (fun h => by rw [oI_0, oI_lt hx3 inI_0] at h; omega) ?_ ?_ (fun _ _ => rfl) (Nat.succ_le_succ (Nat.zero_le _)) ?_ hd ?_
  · rw [oI_nat hx1 h1, oI_nat hx3 h3]; omega
  · rw [oI_nat hx2 h2, oI_nat hx3 h3]; omega
  · rw [cat_sum]
    have : nativeFrameWords "java/lang/System" "arraycopy" 5 ≤ 20 := by decide +kernel
    show _ ≤ 64 * mV D + 64
    omega
  · rw [oI_nat hx1 h1, oI_nat hx2 h2, oI_nat hx3 h3]
    intro H1 locs1 hP1 hD1 hS1
    have ew : wld dA ad (cpI M k2 k1 dp.toNat sp.toNat n.toNat) = (wld dA ad M).set k2 (ad k2, .inl (dA 0, n2, .inl (va_cpy (fun i => Int32.ofInt (mI M k1 i)) (fun i => Int32.ofInt (mI M k2 i)) sp.toNat dp.toNat n.toNat))) := by
      refine wld_upd rfl hs2 (fun a b h => by rw [mI_cpI, if_neg (fun q => h q.1)]) (fun _ _ _ => rfl) (fun _ _ _ => rfl) ?_
      show Sum.inl (dA 0, n2, Sum.inl (fun i => Int32.ofInt (mI (cpI M k2 k1 dp.toNat sp.toNat n.toNat) k2 i))) = _
      congr 4
      funext i
      unfold va_cpy
      rw [mI_cpI]
      by_cases h : dp.toNat ≤ i ∧ i < dp.toNat + n.toNat
      · rw [if_pos ⟨rfl, h⟩, if_pos h]
      · rw [if_neg (fun q => h q.2), if_neg h]
    rw [← ew] at hP1 hD1
    exact k p e s m args below meth c dC dI dA ad0 n0 A ad H1 locs1 ls C hA h0 hn hst hL ⟨okM_cpI hW.1, hP1, hD1⟩ hS1 hl
theorem vc_objInit {idx k : Nat} (hd : At (mB D) pc (.invokespecial idx) 3 pc') (hlk : Cond.methodLink (mY D).cls idx objectInit ∈ tblG) (hsum : (st.map catA).sum ≤ 8) (kk : VC l D pc' L st M kc ks Q) : VC l D pc L (aR k :: st) M kc ks Q := by
  intro p e s m args below meth c dC dI dA ad0 n0 A ad H locs ls C hA h0 hn hst hL hW hS hl
  obtain ⟨hd, rfl⟩ := hd
  obtain ⟨_, hst⟩ := okS_cons.mp hst
  have hts := C.2.2.2.2.2.2.1
  refine W.objInit (g := F0 m pc ls ((aR k :: st).map (aV ad))) (rest := st.map (aV ad)) C.1 C.2.1 C.2.2.2.2.2.1 (hts _ hlk) (hts _ oi_in) (hts _ oi_code) rfl (hl.1.trans C.2.2.2.2.1.symm) rfl hd (Nat.succ_le_succ (Nat.zero_le _)) ?_ (kk p e s m args below meth c dC dI dA ad0 n0 A ad H locs ls C hA h0 hn hst hL hW hS hl)
  have h1 := lv_room (m := m) (pc := pc) (ls := ls) (rest := (aR k :: st).map (aV ad)) (st := st.map (aV ad)) (by rw [cat_sum]; exact hsum)
  show _ ≤ 64 * mV D + 64
  omega
theorem vc_new {idx ci : Nat} {CC : String} {T : u_T} {N : Nat} (hd : At (mB D) pc (.new idx) 3 pc') (hci : vwCl[ci]? = some (CC, T, N)) (hlk : Cond.classLink (mY D).cls idx CC ∈ tblG) (hins : Cond.instantiable CC N ∈ tblG) (hini : Cond.initialized CC ∈ tblG) (h1 : kc + 1 ≤ mC D) (h2 : ks + N ≤ mS D) (kk : VC l D pc' L (aR M.1.length :: st) (mkC M (.inl ci)) (kc + 1) (ks + N) Q) : VC l D pc L st M kc ks Q := by
  intro p e s m args below meth c dC dI dA ad0 n0 A ad H locs ls C hA h0 hn hst hL hW hS hl
  obtain ⟨hd, rfl⟩ := hd
  obtain ⟨c1, c2, c3, c4⟩ := clsOk ci _ hci
  have hts := C.2.2.2.2.2.2.1
  refine va_new (ci := ci) (fs := flC (va_up ad M.1.length 0) (mkC M (.inl ci)) M.1.length ci) C.1 C.2.1 hts c1 (tyC ci) c2 C.2.2.2.2.2.1 (hts _ hlk) (hts _ hins) (hts _ hini) C.2.2.2.2.2.2.2.1 hW.2.1 hW.2.2 hS hA hci ?_ h1 h2 hd ?_
  · intro j hj
    unfold vp_V
    rw [List.getD_eq_getElem?_getD, flC_at (by rw [c3]; exact hj)]
    show _ = fV _ _ _ _ _
    unfold fV
    rw [mI_mkC, mJ_mkC, mR_mkC, if_pos rfl, if_pos rfl, if_pos rfl]
    have hty : ∀ t : FieldType, parseFieldDescriptor (T j).2.2.1 = some t → t = tyC ci j := fun t ht => Option.some.inj (ht.symm.trans (c2 j hj))
    have hk : kindT (tyC ci j) ≠ 4 := vcl_kinds ci j _ hci hj
    cases hh : tyC ci j <;> first | rfl | (rw [hh] at hk; exact absurd rfl hk)
  · intro q H1 hP1 hD1 hS1
    have ec : cellW dA (va_up ad M.1.length q) (mkC M (.inl ci)) M.1.length (.inl ci) = .inr (ci, flC (va_up ad M.1.length 0) (mkC M (.inl ci)) M.1.length ci) := by
      show Sum.inr (ci, flC (va_up ad M.1.length q) (mkC M (.inl ci)) M.1.length ci) = _
      unfold flC
      rw [List.map_congr_left (fun j _ => (by unfold fV; rw [mR_mkC, if_pos rfl]; rfl : fV (va_up ad M.1.length q) (mkC M (.inl ci)) M.1.length j (tyC ci j) = fV (va_up ad M.1.length 0) (mkC M (.inl ci)) M.1.length j (tyC ci j)))]
    rw [← wld_mkC hW.1 ec] at hP1 hD1
    have hext : ∀ k, k < M.1.length → va_up ad M.1.length q k = ad k := fun k hk => by unfold va_up; rw [if_neg (by omega)]
    have hlen : M.1.length ≤ (mkC M (.inl ci)).1.length := by rw [mkC_len]; omega
    have k2 := kk p e s m args below meth c dC dI dA ad0 n0 A (va_up ad M.1.length q) H1 locs ls C hA (fun k hk => (hext k (by omega)).trans (h0 k hk)) (Nat.le_trans hn hlen) (okS_cons.mpr ⟨(by show M.1.length < (mkC M (.inl ci)).1.length; rw [mkC_len]; omega), okS_mk hlen hst⟩) (okL_mk hlen hL) ⟨okM_mkC hW.1, hP1, hD1⟩ hS1 (lvL_ext hL hext hl)
    have es : (aR M.1.length :: st).map (aV (va_up ad M.1.length q)) = .ref q :: st.map (aV ad) := by
      rw [List.map_cons, stk_ext hst hext]
      show Value.ref (va_up ad M.1.length q M.1.length) :: _ = _
      unfold va_up
      rw [if_pos rfl]
    rw [es] at k2
    exact k2
theorem arr_cls0 {dC : Nat → ClassId} {dI : Nat → Nat → Nat} {dA : Nat → ClassId} {s : State} {cA : ClassId} (h : va_K (dC, dI) vwCl (tysA dA ++ [(cA, .int)]) s) : cA = dA 0 := by
  have h1 : s.vm.findClass ("[" ++ (FieldType.toString .int)) = some cA := (h.2 4 (cA, .int) rfl).2
  have h2 : s.vm.findClass ("[" ++ (FieldType.toString .int)) = some (dA 0) := (h.2 0 (dA 0, .int) rfl).2
  exact Option.some.inj (h1.symm.trans h2)
theorem arr_cls1 {dC : Nat → ClassId} {dI : Nat → Nat → Nat} {dA : Nat → ClassId} {s : State} {cA : ClassId} (h : va_K (dC, dI) vwCl (tysA dA ++ [(cA, .long)]) s) : cA = dA 1 := by
  have h1 : s.vm.findClass ("[" ++ (FieldType.toString .long)) = some cA := (h.2 4 (cA, .long) rfl).2
  have h2 : s.vm.findClass ("[" ++ (FieldType.toString .long)) = some (dA 1) := (h.2 1 (dA 1, .long) rfl).2
  exact Option.some.inj (h1.symm.trans h2)
theorem arr_cls2 {dC : Nat → ClassId} {dI : Nat → Nat → Nat} {dA : Nat → ClassId} {s : State} {cA : ClassId} (h : va_K (dC, dI) vwCl (tysA dA ++ [(cA, .boolean)]) s) : cA = dA 2 := by
  have h1 : s.vm.findClass ("[" ++ (FieldType.toString .boolean)) = some cA := (h.2 4 (cA, .boolean) rfl).2
  have h2 : s.vm.findClass ("[" ++ (FieldType.toString .boolean)) = some (dA 2) := (h.2 2 (dA 2, .boolean) rfl).2
  exact Option.some.inj (h1.symm.trans h2)
theorem arr_clsT {dC : Nat → ClassId} {dI : Nat → Nat → Nat} {dA : Nat → ClassId} {s : State} {cA : ClassId} (h : va_K (dC, dI) vwCl (tysA dA ++ [(cA, tyA 3)]) s) : cA = dA 3 := by
  obtain ⟨_, _, _, _, _, h1⟩ := (h.2 4 (cA, tyA 3) rfl).2
  obtain ⟨_, _, _, _, _, h2⟩ := (h.2 3 (dA 3, tyA 3) rfl).2
  exact Option.some.inj (h1.symm.trans h2)
/-- behind the making of a row -/
theorem mk_row {t N : Nat} {p : Program} {e : Env} {s : State} {m : MethodId} {args : Array Value} {below : List Frame} {meth : Method} {c : Code} {dC : Nat → ClassId} {dI : Nat → Nat → Nat} {dA : Nat → ClassId} {ad0 : Nat → Nat} {n0 : Nat} {A : Nat → Prop} {ad : Nat → Nat} {H H1 : Heap} {locs : List Loc} {ls : Array Slot} {q kc2 ks2 : Nat} {a0 : (Nat → Int32) ⊕ (Nat → Int64) ⊕ (Nat → UInt32) ⊕ (Nat → UInt64) ⊕ (Nat → Option Nat)}
    (C : Cx D p s m args meth c dC dI dA A) (hA : ∀ q, s.heap.size ≤ q → A q) (h0 : ∀ k, k < n0 → ad k = ad0 k) (hn : n0 ≤ M.1.length) (hst : okS M.1 st) (hL : okL M.1 L) (hW : Wd dC dI dA ad A M H) (hl : lv_has ls (mN D) (lvL ad L))
    (ha : ∀ ad2, arA ad2 (mkC M (.inr (t, N))) M.1.length t = a0) (hP1 : va_P (dC, dI) vwCl (wld dA ad M ++ [(q, .inl (dA t, N, a0))]) H1) (hD1 : va_D A (wld dA ad M ++ [(q, .inl (dA t, N, a0))])) (hS1 : va_S A s.heap H1 locs)
    (kk : VC l D pc' L (aR M.1.length :: st) (mkC M (.inr (t, N))) kc2 ks2 Q) : W p l e (rmD D) s m args below meth c H1 locs kc2 ks2 (MQ below (QcA dC dI dA ad0 n0 A Q) args s (mC D) (mS D) A) (F0 m pc' ls (.ref q :: st.map (aV ad))) := by
  have ec : cellW dA (va_up ad M.1.length q) (mkC M (.inr (t, N))) M.1.length (.inr (t, N)) = .inl (dA t, N, a0) := by
    show Sum.inl (dA t, N, arA _ _ _ t) = _
    rw [ha]
  rw [← wld_mkC hW.1 ec] at hP1 hD1
  have hext : ∀ k, k < M.1.length → va_up ad M.1.length q k = ad k := fun k hk => by unfold va_up; rw [if_neg (by omega)]
  have hlen : M.1.length ≤ (mkC M (.inr (t, N))).1.length := by rw [mkC_len]; omega
  have k2 := kk p e s m args below meth c dC dI dA ad0 n0 A (va_up ad M.1.length q) H1 locs ls C hA (fun k hk => (hext k (by omega)).trans (h0 k hk)) (Nat.le_trans hn hlen) (okS_cons.mpr ⟨(by show M.1.length < (mkC M (.inr (t, N))).1.length; rw [mkC_len]; omega), okS_mk hlen hst⟩) (okL_mk hlen hL) ⟨okM_mkC hW.1, hP1, hD1⟩ hS1 (lvL_ext hL hext hl)
  have es : (aR M.1.length :: st).map (aV (va_up ad M.1.length q)) = .ref q :: st.map (aV ad) := by
    rw [List.map_cons, stk_ext hst hext]
    show Value.ref (va_up ad M.1.length q M.1.length) :: _ = _
    unfold va_up
    rw [if_pos rfl]
  rw [es] at k2
  exact k2
theorem vc_newI {n : Int} (hd : At (mB D) pc (.newarray .int) 2 pc') (h0n : 0 ≤ n) (hbig : n ≤ 100000) (h1 : kc + 1 ≤ mC D) (h2 : ks + n.toNat ≤ mS D) (kk : VC l D pc' L (aR M.1.length :: st) (mkC M (.inr (0, n.toNat))) (kc + 1) (ks + n.toNat) Q) : VC l D pc L (aI n :: st) M kc ks Q := by
  intro p e s m args below meth c dC dI dA ad0 n0 A ad H locs ls C hA h0 hn hst hL hW hS hl
  obtain ⟨hd, rfl⟩ := hd
  obtain ⟨hx, hst⟩ := okS_cons.mp hst
  have hts := C.2.2.2.2.2.2.1
  refine va_newa (atype := .int) (ty := .int) (N' := n.toNat) (a0 := (n.toNat, .inl (fun _ => 0))) C.1 C.2.1 (hts _ ay_I) rfl C.2.2.2.2.2.2.2.1 hW.2.1 hW.2.2 hS hA (fun cA => rfl) (fun h => by rw [oI_0, oI_lt hx inI_0] at h; omega) (oI_nat hx h0n) (by show n.toNat * 4 ≤ _; omega) h1 h2 hd ?_
  intro q cA H1 hK1 hP1 hD1 hS1
  have ecA : cA = dA 0 := arr_cls0 hK1
  subst ecA
  exact mk_row (t := 0) C hA h0 hn hst hL hW hl (fun ad2 => by show Sum.inl _ = Sum.inl _; congr 1; funext i; rw [mI_mkC, if_pos rfl]; rfl) hP1 hD1 hS1 kk
theorem vc_newJ {n : Int} (hd : At (mB D) pc (.newarray .long) 2 pc') (h0n : 0 ≤ n) (hbig : n ≤ 100000) (h1 : kc + 1 ≤ mC D) (h2 : ks + n.toNat ≤ mS D) (kk : VC l D pc' L (aR M.1.length :: st) (mkC M (.inr (1, n.toNat))) (kc + 1) (ks + n.toNat) Q) : VC l D pc L (aI n :: st) M kc ks Q := by
  intro p e s m args below meth c dC dI dA ad0 n0 A ad H locs ls C hA h0 hn hst hL hW hS hl
  obtain ⟨hd, rfl⟩ := hd
  obtain ⟨hx, hst⟩ := okS_cons.mp hst
  have hts := C.2.2.2.2.2.2.1
  refine va_newa (atype := .long) (ty := .long) (N' := n.toNat) (a0 := (n.toNat, .inr (.inl (fun _ => 0)))) C.1 C.2.1 (hts _ ay_J) rfl C.2.2.2.2.2.2.2.1 hW.2.1 hW.2.2 hS hA (fun cA => rfl) (fun h => by rw [oI_0, oI_lt hx inI_0] at h; omega) (oI_nat hx h0n) (by show n.toNat * 8 ≤ _; omega) h1 h2 hd ?_
  intro q cA H1 hK1 hP1 hD1 hS1
  have ecA : cA = dA 1 := arr_cls1 hK1
  subst ecA
  exact mk_row (t := 1) C hA h0 hn hst hL hW hl (fun ad2 => by show Sum.inr (Sum.inl _) = Sum.inr (Sum.inl _); congr 2; funext i; rw [mJ_mkC, if_pos rfl]; rfl) hP1 hD1 hS1 kk
theorem vc_newZ {n : Int} (hd : At (mB D) pc (.newarray .boolean) 2 pc') (h0n : 0 ≤ n) (hbig : n ≤ 100000) (h1 : kc + 1 ≤ mC D) (h2 : ks + n.toNat ≤ mS D) (kk : VC l D pc' L (aR M.1.length :: st) (mkC M (.inr (2, n.toNat))) (kc + 1) (ks + n.toNat) Q) : VC l D pc L (aI n :: st) M kc ks Q := by
  intro p e s m args below meth c dC dI dA ad0 n0 A ad H locs ls C hA h0 hn hst hL hW hS hl
  obtain ⟨hd, rfl⟩ := hd
  obtain ⟨hx, hst⟩ := okS_cons.mp hst
  have hts := C.2.2.2.2.2.2.1
  refine va_newa (atype := .boolean) (ty := .boolean) (N' := n.toNat) (a0 := (n.toNat, .inl (fun _ => 0))) C.1 C.2.1 (hts _ ay_Z) rfl C.2.2.2.2.2.2.2.1 hW.2.1 hW.2.2 hS hA (fun cA => rfl) (fun h => by rw [oI_0, oI_lt hx inI_0] at h; omega) (oI_nat hx h0n) (by show n.toNat * 1 ≤ _; omega) h1 h2 hd ?_
  intro q cA H1 hK1 hP1 hD1 hS1
  have ecA : cA = dA 2 := arr_cls2 hK1
  subst ecA
  exact mk_row (t := 2) C hA h0 hn hst hL hW hl (fun ad2 => by show Sum.inl _ = Sum.inl _; congr 1; funext i; rw [mI_mkC, if_pos rfl]; rfl) hP1 hD1 hS1 kk
theorem vc_newT {n : Int} {idx : Nat} (hd : At (mB D) pc (.anewarray idx) 3 pc') (hlk : Cond.classLink (mY D).cls idx RX5 ∈ tblG) (h0n : 0 ≤ n) (hbig : n ≤ 100000) (h1 : kc + 1 ≤ mC D) (h2 : ks + n.toNat ≤ mS D) (kk : VC l D pc' L (aR M.1.length :: st) (mkC M (.inr (3, n.toNat))) (kc + 1) (ks + n.toNat) Q) : VC l D pc L (aI n :: st) M kc ks Q := by
  intro p e s m args below meth c dC dI dA ad0 n0 A ad H locs ls C hA h0 hn hst hL hW hS hl
  obtain ⟨hd, rfl⟩ := hd
  obtain ⟨hx, hst⟩ := okS_cons.mp hst
  have hts := C.2.2.2.2.2.2.1
  refine va_newq (C := "SecondLeft$Text") (N' := n.toNat) C.1 C.2.1 C.2.2.2.2.2.1 (hts _ hlk) C.2.2.2.2.2.2.2.2.2.2.1 C.2.2.2.2.2.2.2.1 hW.2.1 hW.2.2 hS hA (fun h => by rw [oI_0, oI_lt hx inI_0] at h; omega) (oI_nat hx h0n) (by omega) h1 h2 hd ?_
  intro q cA H1 hK1 hP1 hD1 hS1
  have ecA : cA = dA 3 := arr_clsT hK1
  subst ecA
  exact mk_row (t := 3) C hA h0 hn hst hL hW hl (fun ad2 => by show Sum.inr (Sum.inr (Sum.inr (Sum.inr _))) = Sum.inr (Sum.inr (Sum.inr (Sum.inr _))); congr 4; funext i; rw [mR_mkC, if_pos rfl]; rfl) hP1 hD1 hS1 kk
theorem vc_aastore {k n : Nat} {i : Int} {r : Option Nat} (hd : At (mB D) pc .aastore 1 pc') (hs : M.1[k]? = some (.inr (3, n))) (h0 : 0 ≤ i) (h1 : i < n) (hr : ∀ x, r = some x → M.1[x]? = some (.inl 5)) (kk : VC l D pc' L st (sR M k i.toNat r) kc ks Q) : VC l D pc L (.inr (.inr r) :: aI i :: aR k :: st) M kc ks Q := by
  intro p e s m args below meth c dC dI dA ad0 n0 A ad H locs ls C hA h0' hn hst hL hW hS hl
  obtain ⟨hd, rfl⟩ := hd
  obtain ⟨hx, hst1⟩ := okS_cons.mp hst
  obtain ⟨hi, hst1⟩ := okS_cons.mp hst1
  obtain ⟨_, hst1⟩ := okS_cons.mp hst1
  have ew : wld dA ad (sR M k i.toNat r) = (wld dA ad M).set k (ad k, .inl (dA 3, n, .inr (.inr (.inr (.inr (fun j => (mR (sR M k i.toNat r) k j).map ad)))))) := wld_upd rfl hs (fun _ _ _ => rfl) (fun _ _ _ => rfl) (fun a b h => by rw [mR_sR, if_neg (ne_and h)]) rfl
  have k2 : ∀ (H1 : Heap) (locs1 : List Loc), va_P (dC, dI) vwCl ((wld dA ad M).set k (ad k, .inl (dA 3, n, .inr (.inr (.inr (.inr (va_up (fun j => (mR M k j).map ad) (Int32.ofInt i).toNatClampNeg (r.map ad)))))))) H1 → va_D A ((wld dA ad M).set k (ad k, .inl (dA 3, n, .inr (.inr (.inr (.inr (va_up (fun j => (mR M k j).map ad) (Int32.ofInt i).toNatClampNeg (r.map ad)))))))) → va_S A s.heap H1 locs1 → W p l e (rmD D) s m args below meth c H1 locs1 kc ks (MQ below (QcA dC dI dA ad0 n0 A Q) args s (mC D) (mS D) A) (F0 m (pc + 1) ls (st.map (aV ad))) := by
    intro H1 locs1 hP1 hD1 hS1
    rw [oI_nat hi h0, ← upd_oR, ← ew] at hP1 hD1
    exact kk p e s m args below meth c dC dI dA ad0 n0 A ad H1 locs1 ls C hA h0' hn hst1 hL ⟨okM_sR hW.1 (fun x hx2 => by subst hx2; exact hx), hP1, hD1⟩ hS1 hl
  cases r with
  | none => exact va_astqN (C := "SecondLeft$Text") C.1 C.2.1 C.2.2.2.2.2.2.2.1 hW.2.1 hW.2.2 hS k 3 (wld_at hs) rfl (oI_in hi h0 h1) hd k2
  | some x => exact va_astq (r := (RX5, TX5, 4)) C.1 C.2.1 C.2.2.2.2.2.2.2.1 hW.2.1 hW.2.2 hS k 3 x 5 (wld_at hs) rfl (wld_at (hr x rfl)) rfl (oI_in hi h0 h1) hd k2
end VCM
/-- a copy of a row of ints as a new cell -/
def clC (M : Mem) (k n : Nat) : Mem := (M.1 ++ [.inr (0, n)], fun a b => if a = M.1.length then mI M k b else mI M a b, fun a b => if a = M.1.length then 0 else mJ M a b, fun a b => if a = M.1.length then none else mR M a b)
theorem mI_clC (M : Mem) (k n a b : Nat) : mI (clC M k n) a b = if a = M.1.length then mI M k b else mI M a b := rfl
theorem mJ_clC (M : Mem) (k n a b : Nat) : mJ (clC M k n) a b = if a = M.1.length then 0 else mJ M a b := rfl
theorem mR_clC (M : Mem) (k n a b : Nat) : mR (clC M k n) a b = if a = M.1.length then none else mR M a b := rfl
theorem clC_len (M : Mem) (k n : Nat) : (clC M k n).1.length = M.1.length + 1 := by show (M.1 ++ [_]).length = _; simp
theorem okM_clC {M : Mem} {k n : Nat} (h : okM M) : okM (clC M k n) := by
  intro a b
  rw [mI_clC, mJ_clC, mR_clC, clC_len]
  by_cases e : a = M.1.length
  · rw [if_pos e, if_pos e, if_pos e]
    exact ⟨(h k b).1, ⟨by decide, by decide⟩, fun r hr => by cases hr⟩
  · rw [if_neg e, if_neg e, if_neg e]
    exact ⟨(h a b).1, (h a b).2.1, fun r hr => Nat.lt_succ_of_lt ((h a b).2.2 r hr)⟩
theorem wld_clC {dA : Nat → ClassId} {ad : Nat → Nat} {M : Mem} {k n q : Nat} (h : okM M) : wld dA (va_up ad M.1.length q) (clC M k n) = wld dA ad M ++ [(q, .inl (dA 0, n, .inl (fun i => Int32.ofInt (mI M k i))))] := by
  apply List.ext_getElem?
  intro i
  by_cases hi : i < M.1.length
  · rw [List.getElem?_append_left (by rw [wld_len]; exact hi)]
    have hs : M.1[i]? = some M.1[i] := List.getElem?_eq_getElem hi
    have hs2 : (clC M k n).1[i]? = some M.1[i] := by show (M.1 ++ [_])[i]? = _; rw [List.getElem?_append_left hi]; exact hs
    have hne : ¬ i = M.1.length := by omega
    rw [wld_at hs, wld_at hs2]
    rw [cellW_ext (M := M) (n := M.1.length) (fun j => by rw [mI_clC, if_neg hne]) (fun j => by rw [mJ_clC, if_neg hne]) (fun j => by rw [mR_clC, if_neg hne]) (fun j x hx => (h i j).2.2 x hx) (fun k hk => by unfold va_up; rw [if_neg (by omega)])]
    unfold va_up
    rw [if_neg hne]
  · rw [List.getElem?_append_right (by rw [wld_len]; omega), wld_len]
    by_cases hi2 : i = M.1.length
    · subst hi2
      have hs2 : (clC M k n).1[M.1.length]? = some (.inr (0, n)) := by show (M.1 ++ [_])[M.1.length]? = _; simp
      rw [wld_at hs2, Nat.sub_self]
      have ec : cellW dA (va_up ad M.1.length q) (clC M k n) M.1.length (.inr (0, n)) = .inl (dA 0, n, .inl (fun i => Int32.ofInt (mI M k i))) := by
        show Sum.inl (dA 0, n, Sum.inl (fun i => Int32.ofInt (mI (clC M k n) M.1.length i))) = _
        congr 4
        funext i
        rw [mI_clC, if_pos rfl]
      rw [ec]
      unfold va_up
      rw [if_pos rfl]
      rfl
    · rw [List.getElem?_eq_none (by rw [wld_len, clC_len]; omega), List.getElem?_eq_none (by simp; omega)]
section VCL
variable {l : Launch} {D : MD} {pc pc' tgt : Nat} {L L' : List (Option AV)} {st : List AV} {M : Mem} {kc ks : Nat} {Q : Option AV → Mem → Prop}
theorem nmI {dC : Nat → ClassId} {dI : Nat → Nat → Nat} {dA : Nat → ClassId} {s : State} (h : va_K (dC, dI) vwCl (tysA dA) s) : s.vm.findClass "[I" = some (dA 0) := (h.2 0 (dA 0, .int) rfl).2
theorem vc_clone {idx k n : Nat} (hd : At (mB D) pc (.invokevirtual idx) 3 pc') (hlk : Cond.methodLink (mY D).cls idx ⟨"[I", "clone", "()Ljava/lang/Object;"⟩ ∈ tblG) (hs : M.1[k]? = some (.inr (0, n))) (h1 : kc + 1 ≤ mC D) (h2 : ks + n ≤ mS D) (hsum : (st.map catA).sum ≤ 8) (kk : VC l D pc' L (aR M.1.length :: st) (clC M k n) (kc + 1) (ks + n) Q) : VC l D pc L (aR k :: st) M kc ks Q := by
  intro p e s m args below meth c dC dI dA ad0 n0 A ad H locs ls C hA h0 hn hst hL hW hS hl
  obtain ⟨hd, rfl⟩ := hd
  obtain ⟨_, hst⟩ := okS_cons.mp hst
  have hts := C.2.2.2.2.2.2.1
  have hK := C.2.2.2.2.2.2.2.1
  refine va_clone (ad := "[I") C.1 C.2.1 (by rw [C.2.2.2.2.1]; exact hl.1.symm) C.2.2.2.2.2.1 (hts _ hlk) (hts _ cl_same) (hts _ cl_nat) (hts _ cl_inst) (hts _ cl_sel) C.2.2.2.2.2.2.2.2.2.2.2.2.2.2 hK hW.2.1 hW.2.2 hS hA k 0 (wld_at hs) (ty := .int) rfl (nmI hK) ?_ (Nat.succ_le_succ (Nat.zero_le _)) ?_ h1 h2 hd ?_
  · intro i v hv
    have h3 : (arrV (dA 0) n (fun j => .int (Int32.ofInt (mI M k j)))).slots[i]? = some v := hv
    by_cases hi : i < n
    · rw [arrV_read _ _ hi] at h3
      cases h3
      rfl
    · rw [Array.getElem?_eq_none (by rw [arrV_size]; omega)] at h3
      cases h3
  · rw [cat_sum]
    show _ ≤ 64 * mV D + 64
    omega
  · intro q H1 hK1 hP1 hD1 hS1
    have hP2 : va_P (dC, dI) vwCl (wld dA (va_up ad M.1.length q) (clC M k n)) H1 := by rw [wld_clC hW.1]; exact hP1
    have hD2 : va_D A (wld dA (va_up ad M.1.length q) (clC M k n)) := by rw [wld_clC hW.1]; exact hD1
    have hext : ∀ k, k < M.1.length → va_up ad M.1.length q k = ad k := fun k hk => by unfold va_up; rw [if_neg (by omega)]
    have hlen : M.1.length ≤ (clC M k n).1.length := by rw [clC_len]; omega
    have k2 := kk p e s m args below meth c dC dI dA ad0 n0 A (va_up ad M.1.length q) H1 locs ls C hA (fun k hk => (hext k (by omega)).trans (h0 k hk)) (Nat.le_trans hn hlen) (okS_cons.mpr ⟨(by show M.1.length < (clC M k n).1.length; rw [clC_len]; omega), okS_mk hlen hst⟩) (okL_mk hlen hL) ⟨okM_clC hW.1, hP2, hD2⟩ hS1 (lvL_ext hL hext hl)
    have es : (aR M.1.length :: st).map (aV (va_up ad M.1.length q)) = .ref q :: st.map (aV ad) := by
      rw [List.map_cons, stk_ext hst hext]
      show Value.ref (va_up ad M.1.length q M.1.length) :: _ = _
      unfold va_up
      rw [if_pos rfl]
    rw [es] at k2
    exact k2
theorem vc_castI {idx k n : Nat} (hd : At (mB D) pc (.checkcast idx) 3 pc') (hlk : Cond.classLink (mY D).cls idx "[I" ∈ tblG) (hs : M.1[k]? = some (.inr (0, n))) (kk : VC l D pc' L (aR k :: st) M kc ks Q) : VC l D pc L (aR k :: st) M kc ks Q := by
  intro p e s m args below meth c dC dI dA ad0 n0 A ad H locs ls C hA h0 hn hst hL hW hS hl
  obtain ⟨hd, rfl⟩ := hd
  exact va_castA C.1 C.2.1 C.2.2.2.2.2.1 (C.2.2.2.2.2.2.1 _ hlk) hW.2.1 k (wld_at hs) (nmI C.2.2.2.2.2.2.2.1) hd (kk p e s m args below meth c dC dI dA ad0 n0 A ad H locs ls C hA h0 hn hst hL hW hS hl)
/-- an answer that is a row -/
theorem vc_arow {r : Option Nat} {ty : FieldType} (hd : At (mB D) pc .areturn 1 pc') (hr : mT D = some (.array ty)) (h1 : kc ≤ mC D) (h2 : ks ≤ mS D) (hq : Q (some (.inr (.inr r))) M) : VC l D pc L [.inr (.inr r)] M kc ks Q := by
  intro p e s m args below meth c dC dI dA ad0 n0 A ad H locs ls C hA h0 hn hst hL hW hS hl
  obtain ⟨hd, rfl⟩ := hd
  obtain ⟨hx, hst⟩ := okS_cons.mp hst
  refine W.widen h1 h2 ?_
  exact W.aret (v := va_rf (r.map ad)) C.1 C.2.1 (C.2.2.1.trans hr) (Or.inr ⟨_, rfl⟩) (by cases r with | none => exact Or.inl rfl | some x => exact Or.inr ⟨_, rfl⟩) (fun t ht hw => ⟨some (.inr (.inr r)), M, ad, rfl, hq, hx, h0, hn, by rw [ht]; exact hW, va_K.moved hw.alike C.2.2.2.2.2.2.2.1, hS.F ht⟩) hS.2.2 hd C.2.2.2.1
end VCL
/-! ROWS with the wrap taken away, calls of methods that answer by a function. -/
theorem dv_e {x y : Int} (hx : inI x) (h0 : 0 ≤ x) (hy : 0 < y) : dvI x y = x / y := by
  unfold dvI
  rw [Int.tdiv_eq_ediv_of_nonneg h0]
  have h1 : x / y ≤ x := Int.ediv_le_self y h0
  have h2 : 0 ≤ x / y := Int.ediv_nonneg h0 (by omega)
  exact wI_id (by omega) (by have := hx.2; omega)
theorem rm_e {x y : Int} (h0 : 0 ≤ x) : rmI x y = x % y := by
  unfold rmI
  exact Int.tmod_eq_emod_of_nonneg h0
theorem dvL_e {x y : Int} (hx : inL x) (h0 : 0 ≤ x) (hy : 0 < y) : dvL x y = x / y := by
  unfold dvL
  rw [Int.tdiv_eq_ediv_of_nonneg h0]
  have h1 : x / y ≤ x := Int.ediv_le_self y h0
  have h2 : 0 ≤ x / y := Int.ediv_nonneg h0 (by omega)
  exact wL_id (by omega) (by have := hx.2; omega)
theorem rmL_e {x y : Int} (h0 : 0 ≤ x) : rmL x y = x % y := by
  unfold rmL
  exact Int.tmod_eq_emod_of_nonneg h0
theorem tn_of {x : Int} : (Int32.ofInt x).toBitVec.toNat = (x % 4294967296).toNat := by
  show (BitVec.ofInt 32 x).toNat = _
  rw [BitVec.toNat_ofInt]
  rfl
theorem and_m {x m : Int} {k : Nat} (hm : m = 2 ^ k) (hk : k < 31) : andI x (m - 1) = x % m := by
  unfold andI
  have hp : (2 : Nat) ^ k < 2 ^ 31 := Nat.pow_lt_pow_right (by decide) hk
  have hp0 : 0 < (2 : Nat) ^ k := Nat.two_pow_pos k
  have hpm : m = ((2 ^ k : Nat) : Int) := by rw [hm]; simp
  have e1 : (Int32.ofInt (m - 1)).toBitVec.toNat = 2 ^ k - 1 := by
    rw [tn_of, Int.emod_eq_of_lt (by omega) (by omega)]
    omega
  rw [pk_and _ k e1, tn_of]
  have e2 : (x % 4294967296).toNat % 2 ^ k = (x % m).toNat := by
    have hd : ((2 ^ k : Nat) : Int) ∣ 4294967296 := by
      have : (2 : Nat) ^ k ∣ 2 ^ 32 := Nat.pow_dvd_pow 2 (by omega)
      exact Int.ofNat_dvd.mpr this
    have h1 : 0 ≤ x % 4294967296 := Int.emod_nonneg _ (by decide)
    have h2 : 0 ≤ x % m := Int.emod_nonneg _ (by omega)
    apply Int.ofNat.inj
    show (((x % 4294967296).toNat % 2 ^ k : Nat) : Int) = ((x % m).toNat : Int)
    rw [Int.natCast_emod, Int.toNat_of_nonneg h1, Int.toNat_of_nonneg h2, hpm, Int.emod_emod_of_dvd _ hd]
  rw [e2]
  have h3 : x % m < m := Int.emod_lt_of_pos _ (by omega)
  have h4 : 0 ≤ x % m := Int.emod_nonneg _ (by omega)
  rw [nI_toInt (by omega)]
  omega
theorem shr_m {x m y : Int} {k : Nat} (hx : inI x) (hm : m = 2 ^ k) (hy : y = k) (hk : k < 32) : shrI x y = x / m := by
  unfold shrI
  subst hy
  have key : ∀ k : Nat, k < 32 → ((Int32.ofInt (k : Int) &&& 31).toBitVec.smod 32).toNat = k := by decide
  rw [pk_shr _ _ k (key k hk), oI_id hx, hm]
  exact Int.shiftRight_eq_div_pow x k
/-- a call that answers v and leaves M2 -/
def Fn (l : Launch) (D : MD) (as : List AV) (M : Mem) (v : Option AV) (M2 : Mem) : Prop := Call l D as M (fun r M' => r = v ∧ M' = M2)
section VCE
variable {l : Launch} {D : MD} {pc pc' tgt : Nat} {L L' : List (Option AV)} {st : List AV} {M : Mem} {kc ks : Nat} {Q : Option AV → Mem → Prop}
theorem vc_topI {x : Int} (y : Int) (h : x = y) (k : VC l D pc L (aI y :: st) M kc ks Q) : VC l D pc L (aI x :: st) M kc ks Q := by subst h; exact k
theorem vc_topL {x : Int} (y : Int) (h : x = y) (k : VC l D pc L (aL y :: st) M kc ks Q) : VC l D pc L (aL x :: st) M kc ks Q := by subst h; exact k
theorem vc_mem (M2 : Mem) (h : M = M2) (k : VC l D pc L st M2 kc ks Q) : VC l D pc L st M kc ks Q := by subst h; exact k
theorem vc_iaddE {x y : Int} (hd : At (mB D) pc .iadd 1 pc') (h1 : -2147483648 ≤ x + y) (h2 : x + y < 2147483648) (k : VC l D pc' L (aI (x + y) :: st) M kc ks Q) : VC l D pc L (aI y :: aI x :: st) M kc ks Q := vc_iadd hd (by rw [wI_id h1 h2]; exact k)
theorem vc_isubE {x y : Int} (hd : At (mB D) pc .isub 1 pc') (h1 : -2147483648 ≤ x - y) (h2 : x - y < 2147483648) (k : VC l D pc' L (aI (x - y) :: st) M kc ks Q) : VC l D pc L (aI y :: aI x :: st) M kc ks Q := vc_isub hd (by rw [wI_id h1 h2]; exact k)
theorem vc_imulE {x y : Int} (hd : At (mB D) pc .imul 1 pc') (h1 : -2147483648 ≤ x * y) (h2 : x * y < 2147483648) (k : VC l D pc' L (aI (x * y) :: st) M kc ks Q) : VC l D pc L (aI y :: aI x :: st) M kc ks Q := vc_imul hd (by rw [wI_id h1 h2]; exact k)
theorem vc_inegE {x : Int} (hd : At (mB D) pc .ineg 1 pc') (h1 : -2147483648 ≤ -x) (h2 : -x < 2147483648) (k : VC l D pc' L (aI (-x) :: st) M kc ks Q) : VC l D pc L (aI x :: st) M kc ks Q := vc_ineg hd (by rw [wI_id h1 h2]; exact k)
theorem vc_lmulE {x y : Int} (hd : At (mB D) pc .lmul 1 pc') (h1 : -9223372036854775808 ≤ x * y) (h2 : x * y < 9223372036854775808) (k : VC l D pc' L (aL (x * y) :: st) M kc ks Q) : VC l D pc L (aL y :: aL x :: st) M kc ks Q := vc_lmul hd (by rw [wL_id h1 h2]; exact k)
theorem vc_l2iE {x : Int} (hd : At (mB D) pc .l2i 1 pc') (h1 : -2147483648 ≤ x) (h2 : x < 2147483648) (k : VC l D pc' L (aI x :: st) M kc ks Q) : VC l D pc L (aL x :: st) M kc ks Q := vc_l2i hd (by rw [wI_id h1 h2]; exact k)
theorem vc_idivE {x y : Int} (hd : At (mB D) pc .idiv 1 pc') (h0 : 0 ≤ x) (hy : 0 < y) (k : VC l D pc' L (aI (x / y) :: st) M kc ks Q) : VC l D pc L (aI y :: aI x :: st) M kc ks Q :=
  vc_ok fun _ hs _ => vc_idiv hd (by omega) (by rw [dv_e (okS_cons.mp (okS_cons.mp hs).2).1 h0 hy]; exact k)
theorem vc_iremE {x y : Int} (hd : At (mB D) pc .irem 1 pc') (h0 : 0 ≤ x) (hy : 0 < y) (k : VC l D pc' L (aI (x % y) :: st) M kc ks Q) : VC l D pc L (aI y :: aI x :: st) M kc ks Q :=
  vc_irem hd (by omega) (by rw [rm_e h0]; exact k)
theorem vc_ldivE {x y : Int} (hd : At (mB D) pc .ldiv 1 pc') (h0 : 0 ≤ x) (hy : 0 < y) (k : VC l D pc' L (aL (x / y) :: st) M kc ks Q) : VC l D pc L (aL y :: aL x :: st) M kc ks Q :=
  vc_ok fun _ hs _ => vc_ldiv hd (by omega) (by rw [dvL_e (okS_cons.mp (okS_cons.mp hs).2).1 h0 hy]; exact k)
theorem vc_lremE {x y : Int} (hd : At (mB D) pc .lrem 1 pc') (h0 : 0 ≤ x) (hy : 0 < y) (k : VC l D pc' L (aL (x % y) :: st) M kc ks Q) : VC l D pc L (aL y :: aL x :: st) M kc ks Q :=
  vc_lrem hd (by omega) (by rw [rmL_e h0]; exact k)
theorem vc_iandM {x y : Int} (hd : At (mB D) pc .iand 1 pc') (m : Int) (e : Nat) (hm : m = 2 ^ e) (he : e < 31) (hy : y = m - 1) (k : VC l D pc' L (aI (x % m) :: st) M kc ks Q) : VC l D pc L (aI y :: aI x :: st) M kc ks Q := vc_iand hd (by rw [hy, and_m hm he]; exact k)
theorem vc_iandW {x y : Int} (hd : At (mB D) pc .iand 1 pc') (m : Int) (e : Nat) (hm : m = 2 ^ e) (he : e < 31) (hy : y = m - 1) (k : VC l D pc' L (aI (x % m) :: st) M kc ks Q) : VC l D pc L (aI y :: aI (wI x) :: st) M kc ks Q := vc_iand hd (by rw [show andI (wI x) y = andI x y by unfold andI; rw [oI_w], hy, and_m hm he]; exact k)
theorem vc_ishrC {x y : Int} (hd : At (mB D) pc .ishr 1 pc') (m : Int) (e : Nat) (hm : m = 2 ^ e) (he : e < 32) (hy : y = e) (k : VC l D pc' L (aI (x / m) :: st) M kc ks Q) : VC l D pc L (aI y :: aI x :: st) M kc ks Q :=
  vc_ok fun _ hs _ => vc_ishr hd (by rw [shr_m (okS_cons.mp (okS_cons.mp hs).2).1 hm hy he]; exact k)
theorem vc_iincE {i : Nat} {n x : Int} (hd : At (mB D) pc (.iinc i n) 3 pc') (hi : L[i]? = some (some (aI x))) (h1 : -2147483648 ≤ x + n) (h2 : x + n < 2147483648) (hn2 : i < mN D) (hf : freeB L i = true) (hL2 : L.set i (some (aI (x + n))) = L') (k : VC l D pc' L' st M kc ks Q) : VC l D pc L st M kc ks Q := vc_iinc hd hi hn2 hf (by rw [wI_id h1 h2]; exact hL2) k
theorem cmp_eq {x y : Int} : cmpL x y = 0 ↔ x = y := by unfold cmpL; split; (constructor <;> intro h <;> omega); split <;> (constructor <;> intro h <;> omega)
theorem cmp_lt {x y : Int} : cmpL x y < 0 ↔ x < y := by unfold cmpL; split; (constructor <;> intro h <;> omega); split <;> (constructor <;> intro h <;> omega)
theorem cmp_le {x y : Int} : cmpL x y ≤ 0 ↔ x ≤ y := by unfold cmpL; split; (constructor <;> intro h <;> omega); split <;> (constructor <;> intro h <;> omega)
theorem cmp_ge {x y : Int} : 0 ≤ cmpL x y ↔ y ≤ x := by unfold cmpL; split; (constructor <;> intro h <;> omega); split <;> (constructor <;> intro h <;> omega)
theorem vc_lif_eq {x y off : Int} {pc1 : Nat} (hd : At (mB D) pc .lcmp 1 pc1) (hd2 : AtB (mB D) pc1 (.ifCond .eq off) off pc' tgt) (kt : x = y → VC l D tgt L st M kc ks Q) (kf : ¬ (x = y) → VC l D pc' L st M kc ks Q) : VC l D pc L (aL y :: aL x :: st) M kc ks Q := vc_lcmp hd (vc_if_eq hd2 (fun h => kt (cmp_eq.mp h)) (fun h => kf (fun e => h (cmp_eq.mpr e))))
theorem vc_lif_lt {x y off : Int} {pc1 : Nat} (hd : At (mB D) pc .lcmp 1 pc1) (hd2 : AtB (mB D) pc1 (.ifCond .lt off) off pc' tgt) (kt : x < y → VC l D tgt L st M kc ks Q) (kf : ¬ (x < y) → VC l D pc' L st M kc ks Q) : VC l D pc L (aL y :: aL x :: st) M kc ks Q := vc_lcmp hd (vc_if_lt hd2 (fun h => kt (cmp_lt.mp h)) (fun h => kf (fun e => h (cmp_lt.mpr e))))
theorem vc_lif_le {x y off : Int} {pc1 : Nat} (hd : At (mB D) pc .lcmp 1 pc1) (hd2 : AtB (mB D) pc1 (.ifCond .le off) off pc' tgt) (kt : x ≤ y → VC l D tgt L st M kc ks Q) (kf : ¬ (x ≤ y) → VC l D pc' L st M kc ks Q) : VC l D pc L (aL y :: aL x :: st) M kc ks Q := vc_lcmp hd (vc_if_le hd2 (fun h => kt (cmp_le.mp h)) (fun h => kf (fun e => h (cmp_le.mpr e))))
theorem vc_lif_ge {x y off : Int} {pc1 : Nat} (hd : At (mB D) pc .lcmp 1 pc1) (hd2 : AtB (mB D) pc1 (.ifCond .ge off) off pc' tgt) (kt : y ≤ x → VC l D tgt L st M kc ks Q) (kf : ¬ (y ≤ x) → VC l D pc' L st M kc ks Q) : VC l D pc L (aL y :: aL x :: st) M kc ks Q := vc_lcmp hd (vc_if_ge hd2 (fun h => kt (cmp_ge.mp h)) (fun h => kf (fun e => h (cmp_ge.mpr e))))
theorem vc_lif_ne {x y off : Int} {pc1 : Nat} (hd : At (mB D) pc .lcmp 1 pc1) (hd2 : AtB (mB D) pc1 (.ifCond .ne off) off pc' tgt) (kt : ¬ x = y → VC l D tgt L st M kc ks Q) (kf : x = y → VC l D pc' L st M kc ks Q) : VC l D pc L (aL y :: aL x :: st) M kc ks Q := vc_lcmp hd (vc_if_ne hd2 (fun h => kt (fun e => h (cmp_eq.mpr e))) (fun h => kf (cmp_eq.mp h)))
variable {D' : MD} {as : List AV} {v : AV} {M2 : Mem}
theorem vc_callVU {idx k ci n : Nat} {T : u_T} {N : Nat} {stk : List AV} (hd : At (mB D) pc (.invokevirtual idx) 3 pc') (hcall : Fn l D' (aR k :: as) M none M2) (hstk : as.reverse ++ aR k :: st = stk) (hm : MOk D' n) (hv : MVi D') (hlk : LkM (mY D).cls idx D') (hs : M.1[k]? = some (.inl ci)) (hci : vwCl[ci]? = some ((mY D').cls, T, N)) (hlen : as.length = n) (hlev : mV D' < mV D) (h0 : mC D' = 0 ∧ mS D' = 0) (hc1 : kc ≤ mC D) (hc2 : ks ≤ mS D) (hsum : (st.map catA).sum ≤ 8) (kk : VC l D pc' L st M2 kc ks Q) : VC l D pc L stk M kc ks Q :=
  vc_callV hd hm hv hlk hs hci hlen hlev (by rw [h0.1]; exact hc1) (by rw [h0.2]; exact hc2) hsum _ hstk hcall (fun r M' h _ => by obtain ⟨rfl, rfl⟩ := h; rw [h0.1, h0.2]; exact kk)
theorem vc_callSF {idx n : Nat} {stk : List AV} (hd : At (mB D) pc (.invokestatic idx) 3 pc') (hcall : Fn l D' (as) M (some v) M2) (hstk : as.reverse ++ st = stk) (hm : MOk D' n) (hv : MSt D') (hlk : LkM (mY D).cls idx D') (hlen : as.length = n) (hlev : mV D' < mV D) (h0 : mC D' = 0 ∧ mS D' = 0) (hc1 : kc ≤ mC D) (hc2 : ks ≤ mS D) (hsum : (st.map catA).sum ≤ 8) (kk : VC l D pc' L (v :: st) M2 kc ks Q) : VC l D pc L stk M kc ks Q :=
  vc_callS hd hm hv hlk hlen hlev (by rw [h0.1]; exact hc1) (by rw [h0.2]; exact hc2) hsum _ hstk hcall (fun r M' h _ => by obtain ⟨rfl, rfl⟩ := h; rw [h0.1, h0.2]; exact kk)
theorem vc_callSU {idx n : Nat} {stk : List AV} (hd : At (mB D) pc (.invokestatic idx) 3 pc') (hcall : Fn l D' (as) M none M2) (hstk : as.reverse ++ st = stk) (hm : MOk D' n) (hv : MSt D') (hlk : LkM (mY D).cls idx D') (hlen : as.length = n) (hlev : mV D' < mV D) (h0 : mC D' = 0 ∧ mS D' = 0) (hc1 : kc ≤ mC D) (hc2 : ks ≤ mS D) (hsum : (st.map catA).sum ≤ 8) (kk : VC l D pc' L st M2 kc ks Q) : VC l D pc L stk M kc ks Q :=
  vc_callS hd hm hv hlk hlen hlev (by rw [h0.1]; exact hc1) (by rw [h0.2]; exact hc2) hsum _ hstk hcall (fun r M' h _ => by obtain ⟨rfl, rfl⟩ := h; rw [h0.1, h0.2]; exact kk)
end VCE
theorem cl_0 : vwCl[0]? = some (RX0, TX0, 5) := rfl
theorem cl_1 : vwCl[1]? = some (RX1, TX1, 5) := rfl
theorem cl_2 : vwCl[2]? = some (RX2, TX2, 4) := rfl
theorem cl_3 : vwCl[3]? = some (RX3, TX3, 6) := rfl
theorem cl_4 : vwCl[4]? = some (RX4, TX4, 15) := rfl
theorem cl_5 : vwCl[5]? = some (RX5, TX5, 4) := rfl
theorem cl_6 : vwCl[6]? = some (RX6, TX6, 12) := rfl
theorem cl_7 : vwCl[7]? = some (RX7, TX7, 11) := rfl
theorem cl_8 : vwCl[8]? = some (RX8, TX8, 4) := rfl
theorem cl_9 : vwCl[9]? = some (RX9, TX9, 4) := rfl
theorem cl_10 : vwCl[10]? = some (RX10, TX10, 8) := rfl
theorem cl_11 : vwCl[11]? = some (RX11, TX11, 16) := rfl
theorem cl_12 : vwCl[12]? = some (RX12, TX12, 47) := rfl
/-! Math.max, Math.min: run by the machine's own entries. -/
section VCMM
variable {l : Launch} {D : MD} {pc pc' tgt : Nat} {L L' : List (Option AV)} {st : List AV} {M : Mem} {kc ks : Nat} {Q : Option AV → Mem → Prop}
def maxZ (x y : Int) : Int := if x < y then y else x
def minZ (x y : Int) : Int := if y < x then y else x
theorem vc_mmaxI {idx : Nat} {x y : Int} (hd : At (mB D) pc (.invokestatic idx) 3 pc') (hlk : LkM (mY D).cls idx mdJ9_max_7cf53) (h1 : kc ≤ mC D) (h2 : ks ≤ mS D) (hsum : (st.map catA).sum ≤ 8) (k : VC l D pc' L (aI (maxZ x y) :: st) M kc ks Q) : VC l D pc L (aI y :: aI x :: st) M kc ks Q := by
  intro p e s m args below meth c dC dI dA ad0 n0 A ad H locs ls C hA h0 hn hst hL hW hS hl
  obtain ⟨hd, rfl⟩ := hd
  obtain ⟨hy, hst⟩ := okS_cons.mp hst
  obtain ⟨hx, hst⟩ := okS_cons.mp hst
  have hts := C.2.2.2.2.2.2.1
  have hr : inI (maxZ x y) := by unfold maxZ; split; exact hy; exact hx
  have k2 := k p e s m args below meth c dC dI dA ad0 n0 A ad H locs ls C hA h0 hn (okS_cons.mpr ⟨hr, hst⟩) hL hW hS hl
  refine va_mmax (x := Int32.ofInt x) (y := Int32.ofInt y) C.1 C.2.1 (by rw [C.2.2.2.2.1]; exact hl.1.symm) C.2.2.2.2.2.1 (hts _ hlk) (hts _ stJ9_max_7cf53) (hts _ okJ9_max_7cf53.2.1) (hts _ okJ9_max_7cf53.1) (Nat.succ_le_succ (Nat.zero_le _)) (by rw [cat_sum]; show _ ≤ 64 * mV D + 64; omega) h1 h2 hd ?_
  have e : (if Int32.ofInt x < Int32.ofInt y then Int32.ofInt y else Int32.ofInt x) = Int32.ofInt (maxZ x y) := by
    unfold maxZ
    by_cases h : x < y
    · rw [if_pos h, if_pos ((oI_lt hx hy).mpr h)]
    · rw [if_neg h, if_neg (fun q => h ((oI_lt hx hy).mp q))]
  rw [e]
  exact k2
theorem vc_mminI {idx : Nat} {x y : Int} (hd : At (mB D) pc (.invokestatic idx) 3 pc') (hlk : LkM (mY D).cls idx mdJ9_min_7cf53) (h1 : kc ≤ mC D) (h2 : ks ≤ mS D) (hsum : (st.map catA).sum ≤ 8) (k : VC l D pc' L (aI (minZ x y) :: st) M kc ks Q) : VC l D pc L (aI y :: aI x :: st) M kc ks Q := by
  intro p e s m args below meth c dC dI dA ad0 n0 A ad H locs ls C hA h0 hn hst hL hW hS hl
  obtain ⟨hd, rfl⟩ := hd
  obtain ⟨hy, hst⟩ := okS_cons.mp hst
  obtain ⟨hx, hst⟩ := okS_cons.mp hst
  have hts := C.2.2.2.2.2.2.1
  have hr : inI (minZ x y) := by unfold minZ; split; exact hy; exact hx
  have k2 := k p e s m args below meth c dC dI dA ad0 n0 A ad H locs ls C hA h0 hn (okS_cons.mpr ⟨hr, hst⟩) hL hW hS hl
  refine va_mmin (x := Int32.ofInt x) (y := Int32.ofInt y) C.1 C.2.1 (by rw [C.2.2.2.2.1]; exact hl.1.symm) C.2.2.2.2.2.1 (hts _ hlk) (hts _ stJ9_min_7cf53) (hts _ okJ9_min_7cf53.2.1) (hts _ okJ9_min_7cf53.1) (Nat.succ_le_succ (Nat.zero_le _)) (by rw [cat_sum]; show _ ≤ 64 * mV D + 64; omega) h1 h2 hd ?_
  have e : (if Int32.ofInt y < Int32.ofInt x then Int32.ofInt y else Int32.ofInt x) = Int32.ofInt (minZ x y) := by
    unfold minZ
    by_cases h : y < x
    · rw [if_pos h, if_pos ((oI_lt hy hx).mpr h)]
    · rw [if_neg h, if_neg (fun q => h ((oI_lt hy hx).mp q))]
  rw [e]
  exact k2
theorem vc_mmaxL {idx : Nat} {x y : Int} (hd : At (mB D) pc (.invokestatic idx) 3 pc') (hlk : LkM (mY D).cls idx mdJ9_max_f86c9) (h1 : kc ≤ mC D) (h2 : ks ≤ mS D) (hsum : (st.map catA).sum ≤ 8) (k : VC l D pc' L (aL (maxZ x y) :: st) M kc ks Q) : VC l D pc L (aL y :: aL x :: st) M kc ks Q := by
  intro p e s m args below meth c dC dI dA ad0 n0 A ad H locs ls C hA h0 hn hst hL hW hS hl
  obtain ⟨hd, rfl⟩ := hd
  obtain ⟨hy, hst⟩ := okS_cons.mp hst
  obtain ⟨hx, hst⟩ := okS_cons.mp hst
  have hts := C.2.2.2.2.2.2.1
  have hr : inL (maxZ x y) := by unfold maxZ; split; exact hy; exact hx
  have k2 := k p e s m args below meth c dC dI dA ad0 n0 A ad H locs ls C hA h0 hn (okS_cons.mpr ⟨hr, hst⟩) hL hW hS hl
  refine va_mmax_long (x := Int64.ofInt x) (y := Int64.ofInt y) C.1 C.2.1 (by rw [C.2.2.2.2.1]; exact hl.1.symm) C.2.2.2.2.2.1 (hts _ hlk) (hts _ stJ9_max_f86c9) (hts _ okJ9_max_f86c9.2.1) (hts _ okJ9_max_f86c9.1) (Nat.succ_le_succ (Nat.zero_le _)) (by rw [cat_sum]; show _ ≤ 64 * mV D + 64; omega) h1 h2 hd ?_
  have e : (if Int64.ofInt y < Int64.ofInt x then Int64.ofInt x else Int64.ofInt y) = Int64.ofInt (maxZ x y) := by
    unfold maxZ
    by_cases h : y < x
    · rw [if_pos ((oL_lt hy hx).mpr h), if_neg (by omega)]
    · rw [if_neg (fun q => h ((oL_lt hy hx).mp q))]
      by_cases h3 : x < y
      · rw [if_pos h3]
      · rw [if_neg h3, show x = y by omega]
  rw [e]
  exact k2
theorem vc_mminL {idx : Nat} {x y : Int} (hd : At (mB D) pc (.invokestatic idx) 3 pc') (hlk : LkM (mY D).cls idx mdJ9_min_f86c9) (h1 : kc ≤ mC D) (h2 : ks ≤ mS D) (hsum : (st.map catA).sum ≤ 8) (k : VC l D pc' L (aL (minZ x y) :: st) M kc ks Q) : VC l D pc L (aL y :: aL x :: st) M kc ks Q := by
  intro p e s m args below meth c dC dI dA ad0 n0 A ad H locs ls C hA h0 hn hst hL hW hS hl
  obtain ⟨hd, rfl⟩ := hd
  obtain ⟨hy, hst⟩ := okS_cons.mp hst
  obtain ⟨hx, hst⟩ := okS_cons.mp hst
  have hts := C.2.2.2.2.2.2.1
  have hr : inL (minZ x y) := by unfold minZ; split; exact hy; exact hx
  have k2 := k p e s m args below meth c dC dI dA ad0 n0 A ad H locs ls C hA h0 hn (okS_cons.mpr ⟨hr, hst⟩) hL hW hS hl
  refine va_mmin_long (x := Int64.ofInt x) (y := Int64.ofInt y) C.1 C.2.1 (by rw [C.2.2.2.2.1]; exact hl.1.symm) C.2.2.2.2.2.1 (hts _ hlk) (hts _ stJ9_min_f86c9) (hts _ okJ9_min_f86c9.2.1) (hts _ okJ9_min_f86c9.1) (Nat.succ_le_succ (Nat.zero_le _)) (by rw [cat_sum]; show _ ≤ 64 * mV D + 64; omega) h1 h2 hd ?_
  have e : (if Int64.ofInt y < Int64.ofInt x then Int64.ofInt y else Int64.ofInt x) = Int64.ofInt (minZ x y) := by
    unfold minZ
    by_cases h : y < x
    · rw [if_pos h, if_pos ((oL_lt hy hx).mpr h)]
    · rw [if_neg h, if_neg (fun q => h ((oL_lt hy hx).mp q))]
  rw [e]
  exact k2
end VCMM
/-! THE STATIC PART of the memory: what the constructors make (written by wip/whole/gen_static.py) -/
def shp0 : List Sh := [.inl 11, .inl 6, .inr (0, 16), .inr (0, 64), .inr (0, 64), .inr (0, 24), .inr (0, 72), .inr (3, 4), .inl 6, .inr (0, 16), .inr (0, 64), .inr (0, 64), .inr (0, 24), .inr (0, 72), .inr (3, 4), .inl 8, .inr (0, 10), .inr (0, 300), .inl 8, .inr (0, 10), .inr (0, 300), .inr (0, 300), .inl 4, .inr (0, 300), .inr (0, 10), .inr (0, 120), .inr (0, 301), .inr (0, 301), .inr (0, 301), .inl 2, .inr (0, 9), .inr (0, 40), .inl 1, .inr (0, 40), .inl 9, .inl 10, .inr (0, 8), .inr (0, 8), .inr (0, 8), .inr (1, 16), .inl 7, .inr (0, 64), .inr (0, 256), .inr (0, 5), .inr (0, 5), .inr (0, 5), .inl 0, .inr (0, 3456), .inr (0, 32), .inr (0, 3), .inl 3, .inr (0, 16), .inr (0, 16), .inr (0, 64), .inl 12, .inr (0, 589), .inr (0, 589), .inr (0, 3492), .inr (0, 8), .inr (0, 300), .inr (0, 160), .inr (0, 9), .inr (1, 330), .inr (0, 8), .inr (0, 8), .inr (0, 8), .inr (1, 16), .inr (0, 8), .inr (0, 256), .inr (2, 16), .inr (0, 5), .inr (0, 5), .inr (0, 5), .inr (0, 16), .inr (0, 16)]
def ref0 : List (Nat × Nat × Nat) := [(0, 0, 1), (0, 1, 8), (0, 2, 15), (0, 3, 18), (0, 4, 21), (0, 5, 22), (0, 6, 29), (0, 7, 32), (0, 8, 34), (0, 9, 35), (0, 10, 40), (0, 11, 46), (0, 12, 50), (1, 0, 2), (1, 1, 3), (1, 2, 4), (1, 3, 5), (1, 4, 6), (1, 5, 7), (8, 0, 9), (8, 1, 10), (8, 2, 11), (8, 3, 12), (8, 4, 13), (8, 5, 14), (15, 0, 16), (15, 1, 17), (18, 0, 19), (18, 1, 20), (22, 0, 21), (22, 1, 23), (22, 2, 24), (22, 3, 25), (22, 4, 26), (22, 5, 27), (22, 6, 28), (29, 0, 1), (29, 1, 15), (29, 2, 30), (29, 3, 31), (32, 0, 1), (32, 1, 33), (34, 0, 1), (34, 1, 15), (34, 2, 29), (34, 3, 32), (35, 0, 1), (35, 1, 29), (35, 2, 32), (35, 3, 36), (35, 4, 37), (35, 5, 38), (35, 6, 39), (40, 0, 1), (40, 1, 15), (40, 2, 29), (40, 3, 35), (40, 4, 41), (40, 5, 42), (40, 6, 43), (40, 7, 44), (40, 8, 45), (46, 0, 1), (46, 1, 32), (46, 2, 47), (46, 3, 48), (46, 4, 49), (50, 0, 1), (50, 1, 51), (50, 2, 52), (50, 3, 53), (54, 0, 55), (54, 1, 56), (54, 2, 57), (54, 3, 58), (54, 5, 59), (54, 17, 60), (54, 22, 61), (54, 23, 62), (54, 31, 63), (54, 33, 64), (54, 34, 65), (54, 35, 66), (54, 37, 67), (54, 38, 68), (54, 39, 69), (54, 40, 70), (54, 41, 71), (54, 42, 72), (54, 45, 73), (54, 46, 74)]
/-- the static part stands -/
def St (M : Mem) : Prop := (∀ (k : Nat) (x : Sh), shp0[k]? = some x → M.1[k]? = some x) ∧ ∀ q ∈ ref0, mR M q.1 q.2.1 = some q.2.2
theorem s_0 {M : Mem} (h : St M) : M.1[0]? = some (.inl 11) := h.1 0 _ rfl
theorem s_1 {M : Mem} (h : St M) : M.1[1]? = some (.inl 6) := h.1 1 _ rfl
theorem s_2 {M : Mem} (h : St M) : M.1[2]? = some (.inr (0, 16)) := h.1 2 _ rfl
theorem s_3 {M : Mem} (h : St M) : M.1[3]? = some (.inr (0, 64)) := h.1 3 _ rfl
theorem s_4 {M : Mem} (h : St M) : M.1[4]? = some (.inr (0, 64)) := h.1 4 _ rfl
theorem s_5 {M : Mem} (h : St M) : M.1[5]? = some (.inr (0, 24)) := h.1 5 _ rfl
theorem s_6 {M : Mem} (h : St M) : M.1[6]? = some (.inr (0, 72)) := h.1 6 _ rfl
theorem s_7 {M : Mem} (h : St M) : M.1[7]? = some (.inr (3, 4)) := h.1 7 _ rfl
theorem s_8 {M : Mem} (h : St M) : M.1[8]? = some (.inl 6) := h.1 8 _ rfl
theorem s_9 {M : Mem} (h : St M) : M.1[9]? = some (.inr (0, 16)) := h.1 9 _ rfl
theorem s_10 {M : Mem} (h : St M) : M.1[10]? = some (.inr (0, 64)) := h.1 10 _ rfl
theorem s_11 {M : Mem} (h : St M) : M.1[11]? = some (.inr (0, 64)) := h.1 11 _ rfl
theorem s_12 {M : Mem} (h : St M) : M.1[12]? = some (.inr (0, 24)) := h.1 12 _ rfl
theorem s_13 {M : Mem} (h : St M) : M.1[13]? = some (.inr (0, 72)) := h.1 13 _ rfl
theorem s_14 {M : Mem} (h : St M) : M.1[14]? = some (.inr (3, 4)) := h.1 14 _ rfl
theorem s_15 {M : Mem} (h : St M) : M.1[15]? = some (.inl 8) := h.1 15 _ rfl
theorem s_16 {M : Mem} (h : St M) : M.1[16]? = some (.inr (0, 10)) := h.1 16 _ rfl
theorem s_17 {M : Mem} (h : St M) : M.1[17]? = some (.inr (0, 300)) := h.1 17 _ rfl
theorem s_18 {M : Mem} (h : St M) : M.1[18]? = some (.inl 8) := h.1 18 _ rfl
theorem s_19 {M : Mem} (h : St M) : M.1[19]? = some (.inr (0, 10)) := h.1 19 _ rfl
theorem s_20 {M : Mem} (h : St M) : M.1[20]? = some (.inr (0, 300)) := h.1 20 _ rfl
theorem s_21 {M : Mem} (h : St M) : M.1[21]? = some (.inr (0, 300)) := h.1 21 _ rfl
theorem s_22 {M : Mem} (h : St M) : M.1[22]? = some (.inl 4) := h.1 22 _ rfl
theorem s_23 {M : Mem} (h : St M) : M.1[23]? = some (.inr (0, 300)) := h.1 23 _ rfl
theorem s_24 {M : Mem} (h : St M) : M.1[24]? = some (.inr (0, 10)) := h.1 24 _ rfl
theorem s_25 {M : Mem} (h : St M) : M.1[25]? = some (.inr (0, 120)) := h.1 25 _ rfl
theorem s_26 {M : Mem} (h : St M) : M.1[26]? = some (.inr (0, 301)) := h.1 26 _ rfl
theorem s_27 {M : Mem} (h : St M) : M.1[27]? = some (.inr (0, 301)) := h.1 27 _ rfl
theorem s_28 {M : Mem} (h : St M) : M.1[28]? = some (.inr (0, 301)) := h.1 28 _ rfl
theorem s_29 {M : Mem} (h : St M) : M.1[29]? = some (.inl 2) := h.1 29 _ rfl
theorem s_30 {M : Mem} (h : St M) : M.1[30]? = some (.inr (0, 9)) := h.1 30 _ rfl
theorem s_31 {M : Mem} (h : St M) : M.1[31]? = some (.inr (0, 40)) := h.1 31 _ rfl
theorem s_32 {M : Mem} (h : St M) : M.1[32]? = some (.inl 1) := h.1 32 _ rfl
theorem s_33 {M : Mem} (h : St M) : M.1[33]? = some (.inr (0, 40)) := h.1 33 _ rfl
theorem s_34 {M : Mem} (h : St M) : M.1[34]? = some (.inl 9) := h.1 34 _ rfl
theorem s_35 {M : Mem} (h : St M) : M.1[35]? = some (.inl 10) := h.1 35 _ rfl
theorem s_36 {M : Mem} (h : St M) : M.1[36]? = some (.inr (0, 8)) := h.1 36 _ rfl
theorem s_37 {M : Mem} (h : St M) : M.1[37]? = some (.inr (0, 8)) := h.1 37 _ rfl
theorem s_38 {M : Mem} (h : St M) : M.1[38]? = some (.inr (0, 8)) := h.1 38 _ rfl
theorem s_39 {M : Mem} (h : St M) : M.1[39]? = some (.inr (1, 16)) := h.1 39 _ rfl
theorem s_40 {M : Mem} (h : St M) : M.1[40]? = some (.inl 7) := h.1 40 _ rfl
theorem s_41 {M : Mem} (h : St M) : M.1[41]? = some (.inr (0, 64)) := h.1 41 _ rfl
theorem s_42 {M : Mem} (h : St M) : M.1[42]? = some (.inr (0, 256)) := h.1 42 _ rfl
theorem s_43 {M : Mem} (h : St M) : M.1[43]? = some (.inr (0, 5)) := h.1 43 _ rfl
theorem s_44 {M : Mem} (h : St M) : M.1[44]? = some (.inr (0, 5)) := h.1 44 _ rfl
theorem s_45 {M : Mem} (h : St M) : M.1[45]? = some (.inr (0, 5)) := h.1 45 _ rfl
theorem s_46 {M : Mem} (h : St M) : M.1[46]? = some (.inl 0) := h.1 46 _ rfl
theorem s_47 {M : Mem} (h : St M) : M.1[47]? = some (.inr (0, 3456)) := h.1 47 _ rfl
theorem s_48 {M : Mem} (h : St M) : M.1[48]? = some (.inr (0, 32)) := h.1 48 _ rfl
theorem s_49 {M : Mem} (h : St M) : M.1[49]? = some (.inr (0, 3)) := h.1 49 _ rfl
theorem s_50 {M : Mem} (h : St M) : M.1[50]? = some (.inl 3) := h.1 50 _ rfl
theorem s_51 {M : Mem} (h : St M) : M.1[51]? = some (.inr (0, 16)) := h.1 51 _ rfl
theorem s_52 {M : Mem} (h : St M) : M.1[52]? = some (.inr (0, 16)) := h.1 52 _ rfl
theorem s_53 {M : Mem} (h : St M) : M.1[53]? = some (.inr (0, 64)) := h.1 53 _ rfl
theorem s_54 {M : Mem} (h : St M) : M.1[54]? = some (.inl 12) := h.1 54 _ rfl
theorem s_55 {M : Mem} (h : St M) : M.1[55]? = some (.inr (0, 589)) := h.1 55 _ rfl
theorem s_56 {M : Mem} (h : St M) : M.1[56]? = some (.inr (0, 589)) := h.1 56 _ rfl
theorem s_57 {M : Mem} (h : St M) : M.1[57]? = some (.inr (0, 3492)) := h.1 57 _ rfl
theorem s_58 {M : Mem} (h : St M) : M.1[58]? = some (.inr (0, 8)) := h.1 58 _ rfl
theorem s_59 {M : Mem} (h : St M) : M.1[59]? = some (.inr (0, 300)) := h.1 59 _ rfl
theorem s_60 {M : Mem} (h : St M) : M.1[60]? = some (.inr (0, 160)) := h.1 60 _ rfl
theorem s_61 {M : Mem} (h : St M) : M.1[61]? = some (.inr (0, 9)) := h.1 61 _ rfl
theorem s_62 {M : Mem} (h : St M) : M.1[62]? = some (.inr (1, 330)) := h.1 62 _ rfl
theorem s_63 {M : Mem} (h : St M) : M.1[63]? = some (.inr (0, 8)) := h.1 63 _ rfl
theorem s_64 {M : Mem} (h : St M) : M.1[64]? = some (.inr (0, 8)) := h.1 64 _ rfl
theorem s_65 {M : Mem} (h : St M) : M.1[65]? = some (.inr (0, 8)) := h.1 65 _ rfl
theorem s_66 {M : Mem} (h : St M) : M.1[66]? = some (.inr (1, 16)) := h.1 66 _ rfl
theorem s_67 {M : Mem} (h : St M) : M.1[67]? = some (.inr (0, 8)) := h.1 67 _ rfl
theorem s_68 {M : Mem} (h : St M) : M.1[68]? = some (.inr (0, 256)) := h.1 68 _ rfl
theorem s_69 {M : Mem} (h : St M) : M.1[69]? = some (.inr (2, 16)) := h.1 69 _ rfl
theorem s_70 {M : Mem} (h : St M) : M.1[70]? = some (.inr (0, 5)) := h.1 70 _ rfl
theorem s_71 {M : Mem} (h : St M) : M.1[71]? = some (.inr (0, 5)) := h.1 71 _ rfl
theorem s_72 {M : Mem} (h : St M) : M.1[72]? = some (.inr (0, 5)) := h.1 72 _ rfl
theorem s_73 {M : Mem} (h : St M) : M.1[73]? = some (.inr (0, 16)) := h.1 73 _ rfl
theorem s_74 {M : Mem} (h : St M) : M.1[74]? = some (.inr (0, 16)) := h.1 74 _ rfl
theorem r_0_0 {M : Mem} (h : St M) : mR M 0 0 = some 1 := h.2 (0, 0, 1) (List.mem_of_getElem? (i := 0) rfl)
theorem r_0_1 {M : Mem} (h : St M) : mR M 0 1 = some 8 := h.2 (0, 1, 8) (List.mem_of_getElem? (i := 1) rfl)
theorem r_0_2 {M : Mem} (h : St M) : mR M 0 2 = some 15 := h.2 (0, 2, 15) (List.mem_of_getElem? (i := 2) rfl)
theorem r_0_3 {M : Mem} (h : St M) : mR M 0 3 = some 18 := h.2 (0, 3, 18) (List.mem_of_getElem? (i := 3) rfl)
theorem r_0_4 {M : Mem} (h : St M) : mR M 0 4 = some 21 := h.2 (0, 4, 21) (List.mem_of_getElem? (i := 4) rfl)
theorem r_0_5 {M : Mem} (h : St M) : mR M 0 5 = some 22 := h.2 (0, 5, 22) (List.mem_of_getElem? (i := 5) rfl)
theorem r_0_6 {M : Mem} (h : St M) : mR M 0 6 = some 29 := h.2 (0, 6, 29) (List.mem_of_getElem? (i := 6) rfl)
theorem r_0_7 {M : Mem} (h : St M) : mR M 0 7 = some 32 := h.2 (0, 7, 32) (List.mem_of_getElem? (i := 7) rfl)
theorem r_0_8 {M : Mem} (h : St M) : mR M 0 8 = some 34 := h.2 (0, 8, 34) (List.mem_of_getElem? (i := 8) rfl)
theorem r_0_9 {M : Mem} (h : St M) : mR M 0 9 = some 35 := h.2 (0, 9, 35) (List.mem_of_getElem? (i := 9) rfl)
theorem r_0_10 {M : Mem} (h : St M) : mR M 0 10 = some 40 := h.2 (0, 10, 40) (List.mem_of_getElem? (i := 10) rfl)
theorem r_0_11 {M : Mem} (h : St M) : mR M 0 11 = some 46 := h.2 (0, 11, 46) (List.mem_of_getElem? (i := 11) rfl)
theorem r_0_12 {M : Mem} (h : St M) : mR M 0 12 = some 50 := h.2 (0, 12, 50) (List.mem_of_getElem? (i := 12) rfl)
theorem r_1_0 {M : Mem} (h : St M) : mR M 1 0 = some 2 := h.2 (1, 0, 2) (List.mem_of_getElem? (i := 13) rfl)
theorem r_1_1 {M : Mem} (h : St M) : mR M 1 1 = some 3 := h.2 (1, 1, 3) (List.mem_of_getElem? (i := 14) rfl)
theorem r_1_2 {M : Mem} (h : St M) : mR M 1 2 = some 4 := h.2 (1, 2, 4) (List.mem_of_getElem? (i := 15) rfl)
theorem r_1_3 {M : Mem} (h : St M) : mR M 1 3 = some 5 := h.2 (1, 3, 5) (List.mem_of_getElem? (i := 16) rfl)
theorem r_1_4 {M : Mem} (h : St M) : mR M 1 4 = some 6 := h.2 (1, 4, 6) (List.mem_of_getElem? (i := 17) rfl)
theorem r_1_5 {M : Mem} (h : St M) : mR M 1 5 = some 7 := h.2 (1, 5, 7) (List.mem_of_getElem? (i := 18) rfl)
theorem r_8_0 {M : Mem} (h : St M) : mR M 8 0 = some 9 := h.2 (8, 0, 9) (List.mem_of_getElem? (i := 19) rfl)
theorem r_8_1 {M : Mem} (h : St M) : mR M 8 1 = some 10 := h.2 (8, 1, 10) (List.mem_of_getElem? (i := 20) rfl)
theorem r_8_2 {M : Mem} (h : St M) : mR M 8 2 = some 11 := h.2 (8, 2, 11) (List.mem_of_getElem? (i := 21) rfl)
theorem r_8_3 {M : Mem} (h : St M) : mR M 8 3 = some 12 := h.2 (8, 3, 12) (List.mem_of_getElem? (i := 22) rfl)
theorem r_8_4 {M : Mem} (h : St M) : mR M 8 4 = some 13 := h.2 (8, 4, 13) (List.mem_of_getElem? (i := 23) rfl)
theorem r_8_5 {M : Mem} (h : St M) : mR M 8 5 = some 14 := h.2 (8, 5, 14) (List.mem_of_getElem? (i := 24) rfl)
theorem r_15_0 {M : Mem} (h : St M) : mR M 15 0 = some 16 := h.2 (15, 0, 16) (List.mem_of_getElem? (i := 25) rfl)
theorem r_15_1 {M : Mem} (h : St M) : mR M 15 1 = some 17 := h.2 (15, 1, 17) (List.mem_of_getElem? (i := 26) rfl)
theorem r_18_0 {M : Mem} (h : St M) : mR M 18 0 = some 19 := h.2 (18, 0, 19) (List.mem_of_getElem? (i := 27) rfl)
theorem r_18_1 {M : Mem} (h : St M) : mR M 18 1 = some 20 := h.2 (18, 1, 20) (List.mem_of_getElem? (i := 28) rfl)
theorem r_22_0 {M : Mem} (h : St M) : mR M 22 0 = some 21 := h.2 (22, 0, 21) (List.mem_of_getElem? (i := 29) rfl)
theorem r_22_1 {M : Mem} (h : St M) : mR M 22 1 = some 23 := h.2 (22, 1, 23) (List.mem_of_getElem? (i := 30) rfl)
theorem r_22_2 {M : Mem} (h : St M) : mR M 22 2 = some 24 := h.2 (22, 2, 24) (List.mem_of_getElem? (i := 31) rfl)
theorem r_22_3 {M : Mem} (h : St M) : mR M 22 3 = some 25 := h.2 (22, 3, 25) (List.mem_of_getElem? (i := 32) rfl)
theorem r_22_4 {M : Mem} (h : St M) : mR M 22 4 = some 26 := h.2 (22, 4, 26) (List.mem_of_getElem? (i := 33) rfl)
theorem r_22_5 {M : Mem} (h : St M) : mR M 22 5 = some 27 := h.2 (22, 5, 27) (List.mem_of_getElem? (i := 34) rfl)
theorem r_22_6 {M : Mem} (h : St M) : mR M 22 6 = some 28 := h.2 (22, 6, 28) (List.mem_of_getElem? (i := 35) rfl)
theorem r_29_0 {M : Mem} (h : St M) : mR M 29 0 = some 1 := h.2 (29, 0, 1) (List.mem_of_getElem? (i := 36) rfl)
theorem r_29_1 {M : Mem} (h : St M) : mR M 29 1 = some 15 := h.2 (29, 1, 15) (List.mem_of_getElem? (i := 37) rfl)
theorem r_29_2 {M : Mem} (h : St M) : mR M 29 2 = some 30 := h.2 (29, 2, 30) (List.mem_of_getElem? (i := 38) rfl)
theorem r_29_3 {M : Mem} (h : St M) : mR M 29 3 = some 31 := h.2 (29, 3, 31) (List.mem_of_getElem? (i := 39) rfl)
theorem r_32_0 {M : Mem} (h : St M) : mR M 32 0 = some 1 := h.2 (32, 0, 1) (List.mem_of_getElem? (i := 40) rfl)
theorem r_32_1 {M : Mem} (h : St M) : mR M 32 1 = some 33 := h.2 (32, 1, 33) (List.mem_of_getElem? (i := 41) rfl)
theorem r_34_0 {M : Mem} (h : St M) : mR M 34 0 = some 1 := h.2 (34, 0, 1) (List.mem_of_getElem? (i := 42) rfl)
theorem r_34_1 {M : Mem} (h : St M) : mR M 34 1 = some 15 := h.2 (34, 1, 15) (List.mem_of_getElem? (i := 43) rfl)
theorem r_34_2 {M : Mem} (h : St M) : mR M 34 2 = some 29 := h.2 (34, 2, 29) (List.mem_of_getElem? (i := 44) rfl)
theorem r_34_3 {M : Mem} (h : St M) : mR M 34 3 = some 32 := h.2 (34, 3, 32) (List.mem_of_getElem? (i := 45) rfl)
theorem r_35_0 {M : Mem} (h : St M) : mR M 35 0 = some 1 := h.2 (35, 0, 1) (List.mem_of_getElem? (i := 46) rfl)
theorem r_35_1 {M : Mem} (h : St M) : mR M 35 1 = some 29 := h.2 (35, 1, 29) (List.mem_of_getElem? (i := 47) rfl)
theorem r_35_2 {M : Mem} (h : St M) : mR M 35 2 = some 32 := h.2 (35, 2, 32) (List.mem_of_getElem? (i := 48) rfl)
theorem r_35_3 {M : Mem} (h : St M) : mR M 35 3 = some 36 := h.2 (35, 3, 36) (List.mem_of_getElem? (i := 49) rfl)
theorem r_35_4 {M : Mem} (h : St M) : mR M 35 4 = some 37 := h.2 (35, 4, 37) (List.mem_of_getElem? (i := 50) rfl)
theorem r_35_5 {M : Mem} (h : St M) : mR M 35 5 = some 38 := h.2 (35, 5, 38) (List.mem_of_getElem? (i := 51) rfl)
theorem r_35_6 {M : Mem} (h : St M) : mR M 35 6 = some 39 := h.2 (35, 6, 39) (List.mem_of_getElem? (i := 52) rfl)
theorem r_40_0 {M : Mem} (h : St M) : mR M 40 0 = some 1 := h.2 (40, 0, 1) (List.mem_of_getElem? (i := 53) rfl)
theorem r_40_1 {M : Mem} (h : St M) : mR M 40 1 = some 15 := h.2 (40, 1, 15) (List.mem_of_getElem? (i := 54) rfl)
theorem r_40_2 {M : Mem} (h : St M) : mR M 40 2 = some 29 := h.2 (40, 2, 29) (List.mem_of_getElem? (i := 55) rfl)
theorem r_40_3 {M : Mem} (h : St M) : mR M 40 3 = some 35 := h.2 (40, 3, 35) (List.mem_of_getElem? (i := 56) rfl)
theorem r_40_4 {M : Mem} (h : St M) : mR M 40 4 = some 41 := h.2 (40, 4, 41) (List.mem_of_getElem? (i := 57) rfl)
theorem r_40_5 {M : Mem} (h : St M) : mR M 40 5 = some 42 := h.2 (40, 5, 42) (List.mem_of_getElem? (i := 58) rfl)
theorem r_40_6 {M : Mem} (h : St M) : mR M 40 6 = some 43 := h.2 (40, 6, 43) (List.mem_of_getElem? (i := 59) rfl)
theorem r_40_7 {M : Mem} (h : St M) : mR M 40 7 = some 44 := h.2 (40, 7, 44) (List.mem_of_getElem? (i := 60) rfl)
theorem r_40_8 {M : Mem} (h : St M) : mR M 40 8 = some 45 := h.2 (40, 8, 45) (List.mem_of_getElem? (i := 61) rfl)
theorem r_46_0 {M : Mem} (h : St M) : mR M 46 0 = some 1 := h.2 (46, 0, 1) (List.mem_of_getElem? (i := 62) rfl)
theorem r_46_1 {M : Mem} (h : St M) : mR M 46 1 = some 32 := h.2 (46, 1, 32) (List.mem_of_getElem? (i := 63) rfl)
theorem r_46_2 {M : Mem} (h : St M) : mR M 46 2 = some 47 := h.2 (46, 2, 47) (List.mem_of_getElem? (i := 64) rfl)
theorem r_46_3 {M : Mem} (h : St M) : mR M 46 3 = some 48 := h.2 (46, 3, 48) (List.mem_of_getElem? (i := 65) rfl)
theorem r_46_4 {M : Mem} (h : St M) : mR M 46 4 = some 49 := h.2 (46, 4, 49) (List.mem_of_getElem? (i := 66) rfl)
theorem r_50_0 {M : Mem} (h : St M) : mR M 50 0 = some 1 := h.2 (50, 0, 1) (List.mem_of_getElem? (i := 67) rfl)
theorem r_50_1 {M : Mem} (h : St M) : mR M 50 1 = some 51 := h.2 (50, 1, 51) (List.mem_of_getElem? (i := 68) rfl)
theorem r_50_2 {M : Mem} (h : St M) : mR M 50 2 = some 52 := h.2 (50, 2, 52) (List.mem_of_getElem? (i := 69) rfl)
theorem r_50_3 {M : Mem} (h : St M) : mR M 50 3 = some 53 := h.2 (50, 3, 53) (List.mem_of_getElem? (i := 70) rfl)
theorem r_54_0 {M : Mem} (h : St M) : mR M 54 0 = some 55 := h.2 (54, 0, 55) (List.mem_of_getElem? (i := 71) rfl)
theorem r_54_1 {M : Mem} (h : St M) : mR M 54 1 = some 56 := h.2 (54, 1, 56) (List.mem_of_getElem? (i := 72) rfl)
theorem r_54_2 {M : Mem} (h : St M) : mR M 54 2 = some 57 := h.2 (54, 2, 57) (List.mem_of_getElem? (i := 73) rfl)
theorem r_54_3 {M : Mem} (h : St M) : mR M 54 3 = some 58 := h.2 (54, 3, 58) (List.mem_of_getElem? (i := 74) rfl)
theorem r_54_5 {M : Mem} (h : St M) : mR M 54 5 = some 59 := h.2 (54, 5, 59) (List.mem_of_getElem? (i := 75) rfl)
theorem r_54_17 {M : Mem} (h : St M) : mR M 54 17 = some 60 := h.2 (54, 17, 60) (List.mem_of_getElem? (i := 76) rfl)
theorem r_54_22 {M : Mem} (h : St M) : mR M 54 22 = some 61 := h.2 (54, 22, 61) (List.mem_of_getElem? (i := 77) rfl)
theorem r_54_23 {M : Mem} (h : St M) : mR M 54 23 = some 62 := h.2 (54, 23, 62) (List.mem_of_getElem? (i := 78) rfl)
theorem r_54_31 {M : Mem} (h : St M) : mR M 54 31 = some 63 := h.2 (54, 31, 63) (List.mem_of_getElem? (i := 79) rfl)
theorem r_54_33 {M : Mem} (h : St M) : mR M 54 33 = some 64 := h.2 (54, 33, 64) (List.mem_of_getElem? (i := 80) rfl)
theorem r_54_34 {M : Mem} (h : St M) : mR M 54 34 = some 65 := h.2 (54, 34, 65) (List.mem_of_getElem? (i := 81) rfl)
theorem r_54_35 {M : Mem} (h : St M) : mR M 54 35 = some 66 := h.2 (54, 35, 66) (List.mem_of_getElem? (i := 82) rfl)
theorem r_54_37 {M : Mem} (h : St M) : mR M 54 37 = some 67 := h.2 (54, 37, 67) (List.mem_of_getElem? (i := 83) rfl)
theorem r_54_38 {M : Mem} (h : St M) : mR M 54 38 = some 68 := h.2 (54, 38, 68) (List.mem_of_getElem? (i := 84) rfl)
theorem r_54_39 {M : Mem} (h : St M) : mR M 54 39 = some 69 := h.2 (54, 39, 69) (List.mem_of_getElem? (i := 85) rfl)
theorem r_54_40 {M : Mem} (h : St M) : mR M 54 40 = some 70 := h.2 (54, 40, 70) (List.mem_of_getElem? (i := 86) rfl)
theorem r_54_41 {M : Mem} (h : St M) : mR M 54 41 = some 71 := h.2 (54, 41, 71) (List.mem_of_getElem? (i := 87) rfl)
theorem r_54_42 {M : Mem} (h : St M) : mR M 54 42 = some 72 := h.2 (54, 42, 72) (List.mem_of_getElem? (i := 88) rfl)
theorem r_54_45 {M : Mem} (h : St M) : mR M 54 45 = some 73 := h.2 (54, 45, 73) (List.mem_of_getElem? (i := 89) rfl)
theorem r_54_46 {M : Mem} (h : St M) : mR M 54 46 = some 74 := h.2 (54, 46, 74) (List.mem_of_getElem? (i := 90) rfl)
theorem St.I {M : Mem} (h : St M) (k j : Nat) (v : Int) : St (sI M k j v) := h
theorem St.J {M : Mem} (h : St M) (k j : Nat) (v : Int) : St (sJ M k j v) := h
theorem St.C {M : Mem} (h : St M) (a b c d e : Nat) : St (cpI M a b c d e) := h
theorem St.T {M : Mem} (h : St M) (k j : Nat) (v : Option Nat) (hk : ∀ q ∈ ref0, q.1 ≠ k) : St (sR M k j v) := ⟨h.1, fun q hq => by rw [mR_sR, if_neg (fun e => hk q hq e.1)]; exact h.2 q hq⟩
theorem St.T7 {M : Mem} (h : St M) (j : Nat) (v : Option Nat) : St (sR M 7 j v) := h.T 7 j v (by decide)
theorem St.T14 {M : Mem} (h : St M) (j : Nat) (v : Option Nat) : St (sR M 14 j v) := h.T 14 j v (by decide)
/-- the texts that are kept are texts -/
def Tx (M : Mem) : Prop := ∀ (k j x : Nat), (k = 7 ∨ k = 14) → j < 4 → mR M k j = some x → M.1[x]? = some (.inl 5)
/-! CONTRACTS: small methods (written by wip/whole/p30.py) -/
def fX12_isIn (v : Int) (lo : Int) (hi : Int) : Int := if v < lo then 0 else if hi < v then 0 else 1
set_option maxRecDepth 4000 in
theorem qX12_isIn {l : Launch} {M : Mem}  (v : Int) (lo : Int) (hi : Int) : Fn l mdX12_isIn [aI v, aI lo, aI hi] M (some (aI (fX12_isIn v lo hi))) M := by
  refine Call.of [some (aI v), some (aI lo), some (aI hi)] rfl (Nat.le_of_ble_eq_true rfl) rfl ?_
  refine vc_iload_n dX12_isIn_0 rfl ?_
  refine vc_iload_n dX12_isIn_1 rfl ?_
  refine vc_icmp_lt dX12_isIn_2 (fun h1 => ?_) (fun h1 => ?_)
  · refine vc_iconst dX12_isIn_14 rfl ?_
    refine vc_zret dX12_isIn_15 rfl (by first | decide | omega) (Nat.le_of_ble_eq_true rfl) (Nat.le_of_ble_eq_true rfl) ?_
    exact ⟨by show some (aI _) = some (aI (fX12_isIn v lo hi)); rw [fX12_isIn, if_pos h1], rfl⟩
  · refine vc_iload_n dX12_isIn_5 rfl ?_
    refine vc_iload_n dX12_isIn_6 rfl ?_
    refine vc_icmp_gt dX12_isIn_7 (fun h2 => ?_) (fun h2 => ?_)
    · refine vc_iconst dX12_isIn_14 rfl ?_
      refine vc_zret dX12_isIn_15 rfl (by first | decide | omega) (Nat.le_of_ble_eq_true rfl) (Nat.le_of_ble_eq_true rfl) ?_
      exact ⟨by show some (aI _) = some (aI (fX12_isIn v lo hi)); rw [fX12_isIn, if_neg h1, if_pos h2], rfl⟩
    · refine vc_iconst dX12_isIn_10 rfl ?_
      refine vc_goto dX12_isIn_11 ?_
      refine vc_zret dX12_isIn_15 rfl (by first | decide | omega) (Nat.le_of_ble_eq_true rfl) (Nat.le_of_ble_eq_true rfl) ?_
      exact ⟨by show some (aI _) = some (aI (fX12_isIn v lo hi)); rw [fX12_isIn, if_neg h1, if_neg h2], rfl⟩
def fX11_isDirection (d : Int) : Int := if d < 0 then 0 else if 4 ≤ d then 0 else 1
def fX11_isSlip (d : Int) : Int := if d < 0 then 0 else if 10 < d then 0 else 1
set_option maxRecDepth 4000 in
theorem qX11_isSlip {l : Launch} {M : Mem}  (d : Int) : Fn l mdX11_isSlip [aI d] M (some (aI (fX11_isSlip d))) M := by
  refine Call.of [some (aI d)] rfl (Nat.le_of_ble_eq_true rfl) rfl ?_
  refine vc_iload_n dX11_isSlip_0 rfl ?_
  refine vc_if_lt dX11_isSlip_1 (fun h1 => ?_) (fun h1 => ?_)
  · refine vc_iconst dX11_isSlip_14 rfl ?_
    refine vc_zret dX11_isSlip_15 rfl (by first | decide | omega) (Nat.le_of_ble_eq_true rfl) (Nat.le_of_ble_eq_true rfl) ?_
    exact ⟨by show some (aI _) = some (aI (fX11_isSlip d)); rw [fX11_isSlip, if_pos h1], rfl⟩
  · refine vc_iload_n dX11_isSlip_4 rfl ?_
    refine vc_bipush dX11_isSlip_5 rfl ?_
    refine vc_icmp_gt dX11_isSlip_7 (fun h2 => ?_) (fun h2 => ?_)
    · refine vc_iconst dX11_isSlip_14 rfl ?_
      refine vc_zret dX11_isSlip_15 rfl (by first | decide | omega) (Nat.le_of_ble_eq_true rfl) (Nat.le_of_ble_eq_true rfl) ?_
      exact ⟨by show some (aI _) = some (aI (fX11_isSlip d)); rw [fX11_isSlip, if_neg h1, if_pos h2], rfl⟩
    · refine vc_iconst dX11_isSlip_10 rfl ?_
      refine vc_goto dX11_isSlip_11 ?_
      refine vc_zret dX11_isSlip_15 rfl (by first | decide | omega) (Nat.le_of_ble_eq_true rfl) (Nat.le_of_ble_eq_true rfl) ?_
      exact ⟨by show some (aI _) = some (aI (fX11_isSlip d)); rw [fX11_isSlip, if_neg h1, if_neg h2], rfl⟩
def fX1_sideOf (fa : Int) (wh : Int) : Int := if wh = 1 then (fa + 3) % 4 else if wh = 2 then (fa + 1) % 4 else fa
def fX6_hasCorner (M : Mem) (c : Int) : Int := if c < 0 then 0 else if mI M 1 6 ≤ c then 0 else 1
def fX6_hasTeller (M : Mem) (c : Int) : Int := if c < 0 then 0 else if mI M 1 8 ≤ c then 0 else 1
def fX6_hasTelling (M : Mem) (c : Int) : Int := if c < 0 then 0 else if mI M 1 9 ≤ c then 0 else 1
def fX6_sightOf (M : Mem) (c : Int) : Int := if c < 0 then (-1) else if mI M 1 6 ≤ c then (-1) else mI M 2 c.toNat
def fX6_ahead (M : Mem) (c : Int) (d : Int) : Int := if c < 0 then (-1) else if mI M 1 6 ≤ c then (-1) else mI M 3 (((4 * c) + (d % 4)).toNat)
def fX6_laneAt (M : Mem) (c : Int) (d : Int) : Int := if c < 0 then 0 else if mI M 1 6 ≤ c then 0 else mI M 4 (((4 * c) + (d % 4)).toNat)
theorem isIn_iff (v lo hi : Int) : fX12_isIn v lo hi = 0 ↔ ¬ (lo ≤ v ∧ v ≤ hi) := by unfold fX12_isIn; split; (constructor <;> intro _ <;> first | rfl | omega); split <;> (constructor <;> intro _ <;> first | rfl | omega)

