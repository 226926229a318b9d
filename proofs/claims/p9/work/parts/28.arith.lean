/-! ROWS with the wrap taken away, calls of methods that answer by a function. -/
theorem dv_e {x y : Int} (hx : inI x) (h0 : 0 ≤ x) (hy : 0 < y) : dvI x y = x / y := by
  unfold dvI
  rw [Int.tdiv_eq_ediv_of_nonneg h0]
  have h1 : x / y ≤ x := Int.ediv_le_self y h0
  have h2 : 0 ≤ x / y := Int.ediv_nonneg h0 (by omega)
  exact wI_id (by omega) (by have := hx.2; omega)
theorem rm_e {x y : Int} (h0 : 0 ≤ x) : rmI x y = x % y := by
  unfold rmI
  exact Int.tmod_eq_emod_of_nonneg h0
theorem dvL_e {x y : Int} (hx : inL x) (h0 : 0 ≤ x) (hy : 0 < y) : dvL x y = x / y := by
  unfold dvL
  rw [Int.tdiv_eq_ediv_of_nonneg h0]
  have h1 : x / y ≤ x := Int.ediv_le_self y h0
  have h2 : 0 ≤ x / y := Int.ediv_nonneg h0 (by omega)
  exact wL_id (by omega) (by have := hx.2; omega)
theorem rmL_e {x y : Int} (h0 : 0 ≤ x) : rmL x y = x % y := by
  unfold rmL
  exact Int.tmod_eq_emod_of_nonneg h0
theorem tn_of {x : Int} : (Int32.ofInt x).toBitVec.toNat = (x % 4294967296).toNat := by
  show (BitVec.ofInt 32 x).toNat = _
  rw [BitVec.toNat_ofInt]
  rfl
theorem and_m {x m : Int} {k : Nat} (hm : m = 2 ^ k) (hk : k < 31) : andI x (m - 1) = x % m := by
  unfold andI
  have hp : (2 : Nat) ^ k < 2 ^ 31 := Nat.pow_lt_pow_right (by decide) hk
  have hp0 : 0 < (2 : Nat) ^ k := Nat.two_pow_pos k
  have hpm : m = ((2 ^ k : Nat) : Int) := by rw [hm]; simp
  have e1 : (Int32.ofInt (m - 1)).toBitVec.toNat = 2 ^ k - 1 := by
    rw [tn_of, Int.emod_eq_of_lt (by omega) (by omega)]
    omega
  rw [pk_and _ k e1, tn_of]
  have e2 : (x % 4294967296).toNat % 2 ^ k = (x % m).toNat := by
    have hd : ((2 ^ k : Nat) : Int) ∣ 4294967296 := by
      have : (2 : Nat) ^ k ∣ 2 ^ 32 := Nat.pow_dvd_pow 2 (by omega)
      exact Int.ofNat_dvd.mpr this
    have h1 : 0 ≤ x % 4294967296 := Int.emod_nonneg _ (by decide)
    have h2 : 0 ≤ x % m := Int.emod_nonneg _ (by omega)
    apply Int.ofNat.inj
    show (((x % 4294967296).toNat % 2 ^ k : Nat) : Int) = ((x % m).toNat : Int)
    rw [Int.natCast_emod, Int.toNat_of_nonneg h1, Int.toNat_of_nonneg h2, hpm, Int.emod_emod_of_dvd _ hd]
  rw [e2]
  have h3 : x % m < m := Int.emod_lt_of_pos _ (by omega)
  have h4 : 0 ≤ x % m := Int.emod_nonneg _ (by omega)
  rw [nI_toInt (by omega)]
  omega
theorem shr_m {x m y : Int} {k : Nat} (hx : inI x) (hm : m = 2 ^ k) (hy : y = k) (hk : k < 32) : shrI x y = x / m := by
  unfold shrI
  subst hy
  have key : ∀ k : Nat, k < 32 → ((Int32.ofInt (k : Int) &&& 31).toBitVec.smod 32).toNat = k := by decide
  rw [pk_shr _ _ k (key k hk), oI_id hx, hm]
  exact Int.shiftRight_eq_div_pow x k
theorem shl_m {x m y : Int} {k : Nat} (h0 : 0 ≤ x) (hm : m = 2 ^ k) (hy : y = k) (hk : k < 31) (hb : x * m < 2147483648) : shlI x y = x * m := by
  unfold shlI
  subst hy
  have key : ∀ k : Nat, k < 32 → ((Int32.ofInt (k : Int) &&& 31).toBitVec.smod 32).toNat = k := by decide
  have hp0 : 0 < (2 : Nat) ^ k := Nat.two_pow_pos k
  have hpm : m = ((2 ^ k : Nat) : Int) := by rw [hm]; simp
  obtain ⟨n, rfl⟩ : ∃ n : Nat, x = (n : Int) := ⟨x.toNat, (Int.toNat_of_nonneg h0).symm⟩
  have hb2 : n * 2 ^ k < 2147483648 := by rw [hpm, ← Int.natCast_mul] at hb; omega
  have e1 : Int32.ofInt (n : Int) = nI n := rfl
  rw [e1, pk_shlN _ k (key k (by omega)) (by omega), nI_toInt (by omega), hpm]
  simp
/-- a call that answers v and leaves M2 -/
def Fn (l : Launch) (D : MD) (as : List AV) (M : Mem) (v : Option AV) (M2 : Mem) : Prop := Call l D as M (fun r M' => r = v ∧ M' = M2)
section VCE
variable {l : Launch} {D : MD} {pc pc' tgt : Nat} {L L' : List (Option AV)} {st : List AV} {M : Mem} {kc ks : Nat} {Q : Option AV → Mem → Prop}
theorem vc_topI {x : Int} (y : Int) (h : x = y) (k : VC l D pc L (aI y :: st) M kc ks Q) : VC l D pc L (aI x :: st) M kc ks Q := by subst h; exact k
theorem vc_topL {x : Int} (y : Int) (h : x = y) (k : VC l D pc L (aL y :: st) M kc ks Q) : VC l D pc L (aL x :: st) M kc ks Q := by subst h; exact k
theorem vc_mem (M2 : Mem) (h : M = M2) (k : VC l D pc L st M2 kc ks Q) : VC l D pc L st M kc ks Q := by subst h; exact k
theorem vc_iaddE {x y : Int} (hd : At (mB D) pc .iadd 1 pc') (h1 : -2147483648 ≤ x + y) (h2 : x + y < 2147483648) (k : VC l D pc' L (aI (x + y) :: st) M kc ks Q) : VC l D pc L (aI y :: aI x :: st) M kc ks Q := vc_iadd hd (by rw [wI_id h1 h2]; exact k)
theorem vc_isubE {x y : Int} (hd : At (mB D) pc .isub 1 pc') (h1 : -2147483648 ≤ x - y) (h2 : x - y < 2147483648) (k : VC l D pc' L (aI (x - y) :: st) M kc ks Q) : VC l D pc L (aI y :: aI x :: st) M kc ks Q := vc_isub hd (by rw [wI_id h1 h2]; exact k)
theorem vc_imulE {x y : Int} (hd : At (mB D) pc .imul 1 pc') (h1 : -2147483648 ≤ x * y) (h2 : x * y < 2147483648) (k : VC l D pc' L (aI (x * y) :: st) M kc ks Q) : VC l D pc L (aI y :: aI x :: st) M kc ks Q := vc_imul hd (by rw [wI_id h1 h2]; exact k)
theorem vc_inegE {x : Int} (hd : At (mB D) pc .ineg 1 pc') (h1 : -2147483648 ≤ -x) (h2 : -x < 2147483648) (k : VC l D pc' L (aI (-x) :: st) M kc ks Q) : VC l D pc L (aI x :: st) M kc ks Q := vc_ineg hd (by rw [wI_id h1 h2]; exact k)
theorem vc_laddE {x y : Int} (hd : At (mB D) pc .ladd 1 pc') (h1 : -9223372036854775808 ≤ x + y) (h2 : x + y < 9223372036854775808) (k : VC l D pc' L (aL (x + y) :: st) M kc ks Q) : VC l D pc L (aL y :: aL x :: st) M kc ks Q := vc_ladd hd (by rw [wL_id h1 h2]; exact k)
theorem vc_lsubE {x y : Int} (hd : At (mB D) pc .lsub 1 pc') (h1 : -9223372036854775808 ≤ x - y) (h2 : x - y < 9223372036854775808) (k : VC l D pc' L (aL (x - y) :: st) M kc ks Q) : VC l D pc L (aL y :: aL x :: st) M kc ks Q := vc_lsub hd (by rw [wL_id h1 h2]; exact k)
theorem vc_lmulE {x y : Int} (hd : At (mB D) pc .lmul 1 pc') (h1 : -9223372036854775808 ≤ x * y) (h2 : x * y < 9223372036854775808) (k : VC l D pc' L (aL (x * y) :: st) M kc ks Q) : VC l D pc L (aL y :: aL x :: st) M kc ks Q := vc_lmul hd (by rw [wL_id h1 h2]; exact k)
theorem vc_l2iE {x : Int} (hd : At (mB D) pc .l2i 1 pc') (h1 : -2147483648 ≤ x) (h2 : x < 2147483648) (k : VC l D pc' L (aI x :: st) M kc ks Q) : VC l D pc L (aL x :: st) M kc ks Q := vc_l2i hd (by rw [wI_id h1 h2]; exact k)
theorem vc_idivE {x y : Int} (hd : At (mB D) pc .idiv 1 pc') (h0 : 0 ≤ x) (hy : 0 < y) (k : VC l D pc' L (aI (x / y) :: st) M kc ks Q) : VC l D pc L (aI y :: aI x :: st) M kc ks Q :=
  vc_ok fun _ hs _ => vc_idiv hd (by omega) (by rw [dv_e (okS_cons.mp (okS_cons.mp hs).2).1 h0 hy]; exact k)
theorem vc_iremE {x y : Int} (hd : At (mB D) pc .irem 1 pc') (h0 : 0 ≤ x) (hy : 0 < y) (k : VC l D pc' L (aI (x % y) :: st) M kc ks Q) : VC l D pc L (aI y :: aI x :: st) M kc ks Q :=
  vc_irem hd (by omega) (by rw [rm_e h0]; exact k)
theorem vc_ldivE {x y : Int} (hd : At (mB D) pc .ldiv 1 pc') (h0 : 0 ≤ x) (hy : 0 < y) (k : VC l D pc' L (aL (x / y) :: st) M kc ks Q) : VC l D pc L (aL y :: aL x :: st) M kc ks Q :=
  vc_ok fun _ hs _ => vc_ldiv hd (by omega) (by rw [dvL_e (okS_cons.mp (okS_cons.mp hs).2).1 h0 hy]; exact k)
theorem vc_lremE {x y : Int} (hd : At (mB D) pc .lrem 1 pc') (h0 : 0 ≤ x) (hy : 0 < y) (k : VC l D pc' L (aL (x % y) :: st) M kc ks Q) : VC l D pc L (aL y :: aL x :: st) M kc ks Q :=
  vc_lrem hd (by omega) (by rw [rmL_e h0]; exact k)
theorem vc_iandM {x y : Int} (hd : At (mB D) pc .iand 1 pc') (m : Int) (e : Nat) (hm : m = 2 ^ e) (he : e < 31) (hy : y = m - 1) (k : VC l D pc' L (aI (x % m) :: st) M kc ks Q) : VC l D pc L (aI y :: aI x :: st) M kc ks Q := vc_iand hd (by rw [hy, and_m hm he]; exact k)
theorem vc_iandW {x y : Int} (hd : At (mB D) pc .iand 1 pc') (m : Int) (e : Nat) (hm : m = 2 ^ e) (he : e < 31) (hy : y = m - 1) (k : VC l D pc' L (aI (x % m) :: st) M kc ks Q) : VC l D pc L (aI y :: aI (wI x) :: st) M kc ks Q := vc_iand hd (by rw [show andI (wI x) y = andI x y by unfold andI; rw [oI_w], hy, and_m hm he]; exact k)
theorem vc_ishrC {x y : Int} (hd : At (mB D) pc .ishr 1 pc') (m : Int) (e : Nat) (hm : m = 2 ^ e) (he : e < 32) (hy : y = e) (k : VC l D pc' L (aI (x / m) :: st) M kc ks Q) : VC l D pc L (aI y :: aI x :: st) M kc ks Q :=
  vc_ok fun _ hs _ => vc_ishr hd (by rw [shr_m (okS_cons.mp (okS_cons.mp hs).2).1 hm hy he]; exact k)
theorem vc_ishlC {x y : Int} (hd : At (mB D) pc .ishl 1 pc') (m : Int) (e : Nat) (hm : m = 2 ^ e) (he : e < 31) (hy : y = e) (h0 : 0 ≤ x) (hb : x * m < 2147483648) (k : VC l D pc' L (aI (x * m) :: st) M kc ks Q) : VC l D pc L (aI y :: aI x :: st) M kc ks Q := vc_ishl hd (by rw [shl_m h0 hm hy he hb]; exact k)
theorem vc_iincE {i : Nat} {n x : Int} (hd : At (mB D) pc (.iinc i n) 3 pc') (hi : L[i]? = some (some (aI x))) (h1 : -2147483648 ≤ x + n) (h2 : x + n < 2147483648) (hn2 : i < mN D) (hf : freeB L i = true) (hL2 : L.set i (some (aI (x + n))) = L') (k : VC l D pc' L' st M kc ks Q) : VC l D pc L st M kc ks Q := vc_iinc hd hi hn2 hf (by rw [wI_id h1 h2]; exact hL2) k
theorem cmp_eq {x y : Int} : cmpL x y = 0 ↔ x = y := by unfold cmpL; split; (constructor <;> intro h <;> omega); split <;> (constructor <;> intro h <;> omega)
theorem cmp_lt {x y : Int} : cmpL x y < 0 ↔ x < y := by unfold cmpL; split; (constructor <;> intro h <;> omega); split <;> (constructor <;> intro h <;> omega)
theorem cmp_gt {x y : Int} : 0 < cmpL x y ↔ y < x := by unfold cmpL; split; (constructor <;> intro h <;> omega); split <;> (constructor <;> intro h <;> omega)
theorem cmp_le {x y : Int} : cmpL x y ≤ 0 ↔ x ≤ y := by unfold cmpL; split; (constructor <;> intro h <;> omega); split <;> (constructor <;> intro h <;> omega)
theorem cmp_ge {x y : Int} : 0 ≤ cmpL x y ↔ y ≤ x := by unfold cmpL; split; (constructor <;> intro h <;> omega); split <;> (constructor <;> intro h <;> omega)
theorem vc_lif_eq {x y off : Int} {pc1 : Nat} (hd : At (mB D) pc .lcmp 1 pc1) (hd2 : AtB (mB D) pc1 (.ifCond .eq off) off pc' tgt) (kt : x = y → VC l D tgt L st M kc ks Q) (kf : ¬ (x = y) → VC l D pc' L st M kc ks Q) : VC l D pc L (aL y :: aL x :: st) M kc ks Q := vc_lcmp hd (vc_if_eq hd2 (fun h => kt (cmp_eq.mp h)) (fun h => kf (fun e => h (cmp_eq.mpr e))))
theorem vc_lif_lt {x y off : Int} {pc1 : Nat} (hd : At (mB D) pc .lcmp 1 pc1) (hd2 : AtB (mB D) pc1 (.ifCond .lt off) off pc' tgt) (kt : x < y → VC l D tgt L st M kc ks Q) (kf : ¬ (x < y) → VC l D pc' L st M kc ks Q) : VC l D pc L (aL y :: aL x :: st) M kc ks Q := vc_lcmp hd (vc_if_lt hd2 (fun h => kt (cmp_lt.mp h)) (fun h => kf (fun e => h (cmp_lt.mpr e))))
theorem vc_lif_gt {x y off : Int} {pc1 : Nat} (hd : At (mB D) pc .lcmp 1 pc1) (hd2 : AtB (mB D) pc1 (.ifCond .gt off) off pc' tgt) (kt : y < x → VC l D tgt L st M kc ks Q) (kf : ¬ (y < x) → VC l D pc' L st M kc ks Q) : VC l D pc L (aL y :: aL x :: st) M kc ks Q := vc_lcmp hd (vc_if_gt hd2 (fun h => kt (cmp_gt.mp h)) (fun h => kf (fun e => h (cmp_gt.mpr e))))
theorem vc_lif_le {x y off : Int} {pc1 : Nat} (hd : At (mB D) pc .lcmp 1 pc1) (hd2 : AtB (mB D) pc1 (.ifCond .le off) off pc' tgt) (kt : x ≤ y → VC l D tgt L st M kc ks Q) (kf : ¬ (x ≤ y) → VC l D pc' L st M kc ks Q) : VC l D pc L (aL y :: aL x :: st) M kc ks Q := vc_lcmp hd (vc_if_le hd2 (fun h => kt (cmp_le.mp h)) (fun h => kf (fun e => h (cmp_le.mpr e))))
theorem vc_lif_ge {x y off : Int} {pc1 : Nat} (hd : At (mB D) pc .lcmp 1 pc1) (hd2 : AtB (mB D) pc1 (.ifCond .ge off) off pc' tgt) (kt : y ≤ x → VC l D tgt L st M kc ks Q) (kf : ¬ (y ≤ x) → VC l D pc' L st M kc ks Q) : VC l D pc L (aL y :: aL x :: st) M kc ks Q := vc_lcmp hd (vc_if_ge hd2 (fun h => kt (cmp_ge.mp h)) (fun h => kf (fun e => h (cmp_ge.mpr e))))
theorem vc_lif_ne {x y off : Int} {pc1 : Nat} (hd : At (mB D) pc .lcmp 1 pc1) (hd2 : AtB (mB D) pc1 (.ifCond .ne off) off pc' tgt) (kt : ¬ x = y → VC l D tgt L st M kc ks Q) (kf : x = y → VC l D pc' L st M kc ks Q) : VC l D pc L (aL y :: aL x :: st) M kc ks Q := vc_lcmp hd (vc_if_ne hd2 (fun h => kt (fun e => h (cmp_eq.mpr e))) (fun h => kf (cmp_eq.mp h)))
variable {D' : MD} {as : List AV} {v : AV} {M2 : Mem}
theorem vc_callVF {idx k ci n : Nat} {T : u_T} {N : Nat} {stk : List AV} (hd : At (mB D) pc (.invokevirtual idx) 3 pc') (hcall : Fn l D' (aR k :: as) M (some v) M2) (hstk : as.reverse ++ aR k :: st = stk) (hm : MOk D' n) (hv : MVi D') (hlk : LkM (mY D).cls idx D') (hs : M.1[k]? = some (.inl ci)) (hci : vwCl[ci]? = some ((mY D').cls, T, N)) (hlen : as.length = n) (hlev : mV D' < mV D) (h0 : mC D' = 0 ∧ mS D' = 0) (hc1 : kc ≤ mC D) (hc2 : ks ≤ mS D) (hsum : (st.map catA).sum ≤ 8) (kk : VC l D pc' L (v :: st) M2 kc ks Q) : VC l D pc L stk M kc ks Q :=
  vc_callV hd hm hv hlk hs hci hlen hlev (by rw [h0.1]; exact hc1) (by rw [h0.2]; exact hc2) hsum _ hstk hcall (fun r M' h _ => by obtain ⟨rfl, rfl⟩ := h; rw [h0.1, h0.2]; exact kk)
theorem vc_callVU {idx k ci n : Nat} {T : u_T} {N : Nat} {stk : List AV} (hd : At (mB D) pc (.invokevirtual idx) 3 pc') (hcall : Fn l D' (aR k :: as) M none M2) (hstk : as.reverse ++ aR k :: st = stk) (hm : MOk D' n) (hv : MVi D') (hlk : LkM (mY D).cls idx D') (hs : M.1[k]? = some (.inl ci)) (hci : vwCl[ci]? = some ((mY D').cls, T, N)) (hlen : as.length = n) (hlev : mV D' < mV D) (h0 : mC D' = 0 ∧ mS D' = 0) (hc1 : kc ≤ mC D) (hc2 : ks ≤ mS D) (hsum : (st.map catA).sum ≤ 8) (kk : VC l D pc' L st M2 kc ks Q) : VC l D pc L stk M kc ks Q :=
  vc_callV hd hm hv hlk hs hci hlen hlev (by rw [h0.1]; exact hc1) (by rw [h0.2]; exact hc2) hsum _ hstk hcall (fun r M' h _ => by obtain ⟨rfl, rfl⟩ := h; rw [h0.1, h0.2]; exact kk)
theorem vc_callSF {idx n : Nat} {stk : List AV} (hd : At (mB D) pc (.invokestatic idx) 3 pc') (hcall : Fn l D' (as) M (some v) M2) (hstk : as.reverse ++ st = stk) (hm : MOk D' n) (hv : MSt D') (hlk : LkM (mY D).cls idx D') (hlen : as.length = n) (hlev : mV D' < mV D) (h0 : mC D' = 0 ∧ mS D' = 0) (hc1 : kc ≤ mC D) (hc2 : ks ≤ mS D) (hsum : (st.map catA).sum ≤ 8) (kk : VC l D pc' L (v :: st) M2 kc ks Q) : VC l D pc L stk M kc ks Q :=
  vc_callS hd hm hv hlk hlen hlev (by rw [h0.1]; exact hc1) (by rw [h0.2]; exact hc2) hsum _ hstk hcall (fun r M' h _ => by obtain ⟨rfl, rfl⟩ := h; rw [h0.1, h0.2]; exact kk)
theorem vc_callSU {idx n : Nat} {stk : List AV} (hd : At (mB D) pc (.invokestatic idx) 3 pc') (hcall : Fn l D' (as) M none M2) (hstk : as.reverse ++ st = stk) (hm : MOk D' n) (hv : MSt D') (hlk : LkM (mY D).cls idx D') (hlen : as.length = n) (hlev : mV D' < mV D) (h0 : mC D' = 0 ∧ mS D' = 0) (hc1 : kc ≤ mC D) (hc2 : ks ≤ mS D) (hsum : (st.map catA).sum ≤ 8) (kk : VC l D pc' L st M2 kc ks Q) : VC l D pc L stk M kc ks Q :=
  vc_callS hd hm hv hlk hlen hlev (by rw [h0.1]; exact hc1) (by rw [h0.2]; exact hc2) hsum _ hstk hcall (fun r M' h _ => by obtain ⟨rfl, rfl⟩ := h; rw [h0.1, h0.2]; exact kk)
theorem vc_callNF {idx n : Nat} {host : String} {stk : List AV} (hd : At (mB D) pc (.invokestatic idx) 3 pc') (hcall : Fn l D' (as) M (some v) M2) (hstk : as.reverse ++ st = stk) (hm : MOk D' n) (hv : MSt D') (hlk : ∀ (A : Nat → Prop) (U : State) (H : Heap), Ext A U H → va_Nw (.methodLinkNest (mY D).cls idx (mY D') host) U) (hlen : as.length = n) (hlev : mV D' < mV D) (h0 : mC D' = 0 ∧ mS D' = 0) (hc1 : kc ≤ mC D) (hc2 : ks ≤ mS D) (hsum : (st.map catA).sum ≤ 8) (kk : VC l D pc' L (v :: st) M2 kc ks Q) : VC l D pc L stk M kc ks Q :=
  vc_callSN hd hm hv hlk hlen hlev (by rw [h0.1]; exact hc1) (by rw [h0.2]; exact hc2) hsum _ hstk hcall (fun r M' h _ => by obtain ⟨rfl, rfl⟩ := h; rw [h0.1, h0.2]; exact kk)
end VCE
theorem cl_0 : vwCl[0]? = some (RX0, TX0, 5) := rfl
theorem cl_1 : vwCl[1]? = some (RX1, TX1, 5) := rfl
theorem cl_2 : vwCl[2]? = some (RX2, TX2, 4) := rfl
theorem cl_3 : vwCl[3]? = some (RX3, TX3, 6) := rfl
theorem cl_4 : vwCl[4]? = some (RX4, TX4, 15) := rfl
theorem cl_5 : vwCl[5]? = some (RX5, TX5, 4) := rfl
theorem cl_6 : vwCl[6]? = some (RX6, TX6, 12) := rfl
theorem cl_7 : vwCl[7]? = some (RX7, TX7, 11) := rfl
theorem cl_8 : vwCl[8]? = some (RX8, TX8, 4) := rfl
theorem cl_9 : vwCl[9]? = some (RX9, TX9, 4) := rfl
theorem cl_10 : vwCl[10]? = some (RX10, TX10, 8) := rfl
theorem cl_11 : vwCl[11]? = some (RX11, TX11, 16) := rfl
theorem cl_12 : vwCl[12]? = some (RX12, TX12, 47) := rfl
