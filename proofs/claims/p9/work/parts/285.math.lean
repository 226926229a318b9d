/-! Math.max, Math.min: run by the machine's own entries. -/
section VCMM
variable {l : Launch} {D : MD} {pc pc' tgt : Nat} {L L' : List (Option AV)} {st : List AV} {M : Mem} {kc ks : Nat} {Q : Option AV → Mem → Prop}
def maxZ (x y : Int) : Int := if x < y then y else x
def minZ (x y : Int) : Int := if y < x then y else x
theorem vc_mmaxI {idx : Nat} {x y : Int} (hd : At (mB D) pc (.invokestatic idx) 3 pc') (hlk : LkM (mY D).cls idx mdJ9_max_7cf53) (h1 : kc ≤ mC D) (h2 : ks ≤ mS D) (hsum : (st.map catA).sum ≤ 8) (k : VC l D pc' L (aI (maxZ x y) :: st) M kc ks Q) : VC l D pc L (aI y :: aI x :: st) M kc ks Q := by
  intro p e s m args below meth c dC dI dA ad0 n0 A ad H locs ls C hA h0 hn hst hL hW hS hl
  obtain ⟨hd, rfl⟩ := hd
  obtain ⟨hy, hst⟩ := okS_cons.mp hst
  obtain ⟨hx, hst⟩ := okS_cons.mp hst
  have hts := C.2.2.2.2.2.2.1
  have hr : inI (maxZ x y) := by unfold maxZ; split; exact hy; exact hx
  have k2 := k p e s m args below meth c dC dI dA ad0 n0 A ad H locs ls C hA h0 hn (okS_cons.mpr ⟨hr, hst⟩) hL hW hS hl
  refine va_mmax (x := Int32.ofInt x) (y := Int32.ofInt y) C.1 C.2.1 (by rw [C.2.2.2.2.1]; exact hl.1.symm) C.2.2.2.2.2.1 (hts _ hlk) (hts _ stJ9_max_7cf53) (hts _ okJ9_max_7cf53.2.1) (hts _ okJ9_max_7cf53.1) (Nat.succ_le_succ (Nat.zero_le _)) (by rw [cat_sum]; show _ ≤ 64 * mV D + 64; omega) h1 h2 hd ?_
  have e : (if Int32.ofInt x < Int32.ofInt y then Int32.ofInt y else Int32.ofInt x) = Int32.ofInt (maxZ x y) := by
    unfold maxZ
    by_cases h : x < y
    · rw [if_pos h, if_pos ((oI_lt hx hy).mpr h)]
    · rw [if_neg h, if_neg (fun q => h ((oI_lt hx hy).mp q))]
  rw [e]
  exact k2
theorem vc_mminI {idx : Nat} {x y : Int} (hd : At (mB D) pc (.invokestatic idx) 3 pc') (hlk : LkM (mY D).cls idx mdJ9_min_7cf53) (h1 : kc ≤ mC D) (h2 : ks ≤ mS D) (hsum : (st.map catA).sum ≤ 8) (k : VC l D pc' L (aI (minZ x y) :: st) M kc ks Q) : VC l D pc L (aI y :: aI x :: st) M kc ks Q := by
  intro p e s m args below meth c dC dI dA ad0 n0 A ad H locs ls C hA h0 hn hst hL hW hS hl
  obtain ⟨hd, rfl⟩ := hd
  obtain ⟨hy, hst⟩ := okS_cons.mp hst
  obtain ⟨hx, hst⟩ := okS_cons.mp hst
  have hts := C.2.2.2.2.2.2.1
  have hr : inI (minZ x y) := by unfold minZ; split; exact hy; exact hx
  have k2 := k p e s m args below meth c dC dI dA ad0 n0 A ad H locs ls C hA h0 hn (okS_cons.mpr ⟨hr, hst⟩) hL hW hS hl
  refine va_mmin (x := Int32.ofInt x) (y := Int32.ofInt y) C.1 C.2.1 (by rw [C.2.2.2.2.1]; exact hl.1.symm) C.2.2.2.2.2.1 (hts _ hlk) (hts _ stJ9_min_7cf53) (hts _ okJ9_min_7cf53.2.1) (hts _ okJ9_min_7cf53.1) (Nat.succ_le_succ (Nat.zero_le _)) (by rw [cat_sum]; show _ ≤ 64 * mV D + 64; omega) h1 h2 hd ?_
  have e : (if Int32.ofInt y < Int32.ofInt x then Int32.ofInt y else Int32.ofInt x) = Int32.ofInt (minZ x y) := by
    unfold minZ
    by_cases h : y < x
    · rw [if_pos h, if_pos ((oI_lt hy hx).mpr h)]
    · rw [if_neg h, if_neg (fun q => h ((oI_lt hy hx).mp q))]
  rw [e]
  exact k2
theorem vc_mmaxL {idx : Nat} {x y : Int} (hd : At (mB D) pc (.invokestatic idx) 3 pc') (hlk : LkM (mY D).cls idx mdJ9_max_f86c9) (h1 : kc ≤ mC D) (h2 : ks ≤ mS D) (hsum : (st.map catA).sum ≤ 8) (k : VC l D pc' L (aL (maxZ x y) :: st) M kc ks Q) : VC l D pc L (aL y :: aL x :: st) M kc ks Q := by
  intro p e s m args below meth c dC dI dA ad0 n0 A ad H locs ls C hA h0 hn hst hL hW hS hl
  obtain ⟨hd, rfl⟩ := hd
  obtain ⟨hy, hst⟩ := okS_cons.mp hst
  obtain ⟨hx, hst⟩ := okS_cons.mp hst
  have hts := C.2.2.2.2.2.2.1
  have hr : inL (maxZ x y) := by unfold maxZ; split; exact hy; exact hx
  have k2 := k p e s m args below meth c dC dI dA ad0 n0 A ad H locs ls C hA h0 hn (okS_cons.mpr ⟨hr, hst⟩) hL hW hS hl
  refine va_mmax_long (x := Int64.ofInt x) (y := Int64.ofInt y) C.1 C.2.1 (by rw [C.2.2.2.2.1]; exact hl.1.symm) C.2.2.2.2.2.1 (hts _ hlk) (hts _ stJ9_max_f86c9) (hts _ okJ9_max_f86c9.2.1) (hts _ okJ9_max_f86c9.1) (Nat.succ_le_succ (Nat.zero_le _)) (by rw [cat_sum]; show _ ≤ 64 * mV D + 64; omega) h1 h2 hd ?_
  have e : (if Int64.ofInt y < Int64.ofInt x then Int64.ofInt x else Int64.ofInt y) = Int64.ofInt (maxZ x y) := by
    unfold maxZ
    by_cases h : y < x
    · rw [if_pos ((oL_lt hy hx).mpr h), if_neg (by omega)]
    · rw [if_neg (fun q => h ((oL_lt hy hx).mp q))]
      by_cases h3 : x < y
      · rw [if_pos h3]
      · rw [if_neg h3, show x = y by omega]
  rw [e]
  exact k2
theorem vc_mminL {idx : Nat} {x y : Int} (hd : At (mB D) pc (.invokestatic idx) 3 pc') (hlk : LkM (mY D).cls idx mdJ9_min_f86c9) (h1 : kc ≤ mC D) (h2 : ks ≤ mS D) (hsum : (st.map catA).sum ≤ 8) (k : VC l D pc' L (aL (minZ x y) :: st) M kc ks Q) : VC l D pc L (aL y :: aL x :: st) M kc ks Q := by
  intro p e s m args below meth c dC dI dA ad0 n0 A ad H locs ls C hA h0 hn hst hL hW hS hl
  obtain ⟨hd, rfl⟩ := hd
  obtain ⟨hy, hst⟩ := okS_cons.mp hst
  obtain ⟨hx, hst⟩ := okS_cons.mp hst
  have hts := C.2.2.2.2.2.2.1
  have hr : inL (minZ x y) := by unfold minZ; split; exact hy; exact hx
  have k2 := k p e s m args below meth c dC dI dA ad0 n0 A ad H locs ls C hA h0 hn (okS_cons.mpr ⟨hr, hst⟩) hL hW hS hl
  refine va_mmin_long (x := Int64.ofInt x) (y := Int64.ofInt y) C.1 C.2.1 (by rw [C.2.2.2.2.1]; exact hl.1.symm) C.2.2.2.2.2.1 (hts _ hlk) (hts _ stJ9_min_f86c9) (hts _ okJ9_min_f86c9.2.1) (hts _ okJ9_min_f86c9.1) (Nat.succ_le_succ (Nat.zero_le _)) (by rw [cat_sum]; show _ ≤ 64 * mV D + 64; omega) h1 h2 hd ?_
  have e : (if Int64.ofInt y < Int64.ofInt x then Int64.ofInt y else Int64.ofInt x) = Int64.ofInt (minZ x y) := by
    unfold minZ
    by_cases h : y < x
    · rw [if_pos h, if_pos ((oL_lt hy hx).mpr h)]
    · rw [if_neg h, if_neg (fun q => h ((oL_lt hy hx).mp q))]
  rw [e]
  exact k2
end VCMM
