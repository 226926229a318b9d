/-! CONSTRUCTORS (written by wip/whole/p50.py) -/
section VCQ
variable {l : Launch} {D : MD} {pc pc' : Nat} {L : List (Option AV)} {st : List AV} {M : Mem} {kc ks : Nat} {Q : Option AV → Mem → Prop}
theorem ln_mk {sh : Sh} {n : Nat} (h : M.1.length = n) : (mkC M sh).1.length = n + 1 := by rw [mkC_len, h]
theorem sh_mk {sh x : Sh} {k : Nat} (h : M.1[k]? = some x) : (mkC M sh).1[k]? = some x := by
  show (M.1 ++ [sh])[k]? = _
  rw [List.getElem?_append_left (List.getElem?_eq_some_iff.mp h).1]
  exact h
theorem sh_nw {sh : Sh} {q : Nat} (h : M.1.length = q) : (mkC M sh).1[q]? = some sh := by
  subst h
  show (M.1 ++ [sh])[M.1.length]? = _
  simp
theorem vc_newIq (N q : Nat) {n : Int} (hd : At (mB D) pc (.newarray .int) 2 pc') (hn : n = (N : Int)) (hq : M.1.length = q) (hb : N ≤ 100000) (h1 : kc + 1 ≤ mC D) (h2 : ks + N ≤ mS D) (kk : VC l D pc' L (aR q :: st) (mkC M (.inr (0, N))) (kc + 1) (ks + N) Q) : VC l D pc L (aI n :: st) M kc ks Q := by
  subst hq; subst hn
  exact vc_newI hd (by omega) (by omega) h1 (by simpa using h2) (by simpa using kk)
theorem vc_newJq (N q : Nat) {n : Int} (hd : At (mB D) pc (.newarray .long) 2 pc') (hn : n = (N : Int)) (hq : M.1.length = q) (hb : N ≤ 100000) (h1 : kc + 1 ≤ mC D) (h2 : ks + N ≤ mS D) (kk : VC l D pc' L (aR q :: st) (mkC M (.inr (1, N))) (kc + 1) (ks + N) Q) : VC l D pc L (aI n :: st) M kc ks Q := by
  subst hq; subst hn
  exact vc_newJ hd (by omega) (by omega) h1 (by simpa using h2) (by simpa using kk)
theorem vc_newZq (N q : Nat) {n : Int} (hd : At (mB D) pc (.newarray .boolean) 2 pc') (hn : n = (N : Int)) (hq : M.1.length = q) (hb : N ≤ 100000) (h1 : kc + 1 ≤ mC D) (h2 : ks + N ≤ mS D) (kk : VC l D pc' L (aR q :: st) (mkC M (.inr (2, N))) (kc + 1) (ks + N) Q) : VC l D pc L (aI n :: st) M kc ks Q := by
  subst hq; subst hn
  exact vc_newZ hd (by omega) (by omega) h1 (by simpa using h2) (by simpa using kk)
theorem vc_newTq (N q : Nat) {n : Int} {idx : Nat} (hd : At (mB D) pc (.anewarray idx) 3 pc') (hlk : Cond.classLink (mY D).cls idx RX5 ∈ tblG) (hn : n = (N : Int)) (hq : M.1.length = q) (hb : N ≤ 100000) (h1 : kc + 1 ≤ mC D) (h2 : ks + N ≤ mS D) (kk : VC l D pc' L (aR q :: st) (mkC M (.inr (3, N))) (kc + 1) (ks + N) Q) : VC l D pc L (aI n :: st) M kc ks Q := by
  subst hq; subst hn
  exact vc_newT hd hlk (by omega) (by omega) h1 (by simpa using h2) (by simpa using kk)
theorem vc_newOq (q : Nat) {idx ci : Nat} {CC : String} {T : u_T} {N : Nat} (hd : At (mB D) pc (.new idx) 3 pc') (hq : M.1.length = q) (hci : vwCl[ci]? = some (CC, T, N)) (hlk : Cond.classLink (mY D).cls idx CC ∈ tblG) (hins : Cond.instantiable CC N ∈ tblG) (hini : Cond.initialized CC ∈ tblG) (h1 : kc + 1 ≤ mC D) (h2 : ks + N ≤ mS D) (kk : VC l D pc' L (aR q :: st) (mkC M (.inl ci)) (kc + 1) (ks + N) Q) : VC l D pc L st M kc ks Q := by
  subst hq
  exact vc_new hd hci hlk hins hini h1 h2 kk
variable {D' : MD} {as : List AV} {M2 : Mem}
theorem vc_callIU {idx k n : Nat} {stk : List AV} (hd : At (mB D) pc (.invokespecial idx) 3 pc') (hcall : Fn l D' (aR k :: as) M none M2) (hstk : as.reverse ++ aR k :: st = stk) (hm : MOk D' n) (hv : Cond.instanceMethod (mY D') ∈ tblG) (hnm : (mY D').name = "<init>") (hret : mT D' = none) (hlk : LkM (mY D).cls idx D') (hlen : as.length = n) (hlev : mV D' < mV D) (hc1 : kc + mC D' ≤ mC D) (hc2 : ks + mS D' ≤ mS D) (hsum : (st.map catA).sum ≤ 8) (kk : VC l D pc' L st M2 (kc + mC D') (ks + mS D') Q) : VC l D pc L stk M kc ks Q :=
  vc_callI hd hm hv hnm hret hlk hlen hlev hc1 hc2 hsum _ hstk hcall (fun r M' h _ => by obtain ⟨rfl, rfl⟩ := h; exact kk)
end VCQ
/-- a row of ints filled -/
def flI (M : Mem) (k n : Nat) (v : Int) : Mem := (M.1, fun a b => if a = k ∧ b < n then v else mI M a b, M.2.2)
theorem mI_flI (M : Mem) (k n : Nat) (v : Int) (a b : Nat) : mI (flI M k n v) a b = if a = k ∧ b < n then v else mI M a b := rfl
theorem flI_0 (M : Mem) (k : Nat) (v : Int) : flI M k 0 v = M := by
  refine mem_ext rfl (fun a b => ?_) (fun _ _ => rfl) (fun _ _ => rfl)
  rw [mI_flI, if_neg (by omega)]
theorem flI_step (M : Mem) (k n : Nat) (v : Int) : sI (flI M k n v) k n v = flI M k (n + 1) v := by
  refine mem_ext rfl (fun a b => ?_) (fun _ _ => rfl) (fun _ _ => rfl)
  rw [mI_sI, mI_flI, mI_flI]
  by_cases h1 : a = k ∧ b = n
  · rw [if_pos h1, if_pos (by omega)]
  · rw [if_neg h1]
    by_cases h2 : a = k ∧ b < n
    · rw [if_pos h2, if_pos (by omega)]
    · rw [if_neg h2, if_neg (by omega)]
theorem St.F {M : Mem} (h : St M) (k n : Nat) (v : Int) : St (flI M k n v) := h
theorem qJ7_fill_53178 {l : Launch} {M : Mem} (k n : Nat) (hs : M.1[k]? = some (.inr (0, n))) (hn : n ≤ 100000) (v : Int) : Fn l mdJ7_fill_53178 [aR k, aI v] M none (flI M k n v) := by
  have loop : ∀ (j i : Nat), i + j = n → VC l mdJ7_fill_53178 5 [some (aR k), some (aI v), some (aI (i : Int)), some (aI (n : Int))] [] (flI M k i v) 0 0 (fun r M2 => r = none ∧ M2 = flI M k n v) := by
    intro j
    induction j with
    | zero =>
      intro i hi
      have e : i = n := by omega
      subst e
      refine vc_iload_n dJ7_fill_53178_5 rfl ?_
      refine vc_iload_n dJ7_fill_53178_6 rfl ?_
      refine vc_icmp_ge dJ7_fill_53178_7 (fun h1 => ?_) (fun h1 => by exfalso; omega)
      refine vc_vret dJ7_fill_53178_20 rfl (Nat.le_of_ble_eq_true rfl) (Nat.le_of_ble_eq_true rfl) ?_
      exact ⟨rfl, rfl⟩
    | succ j ih =>
      intro i hi
      refine vc_iload_n dJ7_fill_53178_5 rfl ?_
      refine vc_iload_n dJ7_fill_53178_6 rfl ?_
      refine vc_icmp_ge dJ7_fill_53178_7 (fun h1 => by exfalso; omega) (fun h1 => ?_)
      refine vc_aload_n dJ7_fill_53178_10 rfl ?_
      refine vc_iload_n dJ7_fill_53178_11 rfl ?_
      refine vc_iload_n dJ7_fill_53178_12 rfl ?_
      refine vc_iastore dJ7_fill_53178_13 hs (by omega) (by omega) ?_
      refine vc_iincE dJ7_fill_53178_14 rfl (by omega) (by omega) (by decide) rfl (show _ = [some (aR k), some (aI v), some (aI ((i : Int) + 1)), some (aI (n : Int))] from rfl) ?_
      refine vc_goto dJ7_fill_53178_17 ?_
      rw [show (i : Int).toNat = i from Int.toNat_natCast i, flI_step, show (i : Int) + 1 = ((i + 1 : Nat) : Int) by omega]
      exact ih (i + 1) (by omega)
  refine Call.of [some (aR k), some (aI v), none, none] (by decide +kernel) (Nat.le_of_ble_eq_true rfl) rfl ?_
  refine vc_iconst dJ7_fill_53178_0 rfl ?_
  refine vc_istore_n dJ7_fill_53178_1 (by decide) rfl (show _ = [some (aR k), some (aI v), some (aI 0), none] from rfl) ?_
  refine vc_aload_n dJ7_fill_53178_2 rfl ?_
  refine vc_alen dJ7_fill_53178_3 hs (by simp; omega) ?_
  refine vc_istore_n dJ7_fill_53178_4 (by decide) rfl (show _ = [some (aR k), some (aI v), some (aI 0), some (aI (n : Int))] from rfl) ?_
  have h0 := loop n 0 (by omega)
  rw [flI_0] at h0
  exact h0
def gX6_init_1 (M : Mem) : Mem := sI (sI (flI (sR (mkC (sR (mkC (sR (mkC (sR (mkC (sR (mkC (sR (mkC M (.inr (0, 16))) 1 0 (some 2)) (.inr (0, 64))) 1 1 (some 3)) (.inr (0, 64))) 1 2 (some 4)) (.inr (0, 24))) 1 3 (some 5)) (.inr (0, 72))) 1 4 (some 6)) (.inr (3, 4))) 1 5 (some 7)) 3 64 (-1)) 1 7 (-1)) 1 11 (-1)
set_option maxRecDepth 8000 in
theorem qX6_init_1 {l : Launch} {M : Mem} (hl : M.1.length = 2) (hk : M.1[1]? = some (.inl 6)) : Fn l mdX6_init [aR 1] M none (gX6_init_1 M) := by
  refine Call.of [some (aR 1)] rfl (Nat.le_of_ble_eq_true rfl) rfl ?_
  refine vc_aload_n dX6_init_0 rfl ?_
  refine vc_objInit dX6_init_1 oiX6_3 (Nat.le_of_ble_eq_true rfl) ?_
  refine vc_aload_n dX6_init_4 rfl ?_
  refine vc_bipush dX6_init_5 rfl ?_
  refine vc_newIq 16 2 dX6_init_7 rfl hl (Nat.le_of_ble_eq_true rfl) (Nat.le_of_ble_eq_true rfl) (Nat.le_of_ble_eq_true rfl) ?_
  refine vc_putR dX6_init_9 (plX6_9 _ rfl rfl) (sh_mk hk) rfl ?_
  refine vc_aload_n dX6_init_12 rfl ?_
  refine vc_bipush dX6_init_13 rfl ?_
  refine vc_newIq 64 3 dX6_init_15 rfl (ln_mk hl) (Nat.le_of_ble_eq_true rfl) (Nat.le_of_ble_eq_true rfl) (Nat.le_of_ble_eq_true rfl) ?_
  refine vc_putR dX6_init_17 (plX6_15 _ rfl rfl) (sh_mk (sh_mk hk)) rfl ?_
  refine vc_aload_n dX6_init_20 rfl ?_
  refine vc_bipush dX6_init_21 rfl ?_
  refine vc_newIq 64 4 dX6_init_23 rfl (ln_mk (ln_mk hl)) (Nat.le_of_ble_eq_true rfl) (Nat.le_of_ble_eq_true rfl) (Nat.le_of_ble_eq_true rfl) ?_
  refine vc_putR dX6_init_25 (plX6_18 _ rfl rfl) (sh_mk (sh_mk (sh_mk hk))) rfl ?_
  refine vc_aload_n dX6_init_28 rfl ?_
  refine vc_bipush dX6_init_29 rfl ?_
  refine vc_newIq 24 5 dX6_init_31 rfl (ln_mk (ln_mk (ln_mk hl))) (Nat.le_of_ble_eq_true rfl) (Nat.le_of_ble_eq_true rfl) (Nat.le_of_ble_eq_true rfl) ?_
  refine vc_putR dX6_init_33 (plX6_21 _ rfl rfl) (sh_mk (sh_mk (sh_mk (sh_mk hk)))) rfl ?_
  refine vc_aload_n dX6_init_36 rfl ?_
  refine vc_bipush dX6_init_37 rfl ?_
  refine vc_newIq 72 6 dX6_init_39 rfl (ln_mk (ln_mk (ln_mk (ln_mk hl)))) (Nat.le_of_ble_eq_true rfl) (Nat.le_of_ble_eq_true rfl) (Nat.le_of_ble_eq_true rfl) ?_
  refine vc_putR dX6_init_41 (plX6_24 _ rfl rfl) (sh_mk (sh_mk (sh_mk (sh_mk (sh_mk hk))))) rfl ?_
  refine vc_aload_n dX6_init_44 rfl ?_
  refine vc_iconst dX6_init_45 rfl ?_
  refine vc_newTq 4 7 dX6_init_46 clX6_27 rfl (ln_mk (ln_mk (ln_mk (ln_mk (ln_mk hl))))) (Nat.le_of_ble_eq_true rfl) (Nat.le_of_ble_eq_true rfl) (Nat.le_of_ble_eq_true rfl) ?_
  refine vc_putR dX6_init_49 (plX6_29 _ rfl rfl) (sh_mk (sh_mk (sh_mk (sh_mk (sh_mk (sh_mk hk)))))) rfl ?_
  refine vc_aload_n dX6_init_52 rfl ?_
  refine vc_getR dX6_init_53 flX6_15 (sh_mk (sh_mk (sh_mk (sh_mk (sh_mk (sh_mk hk)))))) rfl rfl ?_
  refine vc_iconst dX6_init_56 rfl ?_
  refine vc_callSU dX6_init_57 (qJ7_fill_53178 (M := (sR (mkC (sR (mkC (sR (mkC (sR (mkC (sR (mkC (sR (mkC M (.inr (0, 16))) 1 0 (some 2)) (.inr (0, 64))) 1 1 (some 3)) (.inr (0, 64))) 1 2 (some 4)) (.inr (0, 24))) 1 3 (some 5)) (.inr (0, 72))) 1 4 (some 6)) (.inr (3, 4))) 1 5 (some 7))) 3 64 (sh_mk (sh_mk (sh_mk (sh_mk (sh_nw (ln_mk hl)))))) (by decide) (-1)) rfl okJ7_fill_53178 stJ7_fill_53178 lkX6_33 rfl (Nat.le_of_ble_eq_true rfl) ⟨rfl, rfl⟩ (Nat.le_of_ble_eq_true rfl) (Nat.le_of_ble_eq_true rfl) (Nat.le_of_ble_eq_true rfl) ?_
  refine vc_aload_n dX6_init_60 rfl ?_
  refine vc_iconst dX6_init_61 rfl ?_
  refine vc_putI dX6_init_62 (plX6_39 _ rfl) (sh_mk (sh_mk (sh_mk (sh_mk (sh_mk (sh_mk hk)))))) rfl ?_
  refine vc_aload_n dX6_init_65 rfl ?_
  refine vc_iconst dX6_init_66 rfl ?_
  refine vc_putI dX6_init_67 (plX6_43 _ rfl) (sh_mk (sh_mk (sh_mk (sh_mk (sh_mk (sh_mk hk)))))) rfl ?_
  refine vc_vret dX6_init_70 rfl (Nat.le_of_ble_eq_true rfl) (Nat.le_of_ble_eq_true rfl) ?_
  exact ⟨rfl, rfl⟩
theorem lX6_init_1 {M : Mem} (hl : M.1.length = 2) : (gX6_init_1 M).1.length = 8 := (ln_mk (ln_mk (ln_mk (ln_mk (ln_mk (ln_mk hl))))))
theorem xX6_init_1 {M : Mem} {k : Nat} {x : Sh} (h : M.1[k]? = some x) : (gX6_init_1 M).1[k]? = some x := (sh_mk (sh_mk (sh_mk (sh_mk (sh_mk (sh_mk h))))))
def gX6_init_8 (M : Mem) : Mem := sI (sI (flI (sR (mkC (sR (mkC (sR (mkC (sR (mkC (sR (mkC (sR (mkC M (.inr (0, 16))) 8 0 (some 9)) (.inr (0, 64))) 8 1 (some 10)) (.inr (0, 64))) 8 2 (some 11)) (.inr (0, 24))) 8 3 (some 12)) (.inr (0, 72))) 8 4 (some 13)) (.inr (3, 4))) 8 5 (some 14)) 10 64 (-1)) 8 7 (-1)) 8 11 (-1)
set_option maxRecDepth 8000 in
theorem qX6_init_8 {l : Launch} {M : Mem} (hl : M.1.length = 9) (hk : M.1[8]? = some (.inl 6)) : Fn l mdX6_init [aR 8] M none (gX6_init_8 M) := by
  refine Call.of [some (aR 8)] rfl (Nat.le_of_ble_eq_true rfl) rfl ?_
  refine vc_aload_n dX6_init_0 rfl ?_
  refine vc_objInit dX6_init_1 oiX6_3 (Nat.le_of_ble_eq_true rfl) ?_
  refine vc_aload_n dX6_init_4 rfl ?_
  refine vc_bipush dX6_init_5 rfl ?_
  refine vc_newIq 16 9 dX6_init_7 rfl hl (Nat.le_of_ble_eq_true rfl) (Nat.le_of_ble_eq_true rfl) (Nat.le_of_ble_eq_true rfl) ?_
  refine vc_putR dX6_init_9 (plX6_9 _ rfl rfl) (sh_mk hk) rfl ?_
  refine vc_aload_n dX6_init_12 rfl ?_
  refine vc_bipush dX6_init_13 rfl ?_
  refine vc_newIq 64 10 dX6_init_15 rfl (ln_mk hl) (Nat.le_of_ble_eq_true rfl) (Nat.le_of_ble_eq_true rfl) (Nat.le_of_ble_eq_true rfl) ?_
  refine vc_putR dX6_init_17 (plX6_15 _ rfl rfl) (sh_mk (sh_mk hk)) rfl ?_
  refine vc_aload_n dX6_init_20 rfl ?_
  refine vc_bipush dX6_init_21 rfl ?_
  refine vc_newIq 64 11 dX6_init_23 rfl (ln_mk (ln_mk hl)) (Nat.le_of_ble_eq_true rfl) (Nat.le_of_ble_eq_true rfl) (Nat.le_of_ble_eq_true rfl) ?_
  refine vc_putR dX6_init_25 (plX6_18 _ rfl rfl) (sh_mk (sh_mk (sh_mk hk))) rfl ?_
  refine vc_aload_n dX6_init_28 rfl ?_
  refine vc_bipush dX6_init_29 rfl ?_
  refine vc_newIq 24 12 dX6_init_31 rfl (ln_mk (ln_mk (ln_mk hl))) (Nat.le_of_ble_eq_true rfl) (Nat.le_of_ble_eq_true rfl) (Nat.le_of_ble_eq_true rfl) ?_
  refine vc_putR dX6_init_33 (plX6_21 _ rfl rfl) (sh_mk (sh_mk (sh_mk (sh_mk hk)))) rfl ?_
  refine vc_aload_n dX6_init_36 rfl ?_
  refine vc_bipush dX6_init_37 rfl ?_
  refine vc_newIq 72 13 dX6_init_39 rfl (ln_mk (ln_mk (ln_mk (ln_mk hl)))) (Nat.le_of_ble_eq_true rfl) (Nat.le_of_ble_eq_true rfl) (Nat.le_of_ble_eq_true rfl) ?_
  refine vc_putR dX6_init_41 (plX6_24 _ rfl rfl) (sh_mk (sh_mk (sh_mk (sh_mk (sh_mk hk))))) rfl ?_
  refine vc_aload_n dX6_init_44 rfl ?_
  refine vc_iconst dX6_init_45 rfl ?_
  refine vc_newTq 4 14 dX6_init_46 clX6_27 rfl (ln_mk (ln_mk (ln_mk (ln_mk (ln_mk hl))))) (Nat.le_of_ble_eq_true rfl) (Nat.le_of_ble_eq_true rfl) (Nat.le_of_ble_eq_true rfl) ?_
  refine vc_putR dX6_init_49 (plX6_29 _ rfl rfl) (sh_mk (sh_mk (sh_mk (sh_mk (sh_mk (sh_mk hk)))))) rfl ?_
  refine vc_aload_n dX6_init_52 rfl ?_
  refine vc_getR dX6_init_53 flX6_15 (sh_mk (sh_mk (sh_mk (sh_mk (sh_mk (sh_mk hk)))))) rfl rfl ?_
  refine vc_iconst dX6_init_56 rfl ?_
  refine vc_callSU dX6_init_57 (qJ7_fill_53178 (M := (sR (mkC (sR (mkC (sR (mkC (sR (mkC (sR (mkC (sR (mkC M (.inr (0, 16))) 8 0 (some 9)) (.inr (0, 64))) 8 1 (some 10)) (.inr (0, 64))) 8 2 (some 11)) (.inr (0, 24))) 8 3 (some 12)) (.inr (0, 72))) 8 4 (some 13)) (.inr (3, 4))) 8 5 (some 14))) 10 64 (sh_mk (sh_mk (sh_mk (sh_mk (sh_nw (ln_mk hl)))))) (by decide) (-1)) rfl okJ7_fill_53178 stJ7_fill_53178 lkX6_33 rfl (Nat.le_of_ble_eq_true rfl) ⟨rfl, rfl⟩ (Nat.le_of_ble_eq_true rfl) (Nat.le_of_ble_eq_true rfl) (Nat.le_of_ble_eq_true rfl) ?_
  refine vc_aload_n dX6_init_60 rfl ?_
  refine vc_iconst dX6_init_61 rfl ?_
  refine vc_putI dX6_init_62 (plX6_39 _ rfl) (sh_mk (sh_mk (sh_mk (sh_mk (sh_mk (sh_mk hk)))))) rfl ?_
  refine vc_aload_n dX6_init_65 rfl ?_
  refine vc_iconst dX6_init_66 rfl ?_
  refine vc_putI dX6_init_67 (plX6_43 _ rfl) (sh_mk (sh_mk (sh_mk (sh_mk (sh_mk (sh_mk hk)))))) rfl ?_
  refine vc_vret dX6_init_70 rfl (Nat.le_of_ble_eq_true rfl) (Nat.le_of_ble_eq_true rfl) ?_
  exact ⟨rfl, rfl⟩
theorem lX6_init_8 {M : Mem} (hl : M.1.length = 9) : (gX6_init_8 M).1.length = 15 := (ln_mk (ln_mk (ln_mk (ln_mk (ln_mk (ln_mk hl))))))
theorem xX6_init_8 {M : Mem} {k : Nat} {x : Sh} (h : M.1[k]? = some x) : (gX6_init_8 M).1[k]? = some x := (sh_mk (sh_mk (sh_mk (sh_mk (sh_mk (sh_mk h))))))
