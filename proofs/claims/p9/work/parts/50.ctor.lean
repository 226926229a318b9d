/-! CONSTRUCTORS (written by wip/whole/p50.py) -/
section VCQ
variable {l : Launch} {D : MD} {pc pc' : Nat} {L : List (Option AV)} {st : List AV} {M : Mem} {kc ks : Nat} {Q : Option AV → Mem → Prop}
theorem ls_sR (k j : Nat) (v : Option Nat) : (sR M k j v).1 = M.1 := rfl
theorem ls_sI (k j : Nat) (v : Int) : (sI M k j v).1 = M.1 := rfl
theorem ls_sJ (k j : Nat) (v : Int) : (sJ M k j v).1 = M.1 := rfl
theorem rp_new {k j r : Nat} : mR (sR M k j (some r)) k j = some r := if_pos ⟨rfl, rfl⟩
theorem rp_sR {k j r k2 j2 : Nat} {v : Option Nat} (h : mR M k j = some r) (hne : ¬ (k = k2 ∧ j = j2)) : mR (sR M k2 j2 v) k j = some r := (if_neg hne).trans h
theorem rp_mk {sh : Sh} {k j r n : Nat} (hl : M.1.length = n) (h : mR M k j = some r) (hne : k ≠ n) : mR (mkC M sh) k j = some r := by rw [mR_mkC, hl, if_neg hne]; exact h
theorem ln_mk {sh : Sh} {n : Nat} (h : M.1.length = n) : (mkC M sh).1.length = n + 1 := by rw [mkC_len, h]
theorem sh_mk {sh x : Sh} {k : Nat} (h : M.1[k]? = some x) : (mkC M sh).1[k]? = some x := by
  show (M.1 ++ [sh])[k]? = _
  rw [List.getElem?_append_left (List.getElem?_eq_some_iff.mp h).1]
  exact h
theorem sh_nw {sh : Sh} {q : Nat} (h : M.1.length = q) : (mkC M sh).1[q]? = some sh := by
  subst h
  show (M.1 ++ [sh])[M.1.length]? = _
  simp
theorem vc_newIq (N q : Nat) {n : Int} (hd : At (mB D) pc (.newarray .int) 2 pc') (hn : n = (N : Int)) (hq : M.1.length = q) (hb : N ≤ 100000) (h1 : kc + 1 ≤ mC D) (h2 : ks + N ≤ mS D) (kk : VC l D pc' L (aR q :: st) (mkC M (.inr (0, N))) (kc + 1) (ks + N) Q) : VC l D pc L (aI n :: st) M kc ks Q := by
  subst hq; subst hn
  exact vc_newI hd (by omega) (by omega) h1 (by simpa using h2) (by simpa using kk)
theorem vc_newJq (N q : Nat) {n : Int} (hd : At (mB D) pc (.newarray .long) 2 pc') (hn : n = (N : Int)) (hq : M.1.length = q) (hb : N ≤ 100000) (h1 : kc + 1 ≤ mC D) (h2 : ks + N ≤ mS D) (kk : VC l D pc' L (aR q :: st) (mkC M (.inr (1, N))) (kc + 1) (ks + N) Q) : VC l D pc L (aI n :: st) M kc ks Q := by
  subst hq; subst hn
  exact vc_newJ hd (by omega) (by omega) h1 (by simpa using h2) (by simpa using kk)
theorem vc_newZq (N q : Nat) {n : Int} (hd : At (mB D) pc (.newarray .boolean) 2 pc') (hn : n = (N : Int)) (hq : M.1.length = q) (hb : N ≤ 100000) (h1 : kc + 1 ≤ mC D) (h2 : ks + N ≤ mS D) (kk : VC l D pc' L (aR q :: st) (mkC M (.inr (2, N))) (kc + 1) (ks + N) Q) : VC l D pc L (aI n :: st) M kc ks Q := by
  subst hq; subst hn
  exact vc_newZ hd (by omega) (by omega) h1 (by simpa using h2) (by simpa using kk)
theorem vc_newTq (N q : Nat) {n : Int} {idx : Nat} (hd : At (mB D) pc (.anewarray idx) 3 pc') (hlk : Cond.classLink (mY D).cls idx RX5 ∈ tblG) (hn : n = (N : Int)) (hq : M.1.length = q) (hb : N ≤ 100000) (h1 : kc + 1 ≤ mC D) (h2 : ks + N ≤ mS D) (kk : VC l D pc' L (aR q :: st) (mkC M (.inr (3, N))) (kc + 1) (ks + N) Q) : VC l D pc L (aI n :: st) M kc ks Q := by
  subst hq; subst hn
  exact vc_newT hd hlk (by omega) (by omega) h1 (by simpa using h2) (by simpa using kk)
theorem vc_newOq (q : Nat) {idx ci : Nat} {CC : String} {T : u_T} {N : Nat} (hd : At (mB D) pc (.new idx) 3 pc') (hq : M.1.length = q) (hci : vwCl[ci]? = some (CC, T, N)) (hlk : Cond.classLink (mY D).cls idx CC ∈ tblG) (hins : Cond.instantiable CC N ∈ tblG) (hini : Cond.initialized CC ∈ tblG) (h1 : kc + 1 ≤ mC D) (h2 : ks + N ≤ mS D) (kk : VC l D pc' L (aR q :: st) (mkC M (.inl ci)) (kc + 1) (ks + N) Q) : VC l D pc L st M kc ks Q := by
  subst hq
  exact vc_new hd hci hlk hins hini h1 h2 kk
variable {D' : MD} {as : List AV} {M2 : Mem}
theorem vc_callIU {idx k n : Nat} {stk : List AV} (hd : At (mB D) pc (.invokespecial idx) 3 pc') (hcall : Fn l D' (aR k :: as) M none M2) (hstk : as.reverse ++ aR k :: st = stk) (hm : MOk D' n) (hv : Cond.instanceMethod (mY D') ∈ tblG) (hnm : (mY D').name = "<init>") (hret : mT D' = none) (hlk : LkM (mY D).cls idx D') (hlen : as.length = n) (hlev : mV D' < mV D) (hc1 : kc + mC D' ≤ mC D) (hc2 : ks + mS D' ≤ mS D) (hsum : (st.map catA).sum ≤ 8) (kk : VC l D pc' L st M2 (kc + mC D') (ks + mS D') Q) : VC l D pc L stk M kc ks Q :=
  vc_callI hd hm hv hnm hret hlk hlen hlev hc1 hc2 hsum _ hstk hcall (fun r M' h _ => by obtain ⟨rfl, rfl⟩ := h; exact kk)
end VCQ
/-- a row of ints filled -/
def flI (M : Mem) (k n : Nat) (v : Int) : Mem := (M.1, fun a b => if a = k ∧ b < n then v else mI M a b, M.2.2)
theorem mI_flI (M : Mem) (k n : Nat) (v : Int) (a b : Nat) : mI (flI M k n v) a b = if a = k ∧ b < n then v else mI M a b := rfl
theorem mR_flI (M : Mem) (k n : Nat) (v : Int) (a b : Nat) : mR (flI M k n v) a b = mR M a b := rfl
theorem flI_0 (M : Mem) (k : Nat) (v : Int) : flI M k 0 v = M := by
  refine mem_ext rfl (fun a b => ?_) (fun _ _ => rfl) (fun _ _ => rfl)
  rw [mI_flI, if_neg (by omega)]
theorem flI_step (M : Mem) (k n : Nat) (v : Int) : sI (flI M k n v) k n v = flI M k (n + 1) v := by
  refine mem_ext rfl (fun a b => ?_) (fun _ _ => rfl) (fun _ _ => rfl)
  rw [mI_sI, mI_flI, mI_flI]
  by_cases h1 : a = k ∧ b = n
  · rw [if_pos h1, if_pos (by omega)]
  · rw [if_neg h1]
    by_cases h2 : a = k ∧ b < n
    · rw [if_pos h2, if_pos (by omega)]
    · rw [if_neg h2, if_neg (by omega)]
theorem St.F {M : Mem} (h : St M) (k n : Nat) (v : Int) : St (flI M k n v) := h
theorem qJ7_fill_53178 {l : Launch} {M : Mem} (k n : Nat) (hs : M.1[k]? = some (.inr (0, n))) (hn : n ≤ 100000) (v : Int) : Fn l mdJ7_fill_53178 [aR k, aI v] M none (flI M k n v) := by
  have loop : ∀ (j i : Nat), i + j = n → VC l mdJ7_fill_53178 5 [some (aR k), some (aI v), some (aI (i : Int)), some (aI (n : Int))] [] (flI M k i v) 0 0 (fun r M2 => r = none ∧ M2 = flI M k n v) := by
    intro j
    induction j with
    | zero =>
      intro i hi
      have e : i = n := by omega
      subst e
      refine vc_iload_n dJ7_fill_53178_5 rfl ?_
      refine vc_iload_n dJ7_fill_53178_6 rfl ?_
      refine vc_icmp_ge dJ7_fill_53178_7 (fun h1 => ?_) (fun h1 => by exfalso; omega)
      refine vc_vret dJ7_fill_53178_20 rfl (Nat.le_of_ble_eq_true rfl) (Nat.le_of_ble_eq_true rfl) ?_
      exact ⟨rfl, rfl⟩
    | succ j ih =>
      intro i hi
      refine vc_iload_n dJ7_fill_53178_5 rfl ?_
      refine vc_iload_n dJ7_fill_53178_6 rfl ?_
      refine vc_icmp_ge dJ7_fill_53178_7 (fun h1 => by exfalso; omega) (fun h1 => ?_)
      refine vc_aload_n dJ7_fill_53178_10 rfl ?_
      refine vc_iload_n dJ7_fill_53178_11 rfl ?_
      refine vc_iload_n dJ7_fill_53178_12 rfl ?_
      refine vc_iastore dJ7_fill_53178_13 hs (by omega) (by omega) ?_
      refine vc_iincE dJ7_fill_53178_14 rfl (by omega) (by omega) (by decide) rfl (show _ = [some (aR k), some (aI v), some (aI ((i : Int) + 1)), some (aI (n : Int))] from rfl) ?_
      refine vc_goto dJ7_fill_53178_17 ?_
      rw [show (i : Int).toNat = i from Int.toNat_natCast i, flI_step, show (i : Int) + 1 = ((i + 1 : Nat) : Int) by omega]
      exact ih (i + 1) (by omega)
  refine Call.of [some (aR k), some (aI v), none, none] (by decide +kernel) (Nat.le_of_ble_eq_true rfl) rfl ?_
  refine vc_iconst dJ7_fill_53178_0 rfl ?_
  refine vc_istore_n dJ7_fill_53178_1 (by decide) rfl (show _ = [some (aR k), some (aI v), some (aI 0), none] from rfl) ?_
  refine vc_aload_n dJ7_fill_53178_2 rfl ?_
  refine vc_alen dJ7_fill_53178_3 hs (by simp; omega) ?_
  refine vc_istore_n dJ7_fill_53178_4 (by decide) rfl (show _ = [some (aR k), some (aI v), some (aI 0), some (aI (n : Int))] from rfl) ?_
  have h0 := loop n 0 (by omega)
  rw [flI_0] at h0
  exact h0
def gX6_init_1 (M : Mem) : Mem := sI (sI (flI (sR (mkC (sR (mkC (sR (mkC (sR (mkC (sR (mkC (sR (mkC M (.inr (0, 16))) 1 0 (some 2)) (.inr (0, 64))) 1 1 (some 3)) (.inr (0, 64))) 1 2 (some 4)) (.inr (0, 24))) 1 3 (some 5)) (.inr (0, 72))) 1 4 (some 6)) (.inr (3, 4))) 1 5 (some 7)) 3 64 (-1)) 1 7 (-1)) 1 11 (-1)
set_option maxRecDepth 8000 in
theorem qX6_init_1 {l : Launch} {M : Mem} (hl : M.1.length = 2) (hk : M.1[1]? = some (.inl 6)) : Fn l mdX6_init [aR 1] M none (gX6_init_1 M) := by
  refine Call.of [some (aR 1)] rfl (Nat.le_of_ble_eq_true rfl) rfl ?_
  refine vc_aload_n dX6_init_0 rfl ?_
  refine vc_objInit dX6_init_1 oiX6_3 (Nat.le_of_ble_eq_true rfl) ?_
  refine vc_aload_n dX6_init_4 rfl ?_
  refine vc_bipush dX6_init_5 rfl ?_
  refine vc_newIq 16 2 dX6_init_7 rfl hl (Nat.le_of_ble_eq_true rfl) (Nat.le_of_ble_eq_true rfl) (Nat.le_of_ble_eq_true rfl) ?_
  refine vc_putR dX6_init_9 (plX6_9 _ rfl rfl) (sh_mk hk) rfl ?_
  refine vc_aload_n dX6_init_12 rfl ?_
  refine vc_bipush dX6_init_13 rfl ?_
  refine vc_newIq 64 3 dX6_init_15 rfl (ln_mk hl) (Nat.le_of_ble_eq_true rfl) (Nat.le_of_ble_eq_true rfl) (Nat.le_of_ble_eq_true rfl) ?_
  refine vc_putR dX6_init_17 (plX6_15 _ rfl rfl) (sh_mk (sh_mk hk)) rfl ?_
  refine vc_aload_n dX6_init_20 rfl ?_
  refine vc_bipush dX6_init_21 rfl ?_
  refine vc_newIq 64 4 dX6_init_23 rfl (ln_mk (ln_mk hl)) (Nat.le_of_ble_eq_true rfl) (Nat.le_of_ble_eq_true rfl) (Nat.le_of_ble_eq_true rfl) ?_
  refine vc_putR dX6_init_25 (plX6_18 _ rfl rfl) (sh_mk (sh_mk (sh_mk hk))) rfl ?_
  refine vc_aload_n dX6_init_28 rfl ?_
  refine vc_bipush dX6_init_29 rfl ?_
  refine vc_newIq 24 5 dX6_init_31 rfl (ln_mk (ln_mk (ln_mk hl))) (Nat.le_of_ble_eq_true rfl) (Nat.le_of_ble_eq_true rfl) (Nat.le_of_ble_eq_true rfl) ?_
  refine vc_putR dX6_init_33 (plX6_21 _ rfl rfl) (sh_mk (sh_mk (sh_mk (sh_mk hk)))) rfl ?_
  refine vc_aload_n dX6_init_36 rfl ?_
  refine vc_bipush dX6_init_37 rfl ?_
  refine vc_newIq 72 6 dX6_init_39 rfl (ln_mk (ln_mk (ln_mk (ln_mk hl)))) (Nat.le_of_ble_eq_true rfl) (Nat.le_of_ble_eq_true rfl) (Nat.le_of_ble_eq_true rfl) ?_
  refine vc_putR dX6_init_41 (plX6_24 _ rfl rfl) (sh_mk (sh_mk (sh_mk (sh_mk (sh_mk hk))))) rfl ?_
  refine vc_aload_n dX6_init_44 rfl ?_
  refine vc_iconst dX6_init_45 rfl ?_
  refine vc_newTq 4 7 dX6_init_46 clX6_27 rfl (ln_mk (ln_mk (ln_mk (ln_mk (ln_mk hl))))) (Nat.le_of_ble_eq_true rfl) (Nat.le_of_ble_eq_true rfl) (Nat.le_of_ble_eq_true rfl) ?_
  refine vc_putR dX6_init_49 (plX6_29 _ rfl rfl) (sh_mk (sh_mk (sh_mk (sh_mk (sh_mk (sh_mk hk)))))) rfl ?_
  refine vc_aload_n dX6_init_52 rfl ?_
  refine vc_getR dX6_init_53 flX6_15 (sh_mk (sh_mk (sh_mk (sh_mk (sh_mk (sh_mk hk)))))) rfl (rp_sR (rp_mk (ln_mk (ln_mk (ln_mk (ln_mk (ln_mk hl))))) (rp_sR (rp_mk (ln_mk (ln_mk (ln_mk (ln_mk hl)))) (rp_sR (rp_mk (ln_mk (ln_mk (ln_mk hl))) (rp_sR (rp_mk (ln_mk (ln_mk hl)) rp_new (by decide)) (by decide)) (by decide)) (by decide)) (by decide)) (by decide)) (by decide)) (by decide)) ?_
  refine vc_iconst dX6_init_56 rfl ?_
  refine vc_callSU dX6_init_57 (qJ7_fill_53178 (M := (sR (mkC (sR (mkC (sR (mkC (sR (mkC (sR (mkC (sR (mkC M (.inr (0, 16))) 1 0 (some 2)) (.inr (0, 64))) 1 1 (some 3)) (.inr (0, 64))) 1 2 (some 4)) (.inr (0, 24))) 1 3 (some 5)) (.inr (0, 72))) 1 4 (some 6)) (.inr (3, 4))) 1 5 (some 7))) 3 64 (sh_mk (sh_mk (sh_mk (sh_mk (sh_nw (ln_mk hl)))))) (by decide) (-1)) rfl okJ7_fill_53178 stJ7_fill_53178 lkX6_33 rfl (Nat.le_of_ble_eq_true rfl) ⟨rfl, rfl⟩ (Nat.le_of_ble_eq_true rfl) (Nat.le_of_ble_eq_true rfl) (Nat.le_of_ble_eq_true rfl) ?_
  refine vc_aload_n dX6_init_60 rfl ?_
  refine vc_iconst dX6_init_61 rfl ?_
  refine vc_putI dX6_init_62 (plX6_39 _ rfl) (sh_mk (sh_mk (sh_mk (sh_mk (sh_mk (sh_mk hk)))))) rfl ?_
  refine vc_aload_n dX6_init_65 rfl ?_
  refine vc_iconst dX6_init_66 rfl ?_
  refine vc_putI dX6_init_67 (plX6_43 _ rfl) (sh_mk (sh_mk (sh_mk (sh_mk (sh_mk (sh_mk hk)))))) rfl ?_
  refine vc_vret dX6_init_70 rfl (Nat.le_of_ble_eq_true rfl) (Nat.le_of_ble_eq_true rfl) ?_
  exact ⟨rfl, rfl⟩
theorem lX6_init_1 {M : Mem} (hl : M.1.length = 2) : (gX6_init_1 M).1.length = 8 := (ln_mk (ln_mk (ln_mk (ln_mk (ln_mk (ln_mk hl))))))
theorem xX6_init_1 {M : Mem} {k : Nat} {x : Sh} (h : M.1[k]? = some x) : (gX6_init_1 M).1[k]? = some x := (sh_mk (sh_mk (sh_mk (sh_mk (sh_mk (sh_mk h))))))
theorem yX6_init_1 {M : Mem} {j r : Nat} (hl : M.1.length = 2) (h : mR M 0 j = some r) : mR (gX6_init_1 M) 0 j = some r := by
  unfold gX6_init_1
  simp [mR_sR, mR_mkC, mR_sI, mR_flI, mkC_len, ls_sR, ls_sI, hl, h]
def gX6_init_8 (M : Mem) : Mem := sI (sI (flI (sR (mkC (sR (mkC (sR (mkC (sR (mkC (sR (mkC (sR (mkC M (.inr (0, 16))) 8 0 (some 9)) (.inr (0, 64))) 8 1 (some 10)) (.inr (0, 64))) 8 2 (some 11)) (.inr (0, 24))) 8 3 (some 12)) (.inr (0, 72))) 8 4 (some 13)) (.inr (3, 4))) 8 5 (some 14)) 10 64 (-1)) 8 7 (-1)) 8 11 (-1)
set_option maxRecDepth 8000 in
theorem qX6_init_8 {l : Launch} {M : Mem} (hl : M.1.length = 9) (hk : M.1[8]? = some (.inl 6)) : Fn l mdX6_init [aR 8] M none (gX6_init_8 M) := by
  refine Call.of [some (aR 8)] rfl (Nat.le_of_ble_eq_true rfl) rfl ?_
  refine vc_aload_n dX6_init_0 rfl ?_
  refine vc_objInit dX6_init_1 oiX6_3 (Nat.le_of_ble_eq_true rfl) ?_
  refine vc_aload_n dX6_init_4 rfl ?_
  refine vc_bipush dX6_init_5 rfl ?_
  refine vc_newIq 16 9 dX6_init_7 rfl hl (Nat.le_of_ble_eq_true rfl) (Nat.le_of_ble_eq_true rfl) (Nat.le_of_ble_eq_true rfl) ?_
  refine vc_putR dX6_init_9 (plX6_9 _ rfl rfl) (sh_mk hk) rfl ?_
  refine vc_aload_n dX6_init_12 rfl ?_
  refine vc_bipush dX6_init_13 rfl ?_
  refine vc_newIq 64 10 dX6_init_15 rfl (ln_mk hl) (Nat.le_of_ble_eq_true rfl) (Nat.le_of_ble_eq_true rfl) (Nat.le_of_ble_eq_true rfl) ?_
  refine vc_putR dX6_init_17 (plX6_15 _ rfl rfl) (sh_mk (sh_mk hk)) rfl ?_
  refine vc_aload_n dX6_init_20 rfl ?_
  refine vc_bipush dX6_init_21 rfl ?_
  refine vc_newIq 64 11 dX6_init_23 rfl (ln_mk (ln_mk hl)) (Nat.le_of_ble_eq_true rfl) (Nat.le_of_ble_eq_true rfl) (Nat.le_of_ble_eq_true rfl) ?_
  refine vc_putR dX6_init_25 (plX6_18 _ rfl rfl) (sh_mk (sh_mk (sh_mk hk))) rfl ?_
  refine vc_aload_n dX6_init_28 rfl ?_
  refine vc_bipush dX6_init_29 rfl ?_
  refine vc_newIq 24 12 dX6_init_31 rfl (ln_mk (ln_mk (ln_mk hl))) (Nat.le_of_ble_eq_true rfl) (Nat.le_of_ble_eq_true rfl) (Nat.le_of_ble_eq_true rfl) ?_
  refine vc_putR dX6_init_33 (plX6_21 _ rfl rfl) (sh_mk (sh_mk (sh_mk (sh_mk hk)))) rfl ?_
  refine vc_aload_n dX6_init_36 rfl ?_
  refine vc_bipush dX6_init_37 rfl ?_
  refine vc_newIq 72 13 dX6_init_39 rfl (ln_mk (ln_mk (ln_mk (ln_mk hl)))) (Nat.le_of_ble_eq_true rfl) (Nat.le_of_ble_eq_true rfl) (Nat.le_of_ble_eq_true rfl) ?_
  refine vc_putR dX6_init_41 (plX6_24 _ rfl rfl) (sh_mk (sh_mk (sh_mk (sh_mk (sh_mk hk))))) rfl ?_
  refine vc_aload_n dX6_init_44 rfl ?_
  refine vc_iconst dX6_init_45 rfl ?_
  refine vc_newTq 4 14 dX6_init_46 clX6_27 rfl (ln_mk (ln_mk (ln_mk (ln_mk (ln_mk hl))))) (Nat.le_of_ble_eq_true rfl) (Nat.le_of_ble_eq_true rfl) (Nat.le_of_ble_eq_true rfl) ?_
  refine vc_putR dX6_init_49 (plX6_29 _ rfl rfl) (sh_mk (sh_mk (sh_mk (sh_mk (sh_mk (sh_mk hk)))))) rfl ?_
  refine vc_aload_n dX6_init_52 rfl ?_
  refine vc_getR dX6_init_53 flX6_15 (sh_mk (sh_mk (sh_mk (sh_mk (sh_mk (sh_mk hk)))))) rfl (rp_sR (rp_mk (ln_mk (ln_mk (ln_mk (ln_mk (ln_mk hl))))) (rp_sR (rp_mk (ln_mk (ln_mk (ln_mk (ln_mk hl)))) (rp_sR (rp_mk (ln_mk (ln_mk (ln_mk hl))) (rp_sR (rp_mk (ln_mk (ln_mk hl)) rp_new (by decide)) (by decide)) (by decide)) (by decide)) (by decide)) (by decide)) (by decide)) (by decide)) ?_
  refine vc_iconst dX6_init_56 rfl ?_
  refine vc_callSU dX6_init_57 (qJ7_fill_53178 (M := (sR (mkC (sR (mkC (sR (mkC (sR (mkC (sR (mkC (sR (mkC M (.inr (0, 16))) 8 0 (some 9)) (.inr (0, 64))) 8 1 (some 10)) (.inr (0, 64))) 8 2 (some 11)) (.inr (0, 24))) 8 3 (some 12)) (.inr (0, 72))) 8 4 (some 13)) (.inr (3, 4))) 8 5 (some 14))) 10 64 (sh_mk (sh_mk (sh_mk (sh_mk (sh_nw (ln_mk hl)))))) (by decide) (-1)) rfl okJ7_fill_53178 stJ7_fill_53178 lkX6_33 rfl (Nat.le_of_ble_eq_true rfl) ⟨rfl, rfl⟩ (Nat.le_of_ble_eq_true rfl) (Nat.le_of_ble_eq_true rfl) (Nat.le_of_ble_eq_true rfl) ?_
  refine vc_aload_n dX6_init_60 rfl ?_
  refine vc_iconst dX6_init_61 rfl ?_
  refine vc_putI dX6_init_62 (plX6_39 _ rfl) (sh_mk (sh_mk (sh_mk (sh_mk (sh_mk (sh_mk hk)))))) rfl ?_
  refine vc_aload_n dX6_init_65 rfl ?_
  refine vc_iconst dX6_init_66 rfl ?_
  refine vc_putI dX6_init_67 (plX6_43 _ rfl) (sh_mk (sh_mk (sh_mk (sh_mk (sh_mk (sh_mk hk)))))) rfl ?_
  refine vc_vret dX6_init_70 rfl (Nat.le_of_ble_eq_true rfl) (Nat.le_of_ble_eq_true rfl) ?_
  exact ⟨rfl, rfl⟩
theorem lX6_init_8 {M : Mem} (hl : M.1.length = 9) : (gX6_init_8 M).1.length = 15 := (ln_mk (ln_mk (ln_mk (ln_mk (ln_mk (ln_mk hl))))))
theorem xX6_init_8 {M : Mem} {k : Nat} {x : Sh} (h : M.1[k]? = some x) : (gX6_init_8 M).1[k]? = some x := (sh_mk (sh_mk (sh_mk (sh_mk (sh_mk (sh_mk h))))))
theorem yX6_init_8 {M : Mem} {j r : Nat} (hl : M.1.length = 9) (h : mR M 0 j = some r) : mR (gX6_init_8 M) 0 j = some r := by
  unfold gX6_init_8
  simp [mR_sR, mR_mkC, mR_sI, mR_flI, mkC_len, ls_sR, ls_sI, hl, h]
def gX8_init_15 (M : Mem) : Mem := sI (sI (sR (mkC (sR (mkC M (.inr (0, 10))) 15 0 (some 16)) (.inr (0, 300))) 15 1 (some 17)) 16 0 (-1)) 16 3 29
set_option maxRecDepth 8000 in
theorem qX8_init_15 {l : Launch} {M : Mem} (hl : M.1.length = 16) (hk : M.1[15]? = some (.inl 8)) : Fn l mdX8_init [aR 15] M none (gX8_init_15 M) := by
  refine Call.of [some (aR 15)] rfl (Nat.le_of_ble_eq_true rfl) rfl ?_
  refine vc_aload_n dX8_init_0 rfl ?_
  refine vc_objInit dX8_init_1 oiX8_3 (Nat.le_of_ble_eq_true rfl) ?_
  refine vc_aload_n dX8_init_4 rfl ?_
  refine vc_bipush dX8_init_5 rfl ?_
  refine vc_newIq 10 16 dX8_init_7 rfl hl (Nat.le_of_ble_eq_true rfl) (Nat.le_of_ble_eq_true rfl) (Nat.le_of_ble_eq_true rfl) ?_
  refine vc_putR dX8_init_9 (plX8_9 _ rfl rfl) (sh_mk hk) rfl ?_
  refine vc_aload_n dX8_init_12 rfl ?_
  refine vc_sipush dX8_init_13 rfl ?_
  refine vc_newIq 300 17 dX8_init_16 rfl (ln_mk hl) (Nat.le_of_ble_eq_true rfl) (Nat.le_of_ble_eq_true rfl) (Nat.le_of_ble_eq_true rfl) ?_
  refine vc_putR dX8_init_18 (plX8_15 _ rfl rfl) (sh_mk (sh_mk hk)) rfl ?_
  refine vc_aload_n dX8_init_21 rfl ?_
  refine vc_getR dX8_init_22 flX8_9 (sh_mk (sh_mk hk)) rfl (rp_sR (rp_mk (ln_mk hl) rp_new (by decide)) (by decide)) ?_
  refine vc_iconst dX8_init_25 rfl ?_
  refine vc_iconst dX8_init_26 rfl ?_
  refine vc_iastore dX8_init_27 (sh_mk (sh_nw hl)) (by omega) (by omega) ?_
  refine vc_mem (sI (sR (mkC (sR (mkC M (.inr (0, 10))) 15 0 (some 16)) (.inr (0, 300))) 15 1 (some 17)) 16 0 (-1)) rfl ?_
  refine vc_aload_n dX8_init_28 rfl ?_
  refine vc_getR dX8_init_29 flX8_9 (sh_mk (sh_mk hk)) rfl (rp_sR (rp_mk (ln_mk hl) rp_new (by decide)) (by decide)) ?_
  refine vc_iconst dX8_init_32 rfl ?_
  refine vc_bipush dX8_init_33 rfl ?_
  refine vc_iastore dX8_init_35 (sh_mk (sh_nw hl)) (by omega) (by omega) ?_
  refine vc_mem (sI (sI (sR (mkC (sR (mkC M (.inr (0, 10))) 15 0 (some 16)) (.inr (0, 300))) 15 1 (some 17)) 16 0 (-1)) 16 3 29) rfl ?_
  refine vc_vret dX8_init_36 rfl (Nat.le_of_ble_eq_true rfl) (Nat.le_of_ble_eq_true rfl) ?_
  exact ⟨rfl, rfl⟩
theorem lX8_init_15 {M : Mem} (hl : M.1.length = 16) : (gX8_init_15 M).1.length = 18 := (ln_mk (ln_mk hl))
theorem xX8_init_15 {M : Mem} {k : Nat} {x : Sh} (h : M.1[k]? = some x) : (gX8_init_15 M).1[k]? = some x := (sh_mk (sh_mk h))
theorem yX8_init_15 {M : Mem} {j r : Nat} (hl : M.1.length = 16) (h : mR M 0 j = some r) : mR (gX8_init_15 M) 0 j = some r := by
  unfold gX8_init_15
  simp [mR_sR, mR_mkC, mR_sI, mR_flI, mkC_len, ls_sR, ls_sI, hl, h]
def gX8_init_18 (M : Mem) : Mem := sI (sI (sR (mkC (sR (mkC M (.inr (0, 10))) 18 0 (some 19)) (.inr (0, 300))) 18 1 (some 20)) 19 0 (-1)) 19 3 29
set_option maxRecDepth 8000 in
theorem qX8_init_18 {l : Launch} {M : Mem} (hl : M.1.length = 19) (hk : M.1[18]? = some (.inl 8)) : Fn l mdX8_init [aR 18] M none (gX8_init_18 M) := by
  refine Call.of [some (aR 18)] rfl (Nat.le_of_ble_eq_true rfl) rfl ?_
  refine vc_aload_n dX8_init_0 rfl ?_
  refine vc_objInit dX8_init_1 oiX8_3 (Nat.le_of_ble_eq_true rfl) ?_
  refine vc_aload_n dX8_init_4 rfl ?_
  refine vc_bipush dX8_init_5 rfl ?_
  refine vc_newIq 10 19 dX8_init_7 rfl hl (Nat.le_of_ble_eq_true rfl) (Nat.le_of_ble_eq_true rfl) (Nat.le_of_ble_eq_true rfl) ?_
  refine vc_putR dX8_init_9 (plX8_9 _ rfl rfl) (sh_mk hk) rfl ?_
  refine vc_aload_n dX8_init_12 rfl ?_
  refine vc_sipush dX8_init_13 rfl ?_
  refine vc_newIq 300 20 dX8_init_16 rfl (ln_mk hl) (Nat.le_of_ble_eq_true rfl) (Nat.le_of_ble_eq_true rfl) (Nat.le_of_ble_eq_true rfl) ?_
  refine vc_putR dX8_init_18 (plX8_15 _ rfl rfl) (sh_mk (sh_mk hk)) rfl ?_
  refine vc_aload_n dX8_init_21 rfl ?_
  refine vc_getR dX8_init_22 flX8_9 (sh_mk (sh_mk hk)) rfl (rp_sR (rp_mk (ln_mk hl) rp_new (by decide)) (by decide)) ?_
  refine vc_iconst dX8_init_25 rfl ?_
  refine vc_iconst dX8_init_26 rfl ?_
  refine vc_iastore dX8_init_27 (sh_mk (sh_nw hl)) (by omega) (by omega) ?_
  refine vc_mem (sI (sR (mkC (sR (mkC M (.inr (0, 10))) 18 0 (some 19)) (.inr (0, 300))) 18 1 (some 20)) 19 0 (-1)) rfl ?_
  refine vc_aload_n dX8_init_28 rfl ?_
  refine vc_getR dX8_init_29 flX8_9 (sh_mk (sh_mk hk)) rfl (rp_sR (rp_mk (ln_mk hl) rp_new (by decide)) (by decide)) ?_
  refine vc_iconst dX8_init_32 rfl ?_
  refine vc_bipush dX8_init_33 rfl ?_
  refine vc_iastore dX8_init_35 (sh_mk (sh_nw hl)) (by omega) (by omega) ?_
  refine vc_mem (sI (sI (sR (mkC (sR (mkC M (.inr (0, 10))) 18 0 (some 19)) (.inr (0, 300))) 18 1 (some 20)) 19 0 (-1)) 19 3 29) rfl ?_
  refine vc_vret dX8_init_36 rfl (Nat.le_of_ble_eq_true rfl) (Nat.le_of_ble_eq_true rfl) ?_
  exact ⟨rfl, rfl⟩
theorem lX8_init_18 {M : Mem} (hl : M.1.length = 19) : (gX8_init_18 M).1.length = 21 := (ln_mk (ln_mk hl))
theorem xX8_init_18 {M : Mem} {k : Nat} {x : Sh} (h : M.1[k]? = some x) : (gX8_init_18 M).1[k]? = some x := (sh_mk (sh_mk h))
theorem yX8_init_18 {M : Mem} {j r : Nat} (hl : M.1.length = 19) (h : mR M 0 j = some r) : mR (gX8_init_18 M) 0 j = some r := by
  unfold gX8_init_18
  simp [mR_sR, mR_mkC, mR_sI, mR_flI, mkC_len, ls_sR, ls_sI, hl, h]
def gX4_init_0 (M : Mem) : Mem := sR (mkC (sR (mkC (sR (mkC (sR (mkC (sR (mkC (sR (mkC (sR M 22 0 (some 21)) (.inr (0, 300))) 22 1 (some 23)) (.inr (0, 10))) 22 2 (some 24)) (.inr (0, 120))) 22 3 (some 25)) (.inr (0, 301))) 22 4 (some 26)) (.inr (0, 301))) 22 5 (some 27)) (.inr (0, 301))) 22 6 (some 28)
set_option maxRecDepth 8000 in
theorem qX4_init_0 {l : Launch} {M : Mem} (hl : M.1.length = 23) (hk : M.1[22]? = some (.inl 4)) : Fn l mdX4_init [aR 22, aR 21] M none (gX4_init_0 M) := by
  refine Call.of [some (aR 22), some (aR 21)] rfl (Nat.le_of_ble_eq_true rfl) rfl ?_
  refine vc_aload_n dX4_init_0 rfl ?_
  refine vc_objInit dX4_init_1 oiX4_3 (Nat.le_of_ble_eq_true rfl) ?_
  refine vc_aload_n dX4_init_4 rfl ?_
  refine vc_aload_n dX4_init_5 rfl ?_
  refine vc_putR dX4_init_6 (plX4_9 _ rfl rfl) hk rfl ?_
  refine vc_aload_n dX4_init_9 rfl ?_
  refine vc_sipush dX4_init_10 rfl ?_
  refine vc_newIq 300 23 dX4_init_13 rfl hl (Nat.le_of_ble_eq_true rfl) (Nat.le_of_ble_eq_true rfl) (Nat.le_of_ble_eq_true rfl) ?_
  refine vc_putR dX4_init_15 (plX4_15 _ rfl rfl) (sh_mk hk) rfl ?_
  refine vc_aload_n dX4_init_18 rfl ?_
  refine vc_bipush dX4_init_19 rfl ?_
  refine vc_newIq 10 24 dX4_init_21 rfl (ln_mk hl) (Nat.le_of_ble_eq_true rfl) (Nat.le_of_ble_eq_true rfl) (Nat.le_of_ble_eq_true rfl) ?_
  refine vc_putR dX4_init_23 (plX4_18 _ rfl rfl) (sh_mk (sh_mk hk)) rfl ?_
  refine vc_aload_n dX4_init_26 rfl ?_
  refine vc_bipush dX4_init_27 rfl ?_
  refine vc_newIq 120 25 dX4_init_29 rfl (ln_mk (ln_mk hl)) (Nat.le_of_ble_eq_true rfl) (Nat.le_of_ble_eq_true rfl) (Nat.le_of_ble_eq_true rfl) ?_
  refine vc_putR dX4_init_31 (plX4_21 _ rfl rfl) (sh_mk (sh_mk (sh_mk hk))) rfl ?_
  refine vc_aload_n dX4_init_34 rfl ?_
  refine vc_sipush dX4_init_35 rfl ?_
  refine vc_newIq 301 26 dX4_init_38 rfl (ln_mk (ln_mk (ln_mk hl))) (Nat.le_of_ble_eq_true rfl) (Nat.le_of_ble_eq_true rfl) (Nat.le_of_ble_eq_true rfl) ?_
  refine vc_putR dX4_init_40 (plX4_24 _ rfl rfl) (sh_mk (sh_mk (sh_mk (sh_mk hk)))) rfl ?_
  refine vc_aload_n dX4_init_43 rfl ?_
  refine vc_sipush dX4_init_44 rfl ?_
  refine vc_newIq 301 27 dX4_init_47 rfl (ln_mk (ln_mk (ln_mk (ln_mk hl)))) (Nat.le_of_ble_eq_true rfl) (Nat.le_of_ble_eq_true rfl) (Nat.le_of_ble_eq_true rfl) ?_
  refine vc_putR dX4_init_49 (plX4_27 _ rfl rfl) (sh_mk (sh_mk (sh_mk (sh_mk (sh_mk hk))))) rfl ?_
  refine vc_aload_n dX4_init_52 rfl ?_
  refine vc_sipush dX4_init_53 rfl ?_
  refine vc_newIq 301 28 dX4_init_56 rfl (ln_mk (ln_mk (ln_mk (ln_mk (ln_mk hl))))) (Nat.le_of_ble_eq_true rfl) (Nat.le_of_ble_eq_true rfl) (Nat.le_of_ble_eq_true rfl) ?_
  refine vc_putR dX4_init_58 (plX4_30 _ rfl rfl) (sh_mk (sh_mk (sh_mk (sh_mk (sh_mk (sh_mk hk)))))) rfl ?_
  refine vc_vret dX4_init_61 rfl (Nat.le_of_ble_eq_true rfl) (Nat.le_of_ble_eq_true rfl) ?_
  exact ⟨rfl, rfl⟩
theorem lX4_init_0 {M : Mem} (hl : M.1.length = 23) : (gX4_init_0 M).1.length = 29 := (ln_mk (ln_mk (ln_mk (ln_mk (ln_mk (ln_mk hl))))))
theorem xX4_init_0 {M : Mem} {k : Nat} {x : Sh} (h : M.1[k]? = some x) : (gX4_init_0 M).1[k]? = some x := (sh_mk (sh_mk (sh_mk (sh_mk (sh_mk (sh_mk h))))))
theorem yX4_init_0 {M : Mem} {j r : Nat} (hl : M.1.length = 23) (h : mR M 0 j = some r) : mR (gX4_init_0 M) 0 j = some r := by
  unfold gX4_init_0
  simp [mR_sR, mR_mkC, mR_sI, mR_flI, mkC_len, ls_sR, ls_sI, hl, h]
def gX2_init_0 (M : Mem) : Mem := sR (mkC (sR (mkC (sR (sR M 29 0 (some 1)) 29 1 (some 15)) (.inr (0, 9))) 29 2 (some 30)) (.inr (0, 40))) 29 3 (some 31)
set_option maxRecDepth 8000 in
theorem qX2_init_0 {l : Launch} {M : Mem} (hl : M.1.length = 30) (hk : M.1[29]? = some (.inl 2)) : Fn l mdX2_init [aR 29, aR 1, aR 15] M none (gX2_init_0 M) := by
  refine Call.of [some (aR 29), some (aR 1), some (aR 15)] rfl (Nat.le_of_ble_eq_true rfl) rfl ?_
  refine vc_aload_n dX2_init_0 rfl ?_
  refine vc_objInit dX2_init_1 oiX2_3 (Nat.le_of_ble_eq_true rfl) ?_
  refine vc_aload_n dX2_init_4 rfl ?_
  refine vc_aload_n dX2_init_5 rfl ?_
  refine vc_putR dX2_init_6 (plX2_9 _ rfl rfl) hk rfl ?_
  refine vc_aload_n dX2_init_9 rfl ?_
  refine vc_aload_n dX2_init_10 rfl ?_
  refine vc_putR dX2_init_11 (plX2_15 _ rfl rfl) hk rfl ?_
  refine vc_aload_n dX2_init_14 rfl ?_
  refine vc_bipush dX2_init_15 rfl ?_
  refine vc_newIq 9 30 dX2_init_17 rfl hl (Nat.le_of_ble_eq_true rfl) (Nat.le_of_ble_eq_true rfl) (Nat.le_of_ble_eq_true rfl) ?_
  refine vc_putR dX2_init_19 (plX2_19 _ rfl rfl) (sh_mk hk) rfl ?_
  refine vc_aload_n dX2_init_22 rfl ?_
  refine vc_bipush dX2_init_23 rfl ?_
  refine vc_newIq 40 31 dX2_init_25 rfl (ln_mk hl) (Nat.le_of_ble_eq_true rfl) (Nat.le_of_ble_eq_true rfl) (Nat.le_of_ble_eq_true rfl) ?_
  refine vc_putR dX2_init_27 (plX2_23 _ rfl rfl) (sh_mk (sh_mk hk)) rfl ?_
  refine vc_vret dX2_init_30 rfl (Nat.le_of_ble_eq_true rfl) (Nat.le_of_ble_eq_true rfl) ?_
  exact ⟨rfl, rfl⟩
theorem lX2_init_0 {M : Mem} (hl : M.1.length = 30) : (gX2_init_0 M).1.length = 32 := (ln_mk (ln_mk hl))
theorem xX2_init_0 {M : Mem} {k : Nat} {x : Sh} (h : M.1[k]? = some x) : (gX2_init_0 M).1[k]? = some x := (sh_mk (sh_mk h))
theorem yX2_init_0 {M : Mem} {j r : Nat} (hl : M.1.length = 30) (h : mR M 0 j = some r) : mR (gX2_init_0 M) 0 j = some r := by
  unfold gX2_init_0
  simp [mR_sR, mR_mkC, mR_sI, mR_flI, mkC_len, ls_sR, ls_sI, hl, h]
def gX1_init_0 (M : Mem) : Mem := sR (mkC (sR M 32 0 (some 1)) (.inr (0, 40))) 32 1 (some 33)
set_option maxRecDepth 8000 in
theorem qX1_init_0 {l : Launch} {M : Mem} (hl : M.1.length = 33) (hk : M.1[32]? = some (.inl 1)) : Fn l mdX1_init [aR 32, aR 1] M none (gX1_init_0 M) := by
  refine Call.of [some (aR 32), some (aR 1)] rfl (Nat.le_of_ble_eq_true rfl) rfl ?_
  refine vc_aload_n dX1_init_0 rfl ?_
  refine vc_objInit dX1_init_1 oiX1_3 (Nat.le_of_ble_eq_true rfl) ?_
  refine vc_aload_n dX1_init_4 rfl ?_
  refine vc_aload_n dX1_init_5 rfl ?_
  refine vc_putR dX1_init_6 (plX1_9 _ rfl rfl) hk rfl ?_
  refine vc_aload_n dX1_init_9 rfl ?_
  refine vc_bipush dX1_init_10 rfl ?_
  refine vc_newIq 40 33 dX1_init_12 rfl hl (Nat.le_of_ble_eq_true rfl) (Nat.le_of_ble_eq_true rfl) (Nat.le_of_ble_eq_true rfl) ?_
  refine vc_putR dX1_init_14 (plX1_15 _ rfl rfl) (sh_mk hk) rfl ?_
  refine vc_vret dX1_init_17 rfl (Nat.le_of_ble_eq_true rfl) (Nat.le_of_ble_eq_true rfl) ?_
  exact ⟨rfl, rfl⟩
theorem lX1_init_0 {M : Mem} (hl : M.1.length = 33) : (gX1_init_0 M).1.length = 34 := (ln_mk hl)
theorem xX1_init_0 {M : Mem} {k : Nat} {x : Sh} (h : M.1[k]? = some x) : (gX1_init_0 M).1[k]? = some x := (sh_mk h)
theorem yX1_init_0 {M : Mem} {j r : Nat} (hl : M.1.length = 33) (h : mR M 0 j = some r) : mR (gX1_init_0 M) 0 j = some r := by
  unfold gX1_init_0
  simp [mR_sR, mR_mkC, mR_sI, mR_flI, mkC_len, ls_sR, ls_sI, hl, h]
def gX9_init_0 (M : Mem) : Mem := sR (sR (sR (sR M 34 0 (some 1)) 34 1 (some 15)) 34 2 (some 29)) 34 3 (some 32)
set_option maxRecDepth 8000 in
theorem qX9_init_0 {l : Launch} {M : Mem} (hl : M.1.length = 35) (hk : M.1[34]? = some (.inl 9)) : Fn l mdX9_init [aR 34, aR 1, aR 15, aR 29, aR 32] M none (gX9_init_0 M) := by
  refine Call.of [some (aR 34), some (aR 1), some (aR 15), some (aR 29), some (aR 32)] rfl (Nat.le_of_ble_eq_true rfl) rfl ?_
  refine vc_aload_n dX9_init_0 rfl ?_
  refine vc_objInit dX9_init_1 oiX9_3 (Nat.le_of_ble_eq_true rfl) ?_
  refine vc_aload_n dX9_init_4 rfl ?_
  refine vc_aload_n dX9_init_5 rfl ?_
  refine vc_putR dX9_init_6 (plX9_9 _ rfl rfl) hk rfl ?_
  refine vc_aload_n dX9_init_9 rfl ?_
  refine vc_aload_n dX9_init_10 rfl ?_
  refine vc_putR dX9_init_11 (plX9_15 _ rfl rfl) hk rfl ?_
  refine vc_aload_n dX9_init_14 rfl ?_
  refine vc_aload_n dX9_init_15 rfl ?_
  refine vc_putR dX9_init_16 (plX9_19 _ rfl rfl) hk rfl ?_
  refine vc_aload_n dX9_init_19 rfl ?_
  refine vc_aload dX9_init_20 rfl ?_
  refine vc_putR dX9_init_22 (plX9_23 _ rfl rfl) hk rfl ?_
  refine vc_vret dX9_init_25 rfl (Nat.le_of_ble_eq_true rfl) (Nat.le_of_ble_eq_true rfl) ?_
  exact ⟨rfl, rfl⟩
theorem lX9_init_0 {M : Mem} (hl : M.1.length = 35) : (gX9_init_0 M).1.length = 35 := hl
theorem xX9_init_0 {M : Mem} {k : Nat} {x : Sh} (h : M.1[k]? = some x) : (gX9_init_0 M).1[k]? = some x := h
theorem yX9_init_0 {M : Mem} {j r : Nat} (hl : M.1.length = 35) (h : mR M 0 j = some r) : mR (gX9_init_0 M) 0 j = some r := by
  unfold gX9_init_0
  simp [mR_sR, mR_mkC, mR_sI, mR_flI, mkC_len, ls_sR, ls_sI, hl, h]
def gX10_init_0 (M : Mem) : Mem := sR (mkC (sR (mkC (sR (mkC (sR (mkC (sR (sR (sR M 35 0 (some 1)) 35 1 (some 29)) 35 2 (some 32)) (.inr (0, 8))) 35 3 (some 36)) (.inr (0, 8))) 35 4 (some 37)) (.inr (0, 8))) 35 5 (some 38)) (.inr (1, 16))) 35 6 (some 39)
set_option maxRecDepth 8000 in
theorem qX10_init_0 {l : Launch} {M : Mem} (hl : M.1.length = 36) (hk : M.1[35]? = some (.inl 10)) : Fn l mdX10_init [aR 35, aR 1, aR 29, aR 32] M none (gX10_init_0 M) := by
  refine Call.of [some (aR 35), some (aR 1), some (aR 29), some (aR 32)] rfl (Nat.le_of_ble_eq_true rfl) rfl ?_
  refine vc_aload_n dX10_init_0 rfl ?_
  refine vc_objInit dX10_init_1 oiX10_3 (Nat.le_of_ble_eq_true rfl) ?_
  refine vc_aload_n dX10_init_4 rfl ?_
  refine vc_aload_n dX10_init_5 rfl ?_
  refine vc_putR dX10_init_6 (plX10_9 _ rfl rfl) hk rfl ?_
  refine vc_aload_n dX10_init_9 rfl ?_
  refine vc_aload_n dX10_init_10 rfl ?_
  refine vc_putR dX10_init_11 (plX10_15 _ rfl rfl) hk rfl ?_
  refine vc_aload_n dX10_init_14 rfl ?_
  refine vc_aload_n dX10_init_15 rfl ?_
  refine vc_putR dX10_init_16 (plX10_19 _ rfl rfl) hk rfl ?_
  refine vc_aload_n dX10_init_19 rfl ?_
  refine vc_bipush dX10_init_20 rfl ?_
  refine vc_newIq 8 36 dX10_init_22 rfl hl (Nat.le_of_ble_eq_true rfl) (Nat.le_of_ble_eq_true rfl) (Nat.le_of_ble_eq_true rfl) ?_
  refine vc_putR dX10_init_24 (plX10_23 _ rfl rfl) (sh_mk hk) rfl ?_
  refine vc_aload_n dX10_init_27 rfl ?_
  refine vc_bipush dX10_init_28 rfl ?_
  refine vc_newIq 8 37 dX10_init_30 rfl (ln_mk hl) (Nat.le_of_ble_eq_true rfl) (Nat.le_of_ble_eq_true rfl) (Nat.le_of_ble_eq_true rfl) ?_
  refine vc_putR dX10_init_32 (plX10_27 _ rfl rfl) (sh_mk (sh_mk hk)) rfl ?_
  refine vc_aload_n dX10_init_35 rfl ?_
  refine vc_bipush dX10_init_36 rfl ?_
  refine vc_newIq 8 38 dX10_init_38 rfl (ln_mk (ln_mk hl)) (Nat.le_of_ble_eq_true rfl) (Nat.le_of_ble_eq_true rfl) (Nat.le_of_ble_eq_true rfl) ?_
  refine vc_putR dX10_init_40 (plX10_30 _ rfl rfl) (sh_mk (sh_mk (sh_mk hk))) rfl ?_
  refine vc_aload_n dX10_init_43 rfl ?_
  refine vc_bipush dX10_init_44 rfl ?_
  refine vc_newJq 16 39 dX10_init_46 rfl (ln_mk (ln_mk (ln_mk hl))) (Nat.le_of_ble_eq_true rfl) (Nat.le_of_ble_eq_true rfl) (Nat.le_of_ble_eq_true rfl) ?_
  refine vc_putR dX10_init_48 (plX10_33 _ rfl rfl) (sh_mk (sh_mk (sh_mk (sh_mk hk)))) rfl ?_
  refine vc_vret dX10_init_51 rfl (Nat.le_of_ble_eq_true rfl) (Nat.le_of_ble_eq_true rfl) ?_
  exact ⟨rfl, rfl⟩
theorem lX10_init_0 {M : Mem} (hl : M.1.length = 36) : (gX10_init_0 M).1.length = 40 := (ln_mk (ln_mk (ln_mk (ln_mk hl))))
theorem xX10_init_0 {M : Mem} {k : Nat} {x : Sh} (h : M.1[k]? = some x) : (gX10_init_0 M).1[k]? = some x := (sh_mk (sh_mk (sh_mk (sh_mk h))))
theorem yX10_init_0 {M : Mem} {j r : Nat} (hl : M.1.length = 36) (h : mR M 0 j = some r) : mR (gX10_init_0 M) 0 j = some r := by
  unfold gX10_init_0
  simp [mR_sR, mR_mkC, mR_sI, mR_flI, mkC_len, ls_sR, ls_sI, hl, h]
def gX7_init_0 (M : Mem) : Mem := sR (mkC (sR (mkC (sR (mkC (sR (mkC (sR (mkC (sR (sR (sR (sR M 40 0 (some 1)) 40 1 (some 15)) 40 2 (some 29)) 40 3 (some 35)) (.inr (0, 64))) 40 4 (some 41)) (.inr (0, 256))) 40 5 (some 42)) (.inr (0, 5))) 40 6 (some 43)) (.inr (0, 5))) 40 7 (some 44)) (.inr (0, 5))) 40 8 (some 45)
set_option maxRecDepth 8000 in
theorem qX7_init_0 {l : Launch} {M : Mem} (hl : M.1.length = 41) (hk : M.1[40]? = some (.inl 7)) : Fn l mdX7_init [aR 40, aR 1, aR 15, aR 29, aR 35] M none (gX7_init_0 M) := by
  refine Call.of [some (aR 40), some (aR 1), some (aR 15), some (aR 29), some (aR 35)] rfl (Nat.le_of_ble_eq_true rfl) rfl ?_
  refine vc_aload_n dX7_init_0 rfl ?_
  refine vc_objInit dX7_init_1 oiX7_3 (Nat.le_of_ble_eq_true rfl) ?_
  refine vc_aload_n dX7_init_4 rfl ?_
  refine vc_aload_n dX7_init_5 rfl ?_
  refine vc_putR dX7_init_6 (plX7_9 _ rfl rfl) hk rfl ?_
  refine vc_aload_n dX7_init_9 rfl ?_
  refine vc_aload_n dX7_init_10 rfl ?_
  refine vc_putR dX7_init_11 (plX7_15 _ rfl rfl) hk rfl ?_
  refine vc_aload_n dX7_init_14 rfl ?_
  refine vc_aload_n dX7_init_15 rfl ?_
  refine vc_putR dX7_init_16 (plX7_19 _ rfl rfl) hk rfl ?_
  refine vc_aload_n dX7_init_19 rfl ?_
  refine vc_aload dX7_init_20 rfl ?_
  refine vc_putR dX7_init_22 (plX7_23 _ rfl rfl) hk rfl ?_
  refine vc_aload_n dX7_init_25 rfl ?_
  refine vc_bipush dX7_init_26 rfl ?_
  refine vc_newIq 64 41 dX7_init_28 rfl hl (Nat.le_of_ble_eq_true rfl) (Nat.le_of_ble_eq_true rfl) (Nat.le_of_ble_eq_true rfl) ?_
  refine vc_putR dX7_init_30 (plX7_27 _ rfl rfl) (sh_mk hk) rfl ?_
  refine vc_aload_n dX7_init_33 rfl ?_
  refine vc_sipush dX7_init_34 rfl ?_
  refine vc_newIq 256 42 dX7_init_37 rfl (ln_mk hl) (Nat.le_of_ble_eq_true rfl) (Nat.le_of_ble_eq_true rfl) (Nat.le_of_ble_eq_true rfl) ?_
  refine vc_putR dX7_init_39 (plX7_31 _ rfl rfl) (sh_mk (sh_mk hk)) rfl ?_
  refine vc_aload_n dX7_init_42 rfl ?_
  refine vc_iconst dX7_init_43 rfl ?_
  refine vc_newIq 5 43 dX7_init_44 rfl (ln_mk (ln_mk hl)) (Nat.le_of_ble_eq_true rfl) (Nat.le_of_ble_eq_true rfl) (Nat.le_of_ble_eq_true rfl) ?_
  refine vc_putR dX7_init_46 (plX7_34 _ rfl rfl) (sh_mk (sh_mk (sh_mk hk))) rfl ?_
  refine vc_aload_n dX7_init_49 rfl ?_
  refine vc_iconst dX7_init_50 rfl ?_
  refine vc_newIq 5 44 dX7_init_51 rfl (ln_mk (ln_mk (ln_mk hl))) (Nat.le_of_ble_eq_true rfl) (Nat.le_of_ble_eq_true rfl) (Nat.le_of_ble_eq_true rfl) ?_
  refine vc_putR dX7_init_53 (plX7_37 _ rfl rfl) (sh_mk (sh_mk (sh_mk (sh_mk hk)))) rfl ?_
  refine vc_aload_n dX7_init_56 rfl ?_
  refine vc_iconst dX7_init_57 rfl ?_
  refine vc_newIq 5 45 dX7_init_58 rfl (ln_mk (ln_mk (ln_mk (ln_mk hl)))) (Nat.le_of_ble_eq_true rfl) (Nat.le_of_ble_eq_true rfl) (Nat.le_of_ble_eq_true rfl) ?_
  refine vc_putR dX7_init_60 (plX7_40 _ rfl rfl) (sh_mk (sh_mk (sh_mk (sh_mk (sh_mk hk))))) rfl ?_
  refine vc_vret dX7_init_63 rfl (Nat.le_of_ble_eq_true rfl) (Nat.le_of_ble_eq_true rfl) ?_
  exact ⟨rfl, rfl⟩
theorem lX7_init_0 {M : Mem} (hl : M.1.length = 41) : (gX7_init_0 M).1.length = 46 := (ln_mk (ln_mk (ln_mk (ln_mk (ln_mk hl)))))
theorem xX7_init_0 {M : Mem} {k : Nat} {x : Sh} (h : M.1[k]? = some x) : (gX7_init_0 M).1[k]? = some x := (sh_mk (sh_mk (sh_mk (sh_mk (sh_mk h)))))
theorem yX7_init_0 {M : Mem} {j r : Nat} (hl : M.1.length = 41) (h : mR M 0 j = some r) : mR (gX7_init_0 M) 0 j = some r := by
  unfold gX7_init_0
  simp [mR_sR, mR_mkC, mR_sI, mR_flI, mkC_len, ls_sR, ls_sI, hl, h]
def gX0_init_0 (M : Mem) : Mem := sR (mkC (sR (mkC (sR (mkC (sR (sR M 46 0 (some 1)) 46 1 (some 32)) (.inr (0, 3456))) 46 2 (some 47)) (.inr (0, 32))) 46 3 (some 48)) (.inr (0, 3))) 46 4 (some 49)
set_option maxRecDepth 8000 in
theorem qX0_init_0 {l : Launch} {M : Mem} (hl : M.1.length = 47) (hk : M.1[46]? = some (.inl 0)) : Fn l mdX0_init [aR 46, aR 1, aR 32] M none (gX0_init_0 M) := by
  refine Call.of [some (aR 46), some (aR 1), some (aR 32)] rfl (Nat.le_of_ble_eq_true rfl) rfl ?_
  refine vc_aload_n dX0_init_0 rfl ?_
  refine vc_objInit dX0_init_1 oiX0_3 (Nat.le_of_ble_eq_true rfl) ?_
  refine vc_aload_n dX0_init_4 rfl ?_
  refine vc_aload_n dX0_init_5 rfl ?_
  refine vc_putR dX0_init_6 (plX0_9 _ rfl rfl) hk rfl ?_
  refine vc_aload_n dX0_init_9 rfl ?_
  refine vc_aload_n dX0_init_10 rfl ?_
  refine vc_putR dX0_init_11 (plX0_15 _ rfl rfl) hk rfl ?_
  refine vc_aload_n dX0_init_14 rfl ?_
  refine vc_sipush dX0_init_15 rfl ?_
  refine vc_newIq 3456 47 dX0_init_18 rfl hl (Nat.le_of_ble_eq_true rfl) (Nat.le_of_ble_eq_true rfl) (Nat.le_of_ble_eq_true rfl) ?_
  refine vc_putR dX0_init_20 (plX0_19 _ rfl rfl) (sh_mk hk) rfl ?_
  refine vc_aload_n dX0_init_23 rfl ?_
  refine vc_bipush dX0_init_24 rfl ?_
  refine vc_newIq 32 48 dX0_init_26 rfl (ln_mk hl) (Nat.le_of_ble_eq_true rfl) (Nat.le_of_ble_eq_true rfl) (Nat.le_of_ble_eq_true rfl) ?_
  refine vc_putR dX0_init_28 (plX0_23 _ rfl rfl) (sh_mk (sh_mk hk)) rfl ?_
  refine vc_aload_n dX0_init_31 rfl ?_
  refine vc_iconst dX0_init_32 rfl ?_
  refine vc_newIq 3 49 dX0_init_33 rfl (ln_mk (ln_mk hl)) (Nat.le_of_ble_eq_true rfl) (Nat.le_of_ble_eq_true rfl) (Nat.le_of_ble_eq_true rfl) ?_
  refine vc_putR dX0_init_35 (plX0_26 _ rfl rfl) (sh_mk (sh_mk (sh_mk hk))) rfl ?_
  refine vc_vret dX0_init_38 rfl (Nat.le_of_ble_eq_true rfl) (Nat.le_of_ble_eq_true rfl) ?_
  exact ⟨rfl, rfl⟩
theorem lX0_init_0 {M : Mem} (hl : M.1.length = 47) : (gX0_init_0 M).1.length = 50 := (ln_mk (ln_mk (ln_mk hl)))
theorem xX0_init_0 {M : Mem} {k : Nat} {x : Sh} (h : M.1[k]? = some x) : (gX0_init_0 M).1[k]? = some x := (sh_mk (sh_mk (sh_mk h)))
theorem yX0_init_0 {M : Mem} {j r : Nat} (hl : M.1.length = 47) (h : mR M 0 j = some r) : mR (gX0_init_0 M) 0 j = some r := by
  unfold gX0_init_0
  simp [mR_sR, mR_mkC, mR_sI, mR_flI, mkC_len, ls_sR, ls_sI, hl, h]
def gX3_init_0 (M : Mem) : Mem := sR (mkC (sR (mkC (sR (mkC (sR M 50 0 (some 1)) (.inr (0, 16))) 50 1 (some 51)) (.inr (0, 16))) 50 2 (some 52)) (.inr (0, 64))) 50 3 (some 53)
set_option maxRecDepth 8000 in
theorem qX3_init_0 {l : Launch} {M : Mem} (hl : M.1.length = 51) (hk : M.1[50]? = some (.inl 3)) : Fn l mdX3_init [aR 50, aR 1] M none (gX3_init_0 M) := by
  refine Call.of [some (aR 50), some (aR 1)] rfl (Nat.le_of_ble_eq_true rfl) rfl ?_
  refine vc_aload_n dX3_init_0 rfl ?_
  refine vc_objInit dX3_init_1 oiX3_3 (Nat.le_of_ble_eq_true rfl) ?_
  refine vc_aload_n dX3_init_4 rfl ?_
  refine vc_aload_n dX3_init_5 rfl ?_
  refine vc_putR dX3_init_6 (plX3_9 _ rfl rfl) hk rfl ?_
  refine vc_aload_n dX3_init_9 rfl ?_
  refine vc_bipush dX3_init_10 rfl ?_
  refine vc_newIq 16 51 dX3_init_12 rfl hl (Nat.le_of_ble_eq_true rfl) (Nat.le_of_ble_eq_true rfl) (Nat.le_of_ble_eq_true rfl) ?_
  refine vc_putR dX3_init_14 (plX3_15 _ rfl rfl) (sh_mk hk) rfl ?_
  refine vc_aload_n dX3_init_17 rfl ?_
  refine vc_bipush dX3_init_18 rfl ?_
  refine vc_newIq 16 52 dX3_init_20 rfl (ln_mk hl) (Nat.le_of_ble_eq_true rfl) (Nat.le_of_ble_eq_true rfl) (Nat.le_of_ble_eq_true rfl) ?_
  refine vc_putR dX3_init_22 (plX3_19 _ rfl rfl) (sh_mk (sh_mk hk)) rfl ?_
  refine vc_aload_n dX3_init_25 rfl ?_
  refine vc_bipush dX3_init_26 rfl ?_
  refine vc_newIq 64 53 dX3_init_28 rfl (ln_mk (ln_mk hl)) (Nat.le_of_ble_eq_true rfl) (Nat.le_of_ble_eq_true rfl) (Nat.le_of_ble_eq_true rfl) ?_
  refine vc_putR dX3_init_30 (plX3_22 _ rfl rfl) (sh_mk (sh_mk (sh_mk hk))) rfl ?_
  refine vc_vret dX3_init_33 rfl (Nat.le_of_ble_eq_true rfl) (Nat.le_of_ble_eq_true rfl) ?_
  exact ⟨rfl, rfl⟩
theorem lX3_init_0 {M : Mem} (hl : M.1.length = 51) : (gX3_init_0 M).1.length = 54 := (ln_mk (ln_mk (ln_mk hl)))
theorem xX3_init_0 {M : Mem} {k : Nat} {x : Sh} (h : M.1[k]? = some x) : (gX3_init_0 M).1[k]? = some x := (sh_mk (sh_mk (sh_mk h)))
theorem yX3_init_0 {M : Mem} {j r : Nat} (hl : M.1.length = 51) (h : mR M 0 j = some r) : mR (gX3_init_0 M) 0 j = some r := by
  unfold gX3_init_0
  simp [mR_sR, mR_mkC, mR_sI, mR_flI, mkC_len, ls_sR, ls_sI, hl, h]
def gX11_init (M : Mem) : Mem := sI (sI (sI (sR (gX3_init_0 (mkC (sR (gX0_init_0 (mkC (sR (gX7_init_0 (mkC (sR (gX10_init_0 (mkC (sR (gX9_init_0 (mkC (sR (gX1_init_0 (mkC (sR (gX2_init_0 (mkC (sR (gX4_init_0 (mkC (sR (mkC (sR (gX8_init_18 (mkC (sR (gX8_init_15 (mkC (sR (gX6_init_8 (mkC (sR (gX6_init_1 (mkC M (.inl 6))) 0 0 (some 1)) (.inl 6))) 0 1 (some 8)) (.inl 8))) 0 2 (some 15)) (.inl 8))) 0 3 (some 18)) (.inr (0, 300))) 0 4 (some 21)) (.inl 4))) 0 5 (some 22)) (.inl 2))) 0 6 (some 29)) (.inl 1))) 0 7 (some 32)) (.inl 9))) 0 8 (some 34)) (.inl 10))) 0 9 (some 35)) (.inl 7))) 0 10 (some 40)) (.inl 0))) 0 11 (some 46)) (.inl 3))) 0 12 (some 50)) 0 13 0) 0 14 (-1)) 0 15 (-1)
set_option maxRecDepth 8000 in
theorem qX11_init {l : Launch} {M : Mem} (hl : M.1.length = 1) (hk : M.1[0]? = some (.inl 11)) : Fn l mdX11_init [aR 0] M none (gX11_init M) := by
  refine Call.of [some (aR 0)] rfl (Nat.le_of_ble_eq_true rfl) rfl ?_
  refine vc_aload_n dX11_init_0 rfl ?_
  refine vc_objInit dX11_init_1 oiX11_1 (Nat.le_of_ble_eq_true rfl) ?_
  refine vc_aload_n dX11_init_4 rfl ?_
  refine vc_newOq 1 dX11_init_5 hl cl_6 clX11_7 iaX6 iiX6 (Nat.le_of_ble_eq_true rfl) (Nat.le_of_ble_eq_true rfl) ?_
  refine vc_dup dX11_init_8 rfl ?_
  refine vc_callIU dX11_init_9 (qX6_init_1 (ln_mk hl) (sh_nw hl)) rfl okX6_init inX6_init rfl rfl lkX11_9 rfl (Nat.le_of_ble_eq_true rfl) (Nat.le_of_ble_eq_true rfl) (Nat.le_of_ble_eq_true rfl) (Nat.le_of_ble_eq_true rfl) ?_
  refine vc_putR dX11_init_12 (plX11_10 _ rfl rfl) (xX6_init_1 (sh_mk hk)) rfl ?_
  refine vc_aload_n dX11_init_15 rfl ?_
  refine vc_newOq 8 dX11_init_16 (lX6_init_1 (ln_mk hl)) cl_6 clX11_7 iaX6 iiX6 (Nat.le_of_ble_eq_true rfl) (Nat.le_of_ble_eq_true rfl) ?_
  refine vc_dup dX11_init_19 rfl ?_
  refine vc_callIU dX11_init_20 (qX6_init_8 (ln_mk (lX6_init_1 (ln_mk hl))) (sh_nw (lX6_init_1 (ln_mk hl)))) rfl okX6_init inX6_init rfl rfl lkX11_9 rfl (Nat.le_of_ble_eq_true rfl) (Nat.le_of_ble_eq_true rfl) (Nat.le_of_ble_eq_true rfl) (Nat.le_of_ble_eq_true rfl) ?_
  refine vc_putR dX11_init_23 (plX11_16 _ rfl rfl) (xX6_init_8 (sh_mk (xX6_init_1 (sh_mk hk)))) rfl ?_
  refine vc_aload_n dX11_init_26 rfl ?_
  refine vc_newOq 15 dX11_init_27 (lX6_init_8 (ln_mk (lX6_init_1 (ln_mk hl)))) cl_8 clX11_19 iaX8 iiX8 (Nat.le_of_ble_eq_true rfl) (Nat.le_of_ble_eq_true rfl) ?_
  refine vc_dup dX11_init_30 rfl ?_
  refine vc_callIU dX11_init_31 (qX8_init_15 (ln_mk (lX6_init_8 (ln_mk (lX6_init_1 (ln_mk hl))))) (sh_nw (lX6_init_8 (ln_mk (lX6_init_1 (ln_mk hl)))))) rfl okX8_init inX8_init rfl rfl lkX11_21 rfl (Nat.le_of_ble_eq_true rfl) (Nat.le_of_ble_eq_true rfl) (Nat.le_of_ble_eq_true rfl) (Nat.le_of_ble_eq_true rfl) ?_
  refine vc_putR dX11_init_34 (plX11_22 _ rfl rfl) (xX8_init_15 (sh_mk (xX6_init_8 (sh_mk (xX6_init_1 (sh_mk hk)))))) rfl ?_
  refine vc_aload_n dX11_init_37 rfl ?_
  refine vc_newOq 18 dX11_init_38 (lX8_init_15 (ln_mk (lX6_init_8 (ln_mk (lX6_init_1 (ln_mk hl)))))) cl_8 clX11_19 iaX8 iiX8 (Nat.le_of_ble_eq_true rfl) (Nat.le_of_ble_eq_true rfl) ?_
  refine vc_dup dX11_init_41 rfl ?_
  refine vc_callIU dX11_init_42 (qX8_init_18 (ln_mk (lX8_init_15 (ln_mk (lX6_init_8 (ln_mk (lX6_init_1 (ln_mk hl))))))) (sh_nw (lX8_init_15 (ln_mk (lX6_init_8 (ln_mk (lX6_init_1 (ln_mk hl)))))))) rfl okX8_init inX8_init rfl rfl lkX11_21 rfl (Nat.le_of_ble_eq_true rfl) (Nat.le_of_ble_eq_true rfl) (Nat.le_of_ble_eq_true rfl) (Nat.le_of_ble_eq_true rfl) ?_
  refine vc_putR dX11_init_45 (plX11_26 _ rfl rfl) (xX8_init_18 (sh_mk (xX8_init_15 (sh_mk (xX6_init_8 (sh_mk (xX6_init_1 (sh_mk hk)))))))) rfl ?_
  refine vc_aload_n dX11_init_48 rfl ?_
  refine vc_sipush dX11_init_49 rfl ?_
  refine vc_newIq 300 21 dX11_init_52 rfl (lX8_init_18 (ln_mk (lX8_init_15 (ln_mk (lX6_init_8 (ln_mk (lX6_init_1 (ln_mk hl)))))))) (Nat.le_of_ble_eq_true rfl) (Nat.le_of_ble_eq_true rfl) (Nat.le_of_ble_eq_true rfl) ?_
  refine vc_putR dX11_init_54 (plX11_29 _ rfl rfl) (sh_mk (xX8_init_18 (sh_mk (xX8_init_15 (sh_mk (xX6_init_8 (sh_mk (xX6_init_1 (sh_mk hk))))))))) rfl ?_
  refine vc_aload_n dX11_init_57 rfl ?_
  refine vc_newOq 22 dX11_init_58 (ln_mk (lX8_init_18 (ln_mk (lX8_init_15 (ln_mk (lX6_init_8 (ln_mk (lX6_init_1 (ln_mk hl))))))))) cl_4 clX11_33 iaX4 iiX4 (Nat.le_of_ble_eq_true rfl) (Nat.le_of_ble_eq_true rfl) ?_
  refine vc_dup dX11_init_61 rfl ?_
  refine vc_aload_n dX11_init_62 rfl ?_
  refine vc_getR dX11_init_63 flX11_29 (sh_mk (sh_mk (xX8_init_18 (sh_mk (xX8_init_15 (sh_mk (xX6_init_8 (sh_mk (xX6_init_1 (sh_mk hk)))))))))) rfl (rp_mk (ln_mk (lX8_init_18 (ln_mk (lX8_init_15 (ln_mk (lX6_init_8 (ln_mk (lX6_init_1 (ln_mk hl))))))))) rp_new (by decide)) ?_
  refine vc_callIU dX11_init_66 (qX4_init_0 (ln_mk (ln_mk (lX8_init_18 (ln_mk (lX8_init_15 (ln_mk (lX6_init_8 (ln_mk (lX6_init_1 (ln_mk hl)))))))))) (sh_nw (ln_mk (lX8_init_18 (ln_mk (lX8_init_15 (ln_mk (lX6_init_8 (ln_mk (lX6_init_1 (ln_mk hl))))))))))) rfl okX4_init inX4_init rfl rfl lkX11_35 rfl (Nat.le_of_ble_eq_true rfl) (Nat.le_of_ble_eq_true rfl) (Nat.le_of_ble_eq_true rfl) (Nat.le_of_ble_eq_true rfl) ?_
  refine vc_putR dX11_init_69 (plX11_38 _ rfl rfl) (xX4_init_0 (sh_mk (sh_mk (xX8_init_18 (sh_mk (xX8_init_15 (sh_mk (xX6_init_8 (sh_mk (xX6_init_1 (sh_mk hk))))))))))) rfl ?_
  refine vc_aload_n dX11_init_72 rfl ?_
  refine vc_newOq 29 dX11_init_73 (lX4_init_0 (ln_mk (ln_mk (lX8_init_18 (ln_mk (lX8_init_15 (ln_mk (lX6_init_8 (ln_mk (lX6_init_1 (ln_mk hl))))))))))) cl_2 clX11_42 iaX2 iiX2 (Nat.le_of_ble_eq_true rfl) (Nat.le_of_ble_eq_true rfl) ?_
  refine vc_dup dX11_init_76 rfl ?_
  refine vc_aload_n dX11_init_77 rfl ?_
  refine vc_getR dX11_init_78 flX11_10 (sh_mk (xX4_init_0 (sh_mk (sh_mk (xX8_init_18 (sh_mk (xX8_init_15 (sh_mk (xX6_init_8 (sh_mk (xX6_init_1 (sh_mk hk)))))))))))) rfl (rp_mk (lX4_init_0 (ln_mk (ln_mk (lX8_init_18 (ln_mk (lX8_init_15 (ln_mk (lX6_init_8 (ln_mk (lX6_init_1 (ln_mk hl))))))))))) (rp_sR (yX4_init_0 (ln_mk (ln_mk (lX8_init_18 (ln_mk (lX8_init_15 (ln_mk (lX6_init_8 (ln_mk (lX6_init_1 (ln_mk hl)))))))))) (rp_mk (ln_mk (lX8_init_18 (ln_mk (lX8_init_15 (ln_mk (lX6_init_8 (ln_mk (lX6_init_1 (ln_mk hl))))))))) (rp_sR (rp_mk (lX8_init_18 (ln_mk (lX8_init_15 (ln_mk (lX6_init_8 (ln_mk (lX6_init_1 (ln_mk hl)))))))) (rp_sR (yX8_init_18 (ln_mk (lX8_init_15 (ln_mk (lX6_init_8 (ln_mk (lX6_init_1 (ln_mk hl))))))) (rp_mk (lX8_init_15 (ln_mk (lX6_init_8 (ln_mk (lX6_init_1 (ln_mk hl)))))) (rp_sR (yX8_init_15 (ln_mk (lX6_init_8 (ln_mk (lX6_init_1 (ln_mk hl))))) (rp_mk (lX6_init_8 (ln_mk (lX6_init_1 (ln_mk hl)))) (rp_sR (yX6_init_8 (ln_mk (lX6_init_1 (ln_mk hl))) (rp_mk (lX6_init_1 (ln_mk hl)) rp_new (by decide))) (by decide)) (by decide))) (by decide)) (by decide))) (by decide)) (by decide)) (by decide)) (by decide))) (by decide)) (by decide)) ?_
  refine vc_aload_n dX11_init_81 rfl ?_
  refine vc_getR dX11_init_82 flX11_22 (sh_mk (xX4_init_0 (sh_mk (sh_mk (xX8_init_18 (sh_mk (xX8_init_15 (sh_mk (xX6_init_8 (sh_mk (xX6_init_1 (sh_mk hk)))))))))))) rfl (rp_mk (lX4_init_0 (ln_mk (ln_mk (lX8_init_18 (ln_mk (lX8_init_15 (ln_mk (lX6_init_8 (ln_mk (lX6_init_1 (ln_mk hl))))))))))) (rp_sR (yX4_init_0 (ln_mk (ln_mk (lX8_init_18 (ln_mk (lX8_init_15 (ln_mk (lX6_init_8 (ln_mk (lX6_init_1 (ln_mk hl)))))))))) (rp_mk (ln_mk (lX8_init_18 (ln_mk (lX8_init_15 (ln_mk (lX6_init_8 (ln_mk (lX6_init_1 (ln_mk hl))))))))) (rp_sR (rp_mk (lX8_init_18 (ln_mk (lX8_init_15 (ln_mk (lX6_init_8 (ln_mk (lX6_init_1 (ln_mk hl)))))))) (rp_sR (yX8_init_18 (ln_mk (lX8_init_15 (ln_mk (lX6_init_8 (ln_mk (lX6_init_1 (ln_mk hl))))))) (rp_mk (lX8_init_15 (ln_mk (lX6_init_8 (ln_mk (lX6_init_1 (ln_mk hl)))))) rp_new (by decide))) (by decide)) (by decide)) (by decide)) (by decide))) (by decide)) (by decide)) ?_
  refine vc_callIU dX11_init_85 (qX2_init_0 (ln_mk (lX4_init_0 (ln_mk (ln_mk (lX8_init_18 (ln_mk (lX8_init_15 (ln_mk (lX6_init_8 (ln_mk (lX6_init_1 (ln_mk hl)))))))))))) (sh_nw (lX4_init_0 (ln_mk (ln_mk (lX8_init_18 (ln_mk (lX8_init_15 (ln_mk (lX6_init_8 (ln_mk (lX6_init_1 (ln_mk hl))))))))))))) rfl okX2_init inX2_init rfl rfl lkX11_44 rfl (Nat.le_of_ble_eq_true rfl) (Nat.le_of_ble_eq_true rfl) (Nat.le_of_ble_eq_true rfl) (Nat.le_of_ble_eq_true rfl) ?_
  refine vc_putR dX11_init_88 (plX11_47 _ rfl rfl) (xX2_init_0 (sh_mk (xX4_init_0 (sh_mk (sh_mk (xX8_init_18 (sh_mk (xX8_init_15 (sh_mk (xX6_init_8 (sh_mk (xX6_init_1 (sh_mk hk))))))))))))) rfl ?_
  refine vc_aload_n dX11_init_91 rfl ?_
  refine vc_newOq 32 dX11_init_92 (lX2_init_0 (ln_mk (lX4_init_0 (ln_mk (ln_mk (lX8_init_18 (ln_mk (lX8_init_15 (ln_mk (lX6_init_8 (ln_mk (lX6_init_1 (ln_mk hl))))))))))))) cl_1 clX11_51 iaX1 iiX1 (Nat.le_of_ble_eq_true rfl) (Nat.le_of_ble_eq_true rfl) ?_
  refine vc_dup dX11_init_95 rfl ?_
  refine vc_aload_n dX11_init_96 rfl ?_
  refine vc_getR dX11_init_97 flX11_10 (sh_mk (xX2_init_0 (sh_mk (xX4_init_0 (sh_mk (sh_mk (xX8_init_18 (sh_mk (xX8_init_15 (sh_mk (xX6_init_8 (sh_mk (xX6_init_1 (sh_mk hk)))))))))))))) rfl (rp_mk (lX2_init_0 (ln_mk (lX4_init_0 (ln_mk (ln_mk (lX8_init_18 (ln_mk (lX8_init_15 (ln_mk (lX6_init_8 (ln_mk (lX6_init_1 (ln_mk hl))))))))))))) (rp_sR (yX2_init_0 (ln_mk (lX4_init_0 (ln_mk (ln_mk (lX8_init_18 (ln_mk (lX8_init_15 (ln_mk (lX6_init_8 (ln_mk (lX6_init_1 (ln_mk hl)))))))))))) (rp_mk (lX4_init_0 (ln_mk (ln_mk (lX8_init_18 (ln_mk (lX8_init_15 (ln_mk (lX6_init_8 (ln_mk (lX6_init_1 (ln_mk hl))))))))))) (rp_sR (yX4_init_0 (ln_mk (ln_mk (lX8_init_18 (ln_mk (lX8_init_15 (ln_mk (lX6_init_8 (ln_mk (lX6_init_1 (ln_mk hl)))))))))) (rp_mk (ln_mk (lX8_init_18 (ln_mk (lX8_init_15 (ln_mk (lX6_init_8 (ln_mk (lX6_init_1 (ln_mk hl))))))))) (rp_sR (rp_mk (lX8_init_18 (ln_mk (lX8_init_15 (ln_mk (lX6_init_8 (ln_mk (lX6_init_1 (ln_mk hl)))))))) (rp_sR (yX8_init_18 (ln_mk (lX8_init_15 (ln_mk (lX6_init_8 (ln_mk (lX6_init_1 (ln_mk hl))))))) (rp_mk (lX8_init_15 (ln_mk (lX6_init_8 (ln_mk (lX6_init_1 (ln_mk hl)))))) (rp_sR (yX8_init_15 (ln_mk (lX6_init_8 (ln_mk (lX6_init_1 (ln_mk hl))))) (rp_mk (lX6_init_8 (ln_mk (lX6_init_1 (ln_mk hl)))) (rp_sR (yX6_init_8 (ln_mk (lX6_init_1 (ln_mk hl))) (rp_mk (lX6_init_1 (ln_mk hl)) rp_new (by decide))) (by decide)) (by decide))) (by decide)) (by decide))) (by decide)) (by decide)) (by decide)) (by decide))) (by decide)) (by decide))) (by decide)) (by decide)) ?_
  refine vc_callIU dX11_init_100 (qX1_init_0 (ln_mk (lX2_init_0 (ln_mk (lX4_init_0 (ln_mk (ln_mk (lX8_init_18 (ln_mk (lX8_init_15 (ln_mk (lX6_init_8 (ln_mk (lX6_init_1 (ln_mk hl)))))))))))))) (sh_nw (lX2_init_0 (ln_mk (lX4_init_0 (ln_mk (ln_mk (lX8_init_18 (ln_mk (lX8_init_15 (ln_mk (lX6_init_8 (ln_mk (lX6_init_1 (ln_mk hl))))))))))))))) rfl okX1_init inX1_init rfl rfl lkX11_53 rfl (Nat.le_of_ble_eq_true rfl) (Nat.le_of_ble_eq_true rfl) (Nat.le_of_ble_eq_true rfl) (Nat.le_of_ble_eq_true rfl) ?_
  refine vc_putR dX11_init_103 (plX11_56 _ rfl rfl) (xX1_init_0 (sh_mk (xX2_init_0 (sh_mk (xX4_init_0 (sh_mk (sh_mk (xX8_init_18 (sh_mk (xX8_init_15 (sh_mk (xX6_init_8 (sh_mk (xX6_init_1 (sh_mk hk))))))))))))))) rfl ?_
  refine vc_aload_n dX11_init_106 rfl ?_
  refine vc_newOq 34 dX11_init_107 (lX1_init_0 (ln_mk (lX2_init_0 (ln_mk (lX4_init_0 (ln_mk (ln_mk (lX8_init_18 (ln_mk (lX8_init_15 (ln_mk (lX6_init_8 (ln_mk (lX6_init_1 (ln_mk hl))))))))))))))) cl_9 clX11_60 iaX9 iiX9 (Nat.le_of_ble_eq_true rfl) (Nat.le_of_ble_eq_true rfl) ?_
  refine vc_dup dX11_init_110 rfl ?_
  refine vc_aload_n dX11_init_111 rfl ?_
  refine vc_getR dX11_init_112 flX11_10 (sh_mk (xX1_init_0 (sh_mk (xX2_init_0 (sh_mk (xX4_init_0 (sh_mk (sh_mk (xX8_init_18 (sh_mk (xX8_init_15 (sh_mk (xX6_init_8 (sh_mk (xX6_init_1 (sh_mk hk)))))))))))))))) rfl (rp_mk (lX1_init_0 (ln_mk (lX2_init_0 (ln_mk (lX4_init_0 (ln_mk (ln_mk (lX8_init_18 (ln_mk (lX8_init_15 (ln_mk (lX6_init_8 (ln_mk (lX6_init_1 (ln_mk hl))))))))))))))) (rp_sR (yX1_init_0 (ln_mk (lX2_init_0 (ln_mk (lX4_init_0 (ln_mk (ln_mk (lX8_init_18 (ln_mk (lX8_init_15 (ln_mk (lX6_init_8 (ln_mk (lX6_init_1 (ln_mk hl)))))))))))))) (rp_mk (lX2_init_0 (ln_mk (lX4_init_0 (ln_mk (ln_mk (lX8_init_18 (ln_mk (lX8_init_15 (ln_mk (lX6_init_8 (ln_mk (lX6_init_1 (ln_mk hl))))))))))))) (rp_sR (yX2_init_0 (ln_mk (lX4_init_0 (ln_mk (ln_mk (lX8_init_18 (ln_mk (lX8_init_15 (ln_mk (lX6_init_8 (ln_mk (lX6_init_1 (ln_mk hl)))))))))))) (rp_mk (lX4_init_0 (ln_mk (ln_mk (lX8_init_18 (ln_mk (lX8_init_15 (ln_mk (lX6_init_8 (ln_mk (lX6_init_1 (ln_mk hl))))))))))) (rp_sR (yX4_init_0 (ln_mk (ln_mk (lX8_init_18 (ln_mk (lX8_init_15 (ln_mk (lX6_init_8 (ln_mk (lX6_init_1 (ln_mk hl)))))))))) (rp_mk (ln_mk (lX8_init_18 (ln_mk (lX8_init_15 (ln_mk (lX6_init_8 (ln_mk (lX6_init_1 (ln_mk hl))))))))) (rp_sR (rp_mk (lX8_init_18 (ln_mk (lX8_init_15 (ln_mk (lX6_init_8 (ln_mk (lX6_init_1 (ln_mk hl)))))))) (rp_sR (yX8_init_18 (ln_mk (lX8_init_15 (ln_mk (lX6_init_8 (ln_mk (lX6_init_1 (ln_mk hl))))))) (rp_mk (lX8_init_15 (ln_mk (lX6_init_8 (ln_mk (lX6_init_1 (ln_mk hl)))))) (rp_sR (yX8_init_15 (ln_mk (lX6_init_8 (ln_mk (lX6_init_1 (ln_mk hl))))) (rp_mk (lX6_init_8 (ln_mk (lX6_init_1 (ln_mk hl)))) (rp_sR (yX6_init_8 (ln_mk (lX6_init_1 (ln_mk hl))) (rp_mk (lX6_init_1 (ln_mk hl)) rp_new (by decide))) (by decide)) (by decide))) (by decide)) (by decide))) (by decide)) (by decide)) (by decide)) (by decide))) (by decide)) (by decide))) (by decide)) (by decide))) (by decide)) (by decide)) ?_
  refine vc_aload_n dX11_init_115 rfl ?_
  refine vc_getR dX11_init_116 flX11_22 (sh_mk (xX1_init_0 (sh_mk (xX2_init_0 (sh_mk (xX4_init_0 (sh_mk (sh_mk (xX8_init_18 (sh_mk (xX8_init_15 (sh_mk (xX6_init_8 (sh_mk (xX6_init_1 (sh_mk hk)))))))))))))))) rfl (rp_mk (lX1_init_0 (ln_mk (lX2_init_0 (ln_mk (lX4_init_0 (ln_mk (ln_mk (lX8_init_18 (ln_mk (lX8_init_15 (ln_mk (lX6_init_8 (ln_mk (lX6_init_1 (ln_mk hl))))))))))))))) (rp_sR (yX1_init_0 (ln_mk (lX2_init_0 (ln_mk (lX4_init_0 (ln_mk (ln_mk (lX8_init_18 (ln_mk (lX8_init_15 (ln_mk (lX6_init_8 (ln_mk (lX6_init_1 (ln_mk hl)))))))))))))) (rp_mk (lX2_init_0 (ln_mk (lX4_init_0 (ln_mk (ln_mk (lX8_init_18 (ln_mk (lX8_init_15 (ln_mk (lX6_init_8 (ln_mk (lX6_init_1 (ln_mk hl))))))))))))) (rp_sR (yX2_init_0 (ln_mk (lX4_init_0 (ln_mk (ln_mk (lX8_init_18 (ln_mk (lX8_init_15 (ln_mk (lX6_init_8 (ln_mk (lX6_init_1 (ln_mk hl)))))))))))) (rp_mk (lX4_init_0 (ln_mk (ln_mk (lX8_init_18 (ln_mk (lX8_init_15 (ln_mk (lX6_init_8 (ln_mk (lX6_init_1 (ln_mk hl))))))))))) (rp_sR (yX4_init_0 (ln_mk (ln_mk (lX8_init_18 (ln_mk (lX8_init_15 (ln_mk (lX6_init_8 (ln_mk (lX6_init_1 (ln_mk hl)))))))))) (rp_mk (ln_mk (lX8_init_18 (ln_mk (lX8_init_15 (ln_mk (lX6_init_8 (ln_mk (lX6_init_1 (ln_mk hl))))))))) (rp_sR (rp_mk (lX8_init_18 (ln_mk (lX8_init_15 (ln_mk (lX6_init_8 (ln_mk (lX6_init_1 (ln_mk hl)))))))) (rp_sR (yX8_init_18 (ln_mk (lX8_init_15 (ln_mk (lX6_init_8 (ln_mk (lX6_init_1 (ln_mk hl))))))) (rp_mk (lX8_init_15 (ln_mk (lX6_init_8 (ln_mk (lX6_init_1 (ln_mk hl)))))) rp_new (by decide))) (by decide)) (by decide)) (by decide)) (by decide))) (by decide)) (by decide))) (by decide)) (by decide))) (by decide)) (by decide)) ?_
  refine vc_aload_n dX11_init_119 rfl ?_
  refine vc_getR dX11_init_120 flX11_47 (sh_mk (xX1_init_0 (sh_mk (xX2_init_0 (sh_mk (xX4_init_0 (sh_mk (sh_mk (xX8_init_18 (sh_mk (xX8_init_15 (sh_mk (xX6_init_8 (sh_mk (xX6_init_1 (sh_mk hk)))))))))))))))) rfl (rp_mk (lX1_init_0 (ln_mk (lX2_init_0 (ln_mk (lX4_init_0 (ln_mk (ln_mk (lX8_init_18 (ln_mk (lX8_init_15 (ln_mk (lX6_init_8 (ln_mk (lX6_init_1 (ln_mk hl))))))))))))))) (rp_sR (yX1_init_0 (ln_mk (lX2_init_0 (ln_mk (lX4_init_0 (ln_mk (ln_mk (lX8_init_18 (ln_mk (lX8_init_15 (ln_mk (lX6_init_8 (ln_mk (lX6_init_1 (ln_mk hl)))))))))))))) (rp_mk (lX2_init_0 (ln_mk (lX4_init_0 (ln_mk (ln_mk (lX8_init_18 (ln_mk (lX8_init_15 (ln_mk (lX6_init_8 (ln_mk (lX6_init_1 (ln_mk hl))))))))))))) rp_new (by decide))) (by decide)) (by decide)) ?_
  refine vc_aload_n dX11_init_123 rfl ?_
  refine vc_getR dX11_init_124 flX11_56 (sh_mk (xX1_init_0 (sh_mk (xX2_init_0 (sh_mk (xX4_init_0 (sh_mk (sh_mk (xX8_init_18 (sh_mk (xX8_init_15 (sh_mk (xX6_init_8 (sh_mk (xX6_init_1 (sh_mk hk)))))))))))))))) rfl (rp_mk (lX1_init_0 (ln_mk (lX2_init_0 (ln_mk (lX4_init_0 (ln_mk (ln_mk (lX8_init_18 (ln_mk (lX8_init_15 (ln_mk (lX6_init_8 (ln_mk (lX6_init_1 (ln_mk hl))))))))))))))) rp_new (by decide)) ?_
  refine vc_callIU dX11_init_127 (qX9_init_0 (ln_mk (lX1_init_0 (ln_mk (lX2_init_0 (ln_mk (lX4_init_0 (ln_mk (ln_mk (lX8_init_18 (ln_mk (lX8_init_15 (ln_mk (lX6_init_8 (ln_mk (lX6_init_1 (ln_mk hl)))))))))))))))) (sh_nw (lX1_init_0 (ln_mk (lX2_init_0 (ln_mk (lX4_init_0 (ln_mk (ln_mk (lX8_init_18 (ln_mk (lX8_init_15 (ln_mk (lX6_init_8 (ln_mk (lX6_init_1 (ln_mk hl))))))))))))))))) rfl okX9_init inX9_init rfl rfl lkX11_62 rfl (Nat.le_of_ble_eq_true rfl) (Nat.le_of_ble_eq_true rfl) (Nat.le_of_ble_eq_true rfl) (Nat.le_of_ble_eq_true rfl) ?_
  refine vc_putR dX11_init_130 (plX11_65 _ rfl rfl) (xX9_init_0 (sh_mk (xX1_init_0 (sh_mk (xX2_init_0 (sh_mk (xX4_init_0 (sh_mk (sh_mk (xX8_init_18 (sh_mk (xX8_init_15 (sh_mk (xX6_init_8 (sh_mk (xX6_init_1 (sh_mk hk))))))))))))))))) rfl ?_
  refine vc_aload_n dX11_init_133 rfl ?_
  refine vc_newOq 35 dX11_init_134 (lX9_init_0 (ln_mk (lX1_init_0 (ln_mk (lX2_init_0 (ln_mk (lX4_init_0 (ln_mk (ln_mk (lX8_init_18 (ln_mk (lX8_init_15 (ln_mk (lX6_init_8 (ln_mk (lX6_init_1 (ln_mk hl))))))))))))))))) cl_10 clX11_69 iaX10 iiX10 (Nat.le_of_ble_eq_true rfl) (Nat.le_of_ble_eq_true rfl) ?_
  refine vc_dup dX11_init_137 rfl ?_
  refine vc_aload_n dX11_init_138 rfl ?_
  refine vc_getR dX11_init_139 flX11_10 (sh_mk (xX9_init_0 (sh_mk (xX1_init_0 (sh_mk (xX2_init_0 (sh_mk (xX4_init_0 (sh_mk (sh_mk (xX8_init_18 (sh_mk (xX8_init_15 (sh_mk (xX6_init_8 (sh_mk (xX6_init_1 (sh_mk hk)))))))))))))))))) rfl (rp_mk (lX9_init_0 (ln_mk (lX1_init_0 (ln_mk (lX2_init_0 (ln_mk (lX4_init_0 (ln_mk (ln_mk (lX8_init_18 (ln_mk (lX8_init_15 (ln_mk (lX6_init_8 (ln_mk (lX6_init_1 (ln_mk hl))))))))))))))))) (rp_sR (yX9_init_0 (ln_mk (lX1_init_0 (ln_mk (lX2_init_0 (ln_mk (lX4_init_0 (ln_mk (ln_mk (lX8_init_18 (ln_mk (lX8_init_15 (ln_mk (lX6_init_8 (ln_mk (lX6_init_1 (ln_mk hl)))))))))))))))) (rp_mk (lX1_init_0 (ln_mk (lX2_init_0 (ln_mk (lX4_init_0 (ln_mk (ln_mk (lX8_init_18 (ln_mk (lX8_init_15 (ln_mk (lX6_init_8 (ln_mk (lX6_init_1 (ln_mk hl))))))))))))))) (rp_sR (yX1_init_0 (ln_mk (lX2_init_0 (ln_mk (lX4_init_0 (ln_mk (ln_mk (lX8_init_18 (ln_mk (lX8_init_15 (ln_mk (lX6_init_8 (ln_mk (lX6_init_1 (ln_mk hl)))))))))))))) (rp_mk (lX2_init_0 (ln_mk (lX4_init_0 (ln_mk (ln_mk (lX8_init_18 (ln_mk (lX8_init_15 (ln_mk (lX6_init_8 (ln_mk (lX6_init_1 (ln_mk hl))))))))))))) (rp_sR (yX2_init_0 (ln_mk (lX4_init_0 (ln_mk (ln_mk (lX8_init_18 (ln_mk (lX8_init_15 (ln_mk (lX6_init_8 (ln_mk (lX6_init_1 (ln_mk hl)))))))))))) (rp_mk (lX4_init_0 (ln_mk (ln_mk (lX8_init_18 (ln_mk (lX8_init_15 (ln_mk (lX6_init_8 (ln_mk (lX6_init_1 (ln_mk hl))))))))))) (rp_sR (yX4_init_0 (ln_mk (ln_mk (lX8_init_18 (ln_mk (lX8_init_15 (ln_mk (lX6_init_8 (ln_mk (lX6_init_1 (ln_mk hl)))))))))) (rp_mk (ln_mk (lX8_init_18 (ln_mk (lX8_init_15 (ln_mk (lX6_init_8 (ln_mk (lX6_init_1 (ln_mk hl))))))))) (rp_sR (rp_mk (lX8_init_18 (ln_mk (lX8_init_15 (ln_mk (lX6_init_8 (ln_mk (lX6_init_1 (ln_mk hl)))))))) (rp_sR (yX8_init_18 (ln_mk (lX8_init_15 (ln_mk (lX6_init_8 (ln_mk (lX6_init_1 (ln_mk hl))))))) (rp_mk (lX8_init_15 (ln_mk (lX6_init_8 (ln_mk (lX6_init_1 (ln_mk hl)))))) (rp_sR (yX8_init_15 (ln_mk (lX6_init_8 (ln_mk (lX6_init_1 (ln_mk hl))))) (rp_mk (lX6_init_8 (ln_mk (lX6_init_1 (ln_mk hl)))) (rp_sR (yX6_init_8 (ln_mk (lX6_init_1 (ln_mk hl))) (rp_mk (lX6_init_1 (ln_mk hl)) rp_new (by decide))) (by decide)) (by decide))) (by decide)) (by decide))) (by decide)) (by decide)) (by decide)) (by decide))) (by decide)) (by decide))) (by decide)) (by decide))) (by decide)) (by decide))) (by decide)) (by decide)) ?_
  refine vc_aload_n dX11_init_142 rfl ?_
  refine vc_getR dX11_init_143 flX11_47 (sh_mk (xX9_init_0 (sh_mk (xX1_init_0 (sh_mk (xX2_init_0 (sh_mk (xX4_init_0 (sh_mk (sh_mk (xX8_init_18 (sh_mk (xX8_init_15 (sh_mk (xX6_init_8 (sh_mk (xX6_init_1 (sh_mk hk)))))))))))))))))) rfl (rp_mk (lX9_init_0 (ln_mk (lX1_init_0 (ln_mk (lX2_init_0 (ln_mk (lX4_init_0 (ln_mk (ln_mk (lX8_init_18 (ln_mk (lX8_init_15 (ln_mk (lX6_init_8 (ln_mk (lX6_init_1 (ln_mk hl))))))))))))))))) (rp_sR (yX9_init_0 (ln_mk (lX1_init_0 (ln_mk (lX2_init_0 (ln_mk (lX4_init_0 (ln_mk (ln_mk (lX8_init_18 (ln_mk (lX8_init_15 (ln_mk (lX6_init_8 (ln_mk (lX6_init_1 (ln_mk hl)))))))))))))))) (rp_mk (lX1_init_0 (ln_mk (lX2_init_0 (ln_mk (lX4_init_0 (ln_mk (ln_mk (lX8_init_18 (ln_mk (lX8_init_15 (ln_mk (lX6_init_8 (ln_mk (lX6_init_1 (ln_mk hl))))))))))))))) (rp_sR (yX1_init_0 (ln_mk (lX2_init_0 (ln_mk (lX4_init_0 (ln_mk (ln_mk (lX8_init_18 (ln_mk (lX8_init_15 (ln_mk (lX6_init_8 (ln_mk (lX6_init_1 (ln_mk hl)))))))))))))) (rp_mk (lX2_init_0 (ln_mk (lX4_init_0 (ln_mk (ln_mk (lX8_init_18 (ln_mk (lX8_init_15 (ln_mk (lX6_init_8 (ln_mk (lX6_init_1 (ln_mk hl))))))))))))) rp_new (by decide))) (by decide)) (by decide))) (by decide)) (by decide)) ?_
  refine vc_aload_n dX11_init_146 rfl ?_
  refine vc_getR dX11_init_147 flX11_56 (sh_mk (xX9_init_0 (sh_mk (xX1_init_0 (sh_mk (xX2_init_0 (sh_mk (xX4_init_0 (sh_mk (sh_mk (xX8_init_18 (sh_mk (xX8_init_15 (sh_mk (xX6_init_8 (sh_mk (xX6_init_1 (sh_mk hk)))))))))))))))))) rfl (rp_mk (lX9_init_0 (ln_mk (lX1_init_0 (ln_mk (lX2_init_0 (ln_mk (lX4_init_0 (ln_mk (ln_mk (lX8_init_18 (ln_mk (lX8_init_15 (ln_mk (lX6_init_8 (ln_mk (lX6_init_1 (ln_mk hl))))))))))))))))) (rp_sR (yX9_init_0 (ln_mk (lX1_init_0 (ln_mk (lX2_init_0 (ln_mk (lX4_init_0 (ln_mk (ln_mk (lX8_init_18 (ln_mk (lX8_init_15 (ln_mk (lX6_init_8 (ln_mk (lX6_init_1 (ln_mk hl)))))))))))))))) (rp_mk (lX1_init_0 (ln_mk (lX2_init_0 (ln_mk (lX4_init_0 (ln_mk (ln_mk (lX8_init_18 (ln_mk (lX8_init_15 (ln_mk (lX6_init_8 (ln_mk (lX6_init_1 (ln_mk hl))))))))))))))) rp_new (by decide))) (by decide)) (by decide)) ?_
  refine vc_callIU dX11_init_150 (qX10_init_0 (ln_mk (lX9_init_0 (ln_mk (lX1_init_0 (ln_mk (lX2_init_0 (ln_mk (lX4_init_0 (ln_mk (ln_mk (lX8_init_18 (ln_mk (lX8_init_15 (ln_mk (lX6_init_8 (ln_mk (lX6_init_1 (ln_mk hl)))))))))))))))))) (sh_nw (lX9_init_0 (ln_mk (lX1_init_0 (ln_mk (lX2_init_0 (ln_mk (lX4_init_0 (ln_mk (ln_mk (lX8_init_18 (ln_mk (lX8_init_15 (ln_mk (lX6_init_8 (ln_mk (lX6_init_1 (ln_mk hl))))))))))))))))))) rfl okX10_init inX10_init rfl rfl lkX11_71 rfl (Nat.le_of_ble_eq_true rfl) (Nat.le_of_ble_eq_true rfl) (Nat.le_of_ble_eq_true rfl) (Nat.le_of_ble_eq_true rfl) ?_
  refine vc_putR dX11_init_153 (plX11_74 _ rfl rfl) (xX10_init_0 (sh_mk (xX9_init_0 (sh_mk (xX1_init_0 (sh_mk (xX2_init_0 (sh_mk (xX4_init_0 (sh_mk (sh_mk (xX8_init_18 (sh_mk (xX8_init_15 (sh_mk (xX6_init_8 (sh_mk (xX6_init_1 (sh_mk hk))))))))))))))))))) rfl ?_
  refine vc_aload_n dX11_init_156 rfl ?_
  refine vc_newOq 40 dX11_init_157 (lX10_init_0 (ln_mk (lX9_init_0 (ln_mk (lX1_init_0 (ln_mk (lX2_init_0 (ln_mk (lX4_init_0 (ln_mk (ln_mk (lX8_init_18 (ln_mk (lX8_init_15 (ln_mk (lX6_init_8 (ln_mk (lX6_init_1 (ln_mk hl))))))))))))))))))) cl_7 clX11_78 iaX7 iiX7 (Nat.le_of_ble_eq_true rfl) (Nat.le_of_ble_eq_true rfl) ?_
  refine vc_dup dX11_init_160 rfl ?_
  refine vc_aload_n dX11_init_161 rfl ?_
  refine vc_getR dX11_init_162 flX11_10 (sh_mk (xX10_init_0 (sh_mk (xX9_init_0 (sh_mk (xX1_init_0 (sh_mk (xX2_init_0 (sh_mk (xX4_init_0 (sh_mk (sh_mk (xX8_init_18 (sh_mk (xX8_init_15 (sh_mk (xX6_init_8 (sh_mk (xX6_init_1 (sh_mk hk)))))))))))))))))))) rfl (rp_mk (lX10_init_0 (ln_mk (lX9_init_0 (ln_mk (lX1_init_0 (ln_mk (lX2_init_0 (ln_mk (lX4_init_0 (ln_mk (ln_mk (lX8_init_18 (ln_mk (lX8_init_15 (ln_mk (lX6_init_8 (ln_mk (lX6_init_1 (ln_mk hl))))))))))))))))))) (rp_sR (yX10_init_0 (ln_mk (lX9_init_0 (ln_mk (lX1_init_0 (ln_mk (lX2_init_0 (ln_mk (lX4_init_0 (ln_mk (ln_mk (lX8_init_18 (ln_mk (lX8_init_15 (ln_mk (lX6_init_8 (ln_mk (lX6_init_1 (ln_mk hl)))))))))))))))))) (rp_mk (lX9_init_0 (ln_mk (lX1_init_0 (ln_mk (lX2_init_0 (ln_mk (lX4_init_0 (ln_mk (ln_mk (lX8_init_18 (ln_mk (lX8_init_15 (ln_mk (lX6_init_8 (ln_mk (lX6_init_1 (ln_mk hl))))))))))))))))) (rp_sR (yX9_init_0 (ln_mk (lX1_init_0 (ln_mk (lX2_init_0 (ln_mk (lX4_init_0 (ln_mk (ln_mk (lX8_init_18 (ln_mk (lX8_init_15 (ln_mk (lX6_init_8 (ln_mk (lX6_init_1 (ln_mk hl)))))))))))))))) (rp_mk (lX1_init_0 (ln_mk (lX2_init_0 (ln_mk (lX4_init_0 (ln_mk (ln_mk (lX8_init_18 (ln_mk (lX8_init_15 (ln_mk (lX6_init_8 (ln_mk (lX6_init_1 (ln_mk hl))))))))))))))) (rp_sR (yX1_init_0 (ln_mk (lX2_init_0 (ln_mk (lX4_init_0 (ln_mk (ln_mk (lX8_init_18 (ln_mk (lX8_init_15 (ln_mk (lX6_init_8 (ln_mk (lX6_init_1 (ln_mk hl)))))))))))))) (rp_mk (lX2_init_0 (ln_mk (lX4_init_0 (ln_mk (ln_mk (lX8_init_18 (ln_mk (lX8_init_15 (ln_mk (lX6_init_8 (ln_mk (lX6_init_1 (ln_mk hl))))))))))))) (rp_sR (yX2_init_0 (ln_mk (lX4_init_0 (ln_mk (ln_mk (lX8_init_18 (ln_mk (lX8_init_15 (ln_mk (lX6_init_8 (ln_mk (lX6_init_1 (ln_mk hl)))))))))))) (rp_mk (lX4_init_0 (ln_mk (ln_mk (lX8_init_18 (ln_mk (lX8_init_15 (ln_mk (lX6_init_8 (ln_mk (lX6_init_1 (ln_mk hl))))))))))) (rp_sR (yX4_init_0 (ln_mk (ln_mk (lX8_init_18 (ln_mk (lX8_init_15 (ln_mk (lX6_init_8 (ln_mk (lX6_init_1 (ln_mk hl)))))))))) (rp_mk (ln_mk (lX8_init_18 (ln_mk (lX8_init_15 (ln_mk (lX6_init_8 (ln_mk (lX6_init_1 (ln_mk hl))))))))) (rp_sR (rp_mk (lX8_init_18 (ln_mk (lX8_init_15 (ln_mk (lX6_init_8 (ln_mk (lX6_init_1 (ln_mk hl)))))))) (rp_sR (yX8_init_18 (ln_mk (lX8_init_15 (ln_mk (lX6_init_8 (ln_mk (lX6_init_1 (ln_mk hl))))))) (rp_mk (lX8_init_15 (ln_mk (lX6_init_8 (ln_mk (lX6_init_1 (ln_mk hl)))))) (rp_sR (yX8_init_15 (ln_mk (lX6_init_8 (ln_mk (lX6_init_1 (ln_mk hl))))) (rp_mk (lX6_init_8 (ln_mk (lX6_init_1 (ln_mk hl)))) (rp_sR (yX6_init_8 (ln_mk (lX6_init_1 (ln_mk hl))) (rp_mk (lX6_init_1 (ln_mk hl)) rp_new (by decide))) (by decide)) (by decide))) (by decide)) (by decide))) (by decide)) (by decide)) (by decide)) (by decide))) (by decide)) (by decide))) (by decide)) (by decide))) (by decide)) (by decide))) (by decide)) (by decide))) (by decide)) (by decide)) ?_
  refine vc_aload_n dX11_init_165 rfl ?_
  refine vc_getR dX11_init_166 flX11_22 (sh_mk (xX10_init_0 (sh_mk (xX9_init_0 (sh_mk (xX1_init_0 (sh_mk (xX2_init_0 (sh_mk (xX4_init_0 (sh_mk (sh_mk (xX8_init_18 (sh_mk (xX8_init_15 (sh_mk (xX6_init_8 (sh_mk (xX6_init_1 (sh_mk hk)))))))))))))))))))) rfl (rp_mk (lX10_init_0 (ln_mk (lX9_init_0 (ln_mk (lX1_init_0 (ln_mk (lX2_init_0 (ln_mk (lX4_init_0 (ln_mk (ln_mk (lX8_init_18 (ln_mk (lX8_init_15 (ln_mk (lX6_init_8 (ln_mk (lX6_init_1 (ln_mk hl))))))))))))))))))) (rp_sR (yX10_init_0 (ln_mk (lX9_init_0 (ln_mk (lX1_init_0 (ln_mk (lX2_init_0 (ln_mk (lX4_init_0 (ln_mk (ln_mk (lX8_init_18 (ln_mk (lX8_init_15 (ln_mk (lX6_init_8 (ln_mk (lX6_init_1 (ln_mk hl)))))))))))))))))) (rp_mk (lX9_init_0 (ln_mk (lX1_init_0 (ln_mk (lX2_init_0 (ln_mk (lX4_init_0 (ln_mk (ln_mk (lX8_init_18 (ln_mk (lX8_init_15 (ln_mk (lX6_init_8 (ln_mk (lX6_init_1 (ln_mk hl))))))))))))))))) (rp_sR (yX9_init_0 (ln_mk (lX1_init_0 (ln_mk (lX2_init_0 (ln_mk (lX4_init_0 (ln_mk (ln_mk (lX8_init_18 (ln_mk (lX8_init_15 (ln_mk (lX6_init_8 (ln_mk (lX6_init_1 (ln_mk hl)))))))))))))))) (rp_mk (lX1_init_0 (ln_mk (lX2_init_0 (ln_mk (lX4_init_0 (ln_mk (ln_mk (lX8_init_18 (ln_mk (lX8_init_15 (ln_mk (lX6_init_8 (ln_mk (lX6_init_1 (ln_mk hl))))))))))))))) (rp_sR (yX1_init_0 (ln_mk (lX2_init_0 (ln_mk (lX4_init_0 (ln_mk (ln_mk (lX8_init_18 (ln_mk (lX8_init_15 (ln_mk (lX6_init_8 (ln_mk (lX6_init_1 (ln_mk hl)))))))))))))) (rp_mk (lX2_init_0 (ln_mk (lX4_init_0 (ln_mk (ln_mk (lX8_init_18 (ln_mk (lX8_init_15 (ln_mk (lX6_init_8 (ln_mk (lX6_init_1 (ln_mk hl))))))))))))) (rp_sR (yX2_init_0 (ln_mk (lX4_init_0 (ln_mk (ln_mk (lX8_init_18 (ln_mk (lX8_init_15 (ln_mk (lX6_init_8 (ln_mk (lX6_init_1 (ln_mk hl)))))))))))) (rp_mk (lX4_init_0 (ln_mk (ln_mk (lX8_init_18 (ln_mk (lX8_init_15 (ln_mk (lX6_init_8 (ln_mk (lX6_init_1 (ln_mk hl))))))))))) (rp_sR (yX4_init_0 (ln_mk (ln_mk (lX8_init_18 (ln_mk (lX8_init_15 (ln_mk (lX6_init_8 (ln_mk (lX6_init_1 (ln_mk hl)))))))))) (rp_mk (ln_mk (lX8_init_18 (ln_mk (lX8_init_15 (ln_mk (lX6_init_8 (ln_mk (lX6_init_1 (ln_mk hl))))))))) (rp_sR (rp_mk (lX8_init_18 (ln_mk (lX8_init_15 (ln_mk (lX6_init_8 (ln_mk (lX6_init_1 (ln_mk hl)))))))) (rp_sR (yX8_init_18 (ln_mk (lX8_init_15 (ln_mk (lX6_init_8 (ln_mk (lX6_init_1 (ln_mk hl))))))) (rp_mk (lX8_init_15 (ln_mk (lX6_init_8 (ln_mk (lX6_init_1 (ln_mk hl)))))) rp_new (by decide))) (by decide)) (by decide)) (by decide)) (by decide))) (by decide)) (by decide))) (by decide)) (by decide))) (by decide)) (by decide))) (by decide)) (by decide))) (by decide)) (by decide)) ?_
  refine vc_aload_n dX11_init_169 rfl ?_
  refine vc_getR dX11_init_170 flX11_47 (sh_mk (xX10_init_0 (sh_mk (xX9_init_0 (sh_mk (xX1_init_0 (sh_mk (xX2_init_0 (sh_mk (xX4_init_0 (sh_mk (sh_mk (xX8_init_18 (sh_mk (xX8_init_15 (sh_mk (xX6_init_8 (sh_mk (xX6_init_1 (sh_mk hk)))))))))))))))))))) rfl (rp_mk (lX10_init_0 (ln_mk (lX9_init_0 (ln_mk (lX1_init_0 (ln_mk (lX2_init_0 (ln_mk (lX4_init_0 (ln_mk (ln_mk (lX8_init_18 (ln_mk (lX8_init_15 (ln_mk (lX6_init_8 (ln_mk (lX6_init_1 (ln_mk hl))))))))))))))))))) (rp_sR (yX10_init_0 (ln_mk (lX9_init_0 (ln_mk (lX1_init_0 (ln_mk (lX2_init_0 (ln_mk (lX4_init_0 (ln_mk (ln_mk (lX8_init_18 (ln_mk (lX8_init_15 (ln_mk (lX6_init_8 (ln_mk (lX6_init_1 (ln_mk hl)))))))))))))))))) (rp_mk (lX9_init_0 (ln_mk (lX1_init_0 (ln_mk (lX2_init_0 (ln_mk (lX4_init_0 (ln_mk (ln_mk (lX8_init_18 (ln_mk (lX8_init_15 (ln_mk (lX6_init_8 (ln_mk (lX6_init_1 (ln_mk hl))))))))))))))))) (rp_sR (yX9_init_0 (ln_mk (lX1_init_0 (ln_mk (lX2_init_0 (ln_mk (lX4_init_0 (ln_mk (ln_mk (lX8_init_18 (ln_mk (lX8_init_15 (ln_mk (lX6_init_8 (ln_mk (lX6_init_1 (ln_mk hl)))))))))))))))) (rp_mk (lX1_init_0 (ln_mk (lX2_init_0 (ln_mk (lX4_init_0 (ln_mk (ln_mk (lX8_init_18 (ln_mk (lX8_init_15 (ln_mk (lX6_init_8 (ln_mk (lX6_init_1 (ln_mk hl))))))))))))))) (rp_sR (yX1_init_0 (ln_mk (lX2_init_0 (ln_mk (lX4_init_0 (ln_mk (ln_mk (lX8_init_18 (ln_mk (lX8_init_15 (ln_mk (lX6_init_8 (ln_mk (lX6_init_1 (ln_mk hl)))))))))))))) (rp_mk (lX2_init_0 (ln_mk (lX4_init_0 (ln_mk (ln_mk (lX8_init_18 (ln_mk (lX8_init_15 (ln_mk (lX6_init_8 (ln_mk (lX6_init_1 (ln_mk hl))))))))))))) rp_new (by decide))) (by decide)) (by decide))) (by decide)) (by decide))) (by decide)) (by decide)) ?_
  refine vc_aload_n dX11_init_173 rfl ?_
  refine vc_getR dX11_init_174 flX11_74 (sh_mk (xX10_init_0 (sh_mk (xX9_init_0 (sh_mk (xX1_init_0 (sh_mk (xX2_init_0 (sh_mk (xX4_init_0 (sh_mk (sh_mk (xX8_init_18 (sh_mk (xX8_init_15 (sh_mk (xX6_init_8 (sh_mk (xX6_init_1 (sh_mk hk)))))))))))))))))))) rfl (rp_mk (lX10_init_0 (ln_mk (lX9_init_0 (ln_mk (lX1_init_0 (ln_mk (lX2_init_0 (ln_mk (lX4_init_0 (ln_mk (ln_mk (lX8_init_18 (ln_mk (lX8_init_15 (ln_mk (lX6_init_8 (ln_mk (lX6_init_1 (ln_mk hl))))))))))))))))))) rp_new (by decide)) ?_
  refine vc_callIU dX11_init_177 (qX7_init_0 (ln_mk (lX10_init_0 (ln_mk (lX9_init_0 (ln_mk (lX1_init_0 (ln_mk (lX2_init_0 (ln_mk (lX4_init_0 (ln_mk (ln_mk (lX8_init_18 (ln_mk (lX8_init_15 (ln_mk (lX6_init_8 (ln_mk (lX6_init_1 (ln_mk hl)))))))))))))))))))) (sh_nw (lX10_init_0 (ln_mk (lX9_init_0 (ln_mk (lX1_init_0 (ln_mk (lX2_init_0 (ln_mk (lX4_init_0 (ln_mk (ln_mk (lX8_init_18 (ln_mk (lX8_init_15 (ln_mk (lX6_init_8 (ln_mk (lX6_init_1 (ln_mk hl))))))))))))))))))))) rfl okX7_init inX7_init rfl rfl lkX11_80 rfl (Nat.le_of_ble_eq_true rfl) (Nat.le_of_ble_eq_true rfl) (Nat.le_of_ble_eq_true rfl) (Nat.le_of_ble_eq_true rfl) ?_
  refine vc_putR dX11_init_180 (plX11_83 _ rfl rfl) (xX7_init_0 (sh_mk (xX10_init_0 (sh_mk (xX9_init_0 (sh_mk (xX1_init_0 (sh_mk (xX2_init_0 (sh_mk (xX4_init_0 (sh_mk (sh_mk (xX8_init_18 (sh_mk (xX8_init_15 (sh_mk (xX6_init_8 (sh_mk (xX6_init_1 (sh_mk hk))))))))))))))))))))) rfl ?_
  refine vc_aload_n dX11_init_183 rfl ?_
  refine vc_newOq 46 dX11_init_184 (lX7_init_0 (ln_mk (lX10_init_0 (ln_mk (lX9_init_0 (ln_mk (lX1_init_0 (ln_mk (lX2_init_0 (ln_mk (lX4_init_0 (ln_mk (ln_mk (lX8_init_18 (ln_mk (lX8_init_15 (ln_mk (lX6_init_8 (ln_mk (lX6_init_1 (ln_mk hl))))))))))))))))))))) cl_0 clX11_87 iaX0 iiX0 (Nat.le_of_ble_eq_true rfl) (Nat.le_of_ble_eq_true rfl) ?_
  refine vc_dup dX11_init_187 rfl ?_
  refine vc_aload_n dX11_init_188 rfl ?_
  refine vc_getR dX11_init_189 flX11_10 (sh_mk (xX7_init_0 (sh_mk (xX10_init_0 (sh_mk (xX9_init_0 (sh_mk (xX1_init_0 (sh_mk (xX2_init_0 (sh_mk (xX4_init_0 (sh_mk (sh_mk (xX8_init_18 (sh_mk (xX8_init_15 (sh_mk (xX6_init_8 (sh_mk (xX6_init_1 (sh_mk hk)))))))))))))))))))))) rfl (rp_mk (lX7_init_0 (ln_mk (lX10_init_0 (ln_mk (lX9_init_0 (ln_mk (lX1_init_0 (ln_mk (lX2_init_0 (ln_mk (lX4_init_0 (ln_mk (ln_mk (lX8_init_18 (ln_mk (lX8_init_15 (ln_mk (lX6_init_8 (ln_mk (lX6_init_1 (ln_mk hl))))))))))))))))))))) (rp_sR (yX7_init_0 (ln_mk (lX10_init_0 (ln_mk (lX9_init_0 (ln_mk (lX1_init_0 (ln_mk (lX2_init_0 (ln_mk (lX4_init_0 (ln_mk (ln_mk (lX8_init_18 (ln_mk (lX8_init_15 (ln_mk (lX6_init_8 (ln_mk (lX6_init_1 (ln_mk hl)))))))))))))))))))) (rp_mk (lX10_init_0 (ln_mk (lX9_init_0 (ln_mk (lX1_init_0 (ln_mk (lX2_init_0 (ln_mk (lX4_init_0 (ln_mk (ln_mk (lX8_init_18 (ln_mk (lX8_init_15 (ln_mk (lX6_init_8 (ln_mk (lX6_init_1 (ln_mk hl))))))))))))))))))) (rp_sR (yX10_init_0 (ln_mk (lX9_init_0 (ln_mk (lX1_init_0 (ln_mk (lX2_init_0 (ln_mk (lX4_init_0 (ln_mk (ln_mk (lX8_init_18 (ln_mk (lX8_init_15 (ln_mk (lX6_init_8 (ln_mk (lX6_init_1 (ln_mk hl)))))))))))))))))) (rp_mk (lX9_init_0 (ln_mk (lX1_init_0 (ln_mk (lX2_init_0 (ln_mk (lX4_init_0 (ln_mk (ln_mk (lX8_init_18 (ln_mk (lX8_init_15 (ln_mk (lX6_init_8 (ln_mk (lX6_init_1 (ln_mk hl))))))))))))))))) (rp_sR (yX9_init_0 (ln_mk (lX1_init_0 (ln_mk (lX2_init_0 (ln_mk (lX4_init_0 (ln_mk (ln_mk (lX8_init_18 (ln_mk (lX8_init_15 (ln_mk (lX6_init_8 (ln_mk (lX6_init_1 (ln_mk hl)))))))))))))))) (rp_mk (lX1_init_0 (ln_mk (lX2_init_0 (ln_mk (lX4_init_0 (ln_mk (ln_mk (lX8_init_18 (ln_mk (lX8_init_15 (ln_mk (lX6_init_8 (ln_mk (lX6_init_1 (ln_mk hl))))))))))))))) (rp_sR (yX1_init_0 (ln_mk (lX2_init_0 (ln_mk (lX4_init_0 (ln_mk (ln_mk (lX8_init_18 (ln_mk (lX8_init_15 (ln_mk (lX6_init_8 (ln_mk (lX6_init_1 (ln_mk hl)))))))))))))) (rp_mk (lX2_init_0 (ln_mk (lX4_init_0 (ln_mk (ln_mk (lX8_init_18 (ln_mk (lX8_init_15 (ln_mk (lX6_init_8 (ln_mk (lX6_init_1 (ln_mk hl))))))))))))) (rp_sR (yX2_init_0 (ln_mk (lX4_init_0 (ln_mk (ln_mk (lX8_init_18 (ln_mk (lX8_init_15 (ln_mk (lX6_init_8 (ln_mk (lX6_init_1 (ln_mk hl)))))))))))) (rp_mk (lX4_init_0 (ln_mk (ln_mk (lX8_init_18 (ln_mk (lX8_init_15 (ln_mk (lX6_init_8 (ln_mk (lX6_init_1 (ln_mk hl))))))))))) (rp_sR (yX4_init_0 (ln_mk (ln_mk (lX8_init_18 (ln_mk (lX8_init_15 (ln_mk (lX6_init_8 (ln_mk (lX6_init_1 (ln_mk hl)))))))))) (rp_mk (ln_mk (lX8_init_18 (ln_mk (lX8_init_15 (ln_mk (lX6_init_8 (ln_mk (lX6_init_1 (ln_mk hl))))))))) (rp_sR (rp_mk (lX8_init_18 (ln_mk (lX8_init_15 (ln_mk (lX6_init_8 (ln_mk (lX6_init_1 (ln_mk hl)))))))) (rp_sR (yX8_init_18 (ln_mk (lX8_init_15 (ln_mk (lX6_init_8 (ln_mk (lX6_init_1 (ln_mk hl))))))) (rp_mk (lX8_init_15 (ln_mk (lX6_init_8 (ln_mk (lX6_init_1 (ln_mk hl)))))) (rp_sR (yX8_init_15 (ln_mk (lX6_init_8 (ln_mk (lX6_init_1 (ln_mk hl))))) (rp_mk (lX6_init_8 (ln_mk (lX6_init_1 (ln_mk hl)))) (rp_sR (yX6_init_8 (ln_mk (lX6_init_1 (ln_mk hl))) (rp_mk (lX6_init_1 (ln_mk hl)) rp_new (by decide))) (by decide)) (by decide))) (by decide)) (by decide))) (by decide)) (by decide)) (by decide)) (by decide))) (by decide)) (by decide))) (by decide)) (by decide))) (by decide)) (by decide))) (by decide)) (by decide))) (by decide)) (by decide))) (by decide)) (by decide)) ?_
  refine vc_aload_n dX11_init_192 rfl ?_
  refine vc_getR dX11_init_193 flX11_56 (sh_mk (xX7_init_0 (sh_mk (xX10_init_0 (sh_mk (xX9_init_0 (sh_mk (xX1_init_0 (sh_mk (xX2_init_0 (sh_mk (xX4_init_0 (sh_mk (sh_mk (xX8_init_18 (sh_mk (xX8_init_15 (sh_mk (xX6_init_8 (sh_mk (xX6_init_1 (sh_mk hk)))))))))))))))))))))) rfl (rp_mk (lX7_init_0 (ln_mk (lX10_init_0 (ln_mk (lX9_init_0 (ln_mk (lX1_init_0 (ln_mk (lX2_init_0 (ln_mk (lX4_init_0 (ln_mk (ln_mk (lX8_init_18 (ln_mk (lX8_init_15 (ln_mk (lX6_init_8 (ln_mk (lX6_init_1 (ln_mk hl))))))))))))))))))))) (rp_sR (yX7_init_0 (ln_mk (lX10_init_0 (ln_mk (lX9_init_0 (ln_mk (lX1_init_0 (ln_mk (lX2_init_0 (ln_mk (lX4_init_0 (ln_mk (ln_mk (lX8_init_18 (ln_mk (lX8_init_15 (ln_mk (lX6_init_8 (ln_mk (lX6_init_1 (ln_mk hl)))))))))))))))))))) (rp_mk (lX10_init_0 (ln_mk (lX9_init_0 (ln_mk (lX1_init_0 (ln_mk (lX2_init_0 (ln_mk (lX4_init_0 (ln_mk (ln_mk (lX8_init_18 (ln_mk (lX8_init_15 (ln_mk (lX6_init_8 (ln_mk (lX6_init_1 (ln_mk hl))))))))))))))))))) (rp_sR (yX10_init_0 (ln_mk (lX9_init_0 (ln_mk (lX1_init_0 (ln_mk (lX2_init_0 (ln_mk (lX4_init_0 (ln_mk (ln_mk (lX8_init_18 (ln_mk (lX8_init_15 (ln_mk (lX6_init_8 (ln_mk (lX6_init_1 (ln_mk hl)))))))))))))))))) (rp_mk (lX9_init_0 (ln_mk (lX1_init_0 (ln_mk (lX2_init_0 (ln_mk (lX4_init_0 (ln_mk (ln_mk (lX8_init_18 (ln_mk (lX8_init_15 (ln_mk (lX6_init_8 (ln_mk (lX6_init_1 (ln_mk hl))))))))))))))))) (rp_sR (yX9_init_0 (ln_mk (lX1_init_0 (ln_mk (lX2_init_0 (ln_mk (lX4_init_0 (ln_mk (ln_mk (lX8_init_18 (ln_mk (lX8_init_15 (ln_mk (lX6_init_8 (ln_mk (lX6_init_1 (ln_mk hl)))))))))))))))) (rp_mk (lX1_init_0 (ln_mk (lX2_init_0 (ln_mk (lX4_init_0 (ln_mk (ln_mk (lX8_init_18 (ln_mk (lX8_init_15 (ln_mk (lX6_init_8 (ln_mk (lX6_init_1 (ln_mk hl))))))))))))))) rp_new (by decide))) (by decide)) (by decide))) (by decide)) (by decide))) (by decide)) (by decide)) ?_
  refine vc_callIU dX11_init_196 (qX0_init_0 (ln_mk (lX7_init_0 (ln_mk (lX10_init_0 (ln_mk (lX9_init_0 (ln_mk (lX1_init_0 (ln_mk (lX2_init_0 (ln_mk (lX4_init_0 (ln_mk (ln_mk (lX8_init_18 (ln_mk (lX8_init_15 (ln_mk (lX6_init_8 (ln_mk (lX6_init_1 (ln_mk hl)))))))))))))))))))))) (sh_nw (lX7_init_0 (ln_mk (lX10_init_0 (ln_mk (lX9_init_0 (ln_mk (lX1_init_0 (ln_mk (lX2_init_0 (ln_mk (lX4_init_0 (ln_mk (ln_mk (lX8_init_18 (ln_mk (lX8_init_15 (ln_mk (lX6_init_8 (ln_mk (lX6_init_1 (ln_mk hl))))))))))))))))))))))) rfl okX0_init inX0_init rfl rfl lkX11_89 rfl (Nat.le_of_ble_eq_true rfl) (Nat.le_of_ble_eq_true rfl) (Nat.le_of_ble_eq_true rfl) (Nat.le_of_ble_eq_true rfl) ?_
  refine vc_putR dX11_init_199 (plX11_92 _ rfl rfl) (xX0_init_0 (sh_mk (xX7_init_0 (sh_mk (xX10_init_0 (sh_mk (xX9_init_0 (sh_mk (xX1_init_0 (sh_mk (xX2_init_0 (sh_mk (xX4_init_0 (sh_mk (sh_mk (xX8_init_18 (sh_mk (xX8_init_15 (sh_mk (xX6_init_8 (sh_mk (xX6_init_1 (sh_mk hk))))))))))))))))))))))) rfl ?_
  refine vc_aload_n dX11_init_202 rfl ?_
  refine vc_newOq 50 dX11_init_203 (lX0_init_0 (ln_mk (lX7_init_0 (ln_mk (lX10_init_0 (ln_mk (lX9_init_0 (ln_mk (lX1_init_0 (ln_mk (lX2_init_0 (ln_mk (lX4_init_0 (ln_mk (ln_mk (lX8_init_18 (ln_mk (lX8_init_15 (ln_mk (lX6_init_8 (ln_mk (lX6_init_1 (ln_mk hl))))))))))))))))))))))) cl_3 clX11_96 iaX3 iiX3 (Nat.le_of_ble_eq_true rfl) (Nat.le_of_ble_eq_true rfl) ?_
  refine vc_dup dX11_init_206 rfl ?_
  refine vc_aload_n dX11_init_207 rfl ?_
  refine vc_getR dX11_init_208 flX11_10 (sh_mk (xX0_init_0 (sh_mk (xX7_init_0 (sh_mk (xX10_init_0 (sh_mk (xX9_init_0 (sh_mk (xX1_init_0 (sh_mk (xX2_init_0 (sh_mk (xX4_init_0 (sh_mk (sh_mk (xX8_init_18 (sh_mk (xX8_init_15 (sh_mk (xX6_init_8 (sh_mk (xX6_init_1 (sh_mk hk)))))))))))))))))))))))) rfl (rp_mk (lX0_init_0 (ln_mk (lX7_init_0 (ln_mk (lX10_init_0 (ln_mk (lX9_init_0 (ln_mk (lX1_init_0 (ln_mk (lX2_init_0 (ln_mk (lX4_init_0 (ln_mk (ln_mk (lX8_init_18 (ln_mk (lX8_init_15 (ln_mk (lX6_init_8 (ln_mk (lX6_init_1 (ln_mk hl))))))))))))))))))))))) (rp_sR (yX0_init_0 (ln_mk (lX7_init_0 (ln_mk (lX10_init_0 (ln_mk (lX9_init_0 (ln_mk (lX1_init_0 (ln_mk (lX2_init_0 (ln_mk (lX4_init_0 (ln_mk (ln_mk (lX8_init_18 (ln_mk (lX8_init_15 (ln_mk (lX6_init_8 (ln_mk (lX6_init_1 (ln_mk hl)))))))))))))))))))))) (rp_mk (lX7_init_0 (ln_mk (lX10_init_0 (ln_mk (lX9_init_0 (ln_mk (lX1_init_0 (ln_mk (lX2_init_0 (ln_mk (lX4_init_0 (ln_mk (ln_mk (lX8_init_18 (ln_mk (lX8_init_15 (ln_mk (lX6_init_8 (ln_mk (lX6_init_1 (ln_mk hl))))))))))))))))))))) (rp_sR (yX7_init_0 (ln_mk (lX10_init_0 (ln_mk (lX9_init_0 (ln_mk (lX1_init_0 (ln_mk (lX2_init_0 (ln_mk (lX4_init_0 (ln_mk (ln_mk (lX8_init_18 (ln_mk (lX8_init_15 (ln_mk (lX6_init_8 (ln_mk (lX6_init_1 (ln_mk hl)))))))))))))))))))) (rp_mk (lX10_init_0 (ln_mk (lX9_init_0 (ln_mk (lX1_init_0 (ln_mk (lX2_init_0 (ln_mk (lX4_init_0 (ln_mk (ln_mk (lX8_init_18 (ln_mk (lX8_init_15 (ln_mk (lX6_init_8 (ln_mk (lX6_init_1 (ln_mk hl))))))))))))))))))) (rp_sR (yX10_init_0 (ln_mk (lX9_init_0 (ln_mk (lX1_init_0 (ln_mk (lX2_init_0 (ln_mk (lX4_init_0 (ln_mk (ln_mk (lX8_init_18 (ln_mk (lX8_init_15 (ln_mk (lX6_init_8 (ln_mk (lX6_init_1 (ln_mk hl)))))))))))))))))) (rp_mk (lX9_init_0 (ln_mk (lX1_init_0 (ln_mk (lX2_init_0 (ln_mk (lX4_init_0 (ln_mk (ln_mk (lX8_init_18 (ln_mk (lX8_init_15 (ln_mk (lX6_init_8 (ln_mk (lX6_init_1 (ln_mk hl))))))))))))))))) (rp_sR (yX9_init_0 (ln_mk (lX1_init_0 (ln_mk (lX2_init_0 (ln_mk (lX4_init_0 (ln_mk (ln_mk (lX8_init_18 (ln_mk (lX8_init_15 (ln_mk (lX6_init_8 (ln_mk (lX6_init_1 (ln_mk hl)))))))))))))))) (rp_mk (lX1_init_0 (ln_mk (lX2_init_0 (ln_mk (lX4_init_0 (ln_mk (ln_mk (lX8_init_18 (ln_mk (lX8_init_15 (ln_mk (lX6_init_8 (ln_mk (lX6_init_1 (ln_mk hl))))))))))))))) (rp_sR (yX1_init_0 (ln_mk (lX2_init_0 (ln_mk (lX4_init_0 (ln_mk (ln_mk (lX8_init_18 (ln_mk (lX8_init_15 (ln_mk (lX6_init_8 (ln_mk (lX6_init_1 (ln_mk hl)))))))))))))) (rp_mk (lX2_init_0 (ln_mk (lX4_init_0 (ln_mk (ln_mk (lX8_init_18 (ln_mk (lX8_init_15 (ln_mk (lX6_init_8 (ln_mk (lX6_init_1 (ln_mk hl))))))))))))) (rp_sR (yX2_init_0 (ln_mk (lX4_init_0 (ln_mk (ln_mk (lX8_init_18 (ln_mk (lX8_init_15 (ln_mk (lX6_init_8 (ln_mk (lX6_init_1 (ln_mk hl)))))))))))) (rp_mk (lX4_init_0 (ln_mk (ln_mk (lX8_init_18 (ln_mk (lX8_init_15 (ln_mk (lX6_init_8 (ln_mk (lX6_init_1 (ln_mk hl))))))))))) (rp_sR (yX4_init_0 (ln_mk (ln_mk (lX8_init_18 (ln_mk (lX8_init_15 (ln_mk (lX6_init_8 (ln_mk (lX6_init_1 (ln_mk hl)))))))))) (rp_mk (ln_mk (lX8_init_18 (ln_mk (lX8_init_15 (ln_mk (lX6_init_8 (ln_mk (lX6_init_1 (ln_mk hl))))))))) (rp_sR (rp_mk (lX8_init_18 (ln_mk (lX8_init_15 (ln_mk (lX6_init_8 (ln_mk (lX6_init_1 (ln_mk hl)))))))) (rp_sR (yX8_init_18 (ln_mk (lX8_init_15 (ln_mk (lX6_init_8 (ln_mk (lX6_init_1 (ln_mk hl))))))) (rp_mk (lX8_init_15 (ln_mk (lX6_init_8 (ln_mk (lX6_init_1 (ln_mk hl)))))) (rp_sR (yX8_init_15 (ln_mk (lX6_init_8 (ln_mk (lX6_init_1 (ln_mk hl))))) (rp_mk (lX6_init_8 (ln_mk (lX6_init_1 (ln_mk hl)))) (rp_sR (yX6_init_8 (ln_mk (lX6_init_1 (ln_mk hl))) (rp_mk (lX6_init_1 (ln_mk hl)) rp_new (by decide))) (by decide)) (by decide))) (by decide)) (by decide))) (by decide)) (by decide)) (by decide)) (by decide))) (by decide)) (by decide))) (by decide)) (by decide))) (by decide)) (by decide))) (by decide)) (by decide))) (by decide)) (by decide))) (by decide)) (by decide))) (by decide)) (by decide)) ?_
  refine vc_callIU dX11_init_211 (qX3_init_0 (ln_mk (lX0_init_0 (ln_mk (lX7_init_0 (ln_mk (lX10_init_0 (ln_mk (lX9_init_0 (ln_mk (lX1_init_0 (ln_mk (lX2_init_0 (ln_mk (lX4_init_0 (ln_mk (ln_mk (lX8_init_18 (ln_mk (lX8_init_15 (ln_mk (lX6_init_8 (ln_mk (lX6_init_1 (ln_mk hl)))))))))))))))))))))))) (sh_nw (lX0_init_0 (ln_mk (lX7_init_0 (ln_mk (lX10_init_0 (ln_mk (lX9_init_0 (ln_mk (lX1_init_0 (ln_mk (lX2_init_0 (ln_mk (lX4_init_0 (ln_mk (ln_mk (lX8_init_18 (ln_mk (lX8_init_15 (ln_mk (lX6_init_8 (ln_mk (lX6_init_1 (ln_mk hl))))))))))))))))))))))))) rfl okX3_init inX3_init rfl rfl lkX11_98 rfl (Nat.le_of_ble_eq_true rfl) (Nat.le_of_ble_eq_true rfl) (Nat.le_of_ble_eq_true rfl) (Nat.le_of_ble_eq_true rfl) ?_
  refine vc_putR dX11_init_214 (plX11_99 _ rfl rfl) (xX3_init_0 (sh_mk (xX0_init_0 (sh_mk (xX7_init_0 (sh_mk (xX10_init_0 (sh_mk (xX9_init_0 (sh_mk (xX1_init_0 (sh_mk (xX2_init_0 (sh_mk (xX4_init_0 (sh_mk (sh_mk (xX8_init_18 (sh_mk (xX8_init_15 (sh_mk (xX6_init_8 (sh_mk (xX6_init_1 (sh_mk hk))))))))))))))))))))))))) rfl ?_
  refine vc_aload_n dX11_init_217 rfl ?_
  refine vc_iconst dX11_init_218 rfl ?_
  refine vc_putI dX11_init_219 (plX11_103 _ rfl) (xX3_init_0 (sh_mk (xX0_init_0 (sh_mk (xX7_init_0 (sh_mk (xX10_init_0 (sh_mk (xX9_init_0 (sh_mk (xX1_init_0 (sh_mk (xX2_init_0 (sh_mk (xX4_init_0 (sh_mk (sh_mk (xX8_init_18 (sh_mk (xX8_init_15 (sh_mk (xX6_init_8 (sh_mk (xX6_init_1 (sh_mk hk))))))))))))))))))))))))) rfl ?_
  refine vc_aload_n dX11_init_222 rfl ?_
  refine vc_iconst dX11_init_223 rfl ?_
  refine vc_putI dX11_init_224 (plX11_107 _ rfl) (xX3_init_0 (sh_mk (xX0_init_0 (sh_mk (xX7_init_0 (sh_mk (xX10_init_0 (sh_mk (xX9_init_0 (sh_mk (xX1_init_0 (sh_mk (xX2_init_0 (sh_mk (xX4_init_0 (sh_mk (sh_mk (xX8_init_18 (sh_mk (xX8_init_15 (sh_mk (xX6_init_8 (sh_mk (xX6_init_1 (sh_mk hk))))))))))))))))))))))))) rfl ?_
  refine vc_aload_n dX11_init_227 rfl ?_
  refine vc_iconst dX11_init_228 rfl ?_
  refine vc_putI dX11_init_229 (plX11_110 _ rfl) (xX3_init_0 (sh_mk (xX0_init_0 (sh_mk (xX7_init_0 (sh_mk (xX10_init_0 (sh_mk (xX9_init_0 (sh_mk (xX1_init_0 (sh_mk (xX2_init_0 (sh_mk (xX4_init_0 (sh_mk (sh_mk (xX8_init_18 (sh_mk (xX8_init_15 (sh_mk (xX6_init_8 (sh_mk (xX6_init_1 (sh_mk hk))))))))))))))))))))))))) rfl ?_
  refine vc_vret dX11_init_232 rfl (Nat.le_of_ble_eq_true rfl) (Nat.le_of_ble_eq_true rfl) ?_
  exact ⟨rfl, rfl⟩
theorem lX11_init {M : Mem} (hl : M.1.length = 1) : (gX11_init M).1.length = 54 := (ln_mk (ln_mk (ln_mk (ln_mk (ln_mk (ln_mk (ln_mk (ln_mk (ln_mk (ln_mk (ln_mk (ln_mk (ln_mk (ln_mk (ln_mk (ln_mk (ln_mk (ln_mk (ln_mk (ln_mk (ln_mk (ln_mk (ln_mk (ln_mk (ln_mk (ln_mk (ln_mk (ln_mk (ln_mk (ln_mk (ln_mk (ln_mk (ln_mk (ln_mk (ln_mk (ln_mk (ln_mk (ln_mk (ln_mk (ln_mk (ln_mk (ln_mk (ln_mk (ln_mk (ln_mk (ln_mk (ln_mk (ln_mk (ln_mk (ln_mk (ln_mk (ln_mk (ln_mk hl)))))))))))))))))))))))))))))))))))))))))))))))))))))
theorem xX11_init {M : Mem} {k : Nat} {x : Sh} (h : M.1[k]? = some x) : (gX11_init M).1[k]? = some x := (sh_mk (sh_mk (sh_mk (sh_mk (sh_mk (sh_mk (sh_mk (sh_mk (sh_mk (sh_mk (sh_mk (sh_mk (sh_mk (sh_mk (sh_mk (sh_mk (sh_mk (sh_mk (sh_mk (sh_mk (sh_mk (sh_mk (sh_mk (sh_mk (sh_mk (sh_mk (sh_mk (sh_mk (sh_mk (sh_mk (sh_mk (sh_mk (sh_mk (sh_mk (sh_mk (sh_mk (sh_mk (sh_mk (sh_mk (sh_mk (sh_mk (sh_mk (sh_mk (sh_mk (sh_mk (sh_mk (sh_mk (sh_mk (sh_mk (sh_mk (sh_mk (sh_mk (sh_mk h)))))))))))))))))))))))))))))))))))))))))))))))))))))
def gX12_init (M : Mem) : Mem := cpI (sI (sI (sI (sI (sR (mkC (sR (mkC (sR (mkC (sR (mkC (sR (mkC (sR (mkC (sR (mkC (sR (mkC (sR (mkC (sR (mkC (sR (mkC (sR (mkC (sR (mkC (sR (mkC (sR (mkC (sI (sI (sR (mkC (sR (mkC (sR (mkC (sR (mkC (sR (mkC M (.inr (0, 589))) 54 0 (some 55)) (.inr (0, 589))) 54 1 (some 56)) (.inr (0, 3492))) 54 2 (some 57)) (.inr (0, 8))) 54 3 (some 58)) (.inr (0, 300))) 54 5 (some 59)) 54 7 (-1)) 54 8 (-1)) (.inr (0, 160))) 54 17 (some 60)) (.inr (0, 9))) 54 22 (some 61)) (.inr (1, 330))) 54 23 (some 62)) (.inr (0, 8))) 54 31 (some 63)) (.inr (0, 8))) 54 33 (some 64)) (.inr (0, 8))) 54 34 (some 65)) (.inr (1, 16))) 54 35 (some 66)) (.inr (0, 8))) 54 37 (some 67)) (.inr (0, 256))) 54 38 (some 68)) (.inr (2, 16))) 54 39 (some 69)) (.inr (0, 5))) 54 40 (some 70)) (.inr (0, 5))) 54 41 (some 71)) (.inr (0, 5))) 54 42 (some 72)) (.inr (0, 16))) 54 45 (some 73)) (.inr (0, 16))) 54 46 (some 74)) 55 1 (-1)) 55 4 29) 55 6 (-1)) 55 256 (-1)) 56 55 0 0 589
set_option maxRecDepth 8000 in
theorem qX12_init {l : Launch} {M : Mem} (hl : M.1.length = 55) (hk : M.1[54]? = some (.inl 12)) : Fn l mdX12_init [aR 54] M none (gX12_init M) := by
  refine Call.of [some (aR 54)] rfl (Nat.le_of_ble_eq_true rfl) rfl ?_
  refine vc_aload_n dX12_init_0 rfl ?_
  refine vc_objInit dX12_init_1 oiX12_1 (Nat.le_of_ble_eq_true rfl) ?_
  refine vc_aload_n dX12_init_4 rfl ?_
  refine vc_sipush dX12_init_5 rfl ?_
  refine vc_newIq 589 55 dX12_init_8 rfl hl (Nat.le_of_ble_eq_true rfl) (Nat.le_of_ble_eq_true rfl) (Nat.le_of_ble_eq_true rfl) ?_
  refine vc_putR dX12_init_10 (plX12_7 _ rfl rfl) (sh_mk hk) rfl ?_
  refine vc_aload_n dX12_init_13 rfl ?_
  refine vc_sipush dX12_init_14 rfl ?_
  refine vc_newIq 589 56 dX12_init_17 rfl (ln_mk hl) (Nat.le_of_ble_eq_true rfl) (Nat.le_of_ble_eq_true rfl) (Nat.le_of_ble_eq_true rfl) ?_
  refine vc_putR dX12_init_19 (plX12_13 _ rfl rfl) (sh_mk (sh_mk hk)) rfl ?_
  refine vc_aload_n dX12_init_22 rfl ?_
  refine vc_sipush dX12_init_23 rfl ?_
  refine vc_newIq 3492 57 dX12_init_26 rfl (ln_mk (ln_mk hl)) (Nat.le_of_ble_eq_true rfl) (Nat.le_of_ble_eq_true rfl) (Nat.le_of_ble_eq_true rfl) ?_
  refine vc_putR dX12_init_28 (plX12_16 _ rfl rfl) (sh_mk (sh_mk (sh_mk hk))) rfl ?_
  refine vc_aload_n dX12_init_31 rfl ?_
  refine vc_bipush dX12_init_32 rfl ?_
  refine vc_newIq 8 58 dX12_init_34 rfl (ln_mk (ln_mk (ln_mk hl))) (Nat.le_of_ble_eq_true rfl) (Nat.le_of_ble_eq_true rfl) (Nat.le_of_ble_eq_true rfl) ?_
  refine vc_putR dX12_init_36 (plX12_19 _ rfl rfl) (sh_mk (sh_mk (sh_mk (sh_mk hk)))) rfl ?_
  refine vc_aload_n dX12_init_39 rfl ?_
  refine vc_sipush dX12_init_40 rfl ?_
  refine vc_newIq 300 59 dX12_init_43 rfl (ln_mk (ln_mk (ln_mk (ln_mk hl)))) (Nat.le_of_ble_eq_true rfl) (Nat.le_of_ble_eq_true rfl) (Nat.le_of_ble_eq_true rfl) ?_
  refine vc_putR dX12_init_45 (plX12_22 _ rfl rfl) (sh_mk (sh_mk (sh_mk (sh_mk (sh_mk hk))))) rfl ?_
  refine vc_aload_n dX12_init_48 rfl ?_
  refine vc_iconst dX12_init_49 rfl ?_
  refine vc_putI dX12_init_50 (plX12_25 _ rfl) (sh_mk (sh_mk (sh_mk (sh_mk (sh_mk hk))))) rfl ?_
  refine vc_aload_n dX12_init_53 rfl ?_
  refine vc_iconst dX12_init_54 rfl ?_
  refine vc_putI dX12_init_55 (plX12_29 _ rfl) (sh_mk (sh_mk (sh_mk (sh_mk (sh_mk hk))))) rfl ?_
  refine vc_aload_n dX12_init_58 rfl ?_
  refine vc_sipush dX12_init_59 rfl ?_
  refine vc_newIq 160 60 dX12_init_62 rfl (ln_mk (ln_mk (ln_mk (ln_mk (ln_mk hl))))) (Nat.le_of_ble_eq_true rfl) (Nat.le_of_ble_eq_true rfl) (Nat.le_of_ble_eq_true rfl) ?_
  refine vc_putR dX12_init_64 (plX12_32 _ rfl rfl) (sh_mk (sh_mk (sh_mk (sh_mk (sh_mk (sh_mk hk)))))) rfl ?_
  refine vc_aload_n dX12_init_67 rfl ?_
  refine vc_bipush dX12_init_68 rfl ?_
  refine vc_newIq 9 61 dX12_init_70 rfl (ln_mk (ln_mk (ln_mk (ln_mk (ln_mk (ln_mk hl)))))) (Nat.le_of_ble_eq_true rfl) (Nat.le_of_ble_eq_true rfl) (Nat.le_of_ble_eq_true rfl) ?_
  refine vc_putR dX12_init_72 (plX12_35 _ rfl rfl) (sh_mk (sh_mk (sh_mk (sh_mk (sh_mk (sh_mk (sh_mk hk))))))) rfl ?_
  refine vc_aload_n dX12_init_75 rfl ?_
  refine vc_sipush dX12_init_76 rfl ?_
  refine vc_newJq 330 62 dX12_init_79 rfl (ln_mk (ln_mk (ln_mk (ln_mk (ln_mk (ln_mk (ln_mk hl))))))) (Nat.le_of_ble_eq_true rfl) (Nat.le_of_ble_eq_true rfl) (Nat.le_of_ble_eq_true rfl) ?_
  refine vc_putR dX12_init_81 (plX12_38 _ rfl rfl) (sh_mk (sh_mk (sh_mk (sh_mk (sh_mk (sh_mk (sh_mk (sh_mk hk)))))))) rfl ?_
  refine vc_aload_n dX12_init_84 rfl ?_
  refine vc_bipush dX12_init_85 rfl ?_
  refine vc_newIq 8 63 dX12_init_87 rfl (ln_mk (ln_mk (ln_mk (ln_mk (ln_mk (ln_mk (ln_mk (ln_mk hl)))))))) (Nat.le_of_ble_eq_true rfl) (Nat.le_of_ble_eq_true rfl) (Nat.le_of_ble_eq_true rfl) ?_
  refine vc_putR dX12_init_89 (plX12_42 _ rfl rfl) (sh_mk (sh_mk (sh_mk (sh_mk (sh_mk (sh_mk (sh_mk (sh_mk (sh_mk hk))))))))) rfl ?_
  refine vc_aload_n dX12_init_92 rfl ?_
  refine vc_bipush dX12_init_93 rfl ?_
  refine vc_newIq 8 64 dX12_init_95 rfl (ln_mk (ln_mk (ln_mk (ln_mk (ln_mk (ln_mk (ln_mk (ln_mk (ln_mk hl))))))))) (Nat.le_of_ble_eq_true rfl) (Nat.le_of_ble_eq_true rfl) (Nat.le_of_ble_eq_true rfl) ?_
  refine vc_putR dX12_init_97 (plX12_45 _ rfl rfl) (sh_mk (sh_mk (sh_mk (sh_mk (sh_mk (sh_mk (sh_mk (sh_mk (sh_mk (sh_mk hk)))))))))) rfl ?_
  refine vc_aload_n dX12_init_100 rfl ?_
  refine vc_bipush dX12_init_101 rfl ?_
  refine vc_newIq 8 65 dX12_init_103 rfl (ln_mk (ln_mk (ln_mk (ln_mk (ln_mk (ln_mk (ln_mk (ln_mk (ln_mk (ln_mk hl)))))))))) (Nat.le_of_ble_eq_true rfl) (Nat.le_of_ble_eq_true rfl) (Nat.le_of_ble_eq_true rfl) ?_
  refine vc_putR dX12_init_105 (plX12_48 _ rfl rfl) (sh_mk (sh_mk (sh_mk (sh_mk (sh_mk (sh_mk (sh_mk (sh_mk (sh_mk (sh_mk (sh_mk hk))))))))))) rfl ?_
  refine vc_aload_n dX12_init_108 rfl ?_
  refine vc_bipush dX12_init_109 rfl ?_
  refine vc_newJq 16 66 dX12_init_111 rfl (ln_mk (ln_mk (ln_mk (ln_mk (ln_mk (ln_mk (ln_mk (ln_mk (ln_mk (ln_mk (ln_mk hl))))))))))) (Nat.le_of_ble_eq_true rfl) (Nat.le_of_ble_eq_true rfl) (Nat.le_of_ble_eq_true rfl) ?_
  refine vc_putR dX12_init_113 (plX12_51 _ rfl rfl) (sh_mk (sh_mk (sh_mk (sh_mk (sh_mk (sh_mk (sh_mk (sh_mk (sh_mk (sh_mk (sh_mk (sh_mk hk)))))))))))) rfl ?_
  refine vc_aload_n dX12_init_116 rfl ?_
  refine vc_bipush dX12_init_117 rfl ?_
  refine vc_newIq 8 67 dX12_init_119 rfl (ln_mk (ln_mk (ln_mk (ln_mk (ln_mk (ln_mk (ln_mk (ln_mk (ln_mk (ln_mk (ln_mk (ln_mk hl)))))))))))) (Nat.le_of_ble_eq_true rfl) (Nat.le_of_ble_eq_true rfl) (Nat.le_of_ble_eq_true rfl) ?_
  refine vc_putR dX12_init_121 (plX12_54 _ rfl rfl) (sh_mk (sh_mk (sh_mk (sh_mk (sh_mk (sh_mk (sh_mk (sh_mk (sh_mk (sh_mk (sh_mk (sh_mk (sh_mk hk))))))))))))) rfl ?_
  refine vc_aload_n dX12_init_124 rfl ?_
  refine vc_sipush dX12_init_125 rfl ?_
  refine vc_newIq 256 68 dX12_init_128 rfl (ln_mk (ln_mk (ln_mk (ln_mk (ln_mk (ln_mk (ln_mk (ln_mk (ln_mk (ln_mk (ln_mk (ln_mk (ln_mk hl))))))))))))) (Nat.le_of_ble_eq_true rfl) (Nat.le_of_ble_eq_true rfl) (Nat.le_of_ble_eq_true rfl) ?_
  refine vc_putR dX12_init_130 (plX12_57 _ rfl rfl) (sh_mk (sh_mk (sh_mk (sh_mk (sh_mk (sh_mk (sh_mk (sh_mk (sh_mk (sh_mk (sh_mk (sh_mk (sh_mk (sh_mk hk)))))))))))))) rfl ?_
  refine vc_aload_n dX12_init_133 rfl ?_
  refine vc_bipush dX12_init_134 rfl ?_
  refine vc_newZq 16 69 dX12_init_136 rfl (ln_mk (ln_mk (ln_mk (ln_mk (ln_mk (ln_mk (ln_mk (ln_mk (ln_mk (ln_mk (ln_mk (ln_mk (ln_mk (ln_mk hl)))))))))))))) (Nat.le_of_ble_eq_true rfl) (Nat.le_of_ble_eq_true rfl) (Nat.le_of_ble_eq_true rfl) ?_
  refine vc_putR dX12_init_138 (plX12_60 _ rfl rfl) (sh_mk (sh_mk (sh_mk (sh_mk (sh_mk (sh_mk (sh_mk (sh_mk (sh_mk (sh_mk (sh_mk (sh_mk (sh_mk (sh_mk (sh_mk hk))))))))))))))) rfl ?_
  refine vc_aload_n dX12_init_141 rfl ?_
  refine vc_iconst dX12_init_142 rfl ?_
  refine vc_newIq 5 70 dX12_init_143 rfl (ln_mk (ln_mk (ln_mk (ln_mk (ln_mk (ln_mk (ln_mk (ln_mk (ln_mk (ln_mk (ln_mk (ln_mk (ln_mk (ln_mk (ln_mk hl))))))))))))))) (Nat.le_of_ble_eq_true rfl) (Nat.le_of_ble_eq_true rfl) (Nat.le_of_ble_eq_true rfl) ?_
  refine vc_putR dX12_init_145 (plX12_64 _ rfl rfl) (sh_mk (sh_mk (sh_mk (sh_mk (sh_mk (sh_mk (sh_mk (sh_mk (sh_mk (sh_mk (sh_mk (sh_mk (sh_mk (sh_mk (sh_mk (sh_mk hk)))))))))))))))) rfl ?_
  refine vc_aload_n dX12_init_148 rfl ?_
  refine vc_iconst dX12_init_149 rfl ?_
  refine vc_newIq 5 71 dX12_init_150 rfl (ln_mk (ln_mk (ln_mk (ln_mk (ln_mk (ln_mk (ln_mk (ln_mk (ln_mk (ln_mk (ln_mk (ln_mk (ln_mk (ln_mk (ln_mk (ln_mk hl)))))))))))))))) (Nat.le_of_ble_eq_true rfl) (Nat.le_of_ble_eq_true rfl) (Nat.le_of_ble_eq_true rfl) ?_
  refine vc_putR dX12_init_152 (plX12_67 _ rfl rfl) (sh_mk (sh_mk (sh_mk (sh_mk (sh_mk (sh_mk (sh_mk (sh_mk (sh_mk (sh_mk (sh_mk (sh_mk (sh_mk (sh_mk (sh_mk (sh_mk (sh_mk hk))))))))))))))))) rfl ?_
  refine vc_aload_n dX12_init_155 rfl ?_
  refine vc_iconst dX12_init_156 rfl ?_
  refine vc_newIq 5 72 dX12_init_157 rfl (ln_mk (ln_mk (ln_mk (ln_mk (ln_mk (ln_mk (ln_mk (ln_mk (ln_mk (ln_mk (ln_mk (ln_mk (ln_mk (ln_mk (ln_mk (ln_mk (ln_mk hl))))))))))))))))) (Nat.le_of_ble_eq_true rfl) (Nat.le_of_ble_eq_true rfl) (Nat.le_of_ble_eq_true rfl) ?_
  refine vc_putR dX12_init_159 (plX12_70 _ rfl rfl) (sh_mk (sh_mk (sh_mk (sh_mk (sh_mk (sh_mk (sh_mk (sh_mk (sh_mk (sh_mk (sh_mk (sh_mk (sh_mk (sh_mk (sh_mk (sh_mk (sh_mk (sh_mk hk)))))))))))))))))) rfl ?_
  refine vc_aload_n dX12_init_162 rfl ?_
  refine vc_bipush dX12_init_163 rfl ?_
  refine vc_newIq 16 73 dX12_init_165 rfl (ln_mk (ln_mk (ln_mk (ln_mk (ln_mk (ln_mk (ln_mk (ln_mk (ln_mk (ln_mk (ln_mk (ln_mk (ln_mk (ln_mk (ln_mk (ln_mk (ln_mk (ln_mk hl)))))))))))))))))) (Nat.le_of_ble_eq_true rfl) (Nat.le_of_ble_eq_true rfl) (Nat.le_of_ble_eq_true rfl) ?_
  refine vc_putR dX12_init_167 (plX12_73 _ rfl rfl) (sh_mk (sh_mk (sh_mk (sh_mk (sh_mk (sh_mk (sh_mk (sh_mk (sh_mk (sh_mk (sh_mk (sh_mk (sh_mk (sh_mk (sh_mk (sh_mk (sh_mk (sh_mk (sh_mk hk))))))))))))))))))) rfl ?_
  refine vc_aload_n dX12_init_170 rfl ?_
  refine vc_bipush dX12_init_171 rfl ?_
  refine vc_newIq 16 74 dX12_init_173 rfl (ln_mk (ln_mk (ln_mk (ln_mk (ln_mk (ln_mk (ln_mk (ln_mk (ln_mk (ln_mk (ln_mk (ln_mk (ln_mk (ln_mk (ln_mk (ln_mk (ln_mk (ln_mk (ln_mk hl))))))))))))))))))) (Nat.le_of_ble_eq_true rfl) (Nat.le_of_ble_eq_true rfl) (Nat.le_of_ble_eq_true rfl) ?_
  refine vc_putR dX12_init_175 (plX12_76 _ rfl rfl) (sh_mk (sh_mk (sh_mk (sh_mk (sh_mk (sh_mk (sh_mk (sh_mk (sh_mk (sh_mk (sh_mk (sh_mk (sh_mk (sh_mk (sh_mk (sh_mk (sh_mk (sh_mk (sh_mk (sh_mk hk)))))))))))))))))))) rfl ?_
  refine vc_aload_n dX12_init_178 rfl ?_
  refine vc_getR dX12_init_179 flX12_7 (sh_mk (sh_mk (sh_mk (sh_mk (sh_mk (sh_mk (sh_mk (sh_mk (sh_mk (sh_mk (sh_mk (sh_mk (sh_mk (sh_mk (sh_mk (sh_mk (sh_mk (sh_mk (sh_mk (sh_mk hk)))))))))))))))))))) rfl (rp_sR (rp_mk (ln_mk (ln_mk (ln_mk (ln_mk (ln_mk (ln_mk (ln_mk (ln_mk (ln_mk (ln_mk (ln_mk (ln_mk (ln_mk (ln_mk (ln_mk (ln_mk (ln_mk (ln_mk (ln_mk hl))))))))))))))))))) (rp_sR (rp_mk (ln_mk (ln_mk (ln_mk (ln_mk (ln_mk (ln_mk (ln_mk (ln_mk (ln_mk (ln_mk (ln_mk (ln_mk (ln_mk (ln_mk (ln_mk (ln_mk (ln_mk (ln_mk hl)))))))))))))))))) (rp_sR (rp_mk (ln_mk (ln_mk (ln_mk (ln_mk (ln_mk (ln_mk (ln_mk (ln_mk (ln_mk (ln_mk (ln_mk (ln_mk (ln_mk (ln_mk (ln_mk (ln_mk (ln_mk hl))))))))))))))))) (rp_sR (rp_mk (ln_mk (ln_mk (ln_mk (ln_mk (ln_mk (ln_mk (ln_mk (ln_mk (ln_mk (ln_mk (ln_mk (ln_mk (ln_mk (ln_mk (ln_mk (ln_mk hl)))))))))))))))) (rp_sR (rp_mk (ln_mk (ln_mk (ln_mk (ln_mk (ln_mk (ln_mk (ln_mk (ln_mk (ln_mk (ln_mk (ln_mk (ln_mk (ln_mk (ln_mk (ln_mk hl))))))))))))))) (rp_sR (rp_mk (ln_mk (ln_mk (ln_mk (ln_mk (ln_mk (ln_mk (ln_mk (ln_mk (ln_mk (ln_mk (ln_mk (ln_mk (ln_mk (ln_mk hl)))))))))))))) (rp_sR (rp_mk (ln_mk (ln_mk (ln_mk (ln_mk (ln_mk (ln_mk (ln_mk (ln_mk (ln_mk (ln_mk (ln_mk (ln_mk (ln_mk hl))))))))))))) (rp_sR (rp_mk (ln_mk (ln_mk (ln_mk (ln_mk (ln_mk (ln_mk (ln_mk (ln_mk (ln_mk (ln_mk (ln_mk (ln_mk hl)))))))))))) (rp_sR (rp_mk (ln_mk (ln_mk (ln_mk (ln_mk (ln_mk (ln_mk (ln_mk (ln_mk (ln_mk (ln_mk (ln_mk hl))))))))))) (rp_sR (rp_mk (ln_mk (ln_mk (ln_mk (ln_mk (ln_mk (ln_mk (ln_mk (ln_mk (ln_mk (ln_mk hl)))))))))) (rp_sR (rp_mk (ln_mk (ln_mk (ln_mk (ln_mk (ln_mk (ln_mk (ln_mk (ln_mk (ln_mk hl))))))))) (rp_sR (rp_mk (ln_mk (ln_mk (ln_mk (ln_mk (ln_mk (ln_mk (ln_mk (ln_mk hl)))))))) (rp_sR (rp_mk (ln_mk (ln_mk (ln_mk (ln_mk (ln_mk (ln_mk (ln_mk hl))))))) (rp_sR (rp_mk (ln_mk (ln_mk (ln_mk (ln_mk (ln_mk (ln_mk hl)))))) (rp_sR (rp_mk (ln_mk (ln_mk (ln_mk (ln_mk (ln_mk hl))))) (rp_sR (rp_mk (ln_mk (ln_mk (ln_mk (ln_mk hl)))) (rp_sR (rp_mk (ln_mk (ln_mk (ln_mk hl))) (rp_sR (rp_mk (ln_mk (ln_mk hl)) (rp_sR (rp_mk (ln_mk hl) rp_new (by decide)) (by decide)) (by decide)) (by decide)) (by decide)) (by decide)) (by decide)) (by decide)) (by decide)) (by decide)) (by decide)) (by decide)) (by decide)) (by decide)) (by decide)) (by decide)) (by decide)) (by decide)) (by decide)) (by decide)) (by decide)) (by decide)) (by decide)) (by decide)) (by decide)) (by decide)) (by decide)) (by decide)) (by decide)) (by decide)) (by decide)) (by decide)) (by decide)) (by decide)) (by decide)) (by decide)) (by decide)) (by decide)) ?_
  refine vc_iconst dX12_init_182 rfl ?_
  refine vc_iconst dX12_init_183 rfl ?_
  refine vc_iastore dX12_init_184 (sh_mk (sh_mk (sh_mk (sh_mk (sh_mk (sh_mk (sh_mk (sh_mk (sh_mk (sh_mk (sh_mk (sh_mk (sh_mk (sh_mk (sh_mk (sh_mk (sh_mk (sh_mk (sh_mk (sh_nw hl)))))))))))))))))))) (by omega) (by omega) ?_
  refine vc_mem (sI (sR (mkC (sR (mkC (sR (mkC (sR (mkC (sR (mkC (sR (mkC (sR (mkC (sR (mkC (sR (mkC (sR (mkC (sR (mkC (sR (mkC (sR (mkC (sR (mkC (sR (mkC (sI (sI (sR (mkC (sR (mkC (sR (mkC (sR (mkC (sR (mkC M (.inr (0, 589))) 54 0 (some 55)) (.inr (0, 589))) 54 1 (some 56)) (.inr (0, 3492))) 54 2 (some 57)) (.inr (0, 8))) 54 3 (some 58)) (.inr (0, 300))) 54 5 (some 59)) 54 7 (-1)) 54 8 (-1)) (.inr (0, 160))) 54 17 (some 60)) (.inr (0, 9))) 54 22 (some 61)) (.inr (1, 330))) 54 23 (some 62)) (.inr (0, 8))) 54 31 (some 63)) (.inr (0, 8))) 54 33 (some 64)) (.inr (0, 8))) 54 34 (some 65)) (.inr (1, 16))) 54 35 (some 66)) (.inr (0, 8))) 54 37 (some 67)) (.inr (0, 256))) 54 38 (some 68)) (.inr (2, 16))) 54 39 (some 69)) (.inr (0, 5))) 54 40 (some 70)) (.inr (0, 5))) 54 41 (some 71)) (.inr (0, 5))) 54 42 (some 72)) (.inr (0, 16))) 54 45 (some 73)) (.inr (0, 16))) 54 46 (some 74)) 55 1 (-1)) rfl ?_
  refine vc_aload_n dX12_init_185 rfl ?_
  refine vc_getR dX12_init_186 flX12_7 (sh_mk (sh_mk (sh_mk (sh_mk (sh_mk (sh_mk (sh_mk (sh_mk (sh_mk (sh_mk (sh_mk (sh_mk (sh_mk (sh_mk (sh_mk (sh_mk (sh_mk (sh_mk (sh_mk (sh_mk hk)))))))))))))))))))) rfl (rp_sR (rp_mk (ln_mk (ln_mk (ln_mk (ln_mk (ln_mk (ln_mk (ln_mk (ln_mk (ln_mk (ln_mk (ln_mk (ln_mk (ln_mk (ln_mk (ln_mk (ln_mk (ln_mk (ln_mk (ln_mk hl))))))))))))))))))) (rp_sR (rp_mk (ln_mk (ln_mk (ln_mk (ln_mk (ln_mk (ln_mk (ln_mk (ln_mk (ln_mk (ln_mk (ln_mk (ln_mk (ln_mk (ln_mk (ln_mk (ln_mk (ln_mk (ln_mk hl)))))))))))))))))) (rp_sR (rp_mk (ln_mk (ln_mk (ln_mk (ln_mk (ln_mk (ln_mk (ln_mk (ln_mk (ln_mk (ln_mk (ln_mk (ln_mk (ln_mk (ln_mk (ln_mk (ln_mk (ln_mk hl))))))))))))))))) (rp_sR (rp_mk (ln_mk (ln_mk (ln_mk (ln_mk (ln_mk (ln_mk (ln_mk (ln_mk (ln_mk (ln_mk (ln_mk (ln_mk (ln_mk (ln_mk (ln_mk (ln_mk hl)))))))))))))))) (rp_sR (rp_mk (ln_mk (ln_mk (ln_mk (ln_mk (ln_mk (ln_mk (ln_mk (ln_mk (ln_mk (ln_mk (ln_mk (ln_mk (ln_mk (ln_mk (ln_mk hl))))))))))))))) (rp_sR (rp_mk (ln_mk (ln_mk (ln_mk (ln_mk (ln_mk (ln_mk (ln_mk (ln_mk (ln_mk (ln_mk (ln_mk (ln_mk (ln_mk (ln_mk hl)))))))))))))) (rp_sR (rp_mk (ln_mk (ln_mk (ln_mk (ln_mk (ln_mk (ln_mk (ln_mk (ln_mk (ln_mk (ln_mk (ln_mk (ln_mk (ln_mk hl))))))))))))) (rp_sR (rp_mk (ln_mk (ln_mk (ln_mk (ln_mk (ln_mk (ln_mk (ln_mk (ln_mk (ln_mk (ln_mk (ln_mk (ln_mk hl)))))))))))) (rp_sR (rp_mk (ln_mk (ln_mk (ln_mk (ln_mk (ln_mk (ln_mk (ln_mk (ln_mk (ln_mk (ln_mk (ln_mk hl))))))))))) (rp_sR (rp_mk (ln_mk (ln_mk (ln_mk (ln_mk (ln_mk (ln_mk (ln_mk (ln_mk (ln_mk (ln_mk hl)))))))))) (rp_sR (rp_mk (ln_mk (ln_mk (ln_mk (ln_mk (ln_mk (ln_mk (ln_mk (ln_mk (ln_mk hl))))))))) (rp_sR (rp_mk (ln_mk (ln_mk (ln_mk (ln_mk (ln_mk (ln_mk (ln_mk (ln_mk hl)))))))) (rp_sR (rp_mk (ln_mk (ln_mk (ln_mk (ln_mk (ln_mk (ln_mk (ln_mk hl))))))) (rp_sR (rp_mk (ln_mk (ln_mk (ln_mk (ln_mk (ln_mk (ln_mk hl)))))) (rp_sR (rp_mk (ln_mk (ln_mk (ln_mk (ln_mk (ln_mk hl))))) (rp_sR (rp_mk (ln_mk (ln_mk (ln_mk (ln_mk hl)))) (rp_sR (rp_mk (ln_mk (ln_mk (ln_mk hl))) (rp_sR (rp_mk (ln_mk (ln_mk hl)) (rp_sR (rp_mk (ln_mk hl) rp_new (by decide)) (by decide)) (by decide)) (by decide)) (by decide)) (by decide)) (by decide)) (by decide)) (by decide)) (by decide)) (by decide)) (by decide)) (by decide)) (by decide)) (by decide)) (by decide)) (by decide)) (by decide)) (by decide)) (by decide)) (by decide)) (by decide)) (by decide)) (by decide)) (by decide)) (by decide)) (by decide)) (by decide)) (by decide)) (by decide)) (by decide)) (by decide)) (by decide)) (by decide)) (by decide)) (by decide)) (by decide)) (by decide)) ?_
  refine vc_iconst dX12_init_189 rfl ?_
  refine vc_bipush dX12_init_190 rfl ?_
  refine vc_iastore dX12_init_192 (sh_mk (sh_mk (sh_mk (sh_mk (sh_mk (sh_mk (sh_mk (sh_mk (sh_mk (sh_mk (sh_mk (sh_mk (sh_mk (sh_mk (sh_mk (sh_mk (sh_mk (sh_mk (sh_mk (sh_nw hl)))))))))))))))))))) (by omega) (by omega) ?_
  refine vc_mem (sI (sI (sR (mkC (sR (mkC (sR (mkC (sR (mkC (sR (mkC (sR (mkC (sR (mkC (sR (mkC (sR (mkC (sR (mkC (sR (mkC (sR (mkC (sR (mkC (sR (mkC (sR (mkC (sI (sI (sR (mkC (sR (mkC (sR (mkC (sR (mkC (sR (mkC M (.inr (0, 589))) 54 0 (some 55)) (.inr (0, 589))) 54 1 (some 56)) (.inr (0, 3492))) 54 2 (some 57)) (.inr (0, 8))) 54 3 (some 58)) (.inr (0, 300))) 54 5 (some 59)) 54 7 (-1)) 54 8 (-1)) (.inr (0, 160))) 54 17 (some 60)) (.inr (0, 9))) 54 22 (some 61)) (.inr (1, 330))) 54 23 (some 62)) (.inr (0, 8))) 54 31 (some 63)) (.inr (0, 8))) 54 33 (some 64)) (.inr (0, 8))) 54 34 (some 65)) (.inr (1, 16))) 54 35 (some 66)) (.inr (0, 8))) 54 37 (some 67)) (.inr (0, 256))) 54 38 (some 68)) (.inr (2, 16))) 54 39 (some 69)) (.inr (0, 5))) 54 40 (some 70)) (.inr (0, 5))) 54 41 (some 71)) (.inr (0, 5))) 54 42 (some 72)) (.inr (0, 16))) 54 45 (some 73)) (.inr (0, 16))) 54 46 (some 74)) 55 1 (-1)) 55 4 29) rfl ?_
  refine vc_aload_n dX12_init_193 rfl ?_
  refine vc_getR dX12_init_194 flX12_7 (sh_mk (sh_mk (sh_mk (sh_mk (sh_mk (sh_mk (sh_mk (sh_mk (sh_mk (sh_mk (sh_mk (sh_mk (sh_mk (sh_mk (sh_mk (sh_mk (sh_mk (sh_mk (sh_mk (sh_mk hk)))))))))))))))))))) rfl (rp_sR (rp_mk (ln_mk (ln_mk (ln_mk (ln_mk (ln_mk (ln_mk (ln_mk (ln_mk (ln_mk (ln_mk (ln_mk (ln_mk (ln_mk (ln_mk (ln_mk (ln_mk (ln_mk (ln_mk (ln_mk hl))))))))))))))))))) (rp_sR (rp_mk (ln_mk (ln_mk (ln_mk (ln_mk (ln_mk (ln_mk (ln_mk (ln_mk (ln_mk (ln_mk (ln_mk (ln_mk (ln_mk (ln_mk (ln_mk (ln_mk (ln_mk (ln_mk hl)))))))))))))))))) (rp_sR (rp_mk (ln_mk (ln_mk (ln_mk (ln_mk (ln_mk (ln_mk (ln_mk (ln_mk (ln_mk (ln_mk (ln_mk (ln_mk (ln_mk (ln_mk (ln_mk (ln_mk (ln_mk hl))))))))))))))))) (rp_sR (rp_mk (ln_mk (ln_mk (ln_mk (ln_mk (ln_mk (ln_mk (ln_mk (ln_mk (ln_mk (ln_mk (ln_mk (ln_mk (ln_mk (ln_mk (ln_mk (ln_mk hl)))))))))))))))) (rp_sR (rp_mk (ln_mk (ln_mk (ln_mk (ln_mk (ln_mk (ln_mk (ln_mk (ln_mk (ln_mk (ln_mk (ln_mk (ln_mk (ln_mk (ln_mk (ln_mk hl))))))))))))))) (rp_sR (rp_mk (ln_mk (ln_mk (ln_mk (ln_mk (ln_mk (ln_mk (ln_mk (ln_mk (ln_mk (ln_mk (ln_mk (ln_mk (ln_mk (ln_mk hl)))))))))))))) (rp_sR (rp_mk (ln_mk (ln_mk (ln_mk (ln_mk (ln_mk (ln_mk (ln_mk (ln_mk (ln_mk (ln_mk (ln_mk (ln_mk (ln_mk hl))))))))))))) (rp_sR (rp_mk (ln_mk (ln_mk (ln_mk (ln_mk (ln_mk (ln_mk (ln_mk (ln_mk (ln_mk (ln_mk (ln_mk (ln_mk hl)))))))))))) (rp_sR (rp_mk (ln_mk (ln_mk (ln_mk (ln_mk (ln_mk (ln_mk (ln_mk (ln_mk (ln_mk (ln_mk (ln_mk hl))))))))))) (rp_sR (rp_mk (ln_mk (ln_mk (ln_mk (ln_mk (ln_mk (ln_mk (ln_mk (ln_mk (ln_mk (ln_mk hl)))))))))) (rp_sR (rp_mk (ln_mk (ln_mk (ln_mk (ln_mk (ln_mk (ln_mk (ln_mk (ln_mk (ln_mk hl))))))))) (rp_sR (rp_mk (ln_mk (ln_mk (ln_mk (ln_mk (ln_mk (ln_mk (ln_mk (ln_mk hl)))))))) (rp_sR (rp_mk (ln_mk (ln_mk (ln_mk (ln_mk (ln_mk (ln_mk (ln_mk hl))))))) (rp_sR (rp_mk (ln_mk (ln_mk (ln_mk (ln_mk (ln_mk (ln_mk hl)))))) (rp_sR (rp_mk (ln_mk (ln_mk (ln_mk (ln_mk (ln_mk hl))))) (rp_sR (rp_mk (ln_mk (ln_mk (ln_mk (ln_mk hl)))) (rp_sR (rp_mk (ln_mk (ln_mk (ln_mk hl))) (rp_sR (rp_mk (ln_mk (ln_mk hl)) (rp_sR (rp_mk (ln_mk hl) rp_new (by decide)) (by decide)) (by decide)) (by decide)) (by decide)) (by decide)) (by decide)) (by decide)) (by decide)) (by decide)) (by decide)) (by decide)) (by decide)) (by decide)) (by decide)) (by decide)) (by decide)) (by decide)) (by decide)) (by decide)) (by decide)) (by decide)) (by decide)) (by decide)) (by decide)) (by decide)) (by decide)) (by decide)) (by decide)) (by decide)) (by decide)) (by decide)) (by decide)) (by decide)) (by decide)) (by decide)) (by decide)) (by decide)) ?_
  refine vc_bipush dX12_init_197 rfl ?_
  refine vc_iconst dX12_init_199 rfl ?_
  refine vc_iastore dX12_init_200 (sh_mk (sh_mk (sh_mk (sh_mk (sh_mk (sh_mk (sh_mk (sh_mk (sh_mk (sh_mk (sh_mk (sh_mk (sh_mk (sh_mk (sh_mk (sh_mk (sh_mk (sh_mk (sh_mk (sh_nw hl)))))))))))))))))))) (by omega) (by omega) ?_
  refine vc_mem (sI (sI (sI (sR (mkC (sR (mkC (sR (mkC (sR (mkC (sR (mkC (sR (mkC (sR (mkC (sR (mkC (sR (mkC (sR (mkC (sR (mkC (sR (mkC (sR (mkC (sR (mkC (sR (mkC (sI (sI (sR (mkC (sR (mkC (sR (mkC (sR (mkC (sR (mkC M (.inr (0, 589))) 54 0 (some 55)) (.inr (0, 589))) 54 1 (some 56)) (.inr (0, 3492))) 54 2 (some 57)) (.inr (0, 8))) 54 3 (some 58)) (.inr (0, 300))) 54 5 (some 59)) 54 7 (-1)) 54 8 (-1)) (.inr (0, 160))) 54 17 (some 60)) (.inr (0, 9))) 54 22 (some 61)) (.inr (1, 330))) 54 23 (some 62)) (.inr (0, 8))) 54 31 (some 63)) (.inr (0, 8))) 54 33 (some 64)) (.inr (0, 8))) 54 34 (some 65)) (.inr (1, 16))) 54 35 (some 66)) (.inr (0, 8))) 54 37 (some 67)) (.inr (0, 256))) 54 38 (some 68)) (.inr (2, 16))) 54 39 (some 69)) (.inr (0, 5))) 54 40 (some 70)) (.inr (0, 5))) 54 41 (some 71)) (.inr (0, 5))) 54 42 (some 72)) (.inr (0, 16))) 54 45 (some 73)) (.inr (0, 16))) 54 46 (some 74)) 55 1 (-1)) 55 4 29) 55 6 (-1)) rfl ?_
  refine vc_aload_n dX12_init_201 rfl ?_
  refine vc_getR dX12_init_202 flX12_7 (sh_mk (sh_mk (sh_mk (sh_mk (sh_mk (sh_mk (sh_mk (sh_mk (sh_mk (sh_mk (sh_mk (sh_mk (sh_mk (sh_mk (sh_mk (sh_mk (sh_mk (sh_mk (sh_mk (sh_mk hk)))))))))))))))))))) rfl (rp_sR (rp_mk (ln_mk (ln_mk (ln_mk (ln_mk (ln_mk (ln_mk (ln_mk (ln_mk (ln_mk (ln_mk (ln_mk (ln_mk (ln_mk (ln_mk (ln_mk (ln_mk (ln_mk (ln_mk (ln_mk hl))))))))))))))))))) (rp_sR (rp_mk (ln_mk (ln_mk (ln_mk (ln_mk (ln_mk (ln_mk (ln_mk (ln_mk (ln_mk (ln_mk (ln_mk (ln_mk (ln_mk (ln_mk (ln_mk (ln_mk (ln_mk (ln_mk hl)))))))))))))))))) (rp_sR (rp_mk (ln_mk (ln_mk (ln_mk (ln_mk (ln_mk (ln_mk (ln_mk (ln_mk (ln_mk (ln_mk (ln_mk (ln_mk (ln_mk (ln_mk (ln_mk (ln_mk (ln_mk hl))))))))))))))))) (rp_sR (rp_mk (ln_mk (ln_mk (ln_mk (ln_mk (ln_mk (ln_mk (ln_mk (ln_mk (ln_mk (ln_mk (ln_mk (ln_mk (ln_mk (ln_mk (ln_mk (ln_mk hl)))))))))))))))) (rp_sR (rp_mk (ln_mk (ln_mk (ln_mk (ln_mk (ln_mk (ln_mk (ln_mk (ln_mk (ln_mk (ln_mk (ln_mk (ln_mk (ln_mk (ln_mk (ln_mk hl))))))))))))))) (rp_sR (rp_mk (ln_mk (ln_mk (ln_mk (ln_mk (ln_mk (ln_mk (ln_mk (ln_mk (ln_mk (ln_mk (ln_mk (ln_mk (ln_mk (ln_mk hl)))))))))))))) (rp_sR (rp_mk (ln_mk (ln_mk (ln_mk (ln_mk (ln_mk (ln_mk (ln_mk (ln_mk (ln_mk (ln_mk (ln_mk (ln_mk (ln_mk hl))))))))))))) (rp_sR (rp_mk (ln_mk (ln_mk (ln_mk (ln_mk (ln_mk (ln_mk (ln_mk (ln_mk (ln_mk (ln_mk (ln_mk (ln_mk hl)))))))))))) (rp_sR (rp_mk (ln_mk (ln_mk (ln_mk (ln_mk (ln_mk (ln_mk (ln_mk (ln_mk (ln_mk (ln_mk (ln_mk hl))))))))))) (rp_sR (rp_mk (ln_mk (ln_mk (ln_mk (ln_mk (ln_mk (ln_mk (ln_mk (ln_mk (ln_mk (ln_mk hl)))))))))) (rp_sR (rp_mk (ln_mk (ln_mk (ln_mk (ln_mk (ln_mk (ln_mk (ln_mk (ln_mk (ln_mk hl))))))))) (rp_sR (rp_mk (ln_mk (ln_mk (ln_mk (ln_mk (ln_mk (ln_mk (ln_mk (ln_mk hl)))))))) (rp_sR (rp_mk (ln_mk (ln_mk (ln_mk (ln_mk (ln_mk (ln_mk (ln_mk hl))))))) (rp_sR (rp_mk (ln_mk (ln_mk (ln_mk (ln_mk (ln_mk (ln_mk hl)))))) (rp_sR (rp_mk (ln_mk (ln_mk (ln_mk (ln_mk (ln_mk hl))))) (rp_sR (rp_mk (ln_mk (ln_mk (ln_mk (ln_mk hl)))) (rp_sR (rp_mk (ln_mk (ln_mk (ln_mk hl))) (rp_sR (rp_mk (ln_mk (ln_mk hl)) (rp_sR (rp_mk (ln_mk hl) rp_new (by decide)) (by decide)) (by decide)) (by decide)) (by decide)) (by decide)) (by decide)) (by decide)) (by decide)) (by decide)) (by decide)) (by decide)) (by decide)) (by decide)) (by decide)) (by decide)) (by decide)) (by decide)) (by decide)) (by decide)) (by decide)) (by decide)) (by decide)) (by decide)) (by decide)) (by decide)) (by decide)) (by decide)) (by decide)) (by decide)) (by decide)) (by decide)) (by decide)) (by decide)) (by decide)) (by decide)) (by decide)) (by decide)) ?_
  refine vc_sipush dX12_init_205 rfl ?_
  refine vc_iconst dX12_init_208 rfl ?_
  refine vc_iastore dX12_init_209 (sh_mk (sh_mk (sh_mk (sh_mk (sh_mk (sh_mk (sh_mk (sh_mk (sh_mk (sh_mk (sh_mk (sh_mk (sh_mk (sh_mk (sh_mk (sh_mk (sh_mk (sh_mk (sh_mk (sh_nw hl)))))))))))))))))))) (by omega) (by omega) ?_
  refine vc_mem (sI (sI (sI (sI (sR (mkC (sR (mkC (sR (mkC (sR (mkC (sR (mkC (sR (mkC (sR (mkC (sR (mkC (sR (mkC (sR (mkC (sR (mkC (sR (mkC (sR (mkC (sR (mkC (sR (mkC (sI (sI (sR (mkC (sR (mkC (sR (mkC (sR (mkC (sR (mkC M (.inr (0, 589))) 54 0 (some 55)) (.inr (0, 589))) 54 1 (some 56)) (.inr (0, 3492))) 54 2 (some 57)) (.inr (0, 8))) 54 3 (some 58)) (.inr (0, 300))) 54 5 (some 59)) 54 7 (-1)) 54 8 (-1)) (.inr (0, 160))) 54 17 (some 60)) (.inr (0, 9))) 54 22 (some 61)) (.inr (1, 330))) 54 23 (some 62)) (.inr (0, 8))) 54 31 (some 63)) (.inr (0, 8))) 54 33 (some 64)) (.inr (0, 8))) 54 34 (some 65)) (.inr (1, 16))) 54 35 (some 66)) (.inr (0, 8))) 54 37 (some 67)) (.inr (0, 256))) 54 38 (some 68)) (.inr (2, 16))) 54 39 (some 69)) (.inr (0, 5))) 54 40 (some 70)) (.inr (0, 5))) 54 41 (some 71)) (.inr (0, 5))) 54 42 (some 72)) (.inr (0, 16))) 54 45 (some 73)) (.inr (0, 16))) 54 46 (some 74)) 55 1 (-1)) 55 4 29) 55 6 (-1)) 55 256 (-1)) rfl ?_
  refine vc_aload_n dX12_init_210 rfl ?_
  refine vc_getR dX12_init_211 flX12_7 (sh_mk (sh_mk (sh_mk (sh_mk (sh_mk (sh_mk (sh_mk (sh_mk (sh_mk (sh_mk (sh_mk (sh_mk (sh_mk (sh_mk (sh_mk (sh_mk (sh_mk (sh_mk (sh_mk (sh_mk hk)))))))))))))))))))) rfl (rp_sR (rp_mk (ln_mk (ln_mk (ln_mk (ln_mk (ln_mk (ln_mk (ln_mk (ln_mk (ln_mk (ln_mk (ln_mk (ln_mk (ln_mk (ln_mk (ln_mk (ln_mk (ln_mk (ln_mk (ln_mk hl))))))))))))))))))) (rp_sR (rp_mk (ln_mk (ln_mk (ln_mk (ln_mk (ln_mk (ln_mk (ln_mk (ln_mk (ln_mk (ln_mk (ln_mk (ln_mk (ln_mk (ln_mk (ln_mk (ln_mk (ln_mk (ln_mk hl)))))))))))))))))) (rp_sR (rp_mk (ln_mk (ln_mk (ln_mk (ln_mk (ln_mk (ln_mk (ln_mk (ln_mk (ln_mk (ln_mk (ln_mk (ln_mk (ln_mk (ln_mk (ln_mk (ln_mk (ln_mk hl))))))))))))))))) (rp_sR (rp_mk (ln_mk (ln_mk (ln_mk (ln_mk (ln_mk (ln_mk (ln_mk (ln_mk (ln_mk (ln_mk (ln_mk (ln_mk (ln_mk (ln_mk (ln_mk (ln_mk hl)))))))))))))))) (rp_sR (rp_mk (ln_mk (ln_mk (ln_mk (ln_mk (ln_mk (ln_mk (ln_mk (ln_mk (ln_mk (ln_mk (ln_mk (ln_mk (ln_mk (ln_mk (ln_mk hl))))))))))))))) (rp_sR (rp_mk (ln_mk (ln_mk (ln_mk (ln_mk (ln_mk (ln_mk (ln_mk (ln_mk (ln_mk (ln_mk (ln_mk (ln_mk (ln_mk (ln_mk hl)))))))))))))) (rp_sR (rp_mk (ln_mk (ln_mk (ln_mk (ln_mk (ln_mk (ln_mk (ln_mk (ln_mk (ln_mk (ln_mk (ln_mk (ln_mk (ln_mk hl))))))))))))) (rp_sR (rp_mk (ln_mk (ln_mk (ln_mk (ln_mk (ln_mk (ln_mk (ln_mk (ln_mk (ln_mk (ln_mk (ln_mk (ln_mk hl)))))))))))) (rp_sR (rp_mk (ln_mk (ln_mk (ln_mk (ln_mk (ln_mk (ln_mk (ln_mk (ln_mk (ln_mk (ln_mk (ln_mk hl))))))))))) (rp_sR (rp_mk (ln_mk (ln_mk (ln_mk (ln_mk (ln_mk (ln_mk (ln_mk (ln_mk (ln_mk (ln_mk hl)))))))))) (rp_sR (rp_mk (ln_mk (ln_mk (ln_mk (ln_mk (ln_mk (ln_mk (ln_mk (ln_mk (ln_mk hl))))))))) (rp_sR (rp_mk (ln_mk (ln_mk (ln_mk (ln_mk (ln_mk (ln_mk (ln_mk (ln_mk hl)))))))) (rp_sR (rp_mk (ln_mk (ln_mk (ln_mk (ln_mk (ln_mk (ln_mk (ln_mk hl))))))) (rp_sR (rp_mk (ln_mk (ln_mk (ln_mk (ln_mk (ln_mk (ln_mk hl)))))) (rp_sR (rp_mk (ln_mk (ln_mk (ln_mk (ln_mk (ln_mk hl))))) (rp_sR (rp_mk (ln_mk (ln_mk (ln_mk (ln_mk hl)))) (rp_sR (rp_mk (ln_mk (ln_mk (ln_mk hl))) (rp_sR (rp_mk (ln_mk (ln_mk hl)) (rp_sR (rp_mk (ln_mk hl) rp_new (by decide)) (by decide)) (by decide)) (by decide)) (by decide)) (by decide)) (by decide)) (by decide)) (by decide)) (by decide)) (by decide)) (by decide)) (by decide)) (by decide)) (by decide)) (by decide)) (by decide)) (by decide)) (by decide)) (by decide)) (by decide)) (by decide)) (by decide)) (by decide)) (by decide)) (by decide)) (by decide)) (by decide)) (by decide)) (by decide)) (by decide)) (by decide)) (by decide)) (by decide)) (by decide)) (by decide)) (by decide)) (by decide)) ?_
  refine vc_aload_n dX12_init_214 rfl ?_
  refine vc_getR dX12_init_215 flX12_13 (sh_mk (sh_mk (sh_mk (sh_mk (sh_mk (sh_mk (sh_mk (sh_mk (sh_mk (sh_mk (sh_mk (sh_mk (sh_mk (sh_mk (sh_mk (sh_mk (sh_mk (sh_mk (sh_mk (sh_mk hk)))))))))))))))))))) rfl (rp_sR (rp_mk (ln_mk (ln_mk (ln_mk (ln_mk (ln_mk (ln_mk (ln_mk (ln_mk (ln_mk (ln_mk (ln_mk (ln_mk (ln_mk (ln_mk (ln_mk (ln_mk (ln_mk (ln_mk (ln_mk hl))))))))))))))))))) (rp_sR (rp_mk (ln_mk (ln_mk (ln_mk (ln_mk (ln_mk (ln_mk (ln_mk (ln_mk (ln_mk (ln_mk (ln_mk (ln_mk (ln_mk (ln_mk (ln_mk (ln_mk (ln_mk (ln_mk hl)))))))))))))))))) (rp_sR (rp_mk (ln_mk (ln_mk (ln_mk (ln_mk (ln_mk (ln_mk (ln_mk (ln_mk (ln_mk (ln_mk (ln_mk (ln_mk (ln_mk (ln_mk (ln_mk (ln_mk (ln_mk hl))))))))))))))))) (rp_sR (rp_mk (ln_mk (ln_mk (ln_mk (ln_mk (ln_mk (ln_mk (ln_mk (ln_mk (ln_mk (ln_mk (ln_mk (ln_mk (ln_mk (ln_mk (ln_mk (ln_mk hl)))))))))))))))) (rp_sR (rp_mk (ln_mk (ln_mk (ln_mk (ln_mk (ln_mk (ln_mk (ln_mk (ln_mk (ln_mk (ln_mk (ln_mk (ln_mk (ln_mk (ln_mk (ln_mk hl))))))))))))))) (rp_sR (rp_mk (ln_mk (ln_mk (ln_mk (ln_mk (ln_mk (ln_mk (ln_mk (ln_mk (ln_mk (ln_mk (ln_mk (ln_mk (ln_mk (ln_mk hl)))))))))))))) (rp_sR (rp_mk (ln_mk (ln_mk (ln_mk (ln_mk (ln_mk (ln_mk (ln_mk (ln_mk (ln_mk (ln_mk (ln_mk (ln_mk (ln_mk hl))))))))))))) (rp_sR (rp_mk (ln_mk (ln_mk (ln_mk (ln_mk (ln_mk (ln_mk (ln_mk (ln_mk (ln_mk (ln_mk (ln_mk (ln_mk hl)))))))))))) (rp_sR (rp_mk (ln_mk (ln_mk (ln_mk (ln_mk (ln_mk (ln_mk (ln_mk (ln_mk (ln_mk (ln_mk (ln_mk hl))))))))))) (rp_sR (rp_mk (ln_mk (ln_mk (ln_mk (ln_mk (ln_mk (ln_mk (ln_mk (ln_mk (ln_mk (ln_mk hl)))))))))) (rp_sR (rp_mk (ln_mk (ln_mk (ln_mk (ln_mk (ln_mk (ln_mk (ln_mk (ln_mk (ln_mk hl))))))))) (rp_sR (rp_mk (ln_mk (ln_mk (ln_mk (ln_mk (ln_mk (ln_mk (ln_mk (ln_mk hl)))))))) (rp_sR (rp_mk (ln_mk (ln_mk (ln_mk (ln_mk (ln_mk (ln_mk (ln_mk hl))))))) (rp_sR (rp_mk (ln_mk (ln_mk (ln_mk (ln_mk (ln_mk (ln_mk hl)))))) (rp_sR (rp_mk (ln_mk (ln_mk (ln_mk (ln_mk (ln_mk hl))))) (rp_sR (rp_mk (ln_mk (ln_mk (ln_mk (ln_mk hl)))) (rp_sR (rp_mk (ln_mk (ln_mk (ln_mk hl))) (rp_sR (rp_mk (ln_mk (ln_mk hl)) rp_new (by decide)) (by decide)) (by decide)) (by decide)) (by decide)) (by decide)) (by decide)) (by decide)) (by decide)) (by decide)) (by decide)) (by decide)) (by decide)) (by decide)) (by decide)) (by decide)) (by decide)) (by decide)) (by decide)) (by decide)) (by decide)) (by decide)) (by decide)) (by decide)) (by decide)) (by decide)) (by decide)) (by decide)) (by decide)) (by decide)) (by decide)) (by decide)) (by decide)) (by decide)) (by decide)) (by decide)) ?_
  refine vc_callSU dX12_init_218 (qX12_copy_i (M := (sI (sI (sI (sI (sR (mkC (sR (mkC (sR (mkC (sR (mkC (sR (mkC (sR (mkC (sR (mkC (sR (mkC (sR (mkC (sR (mkC (sR (mkC (sR (mkC (sR (mkC (sR (mkC (sR (mkC (sI (sI (sR (mkC (sR (mkC (sR (mkC (sR (mkC (sR (mkC M (.inr (0, 589))) 54 0 (some 55)) (.inr (0, 589))) 54 1 (some 56)) (.inr (0, 3492))) 54 2 (some 57)) (.inr (0, 8))) 54 3 (some 58)) (.inr (0, 300))) 54 5 (some 59)) 54 7 (-1)) 54 8 (-1)) (.inr (0, 160))) 54 17 (some 60)) (.inr (0, 9))) 54 22 (some 61)) (.inr (1, 330))) 54 23 (some 62)) (.inr (0, 8))) 54 31 (some 63)) (.inr (0, 8))) 54 33 (some 64)) (.inr (0, 8))) 54 34 (some 65)) (.inr (1, 16))) 54 35 (some 66)) (.inr (0, 8))) 54 37 (some 67)) (.inr (0, 256))) 54 38 (some 68)) (.inr (2, 16))) 54 39 (some 69)) (.inr (0, 5))) 54 40 (some 70)) (.inr (0, 5))) 54 41 (some 71)) (.inr (0, 5))) 54 42 (some 72)) (.inr (0, 16))) 54 45 (some 73)) (.inr (0, 16))) 54 46 (some 74)) 55 1 (-1)) 55 4 29) 55 6 (-1)) 55 256 (-1))) (sh_mk (sh_mk (sh_mk (sh_mk (sh_mk (sh_mk (sh_mk (sh_mk (sh_mk (sh_mk (sh_mk (sh_mk (sh_mk (sh_mk (sh_mk (sh_mk (sh_mk (sh_mk (sh_mk (sh_nw hl)))))))))))))))))))) (sh_mk (sh_mk (sh_mk (sh_mk (sh_mk (sh_mk (sh_mk (sh_mk (sh_mk (sh_mk (sh_mk (sh_mk (sh_mk (sh_mk (sh_mk (sh_mk (sh_mk (sh_mk (sh_nw (ln_mk hl))))))))))))))))))))) rfl okX12_copy stX12_copy lkX12_79 rfl (Nat.le_of_ble_eq_true rfl) ⟨rfl, rfl⟩ (Nat.le_of_ble_eq_true rfl) (Nat.le_of_ble_eq_true rfl) (Nat.le_of_ble_eq_true rfl) ?_
  refine vc_vret dX12_init_221 rfl (Nat.le_of_ble_eq_true rfl) (Nat.le_of_ble_eq_true rfl) ?_
  exact ⟨rfl, rfl⟩
theorem lX12_init {M : Mem} (hl : M.1.length = 55) : (gX12_init M).1.length = 75 := (ln_mk (ln_mk (ln_mk (ln_mk (ln_mk (ln_mk (ln_mk (ln_mk (ln_mk (ln_mk (ln_mk (ln_mk (ln_mk (ln_mk (ln_mk (ln_mk (ln_mk (ln_mk (ln_mk (ln_mk hl))))))))))))))))))))
theorem xX12_init {M : Mem} {k : Nat} {x : Sh} (h : M.1[k]? = some x) : (gX12_init M).1[k]? = some x := (sh_mk (sh_mk (sh_mk (sh_mk (sh_mk (sh_mk (sh_mk (sh_mk (sh_mk (sh_mk (sh_mk (sh_mk (sh_mk (sh_mk (sh_mk (sh_mk (sh_mk (sh_mk (sh_mk (sh_mk h))))))))))))))))))))
