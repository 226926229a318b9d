/-! TEXT on the empty tape, of the class: what is made (written by wip/whole/p52.py) -/
section VCA
variable {l : Launch} {D : MD} {pc pc' : Nat} {L : List (Option AV)} {st : List AV} {M : Mem} {kc ks : Nat} {Q : Option AV → Mem → Prop} {D' : MD} {as : List AV} {v : AV} {M2 : Mem}
theorem vc_callSA {idx n : Nat} {stk : List AV} (hd : At (mB D) pc (.invokestatic idx) 3 pc') (hcall : Fn l D' as M (some v) M2) (hstk : as.reverse ++ st = stk) (hm : MOk D' n) (hv : MSt D') (hlk : LkM (mY D).cls idx D') (hlen : as.length = n) (hlev : mV D' < mV D) (hc1 : kc + mC D' ≤ mC D) (hc2 : ks + mS D' ≤ mS D) (hsum : (st.map catA).sum ≤ 8) (kk : VC l D pc' L (v :: st) M2 (kc + mC D') (ks + mS D') Q) : VC l D pc L stk M kc ks Q :=
  vc_callS hd hm hv hlk hlen hlev hc1 hc2 hsum _ hstk hcall (fun r M' h _ => by obtain ⟨rfl, rfl⟩ := h; exact kk)
theorem vc_callVA {idx k ci n : Nat} {T : u_T} {N : Nat} {stk : List AV} (hd : At (mB D) pc (.invokevirtual idx) 3 pc') (hcall : Fn l D' (aR k :: as) M (some v) M2) (hstk : as.reverse ++ aR k :: st = stk) (hm : MOk D' n) (hv : MVi D') (hlk : LkM (mY D).cls idx D') (hs : M.1[k]? = some (.inl ci)) (hci : vwCl[ci]? = some ((mY D').cls, T, N)) (hlen : as.length = n) (hlev : mV D' < mV D) (hc1 : kc + mC D' ≤ mC D) (hc2 : ks + mS D' ≤ mS D) (hsum : (st.map catA).sum ≤ 8) (kk : VC l D pc' L (v :: st) M2 (kc + mC D') (ks + mS D') Q) : VC l D pc L stk M kc ks Q :=
  vc_callV hd hm hv hlk hs hci hlen hlev hc1 hc2 hsum _ hstk hcall (fun r M' h _ => by obtain ⟨rfl, rfl⟩ := h; exact kk)
end VCA
/-- what Arrays.copyOf makes -/
def cpy2 (M : Mem) (k n q : Nat) (e : Int) : Mem := if e = n then clC M k n else cpI (mkC M (.inr (0, e.toNat))) q k 0 0 e.toNat
theorem ln_cp {M : Mem} {k n q : Nat} {e : Int} (hl : M.1.length = q) : (cpy2 M k n q e).1.length = q + 1 := by
  unfold cpy2
  split
  · rw [clC_len, hl]
  · show (mkC M _).1.length = _
    rw [mkC_len, hl]
theorem cp_mI {M : Mem} {k n q a b : Nat} {e : Int} (hl : M.1.length = q) (ha : a ≠ q) : mI (cpy2 M k n q e) a b = mI M a b := by
  unfold cpy2
  split
  · rw [mI_clC, hl, if_neg ha]
  · rw [mI_cpI, if_neg (fun h => ha h.1), mI_mkC, hl, if_neg ha]
theorem sh_cl {M : Mem} {k n j : Nat} {x : Sh} (h : M.1[j]? = some x) : (clC M k n).1[j]? = some x := by
  show (M.1 ++ [_])[j]? = _
  rw [List.getElem?_append_left (List.getElem?_eq_some_iff.mp h).1]
  exact h
theorem sh_cp {M : Mem} {k n q j : Nat} {e : Int} {x : Sh} (h : M.1[j]? = some x) : (cpy2 M k n q e).1[j]? = some x := by
  unfold cpy2
  split
  · exact sh_cl h
  · exact sh_mk (M := M) h
theorem qJ7_copyOf_59c91 {l : Launch} {M : Mem} (k n q : Nat) (e : Int) (hs : M.1[k]? = some (.inr (0, n))) (hn : n ≤ 300) (hl : M.1.length = q) (h0 : 0 ≤ e) (h1 : e ≤ n) : Fn l mdJ7_copyOf_59c91 [aR k, aI e] M (some (aR q)) (cpy2 M k n q e) := by
  refine Call.of [some (aR k), some (aI e), none] (by decide +kernel) (Nat.le_of_ble_eq_true rfl) rfl ?_
  refine vc_iload_n dJ7_copyOf_59c91_0 rfl ?_
  refine vc_aload_n dJ7_copyOf_59c91_1 rfl ?_
  refine vc_alen dJ7_copyOf_59c91_2 hs (by simp; omega) ?_
  refine vc_icmp_ne dJ7_copyOf_59c91_3 (fun h => ?_) (fun h => ?_)
  · refine vc_iload_n dJ7_copyOf_59c91_14 rfl ?_
    refine vc_newI dJ7_copyOf_59c91_15 h0 (by omega) (Nat.le_of_ble_eq_true rfl) (by show 0 + e.toNat ≤ 300; omega) ?_
    rw [hl]
    refine vc_astore_n dJ7_copyOf_59c91_17 (by decide) rfl (show _ = [some (aR k), some (aI e), some (aR q)] from rfl) ?_
    refine vc_aload_n dJ7_copyOf_59c91_18 rfl ?_
    refine vc_iconst dJ7_copyOf_59c91_19 rfl ?_
    refine vc_aload_n dJ7_copyOf_59c91_20 rfl ?_
    refine vc_iconst dJ7_copyOf_59c91_21 rfl ?_
    refine vc_aload_n dJ7_copyOf_59c91_22 rfl ?_
    refine vc_alen dJ7_copyOf_59c91_23 (sh_mk hs) (by simp; omega) ?_
    refine vc_iload_n dJ7_copyOf_59c91_24 rfl ?_
    refine vc_mminI dJ7_copyOf_59c91_25 lkJ7_304 (Nat.le_of_ble_eq_true rfl) (by show 0 + e.toNat ≤ 300; omega) (Nat.le_of_ble_eq_true rfl) ?_
    refine vc_topI e (by unfold minZ; split <;> omega) ?_
    refine vc_acopy dJ7_copyOf_59c91_28 acJ7_150 (sh_mk hs) (sh_nw hl) (by decide) (by decide) h0 (by omega) (by omega) (Nat.le_of_ble_eq_true rfl) ?_
    refine vc_aload_n dJ7_copyOf_59c91_31 rfl ?_
    refine vc_arow dJ7_copyOf_59c91_32 rfl (Nat.le_of_ble_eq_true rfl) (by show 0 + e.toNat ≤ 300; omega) ?_
    exact ⟨rfl, by unfold cpy2; rw [if_neg h]; rfl⟩
  · refine vc_aload_n dJ7_copyOf_59c91_6 rfl ?_
    refine vc_clone dJ7_copyOf_59c91_7 cl_lk hs (Nat.le_of_ble_eq_true rfl) (by show 0 + n ≤ 300; omega) (Nat.le_of_ble_eq_true rfl) ?_
    rw [hl]
    refine vc_castI dJ7_copyOf_59c91_10 cl_ck (n := n) (by subst hl; show (M.1 ++ [_])[M.1.length]? = _; simp) ?_
    refine vc_arow dJ7_copyOf_59c91_13 rfl (Nat.le_of_ble_eq_true rfl) (by show 0 + n ≤ 300; omega) ?_
    exact ⟨rfl, by unfold cpy2; rw [if_pos h]⟩
theorem St.M {M : Mem} (h : St M) (sh : Sh) : St (mkC M sh) := by
  have h74 := (List.getElem?_eq_some_iff.mp (s_74 h)).1
  refine ⟨fun k x hx => sh_mk (h.1 k x hx), fun q hq => ?_⟩
  have hq1 : ∀ q ∈ ref0, q.1 ≤ 54 := by decide
  rw [mR_mkC, if_neg (by have := hq1 q hq; omega)]
  exact h.2 q hq
theorem St.L {M : Mem} (h : St M) (k n : Nat) : St (clC M k n) := by
  have h74 := (List.getElem?_eq_some_iff.mp (s_74 h)).1
  refine ⟨fun k x hx => sh_cl (h.1 k x hx), fun q hq => ?_⟩
  have hq1 : ∀ q ∈ ref0, q.1 ≤ 54 := by decide
  rw [mR_clC, if_neg (by have := hq1 q hq; omega)]
  exact h.2 q hq
theorem St.P {M : Mem} (h : St M) (k n q : Nat) (e : Int) : St (cpy2 M k n q e) := by
  unfold cpy2
  split
  · exact St.L h k n
  · exact St.C (St.M h _) _ _ _ _ _
def gX5_init_75 (M : Mem) : Mem := sI (sR (sR (sR M 75 0 (some 76)) 75 1 (some 77)) 75 2 (some 78)) 75 3 0
theorem qX5_init_75 {l : Launch} {M : Mem} (hk : M.1[75]? = some (.inl 5)) : Fn l mdX5_init [aR 75, aR 76, aR 77, aR 78, aI 0] M none (gX5_init_75 M) := by
  refine Call.of [some (aR 75), some (aR 76), some (aR 77), some (aR 78), some (aI 0)] rfl (Nat.le_of_ble_eq_true rfl) rfl ?_
  refine vc_aload_n dX5_init_0 rfl ?_
  refine vc_objInit dX5_init_1 oiX5_3 (Nat.le_of_ble_eq_true rfl) ?_
  refine vc_aload_n dX5_init_4 rfl ?_
  refine vc_aload_n dX5_init_5 rfl ?_
  refine vc_putR dX5_init_6 (plX5_9 _ rfl rfl) hk rfl ?_
  refine vc_aload_n dX5_init_9 rfl ?_
  refine vc_aload_n dX5_init_10 rfl ?_
  refine vc_putR dX5_init_11 (plX5_15 _ rfl rfl) hk rfl ?_
  refine vc_aload_n dX5_init_14 rfl ?_
  refine vc_aload_n dX5_init_15 rfl ?_
  refine vc_putR dX5_init_16 (plX5_18 _ rfl rfl) hk rfl ?_
  refine vc_aload_n dX5_init_19 rfl ?_
  refine vc_iload dX5_init_20 rfl ?_
  refine vc_putI dX5_init_22 (plX5_21 _ rfl rfl) hk rfl ?_
  refine vc_vret dX5_init_25 rfl (Nat.le_of_ble_eq_true rfl) (Nat.le_of_ble_eq_true rfl) ?_
  exact ⟨rfl, rfl⟩
def gRead (M : Mem) : Mem := gX5_init_75 (cpy2 (cpy2 (cpy2 (mkC M (.inl 5)) 23 300 76 0) 24 10 77 10) 25 120 78 0)
theorem qX4_asRead_z {l : Launch} {M : Mem} (hS : St M) (hl : M.1.length = 75) (hc : mI M 22 12 = 0) (hd : mI M 22 13 = 0) : Fn l mdX4_asRead [aR 22] M (some (aR 75)) (gRead M) := by
  have hS1 := St.M hS (.inl 5)
  have hl1 : (mkC M (.inl 5)).1.length = 76 := ln_mk hl
  have hS2 := St.P hS1 23 300 76 0
  have hl2 : (cpy2 (mkC M (.inl 5)) 23 300 76 0).1.length = 77 := ln_cp hl1
  have hS3 := St.P hS2 24 10 77 10
  have hl3 : (cpy2 (cpy2 (mkC M (.inl 5)) 23 300 76 0) 24 10 77 10).1.length = 78 := ln_cp hl2
  have hS4 := St.P hS3 25 120 78 0
  have hk : (cpy2 (cpy2 (cpy2 (mkC M (.inl 5)) 23 300 76 0) 24 10 77 10) 25 120 78 0).1[75]? = some (.inl 5) := sh_cp (sh_cp (sh_cp (sh_nw hl)))
  have c1 : mI (mkC M (.inl 5)) 22 12 = 0 := by rw [mI_mkC, if_neg (by omega)]; exact hc
  have c0 : mI (mkC M (.inl 5)) 22 13 = 0 := by rw [mI_mkC, if_neg (by omega)]; exact hd
  have c2 : mI (cpy2 (cpy2 (mkC M (.inl 5)) 23 300 76 0) 24 10 77 10) 22 13 = 0 := by rw [cp_mI hl2 (by decide), cp_mI hl1 (by decide)]; exact c0
  have c3 : mI (cpy2 (cpy2 (cpy2 (mkC M (.inl 5)) 23 300 76 0) 24 10 77 10) 25 120 78 0) 22 13 = 0 := by rw [cp_mI hl3 (by decide)]; exact c2
  refine Call.of [some (aR 22)] rfl (Nat.le_of_ble_eq_true rfl) rfl ?_
  refine vc_newOq 75 dX4_asRead_0 hl cl_5 clX4_75 iaX5 iiX5 (Nat.le_of_ble_eq_true rfl) (Nat.le_of_ble_eq_true rfl) ?_
  refine vc_dup dX4_asRead_3 rfl ?_
  refine vc_aload_n dX4_asRead_4 rfl ?_
  refine vc_getR dX4_asRead_5 flX4_15 (s_22 hS1) rfl (r_22_1 hS1) ?_
  refine vc_aload_n dX4_asRead_8 rfl ?_
  refine vc_getI dX4_asRead_9 flX4_50 (s_22 hS1) rfl ?_
  refine vc_topI 0 c1 ?_
  refine vc_callSA dX4_asRead_12 (qJ7_copyOf_59c91 23 300 76 0 (s_23 hS1) (by decide) hl1 (by decide) (by decide)) rfl okJ7_copyOf_59c91 stJ7_copyOf_59c91 lkX4_77 rfl (Nat.le_of_ble_eq_true rfl) (Nat.le_of_ble_eq_true rfl) (Nat.le_of_ble_eq_true rfl) (Nat.le_of_ble_eq_true rfl) ?_
  refine vc_aload_n dX4_asRead_15 rfl ?_
  refine vc_getR dX4_asRead_16 flX4_18 (s_22 hS2) rfl (r_22_2 hS2) ?_
  refine vc_bipush dX4_asRead_19 rfl ?_
  refine vc_callSA dX4_asRead_21 (qJ7_copyOf_59c91 24 10 77 10 (s_24 hS2) (by decide) hl2 (by decide) (by decide)) rfl okJ7_copyOf_59c91 stJ7_copyOf_59c91 lkX4_77 rfl (Nat.le_of_ble_eq_true rfl) (Nat.le_of_ble_eq_true rfl) (Nat.le_of_ble_eq_true rfl) (Nat.le_of_ble_eq_true rfl) ?_
  refine vc_aload_n dX4_asRead_24 rfl ?_
  refine vc_getR dX4_asRead_25 flX4_21 (s_22 hS3) rfl (r_22_3 hS3) ?_
  refine vc_iconst dX4_asRead_28 rfl ?_
  refine vc_aload_n dX4_asRead_29 rfl ?_
  refine vc_getI dX4_asRead_30 flX4_53 (s_22 hS3) rfl ?_
  refine vc_topI 0 c2 ?_
  refine vc_imulE dX4_asRead_33 (by decide) (by decide) ?_
  refine vc_topI 0 rfl ?_
  refine vc_callSA dX4_asRead_34 (qJ7_copyOf_59c91 25 120 78 0 (s_25 hS3) (by decide) hl3 (by decide) (by decide)) rfl okJ7_copyOf_59c91 stJ7_copyOf_59c91 lkX4_77 rfl (Nat.le_of_ble_eq_true rfl) (Nat.le_of_ble_eq_true rfl) (Nat.le_of_ble_eq_true rfl) (Nat.le_of_ble_eq_true rfl) ?_
  refine vc_aload_n dX4_asRead_37 rfl ?_
  refine vc_getI dX4_asRead_38 flX4_53 (s_22 hS4) rfl ?_
  refine vc_topI 0 c3 ?_
  refine vc_callIU dX4_asRead_41 (qX5_init_75 hk) rfl okX5_init inX5_init rfl rfl lkX4_81 rfl (Nat.le_of_ble_eq_true rfl) (Nat.le_of_ble_eq_true rfl) (Nat.le_of_ble_eq_true rfl) (Nat.le_of_ble_eq_true rfl) ?_
  refine vc_aret dX4_asRead_44 rfl (Nat.le_of_ble_eq_true rfl) (Nat.le_of_ble_eq_true rfl) ?_
  exact ⟨rfl, rfl⟩
set_option maxRecDepth 4000 in
theorem qX6_addText_z {l : Launch} {M : Mem} (hS : St M) (z10 : mI M 1 10 = 0) (k75 : M.1[75]? = some (.inl 5))  : Fn l mdX6_addText [aR 1, aR 75] M (some (aI (0))) (sI (sR M 7 0 (some 75)) 1 10 1) := by
  refine Call.of [some (aR 1), some (aR 75)] rfl (Nat.le_of_ble_eq_true rfl) rfl ?_
  refine vc_aload_n dX6_addText_0 rfl ?_
  refine vc_getI dX6_addText_1 flX6_61 (s_1 hS) rfl ?_
  refine vc_topI 0 z10 ?_
  refine vc_iconst dX6_addText_4 rfl ?_
  refine vc_icmp_lt dX6_addText_5 (fun h1 => ?_) (fun h1 => by exfalso; omega)
  refine vc_aload_n dX6_addText_10 rfl ?_
  refine vc_getR dX6_addText_11 flX6_29 (s_1 hS) rfl (r_1_5 hS) ?_
  refine vc_aload_n dX6_addText_14 rfl ?_
  refine vc_getI dX6_addText_15 flX6_61 (s_1 hS) rfl ?_
  refine vc_topI 0 z10 ?_
  refine vc_aload_n dX6_addText_18 rfl ?_
  refine vc_aastore dX6_addText_19 (s_7 hS) (by omega) (by omega) (fun x hx2 => by cases hx2; exact k75) ?_
  refine vc_mem (sR M 7 0 (some 75)) rfl ?_
  refine vc_aload_n dX6_addText_20 rfl ?_
  refine vc_dup dX6_addText_21 rfl ?_
  refine vc_getI dX6_addText_22 flX6_61 (s_1 (St.T7 hS _ _)) rfl ?_
  refine vc_topI (mI M 1 10) rfl ?_
  refine vc_topI 0 z10 ?_
  refine vc_iconst dX6_addText_25 rfl ?_
  refine vc_iaddE dX6_addText_26 (by omega) (by omega) ?_
  refine vc_topI 1 rfl ?_
  refine vc_putI dX6_addText_27 (plX6_61 _ rfl) (s_1 (St.T7 hS _ _)) rfl ?_
  refine vc_aload_n dX6_addText_30 rfl ?_
  refine vc_getI dX6_addText_31 flX6_61 (s_1 (St.I (St.T7 hS _ _) _ _ _)) rfl ?_
  refine vc_topI (1) rfl ?_
  refine vc_iconst dX6_addText_34 rfl ?_
  refine vc_isubE dX6_addText_35 (by omega) (by omega) ?_
  refine vc_topI 0 rfl ?_
  refine vc_iret dX6_addText_36 rfl (Nat.le_of_ble_eq_true rfl) (Nat.le_of_ble_eq_true rfl) ?_
  exact ⟨rfl, rfl⟩

