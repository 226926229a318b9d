/-! TEXTS of the class: what is made -/
section VCA
variable {l : Launch} {D : MD} {pc pc' : Nat} {L : List (Option AV)} {st : List AV} {M : Mem} {kc ks : Nat} {Q : Option AV → Mem → Prop} {D' : MD} {as : List AV} {v : AV} {M2 : Mem}
theorem vc_callSA {idx n : Nat} {stk : List AV} (hd : At (mB D) pc (.invokestatic idx) 3 pc') (hcall : Fn l D' as M (some v) M2) (hstk : as.reverse ++ st = stk) (hm : MOk D' n) (hv : MSt D') (hlk : LkM (mY D).cls idx D') (hlen : as.length = n) (hlev : mV D' < mV D) (hc1 : kc + mC D' ≤ mC D) (hc2 : ks + mS D' ≤ mS D) (hsum : (st.map catA).sum ≤ 8) (kk : VC l D pc' L (v :: st) M2 (kc + mC D') (ks + mS D') Q) : VC l D pc L stk M kc ks Q :=
  vc_callS hd hm hv hlk hlen hlev hc1 hc2 hsum _ hstk hcall (fun r M' h _ => by obtain ⟨rfl, rfl⟩ := h; exact kk)
end VCA
/-- what Arrays.copyOf makes -/
def cpy2 (M : Mem) (k n q : Nat) (e : Int) : Mem := if e = n then clC M k n else cpI (mkC M (.inr (0, e.toNat))) q k 0 0 e.toNat
theorem ln_cp {M : Mem} {k n q : Nat} {e : Int} (hl : M.1.length = q) : (cpy2 M k n q e).1.length = q + 1 := by
  unfold cpy2
  split
  · rw [clC_len, hl]
  · show (mkC M _).1.length = _
    rw [mkC_len, hl]
theorem cp_mI {M : Mem} {k n q a b : Nat} {e : Int} (hl : M.1.length = q) (ha : a ≠ q) : mI (cpy2 M k n q e) a b = mI M a b := by
  unfold cpy2
  split
  · rw [mI_clC, hl, if_neg ha]
  · rw [mI_cpI, if_neg (fun h => ha h.1), mI_mkC, hl, if_neg ha]
theorem sh_cl {M : Mem} {k n j : Nat} {x : Sh} (h : M.1[j]? = some x) : (clC M k n).1[j]? = some x := by
  show (M.1 ++ [_])[j]? = _
  rw [List.getElem?_append_left (List.getElem?_eq_some_iff.mp h).1]
  exact h
theorem cp_mJ {M : Mem} {k n q a b : Nat} {e : Int} (hl : M.1.length = q) (ha : a ≠ q) : mJ (cpy2 M k n q e) a b = mJ M a b := by
  unfold cpy2
  split
  · rw [mJ_clC, if_neg (by omega)]
  · exact (mJ_mkC M (.inr (0, e.toNat)) a b).trans (if_neg (by omega))
theorem sh_cp {M : Mem} {k n q j : Nat} {e : Int} {x : Sh} (h : M.1[j]? = some x) : (cpy2 M k n q e).1[j]? = some x := by
  unfold cpy2
  split
  · exact sh_cl h
  · exact sh_mk (M := M) h
theorem qJ7_copyOf_59c91 {l : Launch} {M : Mem} (k n q : Nat) (e : Int) (hs : M.1[k]? = some (.inr (0, n))) (hn : n ≤ 300) (hl : M.1.length = q) (h0 : 0 ≤ e) (h1 : e ≤ n) : Fn l mdJ7_copyOf_59c91 [aR k, aI e] M (some (aR q)) (cpy2 M k n q e) := by
  refine Call.of [some (aR k), some (aI e), none] (by decide +kernel) (Nat.le_of_ble_eq_true rfl) rfl ?_
  refine vc_iload_n dJ7_copyOf_59c91_0 rfl ?_
  refine vc_aload_n dJ7_copyOf_59c91_1 rfl ?_
  refine vc_alen dJ7_copyOf_59c91_2 hs (by simp; omega) ?_
  refine vc_icmp_ne dJ7_copyOf_59c91_3 (fun h => ?_) (fun h => ?_)
  · refine vc_iload_n dJ7_copyOf_59c91_14 rfl ?_
    refine vc_newI dJ7_copyOf_59c91_15 h0 (by omega) (Nat.le_of_ble_eq_true rfl) (by show 0 + e.toNat ≤ 300; omega) ?_
    rw [hl]
    refine vc_astore_n dJ7_copyOf_59c91_17 (by decide) rfl (show _ = [some (aR k), some (aI e), some (aR q)] from rfl) ?_
    refine vc_aload_n dJ7_copyOf_59c91_18 rfl ?_
    refine vc_iconst dJ7_copyOf_59c91_19 rfl ?_
    refine vc_aload_n dJ7_copyOf_59c91_20 rfl ?_
    refine vc_iconst dJ7_copyOf_59c91_21 rfl ?_
    refine vc_aload_n dJ7_copyOf_59c91_22 rfl ?_
    refine vc_alen dJ7_copyOf_59c91_23 (sh_mk hs) (by simp; omega) ?_
    refine vc_iload_n dJ7_copyOf_59c91_24 rfl ?_
    refine vc_mminI dJ7_copyOf_59c91_25 lkJ7_304 (Nat.le_of_ble_eq_true rfl) (by show 0 + e.toNat ≤ 300; omega) (Nat.le_of_ble_eq_true rfl) ?_
    refine vc_topI e (by unfold minZ; split <;> omega) ?_
    refine vc_acopy dJ7_copyOf_59c91_28 acJ7_150 (sh_mk hs) (sh_nw hl) (by decide) (by decide) h0 (by omega) (by omega) (Nat.le_of_ble_eq_true rfl) ?_
    refine vc_aload_n dJ7_copyOf_59c91_31 rfl ?_
    refine vc_arow dJ7_copyOf_59c91_32 rfl (Nat.le_of_ble_eq_true rfl) (by show 0 + e.toNat ≤ 300; omega) ?_
    exact ⟨rfl, by unfold cpy2; rw [if_neg h]; rfl⟩
  · refine vc_aload_n dJ7_copyOf_59c91_6 rfl ?_
    refine vc_clone dJ7_copyOf_59c91_7 cl_lk hs (Nat.le_of_ble_eq_true rfl) (by show 0 + n ≤ 300; omega) (Nat.le_of_ble_eq_true rfl) ?_
    rw [hl]
    refine vc_castI dJ7_copyOf_59c91_10 cl_ck (n := n) (by subst hl; show (M.1 ++ [_])[M.1.length]? = _; simp) ?_
    refine vc_arow dJ7_copyOf_59c91_13 rfl (Nat.le_of_ble_eq_true rfl) (by show 0 + n ≤ 300; omega) ?_
    exact ⟨rfl, by unfold cpy2; rw [if_pos h]⟩
theorem St.M {M : Mem} (h : St M) (sh : Sh) : St (mkC M sh) := by
  have h74 := (List.getElem?_eq_some_iff.mp (s_74 h)).1
  refine ⟨fun k x hx => sh_mk (h.1 k x hx), fun q hq => ?_⟩
  have hq1 : ∀ q ∈ ref0, q.1 ≤ 54 := by decide
  rw [mR_mkC, if_neg (by have := hq1 q hq; omega)]
  exact h.2 q hq
theorem St.L {M : Mem} (h : St M) (k n : Nat) : St (clC M k n) := by
  have h74 := (List.getElem?_eq_some_iff.mp (s_74 h)).1
  refine ⟨fun k x hx => sh_cl (h.1 k x hx), fun q hq => ?_⟩
  have hq1 : ∀ q ∈ ref0, q.1 ≤ 54 := by decide
  rw [mR_clC, if_neg (by have := hq1 q hq; omega)]
  exact h.2 q hq
theorem St.P {M : Mem} (h : St M) (k n q : Nat) (e : Int) : St (cpy2 M k n q e) := by
  unfold cpy2
  split
  · exact St.L h k n
  · exact St.C (St.M h _) _ _ _ _ _
theorem vc_aVO {l : Launch} {D : MD} {pc pc' : Nat} {L : List (Option AV)} {st : List AV} {M : Mem} {kc ks : Nat} {Q : Option AV → Mem → Prop} {D' : MD} {as : List AV} {P : Option Nat → Mem → Prop} {idx k ci n : Nat} {T : u_T} {N : Nat} {stk : List AV} (hd : At (mB D) pc (.invokevirtual idx) 3 pc') (hcall : Call l D' (aR k :: as) M (fun r M2 => ∃ x : Option Nat, r = some (.inr (.inr x)) ∧ P x M2)) (hstk : as.reverse ++ aR k :: st = stk) (hm : MOk D' n) (hv : MVi D') (hlk : LkM (mY D).cls idx D') (hs : M.1[k]? = some (.inl ci)) (hci : vwCl[ci]? = some ((mY D').cls, T, N)) (hlen : as.length = n) (hlev : mV D' < mV D) (hc1 : kc + mC D' ≤ mC D) (hc2 : ks + mS D' ≤ mS D) (hsum : (st.map catA).sum ≤ 8) (kk : ∀ x M2, P x M2 → VC l D pc' L (.inr (.inr x) :: st) M2 (kc + mC D') (ks + mS D') Q) : VC l D pc L stk M kc ks Q :=
  vc_callV hd hm hv hlk hs hci hlen hlev hc1 hc2 hsum _ hstk hcall (fun r M' h _ => by obtain ⟨x, rfl, hp⟩ := h; exact kk x M' hp)
theorem qX5_initG {l : Launch} {M : Mem} (k a b c : Nat) (d : Int) (hk : M.1[k]? = some (.inl 5)) : Fn l mdX5_init [aR k, aR a, aR b, aR c, aI d] M none (sI (sR (sR (sR M k 0 (some a)) k 1 (some b)) k 2 (some c)) k 3 d) := by
  refine Call.of [some (aR k), some (aR a), some (aR b), some (aR c), some (aI d)] rfl (Nat.le_of_ble_eq_true rfl) rfl ?_
  refine vc_aload_n dX5_init_0 rfl ?_
  refine vc_objInit dX5_init_1 oiX5_3 (Nat.le_of_ble_eq_true rfl) ?_
  refine vc_aload_n dX5_init_4 rfl ?_
  refine vc_aload_n dX5_init_5 rfl ?_
  refine vc_putR dX5_init_6 (plX5_9 _ rfl rfl) hk rfl ?_
  refine vc_aload_n dX5_init_9 rfl ?_
  refine vc_aload_n dX5_init_10 rfl ?_
  refine vc_putR dX5_init_11 (plX5_15 _ rfl rfl) hk rfl ?_
  refine vc_aload_n dX5_init_14 rfl ?_
  refine vc_aload_n dX5_init_15 rfl ?_
  refine vc_putR dX5_init_16 (plX5_18 _ rfl rfl) hk rfl ?_
  refine vc_aload_n dX5_init_19 rfl ?_
  refine vc_iload dX5_init_20 rfl ?_
  refine vc_putI dX5_init_22 (plX5_21 _ rfl rfl) hk rfl ?_
  refine vc_vret dX5_init_25 rfl (Nat.le_of_ble_eq_true rfl) (Nat.le_of_ble_eq_true rfl) ?_
  exact ⟨rfl, rfl⟩
theorem sh_cq {M : Mem} {k n q : Nat} {e : Int} (hl : M.1.length = q) (h0 : 0 ≤ e) : (cpy2 M k n q e).1[q]? = some (.inr (0, e.toNat)) := by
  subst hl
  unfold cpy2
  split
  · rename_i h
    show (M.1 ++ [_])[M.1.length]? = _
    rw [h]
    simp
  · show (mkC M _).1[M.1.length]? = _
    show (M.1 ++ [_])[M.1.length]? = _
    simp
theorem cp_mR {M : Mem} {k n q a b : Nat} {e : Int} (hl : M.1.length = q) (ha : a ≠ q) : mR (cpy2 M k n q e) a b = mR M a b := by
  unfold cpy2
  split
  · rw [mR_clC, hl, if_neg ha]
  · show mR (mkC M (.inr (0, e.toNat))) a b = _
    rw [mR_mkC, hl, if_neg ha]
theorem cp_full {M : Mem} {k n q b : Nat} (hl : M.1.length = q) : mI (cpy2 M k n q (n : Int)) q b = mI M k b := by
  unfold cpy2
  rw [if_pos rfl, mI_clC, hl, if_pos rfl]
theorem bxI_big {k j : Nat} {v : Int} (h : 75 ≤ k) : bxI k j v := by
  unfold bxI
  split <;> first | (exfalso; omega) | trivial
/-- the memory behind asRead -/
def gRd (M : Mem) (q : Nat) (c d : Int) : Mem := sI (sR (sR (sR (cpy2 (cpy2 (cpy2 (mkC M (.inl 5)) 23 300 (q + 1) c) 24 10 (q + 2) 10) 25 120 (q + 3) (5 * d)) q 0 (some (q + 1))) q 1 (some (q + 2))) q 2 (some (q + 3))) q 3 d
theorem gRd_ok {M : Mem} {q : Nat} {c d : Int} (hB : Box M) (hq : M.1.length = q) (c0 : 0 ≤ c) (c1 : c ≤ 300) (d0 : 0 ≤ d) (d1 : d ≤ 24) : BF fQ M (gRd M q c d) ∧ TxO (gRd M q c d) q := by
  obtain ⟨b1, b2, b3, b4⟩ := hB
  have h75 : 75 ≤ q := by
    have := (List.getElem?_eq_some_iff.mp (s_74 b1)).1
    omega
  have hl1 : (mkC M (.inl 5)).1.length = q + 1 := ln_mk hq
  have hl2 : (cpy2 (mkC M (.inl 5)) 23 300 (q + 1) c).1.length = q + 2 := ln_cp hl1
  have hl3 : (cpy2 (cpy2 (mkC M (.inl 5)) 23 300 (q + 1) c) 24 10 (q + 2) 10).1.length = q + 3 := ln_cp hl2
  have hl4 : (cpy2 (cpy2 (cpy2 (mkC M (.inl 5)) 23 300 (q + 1) c) 24 10 (q + 2) 10) 25 120 (q + 3) (5 * d)).1.length = q + 4 := ln_cp hl3
  have hmI : ∀ a j, a < q → mI (gRd M q c d) a j = mI M a j := fun a j ha => by
    unfold gRd
    rw [mI_sI, if_neg (by omega)]
    show mI (cpy2 _ 25 120 (q + 3) (5 * d)) a j = _
    rw [cp_mI hl3 (by omega), cp_mI hl2 (by omega), cp_mI hl1 (by omega), mI_mkC, if_neg (by omega)]
  have hmR : ∀ a j, a < q → mR (gRd M q c d) a j = mR M a j := fun a j ha => by
    unfold gRd
    rw [mR_sI, mR_sR, if_neg (by omega), mR_sR, if_neg (by omega), mR_sR, if_neg (by omega), cp_mR hl3 (by omega), cp_mR hl2 (by omega), cp_mR hl1 (by omega), mR_mkC, if_neg (by omega)]
  have hmJ : ∀ a j, a < q → mJ (gRd M q c d) a j = mJ M a j := fun a j ha => by
    unfold gRd
    rw [mJ_sI, mJ_sR, mJ_sR, mJ_sR, cp_mJ hl3 (by omega), cp_mJ hl2 (by omega), cp_mJ hl1 (by omega), mJ_mkC, if_neg (by omega)]
  have hsh : ∀ a x, M.1[a]? = some x → (gRd M q c d).1[a]? = some x := fun a x h => sh_cp (sh_cp (sh_cp (sh_mk h)))
  have dz : Dz M (gRd M q c d) := by
    refine ⟨by show _ ≤ (cpy2 _ 25 120 (q + 3) (5 * d)).1.length; omega, fun k h1 h2 => ⟨?_, fun j => hmI k j (by omega), fun j => hmR k j (by omega)⟩⟩
    cases e : M.1[k]? with
    | none => rw [List.getElem?_eq_none_iff] at e; omega
    | some x => exact hsh k x e
  have dy : DyF fQ M (gRd M q c d) := ⟨⟨dz, fun _ k j hk => hmR k j (by omega), fun _ j _ => hmI 57 j (by omega), fun k j hf => by have := fQ_lt hf; exact hmJ k j (by omega)⟩, fun k j hf => hmI k j (by have := fQ_lt hf; omega)⟩
  have e5 : mI (gRd M q c d) 55 = mI M 55 := funext fun j => hmI 55 j (by omega)
  have e6 : mI (gRd M q c d) 56 = mI M 56 := funext fun j => hmI 56 j (by omega)
  have e7 : mI (gRd M q c d) 57 = mI M 57 := funext fun j => hmI 57 j (by omega)
  refine ⟨⟨⟨⟨fun k x hx => hsh k x (b1.1 k x hx), fun z hz => ?_⟩, fun a j => ?_, b3.same dz (fun k j hk => hmR k j (by omega)), ?_⟩, dy⟩, h75, ?_, ?_, q + 1, q + 2, q + 3, c.toNat, (5 * d).toNat, ?_, ?_, ?_, by omega, by omega, by omega, ?_, ?_, ?_, by omega, by omega, fun j => ?_⟩
  · have hq1 : ∀ z ∈ ref0, z.1 ≤ 54 := by decide
    rw [hmR _ _ (by have := hq1 z hz; omega)]
    exact b1.2 z hz
  · by_cases ha : a < q
    · rw [hmI a j ha]; exact b2 a j
    · exact bxI_big (by omega)
  · unfold relR
    rw [e5, e6, e7]
    exact b4
  · exact sh_cp (sh_cp (sh_cp (sh_nw hq)))
  · unfold gRd
    rw [mI_same]
    exact ⟨d0, d1⟩
  · unfold gRd
    rw [mR_sI, mR_sR, if_neg (by omega), mR_sR, if_neg (by omega), mR_sR, if_pos ⟨rfl, rfl⟩]
  · unfold gRd
    rw [mR_sI, mR_sR, if_neg (by omega), mR_sR, if_pos ⟨rfl, rfl⟩]
  · unfold gRd
    rw [mR_sI, mR_sR, if_pos ⟨rfl, rfl⟩]
  · exact sh_cp (sh_cp (sh_cq hl1 c0))
  · exact sh_cp (sh_cq (e := 10) hl2 (by decide))
  · exact sh_cq hl3 (by omega)
  · have ev : mI (gRd M q c d) (q + 2) j = mI M 24 j := by
      unfold gRd
      rw [mI_sI, if_neg (by omega)]
      show mI (cpy2 _ 25 120 (q + 3) (5 * d)) (q + 2) j = _
      rw [cp_mI hl3 (by omega)]
      show mI (cpy2 _ 24 10 (q + 2) ((10 : Nat) : Int)) (q + 2) j = _
      rw [cp_full hl2, cp_mI hl1 (by omega), mI_mkC, if_neg (by omega)]
    rw [ev]
    exact b2 24 j
/-- a text is what was read -/
def AsR (M N : Mem) (y : Nat) : Prop := ∃ z : Nat, mR N y 2 = some z ∧ N.1[z]? = some (.inr (0, (5 * mI M 22 13).toNat)) ∧ mI N y 3 = mI M 22 13 ∧ ∀ j : Nat, (j : Int) < 5 * mI M 22 13 → mI N z j = mI M 25 j
theorem gRd_rows {M : Mem} {q : Nat} {c d : Int} (hB : Box M) (hq : M.1.length = q) (hd : mI M 22 13 = d) : AsR M (gRd M q c d) q := by
  have kd := b22_13 hB
  have h75 : 75 ≤ q := by
    have := (List.getElem?_eq_some_iff.mp (s_74 hB.1)).1
    omega
  have hl1 : (mkC M (.inl 5)).1.length = q + 1 := ln_mk hq
  have hl2 : (cpy2 (mkC M (.inl 5)) 23 300 (q + 1) c).1.length = q + 2 := ln_cp hl1
  have hl3 : (cpy2 (cpy2 (mkC M (.inl 5)) 23 300 (q + 1) c) 24 10 (q + 2) 10).1.length = q + 3 := ln_cp hl2
  refine ⟨q + 3, ?_, ?_, ?_, fun j hj => ?_⟩
  · unfold gRd
    rw [mR_sI, mR_sR, if_pos ⟨rfl, rfl⟩]
  · rw [hd]
    exact sh_cq hl3 (by omega)
  · unfold gRd
    rw [mI_same, hd]
  · unfold gRd
    rw [mI_sI, if_neg (by omega)]
    show mI (cpy2 _ 25 120 (q + 3) (5 * d)) (q + 3) j = _
    have e25 : mI (cpy2 (cpy2 (mkC M (.inl 5)) 23 300 (q + 1) c) 24 10 (q + 2) 10) 25 j = mI M 25 j := by
      rw [cp_mI hl2 (by omega), cp_mI hl1 (by omega), mI_mkC, if_neg (by omega)]
    by_cases e : 5 * d = ((120 : Nat) : Int)
    · rw [e, cp_full hl3]
      exact e25
    · unfold cpy2 at *
      rw [if_neg e, mI_cpI, if_pos ⟨rfl, Nat.zero_le _, by omega⟩, mI_mkC, hl3, if_neg (by omega), show 0 + (j - 0) = j by omega]
      exact e25
