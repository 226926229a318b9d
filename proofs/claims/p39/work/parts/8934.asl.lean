/-- the laws' code of a text, as the reader leaves it -/
def AsL (M N : Mem) (y : Nat) : Prop := ∃ z0 z1 : Nat, mR N y 0 = some z0 ∧ mR N y 1 = some z1 ∧ (∀ j : Nat, (j : Int) < mI M 22 12 → mI N z0 j = mI M 23 j) ∧ (∀ j : Nat, j < 10 → mI N z1 j = mI M 24 j) ∧ N.1[z0]? = some (.inr (0, (mI M 22 12).toNat))
theorem gRd_laws {M : Mem} {q : Nat} {c d : Int} (hB : Box M) (hq : M.1.length = q) (hc : mI M 22 12 = c) : AsL M (gRd M q c d) q := by
  have kc := b22_12 hB
  have h75 : 75 ≤ q := by
    have := (List.getElem?_eq_some_iff.mp (s_74 hB.1)).1
    omega
  have hl1 : (mkC M (.inl 5)).1.length = q + 1 := ln_mk hq
  have hl2 : (cpy2 (mkC M (.inl 5)) 23 300 (q + 1) c).1.length = q + 2 := ln_cp hl1
  have hl3 : (cpy2 (cpy2 (mkC M (.inl 5)) 23 300 (q + 1) c) 24 10 (q + 2) 10).1.length = q + 3 := ln_cp hl2
  refine ⟨q + 1, q + 2, ?_, ?_, fun j hj => ?_, fun j hj => ?_, ?_⟩
  · unfold gRd
    rw [mR_sI, mR_sR, if_neg (by omega), mR_sR, if_neg (by omega), mR_sR, if_pos ⟨rfl, rfl⟩]
  · unfold gRd
    rw [mR_sI, mR_sR, if_neg (by omega), mR_sR, if_pos ⟨rfl, rfl⟩]
  · unfold gRd
    rw [mI_sI, if_neg (by omega)]
    show mI (cpy2 _ 25 120 (q + 3) (5 * d)) (q + 1) j = _
    rw [cp_mI hl3 (by omega), cp_mI hl2 (by omega)]
    have e23 : mI (mkC M (.inl 5)) 23 j = mI M 23 j := by rw [mI_mkC, if_neg (by omega)]
    by_cases e : c = ((300 : Nat) : Int)
    · rw [e, cp_full hl1]
      exact e23
    · unfold cpy2 at *
      rw [if_neg e, mI_cpI, if_pos ⟨rfl, Nat.zero_le _, by omega⟩, mI_mkC, hl1, if_neg (by omega), show 0 + (j - 0) = j by omega]
      exact e23
  · unfold gRd
    rw [mI_sI, if_neg (by omega)]
    show mI (cpy2 _ 25 120 (q + 3) (5 * d)) (q + 2) j = _
    rw [cp_mI hl3 (by omega), show (10 : Int) = ((10 : Nat) : Int) from rfl, cp_full hl2, cp_mI hl1 (by omega), mI_mkC, if_neg (by omega)]
  · rw [hc]
    exact sh_cp (sh_cp (sh_cq hl1 (by omega)))
theorem sfX4_asReadL {l : Launch} {M : Mem} (hB : Box M) : Call l mdX4_asRead [aR 22] M (fun q N => ∃ r : Option Nat, q = some (.inr (.inr r)) ∧ BF fQ M N ∧ (∀ y, r = some y → TxO N y) ∧ ∃ y, r = some y ∧ AsR M N y ∧ AsL M N y) := by
  obtain ⟨q, hq⟩ : ∃ q, M.1.length = q := ⟨_, rfl⟩
  have h75 : 75 ≤ q := by
    have := (List.getElem?_eq_some_iff.mp (s_74 hB.1)).1
    omega
  have kc := b22_12 hB
  have kd := b22_13 hB
  obtain ⟨c, hc⟩ : ∃ c, mI M 22 12 = c := ⟨_, rfl⟩
  obtain ⟨d, hd⟩ : ∃ d, mI M 22 13 = d := ⟨_, rfl⟩
  rw [hc] at kc
  rw [hd] at kd
  have hok := gRd_ok hB hq kc.1 kc.2 kd.1 kd.2
  have hS1 := St.M hB.1 (.inl 5)
  have hl1 : (mkC M (.inl 5)).1.length = q + 1 := ln_mk hq
  have hS2 := St.P hS1 23 300 (q + 1) c
  have hl2 : (cpy2 (mkC M (.inl 5)) 23 300 (q + 1) c).1.length = q + 2 := ln_cp hl1
  have hS3 := St.P hS2 24 10 (q + 2) 10
  have hl3 : (cpy2 (cpy2 (mkC M (.inl 5)) 23 300 (q + 1) c) 24 10 (q + 2) 10).1.length = q + 3 := ln_cp hl2
  have hS4 := St.P hS3 25 120 (q + 3) (5 * d)
  have hk : (cpy2 (cpy2 (cpy2 (mkC M (.inl 5)) 23 300 (q + 1) c) 24 10 (q + 2) 10) 25 120 (q + 3) (5 * d)).1[q]? = some (.inl 5) := sh_cp (sh_cp (sh_cp (sh_nw hq)))
  have c1 : mI (mkC M (.inl 5)) 22 12 = c := by rw [mI_mkC, if_neg (by omega)]; exact hc
  have c0 : mI (mkC M (.inl 5)) 22 13 = d := by rw [mI_mkC, if_neg (by omega)]; exact hd
  have c2 : mI (cpy2 (cpy2 (mkC M (.inl 5)) 23 300 (q + 1) c) 24 10 (q + 2) 10) 22 13 = d := by rw [cp_mI hl2 (by omega), cp_mI hl1 (by omega)]; exact c0
  have c3 : mI (cpy2 (cpy2 (cpy2 (mkC M (.inl 5)) 23 300 (q + 1) c) 24 10 (q + 2) 10) 25 120 (q + 3) (5 * d)) 22 13 = d := by rw [cp_mI hl3 (by omega)]; exact c2
  refine Call.of [some (aR 22)] rfl (Nat.le_of_ble_eq_true rfl) rfl ?_
  refine vc_newOq q dX4_asRead_0 hq cl_5 clX4_75 iaX5 iiX5 (Nat.le_of_ble_eq_true rfl) (Nat.le_of_ble_eq_true rfl) ?_
  refine vc_dup dX4_asRead_3 rfl ?_
  refine vc_aload_n dX4_asRead_4 rfl ?_
  refine vc_getR dX4_asRead_5 flX4_15 (s_22 hS1) rfl (r_22_1 hS1) ?_
  refine vc_aload_n dX4_asRead_8 rfl ?_
  refine vc_getI dX4_asRead_9 flX4_50 (s_22 hS1) rfl ?_
  refine vc_topI c c1 ?_
  refine vc_callSA dX4_asRead_12 (qJ7_copyOf_59c91 23 300 (q + 1) c (s_23 hS1) (by decide) hl1 (by omega) (by omega)) rfl okJ7_copyOf_59c91 stJ7_copyOf_59c91 lkX4_77 rfl (Nat.le_of_ble_eq_true rfl) (Nat.le_of_ble_eq_true rfl) (Nat.le_of_ble_eq_true rfl) (Nat.le_of_ble_eq_true rfl) ?_
  refine vc_aload_n dX4_asRead_15 rfl ?_
  refine vc_getR dX4_asRead_16 flX4_18 (s_22 hS2) rfl (r_22_2 hS2) ?_
  refine vc_bipush dX4_asRead_19 rfl ?_
  refine vc_callSA dX4_asRead_21 (qJ7_copyOf_59c91 24 10 (q + 2) 10 (s_24 hS2) (by decide) hl2 (by decide) (by decide)) rfl okJ7_copyOf_59c91 stJ7_copyOf_59c91 lkX4_77 rfl (Nat.le_of_ble_eq_true rfl) (Nat.le_of_ble_eq_true rfl) (Nat.le_of_ble_eq_true rfl) (Nat.le_of_ble_eq_true rfl) ?_
  refine vc_aload_n dX4_asRead_24 rfl ?_
  refine vc_getR dX4_asRead_25 flX4_21 (s_22 hS3) rfl (r_22_3 hS3) ?_
  refine vc_iconst dX4_asRead_28 rfl ?_
  refine vc_aload_n dX4_asRead_29 rfl ?_
  refine vc_getI dX4_asRead_30 flX4_53 (s_22 hS3) rfl ?_
  refine vc_topI d c2 ?_
  refine vc_imulE dX4_asRead_33 (by omega) (by omega) ?_
  refine vc_callSA dX4_asRead_34 (qJ7_copyOf_59c91 25 120 (q + 3) (5 * d) (s_25 hS3) (by decide) hl3 (by omega) (by omega)) rfl okJ7_copyOf_59c91 stJ7_copyOf_59c91 lkX4_77 rfl (Nat.le_of_ble_eq_true rfl) (Nat.le_of_ble_eq_true rfl) (Nat.le_of_ble_eq_true rfl) (Nat.le_of_ble_eq_true rfl) ?_
  refine vc_aload_n dX4_asRead_37 rfl ?_
  refine vc_getI dX4_asRead_38 flX4_53 (s_22 hS4) rfl ?_
  refine vc_topI d c3 ?_
  refine vc_callIU dX4_asRead_41 (qX5_initG q (q + 1) (q + 2) (q + 3) d hk) rfl okX5_init inX5_init rfl rfl lkX4_81 rfl (Nat.le_of_ble_eq_true rfl) (Nat.le_of_ble_eq_true rfl) (Nat.le_of_ble_eq_true rfl) (Nat.le_of_ble_eq_true rfl) ?_
  refine vc_aret dX4_asRead_44 rfl (Nat.le_of_ble_eq_true rfl) (Nat.le_of_ble_eq_true rfl) ?_
  exact ⟨_, rfl, hok.1, fun y hy => by cases hy; exact hok.2, q, rfl, gRd_rows hB hq hd, gRd_laws hB hq hc⟩
