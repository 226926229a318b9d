/-! SIGNS: the class (written by wip/laws3/c39.py) -/
set_option maxRecDepth 4000 in
theorem sfX3_nextOfSizeF {l : Launch} {M : Mem} (hB : Box M)  (s : Int) (p0 : 0 ≤ s) (p1 : s ≤ 65535) : Call l mdX3_nextOfSize [aI s] M (fun q N => ∃ r : Int, q = some (aI r) ∧ M = N ∧ r = gosJ s) := by
  have hB0 : BF fQ M M := BF.start hB
  refine Call.of [some (aI s), none, none, none] rfl (Nat.le_of_ble_eq_true rfl) rfl ?_
  refine vc_iload_n dX3_nextOfSize_0 rfl ?_
  refine vc_iload_n dX3_nextOfSize_1 rfl ?_
  refine vc_inegE dX3_nextOfSize_2 (by omega) (by omega) ?_
  refine vc_iand dX3_nextOfSize_3 ?_
  refine vc_nameI (fun x1 ex1 => ?_)
  refine vc_istore_n dX3_nextOfSize_4 (by decide) rfl (show _ = [some (aI s), some (aI x1), none, none] from rfl) ?_
  refine vc_iload_n dX3_nextOfSize_5 rfl ?_
  refine vc_iload_n dX3_nextOfSize_6 rfl ?_
  refine vc_iadd dX3_nextOfSize_7 ?_
  refine vc_nameI (fun x2 ex2 => ?_)
  refine vc_istore_n dX3_nextOfSize_8 (by decide) rfl (show _ = [some (aI s), some (aI x1), some (aI x2), none] from rfl) ?_
  refine vc_iload_n dX3_nextOfSize_9 rfl ?_
  refine vc_iload_n dX3_nextOfSize_10 rfl ?_
  refine vc_iconst dX3_nextOfSize_11 rfl ?_
  refine vc_ixor dX3_nextOfSize_12 ?_
  refine vc_iand dX3_nextOfSize_13 ?_
  refine vc_cSI dX3_nextOfSize_14 (sfJ6_bitCount_0f7a4F (M := M) hB0.1  (andI s (xorI x2 (-1))) ) rfl okJ6_bitCount_0f7a4 stJ6_bitCount_0f7a4 lkX3_44 rfl (Nat.le_of_ble_eq_true rfl) ⟨rfl, rfl⟩ (Nat.le_of_ble_eq_true rfl) (Nat.le_of_ble_eq_true rfl) (Nat.le_of_ble_eq_true rfl) ?_
  rintro x3 _ ⟨rfl, h4, h5, h6⟩
  refine vc_iconst dX3_nextOfSize_17 rfl ?_
  refine vc_isubE dX3_nextOfSize_18 (by omega) (by omega) ?_
  refine vc_nameI (fun x7 ex7 => ?_)
  refine vc_istore_n dX3_nextOfSize_19 (by decide) rfl (show _ = [some (aI s), some (aI x1), some (aI x2), some (aI x7)] from rfl) ?_
  refine vc_iload_n dX3_nextOfSize_20 rfl ?_
  refine vc_iconst dX3_nextOfSize_21 rfl ?_
  refine vc_iload_n dX3_nextOfSize_22 rfl ?_
  refine vc_ishl dX3_nextOfSize_23 ?_
  refine vc_iconst dX3_nextOfSize_24 rfl ?_
  refine vc_isub dX3_nextOfSize_25 ?_
  refine vc_ior dX3_nextOfSize_26 ?_
  refine vc_iret dX3_nextOfSize_27 rfl (Nat.le_of_ble_eq_true rfl) (Nat.le_of_ble_eq_true rfl) ?_
  exact ⟨_, rfl, rfl, by unfold gosJ; subst_vars; rfl⟩

set_option maxRecDepth 4000 in
theorem sfX3_towardsF {l : Launch} {M : Mem} (hB : Box M)  (c : Int) (k : Int) (p0 : 0 ≤ c) (p1 : c ≤ 15) : Call l mdX3_towards [aR 50, aI c, aI k] M (fun q N => ∃ r : Int, q = some (aI r) ∧ M = N ∧ (-1) ≤ r ∧ r ≤ 3 ∧ loP (sgT (cS M) (mI M 51) k c.toNat) r) := by
  have hB0 : BF fQ M M := BF.start hB
  refine Call.of [some (aR 50), some (aI c), some (aI k), none, none] rfl (Nat.le_of_ble_eq_true rfl) rfl ?_
  refine vc_ok (fun hoM hoS hoL => ?_)
  have hr2 : -2147483648 ≤ k ∧ k < 2147483648 := hoL 2 _ rfl
  refine vc_iconst dX3_towards_0 rfl ?_
  refine vc_istore_n dX3_towards_1 (by decide) rfl (show _ = [some (aR 50), some (aI c), some (aI k), some (aI 0), none] from rfl) ?_
  have lp2 : ∀ (n2 : Nat) (v3 : Int), (0 ≤ v3) → (v3 ≤ 4) → (∀ e : Nat, (e : Int) < v3 → ¬ sgT (cS M) (mI M 51) k c.toNat e) → (4 - v3).toNat < n2 → VC l mdX3_towards 2 [some (aR 50), some (aI c), some (aI k), some (aI v3), none] [] M 0 0 (fun q N => ∃ r : Int, q = some (aI r) ∧ M = N ∧ (-1) ≤ r ∧ r ≤ 3 ∧ loP (sgT (cS M) (mI M 51) k c.toNat) r) := by
    intro n2
    induction n2 with
    | zero => intro v3 g2_3a g2_3b g2i0 hm2; exact absurd hm2 (Nat.not_lt_zero _)
    | succ n2 ih2 =>
      intro v3 g2_3a g2_3b g2i0 hm2
      refine vc_iload_n dX3_towards_2 rfl ?_
      refine vc_iconst dX3_towards_3 rfl ?_
      refine vc_icmp_ge dX3_towards_4 (fun h1 => ?_) (fun h1 => ?_)
      · refine vc_iconst dX3_towards_43 rfl ?_
        refine vc_iret dX3_towards_44 rfl (Nat.le_of_ble_eq_true rfl) (Nat.le_of_ble_eq_true rfl) ?_
        exact ⟨_, rfl, rfl, by omega, by omega, Or.inl ⟨rfl, fun d hd => g2i0 d (by omega)⟩⟩
      · refine vc_aload_n dX3_towards_7 rfl ?_
        refine vc_getR dX3_towards_8 flX3_9 (s_50 hB0.1.1) rfl (r_50_0 hB0.1.1) ?_
        refine vc_iload_n dX3_towards_11 rfl ?_
        refine vc_iload_n dX3_towards_12 rfl ?_
        refine vc_cVI dX3_towards_13 (sfX6_aheadF (M := M) hB0.1  c v3 ) rfl okX6_ahead viX6_ahead lkX3_78 (s_1 hB0.1.1) cl_6 rfl (Nat.le_of_ble_eq_true rfl) ⟨rfl, rfl⟩ (Nat.le_of_ble_eq_true rfl) (Nat.le_of_ble_eq_true rfl) (Nat.le_of_ble_eq_true rfl) ?_
        rintro x2 _ ⟨rfl, h3, h4, h5⟩
        have hv3 : ((v3.toNat : Nat) : Int) = v3 := by omega
        have hc2 : ((c.toNat : Nat) : Int) = c := by omega
        have hah : x2 = ahS (cS M) (c.toNat : Nat) (v3.toNat : Nat) := by rw [hc2, hv3]; exact h5
        have hk : ∀ e : Nat, (e : Int) = v3 → sgT (cS M) (mI M 51) k c.toNat e → ¬ (x2 = -1) ∧ mI M 51 (x2).toNat = k := fun e q z => by rw [show e = v3.toNat by omega] at z; rw [hah]; exact z
        refine vc_istore dX3_towards_16 (by decide) rfl (show _ = [some (aR 50), some (aI c), some (aI k), some (aI v3), some (aI x2)] from rfl) ?_
        refine vc_iload dX3_towards_18 rfl ?_
        refine vc_iconst dX3_towards_20 rfl ?_
        refine vc_icmp_eq dX3_towards_21 (fun h6 => ?_) (fun h6 => ?_)
        · refine vc_iincE dX3_towards_37 rfl (by omega) (by omega) (by decide) rfl (show _ = [some (aR 50), some (aI c), some (aI k), some (aI (v3 + 1)), some (aI x2)] from rfl) ?_
          refine vc_goto dX3_towards_40 ?_
          refine vc_less [some (aR 50), some (aI c), some (aI k), some (aI (v3 + 1)), none] (lessL_keep (lessL_keep (lessL_keep (lessL_keep (lessL_drop (lessL_nil)))))) ?_
          exact ih2 (v3 + 1) (by omega) (by omega) (by first | (intro e he; exfalso; omega) | (intro e he hq; by_cases q : (e : Int) = v3; (have z := hk e q hq; have z2 := z.2; omega); (exact g2i0 e (by omega) hq))) (by omega)
        · refine vc_aload_n dX3_towards_24 rfl ?_
          refine vc_getR dX3_towards_25 flX3_15 (s_50 hB0.1.1) rfl (r_50_1 hB0.1.1) ?_
          refine vc_iload dX3_towards_28 rfl ?_
          refine vc_iaload dX3_towards_30 (s_51 hB0.1.1) (by omega) (by omega) ?_
          refine vc_iload_n dX3_towards_31 rfl ?_
          refine vc_icmp_ne dX3_towards_32 (fun h7 => ?_) (fun h7 => ?_)
          · refine vc_iincE dX3_towards_37 rfl (by omega) (by omega) (by decide) rfl (show _ = [some (aR 50), some (aI c), some (aI k), some (aI (v3 + 1)), some (aI x2)] from rfl) ?_
            refine vc_goto dX3_towards_40 ?_
            refine vc_less [some (aR 50), some (aI c), some (aI k), some (aI (v3 + 1)), none] (lessL_keep (lessL_keep (lessL_keep (lessL_keep (lessL_drop (lessL_nil)))))) ?_
            exact ih2 (v3 + 1) (by omega) (by omega) (by first | (intro e he; exfalso; omega) | (intro e he hq; by_cases q : (e : Int) = v3; (have z := hk e q hq; have z2 := z.2; omega); (exact g2i0 e (by omega) hq))) (by omega)
          · refine vc_iload_n dX3_towards_35 rfl ?_
            refine vc_iret dX3_towards_36 rfl (Nat.le_of_ble_eq_true rfl) (Nat.le_of_ble_eq_true rfl) ?_
            exact ⟨_, rfl, rfl, by omega, by omega, Or.inr ⟨v3.toNat, by omega, by omega, ⟨by rw [← hah]; omega, by rw [← hah]; omega⟩, fun e he => g2i0 e (by omega)⟩⟩
  exact lp2 _ 0 (by omega) (by omega) (by first | (intro e he; exfalso; omega) | (intro e he hq; by_cases q : (e : Int) = v3; (have z := hk e q hq; have z2 := z.2; omega); (exact g2i0 e (by omega) hq))) (Nat.lt_succ_self _)

set_option maxRecDepth 4000 in
theorem sfJ7_fill_53178_51F {l : Launch} {M : Mem} (hB : Box M)  (v : Int)  : Call l mdJ7_fill_53178 [aR 51, aI v] M (fun q N => q = none ∧ BF fQ M N ∧ (∀ j : Nat, j < 16 → mI N 51 j = v)) := by
  have hB0 : BF fQ M M := BF.start hB
  refine Call.of [some (aR 51), some (aI v), none, none] (by decide +kernel) (Nat.le_of_ble_eq_true rfl) rfl ?_
  refine vc_ok (fun hoM hoS hoL => ?_)
  have hr1 : -2147483648 ≤ v ∧ v < 2147483648 := hoL 1 _ rfl
  refine vc_iconst dJ7_fill_53178_0 rfl ?_
  refine vc_istore_n dJ7_fill_53178_1 (by decide) rfl (show _ = [some (aR 51), some (aI v), some (aI 0), none] from rfl) ?_
  refine vc_aload_n dJ7_fill_53178_2 rfl ?_
  refine vc_alen dJ7_fill_53178_3 (s_51 hB0.1.1) rfl ?_
  refine vc_topI 16 rfl ?_
  refine vc_istore_n dJ7_fill_53178_4 (by decide) rfl (show _ = [some (aR 51), some (aI v), some (aI 0), some (aI 16)] from rfl) ?_
  have lp5 : ∀ (n5 : Nat) (Mq5 : Mem) (v2 : Int), (BF fQ M Mq5) → (0 ≤ v2) → (v2 ≤ 16) → (∀ j : Nat, (j : Int) < v2 → mI Mq5 51 j = v) → (16 - v2).toNat < n5 → VC l mdJ7_fill_53178 5 [some (aR 51), some (aI v), some (aI v2), some (aI 16)] [] Mq5 0 0 (fun q N => q = none ∧ BF fQ M N ∧ (∀ j : Nat, j < 16 → mI N 51 j = v)) := by
    intro n5
    induction n5 with
    | zero => intro Mq5 v2 hQ5 g5_2a g5_2b g5i0 hm5; exact absurd hm5 (Nat.not_lt_zero _)
    | succ n5 ih5 =>
      intro Mq5 v2 hQ5 g5_2a g5_2b g5i0 hm5
      refine vc_iload_n dJ7_fill_53178_5 rfl ?_
      refine vc_iload_n dJ7_fill_53178_6 rfl ?_
      refine vc_icmp_ge dJ7_fill_53178_7 (fun h1 => ?_) (fun h1 => ?_)
      · refine vc_vret dJ7_fill_53178_20 rfl (Nat.le_of_ble_eq_true rfl) (Nat.le_of_ble_eq_true rfl) ?_
        exact ⟨rfl, hQ5, by intro j hj; exact g5i0 j (by omega)⟩
      · refine vc_aload_n dJ7_fill_53178_10 rfl ?_
        refine vc_iload_n dJ7_fill_53178_11 rfl ?_
        refine vc_iload_n dJ7_fill_53178_12 rfl ?_
        refine vc_iastore dJ7_fill_53178_13 (s_51 hQ5.1.1) (by omega) (by omega) ?_
        have hB2 : BF fQ M (sI Mq5 51 v2.toNat v) := BF.w51 hQ5 (fun _ => rfl) _
        refine vc_iincE dJ7_fill_53178_14 rfl (by omega) (by omega) (by decide) rfl (show _ = [some (aR 51), some (aI v), some (aI (v2 + 1)), some (aI 16)] from rfl) ?_
        refine vc_goto dJ7_fill_53178_17 ?_
        exact ih5 (sI Mq5 51 v2.toNat v) (v2 + 1) hB2 (by omega) (by omega) (by first | (intro j hj; exfalso; omega) | (intro j hj; by_cases q : (j : Int) = v2; (rw [mI_sI, if_pos ⟨rfl, by omega⟩]); (rw [mI_sI, if_neg (fun z => q (by omega))]; exact g5i0 j (by omega)))) (by omega)
  exact lp5 _ M 0 hB0 (by omega) (by omega) (by first | (intro j hj; exfalso; omega) | (intro j hj; by_cases q : (j : Int) = v2; (rw [mI_sI, if_pos ⟨rfl, by omega⟩]); (rw [mI_sI, if_neg (fun z => q (by omega))]; exact g5i0 j (by omega)))) (Nat.lt_succ_self _)

set_option maxRecDepth 4000 in
theorem sfX3_countStreetsF {l : Launch} {M : Mem} (hB : Box M)   (p0 : sgH (cS M)) : Call l mdX3_countStreets [aR 50] M (fun q N => q = none ∧ BF fQ M N ∧ (∀ u : Nat, (u : Int) < cS M 1 6 → mI N 51 u = dG (cS M) u) ∧ ShT (cS M) (mI N 52) ∧ LkS (cS M) (mI N 50 4)) := by
  have hB0 : BF fQ M M := BF.start hB
  refine Call.of [some (aR 50), none, none, none] rfl (Nat.le_of_ble_eq_true rfl) rfl ?_
  have hn0 := p0.2.1
  have hn16 := p0.2.2.1
  have hg0 := p0.2.2.2.1
  have hg1 := p0.2.2.2.2
  refine vc_aload_n dX3_countStreets_0 rfl ?_
  refine vc_getR dX3_countStreets_1 flX3_15 (s_50 hB0.1.1) rfl (r_50_1 hB0.1.1) ?_
  refine vc_iconst dX3_countStreets_4 rfl ?_
  refine vc_cSU dX3_countStreets_5 (sfJ7_fill_53178_51F (M := M) hB0.1  (-1) ) rfl okJ7_fill_53178 stJ7_fill_53178 lkX3_69 rfl (Nat.le_of_ble_eq_true rfl) ⟨rfl, rfl⟩ (Nat.le_of_ble_eq_true rfl) (Nat.le_of_ble_eq_true rfl) (Nat.le_of_ble_eq_true rfl) ?_
  rintro M1 ⟨hB2, h3⟩
  have hB4 : BF fQ M M1 := BF.go hB0 hB2
  have hfl := h3
  have eg7 : mI M1 1 7 = cS M 1 7 := hB4.2.2 1 7 rfl
  refine vc_aload_n dX3_countStreets_8 rfl ?_
  refine vc_getR dX3_countStreets_9 flX3_15 (s_50 hB4.1.1) rfl (r_50_1 hB4.1.1) ?_
  refine vc_aload_n dX3_countStreets_12 rfl ?_
  refine vc_getR dX3_countStreets_13 flX3_9 (s_50 hB4.1.1) rfl (r_50_0 hB4.1.1) ?_
  refine vc_getI dX3_countStreets_16 flX3_25 (s_1 hB4.1.1) rfl ?_
  have k5 : (-1) ≤ mI M1 1 7 ∧ mI M1 1 7 ≤ 15 := b1_7 (M := M1) hB4.1
  refine vc_iconst dX3_countStreets_19 rfl ?_
  refine vc_iastore dX3_countStreets_20 (s_51 hB4.1.1) (by omega) (by omega) ?_
  have hB6 : BF fQ M (sI M1 51 ((mI M1 1 7).toNat) 0) := BF.w51 hB4 (fun _ => rfl) _
  refine vc_aload_n dX3_countStreets_21 rfl ?_
  refine vc_iconst dX3_countStreets_22 rfl ?_
  refine vc_aload_n dX3_countStreets_23 rfl ?_
  refine vc_getR dX3_countStreets_24 flX3_9 (s_50 hB6.1.1) rfl (r_50_0 hB6.1.1) ?_
  refine vc_getI dX3_countStreets_27 flX3_25 (s_1 hB6.1.1) rfl ?_
  refine vc_topI (mI M1 1 7) rfl ?_
  have k7 : (-1) ≤ mI M1 1 7 ∧ mI M1 1 7 ≤ 15 := b1_7 (M := (sI M1 51 ((mI M1 1 7).toNat) 0)) hB6.1
  refine vc_ishl dX3_countStreets_30 ?_
  refine vc_putI dX3_countStreets_31 (plX3_41 _ rfl) (s_50 hB6.1.1) rfl ?_
  have hB8 : BF fQ M (sI (sI M1 51 ((mI M1 1 7).toNat) 0) 50 4 (shlI 1 (mI M1 1 7))) := BF.w50_4 hB6 rfl
  have hcz : CsS (cS M) (riG (cS M) 0) (mI (sI (sI M1 51 ((mI M1 1 7).toNat) 0) 50 4 (shlI 1 (mI M1 1 7))) 51) (mI (sI (sI M1 51 ((mI M1 1 7).toNat) 0) 50 4 (shlI 1 (mI M1 1 7))) 52) (mI (sI (sI M1 51 ((mI M1 1 7).toNat) 0) 50 4 (shlI 1 (mI M1 1 7))) 50 4) := by
    refine CsS.z p0 (fun j hj => ?_) ?_
    · rw [mI_sI, if_neg (by omega), mI_sI]
      by_cases q : (j : Int) = cS M 1 7
      · rw [if_pos q, if_pos ⟨rfl, by omega⟩]
      · rw [if_neg q, if_neg (fun z => q (by have z2 := z.2; omega))]; exact hfl j hj
    · rw [mI_same, eg7]
  refine vc_iconst dX3_countStreets_34 rfl ?_
  refine vc_istore_n dX3_countStreets_35 (by decide) rfl (show _ = [some (aR 50), some (aI 1), none, none] from rfl) ?_
  have lp36 : ∀ (n36 : Nat) (Mq36 : Mem) (v1 : Int), (BF fQ M Mq36) → (1 ≤ v1) → (v1 ≤ 16) → (CsS (cS M) (riG (cS M) (v1 - 1).toNat) (mI Mq36 51) (mI Mq36 52) (mI Mq36 50 4)) → (16 - v1).toNat < n36 → VC l mdX3_countStreets 36 [some (aR 50), some (aI v1), none, none] [] Mq36 0 0 (fun q N => q = none ∧ BF fQ M N ∧ (∀ u : Nat, (u : Int) < cS M 1 6 → mI N 51 u = dG (cS M) u) ∧ ShT (cS M) (mI N 52) ∧ LkS (cS M) (mI N 50 4)) := by
    intro n36
    induction n36 with
    | zero => intro Mq36 v1 hQ36 g36_1a g36_1b g36i0 hm36; exact absurd hm36 (Nat.not_lt_zero _)
    | succ n36 ih36 =>
      intro Mq36 v1 hQ36 g36_1a g36_1b g36i0 hm36
      refine vc_iload_n dX3_countStreets_36 rfl ?_
      refine vc_bipush dX3_countStreets_37 rfl ?_
      refine vc_icmp_ge dX3_countStreets_39 (fun h9 => ?_) (fun h9 => ?_)
      · refine vc_vret dX3_countStreets_133 rfl (Nat.le_of_ble_eq_true rfl) (Nat.le_of_ble_eq_true rfl) ?_
        have e15 : (v1 - 1).toNat = 15 := by omega
        rw [e15] at g36i0
        exact ⟨rfl, hQ36, g36i0.1, g36i0.2.1, g36i0.2.2⟩
      · refine vc_iconst dX3_countStreets_42 rfl ?_
        refine vc_istore_n dX3_countStreets_43 (by decide) rfl (show _ = [some (aR 50), some (aI v1), some (aI 0), none] from rfl) ?_
        have lp44 : ∀ (n44 : Nat) (Mq44 : Mem) (v2 : Int), (BF fQ M Mq44) → (0 ≤ v2) → (v2 ≤ 16) → (CsS (cS M) (miG (cS M) (v1 - 1).toNat v2.toNat) (mI Mq44 51) (mI Mq44 52) (mI Mq44 50 4)) → (16 - v2).toNat < n44 → VC l mdX3_countStreets 44 [some (aR 50), some (aI v1), some (aI v2), none] [] Mq44 0 0 (fun q N => q = none ∧ BF fQ M N ∧ (∀ u : Nat, (u : Int) < cS M 1 6 → mI N 51 u = dG (cS M) u) ∧ ShT (cS M) (mI N 52) ∧ LkS (cS M) (mI N 50 4)) := by
          intro n44
          induction n44 with
          | zero => intro Mq44 v2 hQ44 g44_2a g44_2b g44i0 hm44; exact absurd hm44 (Nat.not_lt_zero _)
          | succ n44 ih44 =>
            intro Mq44 v2 hQ44 g44_2a g44_2b g44i0 hm44
            have z16 : mI Mq44 1 6 = cS M 1 6 := hQ44.2.2 1 6 rfl
            refine vc_iload_n dX3_countStreets_44 rfl ?_
            refine vc_aload_n dX3_countStreets_45 rfl ?_
            refine vc_getR dX3_countStreets_46 flX3_9 (s_50 hQ44.1.1) rfl (r_50_0 hQ44.1.1) ?_
            refine vc_getI dX3_countStreets_49 flX3_60 (s_1 hQ44.1.1) rfl ?_
            have k10 : 0 ≤ mI Mq44 1 6 ∧ mI Mq44 1 6 ≤ 16 := b1_6 (M := Mq44) hQ44.1
            refine vc_icmp_ge dX3_countStreets_52 (fun h11 => ?_) (fun h11 => ?_)
            · refine vc_iincE dX3_countStreets_127 rfl (by omega) (by omega) (by decide) rfl (show _ = [some (aR 50), some (aI (v1 + 1)), some (aI v2), none] from rfl) ?_
              refine vc_goto dX3_countStreets_130 ?_
              refine vc_less [some (aR 50), some (aI (v1 + 1)), none, none] (lessL_keep (lessL_keep (lessL_drop (lessL_keep (lessL_nil))))) ?_
              exact ih36 Mq44 (v1 + 1) hQ44 (by omega) (by omega) (by first | (rw [show ((1 : Int) - 1).toNat = 0 by decide]; exact hcz) | exact g44i0.co (fun u hu => by rw [show (v1 + 1 - 1).toNat = (v1 - 1).toNat + 1 by omega]; exact (mi_a (by omega)).symm)) (by omega)
            · have hcq : cS Mq44 = cS M := cS_bf hB hQ44
              have hr1 : (((v1 - 1).toNat : Nat) : Int) = v1 - 1 := by omega
              have hv2 : ((v2.toNat : Nat) : Int) = v2 := by omega
              have hf2 : mI Mq44 51 v2.toNat = riG (cS M) (v1 - 1).toNat v2.toNat := by rw [g44i0.1 v2.toNat (by omega)]; exact mi_z (Nat.lt_irrefl _)
              have hnc : riG (cS M) ((v1 - 1).toNat + 1) v2.toNat = riG (cS M) (v1 - 1).toNat v2.toNat → ∀ u : Nat, miG (cS M) (v1 - 1).toNat (v2 + 1).toNat u = miG (cS M) (v1 - 1).toNat v2.toNat u := fun z u => by
                rw [show (v2 + 1).toNat = v2.toNat + 1 by omega]
                by_cases q : u = v2.toNat
                · rw [q, mi_a (Nat.lt_succ_self _), mi_z (Nat.lt_irrefl _)]; exact z
                · exact mi_o q
              refine vc_aload_n dX3_countStreets_55 rfl ?_
              refine vc_getR dX3_countStreets_56 flX3_15 (s_50 hQ44.1.1) rfl (r_50_1 hQ44.1.1) ?_
              refine vc_iload_n dX3_countStreets_59 rfl ?_
              refine vc_iaload dX3_countStreets_60 (s_51 hQ44.1.1) (by omega) (by omega) ?_
              refine vc_iconst dX3_countStreets_61 rfl ?_
              refine vc_icmp_ne dX3_countStreets_62 (fun h12 => ?_) (fun h12 => ?_)
              · refine vc_iconst dX3_countStreets_76 rfl ?_
                refine vc_istore_n dX3_countStreets_77 (by decide) rfl (show _ = [some (aR 50), some (aI v1), some (aI v2), some (aI (-1))] from rfl) ?_
                refine vc_iload_n dX3_countStreets_78 rfl ?_
                refine vc_iconst dX3_countStreets_79 rfl ?_
                refine vc_icmp_eq dX3_countStreets_80 (fun h13 => ?_) (fun h13 => by exfalso; omega)
                have hput : CsS (cS M) (miG (cS M) (v1 - 1).toNat (v2 + 1).toNat) (mI Mq44 51) (mI Mq44 52) (mI Mq44 50 4) := g44i0.co (fun u _ => hnc (by first | exact ri_up (by rw [← hf2]; omega) | (rcases htw with z | z; (rw [z.2, ← hf2]; omega); (have z2 := z.1; exfalso; omega))) u)
                refine vc_iincE dX3_countStreets_121 rfl (by omega) (by omega) (by decide) rfl (show _ = [some (aR 50), some (aI v1), some (aI (v2 + 1)), some (aI (-1))] from rfl) ?_
                refine vc_goto dX3_countStreets_124 ?_
                refine vc_less [some (aR 50), some (aI v1), some (aI (v2 + 1)), none] (lessL_keep (lessL_keep (lessL_keep (lessL_drop (lessL_nil))))) ?_
                exact ih44 Mq44 (v2 + 1) hQ44 (by omega) (by omega) (by first | exact hput | exact g36i0.co (fun u _ => mi_0)) (by omega)
              · refine vc_aload_n dX3_countStreets_65 rfl ?_
                refine vc_iload_n dX3_countStreets_66 rfl ?_
                refine vc_iload_n dX3_countStreets_67 rfl ?_
                refine vc_iconst dX3_countStreets_68 rfl ?_
                refine vc_isubE dX3_countStreets_69 (by omega) (by omega) ?_
                refine vc_cVI dX3_countStreets_70 (sfX3_towardsF (M := Mq44) hQ44.1  v2 (v1 - 1) (by omega) (by omega)) rfl okX3_towards viX3_towards lkX3_75 (s_50 hQ44.1.1) cl_3 rfl (Nat.le_of_ble_eq_true rfl) ⟨rfl, rfl⟩ (Nat.le_of_ble_eq_true rfl) (Nat.le_of_ble_eq_true rfl) (Nat.le_of_ble_eq_true rfl) ?_
                rintro x14 _ ⟨rfl, h15, h16, h17⟩
                have htw := cs_tow p0 (r := (v1 - 1).toNat) (c := v2.toNat) (x := x14) (by omega) g44i0.1 (by rw [hr1]; have z := h17; rw [hcq] at z; exact z) (by rw [← hf2]; omega)
                refine vc_goto dX3_countStreets_73 ?_
                refine vc_istore_n dX3_countStreets_77 (by decide) rfl (show _ = [some (aR 50), some (aI v1), some (aI v2), some (aI x14)] from rfl) ?_
                refine vc_iload_n dX3_countStreets_78 rfl ?_
                refine vc_iconst dX3_countStreets_79 rfl ?_
                refine vc_icmp_eq dX3_countStreets_80 (fun h18 => ?_) (fun h18 => ?_)
                · have hput : CsS (cS M) (miG (cS M) (v1 - 1).toNat (v2 + 1).toNat) (mI Mq44 51) (mI Mq44 52) (mI Mq44 50 4) := g44i0.co (fun u _ => hnc (by first | exact ri_up (by rw [← hf2]; omega) | (rcases htw with z | z; (rw [z.2, ← hf2]; omega); (have z2 := z.1; exfalso; omega))) u)
                  refine vc_iincE dX3_countStreets_121 rfl (by omega) (by omega) (by decide) rfl (show _ = [some (aR 50), some (aI v1), some (aI (v2 + 1)), some (aI x14)] from rfl) ?_
                  refine vc_goto dX3_countStreets_124 ?_
                  refine vc_less [some (aR 50), some (aI v1), some (aI (v2 + 1)), none] (lessL_keep (lessL_keep (lessL_keep (lessL_drop (lessL_nil))))) ?_
                  exact ih44 Mq44 (v2 + 1) hQ44 (by omega) (by omega) (by first | exact hput | exact g36i0.co (fun u _ => mi_0)) (by omega)
                · refine vc_aload_n dX3_countStreets_83 rfl ?_
                  refine vc_getR dX3_countStreets_84 flX3_15 (s_50 hQ44.1.1) rfl (r_50_1 hQ44.1.1) ?_
                  refine vc_iload_n dX3_countStreets_87 rfl ?_
                  refine vc_iload_n dX3_countStreets_88 rfl ?_
                  refine vc_iastore dX3_countStreets_89 (s_51 hQ44.1.1) (by omega) (by omega) ?_
                  have hB19 : BF fQ M (sI Mq44 51 v2.toNat v1) := BF.w51 hQ44 (fun _ => rfl) _
                  refine vc_aload_n dX3_countStreets_90 rfl ?_
                  refine vc_getR dX3_countStreets_91 flX3_19 (s_50 hB19.1.1) rfl (r_50_2 hB19.1.1) ?_
                  refine vc_iload_n dX3_countStreets_94 rfl ?_
                  refine vc_iconst dX3_countStreets_95 rfl ?_
                  refine vc_aload_n dX3_countStreets_96 rfl ?_
                  refine vc_getR dX3_countStreets_97 flX3_9 (s_50 hB19.1.1) rfl (r_50_0 hB19.1.1) ?_
                  refine vc_iload_n dX3_countStreets_100 rfl ?_
                  refine vc_iload_n dX3_countStreets_101 rfl ?_
                  refine vc_cVI dX3_countStreets_102 (sfX6_aheadF (M := (sI Mq44 51 v2.toNat v1)) hB19.1  v2 x14 ) rfl okX6_ahead viX6_ahead lkX3_78 (s_1 hB19.1.1) cl_6 rfl (Nat.le_of_ble_eq_true rfl) ⟨rfl, rfl⟩ (Nat.le_of_ble_eq_true rfl) (Nat.le_of_ble_eq_true rfl) (Nat.le_of_ble_eq_true rfl) ?_
                  rintro x20 _ ⟨rfl, h21, h22, h23⟩
                  have hcs2 : cS (sI Mq44 51 v2.toNat v1) = cS M := cS_bf hB hB19
                  have htw2 := htw.resolve_left (fun z => by have z2 := z.1; omega)
                  have hah : x20 = ahS (cS M) v2 x14 := by rw [h23, hcs2]
                  have hab : 0 ≤ x20 ∧ x20 ≤ 15 := by have a := htw2.2.2.2.2; rw [hv2, ← hah] at a; omega
                  refine vc_imulE dX3_countStreets_105 (by omega) (by omega) ?_
                  refine vc_iload_n dX3_countStreets_106 rfl ?_
                  refine vc_iaddE dX3_countStreets_107 (by omega) (by omega) ?_
                  refine vc_iastore dX3_countStreets_108 (s_52 hB19.1.1) (by omega) (by omega) ?_
                  have hB24 : BF fQ M (sI (sI Mq44 51 v2.toNat v1) 52 v2.toNat ((4 * x20) + x14)) := BF.w52 hB19 (fun _ => rfl) _ (by omega) (by omega)
                  refine vc_aload_n dX3_countStreets_109 rfl ?_
                  refine vc_dup dX3_countStreets_110 rfl ?_
                  refine vc_getI dX3_countStreets_111 flX3_41 (s_50 hB24.1.1) rfl ?_
                  refine vc_topI (mI Mq44 50 4) rfl ?_
                  refine vc_iconst dX3_countStreets_114 rfl ?_
                  refine vc_iload_n dX3_countStreets_115 rfl ?_
                  refine vc_ishl dX3_countStreets_116 ?_
                  refine vc_ior dX3_countStreets_117 ?_
                  refine vc_putI dX3_countStreets_118 (plX3_41 _ rfl) (s_50 hB24.1.1) rfl ?_
                  have hB25 : BF fQ M (sI (sI (sI Mq44 51 v2.toNat v1) 52 v2.toNat ((4 * x20) + x14)) 50 4 (orI (mI Mq44 50 4) (shlI 1 v2))) := BF.w50_4 hB24 rfl
                  have hput : CsS (cS M) (miG (cS M) (v1 - 1).toNat (v2 + 1).toNat) (mI (sI (sI (sI Mq44 51 v2.toNat v1) 52 v2.toNat ((4 * x20) + x14)) 50 4 (orI (mI Mq44 50 4) (shlI 1 v2))) 51) (mI (sI (sI (sI Mq44 51 v2.toNat v1) 52 v2.toNat ((4 * x20) + x14)) 50 4 (orI (mI Mq44 50 4) (shlI 1 v2))) 52) (mI (sI (sI (sI Mq44 51 v2.toNat v1) 52 v2.toNat ((4 * x20) + x14)) 50 4 (orI (mI Mq44 50 4) (shlI 1 v2))) 50 4) := by
                    rw [show (v2 + 1).toNat = v2.toNat + 1 by omega]
                    refine CsS.put p0 (v := v1) (c := v2.toNat) g44i0 (by omega) (by omega) (fun u hu => mi_o hu) ?_ (fun u hu => ?_) ?_ (fun u hu => ?_) ?_ ?_
                    · rw [mi_a (Nat.lt_succ_self _), htw2.2.2.1]; omega
                    · repeat rw [mI_sI, if_neg (by omega)]
                    · repeat rw [mI_sI, if_neg (by omega)]
                      rw [mI_same]
                    · repeat rw [mI_sI, if_neg (by omega)]
                    · rw [mI_sI, if_neg (by omega), mI_same]
                      rw [hah, ← htw2.2.2.2.1, hv2]
                    · rw [mI_same, hv2]
                      repeat rw [mI_sI, if_neg (by omega)]
                  refine vc_iincE dX3_countStreets_121 rfl (by omega) (by omega) (by decide) rfl (show _ = [some (aR 50), some (aI v1), some (aI (v2 + 1)), some (aI x14)] from rfl) ?_
                  refine vc_goto dX3_countStreets_124 ?_
                  refine vc_less [some (aR 50), some (aI v1), some (aI (v2 + 1)), none] (lessL_keep (lessL_keep (lessL_keep (lessL_drop (lessL_nil))))) ?_
                  exact ih44 (sI (sI (sI Mq44 51 v2.toNat v1) 52 v2.toNat ((4 * x20) + x14)) 50 4 (orI (mI Mq44 50 4) (shlI 1 v2))) (v2 + 1) hB25 (by omega) (by omega) (by first | exact hput | exact g36i0.co (fun u _ => mi_0)) (by omega)
        exact lp44 _ Mq36 0 hQ36 (by omega) (by omega) (by first | exact hput | exact g36i0.co (fun u _ => mi_0)) (Nat.lt_succ_self _)
  exact lp36 _ (sI (sI M1 51 ((mI M1 1 7).toNat) 0) 50 4 (shlI 1 (mI M1 1 7))) 1 hB8 (by omega) (by omega) (by first | (rw [show ((1 : Int) - 1).toNat = 0 by decide]; exact hcz) | exact g44i0.co (fun u hu => by rw [show (v1 + 1 - 1).toNat = (v1 - 1).toNat + 1 by omega]; exact (mi_a (by omega)).symm)) (Nat.lt_succ_self _)

set_option maxRecDepth 4000 in
theorem sfX3_setOnwardF {l : Launch} {M : Mem} (hB : Box M)   (p0 : sgH (cS M)) : Call l mdX3_setOnward [aR 50] M (fun q N => q = none ∧ BF fQ M N ∧ mI N 50 = mI M 50 ∧ mI N 51 = mI M 51 ∧ mI N 52 = mI M 52 ∧ OnT (cS M) (mI N 53)) := by
  have hB0 : BF fQ M M := BF.start hB
  refine Call.of [some (aR 50), none, none, none, none] rfl (Nat.le_of_ble_eq_true rfl) rfl ?_
  have hn0 := p0.2.1
  have hn16 := p0.2.2.1
  have hg0 := p0.2.2.2.1
  have hg1 := p0.2.2.2.2
  refine vc_iconst dX3_setOnward_0 rfl ?_
  refine vc_istore_n dX3_setOnward_1 (by decide) rfl (show _ = [some (aR 50), some (aI 0), none, none, none] from rfl) ?_
  have lp2 : ∀ (n2 : Nat) (Mq2 : Mem) (v1 : Int), (BF fQ M Mq2) → (mI Mq2 50 = mI M 50) → (mI Mq2 51 = mI M 51) → (mI Mq2 52 = mI M 52) → (0 ≤ v1) → (v1 ≤ 64) → (∀ x : Nat, (x : Int) < 4 * cS M 1 6 → (x : Int) < v1 → mI Mq2 53 x = ((goX (cS M) x (onS (cS M) ((x / 4 : Nat) : Int) ((x % 4 : Nat) : Int)) : Nat) : Int)) → (64 - v1).toNat < n2 → VC l mdX3_setOnward 2 [some (aR 50), some (aI v1), none, none, none] [] Mq2 0 0 (fun q N => q = none ∧ BF fQ M N ∧ mI N 50 = mI M 50 ∧ mI N 51 = mI M 51 ∧ mI N 52 = mI M 52 ∧ OnT (cS M) (mI N 53)) := by
    intro n2
    induction n2 with
    | zero => intro Mq2 v1 hQ2 kp2_50 kp2_51 kp2_52 g2_1a g2_1b g2i0 hm2; exact absurd hm2 (Nat.not_lt_zero _)
    | succ n2 ih2 =>
      intro Mq2 v1 hQ2 kp2_50 kp2_51 kp2_52 g2_1a g2_1b g2i0 hm2
      have z16 : mI Mq2 1 6 = cS M 1 6 := hQ2.2.2 1 6 rfl
      refine vc_iload_n dX3_setOnward_2 rfl ?_
      refine vc_iconst dX3_setOnward_3 rfl ?_
      refine vc_aload_n dX3_setOnward_4 rfl ?_
      refine vc_getR dX3_setOnward_5 flX3_9 (s_50 hQ2.1.1) rfl (r_50_0 hQ2.1.1) ?_
      refine vc_getI dX3_setOnward_8 flX3_60 (s_1 hQ2.1.1) rfl ?_
      have k1 : 0 ≤ mI Mq2 1 6 ∧ mI Mq2 1 6 ≤ 16 := b1_6 (M := Mq2) hQ2.1
      refine vc_imulE dX3_setOnward_11 (by omega) (by omega) ?_
      refine vc_icmp_ge dX3_setOnward_12 (fun h2 => ?_) (fun h2 => ?_)
      · refine vc_vret dX3_setOnward_123 rfl (Nat.le_of_ble_eq_true rfl) (Nat.le_of_ble_eq_true rfl) ?_
        exact ⟨rfl, hQ2, kp2_50, kp2_51, kp2_52, fun x hx => g2i0 x hx (by omega)⟩
      · refine vc_iload_n dX3_setOnward_15 rfl ?_
        refine vc_iconst dX3_setOnward_16 rfl ?_
        refine vc_ishrC dX3_setOnward_17 4 2 rfl (by decide) rfl ?_
        refine vc_nameI (fun x3 ex3 => ?_)
        refine vc_istore_n dX3_setOnward_18 (by decide) rfl (show _ = [some (aR 50), some (aI v1), some (aI x3), none, none] from rfl) ?_
        refine vc_iload_n dX3_setOnward_19 rfl ?_
        refine vc_iconst dX3_setOnward_20 rfl ?_
        refine vc_iandM dX3_setOnward_21 4 2 rfl (by decide) rfl ?_
        refine vc_nameI (fun x4 ex4 => ?_)
        refine vc_istore_n dX3_setOnward_22 (by decide) rfl (show _ = [some (aR 50), some (aI v1), some (aI x3), some (aI x4), none] from rfl) ?_
        refine vc_aload_n dX3_setOnward_23 rfl ?_
        refine vc_getR dX3_setOnward_24 flX3_9 (s_50 hQ2.1.1) rfl (r_50_0 hQ2.1.1) ?_
        refine vc_iload_n dX3_setOnward_27 rfl ?_
        refine vc_iload_n dX3_setOnward_28 rfl ?_
        refine vc_cVI dX3_setOnward_29 (sfX6_aheadF (M := Mq2) hQ2.1  x3 x4 ) rfl okX6_ahead viX6_ahead lkX3_78 (s_1 hQ2.1.1) cl_6 rfl (Nat.le_of_ble_eq_true rfl) ⟨rfl, rfl⟩ (Nat.le_of_ble_eq_true rfl) (Nat.le_of_ble_eq_true rfl) (Nat.le_of_ble_eq_true rfl) ?_
        rintro x5 _ ⟨rfl, h6, h7, h8⟩
        have hcq : cS Mq2 = cS M := cS_bf hB hQ2
        have hx4 : ((v1.toNat / 4 : Nat) : Int) = v1 / 4 := by omega
        have hx5 : ((v1.toNat % 4 : Nat) : Int) = v1 % 4 := by omega
        have ha9 : x5 = ahS (cS M) ((v1.toNat / 4 : Nat) : Int) x4 := by rw [h8, hcq, hx4, ex3]
        refine vc_iconst dX3_setOnward_32 rfl ?_
        refine vc_icmp_ne dX3_setOnward_33 (fun h10 => ?_) (fun h10 => ?_)
        · refine vc_aload_n dX3_setOnward_44 rfl ?_
          refine vc_getR dX3_setOnward_45 flX3_9 (s_50 hQ2.1.1) rfl (r_50_0 hQ2.1.1) ?_
          refine vc_iload_n dX3_setOnward_48 rfl ?_
          refine vc_iload_n dX3_setOnward_49 rfl ?_
          refine vc_cVI dX3_setOnward_50 (sfX6_aheadF (M := Mq2) hQ2.1  x3 x4 ) rfl okX6_ahead viX6_ahead lkX3_78 (s_1 hQ2.1.1) cl_6 rfl (Nat.le_of_ble_eq_true rfl) ⟨rfl, rfl⟩ (Nat.le_of_ble_eq_true rfl) (Nat.le_of_ble_eq_true rfl) (Nat.le_of_ble_eq_true rfl) ?_
          rintro x11 _ ⟨rfl, h12, h13, h14⟩
          have ha15 : x11 = ahS (cS M) ((v1.toNat / 4 : Nat) : Int) x4 := by rw [h14, hcq, hx4, ex3]
          refine vc_iconst dX3_setOnward_53 rfl ?_
          refine vc_icmp_ne dX3_setOnward_54 (fun h16 => ?_) (fun h16 => ?_)
          · refine vc_aload_n dX3_setOnward_65 rfl ?_
            refine vc_getR dX3_setOnward_66 flX3_9 (s_50 hQ2.1.1) rfl (r_50_0 hQ2.1.1) ?_
            refine vc_iload_n dX3_setOnward_69 rfl ?_
            refine vc_iload_n dX3_setOnward_70 rfl ?_
            refine vc_cVI dX3_setOnward_71 (sfX6_aheadF (M := Mq2) hQ2.1  x3 x4 ) rfl okX6_ahead viX6_ahead lkX3_78 (s_1 hQ2.1.1) cl_6 rfl (Nat.le_of_ble_eq_true rfl) ⟨rfl, rfl⟩ (Nat.le_of_ble_eq_true rfl) (Nat.le_of_ble_eq_true rfl) (Nat.le_of_ble_eq_true rfl) ?_
            rintro x17 _ ⟨rfl, h18, h19, h20⟩
            have ha21 : x17 = ahS (cS M) ((v1.toNat / 4 : Nat) : Int) x4 := by rw [h20, hcq, hx4, ex3]
            refine vc_iconst dX3_setOnward_74 rfl ?_
            refine vc_icmp_ne dX3_setOnward_75 (fun h22 => ?_) (fun h22 => ?_)
            · refine vc_aload_n dX3_setOnward_84 rfl ?_
              refine vc_getR dX3_setOnward_85 flX3_9 (s_50 hQ2.1.1) rfl (r_50_0 hQ2.1.1) ?_
              refine vc_iload_n dX3_setOnward_88 rfl ?_
              refine vc_iload_n dX3_setOnward_89 rfl ?_
              refine vc_cVI dX3_setOnward_90 (sfX6_aheadF (M := Mq2) hQ2.1  x3 x4 ) rfl okX6_ahead viX6_ahead lkX3_78 (s_1 hQ2.1.1) cl_6 rfl (Nat.le_of_ble_eq_true rfl) ⟨rfl, rfl⟩ (Nat.le_of_ble_eq_true rfl) (Nat.le_of_ble_eq_true rfl) (Nat.le_of_ble_eq_true rfl) ?_
              rintro x23 _ ⟨rfl, h24, h25, h26⟩
              have ha27 : x23 = ahS (cS M) ((v1.toNat / 4 : Nat) : Int) x4 := by rw [h26, hcq, hx4, ex3]
              refine vc_istore dX3_setOnward_93 (by decide) rfl (show _ = [some (aR 50), some (aI v1), some (aI x3), some (aI x4), some (aI x23)] from rfl) ?_
              refine vc_aload_n dX3_setOnward_95 rfl ?_
              refine vc_getR dX3_setOnward_96 flX3_22 (s_50 hQ2.1.1) rfl (r_50_3 hQ2.1.1) ?_
              refine vc_iload_n dX3_setOnward_99 rfl ?_
              refine vc_iload dX3_setOnward_100 rfl ?_
              refine vc_iconst dX3_setOnward_102 rfl ?_
              refine vc_icmp_ne dX3_setOnward_103 (fun h28 => ?_) (fun h28 => ?_)
              · refine vc_iconst dX3_setOnward_110 rfl ?_
                refine vc_iload dX3_setOnward_111 rfl ?_
                refine vc_imulE dX3_setOnward_113 (by omega) (by omega) ?_
                refine vc_iload_n dX3_setOnward_114 rfl ?_
                refine vc_iaddE dX3_setOnward_115 (by omega) (by omega) ?_
                have hon := on_cls (S := cS M) (c := ((v1.toNat / 4 : Nat) : Int)) (f := v1 % 4) (d1 := x4) (d2 := x4) (d3 := x4) (by omega) (by omega) (by rw [show v1 % 4 = x4 by omega, ← ha9]; first | exact Or.inl ⟨by omega, by omega⟩ | exact Or.inr ⟨by omega, by omega⟩) (by rw [← ha15]; first | exact Or.inl ⟨by omega, by omega⟩ | exact Or.inr ⟨by omega, by omega⟩) (by rw [← ha21]; first | exact Or.inl ⟨by omega, by omega⟩ | exact Or.inr ⟨by omega, by omega⟩)
                have hval := onx_v p0 (x := v1.toNat) (d := x4) (v := (4 * x23) + x4) (f := v1 % 4) (by omega) (by rw [← ha27] at hon ⊢; rcases hon with z | z; (exact Or.inl ⟨z.1, z.2, by have z1 := z.1; omega⟩); (exact Or.inr ⟨z.1, z.2, by omega, by have z1 := z.1; omega⟩))
                refine vc_iastore dX3_setOnward_116 (s_53 hQ2.1.1) (by omega) (by omega) ?_
                have kp29 : mI (sI Mq2 53 v1.toNat ((4 * x23) + x4)) 50 = mI M 50 := (kp_sI kp2_50 rfl)
                have kp30 : mI (sI Mq2 53 v1.toNat ((4 * x23) + x4)) 51 = mI M 51 := (kp_sI kp2_51 rfl)
                have kp31 : mI (sI Mq2 53 v1.toNat ((4 * x23) + x4)) 52 = mI M 52 := (kp_sI kp2_52 rfl)
                have hB32 : BF fQ M (sI Mq2 53 v1.toNat ((4 * x23) + x4)) := BF.w53 hQ2 (fun _ => rfl) _ (by omega) (by omega)
                refine vc_iincE dX3_setOnward_117 rfl (by omega) (by omega) (by decide) rfl (show _ = [some (aR 50), some (aI (v1 + 1)), some (aI x3), some (aI x4), some (aI x23)] from rfl) ?_
                refine vc_goto dX3_setOnward_120 ?_
                refine vc_less [some (aR 50), some (aI (v1 + 1)), none, none, none] (lessL_keep (lessL_keep (lessL_drop (lessL_drop (lessL_drop (lessL_nil)))))) ?_
                exact ih2 (sI Mq2 53 v1.toNat ((4 * x23) + x4)) (v1 + 1) hB32 kp29 kp30 kp31 (by omega) (by omega) (by first | (intro x hx hl; exfalso; omega) | (intro x hx hl; by_cases q : (x : Int) = v1; (rw [show x = v1.toNat by omega, mI_same]; exact hval); (rw [mI_sI, if_neg (fun z => q (by omega))]; exact g2i0 x hx (by omega)))) (by omega)
              · refine vc_iload_n dX3_setOnward_106 rfl ?_
                refine vc_goto dX3_setOnward_107 ?_
                have hon := on_cls (S := cS M) (c := ((v1.toNat / 4 : Nat) : Int)) (f := v1 % 4) (d1 := x4) (d2 := x4) (d3 := x4) (by omega) (by omega) (by rw [show v1 % 4 = x4 by omega, ← ha9]; first | exact Or.inl ⟨by omega, by omega⟩ | exact Or.inr ⟨by omega, by omega⟩) (by rw [← ha15]; first | exact Or.inl ⟨by omega, by omega⟩ | exact Or.inr ⟨by omega, by omega⟩) (by rw [← ha21]; first | exact Or.inl ⟨by omega, by omega⟩ | exact Or.inr ⟨by omega, by omega⟩)
                have hval := onx_v p0 (x := v1.toNat) (d := x4) (v := v1) (f := v1 % 4) (by omega) (by rw [← ha27] at hon ⊢; rcases hon with z | z; (exact Or.inl ⟨z.1, z.2, by have z1 := z.1; omega⟩); (exact Or.inr ⟨z.1, z.2, by omega, by have z1 := z.1; omega⟩))
                refine vc_iastore dX3_setOnward_116 (s_53 hQ2.1.1) (by omega) (by omega) ?_
                have kp33 : mI (sI Mq2 53 v1.toNat v1) 50 = mI M 50 := (kp_sI kp2_50 rfl)
                have kp34 : mI (sI Mq2 53 v1.toNat v1) 51 = mI M 51 := (kp_sI kp2_51 rfl)
                have kp35 : mI (sI Mq2 53 v1.toNat v1) 52 = mI M 52 := (kp_sI kp2_52 rfl)
                have hB36 : BF fQ M (sI Mq2 53 v1.toNat v1) := BF.w53 hQ2 (fun _ => rfl) _ (by omega) (by omega)
                refine vc_iincE dX3_setOnward_117 rfl (by omega) (by omega) (by decide) rfl (show _ = [some (aR 50), some (aI (v1 + 1)), some (aI x3), some (aI x4), some (aI x23)] from rfl) ?_
                refine vc_goto dX3_setOnward_120 ?_
                refine vc_less [some (aR 50), some (aI (v1 + 1)), none, none, none] (lessL_keep (lessL_keep (lessL_drop (lessL_drop (lessL_drop (lessL_nil)))))) ?_
                exact ih2 (sI Mq2 53 v1.toNat v1) (v1 + 1) hB36 kp33 kp34 kp35 (by omega) (by omega) (by first | (intro x hx hl; exfalso; omega) | (intro x hx hl; by_cases q : (x : Int) = v1; (rw [show x = v1.toNat by omega, mI_same]; exact hval); (rw [mI_sI, if_neg (fun z => q (by omega))]; exact g2i0 x hx (by omega)))) (by omega)
            · refine vc_iload_n dX3_setOnward_78 rfl ?_
              refine vc_iconst dX3_setOnward_79 rfl ?_
              refine vc_iadd dX3_setOnward_80 ?_
              refine vc_iconst dX3_setOnward_81 rfl ?_
              refine vc_iandW dX3_setOnward_82 4 2 rfl (by decide) rfl ?_
              refine vc_nameI (fun x37 ex37 => ?_)
              refine vc_istore_n dX3_setOnward_83 (by decide) rfl (show _ = [some (aR 50), some (aI v1), some (aI x3), some (aI x37), none] from rfl) ?_
              refine vc_aload_n dX3_setOnward_84 rfl ?_
              refine vc_getR dX3_setOnward_85 flX3_9 (s_50 hQ2.1.1) rfl (r_50_0 hQ2.1.1) ?_
              refine vc_iload_n dX3_setOnward_88 rfl ?_
              refine vc_iload_n dX3_setOnward_89 rfl ?_
              refine vc_cVI dX3_setOnward_90 (sfX6_aheadF (M := Mq2) hQ2.1  x3 x37 ) rfl okX6_ahead viX6_ahead lkX3_78 (s_1 hQ2.1.1) cl_6 rfl (Nat.le_of_ble_eq_true rfl) ⟨rfl, rfl⟩ (Nat.le_of_ble_eq_true rfl) (Nat.le_of_ble_eq_true rfl) (Nat.le_of_ble_eq_true rfl) ?_
              rintro x38 _ ⟨rfl, h39, h40, h41⟩
              have ha42 : x38 = ahS (cS M) ((v1.toNat / 4 : Nat) : Int) x37 := by rw [h41, hcq, hx4, ex3]
              refine vc_istore dX3_setOnward_93 (by decide) rfl (show _ = [some (aR 50), some (aI v1), some (aI x3), some (aI x37), some (aI x38)] from rfl) ?_
              refine vc_aload_n dX3_setOnward_95 rfl ?_
              refine vc_getR dX3_setOnward_96 flX3_22 (s_50 hQ2.1.1) rfl (r_50_3 hQ2.1.1) ?_
              refine vc_iload_n dX3_setOnward_99 rfl ?_
              refine vc_iload dX3_setOnward_100 rfl ?_
              refine vc_iconst dX3_setOnward_102 rfl ?_
              refine vc_icmp_ne dX3_setOnward_103 (fun h43 => ?_) (fun h43 => ?_)
              · refine vc_iconst dX3_setOnward_110 rfl ?_
                refine vc_iload dX3_setOnward_111 rfl ?_
                refine vc_imulE dX3_setOnward_113 (by omega) (by omega) ?_
                refine vc_iload_n dX3_setOnward_114 rfl ?_
                refine vc_iaddE dX3_setOnward_115 (by omega) (by omega) ?_
                have hon := on_cls (S := cS M) (c := ((v1.toNat / 4 : Nat) : Int)) (f := v1 % 4) (d1 := x4) (d2 := x4) (d3 := x37) (by omega) (by omega) (by rw [show v1 % 4 = x4 by omega, ← ha9]; first | exact Or.inl ⟨by omega, by omega⟩ | exact Or.inr ⟨by omega, by omega⟩) (by rw [← ha15]; first | exact Or.inl ⟨by omega, by omega⟩ | exact Or.inr ⟨by omega, by omega⟩) (by rw [← ha21]; first | exact Or.inl ⟨by omega, by omega⟩ | exact Or.inr ⟨by omega, by omega⟩)
                have hval := onx_v p0 (x := v1.toNat) (d := x37) (v := (4 * x38) + x37) (f := v1 % 4) (by omega) (by rw [← ha42] at hon ⊢; rcases hon with z | z; (exact Or.inl ⟨z.1, z.2, by have z1 := z.1; omega⟩); (exact Or.inr ⟨z.1, z.2, by omega, by have z1 := z.1; omega⟩))
                refine vc_iastore dX3_setOnward_116 (s_53 hQ2.1.1) (by omega) (by omega) ?_
                have kp44 : mI (sI Mq2 53 v1.toNat ((4 * x38) + x37)) 50 = mI M 50 := (kp_sI kp2_50 rfl)
                have kp45 : mI (sI Mq2 53 v1.toNat ((4 * x38) + x37)) 51 = mI M 51 := (kp_sI kp2_51 rfl)
                have kp46 : mI (sI Mq2 53 v1.toNat ((4 * x38) + x37)) 52 = mI M 52 := (kp_sI kp2_52 rfl)
                have hB47 : BF fQ M (sI Mq2 53 v1.toNat ((4 * x38) + x37)) := BF.w53 hQ2 (fun _ => rfl) _ (by omega) (by omega)
                refine vc_iincE dX3_setOnward_117 rfl (by omega) (by omega) (by decide) rfl (show _ = [some (aR 50), some (aI (v1 + 1)), some (aI x3), some (aI x37), some (aI x38)] from rfl) ?_
                refine vc_goto dX3_setOnward_120 ?_
                refine vc_less [some (aR 50), some (aI (v1 + 1)), none, none, none] (lessL_keep (lessL_keep (lessL_drop (lessL_drop (lessL_drop (lessL_nil)))))) ?_
                exact ih2 (sI Mq2 53 v1.toNat ((4 * x38) + x37)) (v1 + 1) hB47 kp44 kp45 kp46 (by omega) (by omega) (by first | (intro x hx hl; exfalso; omega) | (intro x hx hl; by_cases q : (x : Int) = v1; (rw [show x = v1.toNat by omega, mI_same]; exact hval); (rw [mI_sI, if_neg (fun z => q (by omega))]; exact g2i0 x hx (by omega)))) (by omega)
              · refine vc_iload_n dX3_setOnward_106 rfl ?_
                refine vc_goto dX3_setOnward_107 ?_
                have hon := on_cls (S := cS M) (c := ((v1.toNat / 4 : Nat) : Int)) (f := v1 % 4) (d1 := x4) (d2 := x4) (d3 := x37) (by omega) (by omega) (by rw [show v1 % 4 = x4 by omega, ← ha9]; first | exact Or.inl ⟨by omega, by omega⟩ | exact Or.inr ⟨by omega, by omega⟩) (by rw [← ha15]; first | exact Or.inl ⟨by omega, by omega⟩ | exact Or.inr ⟨by omega, by omega⟩) (by rw [← ha21]; first | exact Or.inl ⟨by omega, by omega⟩ | exact Or.inr ⟨by omega, by omega⟩)
                have hval := onx_v p0 (x := v1.toNat) (d := x37) (v := v1) (f := v1 % 4) (by omega) (by rw [← ha42] at hon ⊢; rcases hon with z | z; (exact Or.inl ⟨z.1, z.2, by have z1 := z.1; omega⟩); (exact Or.inr ⟨z.1, z.2, by omega, by have z1 := z.1; omega⟩))
                refine vc_iastore dX3_setOnward_116 (s_53 hQ2.1.1) (by omega) (by omega) ?_
                have kp48 : mI (sI Mq2 53 v1.toNat v1) 50 = mI M 50 := (kp_sI kp2_50 rfl)
                have kp49 : mI (sI Mq2 53 v1.toNat v1) 51 = mI M 51 := (kp_sI kp2_51 rfl)
                have kp50 : mI (sI Mq2 53 v1.toNat v1) 52 = mI M 52 := (kp_sI kp2_52 rfl)
                have hB51 : BF fQ M (sI Mq2 53 v1.toNat v1) := BF.w53 hQ2 (fun _ => rfl) _ (by omega) (by omega)
                refine vc_iincE dX3_setOnward_117 rfl (by omega) (by omega) (by decide) rfl (show _ = [some (aR 50), some (aI (v1 + 1)), some (aI x3), some (aI x37), some (aI x38)] from rfl) ?_
                refine vc_goto dX3_setOnward_120 ?_
                refine vc_less [some (aR 50), some (aI (v1 + 1)), none, none, none] (lessL_keep (lessL_keep (lessL_drop (lessL_drop (lessL_drop (lessL_nil)))))) ?_
                exact ih2 (sI Mq2 53 v1.toNat v1) (v1 + 1) hB51 kp48 kp49 kp50 (by omega) (by omega) (by first | (intro x hx hl; exfalso; omega) | (intro x hx hl; by_cases q : (x : Int) = v1; (rw [show x = v1.toNat by omega, mI_same]; exact hval); (rw [mI_sI, if_neg (fun z => q (by omega))]; exact g2i0 x hx (by omega)))) (by omega)
          · refine vc_iload_n dX3_setOnward_57 rfl ?_
            refine vc_iconst dX3_setOnward_58 rfl ?_
            refine vc_iandM dX3_setOnward_59 4 2 rfl (by decide) rfl ?_
            refine vc_iconst dX3_setOnward_60 rfl ?_
            refine vc_cSI dX3_setOnward_61 (sfX1_sideOfF (M := Mq2) hQ2.1  (v1 % 4) 1 ) rfl okX1_sideOf stX1_sideOf lkX3_81 rfl (Nat.le_of_ble_eq_true rfl) ⟨rfl, rfl⟩ (Nat.le_of_ble_eq_true rfl) (Nat.le_of_ble_eq_true rfl) (Nat.le_of_ble_eq_true rfl) ?_
            rintro x52 _ ⟨rfl, h53⟩
            have hs1 : x52 = (v1 % 4 + 3) % 4 := by rw [h53]; unfold sdS; rw [if_pos rfl]
            have hsb1 : 0 ≤ x52 ∧ x52 ≤ 3 := by omega
            refine vc_istore_n dX3_setOnward_64 (by decide) rfl (show _ = [some (aR 50), some (aI v1), some (aI x3), some (aI x52), none] from rfl) ?_
            refine vc_aload_n dX3_setOnward_65 rfl ?_
            refine vc_getR dX3_setOnward_66 flX3_9 (s_50 hQ2.1.1) rfl (r_50_0 hQ2.1.1) ?_
            refine vc_iload_n dX3_setOnward_69 rfl ?_
            refine vc_iload_n dX3_setOnward_70 rfl ?_
            refine vc_cVI dX3_setOnward_71 (sfX6_aheadF (M := Mq2) hQ2.1  x3 x52 ) rfl okX6_ahead viX6_ahead lkX3_78 (s_1 hQ2.1.1) cl_6 rfl (Nat.le_of_ble_eq_true rfl) ⟨rfl, rfl⟩ (Nat.le_of_ble_eq_true rfl) (Nat.le_of_ble_eq_true rfl) (Nat.le_of_ble_eq_true rfl) ?_
            rintro x54 _ ⟨rfl, h55, h56, h57⟩
            have ha58 : x54 = ahS (cS M) ((v1.toNat / 4 : Nat) : Int) x52 := by rw [h57, hcq, hx4, ex3]
            refine vc_iconst dX3_setOnward_74 rfl ?_
            refine vc_icmp_ne dX3_setOnward_75 (fun h59 => ?_) (fun h59 => ?_)
            · refine vc_aload_n dX3_setOnward_84 rfl ?_
              refine vc_getR dX3_setOnward_85 flX3_9 (s_50 hQ2.1.1) rfl (r_50_0 hQ2.1.1) ?_
              refine vc_iload_n dX3_setOnward_88 rfl ?_
              refine vc_iload_n dX3_setOnward_89 rfl ?_
              refine vc_cVI dX3_setOnward_90 (sfX6_aheadF (M := Mq2) hQ2.1  x3 x52 ) rfl okX6_ahead viX6_ahead lkX3_78 (s_1 hQ2.1.1) cl_6 rfl (Nat.le_of_ble_eq_true rfl) ⟨rfl, rfl⟩ (Nat.le_of_ble_eq_true rfl) (Nat.le_of_ble_eq_true rfl) (Nat.le_of_ble_eq_true rfl) ?_
              rintro x60 _ ⟨rfl, h61, h62, h63⟩
              have ha64 : x60 = ahS (cS M) ((v1.toNat / 4 : Nat) : Int) x52 := by rw [h63, hcq, hx4, ex3]
              refine vc_istore dX3_setOnward_93 (by decide) rfl (show _ = [some (aR 50), some (aI v1), some (aI x3), some (aI x52), some (aI x60)] from rfl) ?_
              refine vc_aload_n dX3_setOnward_95 rfl ?_
              refine vc_getR dX3_setOnward_96 flX3_22 (s_50 hQ2.1.1) rfl (r_50_3 hQ2.1.1) ?_
              refine vc_iload_n dX3_setOnward_99 rfl ?_
              refine vc_iload dX3_setOnward_100 rfl ?_
              refine vc_iconst dX3_setOnward_102 rfl ?_
              refine vc_icmp_ne dX3_setOnward_103 (fun h65 => ?_) (fun h65 => ?_)
              · refine vc_iconst dX3_setOnward_110 rfl ?_
                refine vc_iload dX3_setOnward_111 rfl ?_
                refine vc_imulE dX3_setOnward_113 (by omega) (by omega) ?_
                refine vc_iload_n dX3_setOnward_114 rfl ?_
                refine vc_iaddE dX3_setOnward_115 (by omega) (by omega) ?_
                have hon := on_cls (S := cS M) (c := ((v1.toNat / 4 : Nat) : Int)) (f := v1 % 4) (d1 := x4) (d2 := x52) (d3 := x52) (by omega) (by omega) (by rw [show v1 % 4 = x4 by omega, ← ha9]; first | exact Or.inl ⟨by omega, by omega⟩ | exact Or.inr ⟨by omega, by omega⟩) (by rw [← ha15]; first | exact Or.inl ⟨by omega, by omega⟩ | exact Or.inr ⟨by omega, by omega⟩) (by rw [← ha58]; first | exact Or.inl ⟨by omega, by omega⟩ | exact Or.inr ⟨by omega, by omega⟩)
                have hval := onx_v p0 (x := v1.toNat) (d := x52) (v := (4 * x60) + x52) (f := v1 % 4) (by omega) (by rw [← ha64] at hon ⊢; rcases hon with z | z; (exact Or.inl ⟨z.1, z.2, by have z1 := z.1; omega⟩); (exact Or.inr ⟨z.1, z.2, by omega, by have z1 := z.1; omega⟩))
                refine vc_iastore dX3_setOnward_116 (s_53 hQ2.1.1) (by omega) (by omega) ?_
                have kp66 : mI (sI Mq2 53 v1.toNat ((4 * x60) + x52)) 50 = mI M 50 := (kp_sI kp2_50 rfl)
                have kp67 : mI (sI Mq2 53 v1.toNat ((4 * x60) + x52)) 51 = mI M 51 := (kp_sI kp2_51 rfl)
                have kp68 : mI (sI Mq2 53 v1.toNat ((4 * x60) + x52)) 52 = mI M 52 := (kp_sI kp2_52 rfl)
                have hB69 : BF fQ M (sI Mq2 53 v1.toNat ((4 * x60) + x52)) := BF.w53 hQ2 (fun _ => rfl) _ (by omega) (by omega)
                refine vc_iincE dX3_setOnward_117 rfl (by omega) (by omega) (by decide) rfl (show _ = [some (aR 50), some (aI (v1 + 1)), some (aI x3), some (aI x52), some (aI x60)] from rfl) ?_
                refine vc_goto dX3_setOnward_120 ?_
                refine vc_less [some (aR 50), some (aI (v1 + 1)), none, none, none] (lessL_keep (lessL_keep (lessL_drop (lessL_drop (lessL_drop (lessL_nil)))))) ?_
                exact ih2 (sI Mq2 53 v1.toNat ((4 * x60) + x52)) (v1 + 1) hB69 kp66 kp67 kp68 (by omega) (by omega) (by first | (intro x hx hl; exfalso; omega) | (intro x hx hl; by_cases q : (x : Int) = v1; (rw [show x = v1.toNat by omega, mI_same]; exact hval); (rw [mI_sI, if_neg (fun z => q (by omega))]; exact g2i0 x hx (by omega)))) (by omega)
              · refine vc_iload_n dX3_setOnward_106 rfl ?_
                refine vc_goto dX3_setOnward_107 ?_
                have hon := on_cls (S := cS M) (c := ((v1.toNat / 4 : Nat) : Int)) (f := v1 % 4) (d1 := x4) (d2 := x52) (d3 := x52) (by omega) (by omega) (by rw [show v1 % 4 = x4 by omega, ← ha9]; first | exact Or.inl ⟨by omega, by omega⟩ | exact Or.inr ⟨by omega, by omega⟩) (by rw [← ha15]; first | exact Or.inl ⟨by omega, by omega⟩ | exact Or.inr ⟨by omega, by omega⟩) (by rw [← ha58]; first | exact Or.inl ⟨by omega, by omega⟩ | exact Or.inr ⟨by omega, by omega⟩)
                have hval := onx_v p0 (x := v1.toNat) (d := x52) (v := v1) (f := v1 % 4) (by omega) (by rw [← ha64] at hon ⊢; rcases hon with z | z; (exact Or.inl ⟨z.1, z.2, by have z1 := z.1; omega⟩); (exact Or.inr ⟨z.1, z.2, by omega, by have z1 := z.1; omega⟩))
                refine vc_iastore dX3_setOnward_116 (s_53 hQ2.1.1) (by omega) (by omega) ?_
                have kp70 : mI (sI Mq2 53 v1.toNat v1) 50 = mI M 50 := (kp_sI kp2_50 rfl)
                have kp71 : mI (sI Mq2 53 v1.toNat v1) 51 = mI M 51 := (kp_sI kp2_51 rfl)
                have kp72 : mI (sI Mq2 53 v1.toNat v1) 52 = mI M 52 := (kp_sI kp2_52 rfl)
                have hB73 : BF fQ M (sI Mq2 53 v1.toNat v1) := BF.w53 hQ2 (fun _ => rfl) _ (by omega) (by omega)
                refine vc_iincE dX3_setOnward_117 rfl (by omega) (by omega) (by decide) rfl (show _ = [some (aR 50), some (aI (v1 + 1)), some (aI x3), some (aI x52), some (aI x60)] from rfl) ?_
                refine vc_goto dX3_setOnward_120 ?_
                refine vc_less [some (aR 50), some (aI (v1 + 1)), none, none, none] (lessL_keep (lessL_keep (lessL_drop (lessL_drop (lessL_drop (lessL_nil)))))) ?_
                exact ih2 (sI Mq2 53 v1.toNat v1) (v1 + 1) hB73 kp70 kp71 kp72 (by omega) (by omega) (by first | (intro x hx hl; exfalso; omega) | (intro x hx hl; by_cases q : (x : Int) = v1; (rw [show x = v1.toNat by omega, mI_same]; exact hval); (rw [mI_sI, if_neg (fun z => q (by omega))]; exact g2i0 x hx (by omega)))) (by omega)
            · refine vc_iload_n dX3_setOnward_78 rfl ?_
              refine vc_iconst dX3_setOnward_79 rfl ?_
              refine vc_iadd dX3_setOnward_80 ?_
              refine vc_iconst dX3_setOnward_81 rfl ?_
              refine vc_iandW dX3_setOnward_82 4 2 rfl (by decide) rfl ?_
              refine vc_nameI (fun x74 ex74 => ?_)
              refine vc_istore_n dX3_setOnward_83 (by decide) rfl (show _ = [some (aR 50), some (aI v1), some (aI x3), some (aI x74), none] from rfl) ?_
              refine vc_aload_n dX3_setOnward_84 rfl ?_
              refine vc_getR dX3_setOnward_85 flX3_9 (s_50 hQ2.1.1) rfl (r_50_0 hQ2.1.1) ?_
              refine vc_iload_n dX3_setOnward_88 rfl ?_
              refine vc_iload_n dX3_setOnward_89 rfl ?_
              refine vc_cVI dX3_setOnward_90 (sfX6_aheadF (M := Mq2) hQ2.1  x3 x74 ) rfl okX6_ahead viX6_ahead lkX3_78 (s_1 hQ2.1.1) cl_6 rfl (Nat.le_of_ble_eq_true rfl) ⟨rfl, rfl⟩ (Nat.le_of_ble_eq_true rfl) (Nat.le_of_ble_eq_true rfl) (Nat.le_of_ble_eq_true rfl) ?_
              rintro x75 _ ⟨rfl, h76, h77, h78⟩
              have ha79 : x75 = ahS (cS M) ((v1.toNat / 4 : Nat) : Int) x74 := by rw [h78, hcq, hx4, ex3]
              refine vc_istore dX3_setOnward_93 (by decide) rfl (show _ = [some (aR 50), some (aI v1), some (aI x3), some (aI x74), some (aI x75)] from rfl) ?_
              refine vc_aload_n dX3_setOnward_95 rfl ?_
              refine vc_getR dX3_setOnward_96 flX3_22 (s_50 hQ2.1.1) rfl (r_50_3 hQ2.1.1) ?_
              refine vc_iload_n dX3_setOnward_99 rfl ?_
              refine vc_iload dX3_setOnward_100 rfl ?_
              refine vc_iconst dX3_setOnward_102 rfl ?_
              refine vc_icmp_ne dX3_setOnward_103 (fun h80 => ?_) (fun h80 => ?_)
              · refine vc_iconst dX3_setOnward_110 rfl ?_
                refine vc_iload dX3_setOnward_111 rfl ?_
                refine vc_imulE dX3_setOnward_113 (by omega) (by omega) ?_
                refine vc_iload_n dX3_setOnward_114 rfl ?_
                refine vc_iaddE dX3_setOnward_115 (by omega) (by omega) ?_
                have hon := on_cls (S := cS M) (c := ((v1.toNat / 4 : Nat) : Int)) (f := v1 % 4) (d1 := x4) (d2 := x52) (d3 := x74) (by omega) (by omega) (by rw [show v1 % 4 = x4 by omega, ← ha9]; first | exact Or.inl ⟨by omega, by omega⟩ | exact Or.inr ⟨by omega, by omega⟩) (by rw [← ha15]; first | exact Or.inl ⟨by omega, by omega⟩ | exact Or.inr ⟨by omega, by omega⟩) (by rw [← ha58]; first | exact Or.inl ⟨by omega, by omega⟩ | exact Or.inr ⟨by omega, by omega⟩)
                have hval := onx_v p0 (x := v1.toNat) (d := x74) (v := (4 * x75) + x74) (f := v1 % 4) (by omega) (by rw [← ha79] at hon ⊢; rcases hon with z | z; (exact Or.inl ⟨z.1, z.2, by have z1 := z.1; omega⟩); (exact Or.inr ⟨z.1, z.2, by omega, by have z1 := z.1; omega⟩))
                refine vc_iastore dX3_setOnward_116 (s_53 hQ2.1.1) (by omega) (by omega) ?_
                have kp81 : mI (sI Mq2 53 v1.toNat ((4 * x75) + x74)) 50 = mI M 50 := (kp_sI kp2_50 rfl)
                have kp82 : mI (sI Mq2 53 v1.toNat ((4 * x75) + x74)) 51 = mI M 51 := (kp_sI kp2_51 rfl)
                have kp83 : mI (sI Mq2 53 v1.toNat ((4 * x75) + x74)) 52 = mI M 52 := (kp_sI kp2_52 rfl)
                have hB84 : BF fQ M (sI Mq2 53 v1.toNat ((4 * x75) + x74)) := BF.w53 hQ2 (fun _ => rfl) _ (by omega) (by omega)
                refine vc_iincE dX3_setOnward_117 rfl (by omega) (by omega) (by decide) rfl (show _ = [some (aR 50), some (aI (v1 + 1)), some (aI x3), some (aI x74), some (aI x75)] from rfl) ?_
                refine vc_goto dX3_setOnward_120 ?_
                refine vc_less [some (aR 50), some (aI (v1 + 1)), none, none, none] (lessL_keep (lessL_keep (lessL_drop (lessL_drop (lessL_drop (lessL_nil)))))) ?_
                exact ih2 (sI Mq2 53 v1.toNat ((4 * x75) + x74)) (v1 + 1) hB84 kp81 kp82 kp83 (by omega) (by omega) (by first | (intro x hx hl; exfalso; omega) | (intro x hx hl; by_cases q : (x : Int) = v1; (rw [show x = v1.toNat by omega, mI_same]; exact hval); (rw [mI_sI, if_neg (fun z => q (by omega))]; exact g2i0 x hx (by omega)))) (by omega)
              · refine vc_iload_n dX3_setOnward_106 rfl ?_
                refine vc_goto dX3_setOnward_107 ?_
                have hon := on_cls (S := cS M) (c := ((v1.toNat / 4 : Nat) : Int)) (f := v1 % 4) (d1 := x4) (d2 := x52) (d3 := x74) (by omega) (by omega) (by rw [show v1 % 4 = x4 by omega, ← ha9]; first | exact Or.inl ⟨by omega, by omega⟩ | exact Or.inr ⟨by omega, by omega⟩) (by rw [← ha15]; first | exact Or.inl ⟨by omega, by omega⟩ | exact Or.inr ⟨by omega, by omega⟩) (by rw [← ha58]; first | exact Or.inl ⟨by omega, by omega⟩ | exact Or.inr ⟨by omega, by omega⟩)
                have hval := onx_v p0 (x := v1.toNat) (d := x74) (v := v1) (f := v1 % 4) (by omega) (by rw [← ha79] at hon ⊢; rcases hon with z | z; (exact Or.inl ⟨z.1, z.2, by have z1 := z.1; omega⟩); (exact Or.inr ⟨z.1, z.2, by omega, by have z1 := z.1; omega⟩))
                refine vc_iastore dX3_setOnward_116 (s_53 hQ2.1.1) (by omega) (by omega) ?_
                have kp85 : mI (sI Mq2 53 v1.toNat v1) 50 = mI M 50 := (kp_sI kp2_50 rfl)
                have kp86 : mI (sI Mq2 53 v1.toNat v1) 51 = mI M 51 := (kp_sI kp2_51 rfl)
                have kp87 : mI (sI Mq2 53 v1.toNat v1) 52 = mI M 52 := (kp_sI kp2_52 rfl)
                have hB88 : BF fQ M (sI Mq2 53 v1.toNat v1) := BF.w53 hQ2 (fun _ => rfl) _ (by omega) (by omega)
                refine vc_iincE dX3_setOnward_117 rfl (by omega) (by omega) (by decide) rfl (show _ = [some (aR 50), some (aI (v1 + 1)), some (aI x3), some (aI x74), some (aI x75)] from rfl) ?_
                refine vc_goto dX3_setOnward_120 ?_
                refine vc_less [some (aR 50), some (aI (v1 + 1)), none, none, none] (lessL_keep (lessL_keep (lessL_drop (lessL_drop (lessL_drop (lessL_nil)))))) ?_
                exact ih2 (sI Mq2 53 v1.toNat v1) (v1 + 1) hB88 kp85 kp86 kp87 (by omega) (by omega) (by first | (intro x hx hl; exfalso; omega) | (intro x hx hl; by_cases q : (x : Int) = v1; (rw [show x = v1.toNat by omega, mI_same]; exact hval); (rw [mI_sI, if_neg (fun z => q (by omega))]; exact g2i0 x hx (by omega)))) (by omega)
        · refine vc_iload_n dX3_setOnward_36 rfl ?_
          refine vc_iconst dX3_setOnward_37 rfl ?_
          refine vc_iandM dX3_setOnward_38 4 2 rfl (by decide) rfl ?_
          refine vc_iconst dX3_setOnward_39 rfl ?_
          refine vc_cSI dX3_setOnward_40 (sfX1_sideOfF (M := Mq2) hQ2.1  (v1 % 4) 2 ) rfl okX1_sideOf stX1_sideOf lkX3_81 rfl (Nat.le_of_ble_eq_true rfl) ⟨rfl, rfl⟩ (Nat.le_of_ble_eq_true rfl) (Nat.le_of_ble_eq_true rfl) (Nat.le_of_ble_eq_true rfl) ?_
          rintro x89 _ ⟨rfl, h90⟩
          have hs0 : x89 = (v1 % 4 + 1) % 4 := by rw [h90]; unfold sdS; rw [if_neg (by decide), if_pos rfl]
          have hsb0 : 0 ≤ x89 ∧ x89 ≤ 3 := by omega
          refine vc_istore_n dX3_setOnward_43 (by decide) rfl (show _ = [some (aR 50), some (aI v1), some (aI x3), some (aI x89), none] from rfl) ?_
          refine vc_aload_n dX3_setOnward_44 rfl ?_
          refine vc_getR dX3_setOnward_45 flX3_9 (s_50 hQ2.1.1) rfl (r_50_0 hQ2.1.1) ?_
          refine vc_iload_n dX3_setOnward_48 rfl ?_
          refine vc_iload_n dX3_setOnward_49 rfl ?_
          refine vc_cVI dX3_setOnward_50 (sfX6_aheadF (M := Mq2) hQ2.1  x3 x89 ) rfl okX6_ahead viX6_ahead lkX3_78 (s_1 hQ2.1.1) cl_6 rfl (Nat.le_of_ble_eq_true rfl) ⟨rfl, rfl⟩ (Nat.le_of_ble_eq_true rfl) (Nat.le_of_ble_eq_true rfl) (Nat.le_of_ble_eq_true rfl) ?_
          rintro x91 _ ⟨rfl, h92, h93, h94⟩
          have ha95 : x91 = ahS (cS M) ((v1.toNat / 4 : Nat) : Int) x89 := by rw [h94, hcq, hx4, ex3]
          refine vc_iconst dX3_setOnward_53 rfl ?_
          refine vc_icmp_ne dX3_setOnward_54 (fun h96 => ?_) (fun h96 => ?_)
          · refine vc_aload_n dX3_setOnward_65 rfl ?_
            refine vc_getR dX3_setOnward_66 flX3_9 (s_50 hQ2.1.1) rfl (r_50_0 hQ2.1.1) ?_
            refine vc_iload_n dX3_setOnward_69 rfl ?_
            refine vc_iload_n dX3_setOnward_70 rfl ?_
            refine vc_cVI dX3_setOnward_71 (sfX6_aheadF (M := Mq2) hQ2.1  x3 x89 ) rfl okX6_ahead viX6_ahead lkX3_78 (s_1 hQ2.1.1) cl_6 rfl (Nat.le_of_ble_eq_true rfl) ⟨rfl, rfl⟩ (Nat.le_of_ble_eq_true rfl) (Nat.le_of_ble_eq_true rfl) (Nat.le_of_ble_eq_true rfl) ?_
            rintro x97 _ ⟨rfl, h98, h99, h100⟩
            have ha101 : x97 = ahS (cS M) ((v1.toNat / 4 : Nat) : Int) x89 := by rw [h100, hcq, hx4, ex3]
            refine vc_iconst dX3_setOnward_74 rfl ?_
            refine vc_icmp_ne dX3_setOnward_75 (fun h102 => ?_) (fun h102 => ?_)
            · refine vc_aload_n dX3_setOnward_84 rfl ?_
              refine vc_getR dX3_setOnward_85 flX3_9 (s_50 hQ2.1.1) rfl (r_50_0 hQ2.1.1) ?_
              refine vc_iload_n dX3_setOnward_88 rfl ?_
              refine vc_iload_n dX3_setOnward_89 rfl ?_
              refine vc_cVI dX3_setOnward_90 (sfX6_aheadF (M := Mq2) hQ2.1  x3 x89 ) rfl okX6_ahead viX6_ahead lkX3_78 (s_1 hQ2.1.1) cl_6 rfl (Nat.le_of_ble_eq_true rfl) ⟨rfl, rfl⟩ (Nat.le_of_ble_eq_true rfl) (Nat.le_of_ble_eq_true rfl) (Nat.le_of_ble_eq_true rfl) ?_
              rintro x103 _ ⟨rfl, h104, h105, h106⟩
              have ha107 : x103 = ahS (cS M) ((v1.toNat / 4 : Nat) : Int) x89 := by rw [h106, hcq, hx4, ex3]
              refine vc_istore dX3_setOnward_93 (by decide) rfl (show _ = [some (aR 50), some (aI v1), some (aI x3), some (aI x89), some (aI x103)] from rfl) ?_
              refine vc_aload_n dX3_setOnward_95 rfl ?_
              refine vc_getR dX3_setOnward_96 flX3_22 (s_50 hQ2.1.1) rfl (r_50_3 hQ2.1.1) ?_
              refine vc_iload_n dX3_setOnward_99 rfl ?_
              refine vc_iload dX3_setOnward_100 rfl ?_
              refine vc_iconst dX3_setOnward_102 rfl ?_
              refine vc_icmp_ne dX3_setOnward_103 (fun h108 => ?_) (fun h108 => ?_)
              · refine vc_iconst dX3_setOnward_110 rfl ?_
                refine vc_iload dX3_setOnward_111 rfl ?_
                refine vc_imulE dX3_setOnward_113 (by omega) (by omega) ?_
                refine vc_iload_n dX3_setOnward_114 rfl ?_
                refine vc_iaddE dX3_setOnward_115 (by omega) (by omega) ?_
                have hon := on_cls (S := cS M) (c := ((v1.toNat / 4 : Nat) : Int)) (f := v1 % 4) (d1 := x89) (d2 := x89) (d3 := x89) (by omega) (by omega) (by rw [show v1 % 4 = x4 by omega, ← ha9]; first | exact Or.inl ⟨by omega, by omega⟩ | exact Or.inr ⟨by omega, by omega⟩) (by rw [← ha95]; first | exact Or.inl ⟨by omega, by omega⟩ | exact Or.inr ⟨by omega, by omega⟩) (by rw [← ha101]; first | exact Or.inl ⟨by omega, by omega⟩ | exact Or.inr ⟨by omega, by omega⟩)
                have hval := onx_v p0 (x := v1.toNat) (d := x89) (v := (4 * x103) + x89) (f := v1 % 4) (by omega) (by rw [← ha107] at hon ⊢; rcases hon with z | z; (exact Or.inl ⟨z.1, z.2, by have z1 := z.1; omega⟩); (exact Or.inr ⟨z.1, z.2, by omega, by have z1 := z.1; omega⟩))
                refine vc_iastore dX3_setOnward_116 (s_53 hQ2.1.1) (by omega) (by omega) ?_
                have kp109 : mI (sI Mq2 53 v1.toNat ((4 * x103) + x89)) 50 = mI M 50 := (kp_sI kp2_50 rfl)
                have kp110 : mI (sI Mq2 53 v1.toNat ((4 * x103) + x89)) 51 = mI M 51 := (kp_sI kp2_51 rfl)
                have kp111 : mI (sI Mq2 53 v1.toNat ((4 * x103) + x89)) 52 = mI M 52 := (kp_sI kp2_52 rfl)
                have hB112 : BF fQ M (sI Mq2 53 v1.toNat ((4 * x103) + x89)) := BF.w53 hQ2 (fun _ => rfl) _ (by omega) (by omega)
                refine vc_iincE dX3_setOnward_117 rfl (by omega) (by omega) (by decide) rfl (show _ = [some (aR 50), some (aI (v1 + 1)), some (aI x3), some (aI x89), some (aI x103)] from rfl) ?_
                refine vc_goto dX3_setOnward_120 ?_
                refine vc_less [some (aR 50), some (aI (v1 + 1)), none, none, none] (lessL_keep (lessL_keep (lessL_drop (lessL_drop (lessL_drop (lessL_nil)))))) ?_
                exact ih2 (sI Mq2 53 v1.toNat ((4 * x103) + x89)) (v1 + 1) hB112 kp109 kp110 kp111 (by omega) (by omega) (by first | (intro x hx hl; exfalso; omega) | (intro x hx hl; by_cases q : (x : Int) = v1; (rw [show x = v1.toNat by omega, mI_same]; exact hval); (rw [mI_sI, if_neg (fun z => q (by omega))]; exact g2i0 x hx (by omega)))) (by omega)
              · refine vc_iload_n dX3_setOnward_106 rfl ?_
                refine vc_goto dX3_setOnward_107 ?_
                have hon := on_cls (S := cS M) (c := ((v1.toNat / 4 : Nat) : Int)) (f := v1 % 4) (d1 := x89) (d2 := x89) (d3 := x89) (by omega) (by omega) (by rw [show v1 % 4 = x4 by omega, ← ha9]; first | exact Or.inl ⟨by omega, by omega⟩ | exact Or.inr ⟨by omega, by omega⟩) (by rw [← ha95]; first | exact Or.inl ⟨by omega, by omega⟩ | exact Or.inr ⟨by omega, by omega⟩) (by rw [← ha101]; first | exact Or.inl ⟨by omega, by omega⟩ | exact Or.inr ⟨by omega, by omega⟩)
                have hval := onx_v p0 (x := v1.toNat) (d := x89) (v := v1) (f := v1 % 4) (by omega) (by rw [← ha107] at hon ⊢; rcases hon with z | z; (exact Or.inl ⟨z.1, z.2, by have z1 := z.1; omega⟩); (exact Or.inr ⟨z.1, z.2, by omega, by have z1 := z.1; omega⟩))
                refine vc_iastore dX3_setOnward_116 (s_53 hQ2.1.1) (by omega) (by omega) ?_
                have kp113 : mI (sI Mq2 53 v1.toNat v1) 50 = mI M 50 := (kp_sI kp2_50 rfl)
                have kp114 : mI (sI Mq2 53 v1.toNat v1) 51 = mI M 51 := (kp_sI kp2_51 rfl)
                have kp115 : mI (sI Mq2 53 v1.toNat v1) 52 = mI M 52 := (kp_sI kp2_52 rfl)
                have hB116 : BF fQ M (sI Mq2 53 v1.toNat v1) := BF.w53 hQ2 (fun _ => rfl) _ (by omega) (by omega)
                refine vc_iincE dX3_setOnward_117 rfl (by omega) (by omega) (by decide) rfl (show _ = [some (aR 50), some (aI (v1 + 1)), some (aI x3), some (aI x89), some (aI x103)] from rfl) ?_
                refine vc_goto dX3_setOnward_120 ?_
                refine vc_less [some (aR 50), some (aI (v1 + 1)), none, none, none] (lessL_keep (lessL_keep (lessL_drop (lessL_drop (lessL_drop (lessL_nil)))))) ?_
                exact ih2 (sI Mq2 53 v1.toNat v1) (v1 + 1) hB116 kp113 kp114 kp115 (by omega) (by omega) (by first | (intro x hx hl; exfalso; omega) | (intro x hx hl; by_cases q : (x : Int) = v1; (rw [show x = v1.toNat by omega, mI_same]; exact hval); (rw [mI_sI, if_neg (fun z => q (by omega))]; exact g2i0 x hx (by omega)))) (by omega)
            · refine vc_iload_n dX3_setOnward_78 rfl ?_
              refine vc_iconst dX3_setOnward_79 rfl ?_
              refine vc_iadd dX3_setOnward_80 ?_
              refine vc_iconst dX3_setOnward_81 rfl ?_
              refine vc_iandW dX3_setOnward_82 4 2 rfl (by decide) rfl ?_
              refine vc_nameI (fun x117 ex117 => ?_)
              refine vc_istore_n dX3_setOnward_83 (by decide) rfl (show _ = [some (aR 50), some (aI v1), some (aI x3), some (aI x117), none] from rfl) ?_
              refine vc_aload_n dX3_setOnward_84 rfl ?_
              refine vc_getR dX3_setOnward_85 flX3_9 (s_50 hQ2.1.1) rfl (r_50_0 hQ2.1.1) ?_
              refine vc_iload_n dX3_setOnward_88 rfl ?_
              refine vc_iload_n dX3_setOnward_89 rfl ?_
              refine vc_cVI dX3_setOnward_90 (sfX6_aheadF (M := Mq2) hQ2.1  x3 x117 ) rfl okX6_ahead viX6_ahead lkX3_78 (s_1 hQ2.1.1) cl_6 rfl (Nat.le_of_ble_eq_true rfl) ⟨rfl, rfl⟩ (Nat.le_of_ble_eq_true rfl) (Nat.le_of_ble_eq_true rfl) (Nat.le_of_ble_eq_true rfl) ?_
              rintro x118 _ ⟨rfl, h119, h120, h121⟩
              have ha122 : x118 = ahS (cS M) ((v1.toNat / 4 : Nat) : Int) x117 := by rw [h121, hcq, hx4, ex3]
              refine vc_istore dX3_setOnward_93 (by decide) rfl (show _ = [some (aR 50), some (aI v1), some (aI x3), some (aI x117), some (aI x118)] from rfl) ?_
              refine vc_aload_n dX3_setOnward_95 rfl ?_
              refine vc_getR dX3_setOnward_96 flX3_22 (s_50 hQ2.1.1) rfl (r_50_3 hQ2.1.1) ?_
              refine vc_iload_n dX3_setOnward_99 rfl ?_
              refine vc_iload dX3_setOnward_100 rfl ?_
              refine vc_iconst dX3_setOnward_102 rfl ?_
              refine vc_icmp_ne dX3_setOnward_103 (fun h123 => ?_) (fun h123 => ?_)
              · refine vc_iconst dX3_setOnward_110 rfl ?_
                refine vc_iload dX3_setOnward_111 rfl ?_
                refine vc_imulE dX3_setOnward_113 (by omega) (by omega) ?_
                refine vc_iload_n dX3_setOnward_114 rfl ?_
                refine vc_iaddE dX3_setOnward_115 (by omega) (by omega) ?_
                have hon := on_cls (S := cS M) (c := ((v1.toNat / 4 : Nat) : Int)) (f := v1 % 4) (d1 := x89) (d2 := x89) (d3 := x117) (by omega) (by omega) (by rw [show v1 % 4 = x4 by omega, ← ha9]; first | exact Or.inl ⟨by omega, by omega⟩ | exact Or.inr ⟨by omega, by omega⟩) (by rw [← ha95]; first | exact Or.inl ⟨by omega, by omega⟩ | exact Or.inr ⟨by omega, by omega⟩) (by rw [← ha101]; first | exact Or.inl ⟨by omega, by omega⟩ | exact Or.inr ⟨by omega, by omega⟩)
                have hval := onx_v p0 (x := v1.toNat) (d := x117) (v := (4 * x118) + x117) (f := v1 % 4) (by omega) (by rw [← ha122] at hon ⊢; rcases hon with z | z; (exact Or.inl ⟨z.1, z.2, by have z1 := z.1; omega⟩); (exact Or.inr ⟨z.1, z.2, by omega, by have z1 := z.1; omega⟩))
                refine vc_iastore dX3_setOnward_116 (s_53 hQ2.1.1) (by omega) (by omega) ?_
                have kp124 : mI (sI Mq2 53 v1.toNat ((4 * x118) + x117)) 50 = mI M 50 := (kp_sI kp2_50 rfl)
                have kp125 : mI (sI Mq2 53 v1.toNat ((4 * x118) + x117)) 51 = mI M 51 := (kp_sI kp2_51 rfl)
                have kp126 : mI (sI Mq2 53 v1.toNat ((4 * x118) + x117)) 52 = mI M 52 := (kp_sI kp2_52 rfl)
                have hB127 : BF fQ M (sI Mq2 53 v1.toNat ((4 * x118) + x117)) := BF.w53 hQ2 (fun _ => rfl) _ (by omega) (by omega)
                refine vc_iincE dX3_setOnward_117 rfl (by omega) (by omega) (by decide) rfl (show _ = [some (aR 50), some (aI (v1 + 1)), some (aI x3), some (aI x117), some (aI x118)] from rfl) ?_
                refine vc_goto dX3_setOnward_120 ?_
                refine vc_less [some (aR 50), some (aI (v1 + 1)), none, none, none] (lessL_keep (lessL_keep (lessL_drop (lessL_drop (lessL_drop (lessL_nil)))))) ?_
                exact ih2 (sI Mq2 53 v1.toNat ((4 * x118) + x117)) (v1 + 1) hB127 kp124 kp125 kp126 (by omega) (by omega) (by first | (intro x hx hl; exfalso; omega) | (intro x hx hl; by_cases q : (x : Int) = v1; (rw [show x = v1.toNat by omega, mI_same]; exact hval); (rw [mI_sI, if_neg (fun z => q (by omega))]; exact g2i0 x hx (by omega)))) (by omega)
              · refine vc_iload_n dX3_setOnward_106 rfl ?_
                refine vc_goto dX3_setOnward_107 ?_
                have hon := on_cls (S := cS M) (c := ((v1.toNat / 4 : Nat) : Int)) (f := v1 % 4) (d1 := x89) (d2 := x89) (d3 := x117) (by omega) (by omega) (by rw [show v1 % 4 = x4 by omega, ← ha9]; first | exact Or.inl ⟨by omega, by omega⟩ | exact Or.inr ⟨by omega, by omega⟩) (by rw [← ha95]; first | exact Or.inl ⟨by omega, by omega⟩ | exact Or.inr ⟨by omega, by omega⟩) (by rw [← ha101]; first | exact Or.inl ⟨by omega, by omega⟩ | exact Or.inr ⟨by omega, by omega⟩)
                have hval := onx_v p0 (x := v1.toNat) (d := x117) (v := v1) (f := v1 % 4) (by omega) (by rw [← ha122] at hon ⊢; rcases hon with z | z; (exact Or.inl ⟨z.1, z.2, by have z1 := z.1; omega⟩); (exact Or.inr ⟨z.1, z.2, by omega, by have z1 := z.1; omega⟩))
                refine vc_iastore dX3_setOnward_116 (s_53 hQ2.1.1) (by omega) (by omega) ?_
                have kp128 : mI (sI Mq2 53 v1.toNat v1) 50 = mI M 50 := (kp_sI kp2_50 rfl)
                have kp129 : mI (sI Mq2 53 v1.toNat v1) 51 = mI M 51 := (kp_sI kp2_51 rfl)
                have kp130 : mI (sI Mq2 53 v1.toNat v1) 52 = mI M 52 := (kp_sI kp2_52 rfl)
                have hB131 : BF fQ M (sI Mq2 53 v1.toNat v1) := BF.w53 hQ2 (fun _ => rfl) _ (by omega) (by omega)
                refine vc_iincE dX3_setOnward_117 rfl (by omega) (by omega) (by decide) rfl (show _ = [some (aR 50), some (aI (v1 + 1)), some (aI x3), some (aI x117), some (aI x118)] from rfl) ?_
                refine vc_goto dX3_setOnward_120 ?_
                refine vc_less [some (aR 50), some (aI (v1 + 1)), none, none, none] (lessL_keep (lessL_keep (lessL_drop (lessL_drop (lessL_drop (lessL_nil)))))) ?_
                exact ih2 (sI Mq2 53 v1.toNat v1) (v1 + 1) hB131 kp128 kp129 kp130 (by omega) (by omega) (by first | (intro x hx hl; exfalso; omega) | (intro x hx hl; by_cases q : (x : Int) = v1; (rw [show x = v1.toNat by omega, mI_same]; exact hval); (rw [mI_sI, if_neg (fun z => q (by omega))]; exact g2i0 x hx (by omega)))) (by omega)
          · refine vc_iload_n dX3_setOnward_57 rfl ?_
            refine vc_iconst dX3_setOnward_58 rfl ?_
            refine vc_iandM dX3_setOnward_59 4 2 rfl (by decide) rfl ?_
            refine vc_iconst dX3_setOnward_60 rfl ?_
            refine vc_cSI dX3_setOnward_61 (sfX1_sideOfF (M := Mq2) hQ2.1  (v1 % 4) 1 ) rfl okX1_sideOf stX1_sideOf lkX3_81 rfl (Nat.le_of_ble_eq_true rfl) ⟨rfl, rfl⟩ (Nat.le_of_ble_eq_true rfl) (Nat.le_of_ble_eq_true rfl) (Nat.le_of_ble_eq_true rfl) ?_
            rintro x132 _ ⟨rfl, h133⟩
            have hs1 : x132 = (v1 % 4 + 3) % 4 := by rw [h133]; unfold sdS; rw [if_pos rfl]
            have hsb1 : 0 ≤ x132 ∧ x132 ≤ 3 := by omega
            refine vc_istore_n dX3_setOnward_64 (by decide) rfl (show _ = [some (aR 50), some (aI v1), some (aI x3), some (aI x132), none] from rfl) ?_
            refine vc_aload_n dX3_setOnward_65 rfl ?_
            refine vc_getR dX3_setOnward_66 flX3_9 (s_50 hQ2.1.1) rfl (r_50_0 hQ2.1.1) ?_
            refine vc_iload_n dX3_setOnward_69 rfl ?_
            refine vc_iload_n dX3_setOnward_70 rfl ?_
            refine vc_cVI dX3_setOnward_71 (sfX6_aheadF (M := Mq2) hQ2.1  x3 x132 ) rfl okX6_ahead viX6_ahead lkX3_78 (s_1 hQ2.1.1) cl_6 rfl (Nat.le_of_ble_eq_true rfl) ⟨rfl, rfl⟩ (Nat.le_of_ble_eq_true rfl) (Nat.le_of_ble_eq_true rfl) (Nat.le_of_ble_eq_true rfl) ?_
            rintro x134 _ ⟨rfl, h135, h136, h137⟩
            have ha138 : x134 = ahS (cS M) ((v1.toNat / 4 : Nat) : Int) x132 := by rw [h137, hcq, hx4, ex3]
            refine vc_iconst dX3_setOnward_74 rfl ?_
            refine vc_icmp_ne dX3_setOnward_75 (fun h139 => ?_) (fun h139 => ?_)
            · refine vc_aload_n dX3_setOnward_84 rfl ?_
              refine vc_getR dX3_setOnward_85 flX3_9 (s_50 hQ2.1.1) rfl (r_50_0 hQ2.1.1) ?_
              refine vc_iload_n dX3_setOnward_88 rfl ?_
              refine vc_iload_n dX3_setOnward_89 rfl ?_
              refine vc_cVI dX3_setOnward_90 (sfX6_aheadF (M := Mq2) hQ2.1  x3 x132 ) rfl okX6_ahead viX6_ahead lkX3_78 (s_1 hQ2.1.1) cl_6 rfl (Nat.le_of_ble_eq_true rfl) ⟨rfl, rfl⟩ (Nat.le_of_ble_eq_true rfl) (Nat.le_of_ble_eq_true rfl) (Nat.le_of_ble_eq_true rfl) ?_
              rintro x140 _ ⟨rfl, h141, h142, h143⟩
              have ha144 : x140 = ahS (cS M) ((v1.toNat / 4 : Nat) : Int) x132 := by rw [h143, hcq, hx4, ex3]
              refine vc_istore dX3_setOnward_93 (by decide) rfl (show _ = [some (aR 50), some (aI v1), some (aI x3), some (aI x132), some (aI x140)] from rfl) ?_
              refine vc_aload_n dX3_setOnward_95 rfl ?_
              refine vc_getR dX3_setOnward_96 flX3_22 (s_50 hQ2.1.1) rfl (r_50_3 hQ2.1.1) ?_
              refine vc_iload_n dX3_setOnward_99 rfl ?_
              refine vc_iload dX3_setOnward_100 rfl ?_
              refine vc_iconst dX3_setOnward_102 rfl ?_
              refine vc_icmp_ne dX3_setOnward_103 (fun h145 => ?_) (fun h145 => ?_)
              · refine vc_iconst dX3_setOnward_110 rfl ?_
                refine vc_iload dX3_setOnward_111 rfl ?_
                refine vc_imulE dX3_setOnward_113 (by omega) (by omega) ?_
                refine vc_iload_n dX3_setOnward_114 rfl ?_
                refine vc_iaddE dX3_setOnward_115 (by omega) (by omega) ?_
                have hon := on_cls (S := cS M) (c := ((v1.toNat / 4 : Nat) : Int)) (f := v1 % 4) (d1 := x89) (d2 := x132) (d3 := x132) (by omega) (by omega) (by rw [show v1 % 4 = x4 by omega, ← ha9]; first | exact Or.inl ⟨by omega, by omega⟩ | exact Or.inr ⟨by omega, by omega⟩) (by rw [← ha95]; first | exact Or.inl ⟨by omega, by omega⟩ | exact Or.inr ⟨by omega, by omega⟩) (by rw [← ha138]; first | exact Or.inl ⟨by omega, by omega⟩ | exact Or.inr ⟨by omega, by omega⟩)
                have hval := onx_v p0 (x := v1.toNat) (d := x132) (v := (4 * x140) + x132) (f := v1 % 4) (by omega) (by rw [← ha144] at hon ⊢; rcases hon with z | z; (exact Or.inl ⟨z.1, z.2, by have z1 := z.1; omega⟩); (exact Or.inr ⟨z.1, z.2, by omega, by have z1 := z.1; omega⟩))
                refine vc_iastore dX3_setOnward_116 (s_53 hQ2.1.1) (by omega) (by omega) ?_
                have kp146 : mI (sI Mq2 53 v1.toNat ((4 * x140) + x132)) 50 = mI M 50 := (kp_sI kp2_50 rfl)
                have kp147 : mI (sI Mq2 53 v1.toNat ((4 * x140) + x132)) 51 = mI M 51 := (kp_sI kp2_51 rfl)
                have kp148 : mI (sI Mq2 53 v1.toNat ((4 * x140) + x132)) 52 = mI M 52 := (kp_sI kp2_52 rfl)
                have hB149 : BF fQ M (sI Mq2 53 v1.toNat ((4 * x140) + x132)) := BF.w53 hQ2 (fun _ => rfl) _ (by omega) (by omega)
                refine vc_iincE dX3_setOnward_117 rfl (by omega) (by omega) (by decide) rfl (show _ = [some (aR 50), some (aI (v1 + 1)), some (aI x3), some (aI x132), some (aI x140)] from rfl) ?_
                refine vc_goto dX3_setOnward_120 ?_
                refine vc_less [some (aR 50), some (aI (v1 + 1)), none, none, none] (lessL_keep (lessL_keep (lessL_drop (lessL_drop (lessL_drop (lessL_nil)))))) ?_
                exact ih2 (sI Mq2 53 v1.toNat ((4 * x140) + x132)) (v1 + 1) hB149 kp146 kp147 kp148 (by omega) (by omega) (by first | (intro x hx hl; exfalso; omega) | (intro x hx hl; by_cases q : (x : Int) = v1; (rw [show x = v1.toNat by omega, mI_same]; exact hval); (rw [mI_sI, if_neg (fun z => q (by omega))]; exact g2i0 x hx (by omega)))) (by omega)
              · refine vc_iload_n dX3_setOnward_106 rfl ?_
                refine vc_goto dX3_setOnward_107 ?_
                have hon := on_cls (S := cS M) (c := ((v1.toNat / 4 : Nat) : Int)) (f := v1 % 4) (d1 := x89) (d2 := x132) (d3 := x132) (by omega) (by omega) (by rw [show v1 % 4 = x4 by omega, ← ha9]; first | exact Or.inl ⟨by omega, by omega⟩ | exact Or.inr ⟨by omega, by omega⟩) (by rw [← ha95]; first | exact Or.inl ⟨by omega, by omega⟩ | exact Or.inr ⟨by omega, by omega⟩) (by rw [← ha138]; first | exact Or.inl ⟨by omega, by omega⟩ | exact Or.inr ⟨by omega, by omega⟩)
                have hval := onx_v p0 (x := v1.toNat) (d := x132) (v := v1) (f := v1 % 4) (by omega) (by rw [← ha144] at hon ⊢; rcases hon with z | z; (exact Or.inl ⟨z.1, z.2, by have z1 := z.1; omega⟩); (exact Or.inr ⟨z.1, z.2, by omega, by have z1 := z.1; omega⟩))
                refine vc_iastore dX3_setOnward_116 (s_53 hQ2.1.1) (by omega) (by omega) ?_
                have kp150 : mI (sI Mq2 53 v1.toNat v1) 50 = mI M 50 := (kp_sI kp2_50 rfl)
                have kp151 : mI (sI Mq2 53 v1.toNat v1) 51 = mI M 51 := (kp_sI kp2_51 rfl)
                have kp152 : mI (sI Mq2 53 v1.toNat v1) 52 = mI M 52 := (kp_sI kp2_52 rfl)
                have hB153 : BF fQ M (sI Mq2 53 v1.toNat v1) := BF.w53 hQ2 (fun _ => rfl) _ (by omega) (by omega)
                refine vc_iincE dX3_setOnward_117 rfl (by omega) (by omega) (by decide) rfl (show _ = [some (aR 50), some (aI (v1 + 1)), some (aI x3), some (aI x132), some (aI x140)] from rfl) ?_
                refine vc_goto dX3_setOnward_120 ?_
                refine vc_less [some (aR 50), some (aI (v1 + 1)), none, none, none] (lessL_keep (lessL_keep (lessL_drop (lessL_drop (lessL_drop (lessL_nil)))))) ?_
                exact ih2 (sI Mq2 53 v1.toNat v1) (v1 + 1) hB153 kp150 kp151 kp152 (by omega) (by omega) (by first | (intro x hx hl; exfalso; omega) | (intro x hx hl; by_cases q : (x : Int) = v1; (rw [show x = v1.toNat by omega, mI_same]; exact hval); (rw [mI_sI, if_neg (fun z => q (by omega))]; exact g2i0 x hx (by omega)))) (by omega)
            · refine vc_iload_n dX3_setOnward_78 rfl ?_
              refine vc_iconst dX3_setOnward_79 rfl ?_
              refine vc_iadd dX3_setOnward_80 ?_
              refine vc_iconst dX3_setOnward_81 rfl ?_
              refine vc_iandW dX3_setOnward_82 4 2 rfl (by decide) rfl ?_
              refine vc_nameI (fun x154 ex154 => ?_)
              refine vc_istore_n dX3_setOnward_83 (by decide) rfl (show _ = [some (aR 50), some (aI v1), some (aI x3), some (aI x154), none] from rfl) ?_
              refine vc_aload_n dX3_setOnward_84 rfl ?_
              refine vc_getR dX3_setOnward_85 flX3_9 (s_50 hQ2.1.1) rfl (r_50_0 hQ2.1.1) ?_
              refine vc_iload_n dX3_setOnward_88 rfl ?_
              refine vc_iload_n dX3_setOnward_89 rfl ?_
              refine vc_cVI dX3_setOnward_90 (sfX6_aheadF (M := Mq2) hQ2.1  x3 x154 ) rfl okX6_ahead viX6_ahead lkX3_78 (s_1 hQ2.1.1) cl_6 rfl (Nat.le_of_ble_eq_true rfl) ⟨rfl, rfl⟩ (Nat.le_of_ble_eq_true rfl) (Nat.le_of_ble_eq_true rfl) (Nat.le_of_ble_eq_true rfl) ?_
              rintro x155 _ ⟨rfl, h156, h157, h158⟩
              have ha159 : x155 = ahS (cS M) ((v1.toNat / 4 : Nat) : Int) x154 := by rw [h158, hcq, hx4, ex3]
              refine vc_istore dX3_setOnward_93 (by decide) rfl (show _ = [some (aR 50), some (aI v1), some (aI x3), some (aI x154), some (aI x155)] from rfl) ?_
              refine vc_aload_n dX3_setOnward_95 rfl ?_
              refine vc_getR dX3_setOnward_96 flX3_22 (s_50 hQ2.1.1) rfl (r_50_3 hQ2.1.1) ?_
              refine vc_iload_n dX3_setOnward_99 rfl ?_
              refine vc_iload dX3_setOnward_100 rfl ?_
              refine vc_iconst dX3_setOnward_102 rfl ?_
              refine vc_icmp_ne dX3_setOnward_103 (fun h160 => ?_) (fun h160 => ?_)
              · refine vc_iconst dX3_setOnward_110 rfl ?_
                refine vc_iload dX3_setOnward_111 rfl ?_
                refine vc_imulE dX3_setOnward_113 (by omega) (by omega) ?_
                refine vc_iload_n dX3_setOnward_114 rfl ?_
                refine vc_iaddE dX3_setOnward_115 (by omega) (by omega) ?_
                have hon := on_cls (S := cS M) (c := ((v1.toNat / 4 : Nat) : Int)) (f := v1 % 4) (d1 := x89) (d2 := x132) (d3 := x154) (by omega) (by omega) (by rw [show v1 % 4 = x4 by omega, ← ha9]; first | exact Or.inl ⟨by omega, by omega⟩ | exact Or.inr ⟨by omega, by omega⟩) (by rw [← ha95]; first | exact Or.inl ⟨by omega, by omega⟩ | exact Or.inr ⟨by omega, by omega⟩) (by rw [← ha138]; first | exact Or.inl ⟨by omega, by omega⟩ | exact Or.inr ⟨by omega, by omega⟩)
                have hval := onx_v p0 (x := v1.toNat) (d := x154) (v := (4 * x155) + x154) (f := v1 % 4) (by omega) (by rw [← ha159] at hon ⊢; rcases hon with z | z; (exact Or.inl ⟨z.1, z.2, by have z1 := z.1; omega⟩); (exact Or.inr ⟨z.1, z.2, by omega, by have z1 := z.1; omega⟩))
                refine vc_iastore dX3_setOnward_116 (s_53 hQ2.1.1) (by omega) (by omega) ?_
                have kp161 : mI (sI Mq2 53 v1.toNat ((4 * x155) + x154)) 50 = mI M 50 := (kp_sI kp2_50 rfl)
                have kp162 : mI (sI Mq2 53 v1.toNat ((4 * x155) + x154)) 51 = mI M 51 := (kp_sI kp2_51 rfl)
                have kp163 : mI (sI Mq2 53 v1.toNat ((4 * x155) + x154)) 52 = mI M 52 := (kp_sI kp2_52 rfl)
                have hB164 : BF fQ M (sI Mq2 53 v1.toNat ((4 * x155) + x154)) := BF.w53 hQ2 (fun _ => rfl) _ (by omega) (by omega)
                refine vc_iincE dX3_setOnward_117 rfl (by omega) (by omega) (by decide) rfl (show _ = [some (aR 50), some (aI (v1 + 1)), some (aI x3), some (aI x154), some (aI x155)] from rfl) ?_
                refine vc_goto dX3_setOnward_120 ?_
                refine vc_less [some (aR 50), some (aI (v1 + 1)), none, none, none] (lessL_keep (lessL_keep (lessL_drop (lessL_drop (lessL_drop (lessL_nil)))))) ?_
                exact ih2 (sI Mq2 53 v1.toNat ((4 * x155) + x154)) (v1 + 1) hB164 kp161 kp162 kp163 (by omega) (by omega) (by first | (intro x hx hl; exfalso; omega) | (intro x hx hl; by_cases q : (x : Int) = v1; (rw [show x = v1.toNat by omega, mI_same]; exact hval); (rw [mI_sI, if_neg (fun z => q (by omega))]; exact g2i0 x hx (by omega)))) (by omega)
              · refine vc_iload_n dX3_setOnward_106 rfl ?_
                refine vc_goto dX3_setOnward_107 ?_
                have hon := on_cls (S := cS M) (c := ((v1.toNat / 4 : Nat) : Int)) (f := v1 % 4) (d1 := x89) (d2 := x132) (d3 := x154) (by omega) (by omega) (by rw [show v1 % 4 = x4 by omega, ← ha9]; first | exact Or.inl ⟨by omega, by omega⟩ | exact Or.inr ⟨by omega, by omega⟩) (by rw [← ha95]; first | exact Or.inl ⟨by omega, by omega⟩ | exact Or.inr ⟨by omega, by omega⟩) (by rw [← ha138]; first | exact Or.inl ⟨by omega, by omega⟩ | exact Or.inr ⟨by omega, by omega⟩)
                have hval := onx_v p0 (x := v1.toNat) (d := x154) (v := v1) (f := v1 % 4) (by omega) (by rw [← ha159] at hon ⊢; rcases hon with z | z; (exact Or.inl ⟨z.1, z.2, by have z1 := z.1; omega⟩); (exact Or.inr ⟨z.1, z.2, by omega, by have z1 := z.1; omega⟩))
                refine vc_iastore dX3_setOnward_116 (s_53 hQ2.1.1) (by omega) (by omega) ?_
                have kp165 : mI (sI Mq2 53 v1.toNat v1) 50 = mI M 50 := (kp_sI kp2_50 rfl)
                have kp166 : mI (sI Mq2 53 v1.toNat v1) 51 = mI M 51 := (kp_sI kp2_51 rfl)
                have kp167 : mI (sI Mq2 53 v1.toNat v1) 52 = mI M 52 := (kp_sI kp2_52 rfl)
                have hB168 : BF fQ M (sI Mq2 53 v1.toNat v1) := BF.w53 hQ2 (fun _ => rfl) _ (by omega) (by omega)
                refine vc_iincE dX3_setOnward_117 rfl (by omega) (by omega) (by decide) rfl (show _ = [some (aR 50), some (aI (v1 + 1)), some (aI x3), some (aI x154), some (aI x155)] from rfl) ?_
                refine vc_goto dX3_setOnward_120 ?_
                refine vc_less [some (aR 50), some (aI (v1 + 1)), none, none, none] (lessL_keep (lessL_keep (lessL_drop (lessL_drop (lessL_drop (lessL_nil)))))) ?_
                exact ih2 (sI Mq2 53 v1.toNat v1) (v1 + 1) hB168 kp165 kp166 kp167 (by omega) (by omega) (by first | (intro x hx hl; exfalso; omega) | (intro x hx hl; by_cases q : (x : Int) = v1; (rw [show x = v1.toNat by omega, mI_same]; exact hval); (rw [mI_sI, if_neg (fun z => q (by omega))]; exact g2i0 x hx (by omega)))) (by omega)
  exact lp2 _ M 0 hB0 rfl rfl rfl (by omega) (by omega) (by first | (intro x hx hl; exfalso; omega) | (intro x hx hl; by_cases q : (x : Int) = v1; (rw [show x = v1.toNat by omega, mI_same]; exact hval); (rw [mI_sI, if_neg (fun z => q (by omega))]; exact g2i0 x hx (by omega)))) (Nat.lt_succ_self _)

set_option maxRecDepth 4000 in
theorem sfX3_comesF {l : Launch} {M : Mem} (hB : Box M) (S : Sw) (t : Nat) (f : Int) (s : Int) (p0 : 0 ≤ f) (p1 : f ≤ 63) (p2 : cS M = S) (p3 : sgH S) (p4 : s = (t : Int) ∧ t < 65536) (p5 : ∀ c : Nat, t.testBit c = true → 1 ≤ dG S c) (p6 : ShT S (mI M 52)) (p7 : OnT S (mI M 53)) (p8 : f < 4 * S 1 6) (p9 : GoT S t (mJ M 50 5)) : Call l mdX3_comes [aR 50, aI f, aI s] M (fun q N => ∃ r : Int, q = some (aI r) ∧ BF fQ M N ∧ mI N 50 = mI M 50 ∧ mI N 51 = mI M 51 ∧ mI N 52 = mI M 52 ∧ mI N 53 = mI M 53 ∧ 0 ≤ r ∧ r ≤ 1 ∧ GoT S t (mJ N 50 5) ∧ ((r = 1 ∧ cmS S t f.toNat) ∨ (r = 0 ∧ ¬ cmS S t f.toNat))) := by
  have hB0 : BF fQ M M := BF.start hB
  refine Call.of [some (aR 50), some (aI f), some (aI s), none, none, none, none, none] rfl (Nat.le_of_ble_eq_true rfl) rfl ?_
  refine vc_ok (fun hoM hoS hoL => ?_)
  have hr2 : -2147483648 ≤ s ∧ s < 2147483648 := hoL 2 _ rfl
  refine vc_lconst dX3_comes_0 ?_
  refine vc_topL 0 rfl ?_
  refine vc_lstore_n dX3_comes_1 (by decide) rfl rfl (show _ = [some (aR 50), some (aI f), some (aI s), some (aL 0), none, none, none, none] from rfl) ?_
  refine vc_iload_n dX3_comes_2 rfl ?_
  refine vc_istore dX3_comes_3 (by decide) rfl (show _ = [some (aR 50), some (aI f), some (aI s), some (aL 0), none, some (aI f), none, none] from rfl) ?_
  refine vc_iconst dX3_comes_5 rfl ?_
  refine vc_istore dX3_comes_6 (by decide) rfl (show _ = [some (aR 50), some (aI f), some (aI s), some (aL 0), none, some (aI f), some (aI 0), none] from rfl) ?_
  have lp8 : ∀ (n8 : Nat) (v3 : Int) (v5 : Int) (v6 : Int), (0 ≤ v5) → (v5 ≤ 63) → (0 ≤ v6) → (v6 ≤ 65) → (v5.toNat = itG S t v6.toNat f.toNat) → (∀ m : Nat, m < v6.toNat → ¬ atG S t m f.toNat) → (PsB S t f.toNat v6.toNat v3) → (65 - v6).toNat < n8 → VC l mdX3_comes 8 [some (aR 50), none, some (aI s), some (aL v3), none, some (aI v5), some (aI v6), none] [] M 0 0 (fun q N => ∃ r : Int, q = some (aI r) ∧ BF fQ M N ∧ mI N 50 = mI M 50 ∧ mI N 51 = mI M 51 ∧ mI N 52 = mI M 52 ∧ mI N 53 = mI M 53 ∧ 0 ≤ r ∧ r ≤ 1 ∧ GoT S t (mJ N 50 5) ∧ ((r = 1 ∧ cmS S t f.toNat) ∨ (r = 0 ∧ ¬ cmS S t f.toNat))) := by
    intro n8
    induction n8 with
    | zero => intro v3 v5 v6 g8_5a g8_5b g8_6a g8_6b g8i0 g8i1 g8i2 hm8; exact absurd hm8 (Nat.not_lt_zero _)
    | succ n8 ih8 =>
      intro v3 v5 v6 g8_5a g8_5b g8_6a g8_6b g8i0 g8i1 g8i2 hm8
      refine vc_iload dX3_comes_8 rfl ?_
      refine vc_bipush dX3_comes_10 rfl ?_
      refine vc_icmp_gt dX3_comes_12 (fun h1 => ?_) (fun h1 => ?_)
      · refine vc_iconst dX3_comes_113 rfl ?_
        refine vc_zret dX3_comes_114 rfl (by first | decide | omega) (Nat.le_of_ble_eq_true rfl) (Nat.le_of_ble_eq_true rfl) ?_
        exact ⟨_, rfl, hB0, rfl, rfl, rfl, rfl, by omega, by omega, p9, Or.inr ⟨rfl, by first | exact hno | exact cm_65 p3 (by omega) (n := v6.toNat) (by omega) g8i1⟩⟩
      · refine vc_iload dX3_comes_15 rfl ?_
        refine vc_iconst dX3_comes_17 rfl ?_
        refine vc_ishrC dX3_comes_18 4 2 rfl (by decide) rfl ?_
        refine vc_nameI (fun x2 ex2 => ?_)
        refine vc_istore dX3_comes_19 (by decide) rfl (show _ = [some (aR 50), none, some (aI s), some (aL v3), none, some (aI v5), some (aI v6), some (aI x2)] from rfl) ?_
        have hlt := it_lt p3 (t := t) (x := f.toNat) (by omega) v6.toNat
        rw [← g8i0] at hlt
        have hgo : mI M 1 7 = S 1 7 := by rw [← p2]; rfl
        have hn16 := p3.2.2.1
        have htc : x2 = ((v5.toNat / 4 : Nat) : Int) := by omega
        have hat : atG S t v6.toNat f.toNat ↔ ((v5.toNat / 4 : Nat) : Int) = S 1 7 := by unfold atG; rw [← g8i0]
        refine vc_iload dX3_comes_21 rfl ?_
        refine vc_aload_n dX3_comes_23 rfl ?_
        refine vc_getR dX3_comes_24 flX3_9 (s_50 hB0.1.1) rfl (r_50_0 hB0.1.1) ?_
        refine vc_getI dX3_comes_27 flX3_25 (s_1 hB0.1.1) rfl ?_
        have k3 : (-1) ≤ mI M 1 7 ∧ mI M 1 7 ≤ 15 := b1_7 (M := M) hB0.1
        refine vc_icmp_eq dX3_comes_30 (fun h4 => ?_) (fun h4 => ?_)
        · have hcm : cmS S t (itG S t v6.toNat f.toNat) := by first | (exact cm_at (hat.mpr (by omega)) (Nat.le_refl _)) | (rw [← g8i0]; refine p9 v5.toNat (by omega) ?_; cases hq : btL (mJ M 50 5) v5.toNat with
              | true => rfl
              | false => exact absurd ((bt_sh (by omega) (by omega)).mpr hq) (by assumption))
          refine vc_aload_n dX3_comes_47 rfl ?_
          refine vc_dup dX3_comes_48 rfl ?_
          refine vc_getJ dX3_comes_49 flX3_86 (s_50 hB0.1.1) rfl ?_
          refine vc_lload_n dX3_comes_52 rfl ?_
          refine vc_lor dX3_comes_53 ?_
          refine vc_putJ dX3_comes_54 (plX3_86 _ rfl) (s_50 hB0.1.1) rfl ?_
          have kp5 : mI (sJ M 50 5 (orL (mJ M 50 5) v3)) 50 = mI M 50 := (kp_sJ rfl)
          have kp6 : mI (sJ M 50 5 (orL (mJ M 50 5) v3)) 51 = mI M 51 := (kp_sJ rfl)
          have kp7 : mI (sJ M 50 5 (orL (mJ M 50 5) v3)) 52 = mI M 52 := (kp_sJ rfl)
          have kp8 : mI (sJ M 50 5 (orL (mJ M 50 5) v3)) 53 = mI M 53 := (kp_sJ rfl)
          have hB9 : BF fQ M (sJ M 50 5 (orL (mJ M 50 5) v3)) := BF.J hB0 _ _ _ rfl
          refine vc_iconst dX3_comes_57 rfl ?_
          refine vc_zret dX3_comes_58 rfl (by first | decide | omega) (Nat.le_of_ble_eq_true rfl) (Nat.le_of_ble_eq_true rfl) ?_
          exact ⟨_, rfl, hB9, kp5, kp6, kp7, kp8, by omega, by omega, by show GoT S t (mJ (sJ M 50 5 _) 50 5); rw [mJ_sJ, if_pos ⟨rfl, rfl⟩]; exact GoT.or p9 g8i2 hcm, Or.inl ⟨rfl, cm_go hcm⟩⟩
        · have hna : ¬ atG S t v6.toNat f.toNat := fun z => by have y := hat.mp z; omega
          refine vc_aload_n dX3_comes_33 rfl ?_
          refine vc_getJ dX3_comes_34 flX3_86 (s_50 hB0.1.1) rfl ?_
          refine vc_iload dX3_comes_37 rfl ?_
          refine vc_lshr dX3_comes_39 ?_
          refine vc_lconst dX3_comes_40 ?_
          refine vc_topL 1 rfl ?_
          refine vc_land dX3_comes_41 ?_
          refine vc_lconst dX3_comes_42 ?_
          refine vc_topL 0 rfl ?_
          refine vc_lif_eq dX3_comes_43 dX3_comes_44 (fun h10 => ?_) (fun h10 => ?_)
          · refine vc_lload_n dX3_comes_59 rfl ?_
            refine vc_iload dX3_comes_60 rfl ?_
            refine vc_lshr dX3_comes_62 ?_
            refine vc_lconst dX3_comes_63 ?_
            refine vc_topL 1 rfl ?_
            refine vc_land dX3_comes_64 ?_
            refine vc_lconst dX3_comes_65 ?_
            refine vc_topL 0 rfl ?_
            refine vc_lif_eq dX3_comes_66 dX3_comes_67 (fun h11 => ?_) (fun h11 => ?_)
            · refine vc_lload_n dX3_comes_72 rfl ?_
              refine vc_lconst dX3_comes_73 ?_
              refine vc_topL 1 rfl ?_
              refine vc_iload dX3_comes_74 rfl ?_
              refine vc_lshl dX3_comes_76 ?_
              refine vc_lor dX3_comes_77 ?_
              refine vc_nameL (fun x12 ex12 => ?_)
              refine vc_lstore_n dX3_comes_78 (by decide) rfl rfl (show _ = [some (aR 50), none, some (aI s), some (aL x12), none, some (aI v5), some (aI v6), some (aI x2)] from rfl) ?_
              have hpb : PsB S t f.toNat (v6.toNat + 1) x12 := by rw [ex12]; exact PsB.s g8i2 (by omega) (by omega) g8i0
              have hbt : shrI s x2 % 2 = 1 ↔ t.testBit (v5.toNat / 4) = true := by rw [p4.1, htc]; exact shr_tb p4.2 (by omega)
              refine vc_iload_n dX3_comes_79 rfl ?_
              refine vc_iload dX3_comes_80 rfl ?_
              refine vc_ishr dX3_comes_82 ?_
              refine vc_iconst dX3_comes_83 rfl ?_
              refine vc_iandM dX3_comes_84 2 1 rfl (by decide) rfl ?_
              refine vc_if_eq dX3_comes_85 (fun h13 => ?_) (fun h13 => ?_)
              · refine vc_aload_n dX3_comes_98 rfl ?_
                refine vc_getR dX3_comes_99 flX3_22 (s_50 hB0.1.1) rfl (r_50_3 hB0.1.1) ?_
                refine vc_iload dX3_comes_102 rfl ?_
                refine vc_iaload dX3_comes_104 (s_53 hB0.1.1) (by omega) (by omega) ?_
                have k14 : 0 ≤ mI M 53 v5.toNat ∧ mI M 53 v5.toNat ≤ 63 := bA53 (M := M) hB0.1 _
                have hnx : (mI M 53 v5.toNat).toNat = nxS S t v5.toNat := by rw [nx_on (fun z => by have y := hbt.mpr z; omega)]; have z := p7 v5.toNat (by omega); omega
                refine vc_nameI (fun x16 ex16 => ?_)
                refine vc_istore dX3_comes_105 (by decide) rfl (show _ = [some (aR 50), none, some (aI s), some (aL x12), none, some (aI x16), some (aI v6), some (aI x2)] from rfl) ?_
                refine vc_iincE dX3_comes_107 rfl (by omega) (by omega) (by decide) rfl (show _ = [some (aR 50), none, some (aI s), some (aL x12), none, some (aI x16), some (aI (v6 + 1)), some (aI x2)] from rfl) ?_
                refine vc_goto dX3_comes_110 ?_
                refine vc_less [some (aR 50), none, some (aI s), some (aL x12), none, some (aI x16), some (aI (v6 + 1)), none] (lessL_keep (lessL_keep (lessL_keep (lessL_keep (lessL_keep (lessL_keep (lessL_keep (lessL_drop (lessL_nil))))))))) ?_
                exact ih8 x12 x16 (v6 + 1) (by omega) (by omega) (by omega) (by omega) (by first | rfl | (rw [show (v6 + 1).toNat = v6.toNat + 1 by omega, it_s, ← g8i0]; first | exact hnx | (subst_vars; exact hnx) | (rename_i q; rw [q]; exact hnx))) (by first | (intro m hm; exfalso; omega) | (intro m hm; by_cases q : m = v6.toNat; (rw [q]; exact hna); (exact g8i1 m (by omega)))) (by first | exact PsB.z | (rw [show (v6 + 1).toNat = v6.toNat + 1 by omega]; exact hpb)) (by omega)
              · refine vc_aload_n dX3_comes_88 rfl ?_
                refine vc_getR dX3_comes_89 flX3_19 (s_50 hB0.1.1) rfl (r_50_2 hB0.1.1) ?_
                refine vc_iload dX3_comes_92 rfl ?_
                refine vc_iaload dX3_comes_94 (s_52 hB0.1.1) (by omega) (by omega) ?_
                have k17 : 0 ≤ mI M 52 x2.toNat ∧ mI M 52 x2.toNat ≤ 63 := bA52 (M := M) hB0.1 _
                refine vc_goto dX3_comes_95 ?_
                have hnx : (mI M 52 x2.toNat).toNat = nxS S t v5.toNat := by have hb1 := hbt.mp (by omega); have z := nx_sg p3 (x := v5.toNat) hb1 (p5 _ hb1); rw [← p6 _ (by omega) (p5 _ hb1), show v5.toNat / 4 = (x2).toNat by omega] at z; omega
                refine vc_nameI (fun x19 ex19 => ?_)
                refine vc_istore dX3_comes_105 (by decide) rfl (show _ = [some (aR 50), none, some (aI s), some (aL x12), none, some (aI x19), some (aI v6), some (aI x2)] from rfl) ?_
                refine vc_iincE dX3_comes_107 rfl (by omega) (by omega) (by decide) rfl (show _ = [some (aR 50), none, some (aI s), some (aL x12), none, some (aI x19), some (aI (v6 + 1)), some (aI x2)] from rfl) ?_
                refine vc_goto dX3_comes_110 ?_
                refine vc_less [some (aR 50), none, some (aI s), some (aL x12), none, some (aI x19), some (aI (v6 + 1)), none] (lessL_keep (lessL_keep (lessL_keep (lessL_keep (lessL_keep (lessL_keep (lessL_keep (lessL_drop (lessL_nil))))))))) ?_
                exact ih8 x12 x19 (v6 + 1) (by omega) (by omega) (by omega) (by omega) (by first | rfl | (rw [show (v6 + 1).toNat = v6.toNat + 1 by omega, it_s, ← g8i0]; first | exact hnx | (subst_vars; exact hnx) | (rename_i q; rw [q]; exact hnx))) (by first | (intro m hm; exfalso; omega) | (intro m hm; by_cases q : m = v6.toNat; (rw [q]; exact hna); (exact g8i1 m (by omega)))) (by first | exact PsB.z | (rw [show (v6 + 1).toNat = v6.toNat + 1 by omega]; exact hpb)) (by omega)
            · have hps : btL v3 v5.toNat = true := by cases hq : btL v3 v5.toNat with
                  | true => rfl
                  | false => exact absurd ((bt_sh (by omega) (by omega)).mpr hq) (by assumption)
              have hno : ¬ cmS S t f.toNat := by obtain ⟨j, hj, e⟩ := (g8i2 v5.toNat (by omega)).mp hps; exact cm_no hj (e.trans g8i0) (fun m hm => g8i1 m hm)
              refine vc_iconst dX3_comes_70 rfl ?_
              refine vc_zret dX3_comes_71 rfl (by first | decide | omega) (Nat.le_of_ble_eq_true rfl) (Nat.le_of_ble_eq_true rfl) ?_
              exact ⟨_, rfl, hB0, rfl, rfl, rfl, rfl, by omega, by omega, p9, Or.inr ⟨rfl, by first | exact hno | exact cm_65 p3 (by omega) (n := v6.toNat) (by omega) g8i1⟩⟩
          · have hcm : cmS S t (itG S t v6.toNat f.toNat) := by first | (exact cm_at (hat.mpr (by omega)) (Nat.le_refl _)) | (rw [← g8i0]; refine p9 v5.toNat (by omega) ?_; cases hq : btL (mJ M 50 5) v5.toNat with
                | true => rfl
                | false => exact absurd ((bt_sh (by omega) (by omega)).mpr hq) (by assumption))
            refine vc_aload_n dX3_comes_47 rfl ?_
            refine vc_dup dX3_comes_48 rfl ?_
            refine vc_getJ dX3_comes_49 flX3_86 (s_50 hB0.1.1) rfl ?_
            refine vc_lload_n dX3_comes_52 rfl ?_
            refine vc_lor dX3_comes_53 ?_
            refine vc_putJ dX3_comes_54 (plX3_86 _ rfl) (s_50 hB0.1.1) rfl ?_
            have kp20 : mI (sJ M 50 5 (orL (mJ M 50 5) v3)) 50 = mI M 50 := (kp_sJ rfl)
            have kp21 : mI (sJ M 50 5 (orL (mJ M 50 5) v3)) 51 = mI M 51 := (kp_sJ rfl)
            have kp22 : mI (sJ M 50 5 (orL (mJ M 50 5) v3)) 52 = mI M 52 := (kp_sJ rfl)
            have kp23 : mI (sJ M 50 5 (orL (mJ M 50 5) v3)) 53 = mI M 53 := (kp_sJ rfl)
            have hB24 : BF fQ M (sJ M 50 5 (orL (mJ M 50 5) v3)) := BF.J hB0 _ _ _ rfl
            refine vc_iconst dX3_comes_57 rfl ?_
            refine vc_zret dX3_comes_58 rfl (by first | decide | omega) (Nat.le_of_ble_eq_true rfl) (Nat.le_of_ble_eq_true rfl) ?_
            exact ⟨_, rfl, hB24, kp20, kp21, kp22, kp23, by omega, by omega, by show GoT S t (mJ (sJ M 50 5 _) 50 5); rw [mJ_sJ, if_pos ⟨rfl, rfl⟩]; exact GoT.or p9 g8i2 hcm, Or.inl ⟨rfl, cm_go hcm⟩⟩
  refine vc_less [some (aR 50), none, some (aI s), some (aL 0), none, some (aI f), some (aI 0), none] (lessL_keep (lessL_drop (lessL_keep (lessL_keep (lessL_keep (lessL_keep (lessL_keep (lessL_keep (lessL_nil))))))))) ?_
  exact lp8 _ 0 f 0 (by omega) (by omega) (by omega) (by omega) (by first | rfl | (rw [show (v6 + 1).toNat = v6.toNat + 1 by omega, it_s, ← g8i0]; first | exact hnx | (subst_vars; exact hnx) | (rename_i q; rw [q]; exact hnx))) (by first | (intro m hm; exfalso; omega) | (intro m hm; by_cases q : m = v6.toNat; (rw [q]; exact hna); (exact g8i1 m (by omega)))) (by first | exact PsB.z | (rw [show (v6 + 1).toNat = v6.toNat + 1 by omega]; exact hpb)) (Nat.lt_succ_self _)

set_option maxRecDepth 4000 in
theorem sfX3_allComeF {l : Launch} {M : Mem} (hB : Box M) (S : Sw) (t : Nat) (s : Int) (p0 : True) (p1 : cS M = S) (p2 : sgH S) (p3 : s = (t : Int) ∧ t < 65536) (p4 : ∀ c : Nat, t.testBit c = true → 1 ≤ dG S c) (p5 : ShT S (mI M 52)) (p6 : LkS S (mI M 50 4)) (p7 : OnT S (mI M 53)) : Call l mdX3_allCome [aR 50, aI s] M (fun q N => ∃ r : Int, q = some (aI r) ∧ BF fQ M N ∧ mI N 50 = mI M 50 ∧ mI N 51 = mI M 51 ∧ mI N 52 = mI M 52 ∧ mI N 53 = mI M 53 ∧ 0 ≤ r ∧ r ≤ 1 ∧ ((r = 1 ∧ svS S t) ∨ (r = 0 ∧ ¬ svS S t))) := by
  have hB0 : BF fQ M M := BF.start hB
  refine Call.of [some (aR 50), some (aI s), none] rfl (Nat.le_of_ble_eq_true rfl) rfl ?_
  refine vc_ok (fun hoM hoS hoL => ?_)
  have hr1 : -2147483648 ≤ s ∧ s < 2147483648 := hoL 1 _ rfl
  have hn16 := p2.2.2.1
  refine vc_aload_n dX3_allCome_0 rfl ?_
  refine vc_lconst dX3_allCome_1 ?_
  refine vc_topL 0 rfl ?_
  refine vc_putJ dX3_allCome_2 (plX3_86 _ rfl) (s_50 hB0.1.1) rfl ?_
  have kp1 : mI (sJ M 50 5 0) 50 = mI M 50 := (kp_sJ rfl)
  have kp2 : mI (sJ M 50 5 0) 51 = mI M 51 := (kp_sJ rfl)
  have kp3 : mI (sJ M 50 5 0) 52 = mI M 52 := (kp_sJ rfl)
  have kp4 : mI (sJ M 50 5 0) 53 = mI M 53 := (kp_sJ rfl)
  have hB5 : BF fQ M (sJ M 50 5 0) := BF.J hB0 _ _ _ rfl
  refine vc_iconst dX3_allCome_5 rfl ?_
  refine vc_istore_n dX3_allCome_6 (by decide) rfl (show _ = [some (aR 50), some (aI s), some (aI 0)] from rfl) ?_
  have lp7 : ∀ (n7 : Nat) (Mq7 : Mem) (v2 : Int), (BF fQ M Mq7) → (mI Mq7 50 = mI M 50) → (mI Mq7 51 = mI M 51) → (mI Mq7 52 = mI M 52) → (mI Mq7 53 = mI M 53) → (0 ≤ v2) → (v2 ≤ 64) → (GoT S t (mJ Mq7 50 5)) → (∀ x : Nat, (x : Int) < v2 → dG S (x / 4) ≠ -1 → cmS S t x) → (64 - v2).toNat < n7 → VC l mdX3_allCome 7 [some (aR 50), some (aI s), some (aI v2)] [] Mq7 0 0 (fun q N => ∃ r : Int, q = some (aI r) ∧ BF fQ M N ∧ mI N 50 = mI M 50 ∧ mI N 51 = mI M 51 ∧ mI N 52 = mI M 52 ∧ mI N 53 = mI M 53 ∧ 0 ≤ r ∧ r ≤ 1 ∧ ((r = 1 ∧ svS S t) ∨ (r = 0 ∧ ¬ svS S t))) := by
    intro n7
    induction n7 with
    | zero => intro Mq7 v2 hQ7 kp7_50 kp7_51 kp7_52 kp7_53 g7_2a g7_2b g7i0 g7i1 hm7; exact absurd hm7 (Nat.not_lt_zero _)
    | succ n7 ih7 =>
      intro Mq7 v2 hQ7 kp7_50 kp7_51 kp7_52 kp7_53 g7_2a g7_2b g7i0 g7i1 hm7
      have z16 : mI Mq7 1 6 = S 1 6 := (hQ7.2.2 1 6 rfl).trans (by rw [← p1]; rfl)
      refine vc_iload_n dX3_allCome_7 rfl ?_
      refine vc_iconst dX3_allCome_8 rfl ?_
      refine vc_aload_n dX3_allCome_9 rfl ?_
      refine vc_getR dX3_allCome_10 flX3_9 (s_50 hQ7.1.1) rfl (r_50_0 hQ7.1.1) ?_
      refine vc_getI dX3_allCome_13 flX3_60 (s_1 hQ7.1.1) rfl ?_
      have k6 : 0 ≤ mI Mq7 1 6 ∧ mI Mq7 1 6 ≤ 16 := b1_6 (M := Mq7) hQ7.1
      refine vc_imulE dX3_allCome_16 (by omega) (by omega) ?_
      refine vc_icmp_ge dX3_allCome_17 (fun h7 => ?_) (fun h7 => ?_)
      · refine vc_iconst dX3_allCome_50 rfl ?_
        refine vc_zret dX3_allCome_51 rfl (by first | decide | omega) (Nat.le_of_ble_eq_true rfl) (Nat.le_of_ble_eq_true rfl) ?_
        exact ⟨_, rfl, hQ7, kp7_50, kp7_51, kp7_52, kp7_53, by omega, by omega, Or.inl ⟨rfl, fun x hx hd => g7i1 x (by omega) hd⟩⟩
      · refine vc_aload_n dX3_allCome_20 rfl ?_
        refine vc_getI dX3_allCome_21 flX3_41 (s_50 hQ7.1.1) rfl ?_
        have k8 : mI Mq7 50 4 = mI M 50 4 := congrFun kp7_50 4
        refine vc_iload_n dX3_allCome_24 rfl ?_
        refine vc_iconst dX3_allCome_25 rfl ?_
        refine vc_ishrC dX3_allCome_26 4 2 rfl (by decide) rfl ?_
        refine vc_ishr dX3_allCome_27 ?_
        refine vc_iconst dX3_allCome_28 rfl ?_
        refine vc_iandM dX3_allCome_29 2 1 rfl (by decide) rfl ?_
        have hlk := LkS.bit (v := v2 / 4) (by rw [kp7_50]; exact p6 : LkS S (mI Mq7 50 4)) (by omega) (by omega) (by omega)
        rw [show (v2 / 4).toNat = v2.toNat / 4 by omega] at hlk
        refine vc_if_eq dX3_allCome_30 (fun h9 => ?_) (fun h9 => ?_)
        · refine vc_iincE dX3_allCome_44 rfl (by omega) (by omega) (by decide) rfl (show _ = [some (aR 50), some (aI s), some (aI (v2 + 1))] from rfl) ?_
          refine vc_goto dX3_allCome_47 ?_
          exact ih7 Mq7 (v2 + 1) hQ7 kp7_50 kp7_51 kp7_52 kp7_53 (by omega) (by omega) (by first | exact GoT.z | exact hgo | exact g7i0 | (show GoT S t (mJ (sJ M 50 5 0) 50 5); rw [mJ_sJ, if_pos ⟨rfl, rfl⟩]; exact GoT.z)) (by first | (intro x hx; exfalso; omega) | (intro x hx hd; by_cases q : (x : Int) = v2; (rw [show x = v2.toNat by omega] at hd ⊢; first | (exact absurd (hlk.mp (by omega)) hd) | (rcases hco with h | h; (exact h.2); (exfalso; omega))); (exact g7i1 x (by omega) hd))) (by omega)
        · refine vc_aload_n dX3_allCome_33 rfl ?_
          refine vc_iload_n dX3_allCome_34 rfl ?_
          refine vc_iload_n dX3_allCome_35 rfl ?_
          have hcq : cS Mq7 = S := (cS_bf hB hQ7).trans p1
          have hsh : ShT S (mI Mq7 52) := by rw [kp7_52]; exact p5
          have hon : OnT S (mI Mq7 53) := by rw [kp7_53]; exact p7
          refine vc_cVI dX3_allCome_36 (sfX3_comesF (M := Mq7) hQ7.1 S t v2 s (by omega) (by omega) (by exact hcq) (by exact p2) (by exact p3) (by exact p4) (by exact hsh) (by exact hon) (by omega) (by exact g7i0)) rfl okX3_comes viX3_comes lkX3_90 (s_50 hQ7.1.1) cl_3 rfl (Nat.le_of_ble_eq_true rfl) ⟨rfl, rfl⟩ (Nat.le_of_ble_eq_true rfl) (Nat.le_of_ble_eq_true rfl) (Nat.le_of_ble_eq_true rfl) ?_
          rintro x10 M11 ⟨hB12, kp13, kp14, kp15, kp16, h17, h18, h19, h20⟩
          have hB21 : BF fQ M M11 := BF.go hQ7 hB12
          have kp22 : mI M11 50 = mI M 50 := kp_go kp7_50 kp13
          have kp23 : mI M11 51 = mI M 51 := kp_go kp7_51 kp14
          have kp24 : mI M11 52 = mI M 52 := kp_go kp7_52 kp15
          have kp25 : mI M11 53 = mI M 53 := kp_go kp7_53 kp16
          have hco := h20
          have hgo := h19
          refine vc_if_ne dX3_allCome_39 (fun h26 => ?_) (fun h26 => ?_)
          · refine vc_iincE dX3_allCome_44 rfl (by omega) (by omega) (by decide) rfl (show _ = [some (aR 50), some (aI s), some (aI (v2 + 1))] from rfl) ?_
            refine vc_goto dX3_allCome_47 ?_
            exact ih7 M11 (v2 + 1) hB21 kp22 kp23 kp24 kp25 (by omega) (by omega) (by first | exact GoT.z | exact hgo | exact g7i0 | (show GoT S t (mJ (sJ M 50 5 0) 50 5); rw [mJ_sJ, if_pos ⟨rfl, rfl⟩]; exact GoT.z)) (by first | (intro x hx; exfalso; omega) | (intro x hx hd; by_cases q : (x : Int) = v2; (rw [show x = v2.toNat by omega] at hd ⊢; first | (exact absurd (hlk.mp (by omega)) hd) | (rcases hco with h | h; (exact h.2); (exfalso; omega))); (exact g7i1 x (by omega) hd))) (by omega)
          · refine vc_iconst dX3_allCome_42 rfl ?_
            refine vc_zret dX3_allCome_43 rfl (by first | decide | omega) (Nat.le_of_ble_eq_true rfl) (Nat.le_of_ble_eq_true rfl) ?_
            exact ⟨_, rfl, hB21, kp22, kp23, kp24, kp25, by omega, by omega, Or.inr ⟨rfl, fun q => by have z := q v2.toNat (by omega) (fun y => by have y2 := hlk.mpr y; omega); rcases hco with h | h; (exfalso; omega); (exact h.2 z)⟩⟩
  exact lp7 _ (sJ M 50 5 0) 0 hB5 kp1 kp2 kp3 kp4 (by omega) (by omega) (by first | exact GoT.z | exact hgo | exact g7i0 | (show GoT S t (mJ (sJ M 50 5 0) 50 5); rw [mJ_sJ, if_pos ⟨rfl, rfl⟩]; exact GoT.z)) (by first | (intro x hx; exfalso; omega) | (intro x hx hd; by_cases q : (x : Int) = v2; (rw [show x = v2.toNat by omega] at hd ⊢; first | (exact absurd (hlk.mp (by omega)) hd) | (rcases hco with h | h; (exact h.2); (exfalso; omega))); (exact g7i1 x (by omega) hd))) (Nat.lt_succ_self _)

set_option maxRecDepth 4000 in
theorem sfX3_firstThatServesF {l : Launch} {M : Mem} (hB : Box M) (S : Sw) (k : Int) (p0 : 0 ≤ k) (p1 : k ≤ 4) (p2 : cS M = S) (p3 : sgH S) (p4 : ShT S (mI M 52)) (p5 : LkS S (mI M 50 4)) (p6 : OnT S (mI M 53)) : Call l mdX3_firstThatServes [aR 50, aI k] M (fun q N => ∃ r : Int, q = some (aI r) ∧ BF fQ M N ∧ mI N 50 = mI M 50 ∧ mI N 51 = mI M 51 ∧ mI N 52 = mI M 52 ∧ mI N 53 = mI M 53 ∧ FtS S k.toNat r) := by
  have hB0 : BF fQ M M := BF.start hB
  refine Call.of [some (aR 50), some (aI k), none, none, none] rfl (Nat.le_of_ble_eq_true rfl) rfl ?_
  have hn16 := p3.2.2.1
  have hsl := shl_S p3
  refine vc_aload_n dX3_firstThatServes_0 rfl ?_
  refine vc_getI dX3_firstThatServes_1 flX3_41 (s_50 hB0.1.1) rfl ?_
  refine vc_iconst dX3_firstThatServes_4 rfl ?_
  refine vc_aload_n dX3_firstThatServes_5 rfl ?_
  refine vc_getR dX3_firstThatServes_6 flX3_9 (s_50 hB0.1.1) rfl (r_50_0 hB0.1.1) ?_
  refine vc_getI dX3_firstThatServes_9 flX3_25 (s_1 hB0.1.1) rfl ?_
  have k2 : (-1) ≤ mI M 1 7 ∧ mI M 1 7 ≤ 15 := b1_7 (M := M) hB0.1
  refine vc_ishl dX3_firstThatServes_12 ?_
  refine vc_iconst dX3_firstThatServes_13 rfl ?_
  refine vc_ixor dX3_firstThatServes_14 ?_
  refine vc_iand dX3_firstThatServes_15 ?_
  refine vc_nameI (fun x3 ex3 => ?_)
  refine vc_istore_n dX3_firstThatServes_16 (by decide) rfl (show _ = [some (aR 50), some (aI k), some (aI x3), none, none] from rfl) ?_
  have hgo : mI M 1 7 = S 1 7 := by rw [← p2]; rfl
  have hmay : ∃ m : Nat, x3 = (m : Int) ∧ m < 65536 ∧ ∀ c : Nat, m.testBit c = true ↔ ((c : Int) < S 1 6 ∧ 1 ≤ dG S c) := by have z := p5.may p3; rw [← hgo] at z; rw [ex3]; exact z
  obtain ⟨mm, hm1, hm2, hm3⟩ := hmay
  have hk5 : k.toNat < 5 := by omega
  have hkk : ((k.toNat : Nat) : Int) = k := by omega
  refine vc_iconst dX3_firstThatServes_17 rfl ?_
  refine vc_iload_n dX3_firstThatServes_18 rfl ?_
  refine vc_ishl dX3_firstThatServes_19 ?_
  refine vc_iconst dX3_firstThatServes_20 rfl ?_
  refine vc_isub dX3_firstThatServes_21 ?_
  refine vc_nameI (fun x4 ex4 => ?_)
  refine vc_istore_n dX3_firstThatServes_22 (by decide) rfl (show _ = [some (aR 50), some (aI k), some (aI x3), some (aI x4), none] from rfl) ?_
  have hgz : GsI (gdT S) k.toNat 0 x4 := by have z := GsI.z (P := gdT S) hk5; rw [hkk] at z; rw [ex4]; exact z
  refine vc_iconst dX3_firstThatServes_23 rfl ?_
  refine vc_istore dX3_firstThatServes_24 (by decide) rfl (show _ = [some (aR 50), some (aI k), some (aI x3), some (aI x4), some (aI 0)] from rfl) ?_
  have lp26 : ∀ (n26 : Nat) (Mq26 : Mem) (v3 : Int) (v4 : Int), (BF fQ M Mq26) → (mI Mq26 50 = mI M 50) → (mI Mq26 51 = mI M 51) → (mI Mq26 52 = mI M 52) → (mI Mq26 53 = mI M 53) → (0 ≤ v4) → (v4 ≤ 65536) → (GsI (gdT S) k.toNat v4.toNat v3) → (65536 - v4).toNat < n26 → VC l mdX3_firstThatServes 26 [some (aR 50), none, some (aI x3), some (aI v3), some (aI v4)] [] Mq26 0 0 (fun q N => ∃ r : Int, q = some (aI r) ∧ BF fQ M N ∧ mI N 50 = mI M 50 ∧ mI N 51 = mI M 51 ∧ mI N 52 = mI M 52 ∧ mI N 53 = mI M 53 ∧ FtS S k.toNat r) := by
    intro n26
    induction n26 with
    | zero => intro Mq26 v3 v4 hQ26 kp26_50 kp26_51 kp26_52 kp26_53 g26_4a g26_4b g26i0 hm26; exact absurd hm26 (Nat.not_lt_zero _)
    | succ n26 ih26 =>
      intro Mq26 v3 v4 hQ26 kp26_50 kp26_51 kp26_52 kp26_53 g26_4a g26_4b g26i0 hm26
      have z16 : mI Mq26 1 6 = S 1 6 := (hQ26.2.2 1 6 rfl).trans (by rw [← p2]; rfl)
      have zsl : shlI 1 (mI Mq26 1 6) = shlI 1 (S 1 6) := by rw [z16]
      have hgc0 := (g26i0.c hk5).1
      have hgc := (g26i0.c hk5).2
      refine vc_iload dX3_firstThatServes_26 rfl ?_
      refine vc_ldc dX3_firstThatServes_28 rfl kcX3_59 ?_
      refine vc_icmp_ge dX3_firstThatServes_30 (fun h5 => ?_) (fun h5 => ?_)
      · refine vc_iconst dX3_firstThatServes_81 rfl ?_
        refine vc_iret dX3_firstThatServes_82 rfl (Nat.le_of_ble_eq_true rfl) (Nat.le_of_ble_eq_true rfl) ?_
        first | (exfalso; omega) | exact ⟨_, rfl, hQ26, kp26_50, kp26_51, kp26_52, kp26_53, Or.inl ⟨rfl, hne.2 (by have e : t = 0 := (by omega); rw [e] at ht3; exact ht3.symm)⟩⟩ | exact ⟨_, rfl, hQ26, kp26_50, kp26_51, kp26_52, kp26_53, Or.inl ⟨rfl, fun u hu g => by rcases hgc with ⟨_, z⟩ | ⟨t, ht1, ht2, ht3, ht4, ht5⟩; (exact z u hu g); (by_cases q : u < t; (exact ht4 u hu q g); (have g1 := g.1; omega))⟩⟩
      · refine vc_iload_n dX3_firstThatServes_33 rfl ?_
        refine vc_iconst dX3_firstThatServes_34 rfl ?_
        refine vc_aload_n dX3_firstThatServes_35 rfl ?_
        refine vc_getR dX3_firstThatServes_36 flX3_9 (s_50 hQ26.1.1) rfl (r_50_0 hQ26.1.1) ?_
        refine vc_getI dX3_firstThatServes_39 flX3_60 (s_1 hQ26.1.1) rfl ?_
        have k6 : 0 ≤ mI Mq26 1 6 ∧ mI Mq26 1 6 ≤ 16 := b1_6 (M := Mq26) hQ26.1
        refine vc_ishl dX3_firstThatServes_42 ?_
        refine vc_icmp_ge dX3_firstThatServes_43 (fun h7 => ?_) (fun h7 => ?_)
        · refine vc_iconst dX3_firstThatServes_81 rfl ?_
          refine vc_iret dX3_firstThatServes_82 rfl (Nat.le_of_ble_eq_true rfl) (Nat.le_of_ble_eq_true rfl) ?_
          first | (exfalso; omega) | exact ⟨_, rfl, hQ26, kp26_50, kp26_51, kp26_52, kp26_53, Or.inl ⟨rfl, hne.2 (by have e : t = 0 := (by omega); rw [e] at ht3; exact ht3.symm)⟩⟩ | exact ⟨_, rfl, hQ26, kp26_50, kp26_51, kp26_52, kp26_53, Or.inl ⟨rfl, fun u hu g => by rcases hgc with ⟨_, z⟩ | ⟨t, ht1, ht2, ht3, ht4, ht5⟩; (exact z u hu g); (by_cases q : u < t; (exact ht4 u hu q g); (have g1 := g.1; omega))⟩⟩
        · have hgt := Or.resolve_left hgc (fun z => by have z1 := z.1; omega)
          obtain ⟨t, ht1, ht2, ht3, ht4, ht5⟩ := hgt
          have han : andI v3 (xorI x3 (-1)) = 0 ↔ ∀ c : Nat, t.testBit c = true → mm.testBit c = true := by rw [ht1, hm1]; exact an_0 ht2 (by omega)
          have htm : t ∈ gsL k.toNat 16 := gs_mem 16 _ t ht2 ht3
          have htn : t < 2 ^ (S 1 6).toNat := by omega
          refine vc_iload_n dX3_firstThatServes_46 rfl ?_
          refine vc_iload_n dX3_firstThatServes_47 rfl ?_
          refine vc_iconst dX3_firstThatServes_48 rfl ?_
          refine vc_ixor dX3_firstThatServes_49 ?_
          refine vc_iand dX3_firstThatServes_50 ?_
          refine vc_if_ne dX3_firstThatServes_51 (fun h8 => ?_) (fun h8 => ?_)
          · have hng : ¬ gdT S t := fun g => by first | (rcases hac with h | h; (exfalso; omega); (exact h.2 g.2.2)) | (have y := han.mpr (fun c hc => (hm3 c).mpr ⟨by have z := tb_lt g.1 hc; omega, g.2.1 c hc⟩); omega)
            have hne := ht5 hng
            refine vc_iload_n dX3_firstThatServes_64 rfl ?_
            refine vc_if_ne dX3_firstThatServes_65 (fun h9 => ?_) (fun h9 => ?_)
            · have hv3 : 0 ≤ v3 ∧ v3 ≤ 65535 := by omega
              refine vc_iload_n dX3_firstThatServes_70 rfl ?_
              refine vc_cSI dX3_firstThatServes_71 (sfX3_nextOfSizeF (M := Mq26) hQ26.1  v3 (by omega) (by omega)) rfl okX3_nextOfSize stX3_nextOfSize lkX3_66 rfl (Nat.le_of_ble_eq_true rfl) ⟨rfl, rfl⟩ (Nat.le_of_ble_eq_true rfl) (Nat.le_of_ble_eq_true rfl) (Nat.le_of_ble_eq_true rfl) ?_
              rintro x10 _ ⟨rfl, h11⟩
              have hnx : x10 = gosJ v3 := h11
              refine vc_istore_n dX3_firstThatServes_74 (by decide) rfl (show _ = [some (aR 50), none, some (aI x3), some (aI x10), some (aI v4)] from rfl) ?_
              refine vc_iincE dX3_firstThatServes_75 rfl (by omega) (by omega) (by decide) rfl (show _ = [some (aR 50), none, some (aI x3), some (aI x10), some (aI (v4 + 1))] from rfl) ?_
              refine vc_goto dX3_firstThatServes_78 ?_
              exact ih26 Mq26 x10 (v4 + 1) hQ26 kp26_50 kp26_51 kp26_52 kp26_53 (by omega) (by omega) (by first | exact hgz | (rw [show (v4 + 1).toNat = v4.toNat + 1 by omega, hnx]; exact hne.1)) (by omega)
            · refine vc_iconst dX3_firstThatServes_68 rfl ?_
              refine vc_iret dX3_firstThatServes_69 rfl (Nat.le_of_ble_eq_true rfl) (Nat.le_of_ble_eq_true rfl) ?_
              first | (exfalso; omega) | exact ⟨_, rfl, hQ26, kp26_50, kp26_51, kp26_52, kp26_53, Or.inl ⟨rfl, hne.2 (by have e : t = 0 := (by omega); rw [e] at ht3; exact ht3.symm)⟩⟩ | exact ⟨_, rfl, hQ26, kp26_50, kp26_51, kp26_52, kp26_53, Or.inl ⟨rfl, fun u hu g => by rcases hgc with ⟨_, z⟩ | ⟨t, ht1, ht2, ht3, ht4, ht5⟩; (exact z u hu g); (by_cases q : u < t; (exact ht4 u hu q g); (have g1 := g.1; omega))⟩⟩
          · refine vc_aload_n dX3_firstThatServes_54 rfl ?_
            refine vc_iload_n dX3_firstThatServes_55 rfl ?_
            have hcq : cS Mq26 = S := (cS_bf hB hQ26).trans p2
            have hsh : ShT S (mI Mq26 52) := by rw [kp26_52]; exact p4
            have hon : OnT S (mI Mq26 53) := by rw [kp26_53]; exact p6
            have hlk : LkS S (mI Mq26 50 4) := by rw [kp26_50]; exact p5
            have hsub : ∀ c : Nat, t.testBit c = true → 1 ≤ dG S c := fun c hc => ((hm3 c).mp (han.mp (by omega) c hc)).2
            refine vc_cVI dX3_firstThatServes_56 (sfX3_allComeF (M := Mq26) hQ26.1 S t v3 (by trivial) (by exact hcq) (by exact p3) (by exact ⟨ht1, ht2⟩) (by exact hsub) (by exact hsh) (by exact hlk) (by exact hon)) rfl okX3_allCome viX3_allCome lkX3_63 (s_50 hQ26.1.1) cl_3 rfl (Nat.le_of_ble_eq_true rfl) ⟨rfl, rfl⟩ (Nat.le_of_ble_eq_true rfl) (Nat.le_of_ble_eq_true rfl) (Nat.le_of_ble_eq_true rfl) ?_
            rintro x12 M13 ⟨hB14, kp15, kp16, kp17, kp18, h19, h20, h21⟩
            have hB22 : BF fQ M M13 := BF.go hQ26 hB14
            have kp23 : mI M13 50 = mI M 50 := kp_go kp26_50 kp15
            have kp24 : mI M13 51 = mI M 51 := kp_go kp26_51 kp16
            have kp25 : mI M13 52 = mI M 52 := kp_go kp26_52 kp17
            have kp26 : mI M13 53 = mI M 53 := kp_go kp26_53 kp18
            have hac := h21
            refine vc_if_eq dX3_firstThatServes_59 (fun h27 => ?_) (fun h27 => ?_)
            · have hng : ¬ gdT S t := fun g => by first | (rcases hac with h | h; (exfalso; omega); (exact h.2 g.2.2)) | (have y := han.mpr (fun c hc => (hm3 c).mpr ⟨by have z := tb_lt g.1 hc; omega, g.2.1 c hc⟩); omega)
              have hne := ht5 hng
              refine vc_iload_n dX3_firstThatServes_64 rfl ?_
              refine vc_if_ne dX3_firstThatServes_65 (fun h28 => ?_) (fun h28 => ?_)
              · have hv3 : 0 ≤ v3 ∧ v3 ≤ 65535 := by omega
                refine vc_iload_n dX3_firstThatServes_70 rfl ?_
                refine vc_cSI dX3_firstThatServes_71 (sfX3_nextOfSizeF (M := M13) hB22.1  v3 (by omega) (by omega)) rfl okX3_nextOfSize stX3_nextOfSize lkX3_66 rfl (Nat.le_of_ble_eq_true rfl) ⟨rfl, rfl⟩ (Nat.le_of_ble_eq_true rfl) (Nat.le_of_ble_eq_true rfl) (Nat.le_of_ble_eq_true rfl) ?_
                rintro x29 _ ⟨rfl, h30⟩
                have hnx : x29 = gosJ v3 := h30
                refine vc_istore_n dX3_firstThatServes_74 (by decide) rfl (show _ = [some (aR 50), none, some (aI x3), some (aI x29), some (aI v4)] from rfl) ?_
                refine vc_iincE dX3_firstThatServes_75 rfl (by omega) (by omega) (by decide) rfl (show _ = [some (aR 50), none, some (aI x3), some (aI x29), some (aI (v4 + 1))] from rfl) ?_
                refine vc_goto dX3_firstThatServes_78 ?_
                exact ih26 M13 x29 (v4 + 1) hB22 kp23 kp24 kp25 kp26 (by omega) (by omega) (by first | exact hgz | (rw [show (v4 + 1).toNat = v4.toNat + 1 by omega, hnx]; exact hne.1)) (by omega)
              · refine vc_iconst dX3_firstThatServes_68 rfl ?_
                refine vc_iret dX3_firstThatServes_69 rfl (Nat.le_of_ble_eq_true rfl) (Nat.le_of_ble_eq_true rfl) ?_
                first | (exfalso; omega) | exact ⟨_, rfl, hB22, kp23, kp24, kp25, kp26, Or.inl ⟨rfl, hne.2 (by have e : t = 0 := (by omega); rw [e] at ht3; exact ht3.symm)⟩⟩ | exact ⟨_, rfl, hB22, kp23, kp24, kp25, kp26, Or.inl ⟨rfl, fun u hu g => by rcases hgc with ⟨_, z⟩ | ⟨t, ht1, ht2, ht3, ht4, ht5⟩; (exact z u hu g); (by_cases q : u < t; (exact ht4 u hu q g); (have g1 := g.1; omega))⟩⟩
            · refine vc_iload_n dX3_firstThatServes_62 rfl ?_
              refine vc_iret dX3_firstThatServes_63 rfl (Nat.le_of_ble_eq_true rfl) (Nat.le_of_ble_eq_true rfl) ?_
              exact ⟨_, rfl, hB22, kp23, kp24, kp25, kp26, Or.inr ⟨t, ht1, htm, ⟨htn, hsub, by rcases hac with h | h; (exact h.2); (exfalso; omega)⟩, ht4⟩⟩
  refine vc_less [some (aR 50), none, some (aI x3), some (aI x4), some (aI 0)] (lessL_keep (lessL_drop (lessL_keep (lessL_keep (lessL_keep (lessL_nil)))))) ?_
  exact lp26 _ M x4 0 hB0 rfl rfl rfl rfl (by omega) (by omega) (by first | exact hgz | (rw [show (v4 + 1).toNat = v4.toNat + 1 by omega, hnx]; exact hne.1)) (Nat.lt_succ_self _)

set_option maxRecDepth 4000 in
theorem sfX3_fewestF {l : Launch} {M : Mem} (hB : Box M)   (p0 : sgH (cS M)) : Call l mdX3_fewest [aR 50] M (fun q N => ∃ r : Int, q = some (aI r) ∧ BF fQ M N ∧ FewS (cS M) r) := by
  have hB0 : BF fQ M M := BF.start hB
  refine Call.of [some (aR 50), none, none, none] rfl (Nat.le_of_ble_eq_true rfl) rfl ?_
  have hn0 := p0.2.1
  have hn16 := p0.2.2.1
  have hg0 := p0.2.2.2.1
  have hg1 := p0.2.2.2.2
  have hz6 : cS M 1 6 = mI M 1 6 := rfl
  have hz7 : cS M 1 7 = mI M 1 7 := rfl
  refine vc_aload_n dX3_fewest_0 rfl ?_
  refine vc_getR dX3_fewest_1 flX3_9 (s_50 hB0.1.1) rfl (r_50_0 hB0.1.1) ?_
  refine vc_aload_n dX3_fewest_4 rfl ?_
  refine vc_getR dX3_fewest_5 flX3_9 (s_50 hB0.1.1) rfl (r_50_0 hB0.1.1) ?_
  refine vc_getI dX3_fewest_8 flX3_25 (s_1 hB0.1.1) rfl ?_
  have k1 : (-1) ≤ mI M 1 7 ∧ mI M 1 7 ≤ 15 := b1_7 (M := M) hB0.1
  refine vc_cVI dX3_fewest_11 (sfX6_hasCornerF (M := M) hB0.1  (mI M 1 7) ) rfl okX6_hasCorner viX6_hasCorner lkX3_31 (s_1 hB0.1.1) cl_6 rfl (Nat.le_of_ble_eq_true rfl) ⟨rfl, rfl⟩ (Nat.le_of_ble_eq_true rfl) (Nat.le_of_ble_eq_true rfl) (Nat.le_of_ble_eq_true rfl) ?_
  rintro x2 _ ⟨rfl, h3, h4, h5, h6⟩
  refine vc_if_ne dX3_fewest_14 (fun h7 => ?_) (fun h7 => ?_)
  · refine vc_aload_n dX3_fewest_19 rfl ?_
    refine vc_cVU dX3_fewest_20 (sfX3_countStreetsF (M := M) hB0.1   (by exact p0)) rfl okX3_countStreets viX3_countStreets lkX3_35 (s_50 hB0.1.1) cl_3 rfl (Nat.le_of_ble_eq_true rfl) ⟨rfl, rfl⟩ (Nat.le_of_ble_eq_true rfl) (Nat.le_of_ble_eq_true rfl) (Nat.le_of_ble_eq_true rfl) ?_
    rintro M8 ⟨hB9, h10, h11, h12⟩
    have hB13 : BF fQ M M8 := BF.go hB0 hB9
    have hsh1 := h11
    have hlk1 := h12
    have hcq1 : cS M8 = cS M := cS_bf hB hB13
    refine vc_aload_n dX3_fewest_23 rfl ?_
    refine vc_cVU dX3_fewest_24 (sfX3_setOnwardF (M := M8) hB13.1   (by rw [hcq1]; exact p0)) rfl okX3_setOnward viX3_setOnward lkX3_38 (s_50 hB13.1.1) cl_3 rfl (Nat.le_of_ble_eq_true rfl) ⟨rfl, rfl⟩ (Nat.le_of_ble_eq_true rfl) (Nat.le_of_ble_eq_true rfl) (Nat.le_of_ble_eq_true rfl) ?_
    rintro M14 ⟨hB15, kp16, kp17, kp18, h19⟩
    have hB20 : BF fQ M M14 := BF.go hB13 hB15
    have hon2 : OnT (cS M) (mI M14 53) := by have z := h19; rw [hcq1] at z; exact z
    have hsh2 : ShT (cS M) (mI M14 52) := by rw [kp18]; exact hsh1
    have hlk2 : LkS (cS M) (mI M14 50 4) := by rw [kp16]; exact hlk1
    have hcq2 : cS M14 = cS M := cS_bf hB hB20
    refine vc_iconst dX3_fewest_27 rfl ?_
    refine vc_aload_n dX3_fewest_28 rfl ?_
    refine vc_getI dX3_fewest_29 flX3_41 (s_50 hB20.1.1) rfl ?_
    refine vc_cSI dX3_fewest_32 (sfJ6_bitCount_0f7a4F (M := M14) hB20.1  (mI M14 50 4) ) rfl okJ6_bitCount_0f7a4 stJ6_bitCount_0f7a4 lkX3_44 rfl (Nat.le_of_ble_eq_true rfl) ⟨rfl, rfl⟩ (Nat.le_of_ble_eq_true rfl) (Nat.le_of_ble_eq_true rfl) (Nat.le_of_ble_eq_true rfl) ?_
    rintro x21 _ ⟨rfl, h22, h23, h24⟩
    have hbc : x21 = bcJ (mI M14 50 4) := h24
    refine vc_iconst dX3_fewest_35 rfl ?_
    refine vc_isubE dX3_fewest_36 (by omega) (by omega) ?_
    refine vc_mminI dX3_fewest_37 lkX3_50 (Nat.le_of_ble_eq_true rfl) (Nat.le_of_ble_eq_true rfl) (Nat.le_of_ble_eq_true rfl) ?_
    have k25 := minZ_bd 4 (x21 - 1)
    refine vc_nameI (fun x26 ex26 => ?_)
    refine vc_istore_n dX3_fewest_40 (by decide) rfl (show _ = [some (aR 50), some (aI x26), none, none] from rfl) ?_
    refine vc_iconst dX3_fewest_41 rfl ?_
    refine vc_istore_n dX3_fewest_42 (by decide) rfl (show _ = [some (aR 50), some (aI x26), some (aI 0), none] from rfl) ?_
    have lp43 : ∀ (n43 : Nat) (Mq43 : Mem) (v2 : Int), (BF fQ M Mq43) → (0 ≤ v2) → (v2 ≤ 5) → (FeI (cS M) v2.toNat) → (mI Mq43 50 = mI M14 50 ∧ mI Mq43 52 = mI M14 52 ∧ mI Mq43 53 = mI M14 53) → (5 - v2).toNat < n43 → VC l mdX3_fewest 43 [some (aR 50), some (aI x26), some (aI v2), none] [] Mq43 0 0 (fun q N => ∃ r : Int, q = some (aI r) ∧ BF fQ M N ∧ FewS (cS M) r) := by
      intro n43
      induction n43 with
      | zero => intro Mq43 v2 hQ43 g43_2a g43_2b g43i0 g43i1 hm43; exact absurd hm43 (Nat.not_lt_zero _)
      | succ n43 ih43 =>
        intro Mq43 v2 hQ43 g43_2a g43_2b g43i0 g43i1 hm43
        refine vc_iload_n dX3_fewest_43 rfl ?_
        refine vc_iload_n dX3_fewest_44 rfl ?_
        refine vc_icmp_gt dX3_fewest_45 (fun h27 => ?_) (fun h27 => ?_)
        · refine vc_iconst dX3_fewest_67 rfl ?_
          refine vc_iret dX3_fewest_68 rfl (Nat.le_of_ble_eq_true rfl) (Nat.le_of_ble_eq_true rfl) ?_
          exact ⟨_, rfl, hQ43, g43i0.n (by by_cases q : 5 ≤ v2.toNat; (exact Or.inl q); (exact Or.inr (g43i0.e p0 hlk2 (by omega))))⟩
        · refine vc_aload_n dX3_fewest_48 rfl ?_
          refine vc_iload_n dX3_fewest_49 rfl ?_
          have hcq : cS Mq43 = cS M := cS_bf hB hQ43
          refine vc_cVI dX3_fewest_50 (sfX3_firstThatServesF (M := Mq43) hQ43.1 (cS M) v2 (by omega) (by omega) (by exact hcq) (by exact p0) (by rw [g43i1.2.1]; exact hsh2) (by rw [g43i1.1]; exact hlk2) (by rw [g43i1.2.2]; exact hon2)) rfl okX3_firstThatServes viX3_firstThatServes lkX3_56 (s_50 hQ43.1.1) cl_3 rfl (Nat.le_of_ble_eq_true rfl) ⟨rfl, rfl⟩ (Nat.le_of_ble_eq_true rfl) (Nat.le_of_ble_eq_true rfl) (Nat.le_of_ble_eq_true rfl) ?_
          rintro x28 M29 ⟨hB30, kp31, kp32, kp33, kp34, h35⟩
          have hB36 : BF fQ M M29 := BF.go hQ43 hB30
          have hft := h35
          have hk50 := kp31
          have hk52 := kp33
          have hk53 := kp34
          refine vc_istore_n dX3_fewest_53 (by decide) rfl (show _ = [some (aR 50), some (aI x26), some (aI v2), some (aI x28)] from rfl) ?_
          refine vc_iload_n dX3_fewest_54 rfl ?_
          refine vc_iconst dX3_fewest_55 rfl ?_
          refine vc_icmp_eq dX3_fewest_56 (fun h37 => ?_) (fun h37 => ?_)
          · refine vc_iincE dX3_fewest_61 rfl (by omega) (by omega) (by decide) rfl (show _ = [some (aR 50), some (aI x26), some (aI (v2 + 1)), some (aI x28)] from rfl) ?_
            refine vc_goto dX3_fewest_64 ?_
            refine vc_less [some (aR 50), some (aI x26), some (aI (v2 + 1)), none] (lessL_keep (lessL_keep (lessL_keep (lessL_drop (lessL_nil))))) ?_
            exact ih43 M29 (v2 + 1) hB36 (by omega) (by omega) (by first | exact FeI.z | (rw [show (v2 + 1).toNat = v2.toNat + 1 by omega]; exact g43i0.f p0 hft (by omega))) (by first | exact ⟨rfl, rfl, rfl⟩ | exact ⟨hk50.trans g43i1.1, hk52.trans g43i1.2.1, hk53.trans g43i1.2.2⟩) (by omega)
          · refine vc_iload_n dX3_fewest_59 rfl ?_
            refine vc_iret dX3_fewest_60 rfl (Nat.le_of_ble_eq_true rfl) (Nat.le_of_ble_eq_true rfl) ?_
            exact ⟨_, rfl, hB36, g43i0.v p0 (by omega) hft (by omega)⟩
    exact lp43 _ M14 0 hB20 (by omega) (by omega) (by first | exact FeI.z | (rw [show (v2 + 1).toNat = v2.toNat + 1 by omega]; exact g43i0.f p0 hft (by omega))) (by first | exact ⟨rfl, rfl, rfl⟩ | exact ⟨hk50.trans g43i1.1, hk52.trans g43i1.2.1, hk53.trans g43i1.2.2⟩) (Nat.lt_succ_self _)
  · refine vc_iconst dX3_fewest_17 rfl ?_
    refine vc_iret dX3_fewest_18 rfl (Nat.le_of_ble_eq_true rfl) (Nat.le_of_ble_eq_true rfl) ?_
    exfalso; omega

set_option maxRecDepth 4000 in
theorem sfX11_signsF {l : Launch} {M : Mem} (hB : Box M)   (p0 : wTo (cS M)) (p1 : wSc (cS M)) : Call l mdX11_signs [aR 0] M (fun q N => ∃ r : Int, q = some (aI r) ∧ BF fQ M N ∧ SigS (cS M) r) := by
  have hB0 : BF fQ M M := BF.start hB
  refine Call.of [some (aR 0)] rfl (Nat.le_of_ble_eq_true rfl) rfl ?_
  have hz7 : cS M 1 7 = mI M 1 7 := rfl
  have hb7 := p1.2.2.2.2.2.2.1
  refine vc_aload_n dX11_signs_0 rfl ?_
  refine vc_getR dX11_signs_1 flX11_10 (s_0 hB0.1.1) rfl (r_0_0 hB0.1.1) ?_
  refine vc_getI dX11_signs_4 flX11_325 (s_1 hB0.1.1) rfl ?_
  have k1 : (-1) ≤ mI M 1 7 ∧ mI M 1 7 ≤ 15 := b1_7 (M := M) hB0.1
  refine vc_iconst dX11_signs_7 rfl ?_
  refine vc_icmp_ne dX11_signs_8 (fun h2 => ?_) (fun h2 => ?_)
  · refine vc_aload_n dX11_signs_15 rfl ?_
    refine vc_getR dX11_signs_16 flX11_99 (s_0 hB0.1.1) rfl (r_0_12 hB0.1.1) ?_
    have hsg : sgH (cS M) := ⟨p0, p1.1, p1.2.1, by omega, p1.2.2.2.2.2.2.2.1⟩
    refine vc_cVI dX11_signs_19 (sfX3_fewestF (M := M) hB0.1   (by exact hsg)) rfl okX3_fewest viX3_fewest lkX11_344 (s_50 hB0.1.1) cl_3 rfl (Nat.le_of_ble_eq_true rfl) ⟨rfl, rfl⟩ (Nat.le_of_ble_eq_true rfl) (Nat.le_of_ble_eq_true rfl) (Nat.le_of_ble_eq_true rfl) ?_
    rintro x3 M4 ⟨hB5, h6⟩
    have hB7 : BF fQ M M4 := BF.go hB0 hB5
    have hfe := h6
    refine vc_iret dX11_signs_22 rfl (Nat.le_of_ble_eq_true rfl) (Nat.le_of_ble_eq_true rfl) ?_
    exact ⟨_, rfl, hB7, Or.inr ⟨by omega, hfe⟩⟩
  · refine vc_iconst dX11_signs_11 rfl ?_
    refine vc_goto dX11_signs_12 ?_
    refine vc_iret dX11_signs_22 rfl (Nat.le_of_ble_eq_true rfl) (Nat.le_of_ble_eq_true rfl) ?_
    exact ⟨_, rfl, hB0, Or.inl ⟨by omega, rfl⟩⟩

