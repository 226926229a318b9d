set_option maxRecDepth 4000 in
theorem sfX4_setTokenF {l : Launch} {M : Mem} (hB : Box M) (n : Int) (i : Int) (f : Int) (t : Int) (p0 : 0 ≤ i) (p1 : i ≤ 300) (p2 : 0 ≤ f) (p3 : f ≤ 299) (p4 : 0 ≤ t) (p5 : t ≤ 300) (p6 : t = en (mI M 21) n f) (p7 : f < n) (p8 : n ≤ 300) (p9 : byt (mI M 21)) (p10 : f < t) : Call l mdX4_setToken [aR 22, aI i, aI f, aI t] M (fun q N => q = none ∧ BF fQ M N ∧ mI N 28 = mI M 28 ∧ (∀ j : Nat, j ≠ i.toNat → mI N 26 j = mI M 26 j ∧ mI N 27 j = mI M 27 j) ∧ CT (mI N 26 i.toNat) (mI N 27 i.toNat) (tk (mI M 21) n f)) := by
  have hB0 : BF fQ M M := BF.start hB
  refine Call.of [some (aR 22), some (aI i), some (aI f), some (aI t)] rfl (Nat.le_of_ble_eq_true rfl) rfl ?_
  refine vc_aload_n dX4_setToken_0 rfl ?_
  refine vc_getR dX4_setToken_1 flX4_9 (s_22 hB0.1.1) rfl (r_22_0 hB0.1.1) ?_
  refine vc_iload_n dX4_setToken_4 rfl ?_
  refine vc_iaload dX4_setToken_5 (s_21 hB0.1.1) (by omega) (by omega) ?_
  refine vc_cSI dX4_setToken_6 (sfX4_isLetterF (M := M) hB0.1  (mI M 21 f.toNat) ) rfl okX4_isLetter stX4_isLetter lkX4_95 rfl (Nat.le_of_ble_eq_true rfl) ⟨rfl, rfl⟩ (Nat.le_of_ble_eq_true rfl) (Nat.le_of_ble_eq_true rfl) (Nat.le_of_ble_eq_true rfl) ?_
  rintro x1 _ ⟨rfl, h2, h3, h4⟩
  refine vc_if_eq dX4_setToken_9 (fun h5 => ?_) (fun h5 => ?_)
  · refine vc_aload_n dX4_setToken_34 rfl ?_
    refine vc_getR dX4_setToken_35 flX4_9 (s_22 hB0.1.1) rfl (r_22_0 hB0.1.1) ?_
    refine vc_iload_n dX4_setToken_38 rfl ?_
    refine vc_iaload dX4_setToken_39 (s_21 hB0.1.1) (by omega) (by omega) ?_
    refine vc_cSI dX4_setToken_40 (sfX4_isDigitF (M := M) hB0.1  (mI M 21 f.toNat) ) rfl okX4_isDigit stX4_isDigit lkX4_98 rfl (Nat.le_of_ble_eq_true rfl) ⟨rfl, rfl⟩ (Nat.le_of_ble_eq_true rfl) (Nat.le_of_ble_eq_true rfl) (Nat.le_of_ble_eq_true rfl) ?_
    rintro x6 _ ⟨rfl, h7, h8, h9⟩
    refine vc_if_eq dX4_setToken_43 (fun h10 => ?_) (fun h10 => ?_)
    · refine vc_aload_n dX4_setToken_68 rfl ?_
      refine vc_getR dX4_setToken_69 flX4_24 (s_22 hB0.1.1) rfl (r_22_4 hB0.1.1) ?_
      refine vc_iload_n dX4_setToken_72 rfl ?_
      refine vc_iconst dX4_setToken_73 rfl ?_
      refine vc_iastore dX4_setToken_74 (s_26 hB0.1.1) (by omega) (by omega) ?_
      have kp11 : mI (sI M 26 i.toNat 3) 28 = mI M 28 := (kp_sI rfl rfl)
      have hB12 : BF fQ M (sI M 26 i.toNat 3) := BF.w26 hB0 (fun _ => rfl) _
      refine vc_aload_n dX4_setToken_75 rfl ?_
      refine vc_getR dX4_setToken_76 flX4_27 (s_22 hB12.1.1) rfl (r_22_5 hB12.1.1) ?_
      refine vc_iload_n dX4_setToken_79 rfl ?_
      refine vc_aload_n dX4_setToken_80 rfl ?_
      refine vc_getR dX4_setToken_81 flX4_9 (s_22 hB12.1.1) rfl (r_22_0 hB12.1.1) ?_
      refine vc_iload_n dX4_setToken_84 rfl ?_
      refine vc_iaload dX4_setToken_85 (s_21 hB12.1.1) (by omega) (by omega) ?_
      refine vc_topI (mI M 21 f.toNat) rfl ?_
      refine vc_iastore dX4_setToken_86 (s_27 hB12.1.1) (by omega) (by omega) ?_
      have kp13 : mI (sI (sI M 26 i.toNat 3) 27 i.toNat (mI M 21 f.toNat)) 28 = mI M 28 := (kp_sI kp11 rfl)
      have hB14 : BF fQ M (sI (sI M 26 i.toNat 3) 27 i.toNat (mI M 21 f.toNat)) := BF.w27 hB12 (fun _ => rfl) _
      refine vc_vret dX4_setToken_87 rfl (Nat.le_of_ble_eq_true rfl) (Nat.le_of_ble_eq_true rfl) ?_
      have e26 : mI (sI (sI M 26 i.toNat 3) 27 i.toNat (mI M 21 f.toNat)) 26 i.toNat = 3 := by rw [mI_sI, if_neg (fun e => by omega), mI_same]
      have e27 : mI (sI (sI M 26 i.toNat 3) 27 i.toNat (mI M 21 f.toNat)) 27 i.toNat = mI M 21 f.toNat := mI_same
      exact ⟨rfl, hB14, kp13, (fun j hj => ⟨by rw [mI_sI, if_neg (fun e => by omega), mI_sI, if_neg (fun e => hj e.2)], by rw [mI_sI, if_neg (fun e => hj e.2), mI_sI, if_neg (fun e => by omega)]⟩), (by rw [e26, e27, tk_sign (by omega) (by omega) (by omega)]; exact Or.inr (Or.inr (Or.inr ⟨rfl, (p9 _).1, (p9 _).2, rfl⟩)))⟩
    · refine vc_aload_n dX4_setToken_46 rfl ?_
      refine vc_getR dX4_setToken_47 flX4_24 (s_22 hB0.1.1) rfl (r_22_4 hB0.1.1) ?_
      refine vc_iload_n dX4_setToken_50 rfl ?_
      refine vc_iconst dX4_setToken_51 rfl ?_
      refine vc_iastore dX4_setToken_52 (s_26 hB0.1.1) (by omega) (by omega) ?_
      have kp15 : mI (sI M 26 i.toNat 2) 28 = mI M 28 := (kp_sI rfl rfl)
      have hB16 : BF fQ M (sI M 26 i.toNat 2) := BF.w26 hB0 (fun _ => rfl) _
      refine vc_aload_n dX4_setToken_53 rfl ?_
      refine vc_getR dX4_setToken_54 flX4_27 (s_22 hB16.1.1) rfl (r_22_5 hB16.1.1) ?_
      refine vc_iload_n dX4_setToken_57 rfl ?_
      refine vc_aload_n dX4_setToken_58 rfl ?_
      refine vc_iload_n dX4_setToken_59 rfl ?_
      refine vc_iload_n dX4_setToken_60 rfl ?_
      have hdd : ∀ ii : Nat, f ≤ ii → (ii : Int) < t → 48 ≤ mI (sI M 26 i.toNat 2) 21 ii ∧ mI (sI M 26 i.toNat 2) 21 ii ≤ 57 := fun ii a b => en_in_dig (f := mI M 21) (n := n) (by omega) (by omega) ii a (by rw [← p6]; exact b)
      refine vc_cVI dX4_setToken_61 (sfX4_numberOfF (M := (sI M 26 i.toNat 2)) hB16.1  f t (by omega) (by omega) (by omega) (by omega) (by exact hdd) (by omega)) rfl okX4_numberOf viX4_numberOf lkX4_104 (s_22 hB16.1.1) cl_4 rfl (Nat.le_of_ble_eq_true rfl) ⟨rfl, rfl⟩ (Nat.le_of_ble_eq_true rfl) (Nat.le_of_ble_eq_true rfl) (Nat.le_of_ble_eq_true rfl) ?_
      rintro x17 _ ⟨rfl, h18, h19, h20⟩
      have hwd : x17 = nuC (mI M 21) (t - f).toNat f.toNat 0 := h20
      refine vc_iastore dX4_setToken_64 (s_27 hB16.1.1) (by omega) (by omega) ?_
      have kp21 : mI (sI (sI M 26 i.toNat 2) 27 i.toNat x17) 28 = mI M 28 := (kp_sI kp15 rfl)
      have hB22 : BF fQ M (sI (sI M 26 i.toNat 2) 27 i.toNat x17) := BF.w27 hB16 (fun _ => rfl) _
      refine vc_goto dX4_setToken_65 ?_
      refine vc_vret dX4_setToken_87 rfl (Nat.le_of_ble_eq_true rfl) (Nat.le_of_ble_eq_true rfl) ?_
      have e26 : mI (sI (sI M 26 i.toNat 2) 27 i.toNat x17) 26 i.toNat = 2 := by rw [mI_sI, if_neg (fun e => by omega), mI_same]
      have e27 : mI (sI (sI M 26 i.toNat 2) 27 i.toNat x17) 27 i.toNat = x17 := mI_same
      exact ⟨rfl, hB22, kp21, (fun j hj => ⟨by rw [mI_sI, if_neg (fun e => by omega), mI_sI, if_neg (fun e => hj e.2)], by rw [mI_sI, if_neg (fun e => hj e.2), mI_sI, if_neg (fun e => by omega)]⟩), (by rw [e26, e27, tk_dig (by omega) (by omega), ← p6, ← hwd]; exact Or.inr (Or.inr (Or.inl ⟨rfl, by omega, by omega, rfl⟩)))⟩
  · refine vc_aload_n dX4_setToken_12 rfl ?_
    refine vc_getR dX4_setToken_13 flX4_24 (s_22 hB0.1.1) rfl (r_22_4 hB0.1.1) ?_
    refine vc_iload_n dX4_setToken_16 rfl ?_
    refine vc_iconst dX4_setToken_17 rfl ?_
    refine vc_iastore dX4_setToken_18 (s_26 hB0.1.1) (by omega) (by omega) ?_
    have kp23 : mI (sI M 26 i.toNat 1) 28 = mI M 28 := (kp_sI rfl rfl)
    have hB24 : BF fQ M (sI M 26 i.toNat 1) := BF.w26 hB0 (fun _ => rfl) _
    refine vc_aload_n dX4_setToken_19 rfl ?_
    refine vc_getR dX4_setToken_20 flX4_27 (s_22 hB24.1.1) rfl (r_22_5 hB24.1.1) ?_
    refine vc_iload_n dX4_setToken_23 rfl ?_
    refine vc_aload_n dX4_setToken_24 rfl ?_
    refine vc_iload_n dX4_setToken_25 rfl ?_
    refine vc_iload_n dX4_setToken_26 rfl ?_
    refine vc_cVI dX4_setToken_27 (sfX4_wordOfF (M := (sI M 26 i.toNat 1)) hB24.1  f t (by omega) (by omega) (by omega) (by omega)) rfl okX4_wordOf viX4_wordOf lkX4_101 (s_22 hB24.1.1) cl_4 rfl (Nat.le_of_ble_eq_true rfl) ⟨rfl, rfl⟩ (Nat.le_of_ble_eq_true rfl) (Nat.le_of_ble_eq_true rfl) (Nat.le_of_ble_eq_true rfl) ?_
    rintro x25 _ ⟨rfl, h26⟩
    have hwd : x25 = wGo (mI M 21) f t WB 0 f := h26
    refine vc_iastore dX4_setToken_30 (s_27 hB24.1.1) (by omega) (by omega) ?_
    have kp27 : mI (sI (sI M 26 i.toNat 1) 27 i.toNat x25) 28 = mI M 28 := (kp_sI kp23 rfl)
    have hB28 : BF fQ M (sI (sI M 26 i.toNat 1) 27 i.toNat x25) := BF.w27 hB24 (fun _ => rfl) _
    refine vc_goto dX4_setToken_31 ?_
    refine vc_vret dX4_setToken_87 rfl (Nat.le_of_ble_eq_true rfl) (Nat.le_of_ble_eq_true rfl) ?_
    have e26 : mI (sI (sI M 26 i.toNat 1) 27 i.toNat x25) 26 i.toNat = 1 := by rw [mI_sI, if_neg (fun e => by omega), mI_same]
    have e27 : mI (sI (sI M 26 i.toNat 1) 27 i.toNat x25) 27 i.toNat = x25 := mI_same
    have ew : x25 = idx (tl (mI M 21) (t - f).toNat f.toNat) WL 0 := hwd.trans (wGo_eq (mI M 21) (by omega) (by omega))
    have hix := idx36 (tl (mI M 21) (t - f).toNat f.toNat)
    exact ⟨rfl, hB28, kp27, (fun j hj => ⟨by rw [mI_sI, if_neg (fun e => by omega), mI_sI, if_neg (fun e => hj e.2)], by rw [mI_sI, if_neg (fun e => hj e.2), mI_sI, if_neg (fun e => by omega)]⟩), (by rw [e26, e27, tk_let (by omega) (by omega), ← p6, ← ew]; exact Or.inr (Or.inl ⟨rfl, by omega, by omega, rfl⟩))⟩

set_option maxRecDepth 4000 in
theorem sfX4_partF {l : Launch} {M : Mem} (hB : Box M)  (le : Int) (p0 : 0 ≤ le) (p1 : le ≤ 300) (p2 : byt (mI M 21)) : Call l mdX4_part [aR 22, aI le] M (fun q N => q = none ∧ BF fQ M N ∧ Tab (tk (mI M 21) le) (nx (mI M 21) le) (mI N 26) (mI N 27) (mI N 28) 301 0 (skb (mI M 21) le 0)) := by
  have hB0 : BF fQ M M := BF.start hB
  refine Call.of [some (aR 22), some (aI le), none, none, none, none] rfl (Nat.le_of_ble_eq_true rfl) rfl ?_
  refine vc_iconst dX4_part_0 rfl ?_
  refine vc_istore_n dX4_part_1 (by decide) rfl (show _ = [some (aR 22), some (aI le), some (aI 0), none, none, none] from rfl) ?_
  refine vc_iconst dX4_part_2 rfl ?_
  refine vc_istore_n dX4_part_3 (by decide) rfl (show _ = [some (aR 22), some (aI le), some (aI 0), some (aI 0), none, none] from rfl) ?_
  refine vc_iconst dX4_part_4 rfl ?_
  refine vc_istore dX4_part_5 (by decide) rfl (show _ = [some (aR 22), some (aI le), some (aI 0), some (aI 0), some (aI 0), none] from rfl) ?_
  have lp7 : ∀ (n7 : Nat) (Mq7 : Mem) (v2 : Int) (v3 : Int) (v4 : Int), (BF fQ M Mq7) → (0 ≤ v2) → (v2 ≤ v4) → (0 ≤ v3) → (v3 ≤ le) → (0 ≤ v4) → (v4 ≤ 300) → (PT (mI M 21) le (mI Mq7 26) (mI Mq7 27) (mI Mq7 28) v2 v3) → (v4 ≤ v3) → (300 - v4).toNat < n7 → VC l mdX4_part 7 [some (aR 22), some (aI le), some (aI v2), some (aI v3), some (aI v4), none] [] Mq7 0 0 (fun q N => q = none ∧ BF fQ M N ∧ Tab (tk (mI M 21) le) (nx (mI M 21) le) (mI N 26) (mI N 27) (mI N 28) 301 0 (skb (mI M 21) le 0)) := by
    intro n7
    induction n7 with
    | zero => intro Mq7 v2 v3 v4 hQ7 g7_2a g7_2b g7_3a g7_3b g7_4a g7_4b g7i0 g7i1 hm7; exact absurd hm7 (Nat.not_lt_zero _)
    | succ n7 ih7 =>
      intro Mq7 v2 v3 v4 hQ7 g7_2a g7_2b g7_3a g7_3b g7_4a g7_4b g7i0 g7i1 hm7
      refine vc_iload dX4_part_7 rfl ?_
      refine vc_sipush dX4_part_9 rfl ?_
      refine vc_icmp_ge dX4_part_12 (fun h1 => ?_) (fun h1 => ?_)
      · refine vc_aload_n dX4_part_69 rfl ?_
        refine vc_getR dX4_part_70 flX4_30 (s_22 hQ7.1.1) rfl (r_22_6 hQ7.1.1) ?_
        refine vc_iload_n dX4_part_73 rfl ?_
        refine vc_iload_n dX4_part_74 rfl ?_
        refine vc_iastore dX4_part_75 (s_28 hQ7.1.1) (by omega) (by omega) ?_
        have hB2 : BF fQ M (sI Mq7 28 v2.toNat le) := BF.w28 hQ7 (fun _ => rfl) _
        refine vc_aload_n dX4_part_76 rfl ?_
        refine vc_getR dX4_part_77 flX4_24 (s_22 hB2.1.1) rfl (r_22_4 hB2.1.1) ?_
        refine vc_iload_n dX4_part_80 rfl ?_
        refine vc_iconst dX4_part_81 rfl ?_
        refine vc_iastore dX4_part_82 (s_26 hB2.1.1) (by omega) (by omega) ?_
        have hB3 : BF fQ M (sI (sI Mq7 28 v2.toNat le) 26 v2.toNat 0) := BF.w26 hB2 (fun _ => rfl) _
        refine vc_vret dX4_part_83 rfl (Nat.le_of_ble_eq_true rfl) (Nat.le_of_ble_eq_true rfl) ?_
        exact ⟨rfl, hB3, by
          have q := fun A2 C2 hA hA0 hC hC0 => PT.tab (A2 := A2) (C2 := C2) g7i0 (by omega) (by omega) (by omega) hA hA0 hC hC0 301
          have h27 : mI (sI (sI Mq7 28 v2.toNat le) 26 v2.toNat 0) 27 = mI Mq7 27 := rfl
          rw [h27]
          exact q (mI (sI (sI Mq7 28 v2.toNat le) 26 v2.toNat 0) 26) (mI (sI (sI Mq7 28 v2.toNat le) 26 v2.toNat 0) 28) (fun j hj => by rw [mI_sI, if_neg (fun e => hj e.2), mI_sI, if_neg (fun e => by omega)]) mI_same (fun j hj => by rw [mI_sI, if_neg (fun e => by omega), mI_sI, if_neg (fun e => hj e.2)]) (by rw [mI_sI, if_neg (fun e => by omega), mI_same])⟩
      · refine vc_iload_n dX4_part_15 rfl ?_
        refine vc_iload_n dX4_part_16 rfl ?_
        refine vc_icmp_ge dX4_part_17 (fun h4 => ?_) (fun h4 => ?_)
        · refine vc_aload_n dX4_part_69 rfl ?_
          refine vc_getR dX4_part_70 flX4_30 (s_22 hQ7.1.1) rfl (r_22_6 hQ7.1.1) ?_
          refine vc_iload_n dX4_part_73 rfl ?_
          refine vc_iload_n dX4_part_74 rfl ?_
          refine vc_iastore dX4_part_75 (s_28 hQ7.1.1) (by omega) (by omega) ?_
          have hB5 : BF fQ M (sI Mq7 28 v2.toNat le) := BF.w28 hQ7 (fun _ => rfl) _
          refine vc_aload_n dX4_part_76 rfl ?_
          refine vc_getR dX4_part_77 flX4_24 (s_22 hB5.1.1) rfl (r_22_4 hB5.1.1) ?_
          refine vc_iload_n dX4_part_80 rfl ?_
          refine vc_iconst dX4_part_81 rfl ?_
          refine vc_iastore dX4_part_82 (s_26 hB5.1.1) (by omega) (by omega) ?_
          have hB6 : BF fQ M (sI (sI Mq7 28 v2.toNat le) 26 v2.toNat 0) := BF.w26 hB5 (fun _ => rfl) _
          refine vc_vret dX4_part_83 rfl (Nat.le_of_ble_eq_true rfl) (Nat.le_of_ble_eq_true rfl) ?_
          exact ⟨rfl, hB6, by
            have q := fun A2 C2 hA hA0 hC hC0 => PT.tab (A2 := A2) (C2 := C2) g7i0 (by omega) (by omega) (by omega) hA hA0 hC hC0 301
            have h27 : mI (sI (sI Mq7 28 v2.toNat le) 26 v2.toNat 0) 27 = mI Mq7 27 := rfl
            rw [h27]
            exact q (mI (sI (sI Mq7 28 v2.toNat le) 26 v2.toNat 0) 26) (mI (sI (sI Mq7 28 v2.toNat le) 26 v2.toNat 0) 28) (fun j hj => by rw [mI_sI, if_neg (fun e => hj e.2), mI_sI, if_neg (fun e => by omega)]) mI_same (fun j hj => by rw [mI_sI, if_neg (fun e => by omega), mI_sI, if_neg (fun e => hj e.2)]) (by rw [mI_sI, if_neg (fun e => by omega), mI_same])⟩
        · refine vc_iload_n dX4_part_20 rfl ?_
          refine vc_istore dX4_part_21 (by decide) rfl (show _ = [some (aR 22), some (aI le), some (aI v2), some (aI v3), some (aI v4), some (aI v3)] from rfl) ?_
          have hg21 : ∀ j, mI Mq7 21 j = mI M 21 j := fun j => hQ7.2.2 21 j rfl
          refine vc_aload_n dX4_part_23 rfl ?_
          refine vc_iload dX4_part_24 rfl ?_
          refine vc_iload_n dX4_part_26 rfl ?_
          refine vc_cVI dX4_part_27 (sfX4_endOfTokenF (M := Mq7) hQ7.1  v3 le (by omega) (by omega) (by omega) (by omega) (by omega)) rfl okX4_endOfToken viX4_endOfToken lkX4_84 (s_22 hQ7.1.1) cl_4 rfl (Nat.le_of_ble_eq_true rfl) ⟨rfl, rfl⟩ (Nat.le_of_ble_eq_true rfl) (Nat.le_of_ble_eq_true rfl) (Nat.le_of_ble_eq_true rfl) ?_
          rintro x7 _ ⟨rfl, h8, h9, h10, h11, h12⟩
          have hen : x7 = en (mI M 21) le v3 := by have q := h12; rw [show mI Mq7 21 = mI M 21 from funext hg21] at q; exact q
          refine vc_istore_n dX4_part_30 (by decide) rfl (show _ = [some (aR 22), some (aI le), some (aI v2), some (aI x7), some (aI v4), some (aI v3)] from rfl) ?_
          refine vc_aload_n dX4_part_31 rfl ?_
          refine vc_getR dX4_part_32 flX4_9 (s_22 hQ7.1.1) rfl (r_22_0 hQ7.1.1) ?_
          refine vc_iload dX4_part_35 rfl ?_
          refine vc_iaload dX4_part_37 (s_21 hQ7.1.1) (by omega) (by omega) ?_
          refine vc_cSI dX4_part_38 (sfX4_isBlankF (M := Mq7) hQ7.1  (mI Mq7 21 v3.toNat) ) rfl okX4_isBlank stX4_isBlank lkX4_87 rfl (Nat.le_of_ble_eq_true rfl) ⟨rfl, rfl⟩ (Nat.le_of_ble_eq_true rfl) (Nat.le_of_ble_eq_true rfl) (Nat.le_of_ble_eq_true rfl) ?_
          rintro x13 _ ⟨rfl, h14, h15, h16⟩
          refine vc_if_ne dX4_part_41 (fun h17 => ?_) (fun h17 => ?_)
          · have hpt : PT (mI M 21) le (mI Mq7 26) (mI Mq7 27) (mI Mq7 28) v2 x7 := PT.blank g7i0 (by omega) (by omega) (by rw [← hg21]; omega) hen
            refine vc_iincE dX4_part_63 rfl (by omega) (by omega) (by decide) rfl (show _ = [some (aR 22), some (aI le), some (aI v2), some (aI x7), some (aI (v4 + 1)), some (aI v3)] from rfl) ?_
            refine vc_goto dX4_part_66 ?_
            refine vc_less [some (aR 22), some (aI le), some (aI v2), some (aI x7), some (aI (v4 + 1)), none] (lessL_keep (lessL_keep (lessL_keep (lessL_keep (lessL_keep (lessL_drop (lessL_nil))))))) ?_
            exact ih7 Mq7 v2 x7 (v4 + 1) hQ7 (by omega) (by omega) (by omega) (by omega) (by omega) (by omega) (by first | exact PT.new | exact hpt) (by omega) (by omega)
          · refine vc_aload_n dX4_part_44 rfl ?_
            refine vc_getR dX4_part_45 flX4_30 (s_22 hQ7.1.1) rfl (r_22_6 hQ7.1.1) ?_
            refine vc_iload_n dX4_part_48 rfl ?_
            refine vc_iload dX4_part_49 rfl ?_
            refine vc_iastore dX4_part_51 (s_28 hQ7.1.1) (by omega) (by omega) ?_
            have hB18 : BF fQ M (sI Mq7 28 v2.toNat v3) := BF.w28 hQ7 (fun _ => rfl) _
            refine vc_aload_n dX4_part_52 rfl ?_
            refine vc_iload_n dX4_part_53 rfl ?_
            refine vc_iload dX4_part_54 rfl ?_
            refine vc_iload_n dX4_part_56 rfl ?_
            have h21 : mI (sI Mq7 28 v2.toNat v3) 21 = mI M 21 := funext fun j => (show mI (sI Mq7 28 v2.toNat v3) 21 j = mI Mq7 21 j from rfl).trans (hg21 j)
            refine vc_cVU dX4_part_57 (sfX4_setTokenF (M := (sI Mq7 28 v2.toNat v3)) hB18.1 le v2 v3 x7 (by omega) (by omega) (by omega) (by omega) (by omega) (by omega) (by rw [h21]; exact hen) (by omega) (by omega) (by rw [h21]; exact p2) (by omega)) rfl okX4_setToken viX4_setToken lkX4_91 (s_22 hB18.1.1) cl_4 rfl (Nat.le_of_ble_eq_true rfl) ⟨rfl, rfl⟩ (Nat.le_of_ble_eq_true rfl) (Nat.le_of_ble_eq_true rfl) (Nat.le_of_ble_eq_true rfl) ?_
            rintro M19 ⟨hB20, kp21, h22, h23⟩
            have hB24 : BF fQ M M19 := BF.go hB18 hB20
            have hpt : PT (mI M 21) le (mI M19 26) (mI M19 27) (mI M19 28) (v2 + 1) x7 := PT.add g7i0 (by omega) (by omega) (by omega) (by rw [← hg21]; omega) hen h22 (fun j hj => (congrFun kp21 j).trans (by rw [mI_sI, if_neg (fun e => hj e.2)])) ((congrFun kp21 v2.toNat).trans mI_same) (by have q := h23; rw [h21] at q; exact q)
            refine vc_iincE dX4_part_60 rfl (by omega) (by omega) (by decide) rfl (show _ = [some (aR 22), some (aI le), some (aI (v2 + 1)), some (aI x7), some (aI v4), some (aI v3)] from rfl) ?_
            refine vc_iincE dX4_part_63 rfl (by omega) (by omega) (by decide) rfl (show _ = [some (aR 22), some (aI le), some (aI (v2 + 1)), some (aI x7), some (aI (v4 + 1)), some (aI v3)] from rfl) ?_
            refine vc_goto dX4_part_66 ?_
            refine vc_less [some (aR 22), some (aI le), some (aI (v2 + 1)), some (aI x7), some (aI (v4 + 1)), none] (lessL_keep (lessL_keep (lessL_keep (lessL_keep (lessL_keep (lessL_drop (lessL_nil))))))) ?_
            exact ih7 M19 (v2 + 1) x7 (v4 + 1) hB24 (by omega) (by omega) (by omega) (by omega) (by omega) (by omega) (by first | exact PT.new | exact hpt) (by omega) (by omega)
  exact lp7 _ M 0 0 0 hB0 (by omega) (by omega) (by omega) (by omega) (by omega) (by omega) (by first | exact PT.new | exact hpt) (by omega) (Nat.lt_succ_self _)

set_option maxRecDepth 4000 in
theorem sfX4_takeTokenG {l : Launch} {M : Mem} (hB : Box M)   (p0 : mI M 22 9 = -1) : Call l mdX4_takeToken [aR 22] M (fun q N => ∃ r : Int, q = some (aI r) ∧ BF fQ M N ∧ mI N 23 = mI M 23 ∧ mI N 24 = mI M 24 ∧ mI N 26 = mI M 26 ∧ mI N 27 = mI M 27 ∧ mI N 28 = mI M 28 ∧ 1 ≤ r ∧ r ≤ 1 ∧ mI N 22 9 = 0 ∧ mI N 22 10 = mI M 26 0 ∧ mI N 22 11 = mI M 27 0 ∧ mI N 22 7 = mI M 22 7 ∧ mI N 22 8 = mI M 22 8 ∧ mI N 22 13 = mI M 22 13 ∧ mI N 22 12 = mI M 22 12) := by
  have hB0 : BF fQ M M := BF.start hB
  refine Call.of [some (aR 22)] rfl (Nat.le_of_ble_eq_true rfl) rfl ?_
  refine vc_aload_n dX4_takeToken_0 rfl ?_
  refine vc_getI dX4_takeToken_1 flX4_62 (s_22 hB0.1.1) rfl ?_
  have k1 : (-1) ≤ mI M 22 9 ∧ mI M 22 9 ≤ 300 := b22_9 (M := M) hB0.1
  refine vc_sipush dX4_takeToken_4 rfl ?_
  refine vc_icmp_ge dX4_takeToken_7 (fun h2 => ?_) (fun h2 => ?_)
  · refine vc_iconst dX4_takeToken_46 rfl ?_
    refine vc_zret dX4_takeToken_47 rfl (by first | decide | omega) (Nat.le_of_ble_eq_true rfl) (Nat.le_of_ble_eq_true rfl) ?_
    first | (exfalso; omega) | exact ⟨_, rfl, hB0, rfl, rfl, rfl, rfl, rfl, by omega, by omega, by omega, (by show mI M 26 (mI M 22 9 + 1).toNat = _; rw [p0]; rfl), (by show mI M 27 (mI M 22 9 + 1).toNat = _; rw [p0]; rfl), by omega, by omega, by omega, by omega⟩
  · refine vc_aload_n dX4_takeToken_10 rfl ?_
    refine vc_dup dX4_takeToken_11 rfl ?_
    refine vc_getI dX4_takeToken_12 flX4_62 (s_22 hB0.1.1) rfl ?_
    refine vc_iconst dX4_takeToken_15 rfl ?_
    refine vc_iaddE dX4_takeToken_16 (by omega) (by omega) ?_
    refine vc_putI dX4_takeToken_17 (plX4_62 _ rfl) (s_22 hB0.1.1) rfl ?_
    have kp3 : mI (sI M 22 9 ((mI M 22 9) + 1)) 23 = mI M 23 := (kp_sI rfl rfl)
    have kp4 : mI (sI M 22 9 ((mI M 22 9) + 1)) 24 = mI M 24 := (kp_sI rfl rfl)
    have kp5 : mI (sI M 22 9 ((mI M 22 9) + 1)) 26 = mI M 26 := (kp_sI rfl rfl)
    have kp6 : mI (sI M 22 9 ((mI M 22 9) + 1)) 27 = mI M 27 := (kp_sI rfl rfl)
    have kp7 : mI (sI M 22 9 ((mI M 22 9) + 1)) 28 = mI M 28 := (kp_sI rfl rfl)
    have hB8 : BF fQ M (sI M 22 9 ((mI M 22 9) + 1)) := BF.w22_9 hB0 rfl (by omega) (by omega)
    refine vc_aload_n dX4_takeToken_20 rfl ?_
    refine vc_aload_n dX4_takeToken_21 rfl ?_
    refine vc_getR dX4_takeToken_22 flX4_24 (s_22 hB8.1.1) rfl (r_22_4 hB8.1.1) ?_
    refine vc_aload_n dX4_takeToken_25 rfl ?_
    refine vc_getI dX4_takeToken_26 flX4_62 (s_22 hB8.1.1) rfl ?_
    refine vc_topI ((mI M 22 9) + 1) rfl ?_
    refine vc_iaload dX4_takeToken_29 (s_26 hB8.1.1) (by omega) (by omega) ?_
    refine vc_topI (mI M 26 (((mI M 22 9) + 1).toNat)) rfl ?_
    have k9 : mI M 26 (((mI M 22 9) + 1).toNat) = mI M 26 (((mI M 22 9) + 1).toNat) := congrFun kp5 (((mI M 22 9) + 1).toNat)
    refine vc_putI dX4_takeToken_30 (plX4_69 _ rfl) (s_22 hB8.1.1) rfl ?_
    have kp10 : mI (sI (sI M 22 9 ((mI M 22 9) + 1)) 22 10 (mI M 26 (((mI M 22 9) + 1).toNat))) 23 = mI M 23 := (kp_sI kp3 rfl)
    have kp11 : mI (sI (sI M 22 9 ((mI M 22 9) + 1)) 22 10 (mI M 26 (((mI M 22 9) + 1).toNat))) 24 = mI M 24 := (kp_sI kp4 rfl)
    have kp12 : mI (sI (sI M 22 9 ((mI M 22 9) + 1)) 22 10 (mI M 26 (((mI M 22 9) + 1).toNat))) 26 = mI M 26 := (kp_sI kp5 rfl)
    have kp13 : mI (sI (sI M 22 9 ((mI M 22 9) + 1)) 22 10 (mI M 26 (((mI M 22 9) + 1).toNat))) 27 = mI M 27 := (kp_sI kp6 rfl)
    have kp14 : mI (sI (sI M 22 9 ((mI M 22 9) + 1)) 22 10 (mI M 26 (((mI M 22 9) + 1).toNat))) 28 = mI M 28 := (kp_sI kp7 rfl)
    have hB15 : BF fQ M (sI (sI M 22 9 ((mI M 22 9) + 1)) 22 10 (mI M 26 (((mI M 22 9) + 1).toNat))) := BF.w22_10 hB8 rfl
    refine vc_aload_n dX4_takeToken_33 rfl ?_
    refine vc_aload_n dX4_takeToken_34 rfl ?_
    refine vc_getR dX4_takeToken_35 flX4_27 (s_22 hB15.1.1) rfl (r_22_5 hB15.1.1) ?_
    refine vc_aload_n dX4_takeToken_38 rfl ?_
    refine vc_getI dX4_takeToken_39 flX4_62 (s_22 hB15.1.1) rfl ?_
    refine vc_topI ((mI M 22 9) + 1) rfl ?_
    refine vc_iaload dX4_takeToken_42 (s_27 hB15.1.1) (by omega) (by omega) ?_
    refine vc_topI (mI M 27 (((mI M 22 9) + 1).toNat)) rfl ?_
    have k16 : mI M 27 (((mI M 22 9) + 1).toNat) = mI M 27 (((mI M 22 9) + 1).toNat) := congrFun kp13 (((mI M 22 9) + 1).toNat)
    refine vc_putI dX4_takeToken_43 (plX4_119 _ rfl) (s_22 hB15.1.1) rfl ?_
    have kp17 : mI (sI (sI (sI M 22 9 ((mI M 22 9) + 1)) 22 10 (mI M 26 (((mI M 22 9) + 1).toNat))) 22 11 (mI M 27 (((mI M 22 9) + 1).toNat))) 23 = mI M 23 := (kp_sI kp10 rfl)
    have kp18 : mI (sI (sI (sI M 22 9 ((mI M 22 9) + 1)) 22 10 (mI M 26 (((mI M 22 9) + 1).toNat))) 22 11 (mI M 27 (((mI M 22 9) + 1).toNat))) 24 = mI M 24 := (kp_sI kp11 rfl)
    have kp19 : mI (sI (sI (sI M 22 9 ((mI M 22 9) + 1)) 22 10 (mI M 26 (((mI M 22 9) + 1).toNat))) 22 11 (mI M 27 (((mI M 22 9) + 1).toNat))) 26 = mI M 26 := (kp_sI kp12 rfl)
    have kp20 : mI (sI (sI (sI M 22 9 ((mI M 22 9) + 1)) 22 10 (mI M 26 (((mI M 22 9) + 1).toNat))) 22 11 (mI M 27 (((mI M 22 9) + 1).toNat))) 27 = mI M 27 := (kp_sI kp13 rfl)
    have kp21 : mI (sI (sI (sI M 22 9 ((mI M 22 9) + 1)) 22 10 (mI M 26 (((mI M 22 9) + 1).toNat))) 22 11 (mI M 27 (((mI M 22 9) + 1).toNat))) 28 = mI M 28 := (kp_sI kp14 rfl)
    have hB22 : BF fQ M (sI (sI (sI M 22 9 ((mI M 22 9) + 1)) 22 10 (mI M 26 (((mI M 22 9) + 1).toNat))) 22 11 (mI M 27 (((mI M 22 9) + 1).toNat))) := BF.w22_11 hB15 rfl
    refine vc_iconst dX4_takeToken_46 rfl ?_
    refine vc_zret dX4_takeToken_47 rfl (by first | decide | omega) (Nat.le_of_ble_eq_true rfl) (Nat.le_of_ble_eq_true rfl) ?_
    have k23 : mI (sI (sI (sI M 22 9 ((mI M 22 9) + 1)) 22 10 (mI M 26 (((mI M 22 9) + 1).toNat))) 22 11 (mI M 27 (((mI M 22 9) + 1).toNat))) 22 7 = mI M 22 7 := rfl
    have k24 : mI (sI (sI (sI M 22 9 ((mI M 22 9) + 1)) 22 10 (mI M 26 (((mI M 22 9) + 1).toNat))) 22 11 (mI M 27 (((mI M 22 9) + 1).toNat))) 22 8 = mI M 22 8 := rfl
    have k25 : mI (sI (sI (sI M 22 9 ((mI M 22 9) + 1)) 22 10 (mI M 26 (((mI M 22 9) + 1).toNat))) 22 11 (mI M 27 (((mI M 22 9) + 1).toNat))) 22 9 = (mI M 22 9) + 1 := rfl
    have k26 : mI (sI (sI (sI M 22 9 ((mI M 22 9) + 1)) 22 10 (mI M 26 (((mI M 22 9) + 1).toNat))) 22 11 (mI M 27 (((mI M 22 9) + 1).toNat))) 22 10 = mI M 26 (((mI M 22 9) + 1).toNat) := rfl
    have k27 : mI (sI (sI (sI M 22 9 ((mI M 22 9) + 1)) 22 10 (mI M 26 (((mI M 22 9) + 1).toNat))) 22 11 (mI M 27 (((mI M 22 9) + 1).toNat))) 22 11 = mI M 27 (((mI M 22 9) + 1).toNat) := rfl
    have k28 : mI (sI (sI (sI M 22 9 ((mI M 22 9) + 1)) 22 10 (mI M 26 (((mI M 22 9) + 1).toNat))) 22 11 (mI M 27 (((mI M 22 9) + 1).toNat))) 22 12 = mI M 22 12 := rfl
    have k29 : mI (sI (sI (sI M 22 9 ((mI M 22 9) + 1)) 22 10 (mI M 26 (((mI M 22 9) + 1).toNat))) 22 11 (mI M 27 (((mI M 22 9) + 1).toNat))) 22 13 = mI M 22 13 := rfl
    have k30 : mI (sI (sI (sI M 22 9 ((mI M 22 9) + 1)) 22 10 (mI M 26 (((mI M 22 9) + 1).toNat))) 22 11 (mI M 27 (((mI M 22 9) + 1).toNat))) 22 14 = mI M 22 14 := rfl
    first | (exfalso; omega) | exact ⟨_, rfl, hB22, kp17, kp18, kp19, kp20, kp21, by omega, by omega, by omega, (by show mI M 26 (mI M 22 9 + 1).toNat = _; rw [p0]; rfl), (by show mI M 27 (mI M 22 9 + 1).toNat = _; rw [p0]; rfl), by omega, by omega, by omega, by omega⟩

set_option maxRecDepth 4000 in
theorem sfJ7_fill_53178_24F {l : Launch} {M : Mem} (hB : Box M)  (v : Int) (p0 : (-1) ≤ v) (p1 : v ≤ 300) : Call l mdJ7_fill_53178 [aR 24, aI v] M (fun q N => q = none ∧ BF fQ M N ∧ mI N 22 = mI M 22 ∧ mI N 26 = mI M 26 ∧ mI N 27 = mI M 27 ∧ mI N 28 = mI M 28 ∧ (∀ j : Nat, (j : Int) < 10 → mI N 24 j = v)) := by
  have hB0 : BF fQ M M := BF.start hB
  refine Call.of [some (aR 24), some (aI v), none, none] (by decide +kernel) (Nat.le_of_ble_eq_true rfl) rfl ?_
  refine vc_iconst dJ7_fill_53178_0 rfl ?_
  refine vc_istore_n dJ7_fill_53178_1 (by decide) rfl (show _ = [some (aR 24), some (aI v), some (aI 0), none] from rfl) ?_
  refine vc_aload_n dJ7_fill_53178_2 rfl ?_
  refine vc_alen dJ7_fill_53178_3 (s_24 hB0.1.1) rfl ?_
  refine vc_topI 10 rfl ?_
  refine vc_istore_n dJ7_fill_53178_4 (by decide) rfl (show _ = [some (aR 24), some (aI v), some (aI 0), some (aI 10)] from rfl) ?_
  have lp5 : ∀ (n5 : Nat) (Mq5 : Mem) (v2 : Int), (BF fQ M Mq5) → (mI Mq5 26 = mI M 26) → (mI Mq5 27 = mI M 27) → (mI Mq5 28 = mI M 28) → (mI Mq5 22 = mI M 22) → (0 ≤ v2) → (v2 ≤ 10) → (∀ j : Nat, (j : Int) < v2 → mI Mq5 24 j = v) → (10 - v2).toNat < n5 → VC l mdJ7_fill_53178 5 [some (aR 24), some (aI v), some (aI v2), some (aI 10)] [] Mq5 0 0 (fun q N => q = none ∧ BF fQ M N ∧ mI N 22 = mI M 22 ∧ mI N 26 = mI M 26 ∧ mI N 27 = mI M 27 ∧ mI N 28 = mI M 28 ∧ (∀ j : Nat, (j : Int) < 10 → mI N 24 j = v)) := by
    intro n5
    induction n5 with
    | zero => intro Mq5 v2 hQ5 kp5_26 kp5_27 kp5_28 kp5_22 g5_2a g5_2b g5i0 hm5; exact absurd hm5 (Nat.not_lt_zero _)
    | succ n5 ih5 =>
      intro Mq5 v2 hQ5 kp5_26 kp5_27 kp5_28 kp5_22 g5_2a g5_2b g5i0 hm5
      refine vc_iload_n dJ7_fill_53178_5 rfl ?_
      refine vc_iload_n dJ7_fill_53178_6 rfl ?_
      refine vc_icmp_ge dJ7_fill_53178_7 (fun h1 => ?_) (fun h1 => ?_)
      · refine vc_vret dJ7_fill_53178_20 rfl (Nat.le_of_ble_eq_true rfl) (Nat.le_of_ble_eq_true rfl) ?_
        exact ⟨rfl, hQ5, kp5_22, kp5_26, kp5_27, kp5_28, by intro j hj; exact g5i0 j (by omega)⟩
      · refine vc_aload_n dJ7_fill_53178_10 rfl ?_
        refine vc_iload_n dJ7_fill_53178_11 rfl ?_
        refine vc_iload_n dJ7_fill_53178_12 rfl ?_
        refine vc_iastore dJ7_fill_53178_13 (s_24 hQ5.1.1) (by omega) (by omega) ?_
        have kp2 : mI (sI Mq5 24 v2.toNat v) 26 = mI M 26 := (kp_sI kp5_26 rfl)
        have kp3 : mI (sI Mq5 24 v2.toNat v) 27 = mI M 27 := (kp_sI kp5_27 rfl)
        have kp4 : mI (sI Mq5 24 v2.toNat v) 28 = mI M 28 := (kp_sI kp5_28 rfl)
        have kp5 : mI (sI Mq5 24 v2.toNat v) 22 = mI M 22 := (kp_sI kp5_22 rfl)
        have hB6 : BF fQ M (sI Mq5 24 v2.toNat v) := BF.w24 hQ5 (fun _ => rfl) _ (by omega) (by omega)
        refine vc_iincE dJ7_fill_53178_14 rfl (by omega) (by omega) (by decide) rfl (show _ = [some (aR 24), some (aI v), some (aI (v2 + 1)), some (aI 10)] from rfl) ?_
        refine vc_goto dJ7_fill_53178_17 ?_
        exact ih5 (sI Mq5 24 v2.toNat v) (v2 + 1) hB6 kp2 kp3 kp4 kp5 (by omega) (by omega) (by first | (intro j hj; exfalso; omega) | (intro j hj; by_cases e : (j : Int) = v2; (rw [show j = v2.toNat by omega]; exact mI_same); (rw [mI_sI, if_neg (fun q => by omega)]; exact g5i0 j (by omega)))) (by omega)
  exact lp5 _ M 0 hB0 rfl rfl rfl rfl (by omega) (by omega) (by first | (intro j hj; exfalso; omega) | (intro j hj; by_cases e : (j : Int) = v2; (rw [show j = v2.toNat by omega]; exact mI_same); (rw [mI_sI, if_neg (fun q => by omega)]; exact g5i0 j (by omega)))) (Nat.lt_succ_self _)

set_option maxRecDepth 4000 in
theorem sfJ7_fill_53178_25F {l : Launch} {M : Mem} (hB : Box M)  (v : Int)  : Call l mdJ7_fill_53178 [aR 25, aI v] M (fun q N => q = none ∧ BF fQ M N ∧ mI N 22 = mI M 22 ∧ mI N 24 = mI M 24 ∧ mI N 26 = mI M 26 ∧ mI N 27 = mI M 27 ∧ mI N 28 = mI M 28) := by
  have hB0 : BF fQ M M := BF.start hB
  refine Call.of [some (aR 25), some (aI v), none, none] (by decide +kernel) (Nat.le_of_ble_eq_true rfl) rfl ?_
  refine vc_ok (fun hoM hoS hoL => ?_)
  have hr1 : -2147483648 ≤ v ∧ v < 2147483648 := hoL 1 _ rfl
  refine vc_iconst dJ7_fill_53178_0 rfl ?_
  refine vc_istore_n dJ7_fill_53178_1 (by decide) rfl (show _ = [some (aR 25), some (aI v), some (aI 0), none] from rfl) ?_
  refine vc_aload_n dJ7_fill_53178_2 rfl ?_
  refine vc_alen dJ7_fill_53178_3 (s_25 hB0.1.1) rfl ?_
  refine vc_topI 120 rfl ?_
  refine vc_istore_n dJ7_fill_53178_4 (by decide) rfl (show _ = [some (aR 25), some (aI v), some (aI 0), some (aI 120)] from rfl) ?_
  have lp5 : ∀ (n5 : Nat) (Mq5 : Mem) (v2 : Int), (BF fQ M Mq5) → (mI Mq5 22 = mI M 22) → (mI Mq5 24 = mI M 24) → (mI Mq5 26 = mI M 26) → (mI Mq5 27 = mI M 27) → (mI Mq5 28 = mI M 28) → (0 ≤ v2) → (v2 ≤ 120) → (120 - v2).toNat < n5 → VC l mdJ7_fill_53178 5 [some (aR 25), some (aI v), some (aI v2), some (aI 120)] [] Mq5 0 0 (fun q N => q = none ∧ BF fQ M N ∧ mI N 22 = mI M 22 ∧ mI N 24 = mI M 24 ∧ mI N 26 = mI M 26 ∧ mI N 27 = mI M 27 ∧ mI N 28 = mI M 28) := by
    intro n5
    induction n5 with
    | zero => intro Mq5 v2 hQ5 kp5_22 kp5_24 kp5_26 kp5_27 kp5_28 g5_2a g5_2b hm5; exact absurd hm5 (Nat.not_lt_zero _)
    | succ n5 ih5 =>
      intro Mq5 v2 hQ5 kp5_22 kp5_24 kp5_26 kp5_27 kp5_28 g5_2a g5_2b hm5
      refine vc_iload_n dJ7_fill_53178_5 rfl ?_
      refine vc_iload_n dJ7_fill_53178_6 rfl ?_
      refine vc_icmp_ge dJ7_fill_53178_7 (fun h1 => ?_) (fun h1 => ?_)
      · refine vc_vret dJ7_fill_53178_20 rfl (Nat.le_of_ble_eq_true rfl) (Nat.le_of_ble_eq_true rfl) ?_
        exact ⟨rfl, hQ5, kp5_22, kp5_24, kp5_26, kp5_27, kp5_28⟩
      · refine vc_aload_n dJ7_fill_53178_10 rfl ?_
        refine vc_iload_n dJ7_fill_53178_11 rfl ?_
        refine vc_iload_n dJ7_fill_53178_12 rfl ?_
        refine vc_iastore dJ7_fill_53178_13 (s_25 hQ5.1.1) (by omega) (by omega) ?_
        have kp2 : mI (sI Mq5 25 v2.toNat v) 22 = mI M 22 := (kp_sI kp5_22 rfl)
        have kp3 : mI (sI Mq5 25 v2.toNat v) 24 = mI M 24 := (kp_sI kp5_24 rfl)
        have kp4 : mI (sI Mq5 25 v2.toNat v) 26 = mI M 26 := (kp_sI kp5_26 rfl)
        have kp5 : mI (sI Mq5 25 v2.toNat v) 27 = mI M 27 := (kp_sI kp5_27 rfl)
        have kp6 : mI (sI Mq5 25 v2.toNat v) 28 = mI M 28 := (kp_sI kp5_28 rfl)
        have hB7 : BF fQ M (sI Mq5 25 v2.toNat v) := BF.w25 hQ5 (fun _ => rfl) _
        refine vc_iincE dJ7_fill_53178_14 rfl (by omega) (by omega) (by decide) rfl (show _ = [some (aR 25), some (aI v), some (aI (v2 + 1)), some (aI 120)] from rfl) ?_
        refine vc_goto dJ7_fill_53178_17 ?_
        exact ih5 (sI Mq5 25 v2.toNat v) (v2 + 1) hB7 kp2 kp3 kp4 kp5 kp6 (by omega) (by omega) (by omega)
  exact lp5 _ M 0 hB0 rfl rfl rfl rfl rfl (by omega) (by omega) (Nat.lt_succ_self _)

/-- what was read, clause by clause -/
def RI9 (g : Nat → Int) (n : Int) (N : Mem) (i : Int) : Prop := (∀ q, RS g n N q → q = plS (tk g n) (nx g n) (skb g n 0) i.toNat) ∧ ∀ e : Nat, (e : Int) < i → Q25 (tk g n) (nx g n) (mI N 25) e (plS (tk g n) (nx g n) (skb g n 0) e)
def RD9 (g : Nat → Int) (n : Int) (N : Mem) : Prop := tk g n (plS (tk g n) (nx g n) (skb g n 0) (mI N 22 13).toNat) = 0 ∧ ∀ e : Nat, (e : Int) < mI N 22 13 → Q25 (tk g n) (nx g n) (mI N 25) e (plS (tk g n) (nx g n) (skb g n 0) e)
theorem RI9.next {g : Nat → Int} {n : Int} {M N : Mem} {i q r : Int} {on : Int → Int} (h : RI9 g n M i) (hq : RS g n M q) (i0 : 0 ≤ i) (hi : mI M 22 13 = i) (hc : CR g n N r (sClause (tk g n) (nx g n) on i q)) (hr : r = 1) (h25 : r = 1 → Q25 (tk g n) (nx g n) (mI N 25) (mI M 22 13).toNat q ∧ ∀ j : Nat, (j : Int) < 5 * mI M 22 13 → mI N 25 j = mI M 25 j) : RI9 g n N (i + 1) := by
  have eq := h.1 q hq
  obtain ⟨a, b⟩ := h25 hr
  rcases hc with ⟨_, c1, c2⟩ | ⟨c, _⟩
  · have k := sClause_ok c1
    rw [k.1] at c2
    refine ⟨fun q2 h2 => ?_, fun e he => ?_⟩
    · rw [RS.uq c2 h2, show (i + 1).toNat = i.toNat + 1 by omega, eq]
      rfl
    · by_cases e1 : (e : Int) = i
      · rw [hi, show i.toNat = e by omega] at a
        rw [show i.toNat = e by omega] at eq
        rw [← eq]
        exact a
      · exact (h.2 e (by omega)).co (fun j j1 j2 => b j (by omega))
  · omega
theorem LC.co {f f' : Nat → Int} {k x : Int → Int} {w p a b : Int} (h : LC f k x w p a b) (hf : ∀ j : Nat, (j : Int) < b → f' j = f j) : LC f' k x w p a b := by
  obtain ⟨c, h1, h2, h3, h4, h5, h6⟩ := h
  exact ⟨c, h1, h2, h3, h4, h5, fun i hi => (hf _ (by omega)).trans (h6 i hi)⟩
/-- the code of the laws that were read -/
def LWI (g : Nat → Int) (n : Int) (N : Mem) (i : Int) : Prop := mI N 22 12 ≤ mI N 22 9 ∧ (∀ e : Nat, (e : Int) < i → 0 ≤ tk g n (plS (tk g n) (nx g n) (skb g n 0) e) - 101 → tk g n (plS (tk g n) (nx g n) (skb g n 0) e) - 101 ≤ 4 → LC (mI N 23) (tk g n) (nx g n) (tk g n (plS (tk g n) (nx g n) (skb g n 0) e) - 101) (nx g n (plS (tk g n) (nx g n) (skb g n 0) e)) (mI N 24 (2 * (tk g n (plS (tk g n) (nx g n) (skb g n 0) e) - 101)).toNat) (mI N 24 (2 * (tk g n (plS (tk g n) (nx g n) (skb g n 0) e) - 101) + 1).toNat) ∧ mI N 24 (2 * (tk g n (plS (tk g n) (nx g n) (skb g n 0) e) - 101) + 1).toNat ≤ mI N 22 12) ∧ ∀ w : Nat, w ≤ 4 → (∀ e : Nat, (e : Int) < i → tk g n (plS (tk g n) (nx g n) (skb g n 0) e) - 101 ≠ w) → mI N 24 (2 * w) = -1
theorem LWI.next {g : Nat → Int} {n : Int} {M N : Mem} {i q : Int} (h : LWI g n M i) (hr : RI9 g n M i) (hq : RS g n M q) (i0 : 0 ≤ i) (hl : LAWC g n M N q) : LWI g n N (i + 1) := by
  have eq := hr.1 q hq
  obtain ⟨h1, h2, h3⟩ := h
  obtain ⟨l1, l2, l3, l4⟩ := hl
  refine ⟨by omega, fun e he w0 w4 => ?_, fun w hw hn => ?_⟩
  · by_cases e1 : (e : Int) = i
    · rw [show i.toNat = e by omega] at eq
      rw [← eq] at w0 w4 ⊢
      obtain ⟨a1, a2, a3, a4, a5⟩ := l4 w0 w4
      exact ⟨a3, by omega⟩
    · obtain ⟨b1, b2⟩ := h2 e (by omega) w0 w4
      obtain ⟨w, hw⟩ : ∃ w, w = tk g n (plS (tk g n) (nx g n) (skb g n 0) e) - 101 := ⟨_, rfl⟩
      rw [← hw] at w0 w4 b1 b2 ⊢
      have hb0 : 0 ≤ mI M 24 (2 * w).toNat := by
        obtain ⟨c, z1, z2, z3, z4, z5, z6⟩ := b1
        exact z4
      have same : mI N 24 (2 * w).toNat = mI M 24 (2 * w).toNat ∧ mI N 24 (2 * w + 1).toNat = mI M 24 (2 * w + 1).toNat := by
        by_cases c5 : 5 ≤ tk g n q - 101
        · rw [l3 c5]
          exact ⟨rfl, rfl⟩
        · by_cases c0 : 0 ≤ tk g n q - 101
          · obtain ⟨a1, a2, _⟩ := l4 c0 (by omega)
            have ne : w ≠ tk g n q - 101 := fun z => by
              rw [z, a1] at hb0
              omega
            exact ⟨a2 _ (by omega) (by omega), a2 _ (by omega) (by omega)⟩
          · exfalso
            omega
      rw [same.1, same.2]
      exact ⟨b1.co (fun j hj => l2 j (by omega)), by omega⟩
  · have z := h3 w hw (fun e he => hn e (by omega))
    have ne := hn i.toNat (by omega)
    rw [← eq] at ne
    by_cases c5 : 5 ≤ tk g n q - 101
    · rw [l3 c5]
      exact z
    · by_cases c0 : 0 ≤ tk g n q - 101
      · obtain ⟨a1, a2, _⟩ := l4 c0 (by omega)
        rw [a2 _ (by omega) (by omega)]
        exact z
      · exfalso
        omega
set_option maxRecDepth 4000 in
theorem sfX4_readsF {l : Launch} {M : Mem} (hB : Box M)  (b : Int) (p0 : 0 ≤ b) (p1 : b ≤ 300) (p2 : byt (mI M 21)) : Call l mdX4_reads [aR 22, aI b] M (fun q N => ∃ r : Int, q = some (aI r) ∧ BF fQ M N ∧ 0 ≤ r ∧ r ≤ 1 ∧ (r = 1 → LWI (mI M 21) b N (mI N 22 13)) ∧ (r = 1 → RD9 (mI M 21) b N) ∧ TX (sText (tk (mI M 21) b) (nx (mI M 21) b) 25 (fun _ => 0) 0 (skb (mI M 21) b 0)) r (mI N 22 7) (mI N 22 8)) := by
  have hB0 : BF fQ M M := BF.start hB
  refine Call.of [some (aR 22), some (aI b), none, none] rfl (Nat.le_of_ble_eq_true rfl) rfl ?_
  refine vc_aload_n dX4_reads_0 rfl ?_
  refine vc_iload_n dX4_reads_1 rfl ?_
  refine vc_sipush dX4_reads_2 rfl ?_
  refine vc_mminI dX4_reads_5 lkX4_33 (Nat.le_of_ble_eq_true rfl) (Nat.le_of_ble_eq_true rfl) (Nat.le_of_ble_eq_true rfl) ?_
  have k1 := minZ_bd b 300
  refine vc_cVU dX4_reads_8 (sfX4_partF (M := M) hB0.1  (minZ b 300) (by omega) (by omega) (by exact p2)) rfl okX4_part viX4_part lkX4_39 (s_22 hB0.1.1) cl_4 rfl (Nat.le_of_ble_eq_true rfl) ⟨rfl, rfl⟩ (Nat.le_of_ble_eq_true rfl) (Nat.le_of_ble_eq_true rfl) (Nat.le_of_ble_eq_true rfl) ?_
  rintro M2 ⟨hB3, h4⟩
  have hB5 : BF fQ M M2 := BF.go hB0 hB3
  have htab := h4
  rw [show minZ b 300 = b by have := minZ_bd b 300; omega] at htab
  refine vc_aload_n dX4_reads_11 rfl ?_
  refine vc_iconst dX4_reads_12 rfl ?_
  refine vc_putI dX4_reads_13 (plX4_43 _ rfl) (s_22 hB5.1.1) rfl ?_
  have hB6 : BF fQ M (sI M2 22 7 0) := BF.w22_7 hB5 rfl
  refine vc_aload_n dX4_reads_16 rfl ?_
  refine vc_iconst dX4_reads_17 rfl ?_
  refine vc_putI dX4_reads_18 (plX4_47 _ rfl) (s_22 hB6.1.1) rfl ?_
  have hB7 : BF fQ M (sI (sI M2 22 7 0) 22 8 (-1)) := BF.w22_8 hB6 rfl
  refine vc_aload_n dX4_reads_21 rfl ?_
  refine vc_iconst dX4_reads_22 rfl ?_
  refine vc_putI dX4_reads_23 (plX4_50 _ rfl) (s_22 hB7.1.1) rfl ?_
  have hB8 : BF fQ M (sI (sI (sI M2 22 7 0) 22 8 (-1)) 22 12 0) := BF.w22_12 hB7 rfl (by omega) (by omega)
  refine vc_aload_n dX4_reads_26 rfl ?_
  refine vc_iconst dX4_reads_27 rfl ?_
  refine vc_putI dX4_reads_28 (plX4_53 _ rfl) (s_22 hB8.1.1) rfl ?_
  have hB9 : BF fQ M (sI (sI (sI (sI M2 22 7 0) 22 8 (-1)) 22 12 0) 22 13 0) := BF.w22_13 hB8 rfl (by omega) (by omega)
  refine vc_aload_n dX4_reads_31 rfl ?_
  refine vc_getR dX4_reads_32 flX4_18 (s_22 hB9.1.1) rfl (r_22_2 hB9.1.1) ?_
  refine vc_iconst dX4_reads_35 rfl ?_
  have k10 : mI (sI (sI (sI (sI M2 22 7 0) 22 8 (-1)) 22 12 0) 22 13 0) 22 9 = mI M2 22 9 := rfl
  have k11 : mI (sI (sI (sI (sI M2 22 7 0) 22 8 (-1)) 22 12 0) 22 13 0) 22 13 = 0 := rfl
  have k12 : mI (sI (sI (sI (sI M2 22 7 0) 22 8 (-1)) 22 12 0) 22 13 0) 22 7 = 0 := rfl
  have k13 : mI (sI (sI (sI (sI M2 22 7 0) 22 8 (-1)) 22 12 0) 22 13 0) 22 8 = (-1) := rfl
  have k14 : mI (sI (sI (sI (sI M2 22 7 0) 22 8 (-1)) 22 12 0) 22 13 0) 22 12 = 0 := rfl
  refine vc_cSU dX4_reads_36 (sfJ7_fill_53178_24F (M := (sI (sI (sI (sI M2 22 7 0) 22 8 (-1)) 22 12 0) 22 13 0)) hB9.1  (-1) (by omega) (by omega)) rfl okJ7_fill_53178 stJ7_fill_53178 lkX4_56 rfl (Nat.le_of_ble_eq_true rfl) ⟨rfl, rfl⟩ (Nat.le_of_ble_eq_true rfl) (Nat.le_of_ble_eq_true rfl) (Nat.le_of_ble_eq_true rfl) ?_
  rintro M15 ⟨hB16, kp17, kp18, kp19, kp20, h21⟩
  have hB22 : BF fQ M M15 := BF.go hB9 hB16
  have fe23 : mI M15 22 9 = mI M2 22 9 := congrFun kp17 9
  have fe24 : mI M15 22 13 = 0 := congrFun kp17 13
  have fe25 : mI M15 22 7 = 0 := congrFun kp17 7
  have fe26 : mI M15 22 8 = (-1) := congrFun kp17 8
  have fe27 : mI M15 22 12 = 0 := congrFun kp17 12
  have hfil := h21
  refine vc_aload_n dX4_reads_39 rfl ?_
  refine vc_getR dX4_reads_40 flX4_21 (s_22 hB22.1.1) rfl (r_22_3 hB22.1.1) ?_
  refine vc_iconst dX4_reads_43 rfl ?_
  refine vc_cSU dX4_reads_44 (sfJ7_fill_53178_25F (M := M15) hB22.1  0 ) rfl okJ7_fill_53178 stJ7_fill_53178 lkX4_56 rfl (Nat.le_of_ble_eq_true rfl) ⟨rfl, rfl⟩ (Nat.le_of_ble_eq_true rfl) (Nat.le_of_ble_eq_true rfl) (Nat.le_of_ble_eq_true rfl) ?_
  rintro M28 ⟨hB29, kp30, kp31, kp32, kp33, kp34⟩
  have hB35 : BF fQ M M28 := BF.go hB22 hB29
  have fe36 : mI M28 22 9 = mI M15 22 9 := congrFun kp30 9
  have fe37 : mI M28 22 13 = mI M15 22 13 := congrFun kp30 13
  have fe38 : mI M28 22 7 = mI M15 22 7 := congrFun kp30 7
  have fe39 : mI M28 22 8 = mI M15 22 8 := congrFun kp30 8
  have fe40 : mI M28 22 12 = mI M15 22 12 := congrFun kp30 12
  refine vc_aload_n dX4_reads_47 rfl ?_
  refine vc_iconst dX4_reads_48 rfl ?_
  refine vc_putI dX4_reads_49 (plX4_62 _ rfl) (s_22 hB35.1.1) rfl ?_
  have hB41 : BF fQ M (sI M28 22 9 (-1)) := BF.w22_9 hB35 rfl (by omega) (by omega)
  refine vc_aload_n dX4_reads_52 rfl ?_
  have k42 : mI (sI M28 22 9 (-1)) 22 9 = (-1) := rfl
  have k43 : mI (sI M28 22 9 (-1)) 22 13 = mI M28 22 13 := rfl
  have k44 : mI (sI M28 22 9 (-1)) 22 7 = mI M28 22 7 := rfl
  have k45 : mI (sI M28 22 9 (-1)) 22 8 = mI M28 22 8 := rfl
  have k46 : mI (sI M28 22 9 (-1)) 22 12 = mI M28 22 12 := rfl
  refine vc_cVI dX4_reads_53 (sfX4_takeTokenG (M := (sI M28 22 9 (-1))) hB41.1   (by omega)) rfl okX4_takeToken viX4_takeToken lkX4_65 (s_22 hB41.1.1) cl_4 rfl (Nat.le_of_ble_eq_true rfl) ⟨rfl, rfl⟩ (Nat.le_of_ble_eq_true rfl) (Nat.le_of_ble_eq_true rfl) (Nat.le_of_ble_eq_true rfl) ?_
  rintro x47 M48 ⟨hB49, kp50, kp51, kp52, kp53, kp54, h55, h56, h57, h58, h59, h60, h61, h62, h63⟩
  have hB64 : BF fQ M M48 := BF.go hB41 hB49
  have hc26 : mI M48 26 = mI M2 26 := (kp52.trans (((kp_sI kp32 rfl : mI (sI M28 22 9 (-1)) 26 = _)).trans kp18))
  have hc27 : mI M48 27 = mI M2 27 := (kp53.trans (((kp_sI kp33 rfl : mI (sI M28 22 9 (-1)) 27 = _)).trans kp19))
  have hc28 : mI M48 28 = mI M2 28 := (kp54.trans (((kp_sI kp34 rfl : mI (sI M28 22 9 (-1)) 28 = _)).trans kp20))
  have hc24 : mI M48 24 = mI M15 24 := kp51.trans (kp_sI kp31 rfl)
  have h22a := congrFun kp30
  have h22b := congrFun kp17
  have h7 : mI M48 22 7 = 0 := h60.trans ((h22a 7).trans (h22b 7))
  have h8 : mI M48 22 8 = -1 := h61.trans ((h22a 8).trans (h22b 8))
  have h13 : mI M48 22 13 = 0 := h62.trans ((h22a 13).trans (h22b 13))
  have hRN : RS (mI M 21) b M48 (skb (mI M 21) b 0) := RS.new p2 (by omega) (by omega) (by rw [hc26, hc27, hc28]; exact htab) h57 (by rw [hc26]; exact h58.trans (congrFun ((kp_sI kp32 rfl : mI (sI M28 22 9 (-1)) 26 = _).trans kp18) 0)) (by rw [hc27]; exact h59.trans (congrFun ((kp_sI kp33 rfl : mI (sI M28 22 9 (-1)) 27 = _).trans kp19) 0)) h7 h8
  have honN : ONr (mI M48 24) (fun _ => 0) := fun v a c => Or.inl ⟨by rw [hc24]; exact hfil _ (by omega), by show (0 : Int) ≠ 1; decide⟩
  have h12 : mI M48 22 12 = 0 := h63.trans ((h22a 12).trans (h22b 12))
  have hlw0 : LWI (mI M 21) b M48 0 := ⟨by omega, fun e he => absurd he (by omega), fun w hw _ => by rw [hc24]; exact hfil _ (by omega)⟩
  have hri0 : RI9 (mI M 21) b M48 0 := ⟨fun q2 h2 => RS.uq hRN h2, fun e he => absurd he (by omega)⟩
  have hfirst : TI (mI M 21) b M48 1 0 (sText (tk (mI M 21) b) (nx (mI M 21) b) 25 (fun _ => 0) 0 (skb (mI M 21) b 0)) := Or.inl ⟨rfl, _, _, hRN, honN, h13, rfl⟩
  refine vc_pop dX4_reads_56 rfl ?_
  refine vc_iconst dX4_reads_57 rfl ?_
  refine vc_istore_n dX4_reads_58 (by decide) rfl (show _ = [some (aR 22), some (aI b), some (aI 1), none] from rfl) ?_
  refine vc_iconst dX4_reads_59 rfl ?_
  refine vc_istore_n dX4_reads_60 (by decide) rfl (show _ = [some (aR 22), some (aI b), some (aI 1), some (aI 0)] from rfl) ?_
  have lp61 : ∀ (n61 : Nat) (Mq61 : Mem) (v2 : Int) (v3 : Int), (BF fQ M Mq61) → (0 ≤ v2) → (v2 ≤ 1) → (0 ≤ v3) → (v3 ≤ 25) → (TI (mI M 21) b Mq61 v2 v3 (sText (tk (mI M 21) b) (nx (mI M 21) b) 25 (fun _ => 0) 0 (skb (mI M 21) b 0))) → (0 ≤ mI Mq61 22 9) → (v2 = 1 → RI9 (mI M 21) b Mq61 v3) → (v2 = 1 → LWI (mI M 21) b Mq61 v3) → (25 - v3).toNat < n61 → VC l mdX4_reads 61 [some (aR 22), none, some (aI v2), some (aI v3)] [] Mq61 0 0 (fun q N => ∃ r : Int, q = some (aI r) ∧ BF fQ M N ∧ 0 ≤ r ∧ r ≤ 1 ∧ (r = 1 → LWI (mI M 21) b N (mI N 22 13)) ∧ (r = 1 → RD9 (mI M 21) b N) ∧ TX (sText (tk (mI M 21) b) (nx (mI M 21) b) 25 (fun _ => 0) 0 (skb (mI M 21) b 0)) r (mI N 22 7) (mI N 22 8)) := by
    intro n61
    induction n61 with
    | zero => intro Mq61 v2 v3 hQ61 g61_2a g61_2b g61_3a g61_3b g61i0 g61i1 g61i2 g61i3 hm61; exact absurd hm61 (Nat.not_lt_zero _)
    | succ n61 ih61 =>
      intro Mq61 v2 v3 hQ61 g61_2a g61_2b g61_3a g61_3b g61i0 g61i1 g61i2 g61i3 hm61
      refine vc_iload_n dX4_reads_61 rfl ?_
      refine vc_bipush dX4_reads_62 rfl ?_
      refine vc_icmp_gt dX4_reads_64 (fun h65 => ?_) (fun h65 => ?_)
      · refine vc_iload_n dX4_reads_89 rfl ?_
        refine vc_zret dX4_reads_90 rfl (by first | decide | omega) (Nat.le_of_ble_eq_true rfl) (Nat.le_of_ble_eq_true rfl) ?_
        exact ⟨_, rfl, hQ61, by omega, by omega, fun hr => by exfalso; rcases g61i0 with ⟨_, q9, on9, _, _, z9, _⟩ | ⟨z9, _⟩; (have zb := b22_13 (M := Mq61) hQ61.1; omega); omega, fun hr => by exfalso; rcases g61i0 with ⟨_, q9, on9, _, _, z9, _⟩ | ⟨z9, _⟩; (have zb := b22_13 (M := Mq61) hQ61.1; omega); omega, (by first | exact TI.nul g61i0 (by omega) | exact TI.end g61i0 (by omega))⟩
      · refine vc_iload_n dX4_reads_67 rfl ?_
        refine vc_if_eq dX4_reads_68 (fun h66 => ?_) (fun h66 => ?_)
        · refine vc_iload_n dX4_reads_89 rfl ?_
          refine vc_zret dX4_reads_90 rfl (by first | decide | omega) (Nat.le_of_ble_eq_true rfl) (Nat.le_of_ble_eq_true rfl) ?_
          exact ⟨_, rfl, hQ61, by omega, by omega, fun hr => by exfalso; rcases g61i0 with ⟨_, q9, on9, _, _, z9, _⟩ | ⟨z9, _⟩; (have zb := b22_13 (M := Mq61) hQ61.1; omega); omega, fun hr => by exfalso; rcases g61i0 with ⟨_, q9, on9, _, _, z9, _⟩ | ⟨z9, _⟩; (have zb := b22_13 (M := Mq61) hQ61.1; omega); omega, (by first | exact TI.nul g61i0 (by omega) | exact TI.end g61i0 (by omega))⟩
        · obtain ⟨q, on, hRq, hon, h13, hSq⟩ := TI.ok g61i0 (by omega)
          have ct67 := RS.ct hRq
          unfold CT at ct67
          refine vc_aload_n dX4_reads_71 rfl ?_
          refine vc_getI dX4_reads_72 flX4_69 (s_22 hQ61.1.1) rfl ?_
          refine vc_if_eq dX4_reads_75 (fun h68 => ?_) (fun h68 => ?_)
          · refine vc_iload_n dX4_reads_89 rfl ?_
            refine vc_zret dX4_reads_90 rfl (by first | decide | omega) (Nat.le_of_ble_eq_true rfl) (Nat.le_of_ble_eq_true rfl) ?_
            exact ⟨_, rfl, hQ61, by omega, by omega, fun hr => by rw [h13]; exact g61i3 hr, fun hr => by have z := g61i2 hr; have z1 := z.1 q hRq; exact ⟨by rw [h13, ← z1]; omega, fun e he => z.2 e (by omega)⟩, TI.fin (i := v3) (by omega) hRq hSq (by omega)⟩
          · refine vc_aload_n dX4_reads_78 rfl ?_
            refine vc_cVI dX4_reads_79 (sfX4_readClauseF (M := Mq61) hQ61.1  (mI M 21) b q hRq on v3 hon h13 (g61i3 (by omega)).1 ) rfl okX4_readClause viX4_readClause lkX4_72 (s_22 hQ61.1.1) cl_4 rfl (Nat.le_of_ble_eq_true rfl) ⟨rfl, rfl⟩ (Nat.le_of_ble_eq_true rfl) (Nat.le_of_ble_eq_true rfl) (Nat.le_of_ble_eq_true rfl) ?_
            rintro x69 M70 ⟨hB71, kp72, kp73, kp74, h75, h76, h77, h78, h79, h80, h81⟩
            have hB82 : BF fQ M M70 := BF.go hQ61 hB71
            refine vc_istore_n dX4_reads_82 (by decide) rfl (show _ = [some (aR 22), none, some (aI x69), some (aI v3)] from rfl) ?_
            have hlw : x69 = 1 → LWI (mI M 21) b M70 (v3 + 1) := fun h1 => LWI.next (g61i3 (by omega)) (g61i2 (by omega)) hRq (by omega) (h78 h1)
            have hri : x69 = 1 → RI9 (mI M 21) b M70 (v3 + 1) := fun h1 => RI9.next (g61i2 (by omega)) hRq (by omega) h13 h81 h1 h79
            have hnext : TI (mI M 21) b M70 x69 (v3 + 1) (sText (tk (mI M 21) b) (nx (mI M 21) b) 25 (fun _ => 0) 0 (skb (mI M 21) b 0)) := TI.next hSq (by omega) (by omega) h81 h80
            refine vc_iincE dX4_reads_83 rfl (by omega) (by omega) (by decide) rfl (show _ = [some (aR 22), none, some (aI x69), some (aI (v3 + 1))] from rfl) ?_
            refine vc_goto dX4_reads_86 ?_
            exact ih61 M70 x69 (v3 + 1) hB82 (by omega) (by omega) (by omega) (by omega) (by first | exact hfirst | exact hnext) (by omega) (by first | exact fun _ => hri0 | exact hri) (by first | exact fun _ => hlw0 | exact hlw) (by omega)
  refine vc_less [some (aR 22), none, some (aI 1), some (aI 0)] (lessL_keep (lessL_drop (lessL_keep (lessL_keep (lessL_nil))))) ?_
  exact lp61 _ M48 1 0 hB64 (by omega) (by omega) (by omega) (by omega) (by first | exact hfirst | exact hnext) (by omega) (by first | exact fun _ => hri0 | exact hri) (by first | exact fun _ => hlw0 | exact hlw) (Nat.lt_succ_self _)
