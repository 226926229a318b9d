/-! THE DEEDS of the reference: all turns of a telling (written by wip/laws2/c10b.py) -/
set_option maxRecDepth 4000 in
theorem sfX12_takeTurnsF {l : Launch} {M : Mem} (hB : Box M)  (t : Int) (wo : Int) (p0 : 0 ≤ t) (p1 : t ≤ 7) (p2 : wo < 0) : Call l mdX12_takeTurns [aR 54, aI t, aI wo] M (fun q N => q = none ∧ BF fS M N ∧ mI N 55 = mI M 55 ∧ mI N 57 = mI M 57 ∧ mI N 54 32 = mI M 55 (184 + 9 * t + 2).toNat ∧ (∀ i : Nat, (i : Int) < mI M 55 (184 + 9 * t + 2).toNat → mI N 63 i = mI M 55 (184 + 9 * t + 3 + i).toNat)) := by
  have hB0 : BF fS M M := BF.start hB
  refine Call.of [some (aR 54), some (aI t), some (aI wo), none] rfl (Nat.le_of_ble_eq_true rfl) rfl ?_
  refine vc_ok (fun hoM hoS hoL => ?_)
  have hr2 : -2147483648 ≤ wo ∧ wo < 2147483648 := hoL 2 _ rfl
  have hcb := (ba_t2 (x := 184 + 9 * t + 2) hB (by omega) (by omega) (by omega))
  refine vc_aload_n dX12_takeTurns_0 rfl ?_
  refine vc_iconst dX12_takeTurns_1 rfl ?_
  refine vc_putI dX12_takeTurns_2 (plX12_355 _ rfl) (s_54 hB0.1.1) rfl ?_
  have kp1 : mI (sI M 54 32 0) 57 = mI M 57 := (kp_sI rfl rfl)
  have kp2 : mI (sI M 54 32 0) 55 = mI M 55 := (kp_sI rfl rfl)
  have hB3 : BF fS M (sI M 54 32 0) := BF.w54_32 hB0 rfl (by omega) (by omega)
  refine vc_iconst dX12_takeTurns_5 rfl ?_
  refine vc_istore_n dX12_takeTurns_6 (by decide) rfl (show _ = [some (aR 54), some (aI t), some (aI wo), some (aI 0)] from rfl) ?_
  have lp7 : ∀ (n7 : Nat) (Mq7 : Mem) (v3 : Int), (BF fS M Mq7) → (mI Mq7 57 = mI M 57) → (mI Mq7 55 = mI M 55) → (0 ≤ v3) → (v3 ≤ 6) → (mI Mq7 54 32 = v3) → (∀ i : Nat, (i : Int) < v3 → mI Mq7 63 i = mI M 55 (184 + 9 * t + 3 + i).toNat) → (v3 ≤ mI M 55 (184 + 9 * t + 2).toNat) → (6 - v3).toNat < n7 → VC l mdX12_takeTurns 7 [some (aR 54), some (aI t), some (aI wo), some (aI v3)] [] Mq7 0 0 (fun q N => q = none ∧ BF fS M N ∧ mI N 55 = mI M 55 ∧ mI N 57 = mI M 57 ∧ mI N 54 32 = mI M 55 (184 + 9 * t + 2).toNat ∧ (∀ i : Nat, (i : Int) < mI M 55 (184 + 9 * t + 2).toNat → mI N 63 i = mI M 55 (184 + 9 * t + 3 + i).toNat)) := by
    intro n7
    induction n7 with
    | zero => intro Mq7 v3 hQ7 kp7_57 kp7_55 g7_3a g7_3b g7i0 g7i1 g7i2 hm7; exact absurd hm7 (Nat.not_lt_zero _)
    | succ n7 ih7 =>
      intro Mq7 v3 hQ7 kp7_57 kp7_55 g7_3a g7_3b g7i0 g7i1 g7i2 hm7
      refine vc_iload_n dX12_takeTurns_7 rfl ?_
      refine vc_aload_n dX12_takeTurns_8 rfl ?_
      refine vc_iload_n dX12_takeTurns_9 rfl ?_
      refine vc_cVI dX12_takeTurns_10 (sfX12_turnsOfF (M := Mq7) hQ7.1  t (by omega) (by omega)) rfl okX12_turnsOf viX12_turnsOf lkX12_305 (s_54 hQ7.1.1) cl_12 rfl (Nat.le_of_ble_eq_true rfl) ⟨rfl, rfl⟩ (Nat.le_of_ble_eq_true rfl) (Nat.le_of_ble_eq_true rfl) (Nat.le_of_ble_eq_true rfl) ?_
      rintro x4 _ ⟨rfl, h5, h6, h7⟩
      have kz := h7.trans (congrFun kp7_55 _)
      refine vc_icmp_ge dX12_takeTurns_13 (fun h8 => ?_) (fun h8 => ?_)
      · refine vc_vret dX12_takeTurns_55 rfl (Nat.le_of_ble_eq_true rfl) (Nat.le_of_ble_eq_true rfl) ?_
        have c7 : mI Mq7 54 32 = mI M 55 (184 + 9 * t + 2).toNat := by omega
        exact ⟨rfl, hQ7, kp7_55, kp7_57, c7, fun i hi => g7i1 i (by omega)⟩
      · refine vc_iload_n dX12_takeTurns_16 rfl ?_
        refine vc_iload_n dX12_takeTurns_17 rfl ?_
        refine vc_icmp_ne dX12_takeTurns_18 (fun h9 => ?_) (fun h9 => ?_)
        · refine vc_aload_n dX12_takeTurns_24 rfl ?_
          refine vc_getR dX12_takeTurns_25 flX12_42 (s_54 hQ7.1.1) rfl (r_54_31 hQ7.1.1) ?_
          refine vc_aload_n dX12_takeTurns_28 rfl ?_
          refine vc_getI dX12_takeTurns_29 flX12_355 (s_54 hQ7.1.1) rfl ?_
          have k10 : 0 ≤ mI Mq7 54 32 ∧ mI Mq7 54 32 ≤ 6 := b54_32 (M := Mq7) hQ7.1
          refine vc_aload_n dX12_takeTurns_32 rfl ?_
          refine vc_iload_n dX12_takeTurns_33 rfl ?_
          refine vc_iload_n dX12_takeTurns_34 rfl ?_
          refine vc_cVI dX12_takeTurns_35 (sfX12_turnAtF (M := Mq7) hQ7.1  t v3 (by omega) (by omega) (by omega) (by omega)) rfl okX12_turnAt viX12_turnAt lkX12_358 (s_54 hQ7.1.1) cl_12 rfl (Nat.le_of_ble_eq_true rfl) ⟨rfl, rfl⟩ (Nat.le_of_ble_eq_true rfl) (Nat.le_of_ble_eq_true rfl) (Nat.le_of_ble_eq_true rfl) ?_
          rintro x11 _ ⟨rfl, h12⟩
          have kv := h12.trans (congrFun kp7_55 _)
          refine vc_iastore dX12_takeTurns_38 (s_63 hQ7.1.1) (by omega) (by omega) ?_
          have kp13 : mI (sI Mq7 63 ((mI Mq7 54 32).toNat) x11) 57 = mI M 57 := (kp_sI kp7_57 rfl)
          have kp14 : mI (sI Mq7 63 ((mI Mq7 54 32).toNat) x11) 55 = mI M 55 := (kp_sI kp7_55 rfl)
          have hB15 : BF fS M (sI Mq7 63 ((mI Mq7 54 32).toNat) x11) := BF.w63 hQ7 (fun _ => rfl) _
          refine vc_aload_n dX12_takeTurns_39 rfl ?_
          refine vc_dup dX12_takeTurns_40 rfl ?_
          refine vc_getI dX12_takeTurns_41 flX12_355 (s_54 hB15.1.1) rfl ?_
          refine vc_topI (mI Mq7 54 32) rfl ?_
          have k16 : 0 ≤ mI Mq7 54 32 ∧ mI Mq7 54 32 ≤ 6 := b54_32 (M := (sI Mq7 63 ((mI Mq7 54 32).toNat) x11)) hB15.1
          refine vc_iconst dX12_takeTurns_44 rfl ?_
          refine vc_iaddE dX12_takeTurns_45 (by omega) (by omega) ?_
          refine vc_putI dX12_takeTurns_46 (plX12_355 _ rfl) (s_54 hB15.1.1) rfl ?_
          have kp17 : mI (sI (sI Mq7 63 ((mI Mq7 54 32).toNat) x11) 54 32 ((mI Mq7 54 32) + 1)) 57 = mI M 57 := (kp_sI kp13 rfl)
          have kp18 : mI (sI (sI Mq7 63 ((mI Mq7 54 32).toNat) x11) 54 32 ((mI Mq7 54 32) + 1)) 55 = mI M 55 := (kp_sI kp14 rfl)
          have hB19 : BF fS M (sI (sI Mq7 63 ((mI Mq7 54 32).toNat) x11) 54 32 ((mI Mq7 54 32) + 1)) := BF.w54_32 hB15 rfl (by omega) (by omega)
          refine vc_iincE dX12_takeTurns_49 rfl (by omega) (by omega) (by decide) rfl (show _ = [some (aR 54), some (aI t), some (aI wo), some (aI (v3 + 1))] from rfl) ?_
          refine vc_goto dX12_takeTurns_52 ?_
          have k20 : mI (sI (sI Mq7 63 ((mI Mq7 54 32).toNat) x11) 54 32 ((mI Mq7 54 32) + 1)) 54 32 = (mI Mq7 54 32) + 1 := rfl
          exact ih7 (sI (sI Mq7 63 ((mI Mq7 54 32).toNat) x11) 54 32 ((mI Mq7 54 32) + 1)) (v3 + 1) hB19 kp17 kp18 (by omega) (by omega) (by first | rfl | omega) (by first | (intro i hi; exfalso; omega) | (intro i hi; by_cases e : i = v3.toNat; (first | (rw [mI_sI, if_neg (by omega), mI_sI, if_pos (by omega), show (184 + 9 * t + 3 + (i : Int)).toNat = (184 + 9 * t + 3 + v3).toNat by omega]; exact kv) | skip); (rw [mI_sI, if_neg (by omega), mI_sI, if_neg (by omega)]; exact g7i1 i (by omega)))) (by omega) (by omega)
        · refine vc_goto dX12_takeTurns_21 ?_
          refine vc_iincE dX12_takeTurns_49 rfl (by omega) (by omega) (by decide) rfl (show _ = [some (aR 54), some (aI t), some (aI wo), some (aI (v3 + 1))] from rfl) ?_
          refine vc_goto dX12_takeTurns_52 ?_
          exact ih7 Mq7 (v3 + 1) hQ7 kp7_57 kp7_55 (by omega) (by omega) (by first | rfl | omega) (by first | (intro i hi; exfalso; omega) | (intro i hi; by_cases e : i = v3.toNat; (first | (rw [mI_sI, if_neg (by omega), mI_sI, if_pos (by omega), show (184 + 9 * t + 3 + (i : Int)).toNat = (184 + 9 * t + 3 + v3).toNat by omega]; exact kv) | skip); (rw [mI_sI, if_neg (by omega), mI_sI, if_neg (by omega)]; exact g7i1 i (by omega)))) (by omega) (by omega)
  have k21 : mI (sI M 54 32 0) 54 32 = 0 := rfl
  exact lp7 _ (sI M 54 32 0) 0 hB3 kp1 kp2 (by omega) (by omega) (by first | rfl | omega) (by first | (intro i hi; exfalso; omega) | (intro i hi; by_cases e : i = v3.toNat; (first | (rw [mI_sI, if_neg (by omega), mI_sI, if_pos (by omega), show (184 + 9 * t + 3 + (i : Int)).toNat = (184 + 9 * t + 3 + v3).toNat by omega]; exact kv) | skip); (rw [mI_sI, if_neg (by omega), mI_sI, if_neg (by omega)]; exact g7i1 i (by omega)))) (by omega) (Nat.lt_succ_self _)

set_option maxRecDepth 4000 in
theorem sfX12_goAllF {l : Launch} {M : Mem} (hB : Box M) (S : Sw) (t : Int) (s : Int) (p0 : 0 ≤ s) (p1 : s ≤ 7) (p2 : mI M 54 32 = S 6 (9 * t + 2).toNat) (p3 : 1 ≤ S 6 (9 * t + 2).toNat) (p4 : S 6 (9 * t + 2).toNat ≤ 6) (p5 : ∀ i : Nat, (i : Int) < S 6 (9 * t + 2).toNat → mI M 63 i = S 6 (9 * t + 3 + i).toNat ∧ isTu (S 6 (9 * t + 3 + i).toNat)) (p6 : TA (mI M 55) S) (p7 : mI M 54 24 < S 1 6) (p8 : LwS S (mI M 57)) (p9 : nmT S) : Call l mdX12_goAll [aR 54, aI s] M (fun q N => ∃ r : Int, q = some (aI r) ∧ BF fS M N ∧ mI N 55 = mI M 55 ∧ mI N 57 = mI M 57 ∧ 0 ≤ r ∧ r ≤ 1 ∧ mI N 54 32 = mI M 54 32 ∧ ((r = 1 ∧ gAl S t s (-1) (gR M) = (gR N, true)) ∨ (r = 0 ∧ gAl S t s (-1) (gR M) = (gR N, false))) ∧ mI N 54 24 < S 1 6) := by
  have hB0 : BF fS M M := BF.start hB
  refine Call.of [some (aR 54), some (aI s), none] rfl (Nat.le_of_ble_eq_true rfl) rfl ?_
  refine vc_iconst dX12_goAll_0 rfl ?_
  refine vc_istore_n dX12_goAll_1 (by decide) rfl (show _ = [some (aR 54), some (aI s), some (aI 0)] from rfl) ?_
  have lp2 : ∀ (n2 : Nat) (Mq2 : Mem) (v2 : Int), (BF fS M Mq2) → (mI Mq2 57 = mI M 57) → (mI Mq2 63 = mI M 63) → (mI Mq2 55 = mI M 55) → (0 ≤ v2) → (v2 ≤ 6) → (gAl S t s (-1) (gR M) = gTs S t s (-1) (S 6 (9 * t + 2).toNat - v2).toNat v2 (if v2 = 0 then 3 else mnS (S 6 (9 * t + 3 + (v2 - 1)).toNat) s / 100) (gR Mq2)) → (mI Mq2 54 32 = mI M 54 32) → (mI Mq2 54 24 < S 1 6) → (v2 ≤ S 6 (9 * t + 2).toNat) → (6 - v2).toNat < n2 → VC l mdX12_goAll 2 [some (aR 54), some (aI s), some (aI v2)] [] Mq2 0 0 (fun q N => ∃ r : Int, q = some (aI r) ∧ BF fS M N ∧ mI N 55 = mI M 55 ∧ mI N 57 = mI M 57 ∧ 0 ≤ r ∧ r ≤ 1 ∧ mI N 54 32 = mI M 54 32 ∧ ((r = 1 ∧ gAl S t s (-1) (gR M) = (gR N, true)) ∨ (r = 0 ∧ gAl S t s (-1) (gR M) = (gR N, false))) ∧ mI N 54 24 < S 1 6) := by
    intro n2
    induction n2 with
    | zero => intro Mq2 v2 hQ2 kp2_57 kp2_63 kp2_55 g2_2a g2_2b g2i0 g2i1 g2i2 g2i3 hm2; exact absurd hm2 (Nat.not_lt_zero _)
    | succ n2 ih2 =>
      intro Mq2 v2 hQ2 kp2_57 kp2_63 kp2_55 g2_2a g2_2b g2i0 g2i1 g2i2 g2i3 hm2
      refine vc_iload_n dX12_goAll_2 rfl ?_
      refine vc_aload_n dX12_goAll_3 rfl ?_
      refine vc_getI dX12_goAll_4 flX12_355 (s_54 hQ2.1.1) rfl ?_
      have k1 : 0 ≤ mI Mq2 54 32 ∧ mI Mq2 54 32 ≤ 6 := b54_32 (M := Mq2) hQ2.1
      refine vc_icmp_ge dX12_goAll_7 (fun h2 => ?_) (fun h2 => ?_)
      · have hTq : TA (mI Mq2 55) S := by rw [kp2_55]; exact p6
        have hv := p5 (S 6 (9 * t + 2).toNat - 1).toNat (by omega)
        rw [show (9 * t + 3 + ((S 6 (9 * t + 2).toNat - 1).toNat : Int)).toNat = (9 * t + 3 + (v2 - 1)).toNat by omega, ← congrFun kp2_63 _] at hv
        have hvb := isTu_b hv.2
        have hix : (mI Mq2 54 32 - 1).toNat = (S 6 (9 * t + 2).toNat - 1).toNat := by omega
        have hvi : mI Mq2 63 (mI Mq2 54 32 - 1).toNat = S 6 (9 * t + 3 + (v2 - 1)).toNat := by rw [hix]; exact hv.1
        have hm3 := mn_3 (s := s) hv.2
        refine vc_aload_n dX12_goAll_32 rfl ?_
        refine vc_getR dX12_goAll_33 flX12_42 (s_54 hQ2.1.1) rfl (r_54_31 hQ2.1.1) ?_
        refine vc_aload_n dX12_goAll_36 rfl ?_
        refine vc_getI dX12_goAll_37 flX12_355 (s_54 hQ2.1.1) rfl ?_
        refine vc_iconst dX12_goAll_40 rfl ?_
        refine vc_isubE dX12_goAll_41 (by omega) (by omega) ?_
        refine vc_iaload dX12_goAll_42 (s_63 hQ2.1.1) (by omega) (by omega) ?_
        have k3 : mI Mq2 63 (((mI Mq2 54 32) - 1).toNat) = mI M 63 (((mI Mq2 54 32) - 1).toNat) := congrFun kp2_63 (((mI Mq2 54 32) - 1).toNat)
        refine vc_bipush dX12_goAll_43 rfl ?_
        refine vc_idivE dX12_goAll_45 (by omega) (by omega) ?_
        refine vc_iconst dX12_goAll_46 rfl ?_
        refine vc_icmp_eq dX12_goAll_47 (fun h4 => ?_) (fun h4 => ?_)
        · refine vc_iconst dX12_goAll_57 rfl ?_
          refine vc_goto dX12_goAll_58 ?_
          refine vc_zret dX12_goAll_62 rfl (by first | decide | omega) (Nat.le_of_ble_eq_true rfl) (Nat.le_of_ble_eq_true rfl) ?_
          refine ⟨_, rfl, hQ2, kp2_55, kp2_57, by omega, by omega, by omega, ?_, g2i2⟩
          rw [g2i0]
          exact Or.inl ⟨rfl, by rw [show (S 6 (9 * t + 2).toNat - v2).toNat = 0 by omega, if_neg (show ¬ v2 = 0 by omega)]; exact if_pos (hm3.mpr (by omega))⟩
        · refine vc_aload_n dX12_goAll_50 rfl ?_
          refine vc_cVI dX12_goAll_51 (sfX12_goOnF (M := Mq2) hQ2.1 S  (by exact hTq) (by exact g2i2) (by rw [kp2_57]; exact p8) (by exact p9)) rfl okX12_goOn viX12_goOn lkX12_348 (s_54 hQ2.1.1) cl_12 rfl (Nat.le_of_ble_eq_true rfl) ⟨rfl, rfl⟩ (Nat.le_of_ble_eq_true rfl) (Nat.le_of_ble_eq_true rfl) (Nat.le_of_ble_eq_true rfl) ?_
          rintro x5 M6 ⟨hB7, kp8, kp9, kp10, h11, h12, h13, h14, h15, h16⟩
          have hB17 : BF fS M M6 := BF.go hQ2 hB7
          have kp18 : mI M6 57 = mI M 57 := kp_go kp2_57 kp9
          have kp19 : mI M6 63 = mI M 63 := kp_go kp2_63 kp10
          have kp20 : mI M6 55 = mI M 55 := kp_go kp2_55 kp8
          have hgo := h15
          have hlt := h16
          refine vc_if_eq dX12_goAll_54 (fun h21 => ?_) (fun h21 => ?_)
          · refine vc_iconst dX12_goAll_61 rfl ?_
            refine vc_zret dX12_goAll_62 rfl (by first | decide | omega) (Nat.le_of_ble_eq_true rfl) (Nat.le_of_ble_eq_true rfl) ?_
            refine ⟨_, rfl, hB17, kp20, kp18, by omega, by omega, by omega, ?_, hlt⟩
            rw [g2i0]
            exact Or.inr ⟨rfl, by rw [show (S 6 (9 * t + 2).toNat - v2).toNat = 0 by omega, if_neg (show ¬ v2 = 0 by omega)]; refine (if_neg (fun e => by have e2 := hm3.mp e; omega)).trans ?_; rcases hgo with h | h; (exfalso; omega); (exact h.2)⟩
          · refine vc_iconst dX12_goAll_57 rfl ?_
            refine vc_goto dX12_goAll_58 ?_
            refine vc_zret dX12_goAll_62 rfl (by first | decide | omega) (Nat.le_of_ble_eq_true rfl) (Nat.le_of_ble_eq_true rfl) ?_
            refine ⟨_, rfl, hB17, kp20, kp18, by omega, by omega, by omega, ?_, hlt⟩
            rw [g2i0]
            exact Or.inl ⟨rfl, by rw [show (S 6 (9 * t + 2).toNat - v2).toNat = 0 by omega, if_neg (show ¬ v2 = 0 by omega)]; refine (if_neg (fun e => by have e2 := hm3.mp e; omega)).trans ?_; rcases hgo with h | h; (exact h.2); (exfalso; omega)⟩
      · have hTq : TA (mI Mq2 55) S := by rw [kp2_55]; exact p6
        have hv := p5 v2.toNat (by omega)
        rw [show (9 * t + 3 + (v2.toNat : Int)).toNat = (9 * t + 3 + v2).toNat by omega, ← congrFun kp2_63 _] at hv
        have hvb := isTu_b hv.2
        refine vc_aload_n dX12_goAll_10 rfl ?_
        refine vc_aload_n dX12_goAll_11 rfl ?_
        refine vc_getR dX12_goAll_12 flX12_42 (s_54 hQ2.1.1) rfl (r_54_31 hQ2.1.1) ?_
        refine vc_iload_n dX12_goAll_15 rfl ?_
        refine vc_iaload dX12_goAll_16 (s_63 hQ2.1.1) (by omega) (by omega) ?_
        have k22 : mI Mq2 63 v2.toNat = mI M 63 v2.toNat := congrFun kp2_63 v2.toNat
        refine vc_iload_n dX12_goAll_17 rfl ?_
        refine vc_cVI dX12_goAll_18 (sfX12_goTurnF (M := Mq2) hQ2.1 S (mI Mq2 63 v2.toNat) s (by omega) (by omega) (by omega) (by omega) (by rw [hv.1]; exact hv.2) (by exact hTq) (by exact g2i2) (by rw [kp2_57]; exact p8) (by exact p9)) rfl okX12_goTurn viX12_goTurn lkX12_361 (s_54 hQ2.1.1) cl_12 rfl (Nat.le_of_ble_eq_true rfl) ⟨rfl, rfl⟩ (Nat.le_of_ble_eq_true rfl) (Nat.le_of_ble_eq_true rfl) (Nat.le_of_ble_eq_true rfl) ?_
        rintro x23 M24 ⟨hB25, kp26, kp27, kp28, h29, h30, h31, h32, h33⟩
        have hB34 : BF fS M M24 := BF.go hQ2 hB25
        have kp35 : mI M24 57 = mI M 57 := kp_go kp2_57 kp27
        have kp36 : mI M24 63 = mI M 63 := kp_go kp2_63 kp28
        have kp37 : mI M24 55 = mI M 55 := kp_go kp2_55 kp26
        have htk0 := h32
        rw [hv.1] at htk0
        have hlt := h33
        refine vc_if_ne dX12_goAll_21 (fun h38 => ?_) (fun h38 => ?_)
        · have htk : gTu S (mnS (S 6 (9 * t + 3 + v2).toNat) s) (laS s) (gR Mq2) = (gR M24, true) := by rcases htk0 with h | h; (exact h.2); (exfalso; omega)
          refine vc_iincE dX12_goAll_26 rfl (by omega) (by omega) (by decide) rfl (show _ = [some (aR 54), some (aI s), some (aI (v2 + 1))] from rfl) ?_
          refine vc_goto dX12_goAll_29 ?_
          exact ih2 M24 (v2 + 1) hB34 kp35 kp36 kp37 (by omega) (by omega) (by first | (rw [Int.sub_zero, if_pos rfl]; rfl) | (rw [g2i0, show (S 6 (9 * t + 2).toNat - v2).toNat = (S 6 (9 * t + 2).toNat - (v2 + 1)).toNat + 1 by omega, if_neg (show ¬ v2 + 1 = 0 by omega), show v2 + 1 - 1 = v2 by omega]; exact gTs_y (by omega) rfl htk)) (by omega) (by omega) (by omega) (by omega)
        · refine vc_iconst dX12_goAll_24 rfl ?_
          refine vc_zret dX12_goAll_25 rfl (by first | decide | omega) (Nat.le_of_ble_eq_true rfl) (Nat.le_of_ble_eq_true rfl) ?_
          refine ⟨_, rfl, hB34, kp37, kp35, by omega, by omega, by omega, ?_, hlt⟩
          rw [g2i0]
          exact Or.inr ⟨rfl, by rw [show (S 6 (9 * t + 2).toNat - v2).toNat = (S 6 (9 * t + 2).toNat - v2 - 1).toNat + 1 by omega]; exact gTs_f (by omega) rfl (by rcases htk0 with h | h; (exfalso; omega); (exact h.2))⟩
  exact lp2 _ M 0 hB0 rfl rfl rfl (by omega) (by omega) (by first | (rw [Int.sub_zero, if_pos rfl]; rfl) | (rw [g2i0, show (S 6 (9 * t + 2).toNat - v2).toNat = (S 6 (9 * t + 2).toNat - (v2 + 1)).toNat + 1 by omega, if_neg (show ¬ v2 + 1 = 0 by omega), show v2 + 1 - 1 = v2 by omega]; exact gTs_y (by omega) rfl htk)) (by omega) (by omega) (by omega) (Nat.lt_succ_self _)

set_option maxRecDepth 4000 in
theorem sfX12_leadsOfF {l : Launch} {M : Mem} (hB : Box M) (S : Sw) (t : Int) (s : Int) (p0 : 0 ≤ t) (p1 : t ≤ 7) (p2 : 0 ≤ s) (p3 : s ≤ 7) (p4 : TA (mI M 55) S) (p5 : t < S 1 9) (p6 : LwS S (mI M 57)) (p7 : nmT S) : Call l mdX12_leadsOf [aR 54, aI t, aI s] M (fun q N => ∃ r : Int, q = some (aI r) ∧ BF fS M N ∧ mI N 55 = mI M 55 ∧ (-1) ≤ r ∧ r ≤ 15 ∧ r = leS S t s (-1)) := by
  have hB0 : BF fS M M := BF.start hB
  refine Call.of [some (aR 54), some (aI t), some (aI s)] rfl (Nat.le_of_ble_eq_true rfl) rfl ?_
  refine vc_aload_n dX12_leadsOf_0 rfl ?_
  refine vc_iload_n dX12_leadsOf_1 rfl ?_
  refine vc_iconst dX12_leadsOf_2 rfl ?_
  refine vc_cVU dX12_leadsOf_3 (sfX12_takeTurnsF (M := M) hB0.1  t (-1) (by omega) (by omega) (by omega)) rfl okX12_takeTurns viX12_takeTurns lkX12_364 (s_54 hB0.1.1) cl_12 rfl (Nat.le_of_ble_eq_true rfl) ⟨rfl, rfl⟩ (Nat.le_of_ble_eq_true rfl) (Nat.le_of_ble_eq_true rfl) (Nat.le_of_ble_eq_true rfl) ?_
  rintro M1 ⟨hB2, kp3, kp4, h5, h6⟩
  have hB7 : BF fS M M1 := BF.go hB0 hB2
  have kp8 : mI M1 57 = mI M 57 := kp_go rfl kp4
  have kp9 : mI M1 55 = mI M 55 := kp_go rfl kp3
  obtain ⟨⟨g1, g2, g3⟩, g4, g5, g6, g7⟩ := p4.tg (t := t) (by omega) p5
  have h32 : mI M1 54 32 = S 6 (9 * t + 2).toNat := h5.trans g3
  have h63 : ∀ i : Nat, (i : Int) < S 6 (9 * t + 2).toNat → mI M1 63 i = S 6 (9 * t + 3 + i).toNat ∧ isTu (S 6 (9 * t + 3 + i).toNat) := fun i hi => ⟨(h6 i (by rw [g3]; exact hi)).trans (g7 i hi).1, (g7 i hi).2⟩
  refine vc_aload_n dX12_leadsOf_6 rfl ?_
  refine vc_aload_n dX12_leadsOf_7 rfl ?_
  refine vc_aload_n dX12_leadsOf_8 rfl ?_
  refine vc_iload_n dX12_leadsOf_9 rfl ?_
  refine vc_cVI dX12_leadsOf_10 (sfX12_tellerOfF (M := M1) hB7.1  t (by omega) (by omega)) rfl okX12_tellerOf viX12_tellerOf lkX12_299 (s_54 hB7.1.1) cl_12 rfl (Nat.le_of_ble_eq_true rfl) ⟨rfl, rfl⟩ (Nat.le_of_ble_eq_true rfl) (Nat.le_of_ble_eq_true rfl) (Nat.le_of_ble_eq_true rfl) ?_
  rintro x10 _ ⟨rfl, h11, h12, h13⟩
  have q1 : x10 = S 6 (9 * t).toNat := (h13.trans (congrFun kp9 _)).trans g1
  refine vc_cVI dX12_leadsOf_13 (sfX12_cornerOfF (M := M1) hB7.1  x10 (by omega) (by omega)) rfl okX12_cornerOf viX12_cornerOf lkX12_296 (s_54 hB7.1.1) cl_12 rfl (Nat.le_of_ble_eq_true rfl) ⟨rfl, rfl⟩ (Nat.le_of_ble_eq_true rfl) (Nat.le_of_ble_eq_true rfl) (Nat.le_of_ble_eq_true rfl) ?_
  rintro x14 _ ⟨rfl, h15, h16, h17⟩
  have q9 := p4.te (t := x10) (by omega) (by omega)
  have q2 : x14 = S 5 (4 * x10).toNat := (h17.trans (congrFun kp9 _)).trans q9.1
  refine vc_aload_n dX12_leadsOf_16 rfl ?_
  refine vc_iload_n dX12_leadsOf_17 rfl ?_
  refine vc_cVI dX12_leadsOf_18 (sfX12_facingOfF (M := M1) hB7.1  t (by omega) (by omega)) rfl okX12_facingOf viX12_facingOf lkX12_308 (s_54 hB7.1.1) cl_12 rfl (Nat.le_of_ble_eq_true rfl) ⟨rfl, rfl⟩ (Nat.le_of_ble_eq_true rfl) (Nat.le_of_ble_eq_true rfl) (Nat.le_of_ble_eq_true rfl) ?_
  rintro x18 _ ⟨rfl, h19, h20, h21⟩
  have q3 : x18 = S 6 (9 * t + 1).toNat := (h21.trans (congrFun kp9 _)).trans g2
  refine vc_cVU dX12_leadsOf_21 (sfX12_beginF (M := M1) hB7.1  x14 x18 (by omega) (by omega) (by omega) (by omega)) rfl okX12_begin viX12_begin lkX12_367 (s_54 hB7.1.1) cl_12 rfl (Nat.le_of_ble_eq_true rfl) ⟨rfl, rfl⟩ (Nat.le_of_ble_eq_true rfl) (Nat.le_of_ble_eq_true rfl) (Nat.le_of_ble_eq_true rfl) ?_
  rintro M22 ⟨hB23, kp24, kp25, h26, h27, h28⟩
  have hB29 : BF fS M M22 := BF.go hB7 hB23
  have kp30 : mI M22 57 = mI M 57 := kp_go kp8 kp25
  have kp31 : mI M22 55 = mI M 55 := kp_go kp9 kp24
  have hgb := h27
  have h63b : ∀ i : Nat, (i : Int) < S 6 (9 * t + 2).toNat → mI M22 63 i = S 6 (9 * t + 3 + i).toNat ∧ isTu (S 6 (9 * t + 3 + i).toNat) := fun i hi => by rw [h28]; exact h63 i hi
  have e24 : mI M22 54 24 = x14 := congrArg (fun g : Gw => g.1) hgb
  refine vc_aload_n dX12_leadsOf_24 rfl ?_
  refine vc_iconst dX12_leadsOf_25 rfl ?_
  refine vc_putI dX12_leadsOf_26 (plX12_339 _ rfl) (s_54 hB29.1.1) rfl ?_
  have kp32 : mI (sI M22 54 30 (-1)) 57 = mI M 57 := (kp_sI kp30 rfl)
  have kp33 : mI (sI M22 54 30 (-1)) 55 = mI M 55 := (kp_sI kp31 rfl)
  have hB34 : BF fS M (sI M22 54 30 (-1)) := BF.w54_30 hB29 rfl
  refine vc_aload_n dX12_leadsOf_29 rfl ?_
  refine vc_iload_n dX12_leadsOf_30 rfl ?_
  have k35 : mI (sI M22 54 30 (-1)) 54 32 = mI M22 54 32 := rfl
  have hTb : TA (mI (sI M22 54 30 (-1)) 55) S := by rw [kp33]; exact p4
  have hLb : LwS S (mI (sI M22 54 30 (-1)) 57) := by rw [show mI (sI M22 54 30 (-1)) 57 = mI M 57 from kp32]; exact p6
  have h63c : ∀ i : Nat, (i : Int) < S 6 (9 * t + 2).toNat → mI (sI M22 54 30 (-1)) 63 i = S 6 (9 * t + 3 + i).toNat ∧ isTu (S 6 (9 * t + 3 + i).toNat) := h63b
  have e24c : mI (sI M22 54 30 (-1)) 54 24 = x14 := e24
  have e32c : mI (sI M22 54 30 (-1)) 54 32 = S 6 (9 * t + 2).toNat := by show mI M22 54 32 = _; omega
  have hgc : gR (sI M22 54 30 (-1)) = (x14, x18, 0, 0) := hgb
  refine vc_cVI dX12_leadsOf_31 (sfX12_goAllF (M := (sI M22 54 30 (-1))) hB34.1 S t s (by omega) (by omega) (by exact e32c) (by omega) (by omega) (by exact h63c) (by exact hTb) (by omega) (by exact hLb) (by exact p7)) rfl okX12_goAll viX12_goAll lkX12_370 (s_54 hB34.1.1) cl_12 rfl (Nat.le_of_ble_eq_true rfl) ⟨rfl, rfl⟩ (Nat.le_of_ble_eq_true rfl) (Nat.le_of_ble_eq_true rfl) (Nat.le_of_ble_eq_true rfl) ?_
  rintro x36 M37 ⟨hB38, kp39, kp40, h41, h42, h43, h44, h45⟩
  have hB46 : BF fS M M37 := BF.go hB34 hB38
  have kp47 : mI M37 57 = mI M 57 := kp_go kp32 kp40
  have kp48 : mI M37 55 = mI M 55 := kp_go kp33 kp39
  have hga := h44
  rw [hgc, q2, q3, q1] at hga
  refine vc_if_eq dX12_leadsOf_34 (fun h49 => ?_) (fun h49 => ?_)
  · refine vc_iconst dX12_leadsOf_44 rfl ?_
    refine vc_iret dX12_leadsOf_45 rfl (Nat.le_of_ble_eq_true rfl) (Nat.le_of_ble_eq_true rfl) ?_
    exact ⟨_, rfl, hB46, kp48, by omega, by omega, by unfold leS; rcases hga with h | h; (exfalso; omega); (rw [h.2]; rfl)⟩
  · refine vc_aload_n dX12_leadsOf_37 rfl ?_
    refine vc_getI dX12_leadsOf_38 flX12_321 (s_54 hB46.1.1) rfl ?_
    have k50 : 0 ≤ mI M37 54 24 ∧ mI M37 54 24 ≤ 15 := b54_24 (M := M37) hB46.1
    refine vc_goto dX12_leadsOf_41 ?_
    refine vc_iret dX12_leadsOf_45 rfl (Nat.le_of_ble_eq_true rfl) (Nat.le_of_ble_eq_true rfl) ?_
    exact ⟨_, rfl, hB46, kp48, by omega, by omega, by unfold leS; rcases hga with h | h; (rw [h.2]; rfl); (exfalso; omega)⟩

set_option maxRecDepth 4000 in
theorem sfX12_followF {l : Launch} {M : Mem} (hB : Box M) (S : Sw) (t : Int) (p0 : AR (mI M 55) S) (p1 : LwS S (mI M 57)) (p2 : nmT S) : Call l mdX12_follow [aR 54, aI t] M (fun q N => ∃ r : Int, q = some (aI r) ∧ BF fR M N ∧ mI N 57 = mI M 57 ∧ (∀ (S' : Sw) (r9 : Int), FollowS t S S' r9 → r = r9 ∧ AR (mI N 55) S')) := by
  have hB0 : BF fR M M := BF.start hB
  refine Call.of [some (aR 54), some (aI t), none] rfl (Nat.le_of_ble_eq_true rfl) rfl ?_
  refine vc_ok (fun hoM hoS hoL => ?_)
  have hr1 : -2147483648 ≤ t ∧ t < 2147483648 := hoL 1 _ rfl
  refine vc_aload_n dX12_follow_0 rfl ?_
  refine vc_iload_n dX12_follow_1 rfl ?_
  refine vc_cVI dX12_follow_2 (sfX12_isTellingF (M := M) hB0.1  t ) rfl okX12_isTelling viX12_isTelling lkX12_400 (s_54 hB0.1.1) cl_12 rfl (Nat.le_of_ble_eq_true rfl) ⟨rfl, rfl⟩ (Nat.le_of_ble_eq_true rfl) (Nat.le_of_ble_eq_true rfl) (Nat.le_of_ble_eq_true rfl) ?_
  rintro x1 _ ⟨rfl, h2, h3, h4, h5⟩
  refine vc_if_eq dX12_follow_5 (fun h6 => ?_) (fun h6 => ?_)
  · refine vc_iconst dX12_follow_15 rfl ?_
    refine vc_iret dX12_follow_16 rfl (Nat.le_of_ble_eq_true rfl) (Nat.le_of_ble_eq_true rfl) ?_
    refine ⟨_, rfl, hB0, rfl, fun S' r9 hC => ?_⟩
    have c3 := p0.1.1.2.2.2.1
    have c0 := p0.2.1.2.2.1
    rcases hC with ⟨hc, e2, e1⟩ | ⟨hc, e2, e1⟩
    · exfalso; omega
    · rw [e2]; exact ⟨by omega, p0⟩
  · refine vc_aload_n dX12_follow_8 rfl ?_
    refine vc_cVI dX12_follow_9 (sfX12_isWalkerF (M := M) hB0.1   ) rfl okX12_isWalker viX12_isWalker lkX12_379 (s_54 hB0.1.1) cl_12 rfl (Nat.le_of_ble_eq_true rfl) ⟨rfl, rfl⟩ (Nat.le_of_ble_eq_true rfl) (Nat.le_of_ble_eq_true rfl) (Nat.le_of_ble_eq_true rfl) ?_
    rintro x7 _ ⟨rfl, h8, h9, h10, h11⟩
    refine vc_if_ne dX12_follow_12 (fun h12 => ?_) (fun h12 => ?_)
    · refine vc_aload_n dX12_follow_17 rfl ?_
      refine vc_cVU dX12_follow_18 (sfX12_keepF (M := M) hB0.1   ) rfl okX12_keep viX12_keep lkX12_373 (s_54 hB0.1.1) cl_12 rfl (Nat.le_of_ble_eq_true rfl) ⟨rfl, rfl⟩ (Nat.le_of_ble_eq_true rfl) (Nat.le_of_ble_eq_true rfl) (Nat.le_of_ble_eq_true rfl) ?_
      rintro M13 ⟨hB14, kp15, h16, h17⟩
      have hB18 : BF fR M M13 := BF.go hB0 hB14
      have kp19 : mI M13 57 = mI M 57 := kp_go rfl kp15
      have hA1 := h17 S p0
      have f3 := h16 3 (by decide) (by decide)
      have f256 := h16 256 (by decide) (by decide)
      have f257 := h16 257 (by decide) (by decide)
      have o9 : (fKp S) 1 9 = S 1 9 := fKp_o (by decide) (by decide)
      have o6 : (fKp S) 1 6 = S 1 6 := fKp_o (by decide) (by decide)
      have c3 := p0.1.1.2.2.2.1
      have w6 := p0.2.2.2.2.1.2.2.2.2.2.1
      have c0 := p0.2.1.2.2.1
      have d0 := hA1.2.1.2.2.1
      have d1 := hA1.2.1.2.2.2
      refine vc_aload_n dX12_follow_21 rfl ?_
      refine vc_iload_n dX12_follow_22 rfl ?_
      refine vc_iconst dX12_follow_23 rfl ?_
      refine vc_cVU dX12_follow_24 (sfX12_takeTurnsF (M := M13) hB18.1  t (-1) (by omega) (by omega) (by omega)) rfl okX12_takeTurns viX12_takeTurns lkX12_364 (s_54 hB18.1.1) cl_12 rfl (Nat.le_of_ble_eq_true rfl) ⟨rfl, rfl⟩ (Nat.le_of_ble_eq_true rfl) (Nat.le_of_ble_eq_true rfl) (Nat.le_of_ble_eq_true rfl) ?_
      rintro M20 ⟨hB21, kp22, kp23, h24, h25⟩
      have hB26 : BF fR M M20 := BF.go hB18 hB21.sq.r
      have kp27 : mI M20 57 = mI M 57 := kp_go kp19 kp23
      obtain ⟨⟨g1, g2, g3⟩, g4, g5, g6, g7⟩ := hA1.1.tg (t := t) (by omega) (by omega)
      have h32 : mI M20 54 32 = (fKp S) 6 (9 * t + 2).toNat := h24.trans g3
      have h63 : ∀ i : Nat, (i : Int) < (fKp S) 6 (9 * t + 2).toNat → mI M20 63 i = (fKp S) 6 (9 * t + 3 + i).toNat ∧ isTu ((fKp S) 6 (9 * t + 3 + i).toNat) := fun i hi => ⟨(h25 i (by rw [g3]; exact hi)).trans (g7 i hi).1, (g7 i hi).2⟩
      have k55 : mI M20 55 = mI M13 55 := kp22
      have f7 := congrFun k55 256
      have f8 := congrFun k55 257
      have hb7 := b55_257 (M := M20) hB26.1
      refine vc_aload_n dX12_follow_27 rfl ?_
      refine vc_aload_n dX12_follow_28 rfl ?_
      refine vc_getR dX12_follow_29 flX12_7 (s_54 hB26.1.1) rfl (r_54_0 hB26.1.1) ?_
      refine vc_sipush dX12_follow_32 rfl ?_
      refine vc_iaload dX12_follow_35 (s_55 hB26.1.1) (by omega) (by omega) ?_
      refine vc_topI (mI M20 55 256) rfl ?_
      have k28 : (-1) ≤ mI M20 55 256 ∧ mI M20 55 256 ≤ 15 := b55_256 (M := M20) hB26.1
      refine vc_aload_n dX12_follow_36 rfl ?_
      refine vc_getR dX12_follow_37 flX12_7 (s_54 hB26.1.1) rfl (r_54_0 hB26.1.1) ?_
      refine vc_sipush dX12_follow_40 rfl ?_
      refine vc_iaload dX12_follow_43 (s_55 hB26.1.1) (by omega) (by omega) ?_
      refine vc_topI (mI M20 55 257) rfl ?_
      have k29 : 0 ≤ mI M20 55 257 ∧ mI M20 55 257 ≤ 3 := b55_257 (M := M20) hB26.1
      refine vc_cVU dX12_follow_44 (sfX12_beginF (M := M20) hB26.1  (mI M20 55 256) (mI M20 55 257) (by omega) (by omega) (by omega) (by omega)) rfl okX12_begin viX12_begin lkX12_367 (s_54 hB26.1.1) cl_12 rfl (Nat.le_of_ble_eq_true rfl) ⟨rfl, rfl⟩ (Nat.le_of_ble_eq_true rfl) (Nat.le_of_ble_eq_true rfl) (Nat.le_of_ble_eq_true rfl) ?_
      rintro M30 ⟨hB31, kp32, kp33, h34, h35, h36⟩
      have hB37 : BF fR M M30 := BF.go hB26 hB31.sq.r
      have kp38 : mI M30 57 = mI M 57 := kp_go kp27 kp33
      have hgb := h35
      have k55b : mI M30 55 = mI M13 55 := kp32.trans k55
      have k63b := h36
      refine vc_aload_n dX12_follow_47 rfl ?_
      refine vc_iconst dX12_follow_48 rfl ?_
      refine vc_putI dX12_follow_49 (plX12_339 _ rfl) (s_54 hB37.1.1) rfl ?_
      have kp39 : mI (sI M30 54 30 (-1)) 57 = mI M 57 := (kp_sI kp38 rfl)
      have hB40 : BF fR M (sI M30 54 30 (-1)) := BF.w54_30 hB37 rfl
      refine vc_aload_n dX12_follow_52 rfl ?_
      refine vc_iconst dX12_follow_53 rfl ?_
      have k41 : mI (sI M30 54 30 (-1)) 54 32 = mI M30 54 32 := rfl
      have hTb : TA (mI (sI M30 54 30 (-1)) 55) (fKp S) := by show TA (mI M30 55) _; rw [k55b]; exact hA1.1
      have hLb : LwS (fKp S) (mI (sI M30 54 30 (-1)) 57) := by rw [show mI (sI M30 54 30 (-1)) 57 = mI M 57 from kp39]; exact p1.lk Lk.kp
      have h63c : ∀ i : Nat, (i : Int) < (fKp S) 6 (9 * t + 2).toNat → mI (sI M30 54 30 (-1)) 63 i = (fKp S) 6 (9 * t + 3 + i).toNat ∧ isTu ((fKp S) 6 (9 * t + 3 + i).toNat) := fun i hi => by show mI M30 63 i = _ ∧ _; rw [k63b]; exact h63 i hi
      have e24 : mI M30 54 24 = mI M20 55 256 := congrArg (fun g : Gw => g.1) hgb
      have e24c : mI (sI M30 54 30 (-1)) 54 24 < (fKp S) 1 6 := by show mI M30 54 24 < _; omega
      have e32c : mI (sI M30 54 30 (-1)) 54 32 = (fKp S) 6 (9 * t + 2).toNat := by show mI M30 54 32 = _; omega
      have hgc : gR (sI M30 54 30 (-1)) = ((fKp S) 16 0, (fKp S) 16 1, 0, 0) := by rw [show gR (sI M30 54 30 (-1)) = gR M30 from rfl, hgb, f7, f8, d0, d1]
      refine vc_cVI dX12_follow_54 (sfX12_goAllF (M := (sI M30 54 30 (-1))) hB40.1 (fKp S) t 0 (by omega) (by omega) (by exact e32c) (by omega) (by omega) (by exact h63c) (by exact hTb) (by exact e24c) (by exact hLb) (by exact p2.kp)) rfl okX12_goAll viX12_goAll lkX12_370 (s_54 hB40.1.1) cl_12 rfl (Nat.le_of_ble_eq_true rfl) ⟨rfl, rfl⟩ (Nat.le_of_ble_eq_true rfl) (Nat.le_of_ble_eq_true rfl) (Nat.le_of_ble_eq_true rfl) ?_
      rintro x42 M43 ⟨hB44, kp45, kp46, h47, h48, h49, h50, h51⟩
      have hB52 : BF fR M M43 := BF.go hB40 hB44.sq.r
      have kp53 : mI M43 57 = mI M 57 := kp_go kp39 kp46
      have hga := h50
      rw [hgc] at hga
      have hlt := h51
      have k55d : mI M43 55 = mI M13 55 := kp45.trans k55b
      have hb4 := b54_24 (M := M43) hB52.1
      have hb5 := b54_25 (M := M43) hB52.1
      refine vc_istore_n dX12_follow_57 (by decide) rfl (show _ = [some (aR 54), some (aI t), some (aI x42)] from rfl) ?_
      refine vc_aload_n dX12_follow_58 rfl ?_
      refine vc_getR dX12_follow_59 flX12_7 (s_54 hB52.1.1) rfl (r_54_0 hB52.1.1) ?_
      refine vc_sipush dX12_follow_62 rfl ?_
      refine vc_aload_n dX12_follow_65 rfl ?_
      refine vc_getI dX12_follow_66 flX12_321 (s_54 hB52.1.1) rfl ?_
      have k54 : 0 ≤ mI M43 54 24 ∧ mI M43 54 24 ≤ 15 := b54_24 (M := M43) hB52.1
      refine vc_iastore dX12_follow_69 (s_55 hB52.1.1) (by omega) (by omega) ?_
      refine vc_mem (sI M43 55 256 (mI M43 54 24)) rfl ?_
      have kp55 : mI (sI M43 55 256 (mI M43 54 24)) 57 = mI M 57 := (kp_sI kp53 rfl)
      have hB56 : BF fR M (sI M43 55 256 (mI M43 54 24)) := BF.a (x := 256) hB52 (by omega) (by omega) (by unfold aB; refine ⟨?_, ?_, ?_, ?_, ?_, ?_, ?_, ?_, ?_, ?_, ?_, ?_, ?_, ?_, ?_, ?_, ?_, ?_⟩ <;> intros <;> omega) (by omega) (by omega) (by omega) (by omega) (by omega) (by omega) fR_55
      refine vc_aload_n dX12_follow_70 rfl ?_
      refine vc_getR dX12_follow_71 flX12_7 (s_54 hB56.1.1) rfl (r_54_0 hB56.1.1) ?_
      refine vc_sipush dX12_follow_74 rfl ?_
      refine vc_aload_n dX12_follow_77 rfl ?_
      refine vc_getI dX12_follow_78 flX12_324 (s_54 hB56.1.1) rfl ?_
      refine vc_topI (mI M43 54 25) rfl ?_
      have k57 : 0 ≤ mI M43 54 25 ∧ mI M43 54 25 ≤ 3 := b54_25 (M := (sI M43 55 256 (mI M43 54 24))) hB56.1
      refine vc_iastore dX12_follow_81 (s_55 hB56.1.1) (by omega) (by omega) ?_
      refine vc_mem (sI (sI M43 55 256 (mI M43 54 24)) 55 257 (mI M43 54 25)) rfl ?_
      have kp58 : mI (sI (sI M43 55 256 (mI M43 54 24)) 55 257 (mI M43 54 25)) 57 = mI M 57 := (kp_sI kp55 rfl)
      have hB59 : BF fR M (sI (sI M43 55 256 (mI M43 54 24)) 55 257 (mI M43 54 25)) := BF.a (x := 257) hB56 (by omega) (by omega) (by unfold aB; refine ⟨?_, ?_, ?_, ?_, ?_, ?_, ?_, ?_, ?_, ?_, ?_, ?_, ?_, ?_, ?_, ?_, ?_, ?_⟩ <;> intros <;> omega) (by omega) (by omega) (by omega) (by omega) (by omega) (by omega) fR_55
      refine vc_aload_n dX12_follow_82 rfl ?_
      refine vc_getR dX12_follow_83 flX12_7 (s_54 hB59.1.1) rfl (r_54_0 hB59.1.1) ?_
      refine vc_sipush dX12_follow_86 rfl ?_
      refine vc_dup2 dX12_follow_89 rfl rfl ?_
      refine vc_iaload dX12_follow_90 (s_55 hB59.1.1) (by omega) (by omega) ?_
      refine vc_topI (mI M43 55 258) rfl ?_
      refine vc_aload_n dX12_follow_91 rfl ?_
      refine vc_getI dX12_follow_92 flX12_327 (s_54 hB59.1.1) rfl ?_
      refine vc_topI (mI M43 54 26) rfl ?_
      refine vc_iadd dX12_follow_95 ?_
      refine vc_iastore dX12_follow_96 (s_55 hB59.1.1) (by omega) (by omega) ?_
      refine vc_mem (sI (sI (sI M43 55 256 (mI M43 54 24)) 55 257 (mI M43 54 25)) 55 258 (wI ((mI M43 55 258) + (mI M43 54 26)))) rfl ?_
      have kp60 : mI (sI (sI (sI M43 55 256 (mI M43 54 24)) 55 257 (mI M43 54 25)) 55 258 (wI ((mI M43 55 258) + (mI M43 54 26)))) 57 = mI M 57 := (kp_sI kp58 rfl)
      have hB61 : BF fR M (sI (sI (sI M43 55 256 (mI M43 54 24)) 55 257 (mI M43 54 25)) 55 258 (wI ((mI M43 55 258) + (mI M43 54 26)))) := BF.a (x := 258) hB59 (by omega) (by omega) (by unfold aB; refine ⟨?_, ?_, ?_, ?_, ?_, ?_, ?_, ?_, ?_, ?_, ?_, ?_, ?_, ?_, ?_, ?_, ?_, ?_⟩ <;> intros <;> omega) (by omega) (by omega) (by omega) (by omega) (by omega) (by omega) fR_55
      refine vc_iload_n dX12_follow_97 rfl ?_
      refine vc_if_eq dX12_follow_98 (fun h62 => ?_) (fun h62 => ?_)
      · refine vc_iconst dX12_follow_105 rfl ?_
        refine vc_iret dX12_follow_106 rfl (Nat.le_of_ble_eq_true rfl) (Nat.le_of_ble_eq_true rfl) ?_
        have k63 : mI (sI (sI (sI M43 55 256 (mI M43 54 24)) 55 257 (mI M43 54 25)) 55 258 (wI ((mI M43 55 258) + (mI M43 54 26)))) 54 32 = mI M43 54 32 := rfl
        refine ⟨_, rfl, hB61, kp60, fun S' r9 hC => ?_⟩
        rcases hC with ⟨hc, e2, e1⟩ | ⟨hc, e2, e1⟩
        · have hq : gAl (fKp S) t 0 (-1) ((fKp S) 16 0, (fKp S) 16 1, 0, 0) = (gR M43, false) := by rcases hga with h | h; (exfalso; omega); (exact h.2)
          rw [hq] at e1 e2
          have e1 : r9 = 0 := e1
          have e2 : S' = sc (wI ((fKp S) 16 2 + mI M43 54 26)) (fPl (mI M43 54 24) (mI M43 54 25) (fKp S)) := e2
          have hs2 := hA1.sec
          rw [e2]; refine ⟨by omega, AR_place (a := mI M13 55) hA1 ⟨by omega, hlt⟩ ⟨by omega, by omega⟩ ?_ ?_ ?_ (fun j j1 j2 j3 j4 => ?_)⟩
          · rw [mI_sI, if_neg (by omega), mI_sI, if_neg (by omega), mI_sI, if_pos ⟨rfl, rfl⟩]
          · rw [mI_sI, if_neg (by omega), mI_sI, if_pos ⟨rfl, rfl⟩]
          · rw [mI_sI, if_pos ⟨rfl, rfl⟩, ← hs2, ← congrFun k55d 258]
          · rw [mI_sI, if_neg (by omega), mI_sI, if_neg (by omega), mI_sI, if_neg (by omega)]; exact congrFun k55d j
        · exfalso; omega
      · refine vc_iconst dX12_follow_101 rfl ?_
        refine vc_goto dX12_follow_102 ?_
        refine vc_iret dX12_follow_106 rfl (Nat.le_of_ble_eq_true rfl) (Nat.le_of_ble_eq_true rfl) ?_
        have k64 : mI (sI (sI (sI M43 55 256 (mI M43 54 24)) 55 257 (mI M43 54 25)) 55 258 (wI ((mI M43 55 258) + (mI M43 54 26)))) 54 32 = mI M43 54 32 := rfl
        refine ⟨_, rfl, hB61, kp60, fun S' r9 hC => ?_⟩
        rcases hC with ⟨hc, e2, e1⟩ | ⟨hc, e2, e1⟩
        · have hq : gAl (fKp S) t 0 (-1) ((fKp S) 16 0, (fKp S) 16 1, 0, 0) = (gR M43, true) := by rcases hga with h | h; (exact h.2); (exfalso; omega)
          rw [hq] at e1 e2
          have e1 : r9 = 1 := e1
          have e2 : S' = sc (wI ((fKp S) 16 2 + mI M43 54 26)) (fPl (mI M43 54 24) (mI M43 54 25) (fKp S)) := e2
          have hs2 := hA1.sec
          rw [e2]; refine ⟨by omega, AR_place (a := mI M13 55) hA1 ⟨by omega, hlt⟩ ⟨by omega, by omega⟩ ?_ ?_ ?_ (fun j j1 j2 j3 j4 => ?_)⟩
          · rw [mI_sI, if_neg (by omega), mI_sI, if_neg (by omega), mI_sI, if_pos ⟨rfl, rfl⟩]
          · rw [mI_sI, if_neg (by omega), mI_sI, if_pos ⟨rfl, rfl⟩]
          · rw [mI_sI, if_pos ⟨rfl, rfl⟩, ← hs2, ← congrFun k55d 258]
          · rw [mI_sI, if_neg (by omega), mI_sI, if_neg (by omega), mI_sI, if_neg (by omega)]; exact congrFun k55d j
        · exfalso; omega
    · refine vc_iconst dX12_follow_15 rfl ?_
      refine vc_iret dX12_follow_16 rfl (Nat.le_of_ble_eq_true rfl) (Nat.le_of_ble_eq_true rfl) ?_
      refine ⟨_, rfl, hB0, rfl, fun S' r9 hC => ?_⟩
      have c3 := p0.1.1.2.2.2.1
      have c0 := p0.2.1.2.2.1
      rcases hC with ⟨hc, e2, e1⟩ | ⟨hc, e2, e1⟩
      · exfalso; omega
      · rw [e2]; exact ⟨by omega, p0⟩

