/-! THE DEEDS of the class: goings (written by wip/laws2/c10a.py) -/
set_option maxRecDepth 4000 in
theorem sfX1_setOutF {l : Launch} {M : Mem} (hB : Box M)  (c : Int) (d : Int)  : Call l mdX1_setOut [aR 32, aI c, aI d] M (fun q N => q = none ∧ BF fS M N ∧ gW N = (c, d, 0, 0)) := by
  have hB0 : BF fS M M := BF.start hB
  refine Call.of [some (aR 32), some (aI c), some (aI d)] rfl (Nat.le_of_ble_eq_true rfl) rfl ?_
  refine vc_ok (fun hoM hoS hoL => ?_)
  have hr1 : -2147483648 ≤ c ∧ c < 2147483648 := hoL 1 _ rfl
  have hr2 : -2147483648 ≤ d ∧ d < 2147483648 := hoL 2 _ rfl
  refine vc_aload_n dX1_setOut_0 rfl ?_
  refine vc_iload_n dX1_setOut_1 rfl ?_
  refine vc_putI dX1_setOut_2 (plX1_19 _ rfl) (s_32 hB0.1.1) rfl ?_
  have hB1 : BF fS M (sI M 32 2 c) := BF.w32_2 hB0 rfl
  refine vc_aload_n dX1_setOut_5 rfl ?_
  refine vc_iload_n dX1_setOut_6 rfl ?_
  refine vc_putI dX1_setOut_7 (plX1_23 _ rfl) (s_32 hB1.1.1) rfl ?_
  have hB2 : BF fS M (sI (sI M 32 2 c) 32 3 d) := BF.w32_3 hB1 rfl
  refine vc_aload_n dX1_setOut_10 rfl ?_
  refine vc_iconst dX1_setOut_11 rfl ?_
  refine vc_putI dX1_setOut_12 (plX1_26 _ rfl) (s_32 hB2.1.1) rfl ?_
  have hB3 : BF fS M (sI (sI (sI M 32 2 c) 32 3 d) 32 4 0) := BF.w32_4 hB2 rfl (by omega) (by omega)
  refine vc_vret dX1_setOut_15 rfl (Nat.le_of_ble_eq_true rfl) (Nat.le_of_ble_eq_true rfl) ?_
  exact ⟨rfl, hB3, by rfl⟩

set_option maxRecDepth 4000 in
theorem sfX1_goesOnF {l : Launch} {M : Mem} (hB : Box M)    : Call l mdX1_goesOn [aR 32] M (fun q N => ∃ r : Int, q = some (aI r) ∧ BF fS M N ∧ 0 ≤ r ∧ r ≤ 1 ∧ ((r = 1 ∧ gOn (cS M) (gW M) = (gW N, true)) ∨ (r = 0 ∧ gOn (cS M) (gW M) = (gW N, false)))) := by
  have hB0 : BF fS M M := BF.start hB
  refine Call.of [some (aR 32), none] rfl (Nat.le_of_ble_eq_true rfl) rfl ?_
  refine vc_aload_n dX1_goesOn_0 rfl ?_
  refine vc_getR dX1_goesOn_1 flX1_9 (s_32 hB0.1.1) rfl (r_32_0 hB0.1.1) ?_
  refine vc_aload_n dX1_goesOn_4 rfl ?_
  refine vc_getI dX1_goesOn_5 flX1_19 (s_32 hB0.1.1) rfl ?_
  refine vc_aload_n dX1_goesOn_8 rfl ?_
  refine vc_getI dX1_goesOn_9 flX1_23 (s_32 hB0.1.1) rfl ?_
  refine vc_cVI dX1_goesOn_12 (sfX6_aheadF (M := M) hB0.1  (mI M 32 2) (mI M 32 3) ) rfl okX6_ahead viX6_ahead lkX1_64 (s_1 hB0.1.1) cl_6 rfl (Nat.le_of_ble_eq_true rfl) ⟨rfl, rfl⟩ (Nat.le_of_ble_eq_true rfl) (Nat.le_of_ble_eq_true rfl) (Nat.le_of_ble_eq_true rfl) ?_
  rintro x1 _ ⟨rfl, h2, h3, h4⟩
  refine vc_istore_n dX1_goesOn_15 (by decide) rfl (show _ = [some (aR 32), some (aI x1)] from rfl) ?_
  refine vc_iload_n dX1_goesOn_16 rfl ?_
  refine vc_iconst dX1_goesOn_17 rfl ?_
  refine vc_icmp_eq dX1_goesOn_18 (fun h5 => ?_) (fun h5 => ?_)
  · refine vc_iconst dX1_goesOn_33 rfl ?_
    refine vc_zret dX1_goesOn_34 rfl (by first | decide | omega) (Nat.le_of_ble_eq_true rfl) (Nat.le_of_ble_eq_true rfl) ?_
    have ha := h4
    exact ⟨_, rfl, hB0, by omega, by omega, Or.inr ⟨rfl, gOn_n (by first | exact Or.inl (by show ahS (cS M) (mI M 32 2) (mI M 32 3) = -1; omega) | exact Or.inr (by show 40 ≤ mI M 32 4; omega))⟩⟩
  · refine vc_aload_n dX1_goesOn_21 rfl ?_
    refine vc_getI dX1_goesOn_22 flX1_26 (s_32 hB0.1.1) rfl ?_
    have k6 : 0 ≤ mI M 32 4 ∧ mI M 32 4 ≤ 40 := b32_4 (M := M) hB0.1
    refine vc_aload_n dX1_goesOn_25 rfl ?_
    refine vc_getR dX1_goesOn_26 flX1_15 (s_32 hB0.1.1) rfl (r_32_1 hB0.1.1) ?_
    refine vc_alen dX1_goesOn_29 (s_33 hB0.1.1) rfl ?_
    refine vc_topI 40 rfl ?_
    refine vc_icmp_lt dX1_goesOn_30 (fun h7 => ?_) (fun h7 => ?_)
    · refine vc_aload_n dX1_goesOn_35 rfl ?_
      refine vc_getR dX1_goesOn_36 flX1_15 (s_32 hB0.1.1) rfl (r_32_1 hB0.1.1) ?_
      refine vc_aload_n dX1_goesOn_39 rfl ?_
      refine vc_getI dX1_goesOn_40 flX1_26 (s_32 hB0.1.1) rfl ?_
      refine vc_iconst dX1_goesOn_43 rfl ?_
      refine vc_aload_n dX1_goesOn_44 rfl ?_
      refine vc_getI dX1_goesOn_45 flX1_19 (s_32 hB0.1.1) rfl ?_
      refine vc_imul dX1_goesOn_48 ?_
      refine vc_aload_n dX1_goesOn_49 rfl ?_
      refine vc_getI dX1_goesOn_50 flX1_23 (s_32 hB0.1.1) rfl ?_
      refine vc_iadd dX1_goesOn_53 ?_
      refine vc_iastore dX1_goesOn_54 (s_33 hB0.1.1) (by omega) (by omega) ?_
      have hB8 : BF fS M (sI M 33 ((mI M 32 4).toNat) (wI ((wI (4 * (mI M 32 2))) + (mI M 32 3)))) := BF.w33 hB0 (fun _ => rfl) _
      refine vc_aload_n dX1_goesOn_55 rfl ?_
      refine vc_dup dX1_goesOn_56 rfl ?_
      refine vc_getI dX1_goesOn_57 flX1_26 (s_32 hB8.1.1) rfl ?_
      refine vc_topI (mI M 32 4) rfl ?_
      have k9 : 0 ≤ mI M 32 4 ∧ mI M 32 4 ≤ 40 := b32_4 (M := (sI M 33 ((mI M 32 4).toNat) (wI ((wI (4 * (mI M 32 2))) + (mI M 32 3))))) hB8.1
      refine vc_iconst dX1_goesOn_60 rfl ?_
      refine vc_iaddE dX1_goesOn_61 (by omega) (by omega) ?_
      refine vc_putI dX1_goesOn_62 (plX1_26 _ rfl) (s_32 hB8.1.1) rfl ?_
      have hB10 : BF fS M (sI (sI M 33 ((mI M 32 4).toNat) (wI ((wI (4 * (mI M 32 2))) + (mI M 32 3)))) 32 4 ((mI M 32 4) + 1)) := BF.w32_4 hB8 rfl (by omega) (by omega)
      refine vc_aload_n dX1_goesOn_65 rfl ?_
      refine vc_iload_n dX1_goesOn_66 rfl ?_
      refine vc_putI dX1_goesOn_67 (plX1_19 _ rfl) (s_32 hB10.1.1) rfl ?_
      have hB11 : BF fS M (sI (sI (sI M 33 ((mI M 32 4).toNat) (wI ((wI (4 * (mI M 32 2))) + (mI M 32 3)))) 32 4 ((mI M 32 4) + 1)) 32 2 x1) := BF.w32_2 hB10 rfl
      refine vc_iconst dX1_goesOn_70 rfl ?_
      refine vc_zret dX1_goesOn_71 rfl (by first | decide | omega) (Nat.le_of_ble_eq_true rfl) (Nat.le_of_ble_eq_true rfl) ?_
      have ha := h4
      have hc4 := b32_4 hB
      have hcs : cS (sI (sI (sI M 33 ((mI M 32 4).toNat) (wI ((wI (4 * (mI M 32 2))) + (mI M 32 3)))) 32 4 ((mI M 32 4) + 1)) 32 2 x1) = cS M := by rw [cS_o rfl rfl, cS_o rfl rfl, cS_o rfl rfl]
      exact ⟨_, rfl, hB11, by omega, by omega, Or.inl ⟨rfl, (gOn_y (fun e => by rcases e with e | e; (have e2 : ahS (cS M) (mI M 32 2) (mI M 32 3) = -1 := e; omega); (have e2 : 40 ≤ mI M 32 4 := e; omega))).trans (congrArg (fun q : Gw => (q, true)) (gW_on hcs hc4.1 rfl (fun i hi => by rw [mI_sI, if_neg (by omega), mI_sI, if_neg (by omega), mI_sI, if_neg (by omega)]) (by rw [mI_sI, if_neg (by omega), mI_sI, if_neg (by omega), mI_same]) ha rfl))⟩⟩
    · refine vc_iconst dX1_goesOn_33 rfl ?_
      refine vc_zret dX1_goesOn_34 rfl (by first | decide | omega) (Nat.le_of_ble_eq_true rfl) (Nat.le_of_ble_eq_true rfl) ?_
      have ha := h4
      exact ⟨_, rfl, hB0, by omega, by omega, Or.inr ⟨rfl, gOn_n (by first | exact Or.inl (by show ahS (cS M) (mI M 32 2) (mI M 32 3) = -1; omega) | exact Or.inr (by show 40 ≤ mI M 32 4; omega))⟩⟩

theorem and4 {s : Int} (h : 0 ≤ s) (h7 : s ≤ 7) : andI s 4 = 4 * (s / 4 % 2) := by
  rcases (by omega : s = 0 ∨ s = 1 ∨ s = 2 ∨ s = 3 ∨ s = 4 ∨ s = 5 ∨ s = 6 ∨ s = 7) with rfl | rfl | rfl | rfl | rfl | rfl | rfl | rfl <;> decide +kernel
theorem and2 {s : Int} (h : 0 ≤ s) (h7 : s ≤ 7) : andI s 2 = 2 * (s / 2 % 2) := by
  rcases (by omega : s = 0 ∨ s = 1 ∨ s = 2 ∨ s = 3 ∨ s = 4 ∨ s = 5 ∨ s = 6 ∨ s = 7) with rfl | rfl | rfl | rfl | rfl | rfl | rfl | rfl <;> decide +kernel
set_option maxRecDepth 4000 in
theorem sfX1_meantF {l : Launch} {M : Mem} (hB : Box M)  (t : Int) (s : Int) (p0 : 0 ≤ t) (p1 : t ≤ 399) (p2 : 0 ≤ s) (p3 : s ≤ 7) : Call l mdX1_meant [aI t, aI s] M (fun q N => ∃ r : Int, q = some (aI r) ∧ M = N ∧ 0 ≤ r ∧ r ≤ 399 ∧ r = mnS t s) := by
  have hB0 : BF fQ M M := BF.start hB
  refine Call.of [some (aI t), some (aI s), none, none, none] rfl (Nat.le_of_ble_eq_true rfl) rfl ?_
  have ha4 := and4 p2 p3
  refine vc_iload_n dX1_meant_0 rfl ?_
  refine vc_bipush dX1_meant_1 rfl ?_
  refine vc_idivE dX1_meant_3 (by omega) (by omega) ?_
  refine vc_nameI (fun x1 ex1 => ?_)
  refine vc_istore_n dX1_meant_4 (by decide) rfl (show _ = [some (aI t), some (aI s), some (aI x1), none, none] from rfl) ?_
  refine vc_iload_n dX1_meant_5 rfl ?_
  refine vc_bipush dX1_meant_6 rfl ?_
  refine vc_idivE dX1_meant_8 (by omega) (by omega) ?_
  refine vc_bipush dX1_meant_9 rfl ?_
  refine vc_iremE dX1_meant_11 (by omega) (by omega) ?_
  refine vc_nameI (fun x2 ex2 => ?_)
  refine vc_istore_n dX1_meant_12 (by decide) rfl (show _ = [some (aI t), some (aI s), some (aI x1), some (aI x2), none] from rfl) ?_
  refine vc_iload_n dX1_meant_13 rfl ?_
  refine vc_bipush dX1_meant_14 rfl ?_
  refine vc_iremE dX1_meant_16 (by omega) (by omega) ?_
  refine vc_nameI (fun x3 ex3 => ?_)
  refine vc_istore dX1_meant_17 (by decide) rfl (show _ = [some (aI t), some (aI s), some (aI x1), some (aI x2), some (aI x3)] from rfl) ?_
  refine vc_iload_n dX1_meant_19 rfl ?_
  refine vc_iconst dX1_meant_20 rfl ?_
  refine vc_iandM dX1_meant_21 2 1 rfl (by decide) rfl ?_
  refine vc_if_eq dX1_meant_22 (fun h4 => ?_) (fun h4 => ?_)
  · refine vc_iload_n dX1_meant_34 rfl ?_
    refine vc_iconst dX1_meant_35 rfl ?_
    refine vc_iand dX1_meant_36 ?_
    refine vc_if_eq dX1_meant_37 (fun h5 => ?_) (fun h5 => ?_)
    · refine vc_bipush dX1_meant_57 rfl ?_
      refine vc_iload_n dX1_meant_59 rfl ?_
      refine vc_imulE dX1_meant_60 (by omega) (by omega) ?_
      refine vc_bipush dX1_meant_61 rfl ?_
      refine vc_iload_n dX1_meant_63 rfl ?_
      refine vc_imulE dX1_meant_64 (by omega) (by omega) ?_
      refine vc_iaddE dX1_meant_65 (by omega) (by omega) ?_
      refine vc_iload dX1_meant_66 rfl ?_
      refine vc_iaddE dX1_meant_68 (by omega) (by omega) ?_
      refine vc_iret dX1_meant_69 rfl (Nat.le_of_ble_eq_true rfl) (Nat.le_of_ble_eq_true rfl) ?_
      exact ⟨_, rfl, rfl, by omega, by omega, by unfold mnS; (repeat' split) <;> omega⟩
    · refine vc_iload_n dX1_meant_40 rfl ?_
      refine vc_iconst dX1_meant_41 rfl ?_
      refine vc_icmp_ne dX1_meant_42 (fun h6 => ?_) (fun h6 => ?_)
      · refine vc_bipush dX1_meant_57 rfl ?_
        refine vc_iload_n dX1_meant_59 rfl ?_
        refine vc_imulE dX1_meant_60 (by omega) (by omega) ?_
        refine vc_bipush dX1_meant_61 rfl ?_
        refine vc_iload_n dX1_meant_63 rfl ?_
        refine vc_imulE dX1_meant_64 (by omega) (by omega) ?_
        refine vc_iaddE dX1_meant_65 (by omega) (by omega) ?_
        refine vc_iload dX1_meant_66 rfl ?_
        refine vc_iaddE dX1_meant_68 (by omega) (by omega) ?_
        refine vc_iret dX1_meant_69 rfl (Nat.le_of_ble_eq_true rfl) (Nat.le_of_ble_eq_true rfl) ?_
        exact ⟨_, rfl, rfl, by omega, by omega, by unfold mnS; (repeat' split) <;> omega⟩
      · refine vc_iload dX1_meant_45 rfl ?_
        refine vc_iconst dX1_meant_47 rfl ?_
        refine vc_icmp_gt dX1_meant_48 (fun h7 => ?_) (fun h7 => ?_)
        · refine vc_bipush dX1_meant_57 rfl ?_
          refine vc_iload_n dX1_meant_59 rfl ?_
          refine vc_imulE dX1_meant_60 (by omega) (by omega) ?_
          refine vc_bipush dX1_meant_61 rfl ?_
          refine vc_iload_n dX1_meant_63 rfl ?_
          refine vc_imulE dX1_meant_64 (by omega) (by omega) ?_
          refine vc_iaddE dX1_meant_65 (by omega) (by omega) ?_
          refine vc_iload dX1_meant_66 rfl ?_
          refine vc_iaddE dX1_meant_68 (by omega) (by omega) ?_
          refine vc_iret dX1_meant_69 rfl (Nat.le_of_ble_eq_true rfl) (Nat.le_of_ble_eq_true rfl) ?_
          exact ⟨_, rfl, rfl, by omega, by omega, by unfold mnS; (repeat' split) <;> omega⟩
        · refine vc_iconst dX1_meant_51 rfl ?_
          refine vc_iload dX1_meant_52 rfl ?_
          refine vc_isubE dX1_meant_54 (by omega) (by omega) ?_
          refine vc_nameI (fun x8 ex8 => ?_)
          refine vc_istore dX1_meant_55 (by decide) rfl (show _ = [some (aI t), some (aI s), some (aI x1), some (aI x2), some (aI x8)] from rfl) ?_
          refine vc_bipush dX1_meant_57 rfl ?_
          refine vc_iload_n dX1_meant_59 rfl ?_
          refine vc_imulE dX1_meant_60 (by omega) (by omega) ?_
          refine vc_bipush dX1_meant_61 rfl ?_
          refine vc_iload_n dX1_meant_63 rfl ?_
          refine vc_imulE dX1_meant_64 (by omega) (by omega) ?_
          refine vc_iaddE dX1_meant_65 (by omega) (by omega) ?_
          refine vc_iload dX1_meant_66 rfl ?_
          refine vc_iaddE dX1_meant_68 (by omega) (by omega) ?_
          refine vc_iret dX1_meant_69 rfl (Nat.le_of_ble_eq_true rfl) (Nat.le_of_ble_eq_true rfl) ?_
          exact ⟨_, rfl, rfl, by omega, by omega, by unfold mnS; (repeat' split) <;> omega⟩
  · refine vc_iload_n dX1_meant_25 rfl ?_
    refine vc_iconst dX1_meant_26 rfl ?_
    refine vc_icmp_eq dX1_meant_27 (fun h9 => ?_) (fun h9 => ?_)
    · refine vc_iload_n dX1_meant_34 rfl ?_
      refine vc_iconst dX1_meant_35 rfl ?_
      refine vc_iand dX1_meant_36 ?_
      refine vc_if_eq dX1_meant_37 (fun h10 => ?_) (fun h10 => ?_)
      · refine vc_bipush dX1_meant_57 rfl ?_
        refine vc_iload_n dX1_meant_59 rfl ?_
        refine vc_imulE dX1_meant_60 (by omega) (by omega) ?_
        refine vc_bipush dX1_meant_61 rfl ?_
        refine vc_iload_n dX1_meant_63 rfl ?_
        refine vc_imulE dX1_meant_64 (by omega) (by omega) ?_
        refine vc_iaddE dX1_meant_65 (by omega) (by omega) ?_
        refine vc_iload dX1_meant_66 rfl ?_
        refine vc_iaddE dX1_meant_68 (by omega) (by omega) ?_
        refine vc_iret dX1_meant_69 rfl (Nat.le_of_ble_eq_true rfl) (Nat.le_of_ble_eq_true rfl) ?_
        exact ⟨_, rfl, rfl, by omega, by omega, by unfold mnS; (repeat' split) <;> omega⟩
      · refine vc_iload_n dX1_meant_40 rfl ?_
        refine vc_iconst dX1_meant_41 rfl ?_
        refine vc_icmp_ne dX1_meant_42 (fun h11 => ?_) (fun h11 => ?_)
        · refine vc_bipush dX1_meant_57 rfl ?_
          refine vc_iload_n dX1_meant_59 rfl ?_
          refine vc_imulE dX1_meant_60 (by omega) (by omega) ?_
          refine vc_bipush dX1_meant_61 rfl ?_
          refine vc_iload_n dX1_meant_63 rfl ?_
          refine vc_imulE dX1_meant_64 (by omega) (by omega) ?_
          refine vc_iaddE dX1_meant_65 (by omega) (by omega) ?_
          refine vc_iload dX1_meant_66 rfl ?_
          refine vc_iaddE dX1_meant_68 (by omega) (by omega) ?_
          refine vc_iret dX1_meant_69 rfl (Nat.le_of_ble_eq_true rfl) (Nat.le_of_ble_eq_true rfl) ?_
          exact ⟨_, rfl, rfl, by omega, by omega, by unfold mnS; (repeat' split) <;> omega⟩
        · refine vc_iload dX1_meant_45 rfl ?_
          refine vc_iconst dX1_meant_47 rfl ?_
          refine vc_icmp_gt dX1_meant_48 (fun h12 => ?_) (fun h12 => ?_)
          · refine vc_bipush dX1_meant_57 rfl ?_
            refine vc_iload_n dX1_meant_59 rfl ?_
            refine vc_imulE dX1_meant_60 (by omega) (by omega) ?_
            refine vc_bipush dX1_meant_61 rfl ?_
            refine vc_iload_n dX1_meant_63 rfl ?_
            refine vc_imulE dX1_meant_64 (by omega) (by omega) ?_
            refine vc_iaddE dX1_meant_65 (by omega) (by omega) ?_
            refine vc_iload dX1_meant_66 rfl ?_
            refine vc_iaddE dX1_meant_68 (by omega) (by omega) ?_
            refine vc_iret dX1_meant_69 rfl (Nat.le_of_ble_eq_true rfl) (Nat.le_of_ble_eq_true rfl) ?_
            exact ⟨_, rfl, rfl, by omega, by omega, by unfold mnS; (repeat' split) <;> omega⟩
          · refine vc_iconst dX1_meant_51 rfl ?_
            refine vc_iload dX1_meant_52 rfl ?_
            refine vc_isubE dX1_meant_54 (by omega) (by omega) ?_
            refine vc_nameI (fun x13 ex13 => ?_)
            refine vc_istore dX1_meant_55 (by decide) rfl (show _ = [some (aI t), some (aI s), some (aI x1), some (aI x2), some (aI x13)] from rfl) ?_
            refine vc_bipush dX1_meant_57 rfl ?_
            refine vc_iload_n dX1_meant_59 rfl ?_
            refine vc_imulE dX1_meant_60 (by omega) (by omega) ?_
            refine vc_bipush dX1_meant_61 rfl ?_
            refine vc_iload_n dX1_meant_63 rfl ?_
            refine vc_imulE dX1_meant_64 (by omega) (by omega) ?_
            refine vc_iaddE dX1_meant_65 (by omega) (by omega) ?_
            refine vc_iload dX1_meant_66 rfl ?_
            refine vc_iaddE dX1_meant_68 (by omega) (by omega) ?_
            refine vc_iret dX1_meant_69 rfl (Nat.le_of_ble_eq_true rfl) (Nat.le_of_ble_eq_true rfl) ?_
            exact ⟨_, rfl, rfl, by omega, by omega, by unfold mnS; (repeat' split) <;> omega⟩
    · refine vc_iconst dX1_meant_30 rfl ?_
      refine vc_iload_n dX1_meant_31 rfl ?_
      refine vc_isubE dX1_meant_32 (by omega) (by omega) ?_
      refine vc_nameI (fun x14 ex14 => ?_)
      refine vc_istore_n dX1_meant_33 (by decide) rfl (show _ = [some (aI t), some (aI s), some (aI x14), some (aI x2), some (aI x3)] from rfl) ?_
      refine vc_iload_n dX1_meant_34 rfl ?_
      refine vc_iconst dX1_meant_35 rfl ?_
      refine vc_iand dX1_meant_36 ?_
      refine vc_if_eq dX1_meant_37 (fun h15 => ?_) (fun h15 => ?_)
      · refine vc_bipush dX1_meant_57 rfl ?_
        refine vc_iload_n dX1_meant_59 rfl ?_
        refine vc_imulE dX1_meant_60 (by omega) (by omega) ?_
        refine vc_bipush dX1_meant_61 rfl ?_
        refine vc_iload_n dX1_meant_63 rfl ?_
        refine vc_imulE dX1_meant_64 (by omega) (by omega) ?_
        refine vc_iaddE dX1_meant_65 (by omega) (by omega) ?_
        refine vc_iload dX1_meant_66 rfl ?_
        refine vc_iaddE dX1_meant_68 (by omega) (by omega) ?_
        refine vc_iret dX1_meant_69 rfl (Nat.le_of_ble_eq_true rfl) (Nat.le_of_ble_eq_true rfl) ?_
        exact ⟨_, rfl, rfl, by omega, by omega, by unfold mnS; (repeat' split) <;> omega⟩
      · refine vc_iload_n dX1_meant_40 rfl ?_
        refine vc_iconst dX1_meant_41 rfl ?_
        refine vc_icmp_ne dX1_meant_42 (fun h16 => ?_) (fun h16 => ?_)
        · refine vc_bipush dX1_meant_57 rfl ?_
          refine vc_iload_n dX1_meant_59 rfl ?_
          refine vc_imulE dX1_meant_60 (by omega) (by omega) ?_
          refine vc_bipush dX1_meant_61 rfl ?_
          refine vc_iload_n dX1_meant_63 rfl ?_
          refine vc_imulE dX1_meant_64 (by omega) (by omega) ?_
          refine vc_iaddE dX1_meant_65 (by omega) (by omega) ?_
          refine vc_iload dX1_meant_66 rfl ?_
          refine vc_iaddE dX1_meant_68 (by omega) (by omega) ?_
          refine vc_iret dX1_meant_69 rfl (Nat.le_of_ble_eq_true rfl) (Nat.le_of_ble_eq_true rfl) ?_
          exact ⟨_, rfl, rfl, by omega, by omega, by unfold mnS; (repeat' split) <;> omega⟩
        · refine vc_iload dX1_meant_45 rfl ?_
          refine vc_iconst dX1_meant_47 rfl ?_
          refine vc_icmp_gt dX1_meant_48 (fun h17 => ?_) (fun h17 => ?_)
          · refine vc_bipush dX1_meant_57 rfl ?_
            refine vc_iload_n dX1_meant_59 rfl ?_
            refine vc_imulE dX1_meant_60 (by omega) (by omega) ?_
            refine vc_bipush dX1_meant_61 rfl ?_
            refine vc_iload_n dX1_meant_63 rfl ?_
            refine vc_imulE dX1_meant_64 (by omega) (by omega) ?_
            refine vc_iaddE dX1_meant_65 (by omega) (by omega) ?_
            refine vc_iload dX1_meant_66 rfl ?_
            refine vc_iaddE dX1_meant_68 (by omega) (by omega) ?_
            refine vc_iret dX1_meant_69 rfl (Nat.le_of_ble_eq_true rfl) (Nat.le_of_ble_eq_true rfl) ?_
            exact ⟨_, rfl, rfl, by omega, by omega, by unfold mnS; (repeat' split) <;> omega⟩
          · refine vc_iconst dX1_meant_51 rfl ?_
            refine vc_iload dX1_meant_52 rfl ?_
            refine vc_isubE dX1_meant_54 (by omega) (by omega) ?_
            refine vc_nameI (fun x18 ex18 => ?_)
            refine vc_istore dX1_meant_55 (by decide) rfl (show _ = [some (aI t), some (aI s), some (aI x14), some (aI x2), some (aI x18)] from rfl) ?_
            refine vc_bipush dX1_meant_57 rfl ?_
            refine vc_iload_n dX1_meant_59 rfl ?_
            refine vc_imulE dX1_meant_60 (by omega) (by omega) ?_
            refine vc_bipush dX1_meant_61 rfl ?_
            refine vc_iload_n dX1_meant_63 rfl ?_
            refine vc_imulE dX1_meant_64 (by omega) (by omega) ?_
            refine vc_iaddE dX1_meant_65 (by omega) (by omega) ?_
            refine vc_iload dX1_meant_66 rfl ?_
            refine vc_iaddE dX1_meant_68 (by omega) (by omega) ?_
            refine vc_iret dX1_meant_69 rfl (Nat.le_of_ble_eq_true rfl) (Nat.le_of_ble_eq_true rfl) ?_
            exact ⟨_, rfl, rfl, by omega, by omega, by unfold mnS; (repeat' split) <;> omega⟩

set_option maxRecDepth 4000 in
theorem sfX1_takesF {l : Launch} {M : Mem} (hB : Box M)  (t : Int) (s : Int) (p0 : 0 ≤ t) (p1 : t ≤ 399) (p2 : 0 ≤ s) (p3 : s ≤ 7) : Call l mdX1_takes [aR 32, aI t, aI s] M (fun q N => ∃ r : Int, q = some (aI r) ∧ BF fS M N ∧ 0 ≤ r ∧ r ≤ 1 ∧ ((r = 1 ∧ gTu (cS M) t (laS s) (gW M) = (gW N, true)) ∨ (r = 0 ∧ gTu (cS M) t (laS s) (gW M) = (gW N, false)))) := by
  have hB0 : BF fS M M := BF.start hB
  refine Call.of [some (aR 32), some (aI t), some (aI s), none, none, none, none, none, none, none, none] rfl (Nat.le_of_ble_eq_true rfl) rfl ?_
  have hc0 := b32_4 hB
  have ha2 := and2 p2 p3
  refine vc_iload_n dX1_takes_0 rfl ?_
  refine vc_bipush dX1_takes_1 rfl ?_
  refine vc_idivE dX1_takes_3 (by omega) (by omega) ?_
  refine vc_nameI (fun x1 ex1 => ?_)
  refine vc_istore_n dX1_takes_4 (by decide) rfl (show _ = [some (aR 32), some (aI t), some (aI s), some (aI x1), none, none, none, none, none, none, none] from rfl) ?_
  refine vc_iload_n dX1_takes_5 rfl ?_
  refine vc_bipush dX1_takes_6 rfl ?_
  refine vc_idivE dX1_takes_8 (by omega) (by omega) ?_
  refine vc_bipush dX1_takes_9 rfl ?_
  refine vc_iremE dX1_takes_11 (by omega) (by omega) ?_
  refine vc_iconst dX1_takes_12 rfl ?_
  refine vc_icmp_ne dX1_takes_13 (fun h2 => ?_) (fun h2 => ?_)
  · refine vc_iconst dX1_takes_20 rfl ?_
    refine vc_istore dX1_takes_21 (by decide) rfl (show _ = [some (aR 32), some (aI t), some (aI s), some (aI x1), some (aI 0), none, none, none, none, none, none] from rfl) ?_
    refine vc_iload_n dX1_takes_23 rfl ?_
    refine vc_bipush dX1_takes_24 rfl ?_
    refine vc_iremE dX1_takes_26 (by omega) (by omega) ?_
    refine vc_nameI (fun x3 ex3 => ?_)
    refine vc_istore dX1_takes_27 (by decide) rfl (show _ = [some (aR 32), some (aI t), some (aI s), some (aI x1), some (aI 0), some (aI x3), none, none, none, none, none] from rfl) ?_
    refine vc_iload dX1_takes_29 rfl ?_
    refine vc_if_eq dX1_takes_31 (fun h4 => ?_) (fun h4 => by exfalso; omega)
    refine vc_iload dX1_takes_38 rfl ?_
    refine vc_istore dX1_takes_40 (by decide) rfl (show _ = [some (aR 32), some (aI t), some (aI s), some (aI x1), some (aI 0), some (aI x3), some (aI x3), none, none, none, none] from rfl) ?_
    refine vc_aload_n dX1_takes_42 rfl ?_
    refine vc_getI dX1_takes_43 flX1_23 (s_32 hB0.1.1) rfl ?_
    refine vc_iload_n dX1_takes_46 rfl ?_
    refine vc_cSI dX1_takes_47 (sfX1_sideOfF (M := M) hB0.1  (mI M 32 3) x1 ) rfl okX1_sideOf stX1_sideOf lkX1_67 rfl (Nat.le_of_ble_eq_true rfl) ⟨rfl, rfl⟩ (Nat.le_of_ble_eq_true rfl) (Nat.le_of_ble_eq_true rfl) (Nat.le_of_ble_eq_true rfl) ?_
    rintro x5 _ ⟨rfl, h6⟩
    have hsd : x5 = (sdS (mI M 32 3) (t / 100)) := h6.trans (by rw [ex1])
    refine vc_istore dX1_takes_50 (by decide) rfl (show _ = [some (aR 32), some (aI t), some (aI s), some (aI x1), some (aI 0), some (aI x3), some (aI x3), some (aI x5), none, none, none] from rfl) ?_
    refine vc_iload_n dX1_takes_52 rfl ?_
    refine vc_iconst dX1_takes_53 rfl ?_
    refine vc_iand dX1_takes_54 ?_
    refine vc_if_ne dX1_takes_55 (fun h7 => ?_) (fun h7 => ?_)
    · refine vc_iconst dX1_takes_62 rfl ?_
      refine vc_istore dX1_takes_63 (by decide) rfl (show _ = [some (aR 32), some (aI t), some (aI s), some (aI x1), some (aI 0), some (aI x3), some (aI x3), some (aI x5), some (aI 0), none, none] from rfl) ?_
      have hla : (0 : Int) = laS s := by unfold laS; first | (rw [if_pos (by omega)]) | (rw [if_neg (by omega)])
      have hdu : (t % 10 : Int) = if t / 10 % 10 = 1 then 1 else t % 10 := by first | (rw [if_pos (by omega)]) | (rw [if_neg (by omega)])
      refine vc_iconst dX1_takes_65 rfl ?_
      refine vc_istore dX1_takes_66 (by decide) rfl (show _ = [some (aR 32), some (aI t), some (aI s), some (aI x1), some (aI 0), some (aI x3), some (aI x3), some (aI x5), some (aI 0), some (aI 0), none] from rfl) ?_
      refine vc_iconst dX1_takes_68 rfl ?_
      refine vc_istore dX1_takes_69 (by decide) rfl (show _ = [some (aR 32), some (aI t), some (aI s), some (aI x1), some (aI 0), some (aI x3), some (aI x3), some (aI x5), some (aI 0), some (aI 0), some (aI 0)] from rfl) ?_
      have lp71 : ∀ (n71 : Nat) (Mq71 : Mem) (v9 : Int) (v10 : Int), (BF fS M Mq71) → (0 ≤ v9) → (v9 ≤ v10) → (0 ≤ v10) → (v10 ≤ 41) → (gTk (cS M) (gCt (cS M) t (sdS (mI M 32 3) (t / 100)) (laS s)) (41 - mI M 32 4).toNat (t % 10) (gW M) = gTk (cS M) (gCt (cS M) t (sdS (mI M 32 3) (t / 100)) (laS s)) (41 - mI Mq71 32 4).toNat (t % 10 - v9) (gW Mq71)) → (mI Mq71 32 3 = mI M 32 3) → (v10 ≤ mI Mq71 32 4) → (0 ≤ mI Mq71 32 4) → (mI Mq71 32 4 ≤ 40) → (41 - v10).toNat < n71 → VC l mdX1_takes 71 [some (aR 32), none, none, some (aI x1), some (aI 0), some (aI x3), some (aI x3), some (aI x5), some (aI 0), some (aI v9), some (aI v10)] [] Mq71 0 0 (fun q N => ∃ r : Int, q = some (aI r) ∧ BF fS M N ∧ 0 ≤ r ∧ r ≤ 1 ∧ ((r = 1 ∧ gTu (cS M) t (laS s) (gW M) = (gW N, true)) ∨ (r = 0 ∧ gTu (cS M) t (laS s) (gW M) = (gW N, false)))) := by
        intro n71
        induction n71 with
        | zero => intro Mq71 v9 v10 hQ71 g71_9a g71_9b g71_10a g71_10b g71i0 g71i1 g71i2 g71i3 g71i4 hm71; exact absurd hm71 (Nat.not_lt_zero _)
        | succ n71 ih71 =>
          intro Mq71 v9 v10 hQ71 g71_9a g71_9b g71_10a g71_10b g71i0 g71i1 g71i2 g71i3 g71i4 hm71
          refine vc_iload dX1_takes_71 rfl ?_
          refine vc_bipush dX1_takes_73 rfl ?_
          refine vc_icmp_gt dX1_takes_75 (fun h8 => ?_) (fun h8 => ?_)
          · refine vc_iload_n dX1_takes_150 rfl ?_
            refine vc_iconst dX1_takes_151 rfl ?_
            refine vc_icmp_eq dX1_takes_152 (fun h9 => ?_) (fun h9 => ?_)
            · refine vc_aload_n dX1_takes_175 rfl ?_
              refine vc_iload dX1_takes_176 rfl ?_
              refine vc_putI dX1_takes_178 (plX1_23 _ rfl) (s_32 hQ71.1.1) rfl ?_
              have hB10 : BF fS M (sI Mq71 32 3 x5) := BF.w32_3 hQ71 rfl
              refine vc_iconst dX1_takes_181 rfl ?_
              refine vc_zret dX1_takes_182 rfl (by first | decide | omega) (Nat.le_of_ble_eq_true rfl) (Nat.le_of_ble_eq_true rfl) ?_
              have k11 : mI (sI Mq71 32 3 x5) 32 3 = x5 := rfl
              have k12 : mI (sI Mq71 32 3 x5) 32 4 = mI Mq71 32 4 := rfl
              have hcome := b32_4 hQ71.1
              first | (exfalso; omega) | exact ⟨_, rfl, hB10, by omega, by omega, Or.inl ⟨rfl, (gTu_y (S := cS M) (g := gW M) (q := gW Mq71) hdu (g71i0.trans (by rw [show (41 - mI Mq71 32 4).toNat = (40 - mI Mq71 32 4).toNat + 1 by omega]; exact gTk_0 (by omega))) (by first | exact Or.inl (by omega) | exact Or.inr (by rcases hct with h2 | h2; (exact h2.2); (exfalso; omega)))).trans (by rw [show (gW M).2.1 = mI M 32 3 from rfl, ← hsd, gW_f])⟩⟩
            · refine vc_aload_n dX1_takes_155 rfl ?_
              refine vc_getR dX1_takes_156 flX1_9 (s_32 hQ71.1.1) rfl (r_32_0 hQ71.1.1) ?_
              refine vc_aload_n dX1_takes_159 rfl ?_
              refine vc_getI dX1_takes_160 flX1_19 (s_32 hQ71.1.1) rfl ?_
              refine vc_iload dX1_takes_163 rfl ?_
              refine vc_iload dX1_takes_165 rfl ?_
              refine vc_cVI dX1_takes_167 (sfX6_countsF (M := Mq71) hQ71.1  (mI Mq71 32 2) x5 0 ) rfl okX6_counts viX6_counts lkX1_74 (s_1 hQ71.1.1) cl_6 rfl (Nat.le_of_ble_eq_true rfl) ⟨rfl, rfl⟩ (Nat.le_of_ble_eq_true rfl) (Nat.le_of_ble_eq_true rfl) (Nat.le_of_ble_eq_true rfl) ?_
              rintro x13 _ ⟨rfl, h14, h15, h16⟩
              have hct : (x13 = 1 ∧ cntS (cS M) (mI Mq71 32 2) (sdS (mI M 32 3) (t / 100)) (laS s)) ∨ (x13 = 0 ∧ ¬ cntS (cS M) (mI Mq71 32 2) (sdS (mI M 32 3) (t / 100)) (laS s)) := by
                have z := h16
                rw [show cS Mq71 = cS M from cS_bf hB hQ71] at z
                rw [← hsd, ← hla]; exact z
              refine vc_if_ne dX1_takes_170 (fun h17 => ?_) (fun h17 => ?_)
              · refine vc_aload_n dX1_takes_175 rfl ?_
                refine vc_iload dX1_takes_176 rfl ?_
                refine vc_putI dX1_takes_178 (plX1_23 _ rfl) (s_32 hQ71.1.1) rfl ?_
                have hB18 : BF fS M (sI Mq71 32 3 x5) := BF.w32_3 hQ71 rfl
                refine vc_iconst dX1_takes_181 rfl ?_
                refine vc_zret dX1_takes_182 rfl (by first | decide | omega) (Nat.le_of_ble_eq_true rfl) (Nat.le_of_ble_eq_true rfl) ?_
                have k19 : mI (sI Mq71 32 3 x5) 32 3 = x5 := rfl
                have k20 : mI (sI Mq71 32 3 x5) 32 4 = mI Mq71 32 4 := rfl
                have hcome := b32_4 hQ71.1
                first | (exfalso; omega) | exact ⟨_, rfl, hB18, by omega, by omega, Or.inl ⟨rfl, (gTu_y (S := cS M) (g := gW M) (q := gW Mq71) hdu (g71i0.trans (by rw [show (41 - mI Mq71 32 4).toNat = (40 - mI Mq71 32 4).toNat + 1 by omega]; exact gTk_0 (by omega))) (by first | exact Or.inl (by omega) | exact Or.inr (by rcases hct with h2 | h2; (exact h2.2); (exfalso; omega)))).trans (by rw [show (gW M).2.1 = mI M 32 3 from rfl, ← hsd, gW_f])⟩⟩
              · refine vc_iconst dX1_takes_173 rfl ?_
                refine vc_zret dX1_takes_174 rfl (by first | decide | omega) (Nat.le_of_ble_eq_true rfl) (Nat.le_of_ble_eq_true rfl) ?_
                have hcome := b32_4 hQ71.1
                first | (exfalso; omega) | exact ⟨_, rfl, hQ71, by omega, by omega, Or.inr ⟨rfl, gTu_n (S := cS M) (g := gW M) (q := gW Mq71) hdu (g71i0.trans (by rw [show (41 - mI Mq71 32 4).toNat = (40 - mI Mq71 32 4).toNat + 1 by omega]; exact gTk_0 (by omega))) (by rintro (h | h); (have h9 : t / 100 = 3 := h; omega); (rcases hct with h2 | h2; (exfalso; omega); (exact h2.2 h)))⟩⟩
          · refine vc_iload dX1_takes_78 rfl ?_
            refine vc_iload dX1_takes_80 rfl ?_
            refine vc_icmp_ge dX1_takes_82 (fun h21 => ?_) (fun h21 => ?_)
            · refine vc_iload_n dX1_takes_150 rfl ?_
              refine vc_iconst dX1_takes_151 rfl ?_
              refine vc_icmp_eq dX1_takes_152 (fun h22 => ?_) (fun h22 => ?_)
              · refine vc_aload_n dX1_takes_175 rfl ?_
                refine vc_iload dX1_takes_176 rfl ?_
                refine vc_putI dX1_takes_178 (plX1_23 _ rfl) (s_32 hQ71.1.1) rfl ?_
                have hB23 : BF fS M (sI Mq71 32 3 x5) := BF.w32_3 hQ71 rfl
                refine vc_iconst dX1_takes_181 rfl ?_
                refine vc_zret dX1_takes_182 rfl (by first | decide | omega) (Nat.le_of_ble_eq_true rfl) (Nat.le_of_ble_eq_true rfl) ?_
                have k24 : mI (sI Mq71 32 3 x5) 32 3 = x5 := rfl
                have k25 : mI (sI Mq71 32 3 x5) 32 4 = mI Mq71 32 4 := rfl
                have hcome := b32_4 hQ71.1
                first | (exfalso; omega) | exact ⟨_, rfl, hB23, by omega, by omega, Or.inl ⟨rfl, (gTu_y (S := cS M) (g := gW M) (q := gW Mq71) hdu (g71i0.trans (by rw [show (41 - mI Mq71 32 4).toNat = (40 - mI Mq71 32 4).toNat + 1 by omega]; exact gTk_0 (by omega))) (by first | exact Or.inl (by omega) | exact Or.inr (by rcases hct with h2 | h2; (exact h2.2); (exfalso; omega)))).trans (by rw [show (gW M).2.1 = mI M 32 3 from rfl, ← hsd, gW_f])⟩⟩
              · refine vc_aload_n dX1_takes_155 rfl ?_
                refine vc_getR dX1_takes_156 flX1_9 (s_32 hQ71.1.1) rfl (r_32_0 hQ71.1.1) ?_
                refine vc_aload_n dX1_takes_159 rfl ?_
                refine vc_getI dX1_takes_160 flX1_19 (s_32 hQ71.1.1) rfl ?_
                refine vc_iload dX1_takes_163 rfl ?_
                refine vc_iload dX1_takes_165 rfl ?_
                refine vc_cVI dX1_takes_167 (sfX6_countsF (M := Mq71) hQ71.1  (mI Mq71 32 2) x5 0 ) rfl okX6_counts viX6_counts lkX1_74 (s_1 hQ71.1.1) cl_6 rfl (Nat.le_of_ble_eq_true rfl) ⟨rfl, rfl⟩ (Nat.le_of_ble_eq_true rfl) (Nat.le_of_ble_eq_true rfl) (Nat.le_of_ble_eq_true rfl) ?_
                rintro x26 _ ⟨rfl, h27, h28, h29⟩
                have hct : (x26 = 1 ∧ cntS (cS M) (mI Mq71 32 2) (sdS (mI M 32 3) (t / 100)) (laS s)) ∨ (x26 = 0 ∧ ¬ cntS (cS M) (mI Mq71 32 2) (sdS (mI M 32 3) (t / 100)) (laS s)) := by
                  have z := h29
                  rw [show cS Mq71 = cS M from cS_bf hB hQ71] at z
                  rw [← hsd, ← hla]; exact z
                refine vc_if_ne dX1_takes_170 (fun h30 => ?_) (fun h30 => ?_)
                · refine vc_aload_n dX1_takes_175 rfl ?_
                  refine vc_iload dX1_takes_176 rfl ?_
                  refine vc_putI dX1_takes_178 (plX1_23 _ rfl) (s_32 hQ71.1.1) rfl ?_
                  have hB31 : BF fS M (sI Mq71 32 3 x5) := BF.w32_3 hQ71 rfl
                  refine vc_iconst dX1_takes_181 rfl ?_
                  refine vc_zret dX1_takes_182 rfl (by first | decide | omega) (Nat.le_of_ble_eq_true rfl) (Nat.le_of_ble_eq_true rfl) ?_
                  have k32 : mI (sI Mq71 32 3 x5) 32 3 = x5 := rfl
                  have k33 : mI (sI Mq71 32 3 x5) 32 4 = mI Mq71 32 4 := rfl
                  have hcome := b32_4 hQ71.1
                  first | (exfalso; omega) | exact ⟨_, rfl, hB31, by omega, by omega, Or.inl ⟨rfl, (gTu_y (S := cS M) (g := gW M) (q := gW Mq71) hdu (g71i0.trans (by rw [show (41 - mI Mq71 32 4).toNat = (40 - mI Mq71 32 4).toNat + 1 by omega]; exact gTk_0 (by omega))) (by first | exact Or.inl (by omega) | exact Or.inr (by rcases hct with h2 | h2; (exact h2.2); (exfalso; omega)))).trans (by rw [show (gW M).2.1 = mI M 32 3 from rfl, ← hsd, gW_f])⟩⟩
                · refine vc_iconst dX1_takes_173 rfl ?_
                  refine vc_zret dX1_takes_174 rfl (by first | decide | omega) (Nat.le_of_ble_eq_true rfl) (Nat.le_of_ble_eq_true rfl) ?_
                  have hcome := b32_4 hQ71.1
                  first | (exfalso; omega) | exact ⟨_, rfl, hQ71, by omega, by omega, Or.inr ⟨rfl, gTu_n (S := cS M) (g := gW M) (q := gW Mq71) hdu (g71i0.trans (by rw [show (41 - mI Mq71 32 4).toNat = (40 - mI Mq71 32 4).toNat + 1 by omega]; exact gTk_0 (by omega))) (by rintro (h | h); (have h9 : t / 100 = 3 := h; omega); (rcases hct with h2 | h2; (exfalso; omega); (exact h2.2 h)))⟩⟩
            · refine vc_aload_n dX1_takes_85 rfl ?_
              refine vc_cVI dX1_takes_86 (sfX1_goesOnF (M := Mq71) hQ71.1   ) rfl okX1_goesOn viX1_goesOn lkX1_60 (s_32 hQ71.1.1) cl_1 rfl (Nat.le_of_ble_eq_true rfl) ⟨rfl, rfl⟩ (Nat.le_of_ble_eq_true rfl) (Nat.le_of_ble_eq_true rfl) (Nat.le_of_ble_eq_true rfl) ?_
              rintro x34 M35 ⟨hB36, h37, h38, h39⟩
              have hB40 : BF fS M M35 := BF.go hQ71 hB36
              have hgn := h39
              have hcs : cS M35 = cS M := cS_bf hB hB40
              have hcq : cS Mq71 = cS M := cS_bf hB hQ71
              rw [hcq] at hgn
              have hcome := b32_4 (M := M35) hB40.1
              refine vc_if_ne dX1_takes_89 (fun h41 => ?_) (fun h41 => ?_)
              · have hgy : gOn (cS M) (gW Mq71) = (gW M35, true) := by rcases hgn with h | h; (exact h.2); (exfalso; omega)
                have hgno : ¬ gNo (cS M) (gW Mq71) := fun e => by rw [gOn_n e] at hgy; exact Bool.false_ne_true (congrArg Prod.snd hgy)
                have hgx : gW M35 = gNx (cS M) (gW Mq71) := by rw [gOn_y hgno] at hgy; exact (congrArg Prod.fst hgy).symm
                have hgc : mI M35 32 4 = mI Mq71 32 4 + 1 := congrArg (fun g : Gw => g.2.2.1) hgx
                have hgf : mI M35 32 3 = mI Mq71 32 3 := congrArg (fun g : Gw => g.2.1) hgx
                refine vc_iload dX1_takes_94 rfl ?_
                refine vc_if_eq dX1_takes_96 (fun h42 => ?_) (fun h42 => by exfalso; omega)
                refine vc_iload_n dX1_takes_118 rfl ?_
                refine vc_iconst dX1_takes_119 rfl ?_
                refine vc_icmp_eq dX1_takes_120 (fun h43 => ?_) (fun h43 => ?_)
                · have hP : gCt (cS M) t (sdS (mI M 32 3) (t / 100)) (laS s) (mI M35 32 2) := by unfold gCt; first | exact Or.inl ⟨by omega, by omega⟩ | exact Or.inr ⟨by omega, Or.inl (by omega)⟩ | exact Or.inr ⟨by omega, Or.inr (by rcases hct with h | h; (exact h.2); (exfalso; omega))⟩
                  refine vc_iincE dX1_takes_141 rfl (by omega) (by omega) (by decide) rfl (show _ = [some (aR 32), none, none, some (aI x1), some (aI 0), some (aI x3), some (aI x3), some (aI x5), some (aI 0), some (aI (v9 + 1)), some (aI v10)] from rfl) ?_
                  refine vc_iincE dX1_takes_144 rfl (by omega) (by omega) (by decide) rfl (show _ = [some (aR 32), none, none, some (aI x1), some (aI 0), some (aI x3), some (aI x3), some (aI x5), some (aI 0), some (aI (v9 + 1)), some (aI (v10 + 1))] from rfl) ?_
                  refine vc_goto dX1_takes_147 ?_
                  exact ih71 M35 (v9 + 1) (v10 + 1) hB40 (by omega) (by omega) (by omega) (by omega) (by first | (rw [Int.sub_zero]; done) | (rw [g71i0, show (41 - mI Mq71 32 4).toNat = (41 - mI M35 32 4).toNat + 1 by omega]; first | (rw [gTk_y (by omega) hgno (by rw [← hgx]; exact hP), ← hgx, show t % 10 - v9 - 1 = t % 10 - (v9 + 1) by omega]) | (rw [gTk_n (by omega) hgno (by rw [← hgx]; exact hP), ← hgx]))) (by omega) (by omega) (by omega) (by omega) (by omega)
                · refine vc_aload_n dX1_takes_123 rfl ?_
                  refine vc_getR dX1_takes_124 flX1_9 (s_32 hB40.1.1) rfl (r_32_0 hB40.1.1) ?_
                  refine vc_aload_n dX1_takes_127 rfl ?_
                  refine vc_getI dX1_takes_128 flX1_19 (s_32 hB40.1.1) rfl ?_
                  refine vc_iload dX1_takes_131 rfl ?_
                  refine vc_iload dX1_takes_133 rfl ?_
                  refine vc_cVI dX1_takes_135 (sfX6_countsF (M := M35) hB40.1  (mI M35 32 2) x5 0 ) rfl okX6_counts viX6_counts lkX1_74 (s_1 hB40.1.1) cl_6 rfl (Nat.le_of_ble_eq_true rfl) ⟨rfl, rfl⟩ (Nat.le_of_ble_eq_true rfl) (Nat.le_of_ble_eq_true rfl) (Nat.le_of_ble_eq_true rfl) ?_
                  rintro x44 _ ⟨rfl, h45, h46, h47⟩
                  have hct : (x44 = 1 ∧ cntS (cS M) (mI M35 32 2) (sdS (mI M 32 3) (t / 100)) (laS s)) ∨ (x44 = 0 ∧ ¬ cntS (cS M) (mI M35 32 2) (sdS (mI M 32 3) (t / 100)) (laS s)) := by
                    have z := h47
                    rw [show cS M35 = cS M from cS_bf hB hB40] at z
                    rw [← hsd, ← hla]; exact z
                  refine vc_if_eq dX1_takes_138 (fun h48 => ?_) (fun h48 => ?_)
                  · have hP : ¬ gCt (cS M) t (sdS (mI M 32 3) (t / 100)) (laS s) (mI M35 32 2) := by unfold gCt; rintro (⟨h1, h2⟩ | ⟨h1, h2 | h2⟩) <;> first | omega | (rcases hct with h | h; (exfalso; omega); (exact h.2 h2))
                    refine vc_iincE dX1_takes_144 rfl (by omega) (by omega) (by decide) rfl (show _ = [some (aR 32), none, none, some (aI x1), some (aI 0), some (aI x3), some (aI x3), some (aI x5), some (aI 0), some (aI v9), some (aI (v10 + 1))] from rfl) ?_
                    refine vc_goto dX1_takes_147 ?_
                    exact ih71 M35 v9 (v10 + 1) hB40 (by omega) (by omega) (by omega) (by omega) (by first | (rw [Int.sub_zero]; done) | (rw [g71i0, show (41 - mI Mq71 32 4).toNat = (41 - mI M35 32 4).toNat + 1 by omega]; first | (rw [gTk_y (by omega) hgno (by rw [← hgx]; exact hP), ← hgx, show t % 10 - v9 - 1 = t % 10 - (v9 + 1) by omega]) | (rw [gTk_n (by omega) hgno (by rw [← hgx]; exact hP), ← hgx]))) (by omega) (by omega) (by omega) (by omega) (by omega)
                  · have hP : gCt (cS M) t (sdS (mI M 32 3) (t / 100)) (laS s) (mI M35 32 2) := by unfold gCt; first | exact Or.inl ⟨by omega, by omega⟩ | exact Or.inr ⟨by omega, Or.inl (by omega)⟩ | exact Or.inr ⟨by omega, Or.inr (by rcases hct with h | h; (exact h.2); (exfalso; omega))⟩
                    refine vc_iincE dX1_takes_141 rfl (by omega) (by omega) (by decide) rfl (show _ = [some (aR 32), none, none, some (aI x1), some (aI 0), some (aI x3), some (aI x3), some (aI x5), some (aI 0), some (aI (v9 + 1)), some (aI v10)] from rfl) ?_
                    refine vc_iincE dX1_takes_144 rfl (by omega) (by omega) (by decide) rfl (show _ = [some (aR 32), none, none, some (aI x1), some (aI 0), some (aI x3), some (aI x3), some (aI x5), some (aI 0), some (aI (v9 + 1)), some (aI (v10 + 1))] from rfl) ?_
                    refine vc_goto dX1_takes_147 ?_
                    exact ih71 M35 (v9 + 1) (v10 + 1) hB40 (by omega) (by omega) (by omega) (by omega) (by first | (rw [Int.sub_zero]; done) | (rw [g71i0, show (41 - mI Mq71 32 4).toNat = (41 - mI M35 32 4).toNat + 1 by omega]; first | (rw [gTk_y (by omega) hgno (by rw [← hgx]; exact hP), ← hgx, show t % 10 - v9 - 1 = t % 10 - (v9 + 1) by omega]) | (rw [gTk_n (by omega) hgno (by rw [← hgx]; exact hP), ← hgx]))) (by omega) (by omega) (by omega) (by omega) (by omega)
              · refine vc_iconst dX1_takes_92 rfl ?_
                refine vc_zret dX1_takes_93 rfl (by first | decide | omega) (Nat.le_of_ble_eq_true rfl) (Nat.le_of_ble_eq_true rfl) ?_
                have hgf2 : gOn (cS M) (gW Mq71) = (gW M35, false) := by rcases hgn with h | h; (exfalso; omega); (exact h.2)
                have hgno : gNo (cS M) (gW Mq71) := by by_cases e : gNo (cS M) (gW Mq71); (exact e); (rw [gOn_y e] at hgf2; exact absurd (congrArg Prod.snd hgf2).symm Bool.false_ne_true)
                have hgx : gW M35 = gW Mq71 := by rw [gOn_n hgno] at hgf2; exact (congrArg Prod.fst hgf2).symm
                exact ⟨_, rfl, hB40, by omega, by omega, Or.inr ⟨rfl, by rw [hgx]; exact gTu_f (S := cS M) (g := gW M) hdu (g71i0.trans (by rw [show (41 - mI Mq71 32 4).toNat = (40 - mI Mq71 32 4).toNat + 1 by omega]; exact gTk_f (by omega) hgno))⟩⟩
      refine vc_less [some (aR 32), none, none, some (aI x1), some (aI 0), some (aI x3), some (aI x3), some (aI x5), some (aI 0), some (aI 0), some (aI 0)] (lessL_keep (lessL_drop (lessL_drop (lessL_keep (lessL_keep (lessL_keep (lessL_keep (lessL_keep (lessL_keep (lessL_keep (lessL_keep (lessL_nil)))))))))))) ?_
      exact lp71 _ M 0 0 hB0 (by omega) (by omega) (by omega) (by omega) (by first | (rw [Int.sub_zero]; done) | (rw [g71i0, show (41 - mI Mq71 32 4).toNat = (41 - mI M35 32 4).toNat + 1 by omega]; first | (rw [gTk_y (by omega) hgno (by rw [← hgx]; exact hP), ← hgx, show t % 10 - v9 - 1 = t % 10 - (v9 + 1) by omega]) | (rw [gTk_n (by omega) hgno (by rw [← hgx]; exact hP), ← hgx]))) (by omega) (by omega) (by omega) (by omega) (Nat.lt_succ_self _)
    · refine vc_iconst dX1_takes_58 rfl ?_
      refine vc_goto dX1_takes_59 ?_
      refine vc_istore dX1_takes_63 (by decide) rfl (show _ = [some (aR 32), some (aI t), some (aI s), some (aI x1), some (aI 0), some (aI x3), some (aI x3), some (aI x5), some (aI 1), none, none] from rfl) ?_
      have hla : (1 : Int) = laS s := by unfold laS; first | (rw [if_pos (by omega)]) | (rw [if_neg (by omega)])
      have hdu : (t % 10 : Int) = if t / 10 % 10 = 1 then 1 else t % 10 := by first | (rw [if_pos (by omega)]) | (rw [if_neg (by omega)])
      refine vc_iconst dX1_takes_65 rfl ?_
      refine vc_istore dX1_takes_66 (by decide) rfl (show _ = [some (aR 32), some (aI t), some (aI s), some (aI x1), some (aI 0), some (aI x3), some (aI x3), some (aI x5), some (aI 1), some (aI 0), none] from rfl) ?_
      refine vc_iconst dX1_takes_68 rfl ?_
      refine vc_istore dX1_takes_69 (by decide) rfl (show _ = [some (aR 32), some (aI t), some (aI s), some (aI x1), some (aI 0), some (aI x3), some (aI x3), some (aI x5), some (aI 1), some (aI 0), some (aI 0)] from rfl) ?_
      have lp71 : ∀ (n71 : Nat) (Mq71 : Mem) (v9 : Int) (v10 : Int), (BF fS M Mq71) → (0 ≤ v9) → (v9 ≤ v10) → (0 ≤ v10) → (v10 ≤ 41) → (gTk (cS M) (gCt (cS M) t (sdS (mI M 32 3) (t / 100)) (laS s)) (41 - mI M 32 4).toNat (t % 10) (gW M) = gTk (cS M) (gCt (cS M) t (sdS (mI M 32 3) (t / 100)) (laS s)) (41 - mI Mq71 32 4).toNat (t % 10 - v9) (gW Mq71)) → (mI Mq71 32 3 = mI M 32 3) → (v10 ≤ mI Mq71 32 4) → (0 ≤ mI Mq71 32 4) → (mI Mq71 32 4 ≤ 40) → (41 - v10).toNat < n71 → VC l mdX1_takes 71 [some (aR 32), none, none, some (aI x1), some (aI 0), some (aI x3), some (aI x3), some (aI x5), some (aI 1), some (aI v9), some (aI v10)] [] Mq71 0 0 (fun q N => ∃ r : Int, q = some (aI r) ∧ BF fS M N ∧ 0 ≤ r ∧ r ≤ 1 ∧ ((r = 1 ∧ gTu (cS M) t (laS s) (gW M) = (gW N, true)) ∨ (r = 0 ∧ gTu (cS M) t (laS s) (gW M) = (gW N, false)))) := by
        intro n71
        induction n71 with
        | zero => intro Mq71 v9 v10 hQ71 g71_9a g71_9b g71_10a g71_10b g71i0 g71i1 g71i2 g71i3 g71i4 hm71; exact absurd hm71 (Nat.not_lt_zero _)
        | succ n71 ih71 =>
          intro Mq71 v9 v10 hQ71 g71_9a g71_9b g71_10a g71_10b g71i0 g71i1 g71i2 g71i3 g71i4 hm71
          refine vc_iload dX1_takes_71 rfl ?_
          refine vc_bipush dX1_takes_73 rfl ?_
          refine vc_icmp_gt dX1_takes_75 (fun h49 => ?_) (fun h49 => ?_)
          · refine vc_iload_n dX1_takes_150 rfl ?_
            refine vc_iconst dX1_takes_151 rfl ?_
            refine vc_icmp_eq dX1_takes_152 (fun h50 => ?_) (fun h50 => ?_)
            · refine vc_aload_n dX1_takes_175 rfl ?_
              refine vc_iload dX1_takes_176 rfl ?_
              refine vc_putI dX1_takes_178 (plX1_23 _ rfl) (s_32 hQ71.1.1) rfl ?_
              have hB51 : BF fS M (sI Mq71 32 3 x5) := BF.w32_3 hQ71 rfl
              refine vc_iconst dX1_takes_181 rfl ?_
              refine vc_zret dX1_takes_182 rfl (by first | decide | omega) (Nat.le_of_ble_eq_true rfl) (Nat.le_of_ble_eq_true rfl) ?_
              have k52 : mI (sI Mq71 32 3 x5) 32 3 = x5 := rfl
              have k53 : mI (sI Mq71 32 3 x5) 32 4 = mI Mq71 32 4 := rfl
              have hcome := b32_4 hQ71.1
              first | (exfalso; omega) | exact ⟨_, rfl, hB51, by omega, by omega, Or.inl ⟨rfl, (gTu_y (S := cS M) (g := gW M) (q := gW Mq71) hdu (g71i0.trans (by rw [show (41 - mI Mq71 32 4).toNat = (40 - mI Mq71 32 4).toNat + 1 by omega]; exact gTk_0 (by omega))) (by first | exact Or.inl (by omega) | exact Or.inr (by rcases hct with h2 | h2; (exact h2.2); (exfalso; omega)))).trans (by rw [show (gW M).2.1 = mI M 32 3 from rfl, ← hsd, gW_f])⟩⟩
            · refine vc_aload_n dX1_takes_155 rfl ?_
              refine vc_getR dX1_takes_156 flX1_9 (s_32 hQ71.1.1) rfl (r_32_0 hQ71.1.1) ?_
              refine vc_aload_n dX1_takes_159 rfl ?_
              refine vc_getI dX1_takes_160 flX1_19 (s_32 hQ71.1.1) rfl ?_
              refine vc_iload dX1_takes_163 rfl ?_
              refine vc_iload dX1_takes_165 rfl ?_
              refine vc_cVI dX1_takes_167 (sfX6_countsF (M := Mq71) hQ71.1  (mI Mq71 32 2) x5 1 ) rfl okX6_counts viX6_counts lkX1_74 (s_1 hQ71.1.1) cl_6 rfl (Nat.le_of_ble_eq_true rfl) ⟨rfl, rfl⟩ (Nat.le_of_ble_eq_true rfl) (Nat.le_of_ble_eq_true rfl) (Nat.le_of_ble_eq_true rfl) ?_
              rintro x54 _ ⟨rfl, h55, h56, h57⟩
              have hct : (x54 = 1 ∧ cntS (cS M) (mI Mq71 32 2) (sdS (mI M 32 3) (t / 100)) (laS s)) ∨ (x54 = 0 ∧ ¬ cntS (cS M) (mI Mq71 32 2) (sdS (mI M 32 3) (t / 100)) (laS s)) := by
                have z := h57
                rw [show cS Mq71 = cS M from cS_bf hB hQ71] at z
                rw [← hsd, ← hla]; exact z
              refine vc_if_ne dX1_takes_170 (fun h58 => ?_) (fun h58 => ?_)
              · refine vc_aload_n dX1_takes_175 rfl ?_
                refine vc_iload dX1_takes_176 rfl ?_
                refine vc_putI dX1_takes_178 (plX1_23 _ rfl) (s_32 hQ71.1.1) rfl ?_
                have hB59 : BF fS M (sI Mq71 32 3 x5) := BF.w32_3 hQ71 rfl
                refine vc_iconst dX1_takes_181 rfl ?_
                refine vc_zret dX1_takes_182 rfl (by first | decide | omega) (Nat.le_of_ble_eq_true rfl) (Nat.le_of_ble_eq_true rfl) ?_
                have k60 : mI (sI Mq71 32 3 x5) 32 3 = x5 := rfl
                have k61 : mI (sI Mq71 32 3 x5) 32 4 = mI Mq71 32 4 := rfl
                have hcome := b32_4 hQ71.1
                first | (exfalso; omega) | exact ⟨_, rfl, hB59, by omega, by omega, Or.inl ⟨rfl, (gTu_y (S := cS M) (g := gW M) (q := gW Mq71) hdu (g71i0.trans (by rw [show (41 - mI Mq71 32 4).toNat = (40 - mI Mq71 32 4).toNat + 1 by omega]; exact gTk_0 (by omega))) (by first | exact Or.inl (by omega) | exact Or.inr (by rcases hct with h2 | h2; (exact h2.2); (exfalso; omega)))).trans (by rw [show (gW M).2.1 = mI M 32 3 from rfl, ← hsd, gW_f])⟩⟩
              · refine vc_iconst dX1_takes_173 rfl ?_
                refine vc_zret dX1_takes_174 rfl (by first | decide | omega) (Nat.le_of_ble_eq_true rfl) (Nat.le_of_ble_eq_true rfl) ?_
                have hcome := b32_4 hQ71.1
                first | (exfalso; omega) | exact ⟨_, rfl, hQ71, by omega, by omega, Or.inr ⟨rfl, gTu_n (S := cS M) (g := gW M) (q := gW Mq71) hdu (g71i0.trans (by rw [show (41 - mI Mq71 32 4).toNat = (40 - mI Mq71 32 4).toNat + 1 by omega]; exact gTk_0 (by omega))) (by rintro (h | h); (have h9 : t / 100 = 3 := h; omega); (rcases hct with h2 | h2; (exfalso; omega); (exact h2.2 h)))⟩⟩
          · refine vc_iload dX1_takes_78 rfl ?_
            refine vc_iload dX1_takes_80 rfl ?_
            refine vc_icmp_ge dX1_takes_82 (fun h62 => ?_) (fun h62 => ?_)
            · refine vc_iload_n dX1_takes_150 rfl ?_
              refine vc_iconst dX1_takes_151 rfl ?_
              refine vc_icmp_eq dX1_takes_152 (fun h63 => ?_) (fun h63 => ?_)
              · refine vc_aload_n dX1_takes_175 rfl ?_
                refine vc_iload dX1_takes_176 rfl ?_
                refine vc_putI dX1_takes_178 (plX1_23 _ rfl) (s_32 hQ71.1.1) rfl ?_
                have hB64 : BF fS M (sI Mq71 32 3 x5) := BF.w32_3 hQ71 rfl
                refine vc_iconst dX1_takes_181 rfl ?_
                refine vc_zret dX1_takes_182 rfl (by first | decide | omega) (Nat.le_of_ble_eq_true rfl) (Nat.le_of_ble_eq_true rfl) ?_
                have k65 : mI (sI Mq71 32 3 x5) 32 3 = x5 := rfl
                have k66 : mI (sI Mq71 32 3 x5) 32 4 = mI Mq71 32 4 := rfl
                have hcome := b32_4 hQ71.1
                first | (exfalso; omega) | exact ⟨_, rfl, hB64, by omega, by omega, Or.inl ⟨rfl, (gTu_y (S := cS M) (g := gW M) (q := gW Mq71) hdu (g71i0.trans (by rw [show (41 - mI Mq71 32 4).toNat = (40 - mI Mq71 32 4).toNat + 1 by omega]; exact gTk_0 (by omega))) (by first | exact Or.inl (by omega) | exact Or.inr (by rcases hct with h2 | h2; (exact h2.2); (exfalso; omega)))).trans (by rw [show (gW M).2.1 = mI M 32 3 from rfl, ← hsd, gW_f])⟩⟩
              · refine vc_aload_n dX1_takes_155 rfl ?_
                refine vc_getR dX1_takes_156 flX1_9 (s_32 hQ71.1.1) rfl (r_32_0 hQ71.1.1) ?_
                refine vc_aload_n dX1_takes_159 rfl ?_
                refine vc_getI dX1_takes_160 flX1_19 (s_32 hQ71.1.1) rfl ?_
                refine vc_iload dX1_takes_163 rfl ?_
                refine vc_iload dX1_takes_165 rfl ?_
                refine vc_cVI dX1_takes_167 (sfX6_countsF (M := Mq71) hQ71.1  (mI Mq71 32 2) x5 1 ) rfl okX6_counts viX6_counts lkX1_74 (s_1 hQ71.1.1) cl_6 rfl (Nat.le_of_ble_eq_true rfl) ⟨rfl, rfl⟩ (Nat.le_of_ble_eq_true rfl) (Nat.le_of_ble_eq_true rfl) (Nat.le_of_ble_eq_true rfl) ?_
                rintro x67 _ ⟨rfl, h68, h69, h70⟩
                have hct : (x67 = 1 ∧ cntS (cS M) (mI Mq71 32 2) (sdS (mI M 32 3) (t / 100)) (laS s)) ∨ (x67 = 0 ∧ ¬ cntS (cS M) (mI Mq71 32 2) (sdS (mI M 32 3) (t / 100)) (laS s)) := by
                  have z := h70
                  rw [show cS Mq71 = cS M from cS_bf hB hQ71] at z
                  rw [← hsd, ← hla]; exact z
                refine vc_if_ne dX1_takes_170 (fun h71 => ?_) (fun h71 => ?_)
                · refine vc_aload_n dX1_takes_175 rfl ?_
                  refine vc_iload dX1_takes_176 rfl ?_
                  refine vc_putI dX1_takes_178 (plX1_23 _ rfl) (s_32 hQ71.1.1) rfl ?_
                  have hB72 : BF fS M (sI Mq71 32 3 x5) := BF.w32_3 hQ71 rfl
                  refine vc_iconst dX1_takes_181 rfl ?_
                  refine vc_zret dX1_takes_182 rfl (by first | decide | omega) (Nat.le_of_ble_eq_true rfl) (Nat.le_of_ble_eq_true rfl) ?_
                  have k73 : mI (sI Mq71 32 3 x5) 32 3 = x5 := rfl
                  have k74 : mI (sI Mq71 32 3 x5) 32 4 = mI Mq71 32 4 := rfl
                  have hcome := b32_4 hQ71.1
                  first | (exfalso; omega) | exact ⟨_, rfl, hB72, by omega, by omega, Or.inl ⟨rfl, (gTu_y (S := cS M) (g := gW M) (q := gW Mq71) hdu (g71i0.trans (by rw [show (41 - mI Mq71 32 4).toNat = (40 - mI Mq71 32 4).toNat + 1 by omega]; exact gTk_0 (by omega))) (by first | exact Or.inl (by omega) | exact Or.inr (by rcases hct with h2 | h2; (exact h2.2); (exfalso; omega)))).trans (by rw [show (gW M).2.1 = mI M 32 3 from rfl, ← hsd, gW_f])⟩⟩
                · refine vc_iconst dX1_takes_173 rfl ?_
                  refine vc_zret dX1_takes_174 rfl (by first | decide | omega) (Nat.le_of_ble_eq_true rfl) (Nat.le_of_ble_eq_true rfl) ?_
                  have hcome := b32_4 hQ71.1
                  first | (exfalso; omega) | exact ⟨_, rfl, hQ71, by omega, by omega, Or.inr ⟨rfl, gTu_n (S := cS M) (g := gW M) (q := gW Mq71) hdu (g71i0.trans (by rw [show (41 - mI Mq71 32 4).toNat = (40 - mI Mq71 32 4).toNat + 1 by omega]; exact gTk_0 (by omega))) (by rintro (h | h); (have h9 : t / 100 = 3 := h; omega); (rcases hct with h2 | h2; (exfalso; omega); (exact h2.2 h)))⟩⟩
            · refine vc_aload_n dX1_takes_85 rfl ?_
              refine vc_cVI dX1_takes_86 (sfX1_goesOnF (M := Mq71) hQ71.1   ) rfl okX1_goesOn viX1_goesOn lkX1_60 (s_32 hQ71.1.1) cl_1 rfl (Nat.le_of_ble_eq_true rfl) ⟨rfl, rfl⟩ (Nat.le_of_ble_eq_true rfl) (Nat.le_of_ble_eq_true rfl) (Nat.le_of_ble_eq_true rfl) ?_
              rintro x75 M76 ⟨hB77, h78, h79, h80⟩
              have hB81 : BF fS M M76 := BF.go hQ71 hB77
              have hgn := h80
              have hcs : cS M76 = cS M := cS_bf hB hB81
              have hcq : cS Mq71 = cS M := cS_bf hB hQ71
              rw [hcq] at hgn
              have hcome := b32_4 (M := M76) hB81.1
              refine vc_if_ne dX1_takes_89 (fun h82 => ?_) (fun h82 => ?_)
              · have hgy : gOn (cS M) (gW Mq71) = (gW M76, true) := by rcases hgn with h | h; (exact h.2); (exfalso; omega)
                have hgno : ¬ gNo (cS M) (gW Mq71) := fun e => by rw [gOn_n e] at hgy; exact Bool.false_ne_true (congrArg Prod.snd hgy)
                have hgx : gW M76 = gNx (cS M) (gW Mq71) := by rw [gOn_y hgno] at hgy; exact (congrArg Prod.fst hgy).symm
                have hgc : mI M76 32 4 = mI Mq71 32 4 + 1 := congrArg (fun g : Gw => g.2.2.1) hgx
                have hgf : mI M76 32 3 = mI Mq71 32 3 := congrArg (fun g : Gw => g.2.1) hgx
                refine vc_iload dX1_takes_94 rfl ?_
                refine vc_if_eq dX1_takes_96 (fun h83 => ?_) (fun h83 => by exfalso; omega)
                refine vc_iload_n dX1_takes_118 rfl ?_
                refine vc_iconst dX1_takes_119 rfl ?_
                refine vc_icmp_eq dX1_takes_120 (fun h84 => ?_) (fun h84 => ?_)
                · have hP : gCt (cS M) t (sdS (mI M 32 3) (t / 100)) (laS s) (mI M76 32 2) := by unfold gCt; first | exact Or.inl ⟨by omega, by omega⟩ | exact Or.inr ⟨by omega, Or.inl (by omega)⟩ | exact Or.inr ⟨by omega, Or.inr (by rcases hct with h | h; (exact h.2); (exfalso; omega))⟩
                  refine vc_iincE dX1_takes_141 rfl (by omega) (by omega) (by decide) rfl (show _ = [some (aR 32), none, none, some (aI x1), some (aI 0), some (aI x3), some (aI x3), some (aI x5), some (aI 1), some (aI (v9 + 1)), some (aI v10)] from rfl) ?_
                  refine vc_iincE dX1_takes_144 rfl (by omega) (by omega) (by decide) rfl (show _ = [some (aR 32), none, none, some (aI x1), some (aI 0), some (aI x3), some (aI x3), some (aI x5), some (aI 1), some (aI (v9 + 1)), some (aI (v10 + 1))] from rfl) ?_
                  refine vc_goto dX1_takes_147 ?_
                  exact ih71 M76 (v9 + 1) (v10 + 1) hB81 (by omega) (by omega) (by omega) (by omega) (by first | (rw [Int.sub_zero]; done) | (rw [g71i0, show (41 - mI Mq71 32 4).toNat = (41 - mI M76 32 4).toNat + 1 by omega]; first | (rw [gTk_y (by omega) hgno (by rw [← hgx]; exact hP), ← hgx, show t % 10 - v9 - 1 = t % 10 - (v9 + 1) by omega]) | (rw [gTk_n (by omega) hgno (by rw [← hgx]; exact hP), ← hgx]))) (by omega) (by omega) (by omega) (by omega) (by omega)
                · refine vc_aload_n dX1_takes_123 rfl ?_
                  refine vc_getR dX1_takes_124 flX1_9 (s_32 hB81.1.1) rfl (r_32_0 hB81.1.1) ?_
                  refine vc_aload_n dX1_takes_127 rfl ?_
                  refine vc_getI dX1_takes_128 flX1_19 (s_32 hB81.1.1) rfl ?_
                  refine vc_iload dX1_takes_131 rfl ?_
                  refine vc_iload dX1_takes_133 rfl ?_
                  refine vc_cVI dX1_takes_135 (sfX6_countsF (M := M76) hB81.1  (mI M76 32 2) x5 1 ) rfl okX6_counts viX6_counts lkX1_74 (s_1 hB81.1.1) cl_6 rfl (Nat.le_of_ble_eq_true rfl) ⟨rfl, rfl⟩ (Nat.le_of_ble_eq_true rfl) (Nat.le_of_ble_eq_true rfl) (Nat.le_of_ble_eq_true rfl) ?_
                  rintro x85 _ ⟨rfl, h86, h87, h88⟩
                  have hct : (x85 = 1 ∧ cntS (cS M) (mI M76 32 2) (sdS (mI M 32 3) (t / 100)) (laS s)) ∨ (x85 = 0 ∧ ¬ cntS (cS M) (mI M76 32 2) (sdS (mI M 32 3) (t / 100)) (laS s)) := by
                    have z := h88
                    rw [show cS M76 = cS M from cS_bf hB hB81] at z
                    rw [← hsd, ← hla]; exact z
                  refine vc_if_eq dX1_takes_138 (fun h89 => ?_) (fun h89 => ?_)
                  · have hP : ¬ gCt (cS M) t (sdS (mI M 32 3) (t / 100)) (laS s) (mI M76 32 2) := by unfold gCt; rintro (⟨h1, h2⟩ | ⟨h1, h2 | h2⟩) <;> first | omega | (rcases hct with h | h; (exfalso; omega); (exact h.2 h2))
                    refine vc_iincE dX1_takes_144 rfl (by omega) (by omega) (by decide) rfl (show _ = [some (aR 32), none, none, some (aI x1), some (aI 0), some (aI x3), some (aI x3), some (aI x5), some (aI 1), some (aI v9), some (aI (v10 + 1))] from rfl) ?_
                    refine vc_goto dX1_takes_147 ?_
                    exact ih71 M76 v9 (v10 + 1) hB81 (by omega) (by omega) (by omega) (by omega) (by first | (rw [Int.sub_zero]; done) | (rw [g71i0, show (41 - mI Mq71 32 4).toNat = (41 - mI M76 32 4).toNat + 1 by omega]; first | (rw [gTk_y (by omega) hgno (by rw [← hgx]; exact hP), ← hgx, show t % 10 - v9 - 1 = t % 10 - (v9 + 1) by omega]) | (rw [gTk_n (by omega) hgno (by rw [← hgx]; exact hP), ← hgx]))) (by omega) (by omega) (by omega) (by omega) (by omega)
                  · have hP : gCt (cS M) t (sdS (mI M 32 3) (t / 100)) (laS s) (mI M76 32 2) := by unfold gCt; first | exact Or.inl ⟨by omega, by omega⟩ | exact Or.inr ⟨by omega, Or.inl (by omega)⟩ | exact Or.inr ⟨by omega, Or.inr (by rcases hct with h | h; (exact h.2); (exfalso; omega))⟩
                    refine vc_iincE dX1_takes_141 rfl (by omega) (by omega) (by decide) rfl (show _ = [some (aR 32), none, none, some (aI x1), some (aI 0), some (aI x3), some (aI x3), some (aI x5), some (aI 1), some (aI (v9 + 1)), some (aI v10)] from rfl) ?_
                    refine vc_iincE dX1_takes_144 rfl (by omega) (by omega) (by decide) rfl (show _ = [some (aR 32), none, none, some (aI x1), some (aI 0), some (aI x3), some (aI x3), some (aI x5), some (aI 1), some (aI (v9 + 1)), some (aI (v10 + 1))] from rfl) ?_
                    refine vc_goto dX1_takes_147 ?_
                    exact ih71 M76 (v9 + 1) (v10 + 1) hB81 (by omega) (by omega) (by omega) (by omega) (by first | (rw [Int.sub_zero]; done) | (rw [g71i0, show (41 - mI Mq71 32 4).toNat = (41 - mI M76 32 4).toNat + 1 by omega]; first | (rw [gTk_y (by omega) hgno (by rw [← hgx]; exact hP), ← hgx, show t % 10 - v9 - 1 = t % 10 - (v9 + 1) by omega]) | (rw [gTk_n (by omega) hgno (by rw [← hgx]; exact hP), ← hgx]))) (by omega) (by omega) (by omega) (by omega) (by omega)
              · refine vc_iconst dX1_takes_92 rfl ?_
                refine vc_zret dX1_takes_93 rfl (by first | decide | omega) (Nat.le_of_ble_eq_true rfl) (Nat.le_of_ble_eq_true rfl) ?_
                have hgf2 : gOn (cS M) (gW Mq71) = (gW M76, false) := by rcases hgn with h | h; (exfalso; omega); (exact h.2)
                have hgno : gNo (cS M) (gW Mq71) := by by_cases e : gNo (cS M) (gW Mq71); (exact e); (rw [gOn_y e] at hgf2; exact absurd (congrArg Prod.snd hgf2).symm Bool.false_ne_true)
                have hgx : gW M76 = gW Mq71 := by rw [gOn_n hgno] at hgf2; exact (congrArg Prod.fst hgf2).symm
                exact ⟨_, rfl, hB81, by omega, by omega, Or.inr ⟨rfl, by rw [hgx]; exact gTu_f (S := cS M) (g := gW M) hdu (g71i0.trans (by rw [show (41 - mI Mq71 32 4).toNat = (40 - mI Mq71 32 4).toNat + 1 by omega]; exact gTk_f (by omega) hgno))⟩⟩
      refine vc_less [some (aR 32), none, none, some (aI x1), some (aI 0), some (aI x3), some (aI x3), some (aI x5), some (aI 1), some (aI 0), some (aI 0)] (lessL_keep (lessL_drop (lessL_drop (lessL_keep (lessL_keep (lessL_keep (lessL_keep (lessL_keep (lessL_keep (lessL_keep (lessL_keep (lessL_nil)))))))))))) ?_
      exact lp71 _ M 0 0 hB0 (by omega) (by omega) (by omega) (by omega) (by first | (rw [Int.sub_zero]; done) | (rw [g71i0, show (41 - mI Mq71 32 4).toNat = (41 - mI M76 32 4).toNat + 1 by omega]; first | (rw [gTk_y (by omega) hgno (by rw [← hgx]; exact hP), ← hgx, show t % 10 - v9 - 1 = t % 10 - (v9 + 1) by omega]) | (rw [gTk_n (by omega) hgno (by rw [← hgx]; exact hP), ← hgx]))) (by omega) (by omega) (by omega) (by omega) (Nat.lt_succ_self _)
  · refine vc_iconst dX1_takes_16 rfl ?_
    refine vc_goto dX1_takes_17 ?_
    refine vc_istore dX1_takes_21 (by decide) rfl (show _ = [some (aR 32), some (aI t), some (aI s), some (aI x1), some (aI 1), none, none, none, none, none, none] from rfl) ?_
    refine vc_iload_n dX1_takes_23 rfl ?_
    refine vc_bipush dX1_takes_24 rfl ?_
    refine vc_iremE dX1_takes_26 (by omega) (by omega) ?_
    refine vc_nameI (fun x90 ex90 => ?_)
    refine vc_istore dX1_takes_27 (by decide) rfl (show _ = [some (aR 32), some (aI t), some (aI s), some (aI x1), some (aI 1), some (aI x90), none, none, none, none, none] from rfl) ?_
    refine vc_iload dX1_takes_29 rfl ?_
    refine vc_if_eq dX1_takes_31 (fun h91 => by exfalso; omega) (fun h91 => ?_)
    refine vc_iconst dX1_takes_34 rfl ?_
    refine vc_goto dX1_takes_35 ?_
    refine vc_istore dX1_takes_40 (by decide) rfl (show _ = [some (aR 32), some (aI t), some (aI s), some (aI x1), some (aI 1), some (aI x90), some (aI 1), none, none, none, none] from rfl) ?_
    refine vc_aload_n dX1_takes_42 rfl ?_
    refine vc_getI dX1_takes_43 flX1_23 (s_32 hB0.1.1) rfl ?_
    refine vc_iload_n dX1_takes_46 rfl ?_
    refine vc_cSI dX1_takes_47 (sfX1_sideOfF (M := M) hB0.1  (mI M 32 3) x1 ) rfl okX1_sideOf stX1_sideOf lkX1_67 rfl (Nat.le_of_ble_eq_true rfl) ⟨rfl, rfl⟩ (Nat.le_of_ble_eq_true rfl) (Nat.le_of_ble_eq_true rfl) (Nat.le_of_ble_eq_true rfl) ?_
    rintro x92 _ ⟨rfl, h93⟩
    have hsd : x92 = (sdS (mI M 32 3) (t / 100)) := h93.trans (by rw [ex1])
    refine vc_istore dX1_takes_50 (by decide) rfl (show _ = [some (aR 32), some (aI t), some (aI s), some (aI x1), some (aI 1), some (aI x90), some (aI 1), some (aI x92), none, none, none] from rfl) ?_
    refine vc_iload_n dX1_takes_52 rfl ?_
    refine vc_iconst dX1_takes_53 rfl ?_
    refine vc_iand dX1_takes_54 ?_
    refine vc_if_ne dX1_takes_55 (fun h94 => ?_) (fun h94 => ?_)
    · refine vc_iconst dX1_takes_62 rfl ?_
      refine vc_istore dX1_takes_63 (by decide) rfl (show _ = [some (aR 32), some (aI t), some (aI s), some (aI x1), some (aI 1), some (aI x90), some (aI 1), some (aI x92), some (aI 0), none, none] from rfl) ?_
      have hla : (0 : Int) = laS s := by unfold laS; first | (rw [if_pos (by omega)]) | (rw [if_neg (by omega)])
      have hdu : (1 : Int) = if t / 10 % 10 = 1 then 1 else t % 10 := by first | (rw [if_pos (by omega)]) | (rw [if_neg (by omega)])
      refine vc_iconst dX1_takes_65 rfl ?_
      refine vc_istore dX1_takes_66 (by decide) rfl (show _ = [some (aR 32), some (aI t), some (aI s), some (aI x1), some (aI 1), some (aI x90), some (aI 1), some (aI x92), some (aI 0), some (aI 0), none] from rfl) ?_
      refine vc_iconst dX1_takes_68 rfl ?_
      refine vc_istore dX1_takes_69 (by decide) rfl (show _ = [some (aR 32), some (aI t), some (aI s), some (aI x1), some (aI 1), some (aI x90), some (aI 1), some (aI x92), some (aI 0), some (aI 0), some (aI 0)] from rfl) ?_
      have lp71 : ∀ (n71 : Nat) (Mq71 : Mem) (v9 : Int) (v10 : Int), (BF fS M Mq71) → (0 ≤ v9) → (v9 ≤ v10) → (0 ≤ v10) → (v10 ≤ 41) → (gTk (cS M) (gCt (cS M) t (sdS (mI M 32 3) (t / 100)) (laS s)) (41 - mI M 32 4).toNat (1) (gW M) = gTk (cS M) (gCt (cS M) t (sdS (mI M 32 3) (t / 100)) (laS s)) (41 - mI Mq71 32 4).toNat (1 - v9) (gW Mq71)) → (mI Mq71 32 3 = mI M 32 3) → (v10 ≤ mI Mq71 32 4) → (0 ≤ mI Mq71 32 4) → (mI Mq71 32 4 ≤ 40) → (41 - v10).toNat < n71 → VC l mdX1_takes 71 [some (aR 32), none, none, some (aI x1), some (aI 1), some (aI x90), some (aI 1), some (aI x92), some (aI 0), some (aI v9), some (aI v10)] [] Mq71 0 0 (fun q N => ∃ r : Int, q = some (aI r) ∧ BF fS M N ∧ 0 ≤ r ∧ r ≤ 1 ∧ ((r = 1 ∧ gTu (cS M) t (laS s) (gW M) = (gW N, true)) ∨ (r = 0 ∧ gTu (cS M) t (laS s) (gW M) = (gW N, false)))) := by
        intro n71
        induction n71 with
        | zero => intro Mq71 v9 v10 hQ71 g71_9a g71_9b g71_10a g71_10b g71i0 g71i1 g71i2 g71i3 g71i4 hm71; exact absurd hm71 (Nat.not_lt_zero _)
        | succ n71 ih71 =>
          intro Mq71 v9 v10 hQ71 g71_9a g71_9b g71_10a g71_10b g71i0 g71i1 g71i2 g71i3 g71i4 hm71
          refine vc_iload dX1_takes_71 rfl ?_
          refine vc_bipush dX1_takes_73 rfl ?_
          refine vc_icmp_gt dX1_takes_75 (fun h95 => ?_) (fun h95 => ?_)
          · refine vc_iload_n dX1_takes_150 rfl ?_
            refine vc_iconst dX1_takes_151 rfl ?_
            refine vc_icmp_eq dX1_takes_152 (fun h96 => ?_) (fun h96 => ?_)
            · refine vc_aload_n dX1_takes_175 rfl ?_
              refine vc_iload dX1_takes_176 rfl ?_
              refine vc_putI dX1_takes_178 (plX1_23 _ rfl) (s_32 hQ71.1.1) rfl ?_
              have hB97 : BF fS M (sI Mq71 32 3 x92) := BF.w32_3 hQ71 rfl
              refine vc_iconst dX1_takes_181 rfl ?_
              refine vc_zret dX1_takes_182 rfl (by first | decide | omega) (Nat.le_of_ble_eq_true rfl) (Nat.le_of_ble_eq_true rfl) ?_
              have k98 : mI (sI Mq71 32 3 x92) 32 3 = x92 := rfl
              have k99 : mI (sI Mq71 32 3 x92) 32 4 = mI Mq71 32 4 := rfl
              have hcome := b32_4 hQ71.1
              first | (exfalso; omega) | exact ⟨_, rfl, hB97, by omega, by omega, Or.inl ⟨rfl, (gTu_y (S := cS M) (g := gW M) (q := gW Mq71) hdu (g71i0.trans (by rw [show (41 - mI Mq71 32 4).toNat = (40 - mI Mq71 32 4).toNat + 1 by omega]; exact gTk_0 (by omega))) (by first | exact Or.inl (by omega) | exact Or.inr (by rcases hct with h2 | h2; (exact h2.2); (exfalso; omega)))).trans (by rw [show (gW M).2.1 = mI M 32 3 from rfl, ← hsd, gW_f])⟩⟩
            · refine vc_aload_n dX1_takes_155 rfl ?_
              refine vc_getR dX1_takes_156 flX1_9 (s_32 hQ71.1.1) rfl (r_32_0 hQ71.1.1) ?_
              refine vc_aload_n dX1_takes_159 rfl ?_
              refine vc_getI dX1_takes_160 flX1_19 (s_32 hQ71.1.1) rfl ?_
              refine vc_iload dX1_takes_163 rfl ?_
              refine vc_iload dX1_takes_165 rfl ?_
              refine vc_cVI dX1_takes_167 (sfX6_countsF (M := Mq71) hQ71.1  (mI Mq71 32 2) x92 0 ) rfl okX6_counts viX6_counts lkX1_74 (s_1 hQ71.1.1) cl_6 rfl (Nat.le_of_ble_eq_true rfl) ⟨rfl, rfl⟩ (Nat.le_of_ble_eq_true rfl) (Nat.le_of_ble_eq_true rfl) (Nat.le_of_ble_eq_true rfl) ?_
              rintro x100 _ ⟨rfl, h101, h102, h103⟩
              have hct : (x100 = 1 ∧ cntS (cS M) (mI Mq71 32 2) (sdS (mI M 32 3) (t / 100)) (laS s)) ∨ (x100 = 0 ∧ ¬ cntS (cS M) (mI Mq71 32 2) (sdS (mI M 32 3) (t / 100)) (laS s)) := by
                have z := h103
                rw [show cS Mq71 = cS M from cS_bf hB hQ71] at z
                rw [← hsd, ← hla]; exact z
              refine vc_if_ne dX1_takes_170 (fun h104 => ?_) (fun h104 => ?_)
              · refine vc_aload_n dX1_takes_175 rfl ?_
                refine vc_iload dX1_takes_176 rfl ?_
                refine vc_putI dX1_takes_178 (plX1_23 _ rfl) (s_32 hQ71.1.1) rfl ?_
                have hB105 : BF fS M (sI Mq71 32 3 x92) := BF.w32_3 hQ71 rfl
                refine vc_iconst dX1_takes_181 rfl ?_
                refine vc_zret dX1_takes_182 rfl (by first | decide | omega) (Nat.le_of_ble_eq_true rfl) (Nat.le_of_ble_eq_true rfl) ?_
                have k106 : mI (sI Mq71 32 3 x92) 32 3 = x92 := rfl
                have k107 : mI (sI Mq71 32 3 x92) 32 4 = mI Mq71 32 4 := rfl
                have hcome := b32_4 hQ71.1
                first | (exfalso; omega) | exact ⟨_, rfl, hB105, by omega, by omega, Or.inl ⟨rfl, (gTu_y (S := cS M) (g := gW M) (q := gW Mq71) hdu (g71i0.trans (by rw [show (41 - mI Mq71 32 4).toNat = (40 - mI Mq71 32 4).toNat + 1 by omega]; exact gTk_0 (by omega))) (by first | exact Or.inl (by omega) | exact Or.inr (by rcases hct with h2 | h2; (exact h2.2); (exfalso; omega)))).trans (by rw [show (gW M).2.1 = mI M 32 3 from rfl, ← hsd, gW_f])⟩⟩
              · refine vc_iconst dX1_takes_173 rfl ?_
                refine vc_zret dX1_takes_174 rfl (by first | decide | omega) (Nat.le_of_ble_eq_true rfl) (Nat.le_of_ble_eq_true rfl) ?_
                have hcome := b32_4 hQ71.1
                first | (exfalso; omega) | exact ⟨_, rfl, hQ71, by omega, by omega, Or.inr ⟨rfl, gTu_n (S := cS M) (g := gW M) (q := gW Mq71) hdu (g71i0.trans (by rw [show (41 - mI Mq71 32 4).toNat = (40 - mI Mq71 32 4).toNat + 1 by omega]; exact gTk_0 (by omega))) (by rintro (h | h); (have h9 : t / 100 = 3 := h; omega); (rcases hct with h2 | h2; (exfalso; omega); (exact h2.2 h)))⟩⟩
          · refine vc_iload dX1_takes_78 rfl ?_
            refine vc_iload dX1_takes_80 rfl ?_
            refine vc_icmp_ge dX1_takes_82 (fun h108 => ?_) (fun h108 => ?_)
            · refine vc_iload_n dX1_takes_150 rfl ?_
              refine vc_iconst dX1_takes_151 rfl ?_
              refine vc_icmp_eq dX1_takes_152 (fun h109 => ?_) (fun h109 => ?_)
              · refine vc_aload_n dX1_takes_175 rfl ?_
                refine vc_iload dX1_takes_176 rfl ?_
                refine vc_putI dX1_takes_178 (plX1_23 _ rfl) (s_32 hQ71.1.1) rfl ?_
                have hB110 : BF fS M (sI Mq71 32 3 x92) := BF.w32_3 hQ71 rfl
                refine vc_iconst dX1_takes_181 rfl ?_
                refine vc_zret dX1_takes_182 rfl (by first | decide | omega) (Nat.le_of_ble_eq_true rfl) (Nat.le_of_ble_eq_true rfl) ?_
                have k111 : mI (sI Mq71 32 3 x92) 32 3 = x92 := rfl
                have k112 : mI (sI Mq71 32 3 x92) 32 4 = mI Mq71 32 4 := rfl
                have hcome := b32_4 hQ71.1
                first | (exfalso; omega) | exact ⟨_, rfl, hB110, by omega, by omega, Or.inl ⟨rfl, (gTu_y (S := cS M) (g := gW M) (q := gW Mq71) hdu (g71i0.trans (by rw [show (41 - mI Mq71 32 4).toNat = (40 - mI Mq71 32 4).toNat + 1 by omega]; exact gTk_0 (by omega))) (by first | exact Or.inl (by omega) | exact Or.inr (by rcases hct with h2 | h2; (exact h2.2); (exfalso; omega)))).trans (by rw [show (gW M).2.1 = mI M 32 3 from rfl, ← hsd, gW_f])⟩⟩
              · refine vc_aload_n dX1_takes_155 rfl ?_
                refine vc_getR dX1_takes_156 flX1_9 (s_32 hQ71.1.1) rfl (r_32_0 hQ71.1.1) ?_
                refine vc_aload_n dX1_takes_159 rfl ?_
                refine vc_getI dX1_takes_160 flX1_19 (s_32 hQ71.1.1) rfl ?_
                refine vc_iload dX1_takes_163 rfl ?_
                refine vc_iload dX1_takes_165 rfl ?_
                refine vc_cVI dX1_takes_167 (sfX6_countsF (M := Mq71) hQ71.1  (mI Mq71 32 2) x92 0 ) rfl okX6_counts viX6_counts lkX1_74 (s_1 hQ71.1.1) cl_6 rfl (Nat.le_of_ble_eq_true rfl) ⟨rfl, rfl⟩ (Nat.le_of_ble_eq_true rfl) (Nat.le_of_ble_eq_true rfl) (Nat.le_of_ble_eq_true rfl) ?_
                rintro x113 _ ⟨rfl, h114, h115, h116⟩
                have hct : (x113 = 1 ∧ cntS (cS M) (mI Mq71 32 2) (sdS (mI M 32 3) (t / 100)) (laS s)) ∨ (x113 = 0 ∧ ¬ cntS (cS M) (mI Mq71 32 2) (sdS (mI M 32 3) (t / 100)) (laS s)) := by
                  have z := h116
                  rw [show cS Mq71 = cS M from cS_bf hB hQ71] at z
                  rw [← hsd, ← hla]; exact z
                refine vc_if_ne dX1_takes_170 (fun h117 => ?_) (fun h117 => ?_)
                · refine vc_aload_n dX1_takes_175 rfl ?_
                  refine vc_iload dX1_takes_176 rfl ?_
                  refine vc_putI dX1_takes_178 (plX1_23 _ rfl) (s_32 hQ71.1.1) rfl ?_
                  have hB118 : BF fS M (sI Mq71 32 3 x92) := BF.w32_3 hQ71 rfl
                  refine vc_iconst dX1_takes_181 rfl ?_
                  refine vc_zret dX1_takes_182 rfl (by first | decide | omega) (Nat.le_of_ble_eq_true rfl) (Nat.le_of_ble_eq_true rfl) ?_
                  have k119 : mI (sI Mq71 32 3 x92) 32 3 = x92 := rfl
                  have k120 : mI (sI Mq71 32 3 x92) 32 4 = mI Mq71 32 4 := rfl
                  have hcome := b32_4 hQ71.1
                  first | (exfalso; omega) | exact ⟨_, rfl, hB118, by omega, by omega, Or.inl ⟨rfl, (gTu_y (S := cS M) (g := gW M) (q := gW Mq71) hdu (g71i0.trans (by rw [show (41 - mI Mq71 32 4).toNat = (40 - mI Mq71 32 4).toNat + 1 by omega]; exact gTk_0 (by omega))) (by first | exact Or.inl (by omega) | exact Or.inr (by rcases hct with h2 | h2; (exact h2.2); (exfalso; omega)))).trans (by rw [show (gW M).2.1 = mI M 32 3 from rfl, ← hsd, gW_f])⟩⟩
                · refine vc_iconst dX1_takes_173 rfl ?_
                  refine vc_zret dX1_takes_174 rfl (by first | decide | omega) (Nat.le_of_ble_eq_true rfl) (Nat.le_of_ble_eq_true rfl) ?_
                  have hcome := b32_4 hQ71.1
                  first | (exfalso; omega) | exact ⟨_, rfl, hQ71, by omega, by omega, Or.inr ⟨rfl, gTu_n (S := cS M) (g := gW M) (q := gW Mq71) hdu (g71i0.trans (by rw [show (41 - mI Mq71 32 4).toNat = (40 - mI Mq71 32 4).toNat + 1 by omega]; exact gTk_0 (by omega))) (by rintro (h | h); (have h9 : t / 100 = 3 := h; omega); (rcases hct with h2 | h2; (exfalso; omega); (exact h2.2 h)))⟩⟩
            · refine vc_aload_n dX1_takes_85 rfl ?_
              refine vc_cVI dX1_takes_86 (sfX1_goesOnF (M := Mq71) hQ71.1   ) rfl okX1_goesOn viX1_goesOn lkX1_60 (s_32 hQ71.1.1) cl_1 rfl (Nat.le_of_ble_eq_true rfl) ⟨rfl, rfl⟩ (Nat.le_of_ble_eq_true rfl) (Nat.le_of_ble_eq_true rfl) (Nat.le_of_ble_eq_true rfl) ?_
              rintro x121 M122 ⟨hB123, h124, h125, h126⟩
              have hB127 : BF fS M M122 := BF.go hQ71 hB123
              have hgn := h126
              have hcs : cS M122 = cS M := cS_bf hB hB127
              have hcq : cS Mq71 = cS M := cS_bf hB hQ71
              rw [hcq] at hgn
              have hcome := b32_4 (M := M122) hB127.1
              refine vc_if_ne dX1_takes_89 (fun h128 => ?_) (fun h128 => ?_)
              · have hgy : gOn (cS M) (gW Mq71) = (gW M122, true) := by rcases hgn with h | h; (exact h.2); (exfalso; omega)
                have hgno : ¬ gNo (cS M) (gW Mq71) := fun e => by rw [gOn_n e] at hgy; exact Bool.false_ne_true (congrArg Prod.snd hgy)
                have hgx : gW M122 = gNx (cS M) (gW Mq71) := by rw [gOn_y hgno] at hgy; exact (congrArg Prod.fst hgy).symm
                have hgc : mI M122 32 4 = mI Mq71 32 4 + 1 := congrArg (fun g : Gw => g.2.2.1) hgx
                have hgf : mI M122 32 3 = mI Mq71 32 3 := congrArg (fun g : Gw => g.2.1) hgx
                refine vc_iload dX1_takes_94 rfl ?_
                refine vc_if_eq dX1_takes_96 (fun h129 => by exfalso; omega) (fun h129 => ?_)
                refine vc_aload_n dX1_takes_99 rfl ?_
                refine vc_getR dX1_takes_100 flX1_9 (s_32 hB127.1.1) rfl (r_32_0 hB127.1.1) ?_
                refine vc_aload_n dX1_takes_103 rfl ?_
                refine vc_getI dX1_takes_104 flX1_19 (s_32 hB127.1.1) rfl ?_
                refine vc_cVI dX1_takes_107 (sfX6_sightOfF (M := M122) hB127.1  (mI M122 32 2) ) rfl okX6_sightOf viX6_sightOf lkX1_70 (s_1 hB127.1.1) cl_6 rfl (Nat.le_of_ble_eq_true rfl) ⟨rfl, rfl⟩ (Nat.le_of_ble_eq_true rfl) (Nat.le_of_ble_eq_true rfl) (Nat.le_of_ble_eq_true rfl) ?_
                rintro x130 _ ⟨rfl, h131⟩
                have hsi : x130 = siS (cS M) (mI M122 32 2) := by rw [← hcs]; exact h131
                refine vc_iload dX1_takes_110 rfl ?_
                refine vc_icmp_ne dX1_takes_112 (fun h132 => ?_) (fun h132 => ?_)
                · have hP : ¬ gCt (cS M) t (sdS (mI M 32 3) (t / 100)) (laS s) (mI M122 32 2) := by unfold gCt; rintro (⟨h1, h2⟩ | ⟨h1, h2 | h2⟩) <;> first | omega | (rcases hct with h | h; (exfalso; omega); (exact h.2 h2))
                  refine vc_iincE dX1_takes_144 rfl (by omega) (by omega) (by decide) rfl (show _ = [some (aR 32), none, none, some (aI x1), some (aI 1), some (aI x90), some (aI 1), some (aI x92), some (aI 0), some (aI v9), some (aI (v10 + 1))] from rfl) ?_
                  refine vc_goto dX1_takes_147 ?_
                  exact ih71 M122 v9 (v10 + 1) hB127 (by omega) (by omega) (by omega) (by omega) (by first | (rw [Int.sub_zero]; done) | (rw [g71i0, show (41 - mI Mq71 32 4).toNat = (41 - mI M122 32 4).toNat + 1 by omega]; first | (rw [gTk_y (by omega) hgno (by rw [← hgx]; exact hP), ← hgx, show 1 - v9 - 1 = 1 - (v9 + 1) by omega]) | (rw [gTk_n (by omega) hgno (by rw [← hgx]; exact hP), ← hgx]))) (by omega) (by omega) (by omega) (by omega) (by omega)
                · refine vc_goto dX1_takes_115 ?_
                  have hP : gCt (cS M) t (sdS (mI M 32 3) (t / 100)) (laS s) (mI M122 32 2) := by unfold gCt; first | exact Or.inl ⟨by omega, by omega⟩ | exact Or.inr ⟨by omega, Or.inl (by omega)⟩ | exact Or.inr ⟨by omega, Or.inr (by rcases hct with h | h; (exact h.2); (exfalso; omega))⟩
                  refine vc_iincE dX1_takes_141 rfl (by omega) (by omega) (by decide) rfl (show _ = [some (aR 32), none, none, some (aI x1), some (aI 1), some (aI x90), some (aI 1), some (aI x92), some (aI 0), some (aI (v9 + 1)), some (aI v10)] from rfl) ?_
                  refine vc_iincE dX1_takes_144 rfl (by omega) (by omega) (by decide) rfl (show _ = [some (aR 32), none, none, some (aI x1), some (aI 1), some (aI x90), some (aI 1), some (aI x92), some (aI 0), some (aI (v9 + 1)), some (aI (v10 + 1))] from rfl) ?_
                  refine vc_goto dX1_takes_147 ?_
                  exact ih71 M122 (v9 + 1) (v10 + 1) hB127 (by omega) (by omega) (by omega) (by omega) (by first | (rw [Int.sub_zero]; done) | (rw [g71i0, show (41 - mI Mq71 32 4).toNat = (41 - mI M122 32 4).toNat + 1 by omega]; first | (rw [gTk_y (by omega) hgno (by rw [← hgx]; exact hP), ← hgx, show 1 - v9 - 1 = 1 - (v9 + 1) by omega]) | (rw [gTk_n (by omega) hgno (by rw [← hgx]; exact hP), ← hgx]))) (by omega) (by omega) (by omega) (by omega) (by omega)
              · refine vc_iconst dX1_takes_92 rfl ?_
                refine vc_zret dX1_takes_93 rfl (by first | decide | omega) (Nat.le_of_ble_eq_true rfl) (Nat.le_of_ble_eq_true rfl) ?_
                have hgf2 : gOn (cS M) (gW Mq71) = (gW M122, false) := by rcases hgn with h | h; (exfalso; omega); (exact h.2)
                have hgno : gNo (cS M) (gW Mq71) := by by_cases e : gNo (cS M) (gW Mq71); (exact e); (rw [gOn_y e] at hgf2; exact absurd (congrArg Prod.snd hgf2).symm Bool.false_ne_true)
                have hgx : gW M122 = gW Mq71 := by rw [gOn_n hgno] at hgf2; exact (congrArg Prod.fst hgf2).symm
                exact ⟨_, rfl, hB127, by omega, by omega, Or.inr ⟨rfl, by rw [hgx]; exact gTu_f (S := cS M) (g := gW M) hdu (g71i0.trans (by rw [show (41 - mI Mq71 32 4).toNat = (40 - mI Mq71 32 4).toNat + 1 by omega]; exact gTk_f (by omega) hgno))⟩⟩
      refine vc_less [some (aR 32), none, none, some (aI x1), some (aI 1), some (aI x90), some (aI 1), some (aI x92), some (aI 0), some (aI 0), some (aI 0)] (lessL_keep (lessL_drop (lessL_drop (lessL_keep (lessL_keep (lessL_keep (lessL_keep (lessL_keep (lessL_keep (lessL_keep (lessL_keep (lessL_nil)))))))))))) ?_
      exact lp71 _ M 0 0 hB0 (by omega) (by omega) (by omega) (by omega) (by first | (rw [Int.sub_zero]; done) | (rw [g71i0, show (41 - mI Mq71 32 4).toNat = (41 - mI M122 32 4).toNat + 1 by omega]; first | (rw [gTk_y (by omega) hgno (by rw [← hgx]; exact hP), ← hgx, show 1 - v9 - 1 = 1 - (v9 + 1) by omega]) | (rw [gTk_n (by omega) hgno (by rw [← hgx]; exact hP), ← hgx]))) (by omega) (by omega) (by omega) (by omega) (Nat.lt_succ_self _)
    · refine vc_iconst dX1_takes_58 rfl ?_
      refine vc_goto dX1_takes_59 ?_
      refine vc_istore dX1_takes_63 (by decide) rfl (show _ = [some (aR 32), some (aI t), some (aI s), some (aI x1), some (aI 1), some (aI x90), some (aI 1), some (aI x92), some (aI 1), none, none] from rfl) ?_
      have hla : (1 : Int) = laS s := by unfold laS; first | (rw [if_pos (by omega)]) | (rw [if_neg (by omega)])
      have hdu : (1 : Int) = if t / 10 % 10 = 1 then 1 else t % 10 := by first | (rw [if_pos (by omega)]) | (rw [if_neg (by omega)])
      refine vc_iconst dX1_takes_65 rfl ?_
      refine vc_istore dX1_takes_66 (by decide) rfl (show _ = [some (aR 32), some (aI t), some (aI s), some (aI x1), some (aI 1), some (aI x90), some (aI 1), some (aI x92), some (aI 1), some (aI 0), none] from rfl) ?_
      refine vc_iconst dX1_takes_68 rfl ?_
      refine vc_istore dX1_takes_69 (by decide) rfl (show _ = [some (aR 32), some (aI t), some (aI s), some (aI x1), some (aI 1), some (aI x90), some (aI 1), some (aI x92), some (aI 1), some (aI 0), some (aI 0)] from rfl) ?_
      have lp71 : ∀ (n71 : Nat) (Mq71 : Mem) (v9 : Int) (v10 : Int), (BF fS M Mq71) → (0 ≤ v9) → (v9 ≤ v10) → (0 ≤ v10) → (v10 ≤ 41) → (gTk (cS M) (gCt (cS M) t (sdS (mI M 32 3) (t / 100)) (laS s)) (41 - mI M 32 4).toNat (1) (gW M) = gTk (cS M) (gCt (cS M) t (sdS (mI M 32 3) (t / 100)) (laS s)) (41 - mI Mq71 32 4).toNat (1 - v9) (gW Mq71)) → (mI Mq71 32 3 = mI M 32 3) → (v10 ≤ mI Mq71 32 4) → (0 ≤ mI Mq71 32 4) → (mI Mq71 32 4 ≤ 40) → (41 - v10).toNat < n71 → VC l mdX1_takes 71 [some (aR 32), none, none, some (aI x1), some (aI 1), some (aI x90), some (aI 1), some (aI x92), some (aI 1), some (aI v9), some (aI v10)] [] Mq71 0 0 (fun q N => ∃ r : Int, q = some (aI r) ∧ BF fS M N ∧ 0 ≤ r ∧ r ≤ 1 ∧ ((r = 1 ∧ gTu (cS M) t (laS s) (gW M) = (gW N, true)) ∨ (r = 0 ∧ gTu (cS M) t (laS s) (gW M) = (gW N, false)))) := by
        intro n71
        induction n71 with
        | zero => intro Mq71 v9 v10 hQ71 g71_9a g71_9b g71_10a g71_10b g71i0 g71i1 g71i2 g71i3 g71i4 hm71; exact absurd hm71 (Nat.not_lt_zero _)
        | succ n71 ih71 =>
          intro Mq71 v9 v10 hQ71 g71_9a g71_9b g71_10a g71_10b g71i0 g71i1 g71i2 g71i3 g71i4 hm71
          refine vc_iload dX1_takes_71 rfl ?_
          refine vc_bipush dX1_takes_73 rfl ?_
          refine vc_icmp_gt dX1_takes_75 (fun h133 => ?_) (fun h133 => ?_)
          · refine vc_iload_n dX1_takes_150 rfl ?_
            refine vc_iconst dX1_takes_151 rfl ?_
            refine vc_icmp_eq dX1_takes_152 (fun h134 => ?_) (fun h134 => ?_)
            · refine vc_aload_n dX1_takes_175 rfl ?_
              refine vc_iload dX1_takes_176 rfl ?_
              refine vc_putI dX1_takes_178 (plX1_23 _ rfl) (s_32 hQ71.1.1) rfl ?_
              have hB135 : BF fS M (sI Mq71 32 3 x92) := BF.w32_3 hQ71 rfl
              refine vc_iconst dX1_takes_181 rfl ?_
              refine vc_zret dX1_takes_182 rfl (by first | decide | omega) (Nat.le_of_ble_eq_true rfl) (Nat.le_of_ble_eq_true rfl) ?_
              have k136 : mI (sI Mq71 32 3 x92) 32 3 = x92 := rfl
              have k137 : mI (sI Mq71 32 3 x92) 32 4 = mI Mq71 32 4 := rfl
              have hcome := b32_4 hQ71.1
              first | (exfalso; omega) | exact ⟨_, rfl, hB135, by omega, by omega, Or.inl ⟨rfl, (gTu_y (S := cS M) (g := gW M) (q := gW Mq71) hdu (g71i0.trans (by rw [show (41 - mI Mq71 32 4).toNat = (40 - mI Mq71 32 4).toNat + 1 by omega]; exact gTk_0 (by omega))) (by first | exact Or.inl (by omega) | exact Or.inr (by rcases hct with h2 | h2; (exact h2.2); (exfalso; omega)))).trans (by rw [show (gW M).2.1 = mI M 32 3 from rfl, ← hsd, gW_f])⟩⟩
            · refine vc_aload_n dX1_takes_155 rfl ?_
              refine vc_getR dX1_takes_156 flX1_9 (s_32 hQ71.1.1) rfl (r_32_0 hQ71.1.1) ?_
              refine vc_aload_n dX1_takes_159 rfl ?_
              refine vc_getI dX1_takes_160 flX1_19 (s_32 hQ71.1.1) rfl ?_
              refine vc_iload dX1_takes_163 rfl ?_
              refine vc_iload dX1_takes_165 rfl ?_
              refine vc_cVI dX1_takes_167 (sfX6_countsF (M := Mq71) hQ71.1  (mI Mq71 32 2) x92 1 ) rfl okX6_counts viX6_counts lkX1_74 (s_1 hQ71.1.1) cl_6 rfl (Nat.le_of_ble_eq_true rfl) ⟨rfl, rfl⟩ (Nat.le_of_ble_eq_true rfl) (Nat.le_of_ble_eq_true rfl) (Nat.le_of_ble_eq_true rfl) ?_
              rintro x138 _ ⟨rfl, h139, h140, h141⟩
              have hct : (x138 = 1 ∧ cntS (cS M) (mI Mq71 32 2) (sdS (mI M 32 3) (t / 100)) (laS s)) ∨ (x138 = 0 ∧ ¬ cntS (cS M) (mI Mq71 32 2) (sdS (mI M 32 3) (t / 100)) (laS s)) := by
                have z := h141
                rw [show cS Mq71 = cS M from cS_bf hB hQ71] at z
                rw [← hsd, ← hla]; exact z
              refine vc_if_ne dX1_takes_170 (fun h142 => ?_) (fun h142 => ?_)
              · refine vc_aload_n dX1_takes_175 rfl ?_
                refine vc_iload dX1_takes_176 rfl ?_
                refine vc_putI dX1_takes_178 (plX1_23 _ rfl) (s_32 hQ71.1.1) rfl ?_
                have hB143 : BF fS M (sI Mq71 32 3 x92) := BF.w32_3 hQ71 rfl
                refine vc_iconst dX1_takes_181 rfl ?_
                refine vc_zret dX1_takes_182 rfl (by first | decide | omega) (Nat.le_of_ble_eq_true rfl) (Nat.le_of_ble_eq_true rfl) ?_
                have k144 : mI (sI Mq71 32 3 x92) 32 3 = x92 := rfl
                have k145 : mI (sI Mq71 32 3 x92) 32 4 = mI Mq71 32 4 := rfl
                have hcome := b32_4 hQ71.1
                first | (exfalso; omega) | exact ⟨_, rfl, hB143, by omega, by omega, Or.inl ⟨rfl, (gTu_y (S := cS M) (g := gW M) (q := gW Mq71) hdu (g71i0.trans (by rw [show (41 - mI Mq71 32 4).toNat = (40 - mI Mq71 32 4).toNat + 1 by omega]; exact gTk_0 (by omega))) (by first | exact Or.inl (by omega) | exact Or.inr (by rcases hct with h2 | h2; (exact h2.2); (exfalso; omega)))).trans (by rw [show (gW M).2.1 = mI M 32 3 from rfl, ← hsd, gW_f])⟩⟩
              · refine vc_iconst dX1_takes_173 rfl ?_
                refine vc_zret dX1_takes_174 rfl (by first | decide | omega) (Nat.le_of_ble_eq_true rfl) (Nat.le_of_ble_eq_true rfl) ?_
                have hcome := b32_4 hQ71.1
                first | (exfalso; omega) | exact ⟨_, rfl, hQ71, by omega, by omega, Or.inr ⟨rfl, gTu_n (S := cS M) (g := gW M) (q := gW Mq71) hdu (g71i0.trans (by rw [show (41 - mI Mq71 32 4).toNat = (40 - mI Mq71 32 4).toNat + 1 by omega]; exact gTk_0 (by omega))) (by rintro (h | h); (have h9 : t / 100 = 3 := h; omega); (rcases hct with h2 | h2; (exfalso; omega); (exact h2.2 h)))⟩⟩
          · refine vc_iload dX1_takes_78 rfl ?_
            refine vc_iload dX1_takes_80 rfl ?_
            refine vc_icmp_ge dX1_takes_82 (fun h146 => ?_) (fun h146 => ?_)
            · refine vc_iload_n dX1_takes_150 rfl ?_
              refine vc_iconst dX1_takes_151 rfl ?_
              refine vc_icmp_eq dX1_takes_152 (fun h147 => ?_) (fun h147 => ?_)
              · refine vc_aload_n dX1_takes_175 rfl ?_
                refine vc_iload dX1_takes_176 rfl ?_
                refine vc_putI dX1_takes_178 (plX1_23 _ rfl) (s_32 hQ71.1.1) rfl ?_
                have hB148 : BF fS M (sI Mq71 32 3 x92) := BF.w32_3 hQ71 rfl
                refine vc_iconst dX1_takes_181 rfl ?_
                refine vc_zret dX1_takes_182 rfl (by first | decide | omega) (Nat.le_of_ble_eq_true rfl) (Nat.le_of_ble_eq_true rfl) ?_
                have k149 : mI (sI Mq71 32 3 x92) 32 3 = x92 := rfl
                have k150 : mI (sI Mq71 32 3 x92) 32 4 = mI Mq71 32 4 := rfl
                have hcome := b32_4 hQ71.1
                first | (exfalso; omega) | exact ⟨_, rfl, hB148, by omega, by omega, Or.inl ⟨rfl, (gTu_y (S := cS M) (g := gW M) (q := gW Mq71) hdu (g71i0.trans (by rw [show (41 - mI Mq71 32 4).toNat = (40 - mI Mq71 32 4).toNat + 1 by omega]; exact gTk_0 (by omega))) (by first | exact Or.inl (by omega) | exact Or.inr (by rcases hct with h2 | h2; (exact h2.2); (exfalso; omega)))).trans (by rw [show (gW M).2.1 = mI M 32 3 from rfl, ← hsd, gW_f])⟩⟩
              · refine vc_aload_n dX1_takes_155 rfl ?_
                refine vc_getR dX1_takes_156 flX1_9 (s_32 hQ71.1.1) rfl (r_32_0 hQ71.1.1) ?_
                refine vc_aload_n dX1_takes_159 rfl ?_
                refine vc_getI dX1_takes_160 flX1_19 (s_32 hQ71.1.1) rfl ?_
                refine vc_iload dX1_takes_163 rfl ?_
                refine vc_iload dX1_takes_165 rfl ?_
                refine vc_cVI dX1_takes_167 (sfX6_countsF (M := Mq71) hQ71.1  (mI Mq71 32 2) x92 1 ) rfl okX6_counts viX6_counts lkX1_74 (s_1 hQ71.1.1) cl_6 rfl (Nat.le_of_ble_eq_true rfl) ⟨rfl, rfl⟩ (Nat.le_of_ble_eq_true rfl) (Nat.le_of_ble_eq_true rfl) (Nat.le_of_ble_eq_true rfl) ?_
                rintro x151 _ ⟨rfl, h152, h153, h154⟩
                have hct : (x151 = 1 ∧ cntS (cS M) (mI Mq71 32 2) (sdS (mI M 32 3) (t / 100)) (laS s)) ∨ (x151 = 0 ∧ ¬ cntS (cS M) (mI Mq71 32 2) (sdS (mI M 32 3) (t / 100)) (laS s)) := by
                  have z := h154
                  rw [show cS Mq71 = cS M from cS_bf hB hQ71] at z
                  rw [← hsd, ← hla]; exact z
                refine vc_if_ne dX1_takes_170 (fun h155 => ?_) (fun h155 => ?_)
                · refine vc_aload_n dX1_takes_175 rfl ?_
                  refine vc_iload dX1_takes_176 rfl ?_
                  refine vc_putI dX1_takes_178 (plX1_23 _ rfl) (s_32 hQ71.1.1) rfl ?_
                  have hB156 : BF fS M (sI Mq71 32 3 x92) := BF.w32_3 hQ71 rfl
                  refine vc_iconst dX1_takes_181 rfl ?_
                  refine vc_zret dX1_takes_182 rfl (by first | decide | omega) (Nat.le_of_ble_eq_true rfl) (Nat.le_of_ble_eq_true rfl) ?_
                  have k157 : mI (sI Mq71 32 3 x92) 32 3 = x92 := rfl
                  have k158 : mI (sI Mq71 32 3 x92) 32 4 = mI Mq71 32 4 := rfl
                  have hcome := b32_4 hQ71.1
                  first | (exfalso; omega) | exact ⟨_, rfl, hB156, by omega, by omega, Or.inl ⟨rfl, (gTu_y (S := cS M) (g := gW M) (q := gW Mq71) hdu (g71i0.trans (by rw [show (41 - mI Mq71 32 4).toNat = (40 - mI Mq71 32 4).toNat + 1 by omega]; exact gTk_0 (by omega))) (by first | exact Or.inl (by omega) | exact Or.inr (by rcases hct with h2 | h2; (exact h2.2); (exfalso; omega)))).trans (by rw [show (gW M).2.1 = mI M 32 3 from rfl, ← hsd, gW_f])⟩⟩
                · refine vc_iconst dX1_takes_173 rfl ?_
                  refine vc_zret dX1_takes_174 rfl (by first | decide | omega) (Nat.le_of_ble_eq_true rfl) (Nat.le_of_ble_eq_true rfl) ?_
                  have hcome := b32_4 hQ71.1
                  first | (exfalso; omega) | exact ⟨_, rfl, hQ71, by omega, by omega, Or.inr ⟨rfl, gTu_n (S := cS M) (g := gW M) (q := gW Mq71) hdu (g71i0.trans (by rw [show (41 - mI Mq71 32 4).toNat = (40 - mI Mq71 32 4).toNat + 1 by omega]; exact gTk_0 (by omega))) (by rintro (h | h); (have h9 : t / 100 = 3 := h; omega); (rcases hct with h2 | h2; (exfalso; omega); (exact h2.2 h)))⟩⟩
            · refine vc_aload_n dX1_takes_85 rfl ?_
              refine vc_cVI dX1_takes_86 (sfX1_goesOnF (M := Mq71) hQ71.1   ) rfl okX1_goesOn viX1_goesOn lkX1_60 (s_32 hQ71.1.1) cl_1 rfl (Nat.le_of_ble_eq_true rfl) ⟨rfl, rfl⟩ (Nat.le_of_ble_eq_true rfl) (Nat.le_of_ble_eq_true rfl) (Nat.le_of_ble_eq_true rfl) ?_
              rintro x159 M160 ⟨hB161, h162, h163, h164⟩
              have hB165 : BF fS M M160 := BF.go hQ71 hB161
              have hgn := h164
              have hcs : cS M160 = cS M := cS_bf hB hB165
              have hcq : cS Mq71 = cS M := cS_bf hB hQ71
              rw [hcq] at hgn
              have hcome := b32_4 (M := M160) hB165.1
              refine vc_if_ne dX1_takes_89 (fun h166 => ?_) (fun h166 => ?_)
              · have hgy : gOn (cS M) (gW Mq71) = (gW M160, true) := by rcases hgn with h | h; (exact h.2); (exfalso; omega)
                have hgno : ¬ gNo (cS M) (gW Mq71) := fun e => by rw [gOn_n e] at hgy; exact Bool.false_ne_true (congrArg Prod.snd hgy)
                have hgx : gW M160 = gNx (cS M) (gW Mq71) := by rw [gOn_y hgno] at hgy; exact (congrArg Prod.fst hgy).symm
                have hgc : mI M160 32 4 = mI Mq71 32 4 + 1 := congrArg (fun g : Gw => g.2.2.1) hgx
                have hgf : mI M160 32 3 = mI Mq71 32 3 := congrArg (fun g : Gw => g.2.1) hgx
                refine vc_iload dX1_takes_94 rfl ?_
                refine vc_if_eq dX1_takes_96 (fun h167 => by exfalso; omega) (fun h167 => ?_)
                refine vc_aload_n dX1_takes_99 rfl ?_
                refine vc_getR dX1_takes_100 flX1_9 (s_32 hB165.1.1) rfl (r_32_0 hB165.1.1) ?_
                refine vc_aload_n dX1_takes_103 rfl ?_
                refine vc_getI dX1_takes_104 flX1_19 (s_32 hB165.1.1) rfl ?_
                refine vc_cVI dX1_takes_107 (sfX6_sightOfF (M := M160) hB165.1  (mI M160 32 2) ) rfl okX6_sightOf viX6_sightOf lkX1_70 (s_1 hB165.1.1) cl_6 rfl (Nat.le_of_ble_eq_true rfl) ⟨rfl, rfl⟩ (Nat.le_of_ble_eq_true rfl) (Nat.le_of_ble_eq_true rfl) (Nat.le_of_ble_eq_true rfl) ?_
                rintro x168 _ ⟨rfl, h169⟩
                have hsi : x168 = siS (cS M) (mI M160 32 2) := by rw [← hcs]; exact h169
                refine vc_iload dX1_takes_110 rfl ?_
                refine vc_icmp_ne dX1_takes_112 (fun h170 => ?_) (fun h170 => ?_)
                · have hP : ¬ gCt (cS M) t (sdS (mI M 32 3) (t / 100)) (laS s) (mI M160 32 2) := by unfold gCt; rintro (⟨h1, h2⟩ | ⟨h1, h2 | h2⟩) <;> first | omega | (rcases hct with h | h; (exfalso; omega); (exact h.2 h2))
                  refine vc_iincE dX1_takes_144 rfl (by omega) (by omega) (by decide) rfl (show _ = [some (aR 32), none, none, some (aI x1), some (aI 1), some (aI x90), some (aI 1), some (aI x92), some (aI 1), some (aI v9), some (aI (v10 + 1))] from rfl) ?_
                  refine vc_goto dX1_takes_147 ?_
                  exact ih71 M160 v9 (v10 + 1) hB165 (by omega) (by omega) (by omega) (by omega) (by first | (rw [Int.sub_zero]; done) | (rw [g71i0, show (41 - mI Mq71 32 4).toNat = (41 - mI M160 32 4).toNat + 1 by omega]; first | (rw [gTk_y (by omega) hgno (by rw [← hgx]; exact hP), ← hgx, show 1 - v9 - 1 = 1 - (v9 + 1) by omega]) | (rw [gTk_n (by omega) hgno (by rw [← hgx]; exact hP), ← hgx]))) (by omega) (by omega) (by omega) (by omega) (by omega)
                · refine vc_goto dX1_takes_115 ?_
                  have hP : gCt (cS M) t (sdS (mI M 32 3) (t / 100)) (laS s) (mI M160 32 2) := by unfold gCt; first | exact Or.inl ⟨by omega, by omega⟩ | exact Or.inr ⟨by omega, Or.inl (by omega)⟩ | exact Or.inr ⟨by omega, Or.inr (by rcases hct with h | h; (exact h.2); (exfalso; omega))⟩
                  refine vc_iincE dX1_takes_141 rfl (by omega) (by omega) (by decide) rfl (show _ = [some (aR 32), none, none, some (aI x1), some (aI 1), some (aI x90), some (aI 1), some (aI x92), some (aI 1), some (aI (v9 + 1)), some (aI v10)] from rfl) ?_
                  refine vc_iincE dX1_takes_144 rfl (by omega) (by omega) (by decide) rfl (show _ = [some (aR 32), none, none, some (aI x1), some (aI 1), some (aI x90), some (aI 1), some (aI x92), some (aI 1), some (aI (v9 + 1)), some (aI (v10 + 1))] from rfl) ?_
                  refine vc_goto dX1_takes_147 ?_
                  exact ih71 M160 (v9 + 1) (v10 + 1) hB165 (by omega) (by omega) (by omega) (by omega) (by first | (rw [Int.sub_zero]; done) | (rw [g71i0, show (41 - mI Mq71 32 4).toNat = (41 - mI M160 32 4).toNat + 1 by omega]; first | (rw [gTk_y (by omega) hgno (by rw [← hgx]; exact hP), ← hgx, show 1 - v9 - 1 = 1 - (v9 + 1) by omega]) | (rw [gTk_n (by omega) hgno (by rw [← hgx]; exact hP), ← hgx]))) (by omega) (by omega) (by omega) (by omega) (by omega)
              · refine vc_iconst dX1_takes_92 rfl ?_
                refine vc_zret dX1_takes_93 rfl (by first | decide | omega) (Nat.le_of_ble_eq_true rfl) (Nat.le_of_ble_eq_true rfl) ?_
                have hgf2 : gOn (cS M) (gW Mq71) = (gW M160, false) := by rcases hgn with h | h; (exfalso; omega); (exact h.2)
                have hgno : gNo (cS M) (gW Mq71) := by by_cases e : gNo (cS M) (gW Mq71); (exact e); (rw [gOn_y e] at hgf2; exact absurd (congrArg Prod.snd hgf2).symm Bool.false_ne_true)
                have hgx : gW M160 = gW Mq71 := by rw [gOn_n hgno] at hgf2; exact (congrArg Prod.fst hgf2).symm
                exact ⟨_, rfl, hB165, by omega, by omega, Or.inr ⟨rfl, by rw [hgx]; exact gTu_f (S := cS M) (g := gW M) hdu (g71i0.trans (by rw [show (41 - mI Mq71 32 4).toNat = (40 - mI Mq71 32 4).toNat + 1 by omega]; exact gTk_f (by omega) hgno))⟩⟩
      refine vc_less [some (aR 32), none, none, some (aI x1), some (aI 1), some (aI x90), some (aI 1), some (aI x92), some (aI 1), some (aI 0), some (aI 0)] (lessL_keep (lessL_drop (lessL_drop (lessL_keep (lessL_keep (lessL_keep (lessL_keep (lessL_keep (lessL_keep (lessL_keep (lessL_keep (lessL_nil)))))))))))) ?_
      exact lp71 _ M 0 0 hB0 (by omega) (by omega) (by omega) (by omega) (by first | (rw [Int.sub_zero]; done) | (rw [g71i0, show (41 - mI Mq71 32 4).toNat = (41 - mI M160 32 4).toNat + 1 by omega]; first | (rw [gTk_y (by omega) hgno (by rw [← hgx]; exact hP), ← hgx, show 1 - v9 - 1 = 1 - (v9 + 1) by omega]) | (rw [gTk_n (by omega) hgno (by rw [← hgx]; exact hP), ← hgx]))) (by omega) (by omega) (by omega) (by omega) (Nat.lt_succ_self _)

set_option maxRecDepth 4000 in
theorem sfX6_turnOfF {l : Launch} {M : Mem} (hB : Box M)  (t : Int) (i : Int) (p0 : 0 ≤ i) (p1 : i ≤ 6) : Call l mdX6_turnOf [aR 1, aI t, aI i] M (fun q N => ∃ r : Int, q = some (aI r) ∧ M = N ∧ (¬ (0 ≤ t ∧ t < mI M 1 9 ∧ 0 ≤ i ∧ i < mI M 6 (9 * t + 2).toNat ∧ i < 6) ∨ r = mI M 6 (9 * t + 3 + i).toNat)) := by
  have hB0 : BF fQ M M := BF.start hB
  refine Call.of [some (aR 1), some (aI t), some (aI i)] rfl (Nat.le_of_ble_eq_true rfl) rfl ?_
  refine vc_ok (fun hoM hoS hoL => ?_)
  have hr1 : -2147483648 ≤ t ∧ t < 2147483648 := hoL 1 _ rfl
  refine vc_iload_n dX6_turnOf_0 rfl ?_
  refine vc_if_lt dX6_turnOf_1 (fun h1 => by exfalso; omega) (fun h1 => ?_)
  refine vc_iload_n dX6_turnOf_4 rfl ?_
  refine vc_aload_n dX6_turnOf_5 rfl ?_
  refine vc_iload_n dX6_turnOf_6 rfl ?_
  refine vc_iconst dX6_turnOf_7 rfl ?_
  refine vc_cVI dX6_turnOf_8 (sfX6_tellingCellF (M := M) hB0.1  t 2 ) rfl okX6_tellingCell viX6_tellingCell lkX6_74 (s_1 hB0.1.1) cl_6 rfl (Nat.le_of_ble_eq_true rfl) ⟨rfl, rfl⟩ (Nat.le_of_ble_eq_true rfl) (Nat.le_of_ble_eq_true rfl) (Nat.le_of_ble_eq_true rfl) ?_
  rintro x2 _ ⟨rfl, h3⟩
  refine vc_icmp_ge dX6_turnOf_11 (fun h4 => ?_) (fun h4 => ?_)
  · refine vc_iconst dX6_turnOf_25 rfl ?_
    refine vc_iret dX6_turnOf_26 rfl (Nat.le_of_ble_eq_true rfl) (Nat.le_of_ble_eq_true rfl) ?_
    exact ⟨_, rfl, rfl, by first | omega | (right; subst_vars; congr 1; omega)⟩
  · refine vc_aload_n dX6_turnOf_14 rfl ?_
    refine vc_iload_n dX6_turnOf_15 rfl ?_
    refine vc_iconst dX6_turnOf_16 rfl ?_
    refine vc_iload_n dX6_turnOf_17 rfl ?_
    refine vc_iaddE dX6_turnOf_18 (by omega) (by omega) ?_
    refine vc_cVI dX6_turnOf_19 (sfX6_tellingCellF (M := M) hB0.1  t (3 + i) ) rfl okX6_tellingCell viX6_tellingCell lkX6_74 (s_1 hB0.1.1) cl_6 rfl (Nat.le_of_ble_eq_true rfl) ⟨rfl, rfl⟩ (Nat.le_of_ble_eq_true rfl) (Nat.le_of_ble_eq_true rfl) (Nat.le_of_ble_eq_true rfl) ?_
    rintro x5 _ ⟨rfl, h6⟩
    have hz : ¬ (0 ≤ t ∧ t < mI M 1 9 ∧ 0 ≤ i ∧ i < mI M 6 (9 * t + 2).toNat ∧ i < 6) ∨ x5 = mI M 6 (9 * t + 3 + i).toNat := by rw [show (9 * t + 3 + i).toNat = (9 * t + (3 + i)).toNat by omega]; omega
    refine vc_goto dX6_turnOf_22 ?_
    refine vc_iret dX6_turnOf_26 rfl (Nat.le_of_ble_eq_true rfl) (Nat.le_of_ble_eq_true rfl) ?_
    exact ⟨_, rfl, rfl, by first | omega | (right; subst_vars; congr 1; omega)⟩

set_option maxRecDepth 4000 in
theorem sfX1_goesAllF {l : Launch} {M : Mem} (hB : Box M)  (t : Int) (s : Int) (b : Int) (p0 : 0 ≤ s) (p1 : s ≤ 7) (p2 : wfG (cS M) t) : Call l mdX1_goesAll [aR 32, aI t, aI s, aI b] M (fun q N => ∃ r : Int, q = some (aI r) ∧ BF fS M N ∧ 0 ≤ r ∧ r ≤ 1 ∧ ((r = 1 ∧ gAl (cS M) t s b (gW M) = (gW N, true)) ∨ (r = 0 ∧ gAl (cS M) t s b (gW M) = (gW N, false)))) := by
  have hB0 : BF fS M M := BF.start hB
  refine Call.of [some (aR 32), some (aI t), some (aI s), some (aI b), none, none, none, none] rfl (Nat.le_of_ble_eq_true rfl) rfl ?_
  refine vc_ok (fun hoM hoS hoL => ?_)
  have hr1 : -2147483648 ≤ t ∧ t < 2147483648 := hoL 1 _ rfl
  have hr3 : -2147483648 ≤ b ∧ b < 2147483648 := hoL 3 _ rfl
  have p20 := p2.1
  have p23 : t < mI M 1 9 := p2.2.1
  refine vc_aload_n dX1_goesAll_0 rfl ?_
  refine vc_getR dX1_goesAll_1 flX1_9 (s_32 hB0.1.1) rfl (r_32_0 hB0.1.1) ?_
  refine vc_iload_n dX1_goesAll_4 rfl ?_
  refine vc_iconst dX1_goesAll_5 rfl ?_
  refine vc_cVI dX1_goesAll_6 (sfX6_tellingCellF (M := M) hB0.1  t 2 ) rfl okX6_tellingCell viX6_tellingCell lkX1_29 (s_1 hB0.1.1) cl_6 rfl (Nat.le_of_ble_eq_true rfl) ⟨rfl, rfl⟩ (Nat.le_of_ble_eq_true rfl) (Nat.le_of_ble_eq_true rfl) (Nat.le_of_ble_eq_true rfl) ?_
  rintro x1 _ ⟨rfl, h2⟩
  have hct : x1 = cS M 6 (9 * t + 2).toNat := by have z : x1 = mI M 6 (9 * t + 2).toNat := (by omega); exact z
  have hcq : x1 ≤ 6 := by rw [hct]; exact p2.2.2.1
  refine vc_istore dX1_goesAll_9 (by decide) rfl (show _ = [some (aR 32), some (aI t), some (aI s), some (aI b), some (aI x1), none, none, none] from rfl) ?_
  refine vc_iconst dX1_goesAll_11 rfl ?_
  refine vc_istore dX1_goesAll_12 (by decide) rfl (show _ = [some (aR 32), some (aI t), some (aI s), some (aI b), some (aI x1), some (aI 3), none, none] from rfl) ?_
  refine vc_iconst dX1_goesAll_14 rfl ?_
  refine vc_istore dX1_goesAll_15 (by decide) rfl (show _ = [some (aR 32), some (aI t), some (aI s), some (aI b), some (aI x1), some (aI 3), some (aI 0), none] from rfl) ?_
  refine vc_ok (fun hoM17 hoS17 hoL17 => ?_)
  have k3 : -2147483648 ≤ x1 ∧ x1 < 2147483648 := hoL17 4 _ rfl
  have lp17 : ∀ (n17 : Nat) (Mq17 : Mem) (v5 : Int) (v6 : Int), (BF fS M Mq17) → (0 ≤ v5) → (v5 ≤ 3) → (0 ≤ v6) → (v6 ≤ 6) → (gTs (cS M) t s b (x1).toNat 0 3 (gW M) = gTs (cS M) t s b (x1 - v6).toNat v6 v5 (gW Mq17)) → (x1 - v6).toNat < n17 → VC l mdX1_goesAll 17 [some (aR 32), some (aI t), some (aI s), some (aI b), some (aI x1), some (aI v5), some (aI v6), none] [] Mq17 0 0 (fun q N => ∃ r : Int, q = some (aI r) ∧ BF fS M N ∧ 0 ≤ r ∧ r ≤ 1 ∧ ((r = 1 ∧ gAl (cS M) t s b (gW M) = (gW N, true)) ∨ (r = 0 ∧ gAl (cS M) t s b (gW M) = (gW N, false)))) := by
    intro n17
    induction n17 with
    | zero => intro Mq17 v5 v6 hQ17 g17_5a g17_5b g17_6a g17_6b g17i0 hm17; exact absurd hm17 (Nat.not_lt_zero _)
    | succ n17 ih17 =>
      intro Mq17 v5 v6 hQ17 g17_5a g17_5b g17_6a g17_6b g17i0 hm17
      refine vc_iload dX1_goesAll_17 rfl ?_
      refine vc_iload dX1_goesAll_19 rfl ?_
      refine vc_icmp_ge dX1_goesAll_21 (fun h4 => ?_) (fun h4 => ?_)
      · refine vc_iload dX1_goesAll_71 rfl ?_
        refine vc_iconst dX1_goesAll_73 rfl ?_
        refine vc_icmp_eq dX1_goesAll_74 (fun h5 => ?_) (fun h5 => ?_)
        · refine vc_iconst dX1_goesAll_84 rfl ?_
          refine vc_goto dX1_goesAll_85 ?_
          refine vc_zret dX1_goesAll_89 rfl (by first | decide | omega) (Nat.le_of_ble_eq_true rfl) (Nat.le_of_ble_eq_true rfl) ?_
          refine ⟨_, rfl, hQ17, by omega, by omega, ?_⟩
          have hA : gAl (cS M) t s b (gW M) = gTs (cS M) t s b (x1 - v6).toNat v6 v5 (gW Mq17) := by unfold gAl; rw [← hct]; exact g17i0
          rw [hA]
          exact Or.inl ⟨rfl, by rw [show (x1 - v6).toNat = 0 by omega]; exact if_pos (by omega)⟩
        · refine vc_aload_n dX1_goesAll_77 rfl ?_
          refine vc_cVI dX1_goesAll_78 (sfX1_goesOnF (M := Mq17) hQ17.1   ) rfl okX1_goesOn viX1_goesOn lkX1_60 (s_32 hQ17.1.1) cl_1 rfl (Nat.le_of_ble_eq_true rfl) ⟨rfl, rfl⟩ (Nat.le_of_ble_eq_true rfl) (Nat.le_of_ble_eq_true rfl) (Nat.le_of_ble_eq_true rfl) ?_
          rintro x6 M7 ⟨hB8, h9, h10, h11⟩
          have hB12 : BF fS M M7 := BF.go hQ17 hB8
          have hgo := h11
          rw [show cS Mq17 = cS M from cS_bf hB hQ17] at hgo
          refine vc_if_eq dX1_goesAll_81 (fun h13 => ?_) (fun h13 => ?_)
          · refine vc_iconst dX1_goesAll_88 rfl ?_
            refine vc_zret dX1_goesAll_89 rfl (by first | decide | omega) (Nat.le_of_ble_eq_true rfl) (Nat.le_of_ble_eq_true rfl) ?_
            refine ⟨_, rfl, hB12, by omega, by omega, ?_⟩
            have hA : gAl (cS M) t s b (gW M) = gTs (cS M) t s b (x1 - v6).toNat v6 v5 (gW Mq17) := by unfold gAl; rw [← hct]; exact g17i0
            rw [hA]
            exact Or.inr ⟨rfl, by rw [show (x1 - v6).toNat = 0 by omega]; refine (if_neg (by omega)).trans ?_; rcases hgo with h | h; (exfalso; omega); (exact h.2)⟩
          · refine vc_iconst dX1_goesAll_84 rfl ?_
            refine vc_goto dX1_goesAll_85 ?_
            refine vc_zret dX1_goesAll_89 rfl (by first | decide | omega) (Nat.le_of_ble_eq_true rfl) (Nat.le_of_ble_eq_true rfl) ?_
            refine ⟨_, rfl, hB12, by omega, by omega, ?_⟩
            have hA : gAl (cS M) t s b (gW M) = gTs (cS M) t s b (x1 - v6).toNat v6 v5 (gW Mq17) := by unfold gAl; rw [← hct]; exact g17i0
            rw [hA]
            exact Or.inl ⟨rfl, by rw [show (x1 - v6).toNat = 0 by omega]; refine (if_neg (by omega)).trans ?_; rcases hgo with h | h; (exact h.2); (exfalso; omega)⟩
      · refine vc_iload dX1_goesAll_24 rfl ?_
        refine vc_iload_n dX1_goesAll_26 rfl ?_
        refine vc_icmp_eq dX1_goesAll_27 (fun h14 => ?_) (fun h14 => ?_)
        · refine vc_iincE dX1_goesAll_65 rfl (by omega) (by omega) (by decide) rfl (show _ = [some (aR 32), some (aI t), some (aI s), some (aI b), some (aI x1), some (aI v5), some (aI (v6 + 1)), none] from rfl) ?_
          refine vc_goto dX1_goesAll_68 ?_
          exact ih17 Mq17 v5 (v6 + 1) hQ17 (by omega) (by omega) (by omega) (by omega) (by first | (rw [Int.sub_zero]; done) | (rw [g17i0, show (x1 - v6).toNat = (x1 - (v6 + 1)).toNat + 1 by omega]; first | (rw [gTs_b (by omega)]; done) | (exact gTs_y (by omega) hmn htk) | (refine (gTs_y (by omega) hmn htk).trans ?_; congr 1; omega))) (by omega)
        · have hcs : cS Mq17 = cS M := cS_bf hB hQ17
          have e19 : mI Mq17 1 9 = mI M 1 9 := hQ17.2.2 1 9 rfl
          have e6 : ∀ j, mI Mq17 6 j = mI M 6 j := fun j => hQ17.2.2 6 j rfl
          have e62 := e6 (9 * t + 2).toNat
          have hct2 : mI M 6 (9 * t + 2).toNat = cS M 6 (9 * t + 2).toNat := rfl
          have p21 := p2.1
          have p22 : t < mI M 1 9 := p2.2.1
          refine vc_aload_n dX1_goesAll_30 rfl ?_
          refine vc_getR dX1_goesAll_31 flX1_9 (s_32 hQ17.1.1) rfl (r_32_0 hQ17.1.1) ?_
          refine vc_iload_n dX1_goesAll_34 rfl ?_
          refine vc_iload dX1_goesAll_35 rfl ?_
          refine vc_cVI dX1_goesAll_37 (sfX6_turnOfF (M := Mq17) hQ17.1  t v6 (by omega) (by omega)) rfl okX6_turnOf viX6_turnOf lkX1_50 (s_1 hQ17.1.1) cl_6 rfl (Nat.le_of_ble_eq_true rfl) ⟨rfl, rfl⟩ (Nat.le_of_ble_eq_true rfl) (Nat.le_of_ble_eq_true rfl) (Nat.le_of_ble_eq_true rfl) ?_
          rintro x15 _ ⟨rfl, h16⟩
          have htu : x15 = cS M 6 (9 * t + 3 + v6).toNat := by have z : x15 = mI Mq17 6 (9 * t + 3 + v6).toNat := (by omega); rw [z, e6]; rfl
          have hrg := p2.2.2.2 v6 (by omega) (by omega)
          rw [← htu] at hrg
          refine vc_iload_n dX1_goesAll_40 rfl ?_
          refine vc_cSI dX1_goesAll_41 (sfX1_meantF (M := Mq17) hQ17.1  x15 s (by omega) (by omega) (by omega) (by omega)) rfl okX1_meant stX1_meant lkX1_53 rfl (Nat.le_of_ble_eq_true rfl) ⟨rfl, rfl⟩ (Nat.le_of_ble_eq_true rfl) (Nat.le_of_ble_eq_true rfl) (Nat.le_of_ble_eq_true rfl) ?_
          rintro x17 _ ⟨rfl, h18, h19, h20⟩
          have hmn0 := h20
          refine vc_istore dX1_goesAll_44 (by decide) rfl (show _ = [some (aR 32), some (aI t), some (aI s), some (aI b), some (aI x1), some (aI v5), some (aI v6), some (aI x17)] from rfl) ?_
          have hmn : x17 = mnS (cS M 6 (9 * t + 3 + v6).toNat) s := by rw [← htu]; first | exact hmn0 | (subst_vars; exact hmn0)
          refine vc_aload_n dX1_goesAll_46 rfl ?_
          refine vc_iload dX1_goesAll_47 rfl ?_
          refine vc_iload_n dX1_goesAll_49 rfl ?_
          refine vc_cVI dX1_goesAll_50 (sfX1_takesF (M := Mq17) hQ17.1  x17 s (by omega) (by omega) (by omega) (by omega)) rfl okX1_takes viX1_takes lkX1_56 (s_32 hQ17.1.1) cl_1 rfl (Nat.le_of_ble_eq_true rfl) ⟨rfl, rfl⟩ (Nat.le_of_ble_eq_true rfl) (Nat.le_of_ble_eq_true rfl) (Nat.le_of_ble_eq_true rfl) ?_
          rintro x21 M22 ⟨hB23, h24, h25, h26⟩
          have hB27 : BF fS M M22 := BF.go hQ17 hB23
          have htk0 := h26
          rw [hcs] at htk0
          refine vc_if_ne dX1_goesAll_53 (fun h28 => ?_) (fun h28 => ?_)
          · have htk : gTu (cS M) x17 (laS s) (gW Mq17) = (gW M22, true) := by rcases htk0 with h | h; (exact h.2); (exfalso; omega)
            refine vc_iload dX1_goesAll_58 rfl ?_
            refine vc_bipush dX1_goesAll_60 rfl ?_
            refine vc_idivE dX1_goesAll_62 (by omega) (by omega) ?_
            refine vc_nameI (fun x29 ex29 => ?_)
            refine vc_istore dX1_goesAll_63 (by decide) rfl (show _ = [some (aR 32), some (aI t), some (aI s), some (aI b), some (aI x1), some (aI x29), some (aI v6), some (aI x17)] from rfl) ?_
            refine vc_iincE dX1_goesAll_65 rfl (by omega) (by omega) (by decide) rfl (show _ = [some (aR 32), some (aI t), some (aI s), some (aI b), some (aI x1), some (aI x29), some (aI (v6 + 1)), some (aI x17)] from rfl) ?_
            refine vc_goto dX1_goesAll_68 ?_
            refine vc_less [some (aR 32), some (aI t), some (aI s), some (aI b), some (aI x1), some (aI x29), some (aI (v6 + 1)), none] (lessL_keep (lessL_keep (lessL_keep (lessL_keep (lessL_keep (lessL_keep (lessL_keep (lessL_drop (lessL_nil))))))))) ?_
            exact ih17 M22 x29 (v6 + 1) hB27 (by omega) (by omega) (by omega) (by omega) (by first | (rw [Int.sub_zero]; done) | (rw [g17i0, show (x1 - v6).toNat = (x1 - (v6 + 1)).toNat + 1 by omega]; first | (rw [gTs_b (by omega)]; done) | (exact gTs_y (by omega) hmn htk) | (refine (gTs_y (by omega) hmn htk).trans ?_; congr 1; omega))) (by omega)
          · refine vc_iconst dX1_goesAll_56 rfl ?_
            refine vc_zret dX1_goesAll_57 rfl (by first | decide | omega) (Nat.le_of_ble_eq_true rfl) (Nat.le_of_ble_eq_true rfl) ?_
            refine ⟨_, rfl, hB27, by omega, by omega, ?_⟩
            have hA : gAl (cS M) t s b (gW M) = gTs (cS M) t s b (x1 - v6).toNat v6 v5 (gW Mq17) := by unfold gAl; rw [← hct]; exact g17i0
            rw [hA]
            exact Or.inr ⟨rfl, by rw [show (x1 - v6).toNat = (x1 - v6 - 1).toNat + 1 by omega]; exact gTs_f (by omega) hmn (by rcases htk0 with h | h; (exfalso; omega); (exact h.2))⟩
  exact lp17 _ M 3 0 hB0 (by omega) (by omega) (by omega) (by omega) (by first | (rw [Int.sub_zero]; done) | (rw [g17i0, show (x1 - v6).toNat = (x1 - (v6 + 1)).toNat + 1 by omega]; first | (rw [gTs_b (by omega)]; done) | (exact gTs_y (by omega) hmn htk) | (refine (gTs_y (by omega) hmn htk).trans ?_; congr 1; omega))) (Nat.lt_succ_self _)

set_option maxRecDepth 4000 in
theorem sfX1_setOutAsToldF {l : Launch} {M : Mem} (hB : Box M)  (t : Int) (p0 : 0 ≤ t) (p1 : t < mI M 1 9) (p2 : 0 ≤ mI M 6 (9 * t).toNat) (p3 : mI M 6 (9 * t).toNat < mI M 1 8) : Call l mdX1_setOutAsTold [aR 32, aI t] M (fun q N => q = none ∧ BF fS M N ∧ gW N = (cS M 5 (4 * cS M 6 (9 * t).toNat).toNat, cS M 6 (9 * t + 1).toNat, 0, 0)) := by
  have hB0 : BF fS M M := BF.start hB
  refine Call.of [some (aR 32), some (aI t)] rfl (Nat.le_of_ble_eq_true rfl) rfl ?_
  refine vc_ok (fun hoM hoS hoL => ?_)
  have hr1 : -2147483648 ≤ t ∧ t < 2147483648 := hoL 1 _ rfl
  have hz6 : mI M 6 (9 * t + 0).toNat = mI M 6 (9 * t).toNat := by rw [Int.add_zero]
  refine vc_aload_n dX1_setOutAsTold_0 rfl ?_
  refine vc_aload_n dX1_setOutAsTold_1 rfl ?_
  refine vc_getR dX1_setOutAsTold_2 flX1_9 (s_32 hB0.1.1) rfl (r_32_0 hB0.1.1) ?_
  refine vc_aload_n dX1_setOutAsTold_5 rfl ?_
  refine vc_getR dX1_setOutAsTold_6 flX1_9 (s_32 hB0.1.1) rfl (r_32_0 hB0.1.1) ?_
  refine vc_iload_n dX1_setOutAsTold_9 rfl ?_
  refine vc_iconst dX1_setOutAsTold_10 rfl ?_
  refine vc_cVI dX1_setOutAsTold_11 (sfX6_tellingCellF (M := M) hB0.1  t 0 ) rfl okX6_tellingCell viX6_tellingCell lkX1_29 (s_1 hB0.1.1) cl_6 rfl (Nat.le_of_ble_eq_true rfl) ⟨rfl, rfl⟩ (Nat.le_of_ble_eq_true rfl) (Nat.le_of_ble_eq_true rfl) (Nat.le_of_ble_eq_true rfl) ?_
  rintro x1 _ ⟨rfl, h2⟩
  refine vc_iconst dX1_setOutAsTold_14 rfl ?_
  refine vc_cVI dX1_setOutAsTold_15 (sfX6_tellerCellF (M := M) hB0.1  x1 0 ) rfl okX6_tellerCell viX6_tellerCell lkX1_35 (s_1 hB0.1.1) cl_6 rfl (Nat.le_of_ble_eq_true rfl) ⟨rfl, rfl⟩ (Nat.le_of_ble_eq_true rfl) (Nat.le_of_ble_eq_true rfl) (Nat.le_of_ble_eq_true rfl) ?_
  rintro x3 _ ⟨rfl, h4⟩
  refine vc_aload_n dX1_setOutAsTold_18 rfl ?_
  refine vc_getR dX1_setOutAsTold_19 flX1_9 (s_32 hB0.1.1) rfl (r_32_0 hB0.1.1) ?_
  refine vc_iload_n dX1_setOutAsTold_22 rfl ?_
  refine vc_iconst dX1_setOutAsTold_23 rfl ?_
  refine vc_cVI dX1_setOutAsTold_24 (sfX6_tellingCellF (M := M) hB0.1  t 1 ) rfl okX6_tellingCell viX6_tellingCell lkX1_29 (s_1 hB0.1.1) cl_6 rfl (Nat.le_of_ble_eq_true rfl) ⟨rfl, rfl⟩ (Nat.le_of_ble_eq_true rfl) (Nat.le_of_ble_eq_true rfl) (Nat.le_of_ble_eq_true rfl) ?_
  rintro x5 _ ⟨rfl, h6⟩
  refine vc_cVU dX1_setOutAsTold_27 (sfX1_setOutF (M := M) hB0.1  x3 x5 ) rfl okX1_setOut viX1_setOut lkX1_38 (s_32 hB0.1.1) cl_1 rfl (Nat.le_of_ble_eq_true rfl) ⟨rfl, rfl⟩ (Nat.le_of_ble_eq_true rfl) (Nat.le_of_ble_eq_true rfl) (Nat.le_of_ble_eq_true rfl) ?_
  rintro M7 ⟨hB8, h9⟩
  have hB10 : BF fS M M7 := BF.go hB0 hB8
  refine vc_vret dX1_setOutAsTold_30 rfl (Nat.le_of_ble_eq_true rfl) (Nat.le_of_ble_eq_true rfl) ?_
  refine ⟨rfl, hB10, ?_⟩
  rw [h9]
  have z0 : x1 = cS M 6 (9 * t).toNat := by have z : x1 = mI M 6 (9 * t + 0).toNat := (by omega); rw [z, Int.add_zero]; rfl
  have z1 : x3 = cS M 5 (4 * x1).toNat := by have z : x3 = mI M 5 (4 * x1 + 0).toNat := (by omega); rw [z, Int.add_zero]; rfl
  have z2 : x5 = cS M 6 (9 * t + 1).toNat := by have z : x5 = mI M 6 (9 * t + 1).toNat := (by omega); exact z
  rw [z1, z2, z0]

set_option maxRecDepth 4000 in
theorem sfX1_comesToF {l : Launch} {M : Mem} (hB : Box M)  (t : Int) (s : Int) (b : Int) (p0 : 0 ≤ s) (p1 : s ≤ 7) (p2 : wfG (cS M) t) (p3 : 0 ≤ mI M 6 (9 * t).toNat) (p4 : mI M 6 (9 * t).toNat < mI M 1 8) : Call l mdX1_comesTo [aR 32, aI t, aI s, aI b] M (fun q N => ∃ r : Int, q = some (aI r) ∧ BF fS M N ∧ r = leS (cS M) t s b) := by
  have hB0 : BF fS M M := BF.start hB
  refine Call.of [some (aR 32), some (aI t), some (aI s), some (aI b)] rfl (Nat.le_of_ble_eq_true rfl) rfl ?_
  refine vc_ok (fun hoM hoS hoL => ?_)
  have hr1 : -2147483648 ≤ t ∧ t < 2147483648 := hoL 1 _ rfl
  have hr3 : -2147483648 ≤ b ∧ b < 2147483648 := hoL 3 _ rfl
  have p20 := p2.1
  have p23 : t < mI M 1 9 := p2.2.1
  refine vc_aload_n dX1_comesTo_0 rfl ?_
  refine vc_iload_n dX1_comesTo_1 rfl ?_
  refine vc_cVU dX1_comesTo_2 (sfX1_setOutAsToldF (M := M) hB0.1  t (by omega) (by omega) (by omega) (by omega)) rfl okX1_setOutAsTold viX1_setOutAsTold lkX1_42 (s_32 hB0.1.1) cl_1 rfl (Nat.le_of_ble_eq_true rfl) ⟨rfl, rfl⟩ (Nat.le_of_ble_eq_true rfl) (Nat.le_of_ble_eq_true rfl) (Nat.le_of_ble_eq_true rfl) ?_
  rintro M1 ⟨hB2, h3⟩
  have hB4 : BF fS M M1 := BF.go hB0 hB2
  have hgw : gW M1 = (cS M 5 (4 * cS M 6 (9 * t).toNat).toNat, cS M 6 (9 * t + 1).toNat, 0, 0) := h3
  have hcs : cS M1 = cS M := cS_bf hB hB4
  have hwf : wfG (cS M1) t := by rw [hcs]; exact p2
  refine vc_aload_n dX1_comesTo_5 rfl ?_
  refine vc_iload_n dX1_comesTo_6 rfl ?_
  refine vc_iload_n dX1_comesTo_7 rfl ?_
  refine vc_iload_n dX1_comesTo_8 rfl ?_
  refine vc_cVI dX1_comesTo_9 (sfX1_goesAllF (M := M1) hB4.1  t s b (by omega) (by omega) (by exact hwf)) rfl okX1_goesAll viX1_goesAll lkX1_46 (s_32 hB4.1.1) cl_1 rfl (Nat.le_of_ble_eq_true rfl) ⟨rfl, rfl⟩ (Nat.le_of_ble_eq_true rfl) (Nat.le_of_ble_eq_true rfl) (Nat.le_of_ble_eq_true rfl) ?_
  rintro x5 M6 ⟨hB7, h8, h9, h10⟩
  have hB11 : BF fS M M6 := BF.go hB4 hB7
  have hga := h10
  rw [hcs, hgw] at hga
  refine vc_if_eq dX1_comesTo_12 (fun h12 => ?_) (fun h12 => ?_)
  · refine vc_iconst dX1_comesTo_22 rfl ?_
    refine vc_iret dX1_comesTo_23 rfl (Nat.le_of_ble_eq_true rfl) (Nat.le_of_ble_eq_true rfl) ?_
    exact ⟨_, rfl, hB11, by unfold leS; rcases hga with h | h; (exfalso; omega); (rw [h.2]; rfl)⟩
  · refine vc_aload_n dX1_comesTo_15 rfl ?_
    refine vc_getI dX1_comesTo_16 flX1_19 (s_32 hB11.1.1) rfl ?_
    refine vc_goto dX1_comesTo_19 ?_
    refine vc_iret dX1_comesTo_23 rfl (Nat.le_of_ble_eq_true rfl) (Nat.le_of_ble_eq_true rfl) ?_
    exact ⟨_, rfl, hB11, by unfold leS; rcases hga with h | h; (rw [h.2]; rfl); (exfalso; omega)⟩

set_option maxRecDepth 4000 in
theorem sfX9_followsF {l : Launch} {M : Mem} (hB : Box M)  (t : Int) (p0 : wfA (cS M)) (p1 : wfL (cS M)) : Call l mdX9_follows [aR 34, aI t] M (fun q N => ∃ r : Int, q = some (aI r) ∧ BF fC M N ∧ FollowS t (cS M) (cS N) r) := by
  have hB0 : BF fC M M := BF.start hB
  refine Call.of [some (aR 34), some (aI t), none, none, none] rfl (Nat.le_of_ble_eq_true rfl) rfl ?_
  refine vc_ok (fun hoM hoS hoL => ?_)
  have hr1 : -2147483648 ≤ t ∧ t < 2147483648 := hoL 1 _ rfl
  have e160 : cS M 16 0 = mI M 16 0 := rfl
  have e19 : cS M 1 9 = mI M 1 9 := rfl
  refine vc_aload_n dX9_follows_0 rfl ?_
  refine vc_cVI dX9_follows_1 (sfX9_isThereF (M := M) hB0.1   ) rfl okX9_isThere viX9_isThere lkX9_64 (s_34 hB0.1.1) cl_9 rfl (Nat.le_of_ble_eq_true rfl) ⟨rfl, rfl⟩ (Nat.le_of_ble_eq_true rfl) (Nat.le_of_ble_eq_true rfl) (Nat.le_of_ble_eq_true rfl) ?_
  rintro x1 _ ⟨rfl, h2, h3, h4⟩
  refine vc_if_eq dX9_follows_4 (fun h5 => ?_) (fun h5 => ?_)
  · refine vc_iconst dX9_follows_18 rfl ?_
    refine vc_iret dX9_follows_19 rfl (Nat.le_of_ble_eq_true rfl) (Nat.le_of_ble_eq_true rfl) ?_
    exact ⟨_, rfl, hB0, Or.inr ⟨by omega, rfl, rfl⟩⟩
  · refine vc_aload_n dX9_follows_7 rfl ?_
    refine vc_getR dX9_follows_8 flX9_9 (s_34 hB0.1.1) rfl (r_34_0 hB0.1.1) ?_
    refine vc_iload_n dX9_follows_11 rfl ?_
    refine vc_cVI dX9_follows_12 (sfX6_hasTellingF (M := M) hB0.1  t ) rfl okX6_hasTelling viX6_hasTelling lkX9_90 (s_1 hB0.1.1) cl_6 rfl (Nat.le_of_ble_eq_true rfl) ⟨rfl, rfl⟩ (Nat.le_of_ble_eq_true rfl) (Nat.le_of_ble_eq_true rfl) (Nat.le_of_ble_eq_true rfl) ?_
    rintro x6 _ ⟨rfl, h7, h8, h9, h10⟩
    refine vc_if_ne dX9_follows_15 (fun h11 => ?_) (fun h11 => ?_)
    · refine vc_aload_n dX9_follows_20 rfl ?_
      refine vc_getR dX9_follows_21 flX9_15 (s_34 hB0.1.1) rfl (r_34_1 hB0.1.1) ?_
      refine vc_cVU dX9_follows_24 (sfX8_keepStepF (M := M) hB0.1   ) rfl okX8_keepStep viX8_keepStep lkX9_42 (s_15 hB0.1.1) cl_8 rfl (Nat.le_of_ble_eq_true rfl) ⟨rfl, rfl⟩ (Nat.le_of_ble_eq_true rfl) (Nat.le_of_ble_eq_true rfl) (Nat.le_of_ble_eq_true rfl) ?_
      rintro M12 ⟨hB13, kp14, h15⟩
      have hB16 : BF fC M M12 := BF.go hB0 hB13
      have hc17 : cS M12 = fKp (cS M) := h15
      refine vc_aload_n dX9_follows_27 rfl ?_
      refine vc_getR dX9_follows_28 flX9_23 (s_34 hB16.1.1) rfl (r_34_3 hB16.1.1) ?_
      refine vc_aload_n dX9_follows_31 rfl ?_
      refine vc_getR dX9_follows_32 flX9_15 (s_34 hB16.1.1) rfl (r_34_1 hB16.1.1) ?_
      refine vc_getR dX9_follows_35 flX9_27 (s_15 hB16.1.1) rfl (r_15_0 hB16.1.1) ?_
      refine vc_iconst dX9_follows_38 rfl ?_
      refine vc_iaload dX9_follows_39 (s_16 hB16.1.1) (by omega) (by omega) ?_
      refine vc_topI (mI M12 16 0) rfl ?_
      refine vc_ok (fun _ hoSz19 _ => ?_)
      have k18 : -2147483648 ≤ mI M12 16 0 ∧ mI M12 16 0 < 2147483648 := hoSz19 (aI (mI M12 16 0)) (List.mem_cons_self ..)
      refine vc_aload_n dX9_follows_40 rfl ?_
      refine vc_getR dX9_follows_41 flX9_15 (s_34 hB16.1.1) rfl (r_34_1 hB16.1.1) ?_
      refine vc_getR dX9_follows_44 flX9_27 (s_15 hB16.1.1) rfl (r_15_0 hB16.1.1) ?_
      refine vc_iconst dX9_follows_47 rfl ?_
      refine vc_iaload dX9_follows_48 (s_16 hB16.1.1) (by omega) (by omega) ?_
      refine vc_topI (mI M12 16 1) rfl ?_
      refine vc_ok (fun _ hoSz21 _ => ?_)
      have k20 : -2147483648 ≤ mI M12 16 1 ∧ mI M12 16 1 < 2147483648 := hoSz21 (aI (mI M12 16 1)) (List.mem_cons_self ..)
      refine vc_cVU dX9_follows_49 (sfX1_setOutF (M := M12) hB16.1  (mI M12 16 0) (mI M12 16 1) ) rfl okX1_setOut viX1_setOut lkX9_93 (s_32 hB16.1.1) cl_1 rfl (Nat.le_of_ble_eq_true rfl) ⟨rfl, rfl⟩ (Nat.le_of_ble_eq_true rfl) (Nat.le_of_ble_eq_true rfl) (Nat.le_of_ble_eq_true rfl) ?_
      rintro M22 ⟨hB23, h24⟩
      have hB25 : BF fC M M22 := BF.go hB16 hB23.sq.c
      have hc26 : cS M22 = fKp (cS M) := (cS_bf hB16.1 hB23).trans hc17
      have hgw : gW M22 = (fKp (cS M) 16 0, fKp (cS M) 16 1, 0, 0) := by rw [h24, ← hc17]; rfl
      have hwf : wfG (cS M22) t := by rw [hc26]; exact wfA_kp p0 t (by omega) (by rw [fKp_o (by decide) (by decide)]; show t < mI M 1 9; omega)
      refine vc_aload_n dX9_follows_52 rfl ?_
      refine vc_getR dX9_follows_53 flX9_23 (s_34 hB25.1.1) rfl (r_34_3 hB25.1.1) ?_
      refine vc_iload_n dX9_follows_56 rfl ?_
      refine vc_iconst dX9_follows_57 rfl ?_
      refine vc_iconst dX9_follows_58 rfl ?_
      refine vc_cVI dX9_follows_59 (sfX1_goesAllF (M := M22) hB25.1  t 0 (-1) (by omega) (by omega) (by exact hwf)) rfl okX1_goesAll viX1_goesAll lkX9_97 (s_32 hB25.1.1) cl_1 rfl (Nat.le_of_ble_eq_true rfl) ⟨rfl, rfl⟩ (Nat.le_of_ble_eq_true rfl) (Nat.le_of_ble_eq_true rfl) (Nat.le_of_ble_eq_true rfl) ?_
      rintro x27 M28 ⟨hB29, h30, h31, h32⟩
      have hB33 : BF fC M M28 := BF.go hB25 hB29.sq.c
      have hc34 : cS M28 = fKp (cS M) := (cS_bf hB25.1 hB29).trans hc26
      have hga := h32
      rw [hc26, hgw] at hga
      refine vc_istore_n dX9_follows_62 (by decide) rfl (show _ = [some (aR 34), some (aI t), some (aI x27), none, none] from rfl) ?_
      refine vc_aload_n dX9_follows_63 rfl ?_
      refine vc_getR dX9_follows_64 flX9_15 (s_34 hB33.1.1) rfl (r_34_1 hB33.1.1) ?_
      refine vc_getR dX9_follows_67 flX9_27 (s_15 hB33.1.1) rfl (r_15_0 hB33.1.1) ?_
      refine vc_iconst dX9_follows_70 rfl ?_
      refine vc_iaload dX9_follows_71 (s_16 hB33.1.1) (by omega) (by omega) ?_
      refine vc_topI (mI M28 16 2) rfl ?_
      refine vc_ok (fun _ hoSz36 _ => ?_)
      have k35 : -2147483648 ≤ mI M28 16 2 ∧ mI M28 16 2 < 2147483648 := hoSz36 (aI (mI M28 16 2)) (List.mem_cons_self ..)
      have hs0 : mI M28 16 2 = wI (fKp (cS M) 16 2) := by have z : mI M28 16 2 = fKp (cS M) 16 2 := congrFun (congrFun hc34 16) 2; rw [← z]; refine (wI_id ?_ ?_).symm <;> omega
      refine vc_nameI (fun x37 ex37 => ?_)
      refine vc_istore_n dX9_follows_72 (by decide) rfl (show _ = [some (aR 34), some (aI t), some (aI x27), some (aI x37), none] from rfl) ?_
      refine vc_iconst dX9_follows_73 rfl ?_
      refine vc_istore dX9_follows_74 (by decide) rfl (show _ = [some (aR 34), some (aI t), some (aI x27), some (aI x37), some (aI 0)] from rfl) ?_
      have lp76 : ∀ (n76 : Nat) (Mq76 : Mem) (v3 : Int) (v4 : Int), (BF fC M Mq76) → (0 ≤ v4) → (v4 ≤ 40) → (gW Mq76 = gW M28) → (cS Mq76 = fKp (cS M)) → (v4 ≤ mI Mq76 32 4) → (v3 = wI (fKp (cS M) 16 2 + smP (cS Mq76) (mI Mq76 33) v4.toNat)) → (40 - v4).toNat < n76 → VC l mdX9_follows 76 [some (aR 34), none, some (aI x27), some (aI v3), some (aI v4)] [] Mq76 0 0 (fun q N => ∃ r : Int, q = some (aI r) ∧ BF fC M N ∧ FollowS t (cS M) (cS N) r) := by
        intro n76
        induction n76 with
        | zero => intro Mq76 v3 v4 hQ76 g76_4a g76_4b g76i0 g76i1 g76i2 g76i3 hm76; exact absurd hm76 (Nat.not_lt_zero _)
        | succ n76 ih76 =>
          intro Mq76 v3 v4 hQ76 g76_4a g76_4b g76i0 g76i1 g76i2 g76i3 hm76
          refine vc_iload dX9_follows_76 rfl ?_
          refine vc_aload_n dX9_follows_78 rfl ?_
          refine vc_getR dX9_follows_79 flX9_23 (s_34 hQ76.1.1) rfl (r_34_3 hQ76.1.1) ?_
          refine vc_getI dX9_follows_82 flX9_101 (s_32 hQ76.1.1) rfl ?_
          have k38 : 0 ≤ mI Mq76 32 4 ∧ mI Mq76 32 4 ≤ 40 := b32_4 (M := Mq76) hQ76.1
          refine vc_icmp_ge dX9_follows_85 (fun h39 => ?_) (fun h39 => ?_)
          · refine vc_aload_n dX9_follows_135 rfl ?_
            refine vc_aload_n dX9_follows_136 rfl ?_
            refine vc_getR dX9_follows_137 flX9_23 (s_34 hQ76.1.1) rfl (r_34_3 hQ76.1.1) ?_
            refine vc_getI dX9_follows_140 flX9_108 (s_32 hQ76.1.1) rfl ?_
            refine vc_aload_n dX9_follows_143 rfl ?_
            refine vc_getR dX9_follows_144 flX9_23 (s_34 hQ76.1.1) rfl (r_34_3 hQ76.1.1) ?_
            refine vc_getI dX9_follows_147 flX9_111 (s_32 hQ76.1.1) rfl ?_
            refine vc_iload_n dX9_follows_150 rfl ?_
            have hv3 : v3 = wI (fKp (cS M) 16 2 + (gW Mq76).2.2.2) := by rw [g76i3, show v4.toNat = (mI Mq76 32 4).toNat by have := b32_4 hQ76.1; omega]; rfl
            refine vc_cVU dX9_follows_151 (sfX9_placeF (M := Mq76) hQ76.1  (mI Mq76 32 2) (mI Mq76 32 3) v3 ) rfl okX9_place viX9_place lkX9_45 (s_34 hQ76.1.1) cl_9 rfl (Nat.le_of_ble_eq_true rfl) ⟨rfl, rfl⟩ (Nat.le_of_ble_eq_true rfl) (Nat.le_of_ble_eq_true rfl) (Nat.le_of_ble_eq_true rfl) ?_
            rintro M40 ⟨hB41, h42⟩
            have hB43 : BF fC M M40 := BF.go hQ76 hB41
            have hc44 : cS M40 = sc v3 (fPl (mI Mq76 32 2) (mI Mq76 32 3) (fKp (cS M))) := by rw [h42, g76i1]
            refine vc_iload_n dX9_follows_154 rfl ?_
            refine vc_if_eq dX9_follows_155 (fun h45 => ?_) (fun h45 => ?_)
            · refine vc_iconst dX9_follows_162 rfl ?_
              refine vc_iret dX9_follows_163 rfl (Nat.le_of_ble_eq_true rfl) (Nat.le_of_ble_eq_true rfl) ?_
              refine ⟨_, rfl, hB43, Or.inl ⟨by omega, ?_, ?_⟩⟩
              · rw [hc44]; rcases hga with h | h; (exfalso; omega); (rw [h.2, ← g76i0]; show sc v3 _ = sc (wI (fKp (cS M) 16 2 + (gW Mq76).2.2.2)) _; rw [← hv3]; rfl)
              · rcases hga with h | h; (exfalso; omega); (rw [h.2]; rfl)
            · refine vc_iconst dX9_follows_158 rfl ?_
              refine vc_goto dX9_follows_159 ?_
              refine vc_iret dX9_follows_163 rfl (Nat.le_of_ble_eq_true rfl) (Nat.le_of_ble_eq_true rfl) ?_
              refine ⟨_, rfl, hB43, Or.inl ⟨by omega, ?_, ?_⟩⟩
              · rw [hc44]; rcases hga with h | h; (rw [h.2, ← g76i0]; show sc v3 _ = sc (wI (fKp (cS M) 16 2 + (gW Mq76).2.2.2)) _; rw [← hv3]; rfl); (exfalso; omega)
              · rcases hga with h | h; (rw [h.2]; rfl); (exfalso; omega)
          · refine vc_iload dX9_follows_88 rfl ?_
            refine vc_bipush dX9_follows_90 rfl ?_
            refine vc_icmp_ge dX9_follows_92 (fun h46 => by exfalso; omega) (fun h46 => ?_)
            refine vc_iload_n dX9_follows_95 rfl ?_
            refine vc_aload_n dX9_follows_96 rfl ?_
            refine vc_getR dX9_follows_97 flX9_19 (s_34 hQ76.1.1) rfl (r_34_2 hQ76.1.1) ?_
            refine vc_aload_n dX9_follows_100 rfl ?_
            refine vc_getR dX9_follows_101 flX9_23 (s_34 hQ76.1.1) rfl (r_34_3 hQ76.1.1) ?_
            refine vc_getR dX9_follows_104 flX9_105 (s_32 hQ76.1.1) rfl (r_32_1 hQ76.1.1) ?_
            refine vc_iload dX9_follows_107 rfl ?_
            refine vc_iaload dX9_follows_109 (s_33 hQ76.1.1) (by omega) (by omega) ?_
            refine vc_ok (fun _ hoSz48 _ => ?_)
            have k47 : -2147483648 ≤ mI Mq76 33 v4.toNat ∧ mI Mq76 33 v4.toNat < 2147483648 := hoSz48 (aI (mI Mq76 33 v4.toNat)) (List.mem_cons_self ..)
            refine vc_iconst dX9_follows_110 rfl ?_
            refine vc_ishrC dX9_follows_111 4 2 rfl (by decide) rfl ?_
            refine vc_aload_n dX9_follows_112 rfl ?_
            refine vc_getR dX9_follows_113 flX9_23 (s_34 hQ76.1.1) rfl (r_34_3 hQ76.1.1) ?_
            refine vc_getR dX9_follows_116 flX9_105 (s_32 hQ76.1.1) rfl (r_32_1 hQ76.1.1) ?_
            refine vc_iload dX9_follows_119 rfl ?_
            refine vc_iaload dX9_follows_121 (s_33 hQ76.1.1) (by omega) (by omega) ?_
            refine vc_ok (fun _ hoSz50 _ => ?_)
            have k49 : -2147483648 ≤ mI Mq76 33 v4.toNat ∧ mI Mq76 33 v4.toNat < 2147483648 := hoSz50 (aI (mI Mq76 33 v4.toNat)) (List.mem_cons_self ..)
            refine vc_iconst dX9_follows_122 rfl ?_
            refine vc_iandM dX9_follows_123 4 2 rfl (by decide) rfl ?_
            have hwq : wfL (cS Mq76) := by rw [g76i1]; exact p1.lk Lk.kp
            refine vc_cVI dX9_follows_124 (sfX2_paceF (M := Mq76) hQ76.1  ((mI Mq76 33 v4.toNat) / 4) ((mI Mq76 33 v4.toNat) % 4) (by exact hwq)) rfl okX2_pace viX2_pace lkX9_59 (s_29 hQ76.1.1) cl_2 rfl (Nat.le_of_ble_eq_true rfl) ⟨rfl, rfl⟩ (Nat.le_of_ble_eq_true rfl) (Nat.le_of_ble_eq_true rfl) (Nat.le_of_ble_eq_true rfl) ?_
            rintro x51 M52 ⟨hB53, kp54, kp55, h56⟩
            have hB57 : BF fC M M52 := BF.go hQ76 hB53.sq.c
            have hk4 : mI M52 32 4 = mI Mq76 32 4 := congrFun kp54 4
            have hck : cS M52 = cS Mq76 := cS_bf hQ76.1 hB53
            have hgk : gW M52 = gW Mq76 := by unfold gW; rw [hck, kp54, kp55]
            have hx3 : wI (v3 + x51) = wI (fKp (cS M) 16 2 + smP (cS M52) (mI M52 33) (v4 + 1).toNat) := by
              rw [hck, kp55, show (v4 + 1).toNat = v4.toNat + 1 by omega]
              show _ = wI (fKp (cS M) 16 2 + wI (smP (cS Mq76) (mI Mq76 33) v4.toNat + paS (cS Mq76) (mI Mq76 33 v4.toNat / 4) (mI Mq76 33 v4.toNat % 4)))
              rw [← h56, g76i3, wI_wI, wI_r, Int.add_assoc]
            refine vc_iadd dX9_follows_127 ?_
            refine vc_nameI (fun x58 ex58 => ?_)
            refine vc_istore_n dX9_follows_128 (by decide) rfl (show _ = [some (aR 34), none, some (aI x27), some (aI x58), some (aI v4)] from rfl) ?_
            refine vc_iincE dX9_follows_129 rfl (by omega) (by omega) (by decide) rfl (show _ = [some (aR 34), none, some (aI x27), some (aI x58), some (aI (v4 + 1))] from rfl) ?_
            refine vc_goto dX9_follows_132 ?_
            exact ih76 M52 x58 (v4 + 1) hB57 (by omega) (by omega) (by first | rfl | exact hgk.trans g76i0) (by first | exact hc34 | exact hck.trans g76i1) (by first | exact (b32_4 (M := M28) hB33.1).1 | (rw [hk4]; omega)) (by first | exact hx3 | exact Eq.trans (by assumption) hx3 | (show _ = wI (fKp (cS M) 16 2 + 0); rw [Int.add_zero]; first | exact hs0 | exact Eq.trans (by assumption) hs0)) (by omega)
      refine vc_less [some (aR 34), none, some (aI x27), some (aI x37), some (aI 0)] (lessL_keep (lessL_drop (lessL_keep (lessL_keep (lessL_keep (lessL_nil)))))) ?_
      exact lp76 _ M28 x37 0 hB33 (by omega) (by omega) (by first | rfl | exact hgk.trans g76i0) (by first | exact hc34 | exact hck.trans g76i1) (by first | exact (b32_4 (M := M28) hB33.1).1 | (rw [hk4]; omega)) (by first | exact hx3 | exact Eq.trans (by assumption) hx3 | (show _ = wI (fKp (cS M) 16 2 + 0); rw [Int.add_zero]; first | exact hs0 | exact Eq.trans (by assumption) hs0)) (Nat.lt_succ_self _)
    · refine vc_iconst dX9_follows_18 rfl ?_
      refine vc_iret dX9_follows_19 rfl (Nat.le_of_ble_eq_true rfl) (Nat.le_of_ble_eq_true rfl) ?_
      exact ⟨_, rfl, hB0, Or.inr ⟨by omega, rfl, rfl⟩⟩

