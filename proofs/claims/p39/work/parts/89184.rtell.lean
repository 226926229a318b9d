/-! THE DEEDS of the reference: tellings (written by wip/laws2/c10b.py) -/
/-- one number of turns is taken -/
def TkR (M N : Mem) (v r : Int) : Prop := (r = 1 ∧ ((v = 0 ∧ mI N 54 4 = mI M 54 4) ∨ ((0 < v ∧ v < 1000000000 ∧ ∀ i : Nat, i < cnT v → isTu (tq i v)) ∧ mI N 54 4 = mI M 54 4 + cnT v ∧ ∀ i : Nat, i < cnT v → mI N 58 ((mI M 54 4).toNat + i) = tq (cnT v - 1 - i) v)) ∧ ∀ j : Nat, j < (mI M 54 4).toNat → mI N 58 j = mI M 58 j) ∨ (r = 0 ∧ ¬ (v = 0 ∨ (0 < v ∧ v < 1000000000 ∧ ∀ i : Nat, i < cnT v → isTu (tq i v))))
set_option maxRecDepth 4000 in
theorem sfX12_isTurnF {l : Launch} {M : Mem} (hB : Box M)  (v : Int) (p0 : 0 ≤ v) (p1 : v ≤ 999) : Call l mdX12_isTurn [aI v] M (fun q N => ∃ r : Int, q = some (aI r) ∧ M = N ∧ 0 ≤ r ∧ r ≤ 1 ∧ ((r = 1 ∧ isTu v) ∨ (r = 0 ∧ ¬ isTu v))) := by
  have hB0 : BF fQ M M := BF.start hB
  refine Call.of [some (aI v)] rfl (Nat.le_of_ble_eq_true rfl) rfl ?_
  refine vc_iload_n dX12_isTurn_0 rfl ?_
  refine vc_bipush dX12_isTurn_1 rfl ?_
  refine vc_idivE dX12_isTurn_3 (by omega) (by omega) ?_
  refine vc_iconst dX12_isTurn_4 rfl ?_
  refine vc_iconst dX12_isTurn_5 rfl ?_
  refine vc_cSI dX12_isTurn_6 (sfX12_isInF (M := M) hB0.1  (v / 100) 1 3 ) rfl okX12_isIn stX12_isIn lkX12_83 rfl (Nat.le_of_ble_eq_true rfl) ⟨rfl, rfl⟩ (Nat.le_of_ble_eq_true rfl) (Nat.le_of_ble_eq_true rfl) (Nat.le_of_ble_eq_true rfl) ?_
  rintro x1 _ ⟨rfl, h2, h3, h4⟩
  refine vc_if_eq dX12_isTurn_9 (fun h5 => ?_) (fun h5 => ?_)
  · refine vc_iconst dX12_isTurn_64 rfl ?_
    refine vc_zret dX12_isTurn_65 rfl (by first | decide | omega) (Nat.le_of_ble_eq_true rfl) (Nat.le_of_ble_eq_true rfl) ?_
    exact ⟨_, rfl, rfl, by omega, by omega, by unfold isTu; omega⟩
  · refine vc_iload_n dX12_isTurn_12 rfl ?_
    refine vc_bipush dX12_isTurn_13 rfl ?_
    refine vc_idivE dX12_isTurn_15 (by omega) (by omega) ?_
    refine vc_bipush dX12_isTurn_16 rfl ?_
    refine vc_iremE dX12_isTurn_18 (by omega) (by omega) ?_
    refine vc_if_ne dX12_isTurn_19 (fun h6 => ?_) (fun h6 => ?_)
    · refine vc_iload_n dX12_isTurn_37 rfl ?_
      refine vc_bipush dX12_isTurn_38 rfl ?_
      refine vc_idivE dX12_isTurn_40 (by omega) (by omega) ?_
      refine vc_bipush dX12_isTurn_41 rfl ?_
      refine vc_iremE dX12_isTurn_43 (by omega) (by omega) ?_
      refine vc_iconst dX12_isTurn_44 rfl ?_
      refine vc_icmp_ne dX12_isTurn_45 (fun h7 => ?_) (fun h7 => ?_)
      · refine vc_iconst dX12_isTurn_64 rfl ?_
        refine vc_zret dX12_isTurn_65 rfl (by first | decide | omega) (Nat.le_of_ble_eq_true rfl) (Nat.le_of_ble_eq_true rfl) ?_
        exact ⟨_, rfl, rfl, by omega, by omega, by unfold isTu; omega⟩
      · refine vc_iload_n dX12_isTurn_48 rfl ?_
        refine vc_bipush dX12_isTurn_49 rfl ?_
        refine vc_iremE dX12_isTurn_51 (by omega) (by omega) ?_
        refine vc_iconst dX12_isTurn_52 rfl ?_
        refine vc_iconst dX12_isTurn_53 rfl ?_
        refine vc_cSI dX12_isTurn_54 (sfX12_isInF (M := M) hB0.1  (v % 10) 1 5 ) rfl okX12_isIn stX12_isIn lkX12_83 rfl (Nat.le_of_ble_eq_true rfl) ⟨rfl, rfl⟩ (Nat.le_of_ble_eq_true rfl) (Nat.le_of_ble_eq_true rfl) (Nat.le_of_ble_eq_true rfl) ?_
        rintro x8 _ ⟨rfl, h9, h10, h11⟩
        refine vc_if_eq dX12_isTurn_57 (fun h12 => ?_) (fun h12 => ?_)
        · refine vc_iconst dX12_isTurn_64 rfl ?_
          refine vc_zret dX12_isTurn_65 rfl (by first | decide | omega) (Nat.le_of_ble_eq_true rfl) (Nat.le_of_ble_eq_true rfl) ?_
          exact ⟨_, rfl, rfl, by omega, by omega, by unfold isTu; omega⟩
        · refine vc_iconst dX12_isTurn_60 rfl ?_
          refine vc_goto dX12_isTurn_61 ?_
          refine vc_zret dX12_isTurn_65 rfl (by first | decide | omega) (Nat.le_of_ble_eq_true rfl) (Nat.le_of_ble_eq_true rfl) ?_
          exact ⟨_, rfl, rfl, by omega, by omega, by unfold isTu; omega⟩
    · refine vc_iload_n dX12_isTurn_22 rfl ?_
      refine vc_bipush dX12_isTurn_23 rfl ?_
      refine vc_iremE dX12_isTurn_25 (by omega) (by omega) ?_
      refine vc_iconst dX12_isTurn_26 rfl ?_
      refine vc_iconst dX12_isTurn_27 rfl ?_
      refine vc_cSI dX12_isTurn_28 (sfX12_isInF (M := M) hB0.1  (v % 10) 1 4 ) rfl okX12_isIn stX12_isIn lkX12_83 rfl (Nat.le_of_ble_eq_true rfl) ⟨rfl, rfl⟩ (Nat.le_of_ble_eq_true rfl) (Nat.le_of_ble_eq_true rfl) (Nat.le_of_ble_eq_true rfl) ?_
      rintro x13 _ ⟨rfl, h14, h15, h16⟩
      refine vc_if_eq dX12_isTurn_31 (fun h17 => ?_) (fun h17 => ?_)
      · refine vc_iconst dX12_isTurn_64 rfl ?_
        refine vc_zret dX12_isTurn_65 rfl (by first | decide | omega) (Nat.le_of_ble_eq_true rfl) (Nat.le_of_ble_eq_true rfl) ?_
        exact ⟨_, rfl, rfl, by omega, by omega, by unfold isTu; omega⟩
      · refine vc_goto dX12_isTurn_34 ?_
        refine vc_iconst dX12_isTurn_60 rfl ?_
        refine vc_goto dX12_isTurn_61 ?_
        refine vc_zret dX12_isTurn_65 rfl (by first | decide | omega) (Nat.le_of_ble_eq_true rfl) (Nat.le_of_ble_eq_true rfl) ?_
        exact ⟨_, rfl, rfl, by omega, by omega, by unfold isTu; omega⟩

set_option maxRecDepth 4000 in
theorem sfX12_takeF {l : Launch} {M : Mem} (hB : Box M)  (v : Int) (p0 : mI M 54 4 ≤ 3) : Call l mdX12_take [aR 54, aI v] M (fun q N => ∃ r : Int, q = some (aI r) ∧ BF fQ M N ∧ mI N 55 = mI M 55 ∧ 0 ≤ r ∧ r ≤ 1 ∧ mI N 54 4 ≤ mI M 54 4 + 3 ∧ mI M 54 4 ≤ mI N 54 4 ∧ TkR M N v r) := by
  have hB0 : BF fQ M M := BF.start hB
  refine Call.of [some (aR 54), some (aI v), none, none, none] rfl (Nat.le_of_ble_eq_true rfl) rfl ?_
  refine vc_ok (fun hoM hoS hoL => ?_)
  have hr1 : -2147483648 ≤ v ∧ v < 2147483648 := hoL 1 _ rfl
  refine vc_iload_n dX12_take_0 rfl ?_
  refine vc_iconst dX12_take_1 rfl ?_
  refine vc_ldc dX12_take_2 rfl kcX12_95 ?_
  refine vc_cSI dX12_take_4 (sfX12_isInF (M := M) hB0.1  v 0 999999999 ) rfl okX12_isIn stX12_isIn lkX12_83 rfl (Nat.le_of_ble_eq_true rfl) ⟨rfl, rfl⟩ (Nat.le_of_ble_eq_true rfl) (Nat.le_of_ble_eq_true rfl) (Nat.le_of_ble_eq_true rfl) ?_
  rintro x1 _ ⟨rfl, h2, h3, h4⟩
  refine vc_if_ne dX12_take_7 (fun h5 => ?_) (fun h5 => ?_)
  · refine vc_iload_n dX12_take_12 rfl ?_
    refine vc_ldc dX12_take_13 rfl kcX12_96 ?_
    refine vc_icmp_le dX12_take_15 (fun h6 => ?_) (fun h6 => ?_)
    · refine vc_iload_n dX12_take_22 rfl ?_
      refine vc_sipush dX12_take_23 rfl ?_
      refine vc_icmp_le dX12_take_26 (fun h7 => ?_) (fun h7 => ?_)
      · refine vc_iload_n dX12_take_33 rfl ?_
        refine vc_if_le dX12_take_34 (fun h8 => ?_) (fun h8 => ?_)
        · refine vc_iconst dX12_take_41 rfl ?_
          refine vc_istore_n dX12_take_42 (by decide) rfl (show _ = [some (aR 54), some (aI v), some (aI 0), none, none] from rfl) ?_
          refine vc_iload_n dX12_take_43 rfl ?_
          refine vc_istore_n dX12_take_44 (by decide) rfl (show _ = [some (aR 54), some (aI v), some (aI 0), some (aI v), none] from rfl) ?_
          refine vc_iload_n dX12_take_45 rfl ?_
          refine vc_iconst dX12_take_46 rfl ?_
          refine vc_isubE dX12_take_47 (by omega) (by omega) ?_
          refine vc_topI (-1) rfl ?_
          refine vc_istore dX12_take_48 (by decide) rfl (show _ = [some (aR 54), some (aI v), some (aI 0), some (aI v), some (aI (-1))] from rfl) ?_
          refine vc_iload dX12_take_50 rfl ?_
          refine vc_if_lt dX12_take_52 (fun h9 => ?_) (fun h9 => by exfalso; omega)
          refine vc_iconst dX12_take_84 rfl ?_
          refine vc_istore dX12_take_85 (by decide) rfl (show _ = [some (aR 54), some (aI v), some (aI 0), some (aI v), some (aI 0)] from rfl) ?_
          refine vc_iload dX12_take_87 rfl ?_
          refine vc_iload_n dX12_take_89 rfl ?_
          refine vc_icmp_ge dX12_take_90 (fun h10 => ?_) (fun h10 => by exfalso; omega)
          refine vc_aload_n dX12_take_119 rfl ?_
          refine vc_dup dX12_take_120 rfl ?_
          refine vc_getI dX12_take_121 flX12_97 (s_54 hB0.1.1) rfl ?_
          have k11 : 0 ≤ mI M 54 4 ∧ mI M 54 4 ≤ 6 := b54_4 (M := M) hB0.1
          refine vc_iload_n dX12_take_124 rfl ?_
          refine vc_iaddE dX12_take_125 (by omega) (by omega) ?_
          refine vc_putI dX12_take_126 (plX12_97 _ rfl) (s_54 hB0.1.1) rfl ?_
          have kp12 : mI (sI M 54 4 ((mI M 54 4) + 0)) 55 = mI M 55 := (kp_sI rfl rfl)
          have hB13 : BF fQ M (sI M 54 4 ((mI M 54 4) + 0)) := BF.w54_4 hB0 rfl (by omega) (by omega)
          refine vc_iconst dX12_take_129 rfl ?_
          refine vc_zret dX12_take_130 rfl (by first | decide | omega) (Nat.le_of_ble_eq_true rfl) (Nat.le_of_ble_eq_true rfl) ?_
          have k14 : mI (sI M 54 4 ((mI M 54 4) + 0)) 54 4 = (mI M 54 4) + 0 := rfl
          exact ⟨_, rfl, hB13, kp12, by omega, by omega, by omega, by omega, Or.inl ⟨rfl, Or.inl ⟨by omega, by omega⟩, fun j hj => rfl⟩⟩
        · refine vc_iconst dX12_take_37 rfl ?_
          refine vc_goto dX12_take_38 ?_
          refine vc_istore_n dX12_take_42 (by decide) rfl (show _ = [some (aR 54), some (aI v), some (aI 1), none, none] from rfl) ?_
          refine vc_iload_n dX12_take_43 rfl ?_
          refine vc_istore_n dX12_take_44 (by decide) rfl (show _ = [some (aR 54), some (aI v), some (aI 1), some (aI v), none] from rfl) ?_
          refine vc_iload_n dX12_take_45 rfl ?_
          refine vc_iconst dX12_take_46 rfl ?_
          refine vc_isubE dX12_take_47 (by omega) (by omega) ?_
          refine vc_topI 0 rfl ?_
          refine vc_istore dX12_take_48 (by decide) rfl (show _ = [some (aR 54), some (aI v), some (aI 1), some (aI v), some (aI 0)] from rfl) ?_
          refine vc_iload dX12_take_50 rfl ?_
          refine vc_if_lt dX12_take_52 (fun h15 => by exfalso; omega) (fun h15 => ?_)
          refine vc_aload_n dX12_take_55 rfl ?_
          refine vc_getR dX12_take_56 flX12_19 (s_54 hB0.1.1) rfl (r_54_3 hB0.1.1) ?_
          refine vc_aload_n dX12_take_59 rfl ?_
          refine vc_getI dX12_take_60 flX12_97 (s_54 hB0.1.1) rfl ?_
          have k16 : 0 ≤ mI M 54 4 ∧ mI M 54 4 ≤ 6 := b54_4 (M := M) hB0.1
          refine vc_iload dX12_take_63 rfl ?_
          refine vc_iaddE dX12_take_65 (by omega) (by omega) ?_
          refine vc_iload_n dX12_take_66 rfl ?_
          refine vc_sipush dX12_take_67 rfl ?_
          refine vc_iremE dX12_take_70 (by omega) (by omega) ?_
          refine vc_iastore dX12_take_71 (s_58 hB0.1.1) (by omega) (by omega) ?_
          have kp17 : mI (sI M 58 (((mI M 54 4) + 0).toNat) (v % 1000)) 55 = mI M 55 := (kp_sI rfl rfl)
          have hB18 : BF fQ M (sI M 58 (((mI M 54 4) + 0).toNat) (v % 1000)) := BF.w58 hB0 (fun _ => rfl) _
          refine vc_iload_n dX12_take_72 rfl ?_
          refine vc_sipush dX12_take_73 rfl ?_
          refine vc_idivE dX12_take_76 (by omega) (by omega) ?_
          refine vc_nameI (fun x19 ex19 => ?_)
          refine vc_istore_n dX12_take_77 (by decide) rfl (show _ = [some (aR 54), some (aI v), some (aI 1), some (aI x19), some (aI 0)] from rfl) ?_
          refine vc_iincE dX12_take_78 rfl (by omega) (by omega) (by decide) rfl (show _ = [some (aR 54), some (aI v), some (aI 1), some (aI x19), some (aI (-1))] from rfl) ?_
          refine vc_goto dX12_take_81 ?_
          refine vc_iload dX12_take_50 rfl ?_
          refine vc_if_lt dX12_take_52 (fun h20 => ?_) (fun h20 => by exfalso; omega)
          refine vc_iconst dX12_take_84 rfl ?_
          refine vc_istore dX12_take_85 (by decide) rfl (show _ = [some (aR 54), some (aI v), some (aI 1), some (aI x19), some (aI 0)] from rfl) ?_
          refine vc_iload dX12_take_87 rfl ?_
          refine vc_iload_n dX12_take_89 rfl ?_
          refine vc_icmp_ge dX12_take_90 (fun h21 => by exfalso; omega) (fun h21 => ?_)
          refine vc_aload_n dX12_take_93 rfl ?_
          refine vc_getR dX12_take_94 flX12_19 (s_54 hB18.1.1) rfl (r_54_3 hB18.1.1) ?_
          refine vc_aload_n dX12_take_97 rfl ?_
          refine vc_getI dX12_take_98 flX12_97 (s_54 hB18.1.1) rfl ?_
          refine vc_topI (mI M 54 4) rfl ?_
          have k22 : 0 ≤ mI M 54 4 ∧ mI M 54 4 ≤ 6 := b54_4 (M := (sI M 58 (((mI M 54 4) + 0).toNat) (v % 1000))) hB18.1
          refine vc_iload dX12_take_101 rfl ?_
          refine vc_iaddE dX12_take_103 (by omega) (by omega) ?_
          refine vc_iaload dX12_take_104 (s_58 hB18.1.1) (by omega) (by omega) ?_
          refine vc_topI (v % 1000) mI_same ?_
          have hz23 : v % 1000 = v % 1000 := by first | (rw [mI_sI, if_pos (by omega)]; first | done | (subst_vars; rfl)) | (rw [mI_sI, if_neg (by omega), mI_sI, if_pos (by omega)]; first | done | (subst_vars; rfl)) | (rw [mI_sI, if_neg (by omega), mI_sI, if_neg (by omega), mI_sI, if_pos (by omega)]; first | done | (subst_vars; rfl)) | (subst_vars; rfl) | omega
          have k24 : mI (sI M 58 (((mI M 54 4) + 0).toNat) (v % 1000)) 54 4 = mI M 54 4 := rfl
          refine vc_cSI dX12_take_105 (sfX12_isTurnF (M := (sI M 58 (((mI M 54 4) + 0).toNat) (v % 1000))) hB18.1  (v % 1000) (by omega) (by omega)) rfl okX12_isTurn stX12_isTurn lkX12_100 rfl (Nat.le_of_ble_eq_true rfl) ⟨rfl, rfl⟩ (Nat.le_of_ble_eq_true rfl) (Nat.le_of_ble_eq_true rfl) (Nat.le_of_ble_eq_true rfl) ?_
          rintro x25 _ ⟨rfl, h26, h27, h28⟩
          have hi29 : (x25 = 1 ∧ isTu (tq 0 v)) ∨ (x25 = 0 ∧ ¬ isTu (tq 0 v)) := by have z := h28; rw [hz23] at z; exact z
          refine vc_if_ne dX12_take_108 (fun h30 => ?_) (fun h30 => ?_)
          · refine vc_iincE dX12_take_113 rfl (by omega) (by omega) (by decide) rfl (show _ = [some (aR 54), some (aI v), some (aI 1), some (aI x19), some (aI 1)] from rfl) ?_
            refine vc_goto dX12_take_116 ?_
            refine vc_iload dX12_take_87 rfl ?_
            refine vc_iload_n dX12_take_89 rfl ?_
            refine vc_icmp_ge dX12_take_90 (fun h31 => ?_) (fun h31 => by exfalso; omega)
            refine vc_aload_n dX12_take_119 rfl ?_
            refine vc_dup dX12_take_120 rfl ?_
            refine vc_getI dX12_take_121 flX12_97 (s_54 hB18.1.1) rfl ?_
            refine vc_topI (mI M 54 4) rfl ?_
            refine vc_iload_n dX12_take_124 rfl ?_
            refine vc_iaddE dX12_take_125 (by omega) (by omega) ?_
            refine vc_putI dX12_take_126 (plX12_97 _ rfl) (s_54 hB18.1.1) rfl ?_
            have kp32 : mI (sI (sI M 58 (((mI M 54 4) + 0).toNat) (v % 1000)) 54 4 ((mI M 54 4) + 1)) 55 = mI M 55 := (kp_sI kp17 rfl)
            have hB33 : BF fQ M (sI (sI M 58 (((mI M 54 4) + 0).toNat) (v % 1000)) 54 4 ((mI M 54 4) + 1)) := BF.w54_4 hB18 rfl (by omega) (by omega)
            refine vc_iconst dX12_take_129 rfl ?_
            refine vc_zret dX12_take_130 rfl (by first | decide | omega) (Nat.le_of_ble_eq_true rfl) (Nat.le_of_ble_eq_true rfl) ?_
            have k34 : mI (sI (sI M 58 (((mI M 54 4) + 0).toNat) (v % 1000)) 54 4 ((mI M 54 4) + 1)) 54 4 = (mI M 54 4) + 1 := rfl
            have hcn : cnT v = 1 := if_pos (by omega)
            have h54 : mI (sI (sI M 58 (((mI M 54 4) + 0).toNat) (v % 1000)) 54 4 ((mI M 54 4) + 1)) 54 4 = mI M 54 4 + 1 := by first | rfl | omega
            refine ⟨_, rfl, hB33, kp32, by omega, by omega, by omega, by omega, Or.inl ⟨rfl, Or.inr ⟨⟨by omega, by omega, ?_⟩, by rw [hcn]; exact h54, ?_⟩, ?_⟩⟩
            · intro i hi; rw [hcn] at hi
              rcases (by omega : i = 0) with rfl
              · rcases hi29 with y | y; (exact y.2); (exfalso; omega)
            · intro i hi; rw [hcn] at hi ⊢
              rcases (by omega : i = 0) with rfl
              · first | (rw [mI_sI, if_neg (by omega), mI_sI, if_pos (by omega)]; first | done | (subst_vars; rfl)) | (rw [mI_sI, if_neg (by omega), mI_sI, if_neg (by omega), mI_sI, if_pos (by omega)]; first | done | (subst_vars; rfl)) | (rw [mI_sI, if_neg (by omega), mI_sI, if_neg (by omega), mI_sI, if_neg (by omega), mI_sI, if_pos (by omega)]; first | done | (subst_vars; rfl))
            · intro j hj; (repeat rw [mI_sI, if_neg (by omega)])
          · refine vc_iconst dX12_take_111 rfl ?_
            refine vc_zret dX12_take_112 rfl (by first | decide | omega) (Nat.le_of_ble_eq_true rfl) (Nat.le_of_ble_eq_true rfl) ?_
            have hcn : cnT v = 1 := if_pos (by omega)
            exact ⟨_, rfl, hB18, kp17, by omega, by omega, by omega, by omega, Or.inr ⟨rfl, fun q => by rcases q with q | q; (omega); (rcases hi29 with y | y; (exfalso; omega); (exact y.2 (q.2.2 0 (by omega))))⟩⟩
      · refine vc_iconst dX12_take_29 rfl ?_
        refine vc_goto dX12_take_30 ?_
        refine vc_istore_n dX12_take_42 (by decide) rfl (show _ = [some (aR 54), some (aI v), some (aI 2), none, none] from rfl) ?_
        refine vc_iload_n dX12_take_43 rfl ?_
        refine vc_istore_n dX12_take_44 (by decide) rfl (show _ = [some (aR 54), some (aI v), some (aI 2), some (aI v), none] from rfl) ?_
        refine vc_iload_n dX12_take_45 rfl ?_
        refine vc_iconst dX12_take_46 rfl ?_
        refine vc_isubE dX12_take_47 (by omega) (by omega) ?_
        refine vc_topI 1 rfl ?_
        refine vc_istore dX12_take_48 (by decide) rfl (show _ = [some (aR 54), some (aI v), some (aI 2), some (aI v), some (aI 1)] from rfl) ?_
        refine vc_iload dX12_take_50 rfl ?_
        refine vc_if_lt dX12_take_52 (fun h35 => by exfalso; omega) (fun h35 => ?_)
        refine vc_aload_n dX12_take_55 rfl ?_
        refine vc_getR dX12_take_56 flX12_19 (s_54 hB0.1.1) rfl (r_54_3 hB0.1.1) ?_
        refine vc_aload_n dX12_take_59 rfl ?_
        refine vc_getI dX12_take_60 flX12_97 (s_54 hB0.1.1) rfl ?_
        have k36 : 0 ≤ mI M 54 4 ∧ mI M 54 4 ≤ 6 := b54_4 (M := M) hB0.1
        refine vc_iload dX12_take_63 rfl ?_
        refine vc_iaddE dX12_take_65 (by omega) (by omega) ?_
        refine vc_iload_n dX12_take_66 rfl ?_
        refine vc_sipush dX12_take_67 rfl ?_
        refine vc_iremE dX12_take_70 (by omega) (by omega) ?_
        refine vc_iastore dX12_take_71 (s_58 hB0.1.1) (by omega) (by omega) ?_
        have kp37 : mI (sI M 58 (((mI M 54 4) + 1).toNat) (v % 1000)) 55 = mI M 55 := (kp_sI rfl rfl)
        have hB38 : BF fQ M (sI M 58 (((mI M 54 4) + 1).toNat) (v % 1000)) := BF.w58 hB0 (fun _ => rfl) _
        refine vc_iload_n dX12_take_72 rfl ?_
        refine vc_sipush dX12_take_73 rfl ?_
        refine vc_idivE dX12_take_76 (by omega) (by omega) ?_
        refine vc_nameI (fun x39 ex39 => ?_)
        refine vc_istore_n dX12_take_77 (by decide) rfl (show _ = [some (aR 54), some (aI v), some (aI 2), some (aI x39), some (aI 1)] from rfl) ?_
        refine vc_iincE dX12_take_78 rfl (by omega) (by omega) (by decide) rfl (show _ = [some (aR 54), some (aI v), some (aI 2), some (aI x39), some (aI 0)] from rfl) ?_
        refine vc_goto dX12_take_81 ?_
        refine vc_iload dX12_take_50 rfl ?_
        refine vc_if_lt dX12_take_52 (fun h40 => by exfalso; omega) (fun h40 => ?_)
        refine vc_aload_n dX12_take_55 rfl ?_
        refine vc_getR dX12_take_56 flX12_19 (s_54 hB38.1.1) rfl (r_54_3 hB38.1.1) ?_
        refine vc_aload_n dX12_take_59 rfl ?_
        refine vc_getI dX12_take_60 flX12_97 (s_54 hB38.1.1) rfl ?_
        refine vc_topI (mI M 54 4) rfl ?_
        have k41 : 0 ≤ mI M 54 4 ∧ mI M 54 4 ≤ 6 := b54_4 (M := (sI M 58 (((mI M 54 4) + 1).toNat) (v % 1000))) hB38.1
        refine vc_iload dX12_take_63 rfl ?_
        refine vc_iaddE dX12_take_65 (by omega) (by omega) ?_
        refine vc_iload_n dX12_take_66 rfl ?_
        refine vc_sipush dX12_take_67 rfl ?_
        refine vc_iremE dX12_take_70 (by omega) (by omega) ?_
        refine vc_iastore dX12_take_71 (s_58 hB38.1.1) (by omega) (by omega) ?_
        have kp42 : mI (sI (sI M 58 (((mI M 54 4) + 1).toNat) (v % 1000)) 58 (((mI M 54 4) + 0).toNat) (x39 % 1000)) 55 = mI M 55 := (kp_sI kp37 rfl)
        have hB43 : BF fQ M (sI (sI M 58 (((mI M 54 4) + 1).toNat) (v % 1000)) 58 (((mI M 54 4) + 0).toNat) (x39 % 1000)) := BF.w58 hB38 (fun _ => rfl) _
        refine vc_iload_n dX12_take_72 rfl ?_
        refine vc_sipush dX12_take_73 rfl ?_
        refine vc_idivE dX12_take_76 (by omega) (by omega) ?_
        refine vc_nameI (fun x44 ex44 => ?_)
        refine vc_istore_n dX12_take_77 (by decide) rfl (show _ = [some (aR 54), some (aI v), some (aI 2), some (aI x44), some (aI 0)] from rfl) ?_
        refine vc_iincE dX12_take_78 rfl (by omega) (by omega) (by decide) rfl (show _ = [some (aR 54), some (aI v), some (aI 2), some (aI x44), some (aI (-1))] from rfl) ?_
        refine vc_goto dX12_take_81 ?_
        refine vc_iload dX12_take_50 rfl ?_
        refine vc_if_lt dX12_take_52 (fun h45 => ?_) (fun h45 => by exfalso; omega)
        refine vc_iconst dX12_take_84 rfl ?_
        refine vc_istore dX12_take_85 (by decide) rfl (show _ = [some (aR 54), some (aI v), some (aI 2), some (aI x44), some (aI 0)] from rfl) ?_
        refine vc_iload dX12_take_87 rfl ?_
        refine vc_iload_n dX12_take_89 rfl ?_
        refine vc_icmp_ge dX12_take_90 (fun h46 => by exfalso; omega) (fun h46 => ?_)
        refine vc_aload_n dX12_take_93 rfl ?_
        refine vc_getR dX12_take_94 flX12_19 (s_54 hB43.1.1) rfl (r_54_3 hB43.1.1) ?_
        refine vc_aload_n dX12_take_97 rfl ?_
        refine vc_getI dX12_take_98 flX12_97 (s_54 hB43.1.1) rfl ?_
        refine vc_topI (mI M 54 4) rfl ?_
        have k47 : 0 ≤ mI M 54 4 ∧ mI M 54 4 ≤ 6 := b54_4 (M := (sI (sI M 58 (((mI M 54 4) + 1).toNat) (v % 1000)) 58 (((mI M 54 4) + 0).toNat) (x39 % 1000))) hB43.1
        refine vc_iload dX12_take_101 rfl ?_
        refine vc_iaddE dX12_take_103 (by omega) (by omega) ?_
        refine vc_iaload dX12_take_104 (s_58 hB43.1.1) (by omega) (by omega) ?_
        refine vc_topI (x39 % 1000) mI_same ?_
        have hz48 : x39 % 1000 = v / 1000 % 1000 := by first | (rw [mI_sI, if_pos (by omega)]; first | done | (subst_vars; rfl)) | (rw [mI_sI, if_neg (by omega), mI_sI, if_pos (by omega)]; first | done | (subst_vars; rfl)) | (rw [mI_sI, if_neg (by omega), mI_sI, if_neg (by omega), mI_sI, if_pos (by omega)]; first | done | (subst_vars; rfl)) | (subst_vars; rfl) | omega
        have k49 : mI (sI (sI M 58 (((mI M 54 4) + 1).toNat) (v % 1000)) 58 (((mI M 54 4) + 0).toNat) (x39 % 1000)) 54 4 = mI M 54 4 := rfl
        refine vc_cSI dX12_take_105 (sfX12_isTurnF (M := (sI (sI M 58 (((mI M 54 4) + 1).toNat) (v % 1000)) 58 (((mI M 54 4) + 0).toNat) (x39 % 1000))) hB43.1  (x39 % 1000) (by omega) (by omega)) rfl okX12_isTurn stX12_isTurn lkX12_100 rfl (Nat.le_of_ble_eq_true rfl) ⟨rfl, rfl⟩ (Nat.le_of_ble_eq_true rfl) (Nat.le_of_ble_eq_true rfl) (Nat.le_of_ble_eq_true rfl) ?_
        rintro x50 _ ⟨rfl, h51, h52, h53⟩
        have hi54 : (x50 = 1 ∧ isTu (tq 1 v)) ∨ (x50 = 0 ∧ ¬ isTu (tq 1 v)) := by have z := h53; rw [hz48] at z; exact z
        refine vc_if_ne dX12_take_108 (fun h55 => ?_) (fun h55 => ?_)
        · refine vc_iincE dX12_take_113 rfl (by omega) (by omega) (by decide) rfl (show _ = [some (aR 54), some (aI v), some (aI 2), some (aI x44), some (aI 1)] from rfl) ?_
          refine vc_goto dX12_take_116 ?_
          refine vc_iload dX12_take_87 rfl ?_
          refine vc_iload_n dX12_take_89 rfl ?_
          refine vc_icmp_ge dX12_take_90 (fun h56 => by exfalso; omega) (fun h56 => ?_)
          refine vc_aload_n dX12_take_93 rfl ?_
          refine vc_getR dX12_take_94 flX12_19 (s_54 hB43.1.1) rfl (r_54_3 hB43.1.1) ?_
          refine vc_aload_n dX12_take_97 rfl ?_
          refine vc_getI dX12_take_98 flX12_97 (s_54 hB43.1.1) rfl ?_
          refine vc_topI (mI M 54 4) rfl ?_
          refine vc_iload dX12_take_101 rfl ?_
          refine vc_iaddE dX12_take_103 (by omega) (by omega) ?_
          refine vc_iaload dX12_take_104 (s_58 hB43.1.1) (by omega) (by omega) ?_
          have hz57 : mI (sI (sI M 58 (((mI M 54 4) + 1).toNat) (v % 1000)) 58 (((mI M 54 4) + 0).toNat) (x39 % 1000)) 58 (((mI M 54 4) + 1).toNat) = v % 1000 := by first | (rw [mI_sI, if_pos (by omega)]; first | done | (subst_vars; rfl)) | (rw [mI_sI, if_neg (by omega), mI_sI, if_pos (by omega)]; first | done | (subst_vars; rfl)) | (rw [mI_sI, if_neg (by omega), mI_sI, if_neg (by omega), mI_sI, if_pos (by omega)]; first | done | (subst_vars; rfl)) | (subst_vars; rfl) | omega
          refine vc_cSI dX12_take_105 (sfX12_isTurnF (M := (sI (sI M 58 (((mI M 54 4) + 1).toNat) (v % 1000)) 58 (((mI M 54 4) + 0).toNat) (x39 % 1000))) hB43.1  (mI (sI (sI M 58 (((mI M 54 4) + 1).toNat) (v % 1000)) 58 (((mI M 54 4) + 0).toNat) (x39 % 1000)) 58 (((mI M 54 4) + 1).toNat)) (by omega) (by omega)) rfl okX12_isTurn stX12_isTurn lkX12_100 rfl (Nat.le_of_ble_eq_true rfl) ⟨rfl, rfl⟩ (Nat.le_of_ble_eq_true rfl) (Nat.le_of_ble_eq_true rfl) (Nat.le_of_ble_eq_true rfl) ?_
          rintro x58 _ ⟨rfl, h59, h60, h61⟩
          have hi62 : (x58 = 1 ∧ isTu (tq 0 v)) ∨ (x58 = 0 ∧ ¬ isTu (tq 0 v)) := by have z := h61; rw [hz57] at z; exact z
          refine vc_if_ne dX12_take_108 (fun h63 => ?_) (fun h63 => ?_)
          · refine vc_iincE dX12_take_113 rfl (by omega) (by omega) (by decide) rfl (show _ = [some (aR 54), some (aI v), some (aI 2), some (aI x44), some (aI 2)] from rfl) ?_
            refine vc_goto dX12_take_116 ?_
            refine vc_iload dX12_take_87 rfl ?_
            refine vc_iload_n dX12_take_89 rfl ?_
            refine vc_icmp_ge dX12_take_90 (fun h64 => ?_) (fun h64 => by exfalso; omega)
            refine vc_aload_n dX12_take_119 rfl ?_
            refine vc_dup dX12_take_120 rfl ?_
            refine vc_getI dX12_take_121 flX12_97 (s_54 hB43.1.1) rfl ?_
            refine vc_topI (mI M 54 4) rfl ?_
            refine vc_iload_n dX12_take_124 rfl ?_
            refine vc_iaddE dX12_take_125 (by omega) (by omega) ?_
            refine vc_putI dX12_take_126 (plX12_97 _ rfl) (s_54 hB43.1.1) rfl ?_
            have kp65 : mI (sI (sI (sI M 58 (((mI M 54 4) + 1).toNat) (v % 1000)) 58 (((mI M 54 4) + 0).toNat) (x39 % 1000)) 54 4 ((mI M 54 4) + 2)) 55 = mI M 55 := (kp_sI kp42 rfl)
            have hB66 : BF fQ M (sI (sI (sI M 58 (((mI M 54 4) + 1).toNat) (v % 1000)) 58 (((mI M 54 4) + 0).toNat) (x39 % 1000)) 54 4 ((mI M 54 4) + 2)) := BF.w54_4 hB43 rfl (by omega) (by omega)
            refine vc_iconst dX12_take_129 rfl ?_
            refine vc_zret dX12_take_130 rfl (by first | decide | omega) (Nat.le_of_ble_eq_true rfl) (Nat.le_of_ble_eq_true rfl) ?_
            have k67 : mI (sI (sI (sI M 58 (((mI M 54 4) + 1).toNat) (v % 1000)) 58 (((mI M 54 4) + 0).toNat) (x39 % 1000)) 54 4 ((mI M 54 4) + 2)) 54 4 = (mI M 54 4) + 2 := rfl
            have hcn : cnT v = 2 := (if_neg (by omega)).trans (if_pos (by omega))
            have h54 : mI (sI (sI (sI M 58 (((mI M 54 4) + 1).toNat) (v % 1000)) 58 (((mI M 54 4) + 0).toNat) (x39 % 1000)) 54 4 ((mI M 54 4) + 2)) 54 4 = mI M 54 4 + 2 := by first | rfl | omega
            refine ⟨_, rfl, hB66, kp65, by omega, by omega, by omega, by omega, Or.inl ⟨rfl, Or.inr ⟨⟨by omega, by omega, ?_⟩, by rw [hcn]; exact h54, ?_⟩, ?_⟩⟩
            · intro i hi; rw [hcn] at hi
              rcases (by omega : i = 0 ∨ i = 1) with rfl | rfl
              · rcases hi62 with y | y; (exact y.2); (exfalso; omega)
              · rcases hi54 with y | y; (exact y.2); (exfalso; omega)
            · intro i hi; rw [hcn] at hi ⊢
              rcases (by omega : i = 0 ∨ i = 1) with rfl | rfl
              · first | (rw [mI_sI, if_neg (by omega), mI_sI, if_pos (by omega)]; first | done | (subst_vars; rfl)) | (rw [mI_sI, if_neg (by omega), mI_sI, if_neg (by omega), mI_sI, if_pos (by omega)]; first | done | (subst_vars; rfl)) | (rw [mI_sI, if_neg (by omega), mI_sI, if_neg (by omega), mI_sI, if_neg (by omega), mI_sI, if_pos (by omega)]; first | done | (subst_vars; rfl))
              · first | (rw [mI_sI, if_neg (by omega), mI_sI, if_pos (by omega)]; first | done | (subst_vars; rfl)) | (rw [mI_sI, if_neg (by omega), mI_sI, if_neg (by omega), mI_sI, if_pos (by omega)]; first | done | (subst_vars; rfl)) | (rw [mI_sI, if_neg (by omega), mI_sI, if_neg (by omega), mI_sI, if_neg (by omega), mI_sI, if_pos (by omega)]; first | done | (subst_vars; rfl))
            · intro j hj; (repeat rw [mI_sI, if_neg (by omega)])
          · refine vc_iconst dX12_take_111 rfl ?_
            refine vc_zret dX12_take_112 rfl (by first | decide | omega) (Nat.le_of_ble_eq_true rfl) (Nat.le_of_ble_eq_true rfl) ?_
            have hcn : cnT v = 2 := (if_neg (by omega)).trans (if_pos (by omega))
            exact ⟨_, rfl, hB43, kp42, by omega, by omega, by omega, by omega, Or.inr ⟨rfl, fun q => by rcases q with q | q; (omega); (rcases hi62 with y | y; (exfalso; omega); (exact y.2 (q.2.2 0 (by omega))))⟩⟩
        · refine vc_iconst dX12_take_111 rfl ?_
          refine vc_zret dX12_take_112 rfl (by first | decide | omega) (Nat.le_of_ble_eq_true rfl) (Nat.le_of_ble_eq_true rfl) ?_
          have hcn : cnT v = 2 := (if_neg (by omega)).trans (if_pos (by omega))
          exact ⟨_, rfl, hB43, kp42, by omega, by omega, by omega, by omega, Or.inr ⟨rfl, fun q => by rcases q with q | q; (omega); (rcases hi54 with y | y; (exfalso; omega); (exact y.2 (q.2.2 1 (by omega))))⟩⟩
    · refine vc_iconst dX12_take_18 rfl ?_
      refine vc_goto dX12_take_19 ?_
      refine vc_istore_n dX12_take_42 (by decide) rfl (show _ = [some (aR 54), some (aI v), some (aI 3), none, none] from rfl) ?_
      refine vc_iload_n dX12_take_43 rfl ?_
      refine vc_istore_n dX12_take_44 (by decide) rfl (show _ = [some (aR 54), some (aI v), some (aI 3), some (aI v), none] from rfl) ?_
      refine vc_iload_n dX12_take_45 rfl ?_
      refine vc_iconst dX12_take_46 rfl ?_
      refine vc_isubE dX12_take_47 (by omega) (by omega) ?_
      refine vc_topI 2 rfl ?_
      refine vc_istore dX12_take_48 (by decide) rfl (show _ = [some (aR 54), some (aI v), some (aI 3), some (aI v), some (aI 2)] from rfl) ?_
      refine vc_iload dX12_take_50 rfl ?_
      refine vc_if_lt dX12_take_52 (fun h68 => by exfalso; omega) (fun h68 => ?_)
      refine vc_aload_n dX12_take_55 rfl ?_
      refine vc_getR dX12_take_56 flX12_19 (s_54 hB0.1.1) rfl (r_54_3 hB0.1.1) ?_
      refine vc_aload_n dX12_take_59 rfl ?_
      refine vc_getI dX12_take_60 flX12_97 (s_54 hB0.1.1) rfl ?_
      have k69 : 0 ≤ mI M 54 4 ∧ mI M 54 4 ≤ 6 := b54_4 (M := M) hB0.1
      refine vc_iload dX12_take_63 rfl ?_
      refine vc_iaddE dX12_take_65 (by omega) (by omega) ?_
      refine vc_iload_n dX12_take_66 rfl ?_
      refine vc_sipush dX12_take_67 rfl ?_
      refine vc_iremE dX12_take_70 (by omega) (by omega) ?_
      refine vc_iastore dX12_take_71 (s_58 hB0.1.1) (by omega) (by omega) ?_
      have kp70 : mI (sI M 58 (((mI M 54 4) + 2).toNat) (v % 1000)) 55 = mI M 55 := (kp_sI rfl rfl)
      have hB71 : BF fQ M (sI M 58 (((mI M 54 4) + 2).toNat) (v % 1000)) := BF.w58 hB0 (fun _ => rfl) _
      refine vc_iload_n dX12_take_72 rfl ?_
      refine vc_sipush dX12_take_73 rfl ?_
      refine vc_idivE dX12_take_76 (by omega) (by omega) ?_
      refine vc_nameI (fun x72 ex72 => ?_)
      refine vc_istore_n dX12_take_77 (by decide) rfl (show _ = [some (aR 54), some (aI v), some (aI 3), some (aI x72), some (aI 2)] from rfl) ?_
      refine vc_iincE dX12_take_78 rfl (by omega) (by omega) (by decide) rfl (show _ = [some (aR 54), some (aI v), some (aI 3), some (aI x72), some (aI 1)] from rfl) ?_
      refine vc_goto dX12_take_81 ?_
      refine vc_iload dX12_take_50 rfl ?_
      refine vc_if_lt dX12_take_52 (fun h73 => by exfalso; omega) (fun h73 => ?_)
      refine vc_aload_n dX12_take_55 rfl ?_
      refine vc_getR dX12_take_56 flX12_19 (s_54 hB71.1.1) rfl (r_54_3 hB71.1.1) ?_
      refine vc_aload_n dX12_take_59 rfl ?_
      refine vc_getI dX12_take_60 flX12_97 (s_54 hB71.1.1) rfl ?_
      refine vc_topI (mI M 54 4) rfl ?_
      have k74 : 0 ≤ mI M 54 4 ∧ mI M 54 4 ≤ 6 := b54_4 (M := (sI M 58 (((mI M 54 4) + 2).toNat) (v % 1000))) hB71.1
      refine vc_iload dX12_take_63 rfl ?_
      refine vc_iaddE dX12_take_65 (by omega) (by omega) ?_
      refine vc_iload_n dX12_take_66 rfl ?_
      refine vc_sipush dX12_take_67 rfl ?_
      refine vc_iremE dX12_take_70 (by omega) (by omega) ?_
      refine vc_iastore dX12_take_71 (s_58 hB71.1.1) (by omega) (by omega) ?_
      have kp75 : mI (sI (sI M 58 (((mI M 54 4) + 2).toNat) (v % 1000)) 58 (((mI M 54 4) + 1).toNat) (x72 % 1000)) 55 = mI M 55 := (kp_sI kp70 rfl)
      have hB76 : BF fQ M (sI (sI M 58 (((mI M 54 4) + 2).toNat) (v % 1000)) 58 (((mI M 54 4) + 1).toNat) (x72 % 1000)) := BF.w58 hB71 (fun _ => rfl) _
      refine vc_iload_n dX12_take_72 rfl ?_
      refine vc_sipush dX12_take_73 rfl ?_
      refine vc_idivE dX12_take_76 (by omega) (by omega) ?_
      refine vc_nameI (fun x77 ex77 => ?_)
      refine vc_istore_n dX12_take_77 (by decide) rfl (show _ = [some (aR 54), some (aI v), some (aI 3), some (aI x77), some (aI 1)] from rfl) ?_
      refine vc_iincE dX12_take_78 rfl (by omega) (by omega) (by decide) rfl (show _ = [some (aR 54), some (aI v), some (aI 3), some (aI x77), some (aI 0)] from rfl) ?_
      refine vc_goto dX12_take_81 ?_
      refine vc_iload dX12_take_50 rfl ?_
      refine vc_if_lt dX12_take_52 (fun h78 => by exfalso; omega) (fun h78 => ?_)
      refine vc_aload_n dX12_take_55 rfl ?_
      refine vc_getR dX12_take_56 flX12_19 (s_54 hB76.1.1) rfl (r_54_3 hB76.1.1) ?_
      refine vc_aload_n dX12_take_59 rfl ?_
      refine vc_getI dX12_take_60 flX12_97 (s_54 hB76.1.1) rfl ?_
      refine vc_topI (mI M 54 4) rfl ?_
      have k79 : 0 ≤ mI M 54 4 ∧ mI M 54 4 ≤ 6 := b54_4 (M := (sI (sI M 58 (((mI M 54 4) + 2).toNat) (v % 1000)) 58 (((mI M 54 4) + 1).toNat) (x72 % 1000))) hB76.1
      refine vc_iload dX12_take_63 rfl ?_
      refine vc_iaddE dX12_take_65 (by omega) (by omega) ?_
      refine vc_iload_n dX12_take_66 rfl ?_
      refine vc_sipush dX12_take_67 rfl ?_
      refine vc_iremE dX12_take_70 (by omega) (by omega) ?_
      refine vc_iastore dX12_take_71 (s_58 hB76.1.1) (by omega) (by omega) ?_
      have kp80 : mI (sI (sI (sI M 58 (((mI M 54 4) + 2).toNat) (v % 1000)) 58 (((mI M 54 4) + 1).toNat) (x72 % 1000)) 58 (((mI M 54 4) + 0).toNat) (x77 % 1000)) 55 = mI M 55 := (kp_sI kp75 rfl)
      have hB81 : BF fQ M (sI (sI (sI M 58 (((mI M 54 4) + 2).toNat) (v % 1000)) 58 (((mI M 54 4) + 1).toNat) (x72 % 1000)) 58 (((mI M 54 4) + 0).toNat) (x77 % 1000)) := BF.w58 hB76 (fun _ => rfl) _
      refine vc_iload_n dX12_take_72 rfl ?_
      refine vc_sipush dX12_take_73 rfl ?_
      refine vc_idivE dX12_take_76 (by omega) (by omega) ?_
      refine vc_nameI (fun x82 ex82 => ?_)
      refine vc_istore_n dX12_take_77 (by decide) rfl (show _ = [some (aR 54), some (aI v), some (aI 3), some (aI x82), some (aI 0)] from rfl) ?_
      refine vc_iincE dX12_take_78 rfl (by omega) (by omega) (by decide) rfl (show _ = [some (aR 54), some (aI v), some (aI 3), some (aI x82), some (aI (-1))] from rfl) ?_
      refine vc_goto dX12_take_81 ?_
      refine vc_iload dX12_take_50 rfl ?_
      refine vc_if_lt dX12_take_52 (fun h83 => ?_) (fun h83 => by exfalso; omega)
      refine vc_iconst dX12_take_84 rfl ?_
      refine vc_istore dX12_take_85 (by decide) rfl (show _ = [some (aR 54), some (aI v), some (aI 3), some (aI x82), some (aI 0)] from rfl) ?_
      refine vc_iload dX12_take_87 rfl ?_
      refine vc_iload_n dX12_take_89 rfl ?_
      refine vc_icmp_ge dX12_take_90 (fun h84 => by exfalso; omega) (fun h84 => ?_)
      refine vc_aload_n dX12_take_93 rfl ?_
      refine vc_getR dX12_take_94 flX12_19 (s_54 hB81.1.1) rfl (r_54_3 hB81.1.1) ?_
      refine vc_aload_n dX12_take_97 rfl ?_
      refine vc_getI dX12_take_98 flX12_97 (s_54 hB81.1.1) rfl ?_
      refine vc_topI (mI M 54 4) rfl ?_
      have k85 : 0 ≤ mI M 54 4 ∧ mI M 54 4 ≤ 6 := b54_4 (M := (sI (sI (sI M 58 (((mI M 54 4) + 2).toNat) (v % 1000)) 58 (((mI M 54 4) + 1).toNat) (x72 % 1000)) 58 (((mI M 54 4) + 0).toNat) (x77 % 1000))) hB81.1
      refine vc_iload dX12_take_101 rfl ?_
      refine vc_iaddE dX12_take_103 (by omega) (by omega) ?_
      refine vc_iaload dX12_take_104 (s_58 hB81.1.1) (by omega) (by omega) ?_
      refine vc_topI (x77 % 1000) mI_same ?_
      have hz86 : x77 % 1000 = v / 1000 / 1000 % 1000 := by first | (rw [mI_sI, if_pos (by omega)]; first | done | (subst_vars; rfl)) | (rw [mI_sI, if_neg (by omega), mI_sI, if_pos (by omega)]; first | done | (subst_vars; rfl)) | (rw [mI_sI, if_neg (by omega), mI_sI, if_neg (by omega), mI_sI, if_pos (by omega)]; first | done | (subst_vars; rfl)) | (subst_vars; rfl) | omega
      have k87 : mI (sI (sI (sI M 58 (((mI M 54 4) + 2).toNat) (v % 1000)) 58 (((mI M 54 4) + 1).toNat) (x72 % 1000)) 58 (((mI M 54 4) + 0).toNat) (x77 % 1000)) 54 4 = mI M 54 4 := rfl
      refine vc_cSI dX12_take_105 (sfX12_isTurnF (M := (sI (sI (sI M 58 (((mI M 54 4) + 2).toNat) (v % 1000)) 58 (((mI M 54 4) + 1).toNat) (x72 % 1000)) 58 (((mI M 54 4) + 0).toNat) (x77 % 1000))) hB81.1  (x77 % 1000) (by omega) (by omega)) rfl okX12_isTurn stX12_isTurn lkX12_100 rfl (Nat.le_of_ble_eq_true rfl) ⟨rfl, rfl⟩ (Nat.le_of_ble_eq_true rfl) (Nat.le_of_ble_eq_true rfl) (Nat.le_of_ble_eq_true rfl) ?_
      rintro x88 _ ⟨rfl, h89, h90, h91⟩
      have hi92 : (x88 = 1 ∧ isTu (tq 2 v)) ∨ (x88 = 0 ∧ ¬ isTu (tq 2 v)) := by have z := h91; rw [hz86] at z; exact z
      refine vc_if_ne dX12_take_108 (fun h93 => ?_) (fun h93 => ?_)
      · refine vc_iincE dX12_take_113 rfl (by omega) (by omega) (by decide) rfl (show _ = [some (aR 54), some (aI v), some (aI 3), some (aI x82), some (aI 1)] from rfl) ?_
        refine vc_goto dX12_take_116 ?_
        refine vc_iload dX12_take_87 rfl ?_
        refine vc_iload_n dX12_take_89 rfl ?_
        refine vc_icmp_ge dX12_take_90 (fun h94 => by exfalso; omega) (fun h94 => ?_)
        refine vc_aload_n dX12_take_93 rfl ?_
        refine vc_getR dX12_take_94 flX12_19 (s_54 hB81.1.1) rfl (r_54_3 hB81.1.1) ?_
        refine vc_aload_n dX12_take_97 rfl ?_
        refine vc_getI dX12_take_98 flX12_97 (s_54 hB81.1.1) rfl ?_
        refine vc_topI (mI M 54 4) rfl ?_
        refine vc_iload dX12_take_101 rfl ?_
        refine vc_iaddE dX12_take_103 (by omega) (by omega) ?_
        refine vc_iaload dX12_take_104 (s_58 hB81.1.1) (by omega) (by omega) ?_
        have hz95 : mI (sI (sI (sI M 58 (((mI M 54 4) + 2).toNat) (v % 1000)) 58 (((mI M 54 4) + 1).toNat) (x72 % 1000)) 58 (((mI M 54 4) + 0).toNat) (x77 % 1000)) 58 (((mI M 54 4) + 1).toNat) = v / 1000 % 1000 := by first | (rw [mI_sI, if_pos (by omega)]; first | done | (subst_vars; rfl)) | (rw [mI_sI, if_neg (by omega), mI_sI, if_pos (by omega)]; first | done | (subst_vars; rfl)) | (rw [mI_sI, if_neg (by omega), mI_sI, if_neg (by omega), mI_sI, if_pos (by omega)]; first | done | (subst_vars; rfl)) | (subst_vars; rfl) | omega
        refine vc_cSI dX12_take_105 (sfX12_isTurnF (M := (sI (sI (sI M 58 (((mI M 54 4) + 2).toNat) (v % 1000)) 58 (((mI M 54 4) + 1).toNat) (x72 % 1000)) 58 (((mI M 54 4) + 0).toNat) (x77 % 1000))) hB81.1  (mI (sI (sI (sI M 58 (((mI M 54 4) + 2).toNat) (v % 1000)) 58 (((mI M 54 4) + 1).toNat) (x72 % 1000)) 58 (((mI M 54 4) + 0).toNat) (x77 % 1000)) 58 (((mI M 54 4) + 1).toNat)) (by omega) (by omega)) rfl okX12_isTurn stX12_isTurn lkX12_100 rfl (Nat.le_of_ble_eq_true rfl) ⟨rfl, rfl⟩ (Nat.le_of_ble_eq_true rfl) (Nat.le_of_ble_eq_true rfl) (Nat.le_of_ble_eq_true rfl) ?_
        rintro x96 _ ⟨rfl, h97, h98, h99⟩
        have hi100 : (x96 = 1 ∧ isTu (tq 1 v)) ∨ (x96 = 0 ∧ ¬ isTu (tq 1 v)) := by have z := h99; rw [hz95] at z; exact z
        refine vc_if_ne dX12_take_108 (fun h101 => ?_) (fun h101 => ?_)
        · refine vc_iincE dX12_take_113 rfl (by omega) (by omega) (by decide) rfl (show _ = [some (aR 54), some (aI v), some (aI 3), some (aI x82), some (aI 2)] from rfl) ?_
          refine vc_goto dX12_take_116 ?_
          refine vc_iload dX12_take_87 rfl ?_
          refine vc_iload_n dX12_take_89 rfl ?_
          refine vc_icmp_ge dX12_take_90 (fun h102 => by exfalso; omega) (fun h102 => ?_)
          refine vc_aload_n dX12_take_93 rfl ?_
          refine vc_getR dX12_take_94 flX12_19 (s_54 hB81.1.1) rfl (r_54_3 hB81.1.1) ?_
          refine vc_aload_n dX12_take_97 rfl ?_
          refine vc_getI dX12_take_98 flX12_97 (s_54 hB81.1.1) rfl ?_
          refine vc_topI (mI M 54 4) rfl ?_
          refine vc_iload dX12_take_101 rfl ?_
          refine vc_iaddE dX12_take_103 (by omega) (by omega) ?_
          refine vc_iaload dX12_take_104 (s_58 hB81.1.1) (by omega) (by omega) ?_
          have hz103 : mI (sI (sI (sI M 58 (((mI M 54 4) + 2).toNat) (v % 1000)) 58 (((mI M 54 4) + 1).toNat) (x72 % 1000)) 58 (((mI M 54 4) + 0).toNat) (x77 % 1000)) 58 (((mI M 54 4) + 2).toNat) = v % 1000 := by first | (rw [mI_sI, if_pos (by omega)]; first | done | (subst_vars; rfl)) | (rw [mI_sI, if_neg (by omega), mI_sI, if_pos (by omega)]; first | done | (subst_vars; rfl)) | (rw [mI_sI, if_neg (by omega), mI_sI, if_neg (by omega), mI_sI, if_pos (by omega)]; first | done | (subst_vars; rfl)) | (subst_vars; rfl) | omega
          refine vc_cSI dX12_take_105 (sfX12_isTurnF (M := (sI (sI (sI M 58 (((mI M 54 4) + 2).toNat) (v % 1000)) 58 (((mI M 54 4) + 1).toNat) (x72 % 1000)) 58 (((mI M 54 4) + 0).toNat) (x77 % 1000))) hB81.1  (mI (sI (sI (sI M 58 (((mI M 54 4) + 2).toNat) (v % 1000)) 58 (((mI M 54 4) + 1).toNat) (x72 % 1000)) 58 (((mI M 54 4) + 0).toNat) (x77 % 1000)) 58 (((mI M 54 4) + 2).toNat)) (by omega) (by omega)) rfl okX12_isTurn stX12_isTurn lkX12_100 rfl (Nat.le_of_ble_eq_true rfl) ⟨rfl, rfl⟩ (Nat.le_of_ble_eq_true rfl) (Nat.le_of_ble_eq_true rfl) (Nat.le_of_ble_eq_true rfl) ?_
          rintro x104 _ ⟨rfl, h105, h106, h107⟩
          have hi108 : (x104 = 1 ∧ isTu (tq 0 v)) ∨ (x104 = 0 ∧ ¬ isTu (tq 0 v)) := by have z := h107; rw [hz103] at z; exact z
          refine vc_if_ne dX12_take_108 (fun h109 => ?_) (fun h109 => ?_)
          · refine vc_iincE dX12_take_113 rfl (by omega) (by omega) (by decide) rfl (show _ = [some (aR 54), some (aI v), some (aI 3), some (aI x82), some (aI 3)] from rfl) ?_
            refine vc_goto dX12_take_116 ?_
            refine vc_iload dX12_take_87 rfl ?_
            refine vc_iload_n dX12_take_89 rfl ?_
            refine vc_icmp_ge dX12_take_90 (fun h110 => ?_) (fun h110 => by exfalso; omega)
            refine vc_aload_n dX12_take_119 rfl ?_
            refine vc_dup dX12_take_120 rfl ?_
            refine vc_getI dX12_take_121 flX12_97 (s_54 hB81.1.1) rfl ?_
            refine vc_topI (mI M 54 4) rfl ?_
            refine vc_iload_n dX12_take_124 rfl ?_
            refine vc_iaddE dX12_take_125 (by omega) (by omega) ?_
            refine vc_putI dX12_take_126 (plX12_97 _ rfl) (s_54 hB81.1.1) rfl ?_
            have kp111 : mI (sI (sI (sI (sI M 58 (((mI M 54 4) + 2).toNat) (v % 1000)) 58 (((mI M 54 4) + 1).toNat) (x72 % 1000)) 58 (((mI M 54 4) + 0).toNat) (x77 % 1000)) 54 4 ((mI M 54 4) + 3)) 55 = mI M 55 := (kp_sI kp80 rfl)
            have hB112 : BF fQ M (sI (sI (sI (sI M 58 (((mI M 54 4) + 2).toNat) (v % 1000)) 58 (((mI M 54 4) + 1).toNat) (x72 % 1000)) 58 (((mI M 54 4) + 0).toNat) (x77 % 1000)) 54 4 ((mI M 54 4) + 3)) := BF.w54_4 hB81 rfl (by omega) (by omega)
            refine vc_iconst dX12_take_129 rfl ?_
            refine vc_zret dX12_take_130 rfl (by first | decide | omega) (Nat.le_of_ble_eq_true rfl) (Nat.le_of_ble_eq_true rfl) ?_
            have k113 : mI (sI (sI (sI (sI M 58 (((mI M 54 4) + 2).toNat) (v % 1000)) 58 (((mI M 54 4) + 1).toNat) (x72 % 1000)) 58 (((mI M 54 4) + 0).toNat) (x77 % 1000)) 54 4 ((mI M 54 4) + 3)) 54 4 = (mI M 54 4) + 3 := rfl
            have hcn : cnT v = 3 := (if_neg (by omega)).trans (if_neg (by omega))
            have h54 : mI (sI (sI (sI (sI M 58 (((mI M 54 4) + 2).toNat) (v % 1000)) 58 (((mI M 54 4) + 1).toNat) (x72 % 1000)) 58 (((mI M 54 4) + 0).toNat) (x77 % 1000)) 54 4 ((mI M 54 4) + 3)) 54 4 = mI M 54 4 + 3 := by first | rfl | omega
            refine ⟨_, rfl, hB112, kp111, by omega, by omega, by omega, by omega, Or.inl ⟨rfl, Or.inr ⟨⟨by omega, by omega, ?_⟩, by rw [hcn]; exact h54, ?_⟩, ?_⟩⟩
            · intro i hi; rw [hcn] at hi
              rcases (by omega : i = 0 ∨ i = 1 ∨ i = 2) with rfl | rfl | rfl
              · rcases hi108 with y | y; (exact y.2); (exfalso; omega)
              · rcases hi100 with y | y; (exact y.2); (exfalso; omega)
              · rcases hi92 with y | y; (exact y.2); (exfalso; omega)
            · intro i hi; rw [hcn] at hi ⊢
              rcases (by omega : i = 0 ∨ i = 1 ∨ i = 2) with rfl | rfl | rfl
              · first | (rw [mI_sI, if_neg (by omega), mI_sI, if_pos (by omega)]; first | done | (subst_vars; rfl)) | (rw [mI_sI, if_neg (by omega), mI_sI, if_neg (by omega), mI_sI, if_pos (by omega)]; first | done | (subst_vars; rfl)) | (rw [mI_sI, if_neg (by omega), mI_sI, if_neg (by omega), mI_sI, if_neg (by omega), mI_sI, if_pos (by omega)]; first | done | (subst_vars; rfl))
              · first | (rw [mI_sI, if_neg (by omega), mI_sI, if_pos (by omega)]; first | done | (subst_vars; rfl)) | (rw [mI_sI, if_neg (by omega), mI_sI, if_neg (by omega), mI_sI, if_pos (by omega)]; first | done | (subst_vars; rfl)) | (rw [mI_sI, if_neg (by omega), mI_sI, if_neg (by omega), mI_sI, if_neg (by omega), mI_sI, if_pos (by omega)]; first | done | (subst_vars; rfl))
              · first | (rw [mI_sI, if_neg (by omega), mI_sI, if_pos (by omega)]; first | done | (subst_vars; rfl)) | (rw [mI_sI, if_neg (by omega), mI_sI, if_neg (by omega), mI_sI, if_pos (by omega)]; first | done | (subst_vars; rfl)) | (rw [mI_sI, if_neg (by omega), mI_sI, if_neg (by omega), mI_sI, if_neg (by omega), mI_sI, if_pos (by omega)]; first | done | (subst_vars; rfl))
            · intro j hj; (repeat rw [mI_sI, if_neg (by omega)])
          · refine vc_iconst dX12_take_111 rfl ?_
            refine vc_zret dX12_take_112 rfl (by first | decide | omega) (Nat.le_of_ble_eq_true rfl) (Nat.le_of_ble_eq_true rfl) ?_
            have hcn : cnT v = 3 := (if_neg (by omega)).trans (if_neg (by omega))
            exact ⟨_, rfl, hB81, kp80, by omega, by omega, by omega, by omega, Or.inr ⟨rfl, fun q => by rcases q with q | q; (omega); (rcases hi108 with y | y; (exfalso; omega); (exact y.2 (q.2.2 0 (by omega))))⟩⟩
        · refine vc_iconst dX12_take_111 rfl ?_
          refine vc_zret dX12_take_112 rfl (by first | decide | omega) (Nat.le_of_ble_eq_true rfl) (Nat.le_of_ble_eq_true rfl) ?_
          have hcn : cnT v = 3 := (if_neg (by omega)).trans (if_neg (by omega))
          exact ⟨_, rfl, hB81, kp80, by omega, by omega, by omega, by omega, Or.inr ⟨rfl, fun q => by rcases q with q | q; (omega); (rcases hi100 with y | y; (exfalso; omega); (exact y.2 (q.2.2 1 (by omega))))⟩⟩
      · refine vc_iconst dX12_take_111 rfl ?_
        refine vc_zret dX12_take_112 rfl (by first | decide | omega) (Nat.le_of_ble_eq_true rfl) (Nat.le_of_ble_eq_true rfl) ?_
        have hcn : cnT v = 3 := (if_neg (by omega)).trans (if_neg (by omega))
        exact ⟨_, rfl, hB81, kp80, by omega, by omega, by omega, by omega, Or.inr ⟨rfl, fun q => by rcases q with q | q; (omega); (rcases hi92 with y | y; (exfalso; omega); (exact y.2 (q.2.2 2 (by omega))))⟩⟩
  · refine vc_iconst dX12_take_10 rfl ?_
    refine vc_zret dX12_take_11 rfl (by first | decide | omega) (Nat.le_of_ble_eq_true rfl) (Nat.le_of_ble_eq_true rfl) ?_
    exact ⟨_, rfl, hB0, rfl, by omega, by omega, by omega, by omega, Or.inr ⟨rfl, fun q => by omega⟩⟩

theorem tell_ok {M1 N1 N2 : Mem} {a b x y : Int} (h0 : mI M1 54 4 = 0) (t1 : TkR M1 N1 a x) (hx : x ≠ 0) (t2 : TkR N1 N2 b y) (hy : y ≠ 0) (hn : mI N1 54 4 ≠ 0) (hb : b = 0 ∨ 3 ≤ mI N1 54 4) : okTn a b ∧ mI N2 54 4 = tnC a b ∧ ∀ i : Nat, i < tnC a b → mI N2 58 i = tnI a b i := by
  have hca := cnT_b a
  have hcb := cnT_b b
  rcases t1 with ⟨_, t1, _⟩ | t1
  · rcases t1 with t1 | ⟨ta, tc, ti⟩
    · omega
    · rw [h0] at tc ti
      rcases t2 with ⟨_, t2, tf⟩ | t2
      · rcases t2 with ⟨b0, bc⟩ | ⟨tb, bc, bi⟩
        · have ec : tnC a b = cnT a := if_pos b0
          refine ⟨⟨ta, Or.inl b0⟩, by rw [ec]; omega, fun i hi => ?_⟩
          rw [ec] at hi
          unfold tnI
          rw [if_pos hi, tf i (by omega)]
          have q := ti i hi
          rw [show (0 : Int).toNat + i = i from Nat.zero_add i] at q
          exact q
        · have b0 : b ≠ 0 := by omega
          have c3 : cnT a = 3 := by omega
          have ec : tnC a b = cnT a + cnT b := if_neg b0
          refine ⟨⟨ta, Or.inr ⟨c3, tb⟩⟩, by rw [ec]; omega, fun i hi => ?_⟩
          rw [ec] at hi
          unfold tnI
          by_cases e : i < cnT a
          · rw [if_pos e, tf i (by omega)]
            have q := ti i e
            rw [show (0 : Int).toNat + i = i from Nat.zero_add i] at q
            exact q
          · rw [if_neg e]
            have q := bi (i - 3) (by omega)
            rw [show (mI N1 54 4).toNat + (i - 3) = i by omega] at q
            exact q
      · exact absurd t2.1 hy
  · exact absurd t1.1 hx
theorem tell_1 {M1 N1 : Mem} {a b x : Int} (h : okTn a b) (h0 : mI M1 54 4 = 0) (t1 : TkR M1 N1 a x) : x = 1 ∧ mI N1 54 4 = cnT a := by
  rcases t1 with ⟨e, t1, _⟩ | t1
  · rcases t1 with t1 | ⟨_, tc, _⟩
    · have := h.1.1
      omega
    · exact ⟨e, by rw [tc, h0]; omega⟩
  · exact absurd (Or.inr h.1) t1.2
theorem tell_2 {N1 N2 : Mem} {a b y : Int} (h : okTn a b) (t2 : TkR N1 N2 b y) : y = 1 := by
  rcases t2 with ⟨e, _⟩ | t2
  · exact e
  · rcases h.2 with h | h
    · exact absurd (Or.inl h) t2.2
    · exact absurd (Or.inr h.2) t2.2
/-- a telling is kept -/
def TnR (M N : Mem) (t f r : Int) : Prop := (mI M 55 3 = 8 ∧ r = -1 ∧ mI N 55 = mI M 55) ∨ (mI M 55 3 ≠ 8 ∧ r = mI M 55 3 ∧ mI N 55 3 = mI M 55 3 + 1 ∧ mI N 55 (184 + 9 * (mI M 55 3).toNat) = t ∧ mI N 55 (184 + 9 * (mI M 55 3).toNat + 1) = f ∧ mI N 55 (184 + 9 * (mI M 55 3).toNat + 2) = mI M 54 4 ∧ (∀ i : Nat, i < 6 → (i : Int) < mI M 54 4 → mI N 55 (184 + 9 * (mI M 55 3).toNat + 3 + i) = mI M 58 i) ∧ ∀ j : Nat, j ≠ 3 → ¬ (184 + 9 * (mI M 55 3).toNat ≤ j ∧ j < 184 + 9 * (mI M 55 3).toNat + 9) → mI N 55 j = mI M 55 j)
theorem TnR.ar {M N : Mem} {t f a b r : Int} {S S' : Sw} {r9 : Int} (h : TnR M N t f r) (hA : AR (mI M 55) S) (ht : 0 ≤ t ∧ t < mI M 55 2) (hf : 0 ≤ f ∧ f ≤ 3) (hq : okTn a b) (h4 : mI M 54 4 = tnC a b) (h8 : ∀ i : Nat, i < tnC a b → mI M 58 i = tnI a b i) (hC : TellingS t f a b S S' r9) : r = r9 ∧ AR (mI N 55) S' := by
  obtain ⟨c1, c2, c3, c4, c5, c6⟩ := hA.1.1
  have w := hA.1.2.2.2.2.2.2.2
  obtain ⟨w1, w2, w3, w4, w5, w6, w7⟩ := w
  have hn := tnC_b a b hq
  rcases hC.iff w5 with ⟨hno, e1, hfr⟩ | ⟨hk, _, e1, S2, e2, hfr, hi⟩
  · rcases h with ⟨h1, h2, h3⟩ | ⟨h1, _⟩
    · rw [h3]
      exact ⟨by omega, AR_no hA hfr⟩
    · exact absurd ⟨⟨ht.1, by omega, hf.1, hf.2, by omega⟩, hq⟩ hno
  · have k5 := hk.2.2.2.2
    rcases h with ⟨h1, _⟩ | ⟨h1, h2, h3, h5, h6, h7, h9, ho⟩
    · omega
    · rw [e2]
      rw [c4] at h3 h5 h6 h7 h9 ho
      refine ⟨by omega, AR_telling hA hk hn.1 hn.2 hfr (fun i i1 => by rw [(hi i i1).1]; exact (hi i i1).2) h3 h5 h6 (by rw [h7, h4]) (fun i i1 => ?_) ho⟩
      rw [h9 i (by omega) (by omega), h8 i i1, (hi i i1).1]
/-- nothing could be told -/
theorem tell_bad {M : Mem} {t f a b : Int} {S S' : Sw} {r9 : Int} {a9 : Nat → Int} (e : a9 = mI M 55) (hA : AR (mI M 55) S) (hn : ¬ (okTg t f S ∧ okTn a b)) (hC : TellingS t f a b S S' r9) : -1 = r9 ∧ AR a9 S' := by
  rcases hC.iff (hA.1.2.2.2.2.2.2.2).2.2.2.2.1 with ⟨_, e1, hfr⟩ | ⟨hk, hq, _⟩
  · rw [e]; exact ⟨e1.symm, AR_no hA hfr⟩
  · exact absurd ⟨hk, hq⟩ hn
set_option maxRecDepth 4000 in
theorem sfX12_tellNowF {l : Launch} {M : Mem} (hB : Box M)  (t : Int) (f : Int) (p0 : 0 ≤ t) (p1 : t ≤ 5) (p2 : 0 ≤ f) (p3 : f ≤ 3) (p4 : 1 ≤ mI M 54 4) : Call l mdX12_tellNow [aR 54, aI t, aI f] M (fun q N => ∃ r : Int, q = some (aI r) ∧ BF fR M N ∧ mI N 57 = mI M 57 ∧ TnR M N t f r) := by
  have hB0 : BF fR M M := BF.start hB
  refine Call.of [some (aR 54), some (aI t), some (aI f), none, none] rfl (Nat.le_of_ble_eq_true rfl) rfl ?_
  refine vc_aload_n dX12_tellNow_0 rfl ?_
  refine vc_getR dX12_tellNow_1 flX12_7 (s_54 hB0.1.1) rfl (r_54_0 hB0.1.1) ?_
  refine vc_iconst dX12_tellNow_4 rfl ?_
  refine vc_iaload dX12_tellNow_5 (s_55 hB0.1.1) (by omega) (by omega) ?_
  refine vc_topI (mI M 55 3) rfl ?_
  have k1 : 0 ≤ mI M 55 3 ∧ mI M 55 3 ≤ 8 := b55_3 (M := M) hB0.1
  refine vc_bipush dX12_tellNow_6 rfl ?_
  refine vc_icmp_ne dX12_tellNow_8 (fun h2 => ?_) (fun h2 => ?_)
  · refine vc_sipush dX12_tellNow_13 rfl ?_
    refine vc_bipush dX12_tellNow_16 rfl ?_
    refine vc_aload_n dX12_tellNow_18 rfl ?_
    refine vc_getR dX12_tellNow_19 flX12_7 (s_54 hB0.1.1) rfl (r_54_0 hB0.1.1) ?_
    refine vc_iconst dX12_tellNow_22 rfl ?_
    refine vc_iaload dX12_tellNow_23 (s_55 hB0.1.1) (by omega) (by omega) ?_
    refine vc_topI (mI M 55 3) rfl ?_
    refine vc_imulE dX12_tellNow_24 (by omega) (by omega) ?_
    refine vc_iaddE dX12_tellNow_25 (by omega) (by omega) ?_
    refine vc_nameI (fun x3 ex3 => ?_)
    refine vc_istore_n dX12_tellNow_26 (by decide) rfl (show _ = [some (aR 54), some (aI t), some (aI f), some (aI x3), none] from rfl) ?_
    refine vc_aload_n dX12_tellNow_27 rfl ?_
    refine vc_getR dX12_tellNow_28 flX12_7 (s_54 hB0.1.1) rfl (r_54_0 hB0.1.1) ?_
    refine vc_iload_n dX12_tellNow_31 rfl ?_
    refine vc_iload_n dX12_tellNow_32 rfl ?_
    refine vc_iastore dX12_tellNow_33 (s_55 hB0.1.1) (by omega) (by omega) ?_
    have kp4 : mI (sI M 55 x3.toNat t) 57 = mI M 57 := (kp_sI rfl rfl)
    have kp5 : mI (sI M 55 x3.toNat t) 58 = mI M 58 := (kp_sI rfl rfl)
    have kp6 : mI (sI M 55 x3.toNat t) 54 = mI M 54 := (kp_sI rfl rfl)
    have hB7 : BF fR M (sI M 55 x3.toNat t) := BF.a (x := x3) hB0 (by omega) (by omega) (by unfold aB; refine ⟨?_, ?_, ?_, ?_, ?_, ?_, ?_, ?_, ?_, ?_, ?_, ?_, ?_, ?_, ?_, ?_, ?_, ?_⟩ <;> intros <;> omega) (by omega) (by omega) (by omega) (by omega) (by omega) (by omega) fR_55
    refine vc_aload_n dX12_tellNow_34 rfl ?_
    refine vc_getR dX12_tellNow_35 flX12_7 (s_54 hB7.1.1) rfl (r_54_0 hB7.1.1) ?_
    refine vc_iload_n dX12_tellNow_38 rfl ?_
    refine vc_iconst dX12_tellNow_39 rfl ?_
    refine vc_iaddE dX12_tellNow_40 (by omega) (by omega) ?_
    refine vc_iload_n dX12_tellNow_41 rfl ?_
    refine vc_iastore dX12_tellNow_42 (s_55 hB7.1.1) (by omega) (by omega) ?_
    have kp8 : mI (sI (sI M 55 x3.toNat t) 55 ((x3 + 1).toNat) f) 57 = mI M 57 := (kp_sI kp4 rfl)
    have kp9 : mI (sI (sI M 55 x3.toNat t) 55 ((x3 + 1).toNat) f) 58 = mI M 58 := (kp_sI kp5 rfl)
    have kp10 : mI (sI (sI M 55 x3.toNat t) 55 ((x3 + 1).toNat) f) 54 = mI M 54 := (kp_sI kp6 rfl)
    have hB11 : BF fR M (sI (sI M 55 x3.toNat t) 55 ((x3 + 1).toNat) f) := BF.a (x := x3 + 1) hB7 (by omega) (by omega) (by unfold aB; refine ⟨?_, ?_, ?_, ?_, ?_, ?_, ?_, ?_, ?_, ?_, ?_, ?_, ?_, ?_, ?_, ?_, ?_, ?_⟩ <;> intros <;> omega) (by omega) (by omega) (by omega) (by omega) (by omega) (by omega) fR_55
    refine vc_aload_n dX12_tellNow_43 rfl ?_
    refine vc_getR dX12_tellNow_44 flX12_7 (s_54 hB11.1.1) rfl (r_54_0 hB11.1.1) ?_
    refine vc_iload_n dX12_tellNow_47 rfl ?_
    refine vc_iconst dX12_tellNow_48 rfl ?_
    refine vc_iaddE dX12_tellNow_49 (by omega) (by omega) ?_
    refine vc_aload_n dX12_tellNow_50 rfl ?_
    refine vc_getI dX12_tellNow_51 flX12_97 (s_54 hB11.1.1) rfl ?_
    refine vc_topI (mI M 54 4) rfl ?_
    have k12 : 0 ≤ mI M 54 4 ∧ mI M 54 4 ≤ 6 := b54_4 (M := (sI (sI M 55 x3.toNat t) 55 ((x3 + 1).toNat) f)) hB11.1
    have k13 : mI M 54 4 = mI M 54 4 := congrFun kp10 4
    refine vc_iastore dX12_tellNow_54 (s_55 hB11.1.1) (by omega) (by omega) ?_
    have kp14 : mI (sI (sI (sI M 55 x3.toNat t) 55 ((x3 + 1).toNat) f) 55 ((x3 + 2).toNat) (mI M 54 4)) 57 = mI M 57 := (kp_sI kp8 rfl)
    have kp15 : mI (sI (sI (sI M 55 x3.toNat t) 55 ((x3 + 1).toNat) f) 55 ((x3 + 2).toNat) (mI M 54 4)) 58 = mI M 58 := (kp_sI kp9 rfl)
    have kp16 : mI (sI (sI (sI M 55 x3.toNat t) 55 ((x3 + 1).toNat) f) 55 ((x3 + 2).toNat) (mI M 54 4)) 54 = mI M 54 := (kp_sI kp10 rfl)
    have hB17 : BF fR M (sI (sI (sI M 55 x3.toNat t) 55 ((x3 + 1).toNat) f) 55 ((x3 + 2).toNat) (mI M 54 4)) := BF.aC (x := x3 + 2) hB11 (by omega) (by omega) (by omega) (by omega) (by omega) (by ((repeat rw [mI_sI, if_neg (by omega)]); try omega))
    refine vc_iconst dX12_tellNow_55 rfl ?_
    refine vc_istore dX12_tellNow_56 (by decide) rfl (show _ = [some (aR 54), some (aI t), some (aI f), some (aI x3), some (aI 0)] from rfl) ?_
    have lp58 : ∀ (n58 : Nat) (Mq58 : Mem) (v4 : Int), (BF fR M Mq58) → (mI Mq58 57 = mI M 57) → (mI Mq58 58 = mI M 58) → (mI Mq58 54 = mI M 54) → (0 ≤ v4) → (v4 ≤ 6) → (mI Mq58 55 3 = mI M 55 3) → (1 ≤ mI Mq58 55 (184 + 9 * (mI M 55 3).toNat + 2)) → (mI Mq58 55 (184 + 9 * (mI M 55 3).toNat) = t) → (mI Mq58 55 (184 + 9 * (mI M 55 3).toNat + 1) = f) → (mI Mq58 55 (184 + 9 * (mI M 55 3).toNat + 2) = mI M 54 4) → (∀ q : Nat, (q : Int) < v4 → (q : Int) < mI M 54 4 → mI Mq58 55 (184 + 9 * (mI M 55 3).toNat + 3 + q) = mI M 58 q) → (∀ j : Nat, j ≠ 3 → ¬ (184 + 9 * (mI M 55 3).toNat ≤ j ∧ j < 184 + 9 * (mI M 55 3).toNat + 9) → mI Mq58 55 j = mI M 55 j) → (6 - v4).toNat < n58 → VC l mdX12_tellNow 58 [some (aR 54), none, none, some (aI x3), some (aI v4)] [] Mq58 0 0 (fun q N => ∃ r : Int, q = some (aI r) ∧ BF fR M N ∧ mI N 57 = mI M 57 ∧ TnR M N t f r) := by
      intro n58
      induction n58 with
      | zero => intro Mq58 v4 hQ58 kp58_57 kp58_58 kp58_54 g58_4a g58_4b g58i0 g58i1 g58i2 g58i3 g58i4 g58i5 g58i6 hm58; exact absurd hm58 (Nat.not_lt_zero _)
      | succ n58 ih58 =>
        intro Mq58 v4 hQ58 kp58_57 kp58_58 kp58_54 g58_4a g58_4b g58i0 g58i1 g58i2 g58i3 g58i4 g58i5 g58i6 hm58
        refine vc_iload dX12_tellNow_58 rfl ?_
        refine vc_bipush dX12_tellNow_60 rfl ?_
        refine vc_icmp_ge dX12_tellNow_62 (fun h18 => ?_) (fun h18 => ?_)
        · refine vc_aload_n dX12_tellNow_102 rfl ?_
          refine vc_getR dX12_tellNow_103 flX12_7 (s_54 hQ58.1.1) rfl (r_54_0 hQ58.1.1) ?_
          refine vc_iconst dX12_tellNow_106 rfl ?_
          refine vc_dup2 dX12_tellNow_107 rfl rfl ?_
          refine vc_iaload dX12_tellNow_108 (s_55 hQ58.1.1) (by omega) (by omega) ?_
          refine vc_topI (mI Mq58 55 3) rfl ?_
          have k19 : 0 ≤ mI Mq58 55 3 ∧ mI Mq58 55 3 ≤ 8 := b55_3 (M := Mq58) hQ58.1
          refine vc_iconst dX12_tellNow_109 rfl ?_
          refine vc_iaddE dX12_tellNow_110 (by omega) (by omega) ?_
          refine vc_iastore dX12_tellNow_111 (s_55 hQ58.1.1) (by omega) (by omega) ?_
          refine vc_mem (sI Mq58 55 3 ((mI Mq58 55 3) + 1)) rfl ?_
          have kp20 : mI (sI Mq58 55 3 ((mI Mq58 55 3) + 1)) 57 = mI M 57 := (kp_sI kp58_57 rfl)
          have kp21 : mI (sI Mq58 55 3 ((mI Mq58 55 3) + 1)) 58 = mI M 58 := (kp_sI kp58_58 rfl)
          have kp22 : mI (sI Mq58 55 3 ((mI Mq58 55 3) + 1)) 54 = mI M 54 := (kp_sI kp58_54 rfl)
          have hB23 : BF fR M (sI Mq58 55 3 ((mI Mq58 55 3) + 1)) := BF.a3 hQ58 (by omega) (by omega) (by rw [g58i0]; exact g58i1)
          refine vc_aload_n dX12_tellNow_112 rfl ?_
          refine vc_getR dX12_tellNow_113 flX12_7 (s_54 hB23.1.1) rfl (r_54_0 hB23.1.1) ?_
          refine vc_iconst dX12_tellNow_116 rfl ?_
          refine vc_iaload dX12_tellNow_117 (s_55 hB23.1.1) (by omega) (by omega) ?_
          refine vc_topI ((mI Mq58 55 3) + 1) rfl ?_
          refine vc_iconst dX12_tellNow_118 rfl ?_
          refine vc_isubE dX12_tellNow_119 (by omega) (by omega) ?_
          refine vc_iret dX12_tellNow_120 rfl (Nat.le_of_ble_eq_true rfl) (Nat.le_of_ble_eq_true rfl) ?_
          have k24 : mI (sI Mq58 55 3 ((mI Mq58 55 3) + 1)) 54 4 = mI Mq58 54 4 := rfl
          have z3 : mI (sI Mq58 55 3 ((mI Mq58 55 3) + 1)) 55 3 = mI M 55 3 + 1 := by rw [mI_same]; omega
          exact ⟨_, rfl, hB23, kp20, Or.inr ⟨by omega, by omega, z3, by rw [mI_sI, if_neg (by omega)]; exact g58i2, by rw [mI_sI, if_neg (by omega)]; exact g58i3, by rw [mI_sI, if_neg (by omega)]; exact g58i4, fun i i1 i2 => by rw [mI_sI, if_neg (by omega)]; exact g58i5 i (by omega) i2, fun j j1 j2 => by rw [mI_sI, if_neg (by omega)]; exact g58i6 j j1 j2⟩⟩
        · have k544 : mI Mq58 54 4 = mI M 54 4 := congrFun kp58_54 4
          refine vc_aload_n dX12_tellNow_65 rfl ?_
          refine vc_getR dX12_tellNow_66 flX12_7 (s_54 hQ58.1.1) rfl (r_54_0 hQ58.1.1) ?_
          refine vc_iload_n dX12_tellNow_69 rfl ?_
          refine vc_iconst dX12_tellNow_70 rfl ?_
          refine vc_iaddE dX12_tellNow_71 (by omega) (by omega) ?_
          refine vc_iload dX12_tellNow_72 rfl ?_
          refine vc_iaddE dX12_tellNow_74 (by omega) (by omega) ?_
          refine vc_iload dX12_tellNow_75 rfl ?_
          refine vc_aload_n dX12_tellNow_77 rfl ?_
          refine vc_getI dX12_tellNow_78 flX12_97 (s_54 hQ58.1.1) rfl ?_
          have k25 : 0 ≤ mI Mq58 54 4 ∧ mI Mq58 54 4 ≤ 6 := b54_4 (M := Mq58) hQ58.1
          have k26 : mI Mq58 54 4 = mI M 54 4 := congrFun kp58_54 4
          refine vc_icmp_ge dX12_tellNow_81 (fun h27 => ?_) (fun h27 => ?_)
          · refine vc_iconst dX12_tellNow_94 rfl ?_
            refine vc_iastore dX12_tellNow_95 (s_55 hQ58.1.1) (by omega) (by omega) ?_
            have kp28 : mI (sI Mq58 55 (((x3 + 3) + v4).toNat) 0) 57 = mI M 57 := (kp_sI kp58_57 rfl)
            have kp29 : mI (sI Mq58 55 (((x3 + 3) + v4).toNat) 0) 58 = mI M 58 := (kp_sI kp58_58 rfl)
            have kp30 : mI (sI Mq58 55 (((x3 + 3) + v4).toNat) 0) 54 = mI M 54 := (kp_sI kp58_54 rfl)
            have hB31 : BF fR M (sI Mq58 55 (((x3 + 3) + v4).toNat) 0) := BF.a (x := (x3 + 3) + v4) hQ58 (by omega) (by omega) (by unfold aB; refine ⟨?_, ?_, ?_, ?_, ?_, ?_, ?_, ?_, ?_, ?_, ?_, ?_, ?_, ?_, ?_, ?_, ?_, ?_⟩ <;> intros <;> omega) (by omega) (by omega) (by omega) (by omega) (by omega) (by omega) fR_55
            refine vc_iincE dX12_tellNow_96 rfl (by omega) (by omega) (by decide) rfl (show _ = [some (aR 54), none, none, some (aI x3), some (aI (v4 + 1))] from rfl) ?_
            refine vc_goto dX12_tellNow_99 ?_
            have k32 : mI (sI Mq58 55 (((x3 + 3) + v4).toNat) 0) 54 4 = mI Mq58 54 4 := rfl
            exact ih58 (sI Mq58 55 (((x3 + 3) + v4).toNat) 0) (v4 + 1) hB31 kp28 kp29 kp30 (by omega) (by omega) (by ((repeat rw [mI_sI, if_neg (by omega)]); try omega)) (by first | (rw [mI_sI, if_neg (by omega)]; exact g58i1) | (rw [mI_sI, if_pos (by omega)]; omega)) (by first | (rw [mI_sI, if_neg (by omega)]; exact g58i2) | (rw [mI_sI, if_neg (by omega), mI_sI, if_neg (by omega), mI_sI, if_pos (by omega)]) | (rw [mI_sI, if_neg (by omega), mI_sI, if_pos (by omega)]) | (rw [mI_sI, if_pos (by omega)])) (by first | (rw [mI_sI, if_neg (by omega)]; exact g58i3) | (rw [mI_sI, if_neg (by omega), mI_sI, if_neg (by omega), mI_sI, if_pos (by omega)]) | (rw [mI_sI, if_neg (by omega), mI_sI, if_pos (by omega)]) | (rw [mI_sI, if_pos (by omega)])) (by first | (rw [mI_sI, if_neg (by omega)]; exact g58i4) | (rw [mI_sI, if_neg (by omega), mI_sI, if_neg (by omega), mI_sI, if_pos (by omega)]) | (rw [mI_sI, if_neg (by omega), mI_sI, if_pos (by omega)]) | (rw [mI_sI, if_pos (by omega)])) (by first | (intro q hq; exfalso; omega) | (intro q hq hq3; by_cases hq2 : q = v4.toNat; (rw [mI_sI, if_pos (by omega)]; first | (exfalso; omega) | (rw [hq2]; exact congrFun kp58_58 _)); (rw [mI_sI, if_neg (by omega)]; exact g58i5 q (by omega) hq3))) (by first | (intro j j1 j2; rw [mI_sI, if_neg (by omega)]; exact g58i6 j j1 j2) | (intro j j1 j2; rw [mI_sI, if_neg (by omega), mI_sI, if_neg (by omega), mI_sI, if_neg (by omega)])) (by omega)
          · refine vc_aload_n dX12_tellNow_84 rfl ?_
            refine vc_getR dX12_tellNow_85 flX12_19 (s_54 hQ58.1.1) rfl (r_54_3 hQ58.1.1) ?_
            refine vc_iload dX12_tellNow_88 rfl ?_
            refine vc_iaload dX12_tellNow_90 (s_58 hQ58.1.1) (by omega) (by omega) ?_
            have k33 : mI Mq58 58 v4.toNat = mI M 58 v4.toNat := congrFun kp58_58 v4.toNat
            refine vc_goto dX12_tellNow_91 ?_
            refine vc_iastore dX12_tellNow_95 (s_55 hQ58.1.1) (by omega) (by omega) ?_
            have kp34 : mI (sI Mq58 55 (((x3 + 3) + v4).toNat) (mI Mq58 58 v4.toNat)) 57 = mI M 57 := (kp_sI kp58_57 rfl)
            have kp35 : mI (sI Mq58 55 (((x3 + 3) + v4).toNat) (mI Mq58 58 v4.toNat)) 58 = mI M 58 := (kp_sI kp58_58 rfl)
            have kp36 : mI (sI Mq58 55 (((x3 + 3) + v4).toNat) (mI Mq58 58 v4.toNat)) 54 = mI M 54 := (kp_sI kp58_54 rfl)
            have hB37 : BF fR M (sI Mq58 55 (((x3 + 3) + v4).toNat) (mI Mq58 58 v4.toNat)) := BF.a (x := (x3 + 3) + v4) hQ58 (by omega) (by omega) (by unfold aB; refine ⟨?_, ?_, ?_, ?_, ?_, ?_, ?_, ?_, ?_, ?_, ?_, ?_, ?_, ?_, ?_, ?_, ?_, ?_⟩ <;> intros <;> omega) (by omega) (by omega) (by omega) (by omega) (by omega) (by omega) fR_55
            refine vc_iincE dX12_tellNow_96 rfl (by omega) (by omega) (by decide) rfl (show _ = [some (aR 54), none, none, some (aI x3), some (aI (v4 + 1))] from rfl) ?_
            refine vc_goto dX12_tellNow_99 ?_
            have k38 : mI (sI Mq58 55 (((x3 + 3) + v4).toNat) (mI Mq58 58 v4.toNat)) 54 4 = mI Mq58 54 4 := rfl
            exact ih58 (sI Mq58 55 (((x3 + 3) + v4).toNat) (mI Mq58 58 v4.toNat)) (v4 + 1) hB37 kp34 kp35 kp36 (by omega) (by omega) (by ((repeat rw [mI_sI, if_neg (by omega)]); try omega)) (by first | (rw [mI_sI, if_neg (by omega)]; exact g58i1) | (rw [mI_sI, if_pos (by omega)]; omega)) (by first | (rw [mI_sI, if_neg (by omega)]; exact g58i2) | (rw [mI_sI, if_neg (by omega), mI_sI, if_neg (by omega), mI_sI, if_pos (by omega)]) | (rw [mI_sI, if_neg (by omega), mI_sI, if_pos (by omega)]) | (rw [mI_sI, if_pos (by omega)])) (by first | (rw [mI_sI, if_neg (by omega)]; exact g58i3) | (rw [mI_sI, if_neg (by omega), mI_sI, if_neg (by omega), mI_sI, if_pos (by omega)]) | (rw [mI_sI, if_neg (by omega), mI_sI, if_pos (by omega)]) | (rw [mI_sI, if_pos (by omega)])) (by first | (rw [mI_sI, if_neg (by omega)]; exact g58i4) | (rw [mI_sI, if_neg (by omega), mI_sI, if_neg (by omega), mI_sI, if_pos (by omega)]) | (rw [mI_sI, if_neg (by omega), mI_sI, if_pos (by omega)]) | (rw [mI_sI, if_pos (by omega)])) (by first | (intro q hq; exfalso; omega) | (intro q hq hq3; by_cases hq2 : q = v4.toNat; (rw [mI_sI, if_pos (by omega)]; first | (exfalso; omega) | (rw [hq2]; exact congrFun kp58_58 _)); (rw [mI_sI, if_neg (by omega)]; exact g58i5 q (by omega) hq3))) (by first | (intro j j1 j2; rw [mI_sI, if_neg (by omega)]; exact g58i6 j j1 j2) | (intro j j1 j2; rw [mI_sI, if_neg (by omega), mI_sI, if_neg (by omega), mI_sI, if_neg (by omega)])) (by omega)
    refine vc_less [some (aR 54), none, none, some (aI x3), some (aI 0)] (lessL_keep (lessL_drop (lessL_drop (lessL_keep (lessL_keep (lessL_nil)))))) ?_
    have k39 : mI (sI (sI (sI M 55 x3.toNat t) 55 ((x3 + 1).toNat) f) 55 ((x3 + 2).toNat) (mI M 54 4)) 54 4 = mI M 54 4 := rfl
    exact lp58 _ (sI (sI (sI M 55 x3.toNat t) 55 ((x3 + 1).toNat) f) 55 ((x3 + 2).toNat) (mI M 54 4)) 0 hB17 kp14 kp15 kp16 (by omega) (by omega) (by ((repeat rw [mI_sI, if_neg (by omega)]); try omega)) (by first | (rw [mI_sI, if_neg (by omega)]; exact g58i1) | (rw [mI_sI, if_pos (by omega)]; omega)) (by first | (rw [mI_sI, if_neg (by omega)]; exact g58i2) | (rw [mI_sI, if_neg (by omega), mI_sI, if_neg (by omega), mI_sI, if_pos (by omega)]) | (rw [mI_sI, if_neg (by omega), mI_sI, if_pos (by omega)]) | (rw [mI_sI, if_pos (by omega)])) (by first | (rw [mI_sI, if_neg (by omega)]; exact g58i3) | (rw [mI_sI, if_neg (by omega), mI_sI, if_neg (by omega), mI_sI, if_pos (by omega)]) | (rw [mI_sI, if_neg (by omega), mI_sI, if_pos (by omega)]) | (rw [mI_sI, if_pos (by omega)])) (by first | (rw [mI_sI, if_neg (by omega)]; exact g58i4) | (rw [mI_sI, if_neg (by omega), mI_sI, if_neg (by omega), mI_sI, if_pos (by omega)]) | (rw [mI_sI, if_neg (by omega), mI_sI, if_pos (by omega)]) | (rw [mI_sI, if_pos (by omega)])) (by first | (intro q hq; exfalso; omega) | (intro q hq hq3; by_cases hq2 : q = v4.toNat; (rw [mI_sI, if_pos (by omega)]; first | (exfalso; omega) | (rw [hq2]; exact congrFun kp58_58 _)); (rw [mI_sI, if_neg (by omega)]; exact g58i5 q (by omega) hq3))) (by first | (intro j j1 j2; rw [mI_sI, if_neg (by omega)]; exact g58i6 j j1 j2) | (intro j j1 j2; rw [mI_sI, if_neg (by omega), mI_sI, if_neg (by omega), mI_sI, if_neg (by omega)])) (Nat.lt_succ_self _)
  · refine vc_iconst dX12_tellNow_11 rfl ?_
    refine vc_iret dX12_tellNow_12 rfl (Nat.le_of_ble_eq_true rfl) (Nat.le_of_ble_eq_true rfl) ?_
    exact ⟨_, rfl, hB0, rfl, Or.inl ⟨by omega, rfl, rfl⟩⟩

set_option maxRecDepth 4000 in
theorem sfX12_tellingF {l : Launch} {M : Mem} (hB : Box M)  (t : Int) (f : Int) (a : Int) (b : Int)  : Call l mdX12_telling [aR 54, aI t, aI f, aI a, aI b] M (fun q N => ∃ r : Int, q = some (aI r) ∧ BF fR M N ∧ (∀ (S S' : Sw) (r9 : Int), AR (mI M 55) S → TellingS t f a b S S' r9 → r = r9 ∧ AR (mI N 55) S')) := by
  have hB0 : BF fR M M := BF.start hB
  refine Call.of [some (aR 54), some (aI t), some (aI f), some (aI a), some (aI b)] rfl (Nat.le_of_ble_eq_true rfl) rfl ?_
  refine vc_ok (fun hoM hoS hoL => ?_)
  have hr1 : -2147483648 ≤ t ∧ t < 2147483648 := hoL 1 _ rfl
  have hr2 : -2147483648 ≤ f ∧ f < 2147483648 := hoL 2 _ rfl
  have hr3 : -2147483648 ≤ a ∧ a < 2147483648 := hoL 3 _ rfl
  have hr4 : -2147483648 ≤ b ∧ b < 2147483648 := hoL 4 _ rfl
  refine vc_aload_n dX12_telling_0 rfl ?_
  refine vc_iconst dX12_telling_1 rfl ?_
  refine vc_putI dX12_telling_2 (plX12_97 _ rfl) (s_54 hB0.1.1) rfl ?_
  have kp1 : mI (sI M 54 4 0) 55 = mI M 55 := (kp_sI rfl rfl)
  have hB2 : BF fR M (sI M 54 4 0) := BF.w54_4 hB0 rfl (by omega) (by omega)
  refine vc_aload_n dX12_telling_5 rfl ?_
  refine vc_iload_n dX12_telling_6 rfl ?_
  have k3 : mI (sI M 54 4 0) 54 4 = 0 := rfl
  refine vc_cVI dX12_telling_7 (sfX12_isTellerF (M := (sI M 54 4 0)) hB2.1  t ) rfl okX12_isTeller viX12_isTeller lkX12_103 (s_54 hB2.1.1) cl_12 rfl (Nat.le_of_ble_eq_true rfl) ⟨rfl, rfl⟩ (Nat.le_of_ble_eq_true rfl) (Nat.le_of_ble_eq_true rfl) (Nat.le_of_ble_eq_true rfl) ?_
  rintro x4 _ ⟨rfl, h5, h6, h7, h8⟩
  refine vc_if_eq dX12_telling_10 (fun h9 => ?_) (fun h9 => ?_)
  · refine vc_iconst dX12_telling_59 rfl ?_
    refine vc_iret dX12_telling_60 rfl (Nat.le_of_ble_eq_true rfl) (Nat.le_of_ble_eq_true rfl) ?_
    have e552 : mI (sI M 54 4 0) 55 2 = mI M 55 2 := rfl
    refine ⟨_, rfl, hB2, fun S S' r9 hA hC => ?_⟩
    refine tell_bad (M := M) kp1 hA (fun q => ?_) hC
    obtain ⟨⟨k1, k2, k3, k4, k5⟩, hq⟩ := q
    have c2 := hA.1.1.2.2.1
    omega
  · refine vc_iload_n dX12_telling_13 rfl ?_
    refine vc_iconst dX12_telling_14 rfl ?_
    refine vc_iconst dX12_telling_15 rfl ?_
    refine vc_cSI dX12_telling_16 (sfX12_isInF (M := (sI M 54 4 0)) hB2.1  f 0 3 ) rfl okX12_isIn stX12_isIn lkX12_83 rfl (Nat.le_of_ble_eq_true rfl) ⟨rfl, rfl⟩ (Nat.le_of_ble_eq_true rfl) (Nat.le_of_ble_eq_true rfl) (Nat.le_of_ble_eq_true rfl) ?_
    rintro x10 _ ⟨rfl, h11, h12, h13⟩
    refine vc_if_eq dX12_telling_19 (fun h14 => ?_) (fun h14 => ?_)
    · refine vc_iconst dX12_telling_59 rfl ?_
      refine vc_iret dX12_telling_60 rfl (Nat.le_of_ble_eq_true rfl) (Nat.le_of_ble_eq_true rfl) ?_
      have e552 : mI (sI M 54 4 0) 55 2 = mI M 55 2 := rfl
      refine ⟨_, rfl, hB2, fun S S' r9 hA hC => ?_⟩
      refine tell_bad (M := M) kp1 hA (fun q => ?_) hC
      obtain ⟨⟨k1, k2, k3, k4, k5⟩, hq⟩ := q
      have c2 := hA.1.1.2.2.1
      omega
    · refine vc_aload_n dX12_telling_22 rfl ?_
      refine vc_iload_n dX12_telling_23 rfl ?_
      refine vc_cVI dX12_telling_24 (sfX12_takeF (M := (sI M 54 4 0)) hB2.1  a (by omega)) rfl okX12_take viX12_take lkX12_106 (s_54 hB2.1.1) cl_12 rfl (Nat.le_of_ble_eq_true rfl) ⟨rfl, rfl⟩ (Nat.le_of_ble_eq_true rfl) (Nat.le_of_ble_eq_true rfl) (Nat.le_of_ble_eq_true rfl) ?_
      rintro x15 M16 ⟨hB17, kp18, h19, h20, h21, h22, h23⟩
      have hB24 : BF fR M M16 := BF.go hB2 hB17.r
      have kp25 : mI M16 55 = mI M 55 := kp_go kp1 kp18
      have htk26 := h23
      refine vc_if_eq dX12_telling_27 (fun h27 => ?_) (fun h27 => ?_)
      · refine vc_iconst dX12_telling_59 rfl ?_
        refine vc_iret dX12_telling_60 rfl (Nat.le_of_ble_eq_true rfl) (Nat.le_of_ble_eq_true rfl) ?_
        have e552 : mI (sI M 54 4 0) 55 2 = mI M 55 2 := rfl
        refine ⟨_, rfl, hB24, fun S S' r9 hA hC => ?_⟩
        refine tell_bad (M := M) kp25 hA (fun q => ?_) hC
        obtain ⟨⟨k1, k2, k3, k4, k5⟩, hq⟩ := q
        have c2 := hA.1.1.2.2.1
        have y1 := tell_1 hq rfl htk26
        have yb := cnT_b a
        have yc := hq.2
        rcases yc with yc | yc <;> omega
      · refine vc_aload_n dX12_telling_30 rfl ?_
        refine vc_getI dX12_telling_31 flX12_97 (s_54 hB24.1.1) rfl ?_
        have k28 : 0 ≤ mI M16 54 4 ∧ mI M16 54 4 ≤ 6 := b54_4 (M := M16) hB24.1
        refine vc_if_eq dX12_telling_34 (fun h29 => ?_) (fun h29 => ?_)
        · refine vc_iconst dX12_telling_59 rfl ?_
          refine vc_iret dX12_telling_60 rfl (Nat.le_of_ble_eq_true rfl) (Nat.le_of_ble_eq_true rfl) ?_
          have e552 : mI (sI M 54 4 0) 55 2 = mI M 55 2 := rfl
          refine ⟨_, rfl, hB24, fun S S' r9 hA hC => ?_⟩
          refine tell_bad (M := M) kp25 hA (fun q => ?_) hC
          obtain ⟨⟨k1, k2, k3, k4, k5⟩, hq⟩ := q
          have c2 := hA.1.1.2.2.1
          have y1 := tell_1 hq rfl htk26
          have yb := cnT_b a
          have yc := hq.2
          rcases yc with yc | yc <;> omega
        · refine vc_iload dX12_telling_37 rfl ?_
          refine vc_if_eq dX12_telling_39 (fun h30 => ?_) (fun h30 => ?_)
          · refine vc_aload_n dX12_telling_50 rfl ?_
            refine vc_iload dX12_telling_51 rfl ?_
            refine vc_cVI dX12_telling_53 (sfX12_takeF (M := M16) hB24.1  b (by omega)) rfl okX12_take viX12_take lkX12_106 (s_54 hB24.1.1) cl_12 rfl (Nat.le_of_ble_eq_true rfl) ⟨rfl, rfl⟩ (Nat.le_of_ble_eq_true rfl) (Nat.le_of_ble_eq_true rfl) (Nat.le_of_ble_eq_true rfl) ?_
            rintro x31 M32 ⟨hB33, kp34, h35, h36, h37, h38, h39⟩
            have hB40 : BF fR M M32 := BF.go hB24 hB33.r
            have kp41 : mI M32 55 = mI M 55 := kp_go kp25 kp34
            have htk42 := h39
            refine vc_if_ne dX12_telling_56 (fun h43 => ?_) (fun h43 => ?_)
            · refine vc_aload_n dX12_telling_61 rfl ?_
              refine vc_iload_n dX12_telling_62 rfl ?_
              refine vc_iload_n dX12_telling_63 rfl ?_
              refine vc_cVI dX12_telling_64 (sfX12_tellNowF (M := M32) hB40.1  t f (by omega) (by omega) (by omega) (by omega) (by omega)) rfl okX12_tellNow viX12_tellNow lkX12_109 (s_54 hB40.1.1) cl_12 rfl (Nat.le_of_ble_eq_true rfl) ⟨rfl, rfl⟩ (Nat.le_of_ble_eq_true rfl) (Nat.le_of_ble_eq_true rfl) (Nat.le_of_ble_eq_true rfl) ?_
              rintro x44 M45 ⟨hB46, kp47, h48⟩
              have hB49 : BF fR M M45 := BF.go hB40 hB46
              have htn := h48
              refine vc_iret dX12_telling_67 rfl (Nat.le_of_ble_eq_true rfl) (Nat.le_of_ble_eq_true rfl) ?_
              have e552 : mI (sI M 54 4 0) 55 2 = mI M 55 2 := rfl
              refine ⟨_, rfl, hB49, fun S S' r9 hA hC => ?_⟩
              obtain ⟨hq, h4, h8⟩ := tell_ok rfl htk26 (by omega) htk42 (by omega) (by omega) (by omega)
              have k55 : mI M32 55 = mI M 55 := kp41
              have k2 := congrFun k55 2
              exact htn.ar (by rw [k55]; exact hA) ⟨by omega, by omega⟩ ⟨by omega, by omega⟩ hq h4 h8 hC
            · refine vc_iconst dX12_telling_59 rfl ?_
              refine vc_iret dX12_telling_60 rfl (Nat.le_of_ble_eq_true rfl) (Nat.le_of_ble_eq_true rfl) ?_
              have e552 : mI (sI M 54 4 0) 55 2 = mI M 55 2 := rfl
              refine ⟨_, rfl, hB40, fun S S' r9 hA hC => ?_⟩
              refine tell_bad (M := M) kp41 hA (fun q => ?_) hC
              obtain ⟨⟨k1, k2, k3, k4, k5⟩, hq⟩ := q
              have c2 := hA.1.1.2.2.1
              have y1 := tell_1 hq rfl htk26
              have yb := cnT_b a
              have yc := hq.2
              have y2 := tell_2 hq htk42
              rcases yc with yc | yc <;> omega
          · refine vc_aload_n dX12_telling_42 rfl ?_
            refine vc_getI dX12_telling_43 flX12_97 (s_54 hB24.1.1) rfl ?_
            refine vc_iconst dX12_telling_46 rfl ?_
            refine vc_icmp_lt dX12_telling_47 (fun h50 => ?_) (fun h50 => ?_)
            · refine vc_iconst dX12_telling_59 rfl ?_
              refine vc_iret dX12_telling_60 rfl (Nat.le_of_ble_eq_true rfl) (Nat.le_of_ble_eq_true rfl) ?_
              have e552 : mI (sI M 54 4 0) 55 2 = mI M 55 2 := rfl
              refine ⟨_, rfl, hB24, fun S S' r9 hA hC => ?_⟩
              refine tell_bad (M := M) kp25 hA (fun q => ?_) hC
              obtain ⟨⟨k1, k2, k3, k4, k5⟩, hq⟩ := q
              have c2 := hA.1.1.2.2.1
              have y1 := tell_1 hq rfl htk26
              have yb := cnT_b a
              have yc := hq.2
              rcases yc with yc | yc <;> omega
            · refine vc_aload_n dX12_telling_50 rfl ?_
              refine vc_iload dX12_telling_51 rfl ?_
              refine vc_cVI dX12_telling_53 (sfX12_takeF (M := M16) hB24.1  b (by omega)) rfl okX12_take viX12_take lkX12_106 (s_54 hB24.1.1) cl_12 rfl (Nat.le_of_ble_eq_true rfl) ⟨rfl, rfl⟩ (Nat.le_of_ble_eq_true rfl) (Nat.le_of_ble_eq_true rfl) (Nat.le_of_ble_eq_true rfl) ?_
              rintro x51 M52 ⟨hB53, kp54, h55, h56, h57, h58, h59⟩
              have hB60 : BF fR M M52 := BF.go hB24 hB53.r
              have kp61 : mI M52 55 = mI M 55 := kp_go kp25 kp54
              have htk62 := h59
              refine vc_if_ne dX12_telling_56 (fun h63 => ?_) (fun h63 => ?_)
              · refine vc_aload_n dX12_telling_61 rfl ?_
                refine vc_iload_n dX12_telling_62 rfl ?_
                refine vc_iload_n dX12_telling_63 rfl ?_
                refine vc_cVI dX12_telling_64 (sfX12_tellNowF (M := M52) hB60.1  t f (by omega) (by omega) (by omega) (by omega) (by omega)) rfl okX12_tellNow viX12_tellNow lkX12_109 (s_54 hB60.1.1) cl_12 rfl (Nat.le_of_ble_eq_true rfl) ⟨rfl, rfl⟩ (Nat.le_of_ble_eq_true rfl) (Nat.le_of_ble_eq_true rfl) (Nat.le_of_ble_eq_true rfl) ?_
                rintro x64 M65 ⟨hB66, kp67, h68⟩
                have hB69 : BF fR M M65 := BF.go hB60 hB66
                have htn := h68
                refine vc_iret dX12_telling_67 rfl (Nat.le_of_ble_eq_true rfl) (Nat.le_of_ble_eq_true rfl) ?_
                have e552 : mI (sI M 54 4 0) 55 2 = mI M 55 2 := rfl
                refine ⟨_, rfl, hB69, fun S S' r9 hA hC => ?_⟩
                obtain ⟨hq, h4, h8⟩ := tell_ok rfl htk26 (by omega) htk62 (by omega) (by omega) (by omega)
                have k55 : mI M52 55 = mI M 55 := kp61
                have k2 := congrFun k55 2
                exact htn.ar (by rw [k55]; exact hA) ⟨by omega, by omega⟩ ⟨by omega, by omega⟩ hq h4 h8 hC
              · refine vc_iconst dX12_telling_59 rfl ?_
                refine vc_iret dX12_telling_60 rfl (Nat.le_of_ble_eq_true rfl) (Nat.le_of_ble_eq_true rfl) ?_
                have e552 : mI (sI M 54 4 0) 55 2 = mI M 55 2 := rfl
                refine ⟨_, rfl, hB60, fun S S' r9 hA hC => ?_⟩
                refine tell_bad (M := M) kp61 hA (fun q => ?_) hC
                obtain ⟨⟨k1, k2, k3, k4, k5⟩, hq⟩ := q
                have c2 := hA.1.1.2.2.1
                have y1 := tell_1 hq rfl htk26
                have yb := cnT_b a
                have yc := hq.2
                have y2 := tell_2 hq htk62
                rcases yc with yc | yc <;> omega

