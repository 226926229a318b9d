/-! CONTRACTS of the reference: how far, orders, signs, images (written by wip/p35/c84.py) -/
/-- how many aren't done -/
def nd (f : Nat → Int) : Nat → Nat
  | 0 => 0
  | n + 1 => nd f n + (if f n = 0 then 1 else 0)
theorem nd_same {f g : Nat → Int} : ∀ n : Nat, (∀ j, j < n → g j = f j) → nd g n = nd f n
  | 0, _ => rfl
  | n + 1, h => by
    unfold nd
    rw [nd_same n (fun j hj => h j (by omega)), h n (by omega)]
theorem nd_up {M : Mem} {k c : Nat} (h0 : mI M k c = 0) : ∀ n : Nat, c < n → nd (mI (sI M k c 1) k) n + 1 = nd (mI M k) n
  | 0, h => absurd h (by omega)
  | n + 1, h => by
    unfold nd
    by_cases e : c = n
    · subst e
      have e1 : mI (sI M k c 1) k c = 1 := mI_same
      rw [nd_same (f := mI M k) c (fun j hj => by rw [mI_sI, if_neg (fun e => by omega)]), e1, h0, if_neg (by decide : ¬ (1 : Int) = 0), if_pos (rfl : (0 : Int) = 0)]
    · have q := nd_up h0 n (by omega)
      have e1 : mI (sI M k c 1) k n = mI M k n := by rw [mI_sI, if_neg (fun e2 => e e2.2.symm)]
      rw [e1]
      omega
set_option maxRecDepth 4000 in
theorem sfX12_nearest {l : Launch} {M : Mem} (hB : Box M)  (f : Int) (p0 : 0 ≤ f) (p1 : f ≤ 15) : Call l mdX12_nearest [aR 54, aI f] M (fun q N => ∃ r : Int, q = some (aI r) ∧ M = N ∧ (-1) ≤ r ∧ r ≤ 15 ∧ (r = -1 ∨ mI M 69 r.toNat = 0)) := by
  have hB0 : BF fQ M M := BF.start hB
  refine Call.of [some (aR 54), some (aI f), none, none] rfl (Nat.le_of_ble_eq_true rfl) rfl ?_
  refine vc_iconst dX12_nearest_0 rfl ?_
  refine vc_istore_n dX12_nearest_1 (by decide) rfl (show _ = [some (aR 54), some (aI f), some (aI (-1)), none] from rfl) ?_
  refine vc_iconst dX12_nearest_2 rfl ?_
  refine vc_istore_n dX12_nearest_3 (by decide) rfl (show _ = [some (aR 54), some (aI f), some (aI (-1)), some (aI 0)] from rfl) ?_
  have lp4 : ∀ (n4 : Nat) (v2 : Int) (v3 : Int), ((-1) ≤ v2) → (v2 ≤ 15) → (0 ≤ v3) → (v3 ≤ 16) → (v2 = -1 ∨ mI M 69 v2.toNat = 0) → (16 - v3).toNat < n4 → VC l mdX12_nearest 4 [some (aR 54), some (aI f), some (aI v2), some (aI v3)] [] M 0 0 (fun q N => ∃ r : Int, q = some (aI r) ∧ M = N ∧ (-1) ≤ r ∧ r ≤ 15 ∧ (r = -1 ∨ mI M 69 r.toNat = 0)) := by
    intro n4
    induction n4 with
    | zero => intro v2 v3 g4_2a g4_2b g4_3a g4_3b g4i0 hm4; exact absurd hm4 (Nat.not_lt_zero _)
    | succ n4 ih4 =>
      intro v2 v3 g4_2a g4_2b g4_3a g4_3b g4i0 hm4
      refine vc_iload_n dX12_nearest_4 rfl ?_
      refine vc_aload_n dX12_nearest_5 rfl ?_
      refine vc_getR dX12_nearest_6 flX12_7 (s_54 hB0.1.1) rfl (r_54_0 hB0.1.1) ?_
      refine vc_iconst dX12_nearest_9 rfl ?_
      refine vc_iaload dX12_nearest_10 (s_55 hB0.1.1) (by omega) (by omega) ?_
      refine vc_topI (mI M 55 0) rfl ?_
      have k1 : 0 ≤ mI M 55 0 ∧ mI M 55 0 ≤ 16 := b55_0 (M := M) hB0.1
      refine vc_icmp_ge dX12_nearest_11 (fun h2 => ?_) (fun h2 => ?_)
      · refine vc_iload_n dX12_nearest_77 rfl ?_
        refine vc_iret dX12_nearest_78 rfl (Nat.le_of_ble_eq_true rfl) (Nat.le_of_ble_eq_true rfl) ?_
        exact ⟨_, rfl, rfl, by omega, by omega, by omega⟩
      · refine vc_aload_n dX12_nearest_14 rfl ?_
        refine vc_getR dX12_nearest_15 flX12_60 (s_54 hB0.1.1) rfl (r_54_39 hB0.1.1) ?_
        refine vc_iload_n dX12_nearest_18 rfl ?_
        refine vc_baload dX12_nearest_19 (s_69 hB0.1.1) (by omega) (by omega) ?_
        refine vc_if_ne dX12_nearest_20 (fun h3 => ?_) (fun h3 => ?_)
        · refine vc_iincE dX12_nearest_71 rfl (by omega) (by omega) (by decide) rfl (show _ = [some (aR 54), some (aI f), some (aI v2), some (aI (v3 + 1))] from rfl) ?_
          refine vc_goto dX12_nearest_74 ?_
          exact ih4 v2 (v3 + 1) (by omega) (by omega) (by omega) (by omega) (by omega) (by omega)
        · refine vc_aload_n dX12_nearest_23 rfl ?_
          refine vc_getR dX12_nearest_24 flX12_57 (s_54 hB0.1.1) rfl (r_54_38 hB0.1.1) ?_
          refine vc_bipush dX12_nearest_27 rfl ?_
          refine vc_iload_n dX12_nearest_29 rfl ?_
          refine vc_imulE dX12_nearest_30 (by omega) (by omega) ?_
          refine vc_iload_n dX12_nearest_31 rfl ?_
          refine vc_iaddE dX12_nearest_32 (by omega) (by omega) ?_
          refine vc_iaload dX12_nearest_33 (s_68 hB0.1.1) (by omega) (by omega) ?_
          refine vc_ldcw dX12_nearest_34 rfl kcX12_483 ?_
          refine vc_icmp_ge dX12_nearest_37 (fun h4 => ?_) (fun h4 => ?_)
          · refine vc_iincE dX12_nearest_71 rfl (by omega) (by omega) (by decide) rfl (show _ = [some (aR 54), some (aI f), some (aI v2), some (aI (v3 + 1))] from rfl) ?_
            refine vc_goto dX12_nearest_74 ?_
            exact ih4 v2 (v3 + 1) (by omega) (by omega) (by omega) (by omega) (by omega) (by omega)
          · refine vc_iload_n dX12_nearest_40 rfl ?_
            refine vc_if_lt dX12_nearest_41 (fun h5 => ?_) (fun h5 => ?_)
            · refine vc_iload_n dX12_nearest_69 rfl ?_
              refine vc_istore_n dX12_nearest_70 (by decide) rfl (show _ = [some (aR 54), some (aI f), some (aI v3), some (aI v3)] from rfl) ?_
              refine vc_iincE dX12_nearest_71 rfl (by omega) (by omega) (by decide) rfl (show _ = [some (aR 54), some (aI f), some (aI v3), some (aI (v3 + 1))] from rfl) ?_
              refine vc_goto dX12_nearest_74 ?_
              exact ih4 v3 (v3 + 1) (by omega) (by omega) (by omega) (by omega) (by omega) (by omega)
            · refine vc_aload_n dX12_nearest_44 rfl ?_
              refine vc_getR dX12_nearest_45 flX12_57 (s_54 hB0.1.1) rfl (r_54_38 hB0.1.1) ?_
              refine vc_bipush dX12_nearest_48 rfl ?_
              refine vc_iload_n dX12_nearest_50 rfl ?_
              refine vc_imulE dX12_nearest_51 (by omega) (by omega) ?_
              refine vc_iload_n dX12_nearest_52 rfl ?_
              refine vc_iaddE dX12_nearest_53 (by omega) (by omega) ?_
              refine vc_iaload dX12_nearest_54 (s_68 hB0.1.1) (by omega) (by omega) ?_
              refine vc_aload_n dX12_nearest_55 rfl ?_
              refine vc_getR dX12_nearest_56 flX12_57 (s_54 hB0.1.1) rfl (r_54_38 hB0.1.1) ?_
              refine vc_bipush dX12_nearest_59 rfl ?_
              refine vc_iload_n dX12_nearest_61 rfl ?_
              refine vc_imulE dX12_nearest_62 (by omega) (by omega) ?_
              refine vc_iload_n dX12_nearest_63 rfl ?_
              refine vc_iaddE dX12_nearest_64 (by omega) (by omega) ?_
              refine vc_iaload dX12_nearest_65 (s_68 hB0.1.1) (by omega) (by omega) ?_
              refine vc_icmp_ge dX12_nearest_66 (fun h6 => ?_) (fun h6 => ?_)
              · refine vc_iincE dX12_nearest_71 rfl (by omega) (by omega) (by decide) rfl (show _ = [some (aR 54), some (aI f), some (aI v2), some (aI (v3 + 1))] from rfl) ?_
                refine vc_goto dX12_nearest_74 ?_
                exact ih4 v2 (v3 + 1) (by omega) (by omega) (by omega) (by omega) (by omega) (by omega)
              · refine vc_iload_n dX12_nearest_69 rfl ?_
                refine vc_istore_n dX12_nearest_70 (by decide) rfl (show _ = [some (aR 54), some (aI f), some (aI v3), some (aI v3)] from rfl) ?_
                refine vc_iincE dX12_nearest_71 rfl (by omega) (by omega) (by decide) rfl (show _ = [some (aR 54), some (aI f), some (aI v3), some (aI (v3 + 1))] from rfl) ?_
                refine vc_goto dX12_nearest_74 ?_
                exact ih4 v3 (v3 + 1) (by omega) (by omega) (by omega) (by omega) (by omega) (by omega)
  exact lp4 _ (-1) 0 (by omega) (by omega) (by omega) (by omega) (by omega) (Nat.lt_succ_self _)

set_option maxRecDepth 4000 in
theorem sfX12_findFar {l : Launch} {M : Mem} (hB : Box M)  (f : Int) (p0 : 0 ≤ f) (p1 : f ≤ 15) : Call l mdX12_findFar [aR 54, aI f] M (fun q N => q = none ∧ BF fVs M N ∧ mI N 54 = mI M 54 ∧ mI N 55 = mI M 55 ∧ mI N 71 = mI M 71) := by
  have hB0 : BF fVs M M := BF.start hB
  refine Call.of [some (aR 54), some (aI f), none, none, none, none] rfl (Nat.le_of_ble_eq_true rfl) rfl ?_
  refine vc_iconst dX12_findFar_0 rfl ?_
  refine vc_istore_n dX12_findFar_1 (by decide) rfl (show _ = [some (aR 54), some (aI f), some (aI 0), none, none, none] from rfl) ?_
  have ex44 : ∀ (Mq2 : Mem) , (BF fVs M Mq2) → (mI Mq2 71 = mI M 71) → (mI Mq2 54 = mI M 54) → (mI Mq2 55 = mI M 55) → VC l mdX12_findFar 44 [some (aR 54), some (aI f), none, none, none, none] [] Mq2 0 0 (fun q N => q = none ∧ BF fVs M N ∧ mI N 54 = mI M 54 ∧ mI N 55 = mI M 55 ∧ mI N 71 = mI M 71) := by
    intro Mq2 hQ2 kp2_71 kp2_54 kp2_55
    refine vc_aload_n dX12_findFar_44 rfl ?_
    refine vc_iload_n dX12_findFar_45 rfl ?_
    refine vc_cVI dX12_findFar_46 (sfX12_nearest (M := Mq2) hQ2.1  f (by omega) (by omega)) rfl okX12_nearest viX12_nearest lkX12_484 (s_54 hQ2.1.1) cl_12 rfl (Nat.le_of_ble_eq_true rfl) ⟨rfl, rfl⟩ (Nat.le_of_ble_eq_true rfl) (Nat.le_of_ble_eq_true rfl) (Nat.le_of_ble_eq_true rfl) ?_
    rintro x1 _ ⟨rfl, h2, h3, h4⟩
    refine vc_istore_n dX12_findFar_49 (by decide) rfl (show _ = [some (aR 54), some (aI f), some (aI x1), none, none, none] from rfl) ?_
    have lp50 : ∀ (n50 : Nat) (Mq50 : Mem) (v2 : Int), (BF fVs M Mq50) → (mI Mq50 71 = mI M 71) → (mI Mq50 54 = mI M 54) → (mI Mq50 55 = mI M 55) → ((-1) ≤ v2) → (v2 ≤ 15) → (v2 = -1 ∨ mI Mq50 69 v2.toNat = 0) → ((nd (mI Mq50 69) 16 : Int)).toNat < n50 → VC l mdX12_findFar 50 [some (aR 54), some (aI f), some (aI v2), none, none, none] [] Mq50 0 0 (fun q N => q = none ∧ BF fVs M N ∧ mI N 54 = mI M 54 ∧ mI N 55 = mI M 55 ∧ mI N 71 = mI M 71) := by
      intro n50
      induction n50 with
      | zero => intro Mq50 v2 hQ50 kp50_71 kp50_54 kp50_55 g50_2a g50_2b g50i0 hm50; exact absurd hm50 (Nat.not_lt_zero _)
      | succ n50 ih50 =>
        intro Mq50 v2 hQ50 kp50_71 kp50_54 kp50_55 g50_2a g50_2b g50i0 hm50
        refine vc_iload_n dX12_findFar_50 rfl ?_
        refine vc_if_lt dX12_findFar_51 (fun h5 => ?_) (fun h5 => ?_)
        · refine vc_vret dX12_findFar_150 rfl (Nat.le_of_ble_eq_true rfl) (Nat.le_of_ble_eq_true rfl) ?_
          exact ⟨rfl, hQ50, kp50_54, kp50_55, kp50_71⟩
        · refine vc_aload_n dX12_findFar_54 rfl ?_
          refine vc_getR dX12_findFar_55 flX12_60 (s_54 hQ50.1.1) rfl (r_54_39 hQ50.1.1) ?_
          refine vc_iload_n dX12_findFar_58 rfl ?_
          refine vc_iconst dX12_findFar_59 rfl ?_
          refine vc_bastore dX12_findFar_60 (s_69 hQ50.1.1) (by omega) (by omega) (by first | decide | omega) ?_
          have kp6 : mI (sI Mq50 69 v2.toNat 1) 71 = mI M 71 := (kp_sI kp50_71 rfl)
          have kp7 : mI (sI Mq50 69 v2.toNat 1) 54 = mI M 54 := (kp_sI kp50_54 rfl)
          have kp8 : mI (sI Mq50 69 v2.toNat 1) 55 = mI M 55 := (kp_sI kp50_55 rfl)
          have hB9 : BF fVs M (sI Mq50 69 v2.toNat 1) := BF.w69 hQ50 (fun _ => rfl) _
          refine vc_iconst dX12_findFar_61 rfl ?_
          refine vc_istore_n dX12_findFar_62 (by decide) rfl (show _ = [some (aR 54), some (aI f), some (aI v2), some (aI 0), none, none] from rfl) ?_
          have lp63 : ∀ (n63 : Nat) (Mq63 : Mem) (v3 : Int), (BF fVs M Mq63) → (mI Mq63 71 = mI M 71) → (mI Mq63 54 = mI M 54) → (mI Mq63 55 = mI M 55) → (0 ≤ v3) → (v3 ≤ 4) → (mI Mq63 69 = mI (sI Mq50 69 v2.toNat 1) 69) → (4 - v3).toNat < n63 → VC l mdX12_findFar 63 [some (aR 54), some (aI f), some (aI v2), some (aI v3), none, none] [] Mq63 0 0 (fun q N => q = none ∧ BF fVs M N ∧ mI N 54 = mI M 54 ∧ mI N 55 = mI M 55 ∧ mI N 71 = mI M 71) := by
            intro n63
            induction n63 with
            | zero => intro Mq63 v3 hQ63 kp63_71 kp63_54 kp63_55 g63_3a g63_3b g63i0 hm63; exact absurd hm63 (Nat.not_lt_zero _)
            | succ n63 ih63 =>
              intro Mq63 v3 hQ63 kp63_71 kp63_54 kp63_55 g63_3a g63_3b g63i0 hm63
              refine vc_iload_n dX12_findFar_63 rfl ?_
              refine vc_iconst dX12_findFar_64 rfl ?_
              refine vc_icmp_ge dX12_findFar_65 (fun h10 => ?_) (fun h10 => ?_)
              · refine vc_aload_n dX12_findFar_141 rfl ?_
                refine vc_iload_n dX12_findFar_142 rfl ?_
                refine vc_cVI dX12_findFar_143 (sfX12_nearest (M := Mq63) hQ63.1  f (by omega) (by omega)) rfl okX12_nearest viX12_nearest lkX12_484 (s_54 hQ63.1.1) cl_12 rfl (Nat.le_of_ble_eq_true rfl) ⟨rfl, rfl⟩ (Nat.le_of_ble_eq_true rfl) (Nat.le_of_ble_eq_true rfl) (Nat.le_of_ble_eq_true rfl) ?_
                rintro x11 _ ⟨rfl, h12, h13, h14⟩
                refine vc_istore_n dX12_findFar_146 (by decide) rfl (show _ = [some (aR 54), some (aI f), some (aI x11), some (aI v3), none, none] from rfl) ?_
                refine vc_goto dX12_findFar_147 ?_
                refine vc_less [some (aR 54), some (aI f), some (aI x11), none, none, none] (lessL_keep (lessL_keep (lessL_keep (lessL_drop (lessL_keep (lessL_keep (lessL_nil))))))) ?_
                exact ih50 Mq63 x11 hQ63 kp63_71 kp63_54 kp63_55 (by omega) (by omega) (by omega) (by (rw [g63i0]; have q9 := nd_up (M := Mq50) (k := 69) (c := v2.toNat) (by omega) 16 (by omega); omega))
              · refine vc_aload_n dX12_findFar_68 rfl ?_
                refine vc_iload_n dX12_findFar_69 rfl ?_
                refine vc_iload_n dX12_findFar_70 rfl ?_
                refine vc_cVI dX12_findFar_71 (sfX12_streetOf (M := Mq63) hQ63.1  v2 v3 (by omega) (by omega) (by omega) (by omega)) rfl okX12_streetOf viX12_streetOf lkX12_91 (s_54 hQ63.1.1) cl_12 rfl (Nat.le_of_ble_eq_true rfl) ⟨rfl, rfl⟩ (Nat.le_of_ble_eq_true rfl) (Nat.le_of_ble_eq_true rfl) (Nat.le_of_ble_eq_true rfl) ?_
                rintro x15 _ ⟨rfl, h16, h17, h18⟩
                refine vc_istore dX12_findFar_74 (by decide) rfl (show _ = [some (aR 54), some (aI f), some (aI v2), some (aI v3), some (aI x15), none] from rfl) ?_
                refine vc_iload dX12_findFar_76 rfl ?_
                refine vc_if_ge dX12_findFar_78 (fun h19 => ?_) (fun h19 => ?_)
                · refine vc_aload_n dX12_findFar_84 rfl ?_
                  refine vc_getR dX12_findFar_85 flX12_57 (s_54 hQ63.1.1) rfl (r_54_38 hQ63.1.1) ?_
                  refine vc_bipush dX12_findFar_88 rfl ?_
                  refine vc_iload_n dX12_findFar_90 rfl ?_
                  refine vc_imulE dX12_findFar_91 (by omega) (by omega) ?_
                  refine vc_iload_n dX12_findFar_92 rfl ?_
                  refine vc_iaddE dX12_findFar_93 (by omega) (by omega) ?_
                  refine vc_iaload dX12_findFar_94 (s_68 hQ63.1.1) (by omega) (by omega) ?_
                  refine vc_aload_n dX12_findFar_95 rfl ?_
                  refine vc_iload_n dX12_findFar_96 rfl ?_
                  refine vc_iload_n dX12_findFar_97 rfl ?_
                  refine vc_cVI dX12_findFar_98 (sfX12_paceOf (M := Mq63) hQ63.1  v2 v3 (by omega) (by omega) (by omega) (by omega)) rfl okX12_paceOf viX12_paceOf lkX12_345 (s_54 hQ63.1.1) cl_12 rfl (Nat.le_of_ble_eq_true rfl) ⟨rfl, rfl⟩ (Nat.le_of_ble_eq_true rfl) (Nat.le_of_ble_eq_true rfl) (Nat.le_of_ble_eq_true rfl) ?_
                  rintro x20 M21 ⟨hB22, kp23, kp24, kp25, kp26, kp27, kp28⟩
                  have hB29 : BF fVs M M21 := BF.go hQ63 hB22.sv
                  have kp30 : mI M21 71 = mI M 71 := kp_go kp63_71 kp28
                  have kp31 : mI M21 54 = mI M 54 := kp_go kp63_54 kp23
                  have kp32 : mI M21 55 = mI M 55 := kp_go kp63_55 kp24
                  have hd69 := kp27
                  refine vc_iadd dX12_findFar_101 ?_
                  refine vc_nameI (fun x33 ex33 => ?_)
                  refine vc_istore dX12_findFar_102 (by decide) rfl (show _ = [some (aR 54), some (aI f), some (aI v2), some (aI v3), some (aI x15), some (aI x33)] from rfl) ?_
                  refine vc_iload dX12_findFar_104 rfl ?_
                  refine vc_aload_n dX12_findFar_106 rfl ?_
                  refine vc_getR dX12_findFar_107 flX12_57 (s_54 hB29.1.1) rfl (r_54_38 hB29.1.1) ?_
                  refine vc_bipush dX12_findFar_110 rfl ?_
                  refine vc_iload_n dX12_findFar_112 rfl ?_
                  refine vc_imulE dX12_findFar_113 (by omega) (by omega) ?_
                  refine vc_iload dX12_findFar_114 rfl ?_
                  refine vc_iaddE dX12_findFar_116 (by omega) (by omega) ?_
                  refine vc_iaload dX12_findFar_117 (s_68 hB29.1.1) (by omega) (by omega) ?_
                  refine vc_icmp_ge dX12_findFar_118 (fun h34 => ?_) (fun h34 => ?_)
                  · refine vc_iincE dX12_findFar_135 rfl (by omega) (by omega) (by decide) rfl (show _ = [some (aR 54), some (aI f), some (aI v2), some (aI (v3 + 1)), some (aI x15), some (aI x33)] from rfl) ?_
                    refine vc_goto dX12_findFar_138 ?_
                    refine vc_less [some (aR 54), some (aI f), some (aI v2), some (aI (v3 + 1)), none, none] (lessL_keep (lessL_keep (lessL_keep (lessL_keep (lessL_drop (lessL_drop (lessL_nil))))))) ?_
                    exact ih63 M21 (v3 + 1) hB29 kp30 kp31 kp32 (by omega) (by omega) (by first | rfl | exact g63i0 | exact hd69.trans g63i0 | exact (kp_sI (hd69.trans g63i0) rfl)) (by omega)
                  · refine vc_aload_n dX12_findFar_121 rfl ?_
                    refine vc_getR dX12_findFar_122 flX12_57 (s_54 hB29.1.1) rfl (r_54_38 hB29.1.1) ?_
                    refine vc_bipush dX12_findFar_125 rfl ?_
                    refine vc_iload_n dX12_findFar_127 rfl ?_
                    refine vc_imulE dX12_findFar_128 (by omega) (by omega) ?_
                    refine vc_iload dX12_findFar_129 rfl ?_
                    refine vc_iaddE dX12_findFar_131 (by omega) (by omega) ?_
                    refine vc_iload dX12_findFar_132 rfl ?_
                    refine vc_iastore dX12_findFar_134 (s_68 hB29.1.1) (by omega) (by omega) ?_
                    have kp35 : mI (sI M21 68 (((16 * f) + x15).toNat) x33) 71 = mI M 71 := (kp_sI kp30 rfl)
                    have kp36 : mI (sI M21 68 (((16 * f) + x15).toNat) x33) 54 = mI M 54 := (kp_sI kp31 rfl)
                    have kp37 : mI (sI M21 68 (((16 * f) + x15).toNat) x33) 55 = mI M 55 := (kp_sI kp32 rfl)
                    have hB38 : BF fVs M (sI M21 68 (((16 * f) + x15).toNat) x33) := BF.w68 hB29 (fun _ => rfl) _
                    refine vc_iincE dX12_findFar_135 rfl (by omega) (by omega) (by decide) rfl (show _ = [some (aR 54), some (aI f), some (aI v2), some (aI (v3 + 1)), some (aI x15), some (aI x33)] from rfl) ?_
                    refine vc_goto dX12_findFar_138 ?_
                    refine vc_less [some (aR 54), some (aI f), some (aI v2), some (aI (v3 + 1)), none, none] (lessL_keep (lessL_keep (lessL_keep (lessL_keep (lessL_drop (lessL_drop (lessL_nil))))))) ?_
                    exact ih63 (sI M21 68 (((16 * f) + x15).toNat) x33) (v3 + 1) hB38 kp35 kp36 kp37 (by omega) (by omega) (by first | rfl | exact g63i0 | exact hd69.trans g63i0 | exact (kp_sI (hd69.trans g63i0) rfl)) (by omega)
                · refine vc_goto dX12_findFar_81 ?_
                  refine vc_iincE dX12_findFar_135 rfl (by omega) (by omega) (by decide) rfl (show _ = [some (aR 54), some (aI f), some (aI v2), some (aI (v3 + 1)), some (aI x15), none] from rfl) ?_
                  refine vc_goto dX12_findFar_138 ?_
                  refine vc_less [some (aR 54), some (aI f), some (aI v2), some (aI (v3 + 1)), none, none] (lessL_keep (lessL_keep (lessL_keep (lessL_keep (lessL_drop (lessL_keep (lessL_nil))))))) ?_
                  exact ih63 Mq63 (v3 + 1) hQ63 kp63_71 kp63_54 kp63_55 (by omega) (by omega) (by first | rfl | exact g63i0 | exact hd69.trans g63i0 | exact (kp_sI (hd69.trans g63i0) rfl)) (by omega)
          exact lp63 _ (sI Mq50 69 v2.toNat 1) 0 hB9 kp6 kp7 kp8 (by omega) (by omega) (by first | rfl | exact g63i0 | exact hd69.trans g63i0 | exact (kp_sI (hd69.trans g63i0) rfl)) (Nat.lt_succ_self _)
    exact lp50 _ Mq2 x1 hQ2 kp2_71 kp2_54 kp2_55 (by omega) (by omega) (by omega) (Nat.lt_succ_self _)
  have lp2 : ∀ (n2 : Nat) (Mq2 : Mem) (v2 : Int), (BF fVs M Mq2) → (mI Mq2 71 = mI M 71) → (mI Mq2 54 = mI M 54) → (mI Mq2 55 = mI M 55) → (0 ≤ v2) → (v2 ≤ 16) → (16 - v2).toNat < n2 → VC l mdX12_findFar 2 [some (aR 54), some (aI f), some (aI v2), none, none, none] [] Mq2 0 0 (fun q N => q = none ∧ BF fVs M N ∧ mI N 54 = mI M 54 ∧ mI N 55 = mI M 55 ∧ mI N 71 = mI M 71) := by
    intro n2
    induction n2 with
    | zero => intro Mq2 v2 hQ2 kp2_71 kp2_54 kp2_55 g2_2a g2_2b hm2; exact absurd hm2 (Nat.not_lt_zero _)
    | succ n2 ih2 =>
      intro Mq2 v2 hQ2 kp2_71 kp2_54 kp2_55 g2_2a g2_2b hm2
      refine vc_iload_n dX12_findFar_2 rfl ?_
      refine vc_bipush dX12_findFar_3 rfl ?_
      refine vc_icmp_ge dX12_findFar_5 (fun h39 => ?_) (fun h39 => ?_)
      · refine vc_less [some (aR 54), some (aI f), none, none, none, none] (lessL_keep (lessL_keep (lessL_drop (lessL_keep (lessL_keep (lessL_keep (lessL_nil))))))) ?_
        exact ex44 Mq2 hQ2 kp2_71 kp2_54 kp2_55 
      · refine vc_aload_n dX12_findFar_8 rfl ?_
        refine vc_getR dX12_findFar_9 flX12_57 (s_54 hQ2.1.1) rfl (r_54_38 hQ2.1.1) ?_
        refine vc_bipush dX12_findFar_12 rfl ?_
        refine vc_iload_n dX12_findFar_14 rfl ?_
        refine vc_imulE dX12_findFar_15 (by omega) (by omega) ?_
        refine vc_iload_n dX12_findFar_16 rfl ?_
        refine vc_iaddE dX12_findFar_17 (by omega) (by omega) ?_
        refine vc_iload_n dX12_findFar_18 rfl ?_
        refine vc_iload_n dX12_findFar_19 rfl ?_
        refine vc_icmp_ne dX12_findFar_20 (fun h40 => ?_) (fun h40 => ?_)
        · refine vc_ldcw dX12_findFar_27 rfl kcX12_483 ?_
          refine vc_iastore dX12_findFar_30 (s_68 hQ2.1.1) (by omega) (by omega) ?_
          have kp41 : mI (sI Mq2 68 (((16 * f) + v2).toNat) 1000000) 71 = mI M 71 := (kp_sI kp2_71 rfl)
          have kp42 : mI (sI Mq2 68 (((16 * f) + v2).toNat) 1000000) 54 = mI M 54 := (kp_sI kp2_54 rfl)
          have kp43 : mI (sI Mq2 68 (((16 * f) + v2).toNat) 1000000) 55 = mI M 55 := (kp_sI kp2_55 rfl)
          have hB44 : BF fVs M (sI Mq2 68 (((16 * f) + v2).toNat) 1000000) := BF.w68 hQ2 (fun _ => rfl) _
          refine vc_aload_n dX12_findFar_31 rfl ?_
          refine vc_getR dX12_findFar_32 flX12_60 (s_54 hB44.1.1) rfl (r_54_39 hB44.1.1) ?_
          refine vc_iload_n dX12_findFar_35 rfl ?_
          refine vc_iconst dX12_findFar_36 rfl ?_
          refine vc_bastore dX12_findFar_37 (s_69 hB44.1.1) (by omega) (by omega) (by first | decide | omega) ?_
          have kp45 : mI (sI (sI Mq2 68 (((16 * f) + v2).toNat) 1000000) 69 v2.toNat 0) 71 = mI M 71 := (kp_sI kp41 rfl)
          have kp46 : mI (sI (sI Mq2 68 (((16 * f) + v2).toNat) 1000000) 69 v2.toNat 0) 54 = mI M 54 := (kp_sI kp42 rfl)
          have kp47 : mI (sI (sI Mq2 68 (((16 * f) + v2).toNat) 1000000) 69 v2.toNat 0) 55 = mI M 55 := (kp_sI kp43 rfl)
          have hB48 : BF fVs M (sI (sI Mq2 68 (((16 * f) + v2).toNat) 1000000) 69 v2.toNat 0) := BF.w69 hB44 (fun _ => rfl) _
          refine vc_iincE dX12_findFar_38 rfl (by omega) (by omega) (by decide) rfl (show _ = [some (aR 54), some (aI f), some (aI (v2 + 1)), none, none, none] from rfl) ?_
          refine vc_goto dX12_findFar_41 ?_
          exact ih2 (sI (sI Mq2 68 (((16 * f) + v2).toNat) 1000000) 69 v2.toNat 0) (v2 + 1) hB48 kp45 kp46 kp47 (by omega) (by omega) (by omega)
        · refine vc_iconst dX12_findFar_23 rfl ?_
          refine vc_goto dX12_findFar_24 ?_
          refine vc_iastore dX12_findFar_30 (s_68 hQ2.1.1) (by omega) (by omega) ?_
          have kp49 : mI (sI Mq2 68 (((16 * f) + v2).toNat) 0) 71 = mI M 71 := (kp_sI kp2_71 rfl)
          have kp50 : mI (sI Mq2 68 (((16 * f) + v2).toNat) 0) 54 = mI M 54 := (kp_sI kp2_54 rfl)
          have kp51 : mI (sI Mq2 68 (((16 * f) + v2).toNat) 0) 55 = mI M 55 := (kp_sI kp2_55 rfl)
          have hB52 : BF fVs M (sI Mq2 68 (((16 * f) + v2).toNat) 0) := BF.w68 hQ2 (fun _ => rfl) _
          refine vc_aload_n dX12_findFar_31 rfl ?_
          refine vc_getR dX12_findFar_32 flX12_60 (s_54 hB52.1.1) rfl (r_54_39 hB52.1.1) ?_
          refine vc_iload_n dX12_findFar_35 rfl ?_
          refine vc_iconst dX12_findFar_36 rfl ?_
          refine vc_bastore dX12_findFar_37 (s_69 hB52.1.1) (by omega) (by omega) (by first | decide | omega) ?_
          have kp53 : mI (sI (sI Mq2 68 (((16 * f) + v2).toNat) 0) 69 v2.toNat 0) 71 = mI M 71 := (kp_sI kp49 rfl)
          have kp54 : mI (sI (sI Mq2 68 (((16 * f) + v2).toNat) 0) 69 v2.toNat 0) 54 = mI M 54 := (kp_sI kp50 rfl)
          have kp55 : mI (sI (sI Mq2 68 (((16 * f) + v2).toNat) 0) 69 v2.toNat 0) 55 = mI M 55 := (kp_sI kp51 rfl)
          have hB56 : BF fVs M (sI (sI Mq2 68 (((16 * f) + v2).toNat) 0) 69 v2.toNat 0) := BF.w69 hB52 (fun _ => rfl) _
          refine vc_iincE dX12_findFar_38 rfl (by omega) (by omega) (by decide) rfl (show _ = [some (aR 54), some (aI f), some (aI (v2 + 1)), none, none, none] from rfl) ?_
          refine vc_goto dX12_findFar_41 ?_
          exact ih2 (sI (sI Mq2 68 (((16 * f) + v2).toNat) 0) 69 v2.toNat 0) (v2 + 1) hB56 kp53 kp54 kp55 (by omega) (by omega) (by omega)
  exact lp2 _ M 0 hB0 rfl rfl rfl (by omega) (by omega) (Nat.lt_succ_self _)

set_option maxRecDepth 4000 in
theorem sfX12_far {l : Launch} {M : Mem} (hB : Box M)  (f : Int) (t : Int)  : Call l mdX12_far [aR 54, aI f, aI t] M (fun q N => ∃ r : Int, q = some (aI r) ∧ BF fQ M N) := by
  have hB0 : BF fQ M M := BF.start hB
  refine Call.of [some (aR 54), some (aI f), some (aI t)] rfl (Nat.le_of_ble_eq_true rfl) rfl ?_
  refine vc_ok (fun hoM hoS hoL => ?_)
  have hr1 : -2147483648 ≤ f ∧ f < 2147483648 := hoL 1 _ rfl
  have hr2 : -2147483648 ≤ t ∧ t < 2147483648 := hoL 2 _ rfl
  refine vc_aload_n dX12_far_0 rfl ?_
  refine vc_iload_n dX12_far_1 rfl ?_
  refine vc_cVI dX12_far_2 (sfX12_isCorner (M := M) hB0.1  f ) rfl okX12_isCorner viX12_isCorner lkX12_87 (s_54 hB0.1.1) cl_12 rfl (Nat.le_of_ble_eq_true rfl) ⟨rfl, rfl⟩ (Nat.le_of_ble_eq_true rfl) (Nat.le_of_ble_eq_true rfl) (Nat.le_of_ble_eq_true rfl) ?_
  rintro x1 _ ⟨rfl, h2, h3, h4⟩
  refine vc_if_eq dX12_far_5 (fun h5 => ?_) (fun h5 => ?_)
  · refine vc_iconst dX12_far_16 rfl ?_
    refine vc_iret dX12_far_17 rfl (Nat.le_of_ble_eq_true rfl) (Nat.le_of_ble_eq_true rfl) ?_
    exact ⟨_, rfl, hB0⟩
  · refine vc_aload_n dX12_far_8 rfl ?_
    refine vc_iload_n dX12_far_9 rfl ?_
    refine vc_cVI dX12_far_10 (sfX12_isCorner (M := M) hB0.1  t ) rfl okX12_isCorner viX12_isCorner lkX12_87 (s_54 hB0.1.1) cl_12 rfl (Nat.le_of_ble_eq_true rfl) ⟨rfl, rfl⟩ (Nat.le_of_ble_eq_true rfl) (Nat.le_of_ble_eq_true rfl) (Nat.le_of_ble_eq_true rfl) ?_
    rintro x6 _ ⟨rfl, h7, h8, h9⟩
    refine vc_if_ne dX12_far_13 (fun h10 => ?_) (fun h10 => ?_)
    · refine vc_aload_n dX12_far_18 rfl ?_
      refine vc_iload_n dX12_far_19 rfl ?_
      refine vc_cVU dX12_far_20 (sfX12_findFar (M := M) hB0.1  f (by omega) (by omega)) rfl okX12_findFar viX12_findFar lkX12_487 (s_54 hB0.1.1) cl_12 rfl (Nat.le_of_ble_eq_true rfl) ⟨rfl, rfl⟩ (Nat.le_of_ble_eq_true rfl) (Nat.le_of_ble_eq_true rfl) (Nat.le_of_ble_eq_true rfl) ?_
      rintro M11 ⟨hB12, kp13, kp14, kp15⟩
      have hB16 : BF fQ M M11 := BF.go hB0 hB12.vq
      refine vc_aload_n dX12_far_23 rfl ?_
      refine vc_getR dX12_far_24 flX12_57 (s_54 hB16.1.1) rfl (r_54_38 hB16.1.1) ?_
      refine vc_bipush dX12_far_27 rfl ?_
      refine vc_iload_n dX12_far_29 rfl ?_
      refine vc_imulE dX12_far_30 (by omega) (by omega) ?_
      refine vc_iload_n dX12_far_31 rfl ?_
      refine vc_iaddE dX12_far_32 (by omega) (by omega) ?_
      refine vc_iaload dX12_far_33 (s_68 hB16.1.1) (by omega) (by omega) ?_
      refine vc_ldcw dX12_far_34 rfl kcX12_483 ?_
      refine vc_icmp_ge dX12_far_37 (fun h17 => ?_) (fun h17 => ?_)
      · refine vc_iconst dX12_far_54 rfl ?_
        refine vc_iret dX12_far_55 rfl (Nat.le_of_ble_eq_true rfl) (Nat.le_of_ble_eq_true rfl) ?_
        exact ⟨_, rfl, hB16⟩
      · refine vc_aload_n dX12_far_40 rfl ?_
        refine vc_getR dX12_far_41 flX12_57 (s_54 hB16.1.1) rfl (r_54_38 hB16.1.1) ?_
        refine vc_bipush dX12_far_44 rfl ?_
        refine vc_iload_n dX12_far_46 rfl ?_
        refine vc_imulE dX12_far_47 (by omega) (by omega) ?_
        refine vc_iload_n dX12_far_48 rfl ?_
        refine vc_iaddE dX12_far_49 (by omega) (by omega) ?_
        refine vc_iaload dX12_far_50 (s_68 hB16.1.1) (by omega) (by omega) ?_
        refine vc_goto dX12_far_51 ?_
        refine vc_iret dX12_far_55 rfl (Nat.le_of_ble_eq_true rfl) (Nat.le_of_ble_eq_true rfl) ?_
        exact ⟨_, rfl, hB16⟩
    · refine vc_iconst dX12_far_16 rfl ?_
      refine vc_iret dX12_far_17 rfl (Nat.le_of_ble_eq_true rfl) (Nat.le_of_ble_eq_true rfl) ?_
      exact ⟨_, rfl, hB0⟩

set_option maxRecDepth 4000 in
theorem sfX12_timeOf {l : Launch} {M : Mem} (hB : Box M)   (p0 : 0 ≤ mI M 55 256) : Call l mdX12_timeOf [aR 54] M (fun q N => ∃ r : Int, q = some (aL r) ∧ M = N) := by
  have hB0 : BF fQ M M := BF.start hB
  refine Call.of [some (aR 54), none, none, none, none, none, none] rfl (Nat.le_of_ble_eq_true rfl) rfl ?_
  refine vc_lconst dX12_timeOf_0 ?_
  refine vc_topL 0 rfl ?_
  refine vc_lstore_n dX12_timeOf_1 (by decide) rfl rfl (show _ = [some (aR 54), some (aL 0), none, none, none, none, none] from rfl) ?_
  refine vc_iconst dX12_timeOf_2 rfl ?_
  refine vc_istore_n dX12_timeOf_3 (by decide) rfl (show _ = [some (aR 54), some (aL 0), none, some (aI 0), none, none, none] from rfl) ?_
  refine vc_aload_n dX12_timeOf_4 rfl ?_
  refine vc_getR dX12_timeOf_5 flX12_7 (s_54 hB0.1.1) rfl (r_54_0 hB0.1.1) ?_
  refine vc_sipush dX12_timeOf_8 rfl ?_
  refine vc_iaload dX12_timeOf_11 (s_55 hB0.1.1) (by omega) (by omega) ?_
  refine vc_topI (mI M 55 256) rfl ?_
  have k1 : (-1) ≤ mI M 55 256 ∧ mI M 55 256 ≤ 15 := b55_256 (M := M) hB0.1
  refine vc_nameI (fun x2 ex2 => ?_)
  refine vc_istore dX12_timeOf_12 (by decide) rfl (show _ = [some (aR 54), some (aL 0), none, some (aI 0), some (aI x2), none, none] from rfl) ?_
  refine vc_iconst dX12_timeOf_14 rfl ?_
  refine vc_istore dX12_timeOf_15 (by decide) rfl (show _ = [some (aR 54), some (aL 0), none, some (aI 0), some (aI x2), some (aI 0), none] from rfl) ?_
  have lp17 : ∀ (n17 : Nat) (v1 : Int) (v3 : Int) (v4 : Int) (v5 : Int), (0 ≤ v4) → (v4 ≤ 15) → (0 ≤ v5) → (v5 ≤ 5) → (5 - v5).toNat < n17 → VC l mdX12_timeOf 17 [some (aR 54), some (aL v1), none, some (aI v3), some (aI v4), some (aI v5), none] [] M 0 0 (fun q N => ∃ r : Int, q = some (aL r) ∧ M = N) := by
    intro n17
    induction n17 with
    | zero => intro v1 v3 v4 v5 g17_4a g17_4b g17_5a g17_5b hm17; exact absurd hm17 (Nat.not_lt_zero _)
    | succ n17 ih17 =>
      intro v1 v3 v4 v5 g17_4a g17_4b g17_5a g17_5b hm17
      refine vc_iload dX12_timeOf_17 rfl ?_
      refine vc_aload_n dX12_timeOf_19 rfl ?_
      refine vc_getI dX12_timeOf_20 flX12_490 (s_54 hB0.1.1) rfl ?_
      have k3 : 0 ≤ mI M 54 43 ∧ mI M 54 43 ≤ 5 := b54_43 (M := M) hB0.1
      refine vc_icmp_ge dX12_timeOf_23 (fun h4 => ?_) (fun h4 => ?_)
      · refine vc_lload_n dX12_timeOf_102 rfl ?_
        refine vc_lret dX12_timeOf_103 rfl (Nat.le_of_ble_eq_true rfl) (Nat.le_of_ble_eq_true rfl) ?_
        exact ⟨_, rfl, rfl⟩
      · refine vc_aload_n dX12_timeOf_26 rfl ?_
        refine vc_getR dX12_timeOf_27 flX12_64 (s_54 hB0.1.1) rfl (r_54_40 hB0.1.1) ?_
        refine vc_aload_n dX12_timeOf_30 rfl ?_
        refine vc_getR dX12_timeOf_31 flX12_67 (s_54 hB0.1.1) rfl (r_54_41 hB0.1.1) ?_
        refine vc_iload dX12_timeOf_34 rfl ?_
        refine vc_iaload dX12_timeOf_36 (s_71 hB0.1.1) (by omega) (by omega) ?_
        have k5 : 0 ≤ mI M 71 v5.toNat ∧ mI M 71 v5.toNat ≤ 4 := bA71 (M := M) hB0.1 _
        refine vc_iaload dX12_timeOf_37 (s_70 hB0.1.1) (by omega) (by omega) ?_
        have k6 : 0 ≤ mI M 70 ((mI M 71 v5.toNat).toNat) ∧ mI M 70 ((mI M 71 v5.toNat).toNat) ≤ 15 := bA70 (M := M) hB0.1 _
        refine vc_nameI (fun x7 ex7 => ?_)
        refine vc_istore dX12_timeOf_38 (by decide) rfl (show _ = [some (aR 54), some (aL v1), none, some (aI v3), some (aI v4), some (aI v5), some (aI x7)] from rfl) ?_
        refine vc_aload_n dX12_timeOf_40 rfl ?_
        refine vc_getR dX12_timeOf_41 flX12_57 (s_54 hB0.1.1) rfl (r_54_38 hB0.1.1) ?_
        refine vc_bipush dX12_timeOf_44 rfl ?_
        refine vc_iload dX12_timeOf_46 rfl ?_
        refine vc_imulE dX12_timeOf_48 (by omega) (by omega) ?_
        refine vc_iload dX12_timeOf_49 rfl ?_
        refine vc_iaddE dX12_timeOf_51 (by omega) (by omega) ?_
        refine vc_iaload dX12_timeOf_52 (s_68 hB0.1.1) (by omega) (by omega) ?_
        refine vc_ldcw dX12_timeOf_53 rfl kcX12_483 ?_
        refine vc_icmp_lt dX12_timeOf_56 (fun h8 => ?_) (fun h8 => ?_)
        · refine vc_iload_n dX12_timeOf_63 rfl ?_
          refine vc_aload_n dX12_timeOf_64 rfl ?_
          refine vc_getR dX12_timeOf_65 flX12_57 (s_54 hB0.1.1) rfl (r_54_38 hB0.1.1) ?_
          refine vc_bipush dX12_timeOf_68 rfl ?_
          refine vc_iload dX12_timeOf_70 rfl ?_
          refine vc_imulE dX12_timeOf_72 (by omega) (by omega) ?_
          refine vc_iload dX12_timeOf_73 rfl ?_
          refine vc_iaddE dX12_timeOf_75 (by omega) (by omega) ?_
          refine vc_iaload dX12_timeOf_76 (s_68 hB0.1.1) (by omega) (by omega) ?_
          refine vc_iadd dX12_timeOf_77 ?_
          refine vc_nameI (fun x9 ex9 => ?_)
          refine vc_istore_n dX12_timeOf_78 (by decide) rfl (show _ = [some (aR 54), some (aL v1), none, some (aI x9), some (aI v4), some (aI v5), some (aI x7)] from rfl) ?_
          refine vc_lload_n dX12_timeOf_79 rfl ?_
          refine vc_aload_n dX12_timeOf_80 rfl ?_
          refine vc_getR dX12_timeOf_81 flX12_51 (s_54 hB0.1.1) rfl (r_54_35 hB0.1.1) ?_
          refine vc_iload dX12_timeOf_84 rfl ?_
          refine vc_laload dX12_timeOf_86 (s_66 hB0.1.1) (by omega) (by omega) ?_
          refine vc_iload_n dX12_timeOf_87 rfl ?_
          refine vc_i2l dX12_timeOf_88 ?_
          refine vc_lmul dX12_timeOf_89 ?_
          refine vc_ladd dX12_timeOf_90 ?_
          refine vc_nameL (fun x10 ex10 => ?_)
          refine vc_lstore_n dX12_timeOf_91 (by decide) rfl rfl (show _ = [some (aR 54), some (aL x10), none, some (aI x9), some (aI v4), some (aI v5), some (aI x7)] from rfl) ?_
          refine vc_iload dX12_timeOf_92 rfl ?_
          refine vc_istore dX12_timeOf_94 (by decide) rfl (show _ = [some (aR 54), some (aL x10), none, some (aI x9), some (aI x7), some (aI v5), some (aI x7)] from rfl) ?_
          refine vc_iincE dX12_timeOf_96 rfl (by omega) (by omega) (by decide) rfl (show _ = [some (aR 54), some (aL x10), none, some (aI x9), some (aI x7), some (aI (v5 + 1)), some (aI x7)] from rfl) ?_
          refine vc_goto dX12_timeOf_99 ?_
          refine vc_less [some (aR 54), some (aL x10), none, some (aI x9), some (aI x7), some (aI (v5 + 1)), none] (lessL_keep (lessL_keep (lessL_keep (lessL_keep (lessL_keep (lessL_keep (lessL_drop (lessL_nil)))))))) ?_
          exact ih17 x10 x9 x7 (v5 + 1) (by omega) (by omega) (by omega) (by omega) (by omega)
        · refine vc_ldc2 dX12_timeOf_59 rfl klX12_474 ?_
          refine vc_lret dX12_timeOf_62 rfl (Nat.le_of_ble_eq_true rfl) (Nat.le_of_ble_eq_true rfl) ?_
          exact ⟨_, rfl, rfl⟩
  exact lp17 _ 0 0 x2 0 (by omega) (by omega) (by omega) (by omega) (Nat.lt_succ_self _)

def InjO (f : Nat → Int) (n : Int) : Prop := ∀ a b : Nat, (a : Int) < n → (b : Int) < n → f a = f b → a = b
theorem inj_swap {M : Mem} {a b : Nat} {n t : Int} (h : InjO (mI M 71) n) (ha : (a : Int) < n) (hb : (b : Int) < n) (ht : t = mI M 71 a) : InjO (mI (sI (sI M 71 a (mI M 71 b)) 71 b t) 71) n := by
  subst ht
  have ev : ∀ p, mI (sI (sI M 71 a (mI M 71 b)) 71 b (mI M 71 a)) 71 p = if p = b then mI M 71 a else if p = a then mI M 71 b else mI M 71 p := by
    intro p
    rw [mI_sI]
    by_cases e : p = b
    · rw [if_pos ⟨rfl, e⟩, if_pos e]
    · rw [if_neg (fun q => e q.2), if_neg e, mI_sI]
      by_cases e2 : p = a
      · rw [if_pos ⟨rfl, e2⟩, if_pos e2]
      · rw [if_neg (fun q => e2 q.2), if_neg e2]
  intro p q hp hq e
  rw [ev, ev] at e
  by_cases p1 : p = b
  · rw [if_pos p1] at e
    by_cases q1 : q = b
    · omega
    · rw [if_neg q1] at e
      by_cases q2 : q = a
      · rw [if_pos q2] at e
        have := h a b ha hb e
        omega
      · rw [if_neg q2] at e
        have := h a q ha hq e
        omega
  · rw [if_neg p1] at e
    by_cases q1 : q = b
    · rw [if_pos q1] at e
      by_cases p2 : p = a
      · rw [if_pos p2] at e
        have := h b a hb ha e
        omega
      · rw [if_neg p2] at e
        have := h p a hp ha e
        omega
    · rw [if_neg q1] at e
      by_cases p2 : p = a
      · rw [if_pos p2] at e
        by_cases q2 : q = a
        · omega
        · rw [if_neg q2] at e
          have := h b q hb hq e
          omega
      · rw [if_neg p2] at e
        by_cases q2 : q = a
        · rw [if_pos q2] at e
          have := h p b hp hb e
          omega
        · rw [if_neg q2] at e
          exact h p q hp hq e
/-- an order as a number to five -/
def lv (f : Nat → Int) : Nat → Int
  | 0 => 0
  | n + 1 => 5 * lv f n + f n
theorem lvo_same {f g : Nat → Int} : ∀ n : Nat, (∀ j, j < n → g j = f j) → lv g n = lv f n
  | 0, _ => rfl
  | n + 1, h => by
    unfold lv
    rw [lvo_same n (fun j hj => h j (by omega)), h n (by omega)]
theorem lvo_lt {f g : Nat → Int} (hf : ∀ k, 0 ≤ f k ∧ f k ≤ 4) (hg : ∀ k, 0 ≤ g k ∧ g k ≤ 4) {i : Nat} (hs : ∀ k, k < i → g k = f k) (hi : f i < g i) : ∀ n : Nat, i < n → lv f n + 1 ≤ lv g n
  | 0, h => absurd h (by omega)
  | n + 1, h => by
    unfold lv
    have h1 := hf n
    have h2 := hg n
    by_cases e : i = n
    · subst e
      have := lvo_same i hs
      omega
    · have := lvo_lt hf hg hs hi n (by omega)
      omega
theorem lvo_bd {f : Nat → Int} (hf : ∀ k, 0 ≤ f k ∧ f k ≤ 4) : ∀ n : Nat, 0 ≤ lv f n ∧ lv f n + 1 ≤ 5 ^ n
  | 0 => by unfold lv; decide
  | n + 1 => by
    have h := lvo_bd hf n
    have h1 := hf n
    unfold lv
    rw [Int.pow_succ]
    omega
theorem lvo_5 {f : Nat → Int} (hf : ∀ k, 0 ≤ f k ∧ f k ≤ 4) {n : Nat} (h : n ≤ 5) : 0 ≤ lv f n ∧ lv f n ≤ 3124 := by
  have q := lvo_bd hf n
  have : (5 : Int) ^ n ≤ 3125 := by
    match n, h with
    | 0, _ => decide
    | 1, _ => decide
    | 2, _ => decide
    | 3, _ => decide
    | 4, _ => decide
    | 5, _ => decide
  omega
set_option maxRecDepth 4000 in
theorem sfX12_nextOrder {l : Launch} {M : Mem} (hB : Box M)   (p0 : 1 ≤ mI M 54 43) (p1 : InjO (mI M 71) (mI M 54 43)) : Call l mdX12_nextOrder [aR 54] M (fun q N => ∃ r : Int, q = some (aI r) ∧ BF fQ M N ∧ mI N 54 = mI M 54 ∧ mI N 55 = mI M 55 ∧ 0 ≤ r ∧ r ≤ 1 ∧ (r = 0 ∨ ∃ i : Nat, (i : Int) < mI M 54 43 ∧ (∀ k, k < i → mI N 71 k = mI M 71 k) ∧ mI M 71 i < mI N 71 i) ∧ InjO (mI N 71) (mI M 54 43) ∧ (r ≠ 0 ∨ mI N 71 = mI M 71)) := by
  have hB0 : BF fQ M M := BF.start hB
  refine Call.of [some (aR 54), none, none, none, none, none, none] rfl (Nat.le_of_ble_eq_true rfl) rfl ?_
  refine vc_aload_n dX12_nextOrder_0 rfl ?_
  refine vc_getI dX12_nextOrder_1 flX12_490 (s_54 hB0.1.1) rfl ?_
  have k1 : 0 ≤ mI M 54 43 ∧ mI M 54 43 ≤ 5 := b54_43 (M := M) hB0.1
  refine vc_nameI (fun x3 ex3 => ?_)
  refine vc_istore_n dX12_nextOrder_4 (by decide) rfl (show _ = [some (aR 54), some (aI x3), none, none, none, none, none] from rfl) ?_
  refine vc_iload_n dX12_nextOrder_5 rfl ?_
  refine vc_iconst dX12_nextOrder_6 rfl ?_
  refine vc_isubE dX12_nextOrder_7 (by omega) (by omega) ?_
  refine vc_nameI (fun x4 ex4 => ?_)
  refine vc_istore_n dX12_nextOrder_8 (by decide) rfl (show _ = [some (aR 54), some (aI x3), some (aI x4), none, none, none, none] from rfl) ?_
  have lp9 : ∀ (n9 : Nat) (v2 : Int), ((-1) ≤ v2) → (v2 ≤ 3) → (v2 + 2 ≤ mI M 54 43) → (v2 + 1).toNat < n9 → VC l mdX12_nextOrder 9 [some (aR 54), some (aI x3), some (aI v2), none, none, none, none] [] M 0 0 (fun q N => ∃ r : Int, q = some (aI r) ∧ BF fQ M N ∧ mI N 54 = mI M 54 ∧ mI N 55 = mI M 55 ∧ 0 ≤ r ∧ r ≤ 1 ∧ (r = 0 ∨ ∃ i : Nat, (i : Int) < mI M 54 43 ∧ (∀ k, k < i → mI N 71 k = mI M 71 k) ∧ mI M 71 i < mI N 71 i) ∧ InjO (mI N 71) (mI M 54 43) ∧ (r ≠ 0 ∨ mI N 71 = mI M 71)) := by
    intro n9
    induction n9 with
    | zero => intro v2 g9_2a g9_2b g9i0 hm9; exact absurd hm9 (Nat.not_lt_zero _)
    | succ n9 ih9 =>
      intro v2 g9_2a g9_2b g9i0 hm9
      refine vc_iload_n dX12_nextOrder_9 rfl ?_
      refine vc_if_lt dX12_nextOrder_10 (fun h5 => ?_) (fun h5 => ?_)
      · refine vc_iload_n dX12_nextOrder_36 rfl ?_
        refine vc_if_ge dX12_nextOrder_37 (fun h6 => by exfalso; omega) (fun h6 => ?_)
        refine vc_iconst dX12_nextOrder_40 rfl ?_
        refine vc_zret dX12_nextOrder_41 rfl (by first | decide | omega) (Nat.le_of_ble_eq_true rfl) (Nat.le_of_ble_eq_true rfl) ?_
        exact ⟨_, rfl, hB0, rfl, rfl, by omega, by omega, Or.inl rfl, p1, Or.inr rfl⟩
      · refine vc_aload_n dX12_nextOrder_13 rfl ?_
        refine vc_getR dX12_nextOrder_14 flX12_67 (s_54 hB0.1.1) rfl (r_54_41 hB0.1.1) ?_
        refine vc_iload_n dX12_nextOrder_17 rfl ?_
        refine vc_iaload dX12_nextOrder_18 (s_71 hB0.1.1) (by omega) (by omega) ?_
        have k7 : 0 ≤ mI M 71 v2.toNat ∧ mI M 71 v2.toNat ≤ 4 := bA71 (M := M) hB0.1 _
        refine vc_aload_n dX12_nextOrder_19 rfl ?_
        refine vc_getR dX12_nextOrder_20 flX12_67 (s_54 hB0.1.1) rfl (r_54_41 hB0.1.1) ?_
        refine vc_iload_n dX12_nextOrder_23 rfl ?_
        refine vc_iconst dX12_nextOrder_24 rfl ?_
        refine vc_iaddE dX12_nextOrder_25 (by omega) (by omega) ?_
        refine vc_iaload dX12_nextOrder_26 (s_71 hB0.1.1) (by omega) (by omega) ?_
        have k8 : 0 ≤ mI M 71 ((v2 + 1).toNat) ∧ mI M 71 ((v2 + 1).toNat) ≤ 4 := bA71 (M := M) hB0.1 _
        refine vc_icmp_le dX12_nextOrder_27 (fun h9 => ?_) (fun h9 => ?_)
        · refine vc_iload_n dX12_nextOrder_36 rfl ?_
          refine vc_if_ge dX12_nextOrder_37 (fun h10 => ?_) (fun h10 => by exfalso; omega)
          refine vc_iload_n dX12_nextOrder_42 rfl ?_
          refine vc_iconst dX12_nextOrder_43 rfl ?_
          refine vc_isubE dX12_nextOrder_44 (by omega) (by omega) ?_
          refine vc_nameI (fun x11 ex11 => ?_)
          refine vc_istore_n dX12_nextOrder_45 (by decide) rfl (show _ = [some (aR 54), some (aI x3), some (aI v2), some (aI x11), none, none, none] from rfl) ?_
          have lp46 : ∀ (n46 : Nat) (v3 : Int), (v2 + 1 ≤ v3) → (v3 ≤ 4) → (v3 + 1 ≤ mI M 54 43) → (v3 - v2 + 1).toNat < n46 → VC l mdX12_nextOrder 46 [some (aR 54), some (aI x3), some (aI v2), some (aI v3), none, none, none] [] M 0 0 (fun q N => ∃ r : Int, q = some (aI r) ∧ BF fQ M N ∧ mI N 54 = mI M 54 ∧ mI N 55 = mI M 55 ∧ 0 ≤ r ∧ r ≤ 1 ∧ (r = 0 ∨ ∃ i : Nat, (i : Int) < mI M 54 43 ∧ (∀ k, k < i → mI N 71 k = mI M 71 k) ∧ mI M 71 i < mI N 71 i) ∧ InjO (mI N 71) (mI M 54 43) ∧ (r ≠ 0 ∨ mI N 71 = mI M 71)) := by
            intro n46
            induction n46 with
            | zero => intro v3 g46_3a g46_3b g46i0 hm46; exact absurd hm46 (Nat.not_lt_zero _)
            | succ n46 ih46 =>
              intro v3 g46_3a g46_3b g46i0 hm46
              refine vc_aload_n dX12_nextOrder_46 rfl ?_
              refine vc_getR dX12_nextOrder_47 flX12_67 (s_54 hB0.1.1) rfl (r_54_41 hB0.1.1) ?_
              refine vc_iload_n dX12_nextOrder_50 rfl ?_
              refine vc_iaload dX12_nextOrder_51 (s_71 hB0.1.1) (by omega) (by omega) ?_
              have k12 : 0 ≤ mI M 71 v3.toNat ∧ mI M 71 v3.toNat ≤ 4 := bA71 (M := M) hB0.1 _
              refine vc_aload_n dX12_nextOrder_52 rfl ?_
              refine vc_getR dX12_nextOrder_53 flX12_67 (s_54 hB0.1.1) rfl (r_54_41 hB0.1.1) ?_
              refine vc_iload_n dX12_nextOrder_56 rfl ?_
              refine vc_iaload dX12_nextOrder_57 (s_71 hB0.1.1) (by omega) (by omega) ?_
              refine vc_icmp_ge dX12_nextOrder_58 (fun h13 => ?_) (fun h13 => ?_)
              · refine vc_aload_n dX12_nextOrder_67 rfl ?_
                refine vc_getR dX12_nextOrder_68 flX12_67 (s_54 hB0.1.1) rfl (r_54_41 hB0.1.1) ?_
                refine vc_iload_n dX12_nextOrder_71 rfl ?_
                refine vc_iaload dX12_nextOrder_72 (s_71 hB0.1.1) (by omega) (by omega) ?_
                refine vc_nameI (fun x14 ex14 => ?_)
                refine vc_istore dX12_nextOrder_73 (by decide) rfl (show _ = [some (aR 54), some (aI x3), some (aI v2), some (aI v3), some (aI x14), none, none] from rfl) ?_
                refine vc_aload_n dX12_nextOrder_75 rfl ?_
                refine vc_getR dX12_nextOrder_76 flX12_67 (s_54 hB0.1.1) rfl (r_54_41 hB0.1.1) ?_
                refine vc_iload_n dX12_nextOrder_79 rfl ?_
                refine vc_aload_n dX12_nextOrder_80 rfl ?_
                refine vc_getR dX12_nextOrder_81 flX12_67 (s_54 hB0.1.1) rfl (r_54_41 hB0.1.1) ?_
                refine vc_iload_n dX12_nextOrder_84 rfl ?_
                refine vc_iaload dX12_nextOrder_85 (s_71 hB0.1.1) (by omega) (by omega) ?_
                refine vc_iastore dX12_nextOrder_86 (s_71 hB0.1.1) (by omega) (by omega) ?_
                have kp15 : mI (sI M 71 v2.toNat (mI M 71 v3.toNat)) 54 = mI M 54 := (kp_sI rfl rfl)
                have kp16 : mI (sI M 71 v2.toNat (mI M 71 v3.toNat)) 55 = mI M 55 := (kp_sI rfl rfl)
                have hB17 : BF fQ M (sI M 71 v2.toNat (mI M 71 v3.toNat)) := BF.w71 hB0 (fun _ => rfl) _ (by omega) (by omega)
                refine vc_aload_n dX12_nextOrder_87 rfl ?_
                refine vc_getR dX12_nextOrder_88 flX12_67 (s_54 hB17.1.1) rfl (r_54_41 hB17.1.1) ?_
                refine vc_iload_n dX12_nextOrder_91 rfl ?_
                refine vc_iload dX12_nextOrder_92 rfl ?_
                refine vc_iastore dX12_nextOrder_94 (s_71 hB17.1.1) (by omega) (by omega) ?_
                have kp18 : mI (sI (sI M 71 v2.toNat (mI M 71 v3.toNat)) 71 v3.toNat x14) 54 = mI M 54 := (kp_sI kp15 rfl)
                have kp19 : mI (sI (sI M 71 v2.toNat (mI M 71 v3.toNat)) 71 v3.toNat x14) 55 = mI M 55 := (kp_sI kp16 rfl)
                have hB20 : BF fQ M (sI (sI M 71 v2.toNat (mI M 71 v3.toNat)) 71 v3.toNat x14) := BF.w71 hB17 (fun _ => rfl) _ (by omega) (by omega)
                refine vc_iload_n dX12_nextOrder_95 rfl ?_
                refine vc_iconst dX12_nextOrder_96 rfl ?_
                refine vc_iaddE dX12_nextOrder_97 (by omega) (by omega) ?_
                refine vc_nameI (fun x21 ex21 => ?_)
                refine vc_istore dX12_nextOrder_98 (by decide) rfl (show _ = [some (aR 54), some (aI x3), some (aI v2), some (aI v3), some (aI x14), some (aI x21), none] from rfl) ?_
                refine vc_iload_n dX12_nextOrder_100 rfl ?_
                refine vc_iconst dX12_nextOrder_101 rfl ?_
                refine vc_isubE dX12_nextOrder_102 (by omega) (by omega) ?_
                refine vc_nameI (fun x22 ex22 => ?_)
                refine vc_istore dX12_nextOrder_103 (by decide) rfl (show _ = [some (aR 54), some (aI x3), some (aI v2), some (aI v3), some (aI x14), some (aI x21), some (aI x22)] from rfl) ?_
                have lp105 : ∀ (n105 : Nat) (Mq105 : Mem) (v5 : Int) (v6 : Int), (BF fQ M Mq105) → (mI Mq105 54 = mI M 54) → (mI Mq105 55 = mI M 55) → (0 ≤ v5) → (v5 ≤ 5) → ((-1) ≤ v6) → (v6 ≤ 4) → (v2 + 1 ≤ v5) → (v6 + 1 ≤ mI M 54 43) → (∀ q : Nat, (q : Int) ≤ v2 → mI Mq105 71 q = mI (sI (sI M 71 v2.toNat (mI M 71 v3.toNat)) 71 v3.toNat x14) 71 q) → (InjO (mI Mq105 71) (mI M 54 43)) → (v6 - v5 + 1).toNat < n105 → VC l mdX12_nextOrder 105 [some (aR 54), none, none, none, none, some (aI v5), some (aI v6)] [] Mq105 0 0 (fun q N => ∃ r : Int, q = some (aI r) ∧ BF fQ M N ∧ mI N 54 = mI M 54 ∧ mI N 55 = mI M 55 ∧ 0 ≤ r ∧ r ≤ 1 ∧ (r = 0 ∨ ∃ i : Nat, (i : Int) < mI M 54 43 ∧ (∀ k, k < i → mI N 71 k = mI M 71 k) ∧ mI M 71 i < mI N 71 i) ∧ InjO (mI N 71) (mI M 54 43) ∧ (r ≠ 0 ∨ mI N 71 = mI M 71)) := by
                  intro n105
                  induction n105 with
                  | zero => intro Mq105 v5 v6 hQ105 kp105_54 kp105_55 g105_5a g105_5b g105_6a g105_6b g105i0 g105i1 g105i2 g105i3 hm105; exact absurd hm105 (Nat.not_lt_zero _)
                  | succ n105 ih105 =>
                    intro Mq105 v5 v6 hQ105 kp105_54 kp105_55 g105_5a g105_5b g105_6a g105_6b g105i0 g105i1 g105i2 g105i3 hm105
                    refine vc_iload dX12_nextOrder_105 rfl ?_
                    refine vc_iload dX12_nextOrder_107 rfl ?_
                    refine vc_icmp_ge dX12_nextOrder_109 (fun h23 => ?_) (fun h23 => ?_)
                    · refine vc_iconst dX12_nextOrder_153 rfl ?_
                      refine vc_zret dX12_nextOrder_154 rfl (by first | decide | omega) (Nat.le_of_ble_eq_true rfl) (Nat.le_of_ble_eq_true rfl) ?_
                      refine ⟨_, rfl, hQ105, kp105_54, kp105_55, by omega, by omega, Or.inr ⟨v2.toNat, by omega, fun k hk => ?_, ?_⟩, g105i3, Or.inl (by decide)⟩
                      · rw [g105i2 k (by omega), mI_sI, if_neg (fun e => by omega), mI_sI, if_neg (fun e => by omega)]
                      · rw [g105i2 v2.toNat (by omega), mI_sI, if_neg (fun e => by omega), mI_sI, if_pos ⟨rfl, rfl⟩]
                        have hne : mI M 71 v2.toNat ≠ mI M 71 v3.toNat := fun e => by have := p1 v2.toNat v3.toNat (by omega) (by omega) e; omega
                        omega
                    · refine vc_aload_n dX12_nextOrder_112 rfl ?_
                      refine vc_getR dX12_nextOrder_113 flX12_67 (s_54 hQ105.1.1) rfl (r_54_41 hQ105.1.1) ?_
                      refine vc_iload dX12_nextOrder_116 rfl ?_
                      refine vc_iaload dX12_nextOrder_118 (s_71 hQ105.1.1) (by omega) (by omega) ?_
                      have k24 : 0 ≤ mI Mq105 71 v5.toNat ∧ mI Mq105 71 v5.toNat ≤ 4 := bA71 (M := Mq105) hQ105.1 _
                      refine vc_nameI (fun x25 ex25 => ?_)
                      refine vc_istore dX12_nextOrder_119 (by decide) rfl (show _ = [some (aR 54), none, none, none, some (aI x25), some (aI v5), some (aI v6)] from rfl) ?_
                      refine vc_aload_n dX12_nextOrder_121 rfl ?_
                      refine vc_getR dX12_nextOrder_122 flX12_67 (s_54 hQ105.1.1) rfl (r_54_41 hQ105.1.1) ?_
                      refine vc_iload dX12_nextOrder_125 rfl ?_
                      refine vc_aload_n dX12_nextOrder_127 rfl ?_
                      refine vc_getR dX12_nextOrder_128 flX12_67 (s_54 hQ105.1.1) rfl (r_54_41 hQ105.1.1) ?_
                      refine vc_iload dX12_nextOrder_131 rfl ?_
                      refine vc_iaload dX12_nextOrder_133 (s_71 hQ105.1.1) (by omega) (by omega) ?_
                      have k26 : 0 ≤ mI Mq105 71 v6.toNat ∧ mI Mq105 71 v6.toNat ≤ 4 := bA71 (M := Mq105) hQ105.1 _
                      refine vc_iastore dX12_nextOrder_134 (s_71 hQ105.1.1) (by omega) (by omega) ?_
                      have kp27 : mI (sI Mq105 71 v5.toNat (mI Mq105 71 v6.toNat)) 54 = mI M 54 := (kp_sI kp105_54 rfl)
                      have kp28 : mI (sI Mq105 71 v5.toNat (mI Mq105 71 v6.toNat)) 55 = mI M 55 := (kp_sI kp105_55 rfl)
                      have hB29 : BF fQ M (sI Mq105 71 v5.toNat (mI Mq105 71 v6.toNat)) := BF.w71 hQ105 (fun _ => rfl) _ (by omega) (by omega)
                      refine vc_aload_n dX12_nextOrder_135 rfl ?_
                      refine vc_getR dX12_nextOrder_136 flX12_67 (s_54 hB29.1.1) rfl (r_54_41 hB29.1.1) ?_
                      refine vc_iload dX12_nextOrder_139 rfl ?_
                      refine vc_iload dX12_nextOrder_141 rfl ?_
                      refine vc_iastore dX12_nextOrder_143 (s_71 hB29.1.1) (by omega) (by omega) ?_
                      have kp30 : mI (sI (sI Mq105 71 v5.toNat (mI Mq105 71 v6.toNat)) 71 v6.toNat x25) 54 = mI M 54 := (kp_sI kp27 rfl)
                      have kp31 : mI (sI (sI Mq105 71 v5.toNat (mI Mq105 71 v6.toNat)) 71 v6.toNat x25) 55 = mI M 55 := (kp_sI kp28 rfl)
                      have hB32 : BF fQ M (sI (sI Mq105 71 v5.toNat (mI Mq105 71 v6.toNat)) 71 v6.toNat x25) := BF.w71 hB29 (fun _ => rfl) _ (by omega) (by omega)
                      refine vc_iincE dX12_nextOrder_144 rfl (by omega) (by omega) (by decide) rfl (show _ = [some (aR 54), none, none, none, some (aI x25), some (aI (v5 + 1)), some (aI v6)] from rfl) ?_
                      refine vc_iincE dX12_nextOrder_147 rfl (by omega) (by omega) (by decide) rfl (show _ = [some (aR 54), none, none, none, some (aI x25), some (aI (v5 + 1)), some (aI (v6 + (-1)))] from rfl) ?_
                      refine vc_goto dX12_nextOrder_150 ?_
                      refine vc_less [some (aR 54), none, none, none, none, some (aI (v5 + 1)), some (aI (v6 + (-1)))] (lessL_keep (lessL_keep (lessL_keep (lessL_keep (lessL_drop (lessL_keep (lessL_keep (lessL_nil)))))))) ?_
                      exact ih105 (sI (sI Mq105 71 v5.toNat (mI Mq105 71 v6.toNat)) 71 v6.toNat x25) (v5 + 1) (v6 + (-1)) hB32 kp30 kp31 (by omega) (by omega) (by omega) (by omega) (by omega) (by omega) (by first | (intro q hq; rfl) | (intro q hq; rw [mI_sI, if_neg (fun e => by omega), mI_sI, if_neg (fun e => by omega)]; exact g105i2 q hq)) (by first | exact inj_swap p1 (by omega) (by omega) (by assumption) | exact inj_swap g105i3 (by omega) (by omega) (by assumption)) (by omega)
                refine vc_less [some (aR 54), none, none, none, none, some (aI x21), some (aI x22)] (lessL_keep (lessL_drop (lessL_drop (lessL_drop (lessL_drop (lessL_keep (lessL_keep (lessL_nil)))))))) ?_
                exact lp105 _ (sI (sI M 71 v2.toNat (mI M 71 v3.toNat)) 71 v3.toNat x14) x21 x22 hB20 kp18 kp19 (by omega) (by omega) (by omega) (by omega) (by omega) (by omega) (by first | (intro q hq; rfl) | (intro q hq; rw [mI_sI, if_neg (fun e => by omega), mI_sI, if_neg (fun e => by omega)]; exact g105i2 q hq)) (by first | exact inj_swap p1 (by omega) (by omega) (by assumption) | exact inj_swap g105i3 (by omega) (by omega) (by assumption)) (Nat.lt_succ_self _)
              · refine vc_iincE dX12_nextOrder_61 rfl (by omega) (by omega) (by decide) rfl (show _ = [some (aR 54), some (aI x3), some (aI v2), some (aI (v3 + (-1))), none, none, none] from rfl) ?_
                refine vc_goto dX12_nextOrder_64 ?_
                exact ih46 (v3 + (-1)) (by first | omega | (rcases (by omega : v3 = v2 + 1 ∨ v2 + 2 ≤ v3) with e9 | e9; (exfalso; subst e9; omega); omega)) (by first | omega | (rcases (by omega : v3 = v2 + 1 ∨ v2 + 2 ≤ v3) with e9 | e9; (exfalso; subst e9; omega); omega)) (by first | omega | (rcases (by omega : v3 = v2 + 1 ∨ v2 + 2 ≤ v3) with e9 | e9; (exfalso; subst e9; omega); omega)) (by omega)
          exact lp46 _ x11 (by first | omega | (rcases (by omega : v3 = v2 + 1 ∨ v2 + 2 ≤ v3) with e9 | e9; (exfalso; subst e9; omega); omega)) (by first | omega | (rcases (by omega : v3 = v2 + 1 ∨ v2 + 2 ≤ v3) with e9 | e9; (exfalso; subst e9; omega); omega)) (by first | omega | (rcases (by omega : v3 = v2 + 1 ∨ v2 + 2 ≤ v3) with e9 | e9; (exfalso; subst e9; omega); omega)) (Nat.lt_succ_self _)
        · refine vc_iincE dX12_nextOrder_30 rfl (by omega) (by omega) (by decide) rfl (show _ = [some (aR 54), some (aI x3), some (aI (v2 + (-1))), none, none, none, none] from rfl) ?_
          refine vc_goto dX12_nextOrder_33 ?_
          exact ih9 (v2 + (-1)) (by omega) (by omega) (by omega) (by omega)
  exact lp9 _ x4 (by omega) (by omega) (by omega) (Nat.lt_succ_self _)

set_option maxRecDepth 4000 in
theorem sfX12_findOrder {l : Launch} {M : Mem} (hB : Box M)  (s : Int)  : Call l mdX12_findOrder [aR 54, aI s] M (fun q N => ∃ r : Int, q = some (aI r) ∧ BF fQ M N ∧ mI N 55 = mI M 55 ∧ 0 ≤ r ∧ r ≤ 1 ∧ (r = 0 ∨ 0 ≤ mI M 55 256)) := by
  have hB0 : BF fQ M M := BF.start hB
  refine Call.of [some (aR 54), some (aI s), none, none, none, none] rfl (Nat.le_of_ble_eq_true rfl) rfl ?_
  refine vc_ok (fun hoM hoS hoL => ?_)
  have hr1 : -2147483648 ≤ s ∧ s < 2147483648 := hoL 1 _ rfl
  refine vc_aload_n dX12_findOrder_0 rfl ?_
  refine vc_cVI dX12_findOrder_1 (sfX12_isWalker (M := M) hB0.1   ) rfl okX12_isWalker viX12_isWalker lkX12_379 (s_54 hB0.1.1) cl_12 rfl (Nat.le_of_ble_eq_true rfl) ⟨rfl, rfl⟩ (Nat.le_of_ble_eq_true rfl) (Nat.le_of_ble_eq_true rfl) (Nat.le_of_ble_eq_true rfl) ?_
  rintro x1 _ ⟨rfl, h2, h3, h4⟩
  refine vc_if_eq dX12_findOrder_4 (fun h5 => ?_) (fun h5 => ?_)
  · refine vc_iconst dX12_findOrder_15 rfl ?_
    refine vc_zret dX12_findOrder_16 rfl (by first | decide | omega) (Nat.le_of_ble_eq_true rfl) (Nat.le_of_ble_eq_true rfl) ?_
    exact ⟨_, rfl, hB0, rfl, by omega, by omega, by omega⟩
  · refine vc_aload_n dX12_findOrder_7 rfl ?_
    refine vc_iload_n dX12_findOrder_8 rfl ?_
    refine vc_cVI dX12_findOrder_9 (sfX12_findProducts (M := M) hB0.1  s ) rfl okX12_findProducts viX12_findProducts lkX12_471 (s_54 hB0.1.1) cl_12 rfl (Nat.le_of_ble_eq_true rfl) ⟨rfl, rfl⟩ (Nat.le_of_ble_eq_true rfl) (Nat.le_of_ble_eq_true rfl) (Nat.le_of_ble_eq_true rfl) ?_
    rintro x6 M7 ⟨hB8, kp9, h10, h11⟩
    have hB12 : BF fQ M M7 := BF.go hB0 hB8
    have kp13 : mI M7 55 = mI M 55 := kp_go rfl kp9
    refine vc_if_ne dX12_findOrder_12 (fun h14 => ?_) (fun h14 => ?_)
    · refine vc_aload_n dX12_findOrder_17 rfl ?_
      refine vc_iconst dX12_findOrder_18 rfl ?_
      refine vc_putI dX12_findOrder_19 (plX12_490 _ rfl) (s_54 hB12.1.1) rfl ?_
      have kp15 : mI (sI M7 54 43 0) 55 = mI M 55 := (kp_sI kp13 rfl)
      have hB16 : BF fQ M (sI M7 54 43 0) := BF.w54_43 hB12 rfl (by omega) (by omega)
      refine vc_iconst dX12_findOrder_22 rfl ?_
      refine vc_istore_n dX12_findOrder_23 (by decide) rfl (show _ = [some (aR 54), some (aI s), some (aI 0), none, none, none] from rfl) ?_
      have ex97 : ∀ (Mq24 : Mem) , (BF fQ M Mq24) → (mI Mq24 55 = mI M 55) → (∀ q : Nat, (q : Int) < mI Mq24 54 43 → mI Mq24 71 q = q) → VC l mdX12_findOrder 97 [some (aR 54), none, none, none, none, none] [] Mq24 0 0 (fun q N => ∃ r : Int, q = some (aI r) ∧ BF fQ M N ∧ mI N 55 = mI M 55 ∧ 0 ≤ r ∧ r ≤ 1 ∧ (r = 0 ∨ 0 ≤ mI M 55 256)) := by
        intro Mq24 hQ24 kp24_55 g24i0
        refine vc_aload_n dX12_findOrder_97 rfl ?_
        refine vc_getI dX12_findOrder_98 flX12_490 (s_54 hQ24.1.1) rfl ?_
        have k17 : 0 ≤ mI Mq24 54 43 ∧ mI Mq24 54 43 ≤ 5 := b54_43 (M := Mq24) hQ24.1
        refine vc_if_ne dX12_findOrder_101 (fun h18 => ?_) (fun h18 => ?_)
        · refine vc_iconst dX12_findOrder_106 rfl ?_
          refine vc_istore_n dX12_findOrder_107 (by decide) rfl (show _ = [some (aR 54), none, some (aI 0), none, none, none] from rfl) ?_
          have ex129 : ∀ (Mq108 : Mem) , (BF fQ M Mq108) → (mI Mq108 55 = mI M 55) → (∀ q : Nat, (q : Int) < mI Mq108 54 43 → mI Mq108 71 q = q) → (1 ≤ mI Mq108 54 43) → VC l mdX12_findOrder 129 [some (aR 54), none, none, none, none, none] [] Mq108 0 0 (fun q N => ∃ r : Int, q = some (aI r) ∧ BF fQ M N ∧ mI N 55 = mI M 55 ∧ 0 ≤ r ∧ r ≤ 1 ∧ (r = 0 ∨ 0 ≤ mI M 55 256)) := by
            intro Mq108 hQ108 kp108_55 g108i0 g108i1
            refine vc_aload_n dX12_findOrder_129 rfl ?_
            refine vc_ldc2 dX12_findOrder_130 rfl klX12_474 ?_
            refine vc_putJ dX12_findOrder_133 (plX12_493 _ rfl) (s_54 hQ108.1.1) rfl ?_
            have kp19 : mI (sJ Mq108 54 44 (-1)) 55 = mI M 55 := (kp_sJ kp108_55)
            have hB20 : BF fQ M (sJ Mq108 54 44 (-1)) := BF.J hQ108 _ _ _ rfl
            refine vc_iconst dX12_findOrder_136 rfl ?_
            refine vc_istore_n dX12_findOrder_137 (by decide) rfl (show _ = [some (aR 54), none, some (aI 1), none, none, none] from rfl) ?_
            have lp138 : ∀ (n138 : Nat) (Mq138 : Mem) (v2 : Int), (BF fQ M Mq138) → (mI Mq138 55 = mI M 55) → (0 ≤ v2) → (v2 ≤ 1) → (1 ≤ mI Mq138 54 43) → (InjO (mI Mq138 71) (mI Mq138 54 43)) → (2 * (3125 - lv (mI Mq138 71) (mI Mq138 54 43).toNat) + v2).toNat < n138 → VC l mdX12_findOrder 138 [some (aR 54), none, some (aI v2), none, none, none] [] Mq138 0 0 (fun q N => ∃ r : Int, q = some (aI r) ∧ BF fQ M N ∧ mI N 55 = mI M 55 ∧ 0 ≤ r ∧ r ≤ 1 ∧ (r = 0 ∨ 0 ≤ mI M 55 256)) := by
              intro n138
              induction n138 with
              | zero => intro Mq138 v2 hQ138 kp138_55 g138_2a g138_2b g138i0 g138i1 hm138; exact absurd hm138 (Nat.not_lt_zero _)
              | succ n138 ih138 =>
                intro Mq138 v2 hQ138 kp138_55 g138_2a g138_2b g138i0 g138i1 hm138
                refine vc_iload_n dX12_findOrder_138 rfl ?_
                refine vc_if_eq dX12_findOrder_139 (fun h21 => ?_) (fun h21 => ?_)
                · refine vc_aload_n dX12_findOrder_216 rfl ?_
                  refine vc_getJ dX12_findOrder_217 flX12_493 (s_54 hQ138.1.1) rfl ?_
                  refine vc_lconst dX12_findOrder_220 ?_
                  refine vc_topL 0 rfl ?_
                  refine vc_lif_lt dX12_findOrder_221 dX12_findOrder_222 (fun h22 => ?_) (fun h22 => ?_)
                  · refine vc_iconst dX12_findOrder_229 rfl ?_
                    refine vc_zret dX12_findOrder_230 rfl (by first | decide | omega) (Nat.le_of_ble_eq_true rfl) (Nat.le_of_ble_eq_true rfl) ?_
                    exact ⟨_, rfl, hQ138, kp138_55, by omega, by omega, by omega⟩
                  · refine vc_iconst dX12_findOrder_225 rfl ?_
                    refine vc_goto dX12_findOrder_226 ?_
                    refine vc_zret dX12_findOrder_230 rfl (by first | decide | omega) (Nat.le_of_ble_eq_true rfl) (Nat.le_of_ble_eq_true rfl) ?_
                    exact ⟨_, rfl, hQ138, kp138_55, by omega, by omega, by omega⟩
                · refine vc_aload_n dX12_findOrder_142 rfl ?_
                  have f256 := congrFun kp138_55 256
                  refine vc_cVL dX12_findOrder_143 (sfX12_timeOf (M := Mq138) hQ138.1   (by omega)) rfl okX12_timeOf viX12_timeOf lkX12_496 (s_54 hQ138.1.1) cl_12 rfl (Nat.le_of_ble_eq_true rfl) ⟨rfl, rfl⟩ (Nat.le_of_ble_eq_true rfl) (Nat.le_of_ble_eq_true rfl) (Nat.le_of_ble_eq_true rfl) ?_
                  rintro x23 _ rfl
                  refine vc_lstore_n dX12_findOrder_146 (by decide) rfl rfl (show _ = [some (aR 54), none, some (aI v2), some (aL x23), none, none] from rfl) ?_
                  refine vc_lload_n dX12_findOrder_147 rfl ?_
                  refine vc_lconst dX12_findOrder_148 ?_
                  refine vc_topL 0 rfl ?_
                  refine vc_lif_lt dX12_findOrder_149 dX12_findOrder_150 (fun h24 => ?_) (fun h24 => ?_)
                  · have hPM : mI Mq138 71 = mI Mq138 71 := by first | rfl | exact g179i0
                    have hPN : mI Mq138 54 43 = mI Mq138 54 43 := by first | rfl | exact g179i1
                    refine vc_aload_n dX12_findOrder_208 rfl ?_
                    refine vc_cVI dX12_findOrder_209 (sfX12_nextOrder (M := Mq138) hQ138.1   (by rw [hPN]; exact g138i0) (by rw [hPM, hPN]; exact g138i1)) rfl okX12_nextOrder viX12_nextOrder lkX12_500 (s_54 hQ138.1.1) cl_12 rfl (Nat.le_of_ble_eq_true rfl) ⟨rfl, rfl⟩ (Nat.le_of_ble_eq_true rfl) (Nat.le_of_ble_eq_true rfl) (Nat.le_of_ble_eq_true rfl) ?_
                    rintro x25 M26 ⟨hB27, kp28, kp29, h30, h31, h32, h33, h34⟩
                    have hB35 : BF fQ M M26 := BF.go hQ138 hB27
                    have kp36 : mI M26 55 = mI M 55 := kp_go kp138_55 kp29
                    have fe37 : mI M26 54 43 = mI Mq138 54 43 := congrFun kp28 43
                    have hx0 := h32
                    have hx1 := h33
                    have hx2 := h34
                    have hxk := kp28
                    have hy := bA71 (M := M26) hB35.1
                    have hy5 := b54_43 (M := M26) hB35.1
                    have hxn := congrFun hxk 43
                    have hcn : mI M26 54 43 = mI Mq138 54 43 := hxn.trans hPN
                    have z0 := b54_43 (M := Mq138) hQ138.1
                    have z1 := lvo_5 (n := (mI Mq138 54 43).toNat) (bA71 (M := Mq138) hQ138.1) (by omega)
                    have z2 := lvo_5 (n := (mI Mq138 54 43).toNat) hy (by omega)
                    have z4 : (2 * (3125 - lv (mI M26 71) (mI Mq138 54 43).toNat) + x25).toNat < (2 * (3125 - lv (mI Mq138 71) (mI Mq138 54 43).toNat) + v2).toNat := by
                      by_cases e9 : x25 = 0
                      · rcases hx2 with e8 | e8
                        · exact absurd e9 e8
                        · clear hx0 h32; rw [e8, hPM]; omega
                      · rcases hx0 with e8 | ⟨i, i1, i2, i3⟩
                        · exact absurd e8 e9
                        · have z3 := lvo_lt (bA71 (M := Mq138) hQ138.1) hy i2 i3 (mI Mq138 54 43).toNat (by omega)
                          rw [hPM] at z3
                          clear h32; omega
                    clear hx0 h32
                    refine vc_istore_n dX12_findOrder_212 (by decide) rfl (show _ = [some (aR 54), none, some (aI x25), some (aL x23), none, none] from rfl) ?_
                    refine vc_goto dX12_findOrder_213 ?_
                    refine vc_less [some (aR 54), none, some (aI x25), none, none, none] (lessL_keep (lessL_keep (lessL_keep (lessL_drop (lessL_keep (lessL_keep (lessL_nil))))))) ?_
                    exact ih138 M26 x25 hB35 kp36 (by omega) (by omega) (by first | (show 1 ≤ mI Mq108 54 43; exact g108i1) | (rw [hcn]; exact g138i0)) (by first | (intro a b ha hb e; have ea := g108i0 a ha; have eb := g108i0 b hb; have e2 : mI Mq108 71 a = mI Mq108 71 b := e; omega) | (rw [hcn, ← hPN]; exact hx1)) (by rw [hcn]; omega)
                  · refine vc_aload_n dX12_findOrder_153 rfl ?_
                    refine vc_getJ dX12_findOrder_154 flX12_493 (s_54 hQ138.1.1) rfl ?_
                    refine vc_lconst dX12_findOrder_157 ?_
                    refine vc_topL 0 rfl ?_
                    refine vc_lif_lt dX12_findOrder_158 dX12_findOrder_159 (fun h38 => ?_) (fun h38 => ?_)
                    · refine vc_aload_n dX12_findOrder_171 rfl ?_
                      refine vc_lload_n dX12_findOrder_172 rfl ?_
                      refine vc_putJ dX12_findOrder_173 (plX12_493 _ rfl) (s_54 hQ138.1.1) rfl ?_
                      have kp39 : mI (sJ Mq138 54 44 x23) 55 = mI M 55 := (kp_sJ kp138_55)
                      have hB40 : BF fQ M (sJ Mq138 54 44 x23) := BF.J hQ138 _ _ _ rfl
                      refine vc_iconst dX12_findOrder_176 rfl ?_
                      refine vc_istore dX12_findOrder_177 (by decide) rfl (show _ = [some (aR 54), none, some (aI v2), some (aL x23), none, some (aI 0)] from rfl) ?_
                      have lp179 : ∀ (n179 : Nat) (Mq179 : Mem) (v5 : Int), (BF fQ M Mq179) → (mI Mq179 55 = mI M 55) → (0 ≤ v5) → (v5 ≤ 5) → (mI Mq179 71 = mI Mq138 71) → (mI Mq179 54 43 = mI Mq138 54 43) → (5 - v5).toNat < n179 → VC l mdX12_findOrder 179 [some (aR 54), none, none, none, none, some (aI v5)] [] Mq179 0 0 (fun q N => ∃ r : Int, q = some (aI r) ∧ BF fQ M N ∧ mI N 55 = mI M 55 ∧ 0 ≤ r ∧ r ≤ 1 ∧ (r = 0 ∨ 0 ≤ mI M 55 256)) := by
                        intro n179
                        induction n179 with
                        | zero => intro Mq179 v5 hQ179 kp179_55 g179_5a g179_5b g179i0 g179i1 hm179; exact absurd hm179 (Nat.not_lt_zero _)
                        | succ n179 ih179 =>
                          intro Mq179 v5 hQ179 kp179_55 g179_5a g179_5b g179i0 g179i1 hm179
                          refine vc_iload dX12_findOrder_179 rfl ?_
                          refine vc_aload_n dX12_findOrder_181 rfl ?_
                          refine vc_getI dX12_findOrder_182 flX12_490 (s_54 hQ179.1.1) rfl ?_
                          have k41 : 0 ≤ mI Mq179 54 43 ∧ mI Mq179 54 43 ≤ 5 := b54_43 (M := Mq179) hQ179.1
                          refine vc_icmp_ge dX12_findOrder_185 (fun h42 => ?_) (fun h42 => ?_)
                          · have hPM : mI Mq179 71 = mI Mq138 71 := by first | rfl | exact g179i0
                            have hPN : mI Mq179 54 43 = mI Mq138 54 43 := by first | rfl | exact g179i1
                            refine vc_aload_n dX12_findOrder_208 rfl ?_
                            refine vc_cVI dX12_findOrder_209 (sfX12_nextOrder (M := Mq179) hQ179.1   (by rw [hPN]; exact g138i0) (by rw [hPM, hPN]; exact g138i1)) rfl okX12_nextOrder viX12_nextOrder lkX12_500 (s_54 hQ179.1.1) cl_12 rfl (Nat.le_of_ble_eq_true rfl) ⟨rfl, rfl⟩ (Nat.le_of_ble_eq_true rfl) (Nat.le_of_ble_eq_true rfl) (Nat.le_of_ble_eq_true rfl) ?_
                            rintro x43 M44 ⟨hB45, kp46, kp47, h48, h49, h50, h51, h52⟩
                            have hB53 : BF fQ M M44 := BF.go hQ179 hB45
                            have kp54 : mI M44 55 = mI M 55 := kp_go kp179_55 kp47
                            have fe55 : mI M44 54 43 = mI Mq179 54 43 := congrFun kp46 43
                            have hx0 := h50
                            have hx1 := h51
                            have hx2 := h52
                            have hxk := kp46
                            have hy := bA71 (M := M44) hB53.1
                            have hy5 := b54_43 (M := M44) hB53.1
                            have hxn := congrFun hxk 43
                            have hcn : mI M44 54 43 = mI Mq138 54 43 := hxn.trans hPN
                            have z0 := b54_43 (M := Mq138) hQ138.1
                            have z1 := lvo_5 (n := (mI Mq138 54 43).toNat) (bA71 (M := Mq138) hQ138.1) (by omega)
                            have z2 := lvo_5 (n := (mI Mq138 54 43).toNat) hy (by omega)
                            have z4 : (2 * (3125 - lv (mI M44 71) (mI Mq138 54 43).toNat) + x43).toNat < (2 * (3125 - lv (mI Mq138 71) (mI Mq138 54 43).toNat) + v2).toNat := by
                              by_cases e9 : x43 = 0
                              · rcases hx2 with e8 | e8
                                · exact absurd e9 e8
                                · clear hx0 h50; rw [e8, hPM]; omega
                              · rcases hx0 with e8 | ⟨i, i1, i2, i3⟩
                                · exact absurd e8 e9
                                · have z3 := lvo_lt (bA71 (M := Mq179) hQ179.1) hy i2 i3 (mI Mq138 54 43).toNat (by omega)
                                  rw [hPM] at z3
                                  clear h50; omega
                            clear hx0 h50
                            refine vc_istore_n dX12_findOrder_212 (by decide) rfl (show _ = [some (aR 54), none, some (aI x43), none, none, some (aI v5)] from rfl) ?_
                            refine vc_goto dX12_findOrder_213 ?_
                            refine vc_less [some (aR 54), none, some (aI x43), none, none, none] (lessL_keep (lessL_keep (lessL_keep (lessL_keep (lessL_keep (lessL_drop (lessL_nil))))))) ?_
                            exact ih138 M44 x43 hB53 kp54 (by omega) (by omega) (by first | (show 1 ≤ mI Mq108 54 43; exact g108i1) | (rw [hcn]; exact g138i0)) (by first | (intro a b ha hb e; have ea := g108i0 a ha; have eb := g108i0 b hb; have e2 : mI Mq108 71 a = mI Mq108 71 b := e; omega) | (rw [hcn, ← hPN]; exact hx1)) (by rw [hcn]; omega)
                          · refine vc_aload_n dX12_findOrder_188 rfl ?_
                            refine vc_getR dX12_findOrder_189 flX12_70 (s_54 hQ179.1.1) rfl (r_54_42 hQ179.1.1) ?_
                            refine vc_iload dX12_findOrder_192 rfl ?_
                            refine vc_aload_n dX12_findOrder_194 rfl ?_
                            refine vc_getR dX12_findOrder_195 flX12_67 (s_54 hQ179.1.1) rfl (r_54_41 hQ179.1.1) ?_
                            refine vc_iload dX12_findOrder_198 rfl ?_
                            refine vc_iaload dX12_findOrder_200 (s_71 hQ179.1.1) (by omega) (by omega) ?_
                            have k56 : 0 ≤ mI Mq179 71 v5.toNat ∧ mI Mq179 71 v5.toNat ≤ 4 := bA71 (M := Mq179) hQ179.1 _
                            refine vc_iastore dX12_findOrder_201 (s_72 hQ179.1.1) (by omega) (by omega) ?_
                            have kp57 : mI (sI Mq179 72 v5.toNat (mI Mq179 71 v5.toNat)) 55 = mI M 55 := (kp_sI kp179_55 rfl)
                            have hB58 : BF fQ M (sI Mq179 72 v5.toNat (mI Mq179 71 v5.toNat)) := BF.w72 hQ179 (fun _ => rfl) _ (by omega) (by omega)
                            refine vc_iincE dX12_findOrder_202 rfl (by omega) (by omega) (by decide) rfl (show _ = [some (aR 54), none, none, none, none, some (aI (v5 + 1))] from rfl) ?_
                            refine vc_goto dX12_findOrder_205 ?_
                            have k59 : mI (sI Mq179 72 v5.toNat (mI Mq179 71 v5.toNat)) 54 43 = mI Mq179 54 43 := rfl
                            exact ih179 (sI Mq179 72 v5.toNat (mI Mq179 71 v5.toNat)) (v5 + 1) hB58 kp57 (by omega) (by omega) (by first | rfl | (exact kp_sI g179i0 rfl)) (by first | rfl | exact g179i1) (by omega)
                      refine vc_less [some (aR 54), none, none, none, none, some (aI 0)] (lessL_keep (lessL_keep (lessL_drop (lessL_drop (lessL_keep (lessL_keep (lessL_nil))))))) ?_
                      have k60 : mI (sJ Mq138 54 44 x23) 54 43 = mI Mq138 54 43 := rfl
                      exact lp179 _ (sJ Mq138 54 44 x23) 0 hB40 kp39 (by omega) (by omega) (by first | rfl | (exact kp_sI g179i0 rfl)) (by first | rfl | exact g179i1) (Nat.lt_succ_self _)
                    · refine vc_lload_n dX12_findOrder_162 rfl ?_
                      refine vc_aload_n dX12_findOrder_163 rfl ?_
                      refine vc_getJ dX12_findOrder_164 flX12_493 (s_54 hQ138.1.1) rfl ?_
                      refine vc_lif_ge dX12_findOrder_167 dX12_findOrder_168 (fun h61 => ?_) (fun h61 => ?_)
                      · have hPM : mI Mq138 71 = mI Mq138 71 := by first | rfl | exact g179i0
                        have hPN : mI Mq138 54 43 = mI Mq138 54 43 := by first | rfl | exact g179i1
                        refine vc_aload_n dX12_findOrder_208 rfl ?_
                        refine vc_cVI dX12_findOrder_209 (sfX12_nextOrder (M := Mq138) hQ138.1   (by rw [hPN]; exact g138i0) (by rw [hPM, hPN]; exact g138i1)) rfl okX12_nextOrder viX12_nextOrder lkX12_500 (s_54 hQ138.1.1) cl_12 rfl (Nat.le_of_ble_eq_true rfl) ⟨rfl, rfl⟩ (Nat.le_of_ble_eq_true rfl) (Nat.le_of_ble_eq_true rfl) (Nat.le_of_ble_eq_true rfl) ?_
                        rintro x62 M63 ⟨hB64, kp65, kp66, h67, h68, h69, h70, h71⟩
                        have hB72 : BF fQ M M63 := BF.go hQ138 hB64
                        have kp73 : mI M63 55 = mI M 55 := kp_go kp138_55 kp66
                        have fe74 : mI M63 54 43 = mI Mq138 54 43 := congrFun kp65 43
                        have hx0 := h69
                        have hx1 := h70
                        have hx2 := h71
                        have hxk := kp65
                        have hy := bA71 (M := M63) hB72.1
                        have hy5 := b54_43 (M := M63) hB72.1
                        have hxn := congrFun hxk 43
                        have hcn : mI M63 54 43 = mI Mq138 54 43 := hxn.trans hPN
                        have z0 := b54_43 (M := Mq138) hQ138.1
                        have z1 := lvo_5 (n := (mI Mq138 54 43).toNat) (bA71 (M := Mq138) hQ138.1) (by omega)
                        have z2 := lvo_5 (n := (mI Mq138 54 43).toNat) hy (by omega)
                        have z4 : (2 * (3125 - lv (mI M63 71) (mI Mq138 54 43).toNat) + x62).toNat < (2 * (3125 - lv (mI Mq138 71) (mI Mq138 54 43).toNat) + v2).toNat := by
                          by_cases e9 : x62 = 0
                          · rcases hx2 with e8 | e8
                            · exact absurd e9 e8
                            · clear hx0 h69; rw [e8, hPM]; omega
                          · rcases hx0 with e8 | ⟨i, i1, i2, i3⟩
                            · exact absurd e8 e9
                            · have z3 := lvo_lt (bA71 (M := Mq138) hQ138.1) hy i2 i3 (mI Mq138 54 43).toNat (by omega)
                              rw [hPM] at z3
                              clear h69; omega
                        clear hx0 h69
                        refine vc_istore_n dX12_findOrder_212 (by decide) rfl (show _ = [some (aR 54), none, some (aI x62), some (aL x23), none, none] from rfl) ?_
                        refine vc_goto dX12_findOrder_213 ?_
                        refine vc_less [some (aR 54), none, some (aI x62), none, none, none] (lessL_keep (lessL_keep (lessL_keep (lessL_drop (lessL_keep (lessL_keep (lessL_nil))))))) ?_
                        exact ih138 M63 x62 hB72 kp73 (by omega) (by omega) (by first | (show 1 ≤ mI Mq108 54 43; exact g108i1) | (rw [hcn]; exact g138i0)) (by first | (intro a b ha hb e; have ea := g108i0 a ha; have eb := g108i0 b hb; have e2 : mI Mq108 71 a = mI Mq108 71 b := e; omega) | (rw [hcn, ← hPN]; exact hx1)) (by rw [hcn]; omega)
                      · refine vc_aload_n dX12_findOrder_171 rfl ?_
                        refine vc_lload_n dX12_findOrder_172 rfl ?_
                        refine vc_putJ dX12_findOrder_173 (plX12_493 _ rfl) (s_54 hQ138.1.1) rfl ?_
                        have kp75 : mI (sJ Mq138 54 44 x23) 55 = mI M 55 := (kp_sJ kp138_55)
                        have hB76 : BF fQ M (sJ Mq138 54 44 x23) := BF.J hQ138 _ _ _ rfl
                        refine vc_iconst dX12_findOrder_176 rfl ?_
                        refine vc_istore dX12_findOrder_177 (by decide) rfl (show _ = [some (aR 54), none, some (aI v2), some (aL x23), none, some (aI 0)] from rfl) ?_
                        have lp179 : ∀ (n179 : Nat) (Mq179 : Mem) (v5 : Int), (BF fQ M Mq179) → (mI Mq179 55 = mI M 55) → (0 ≤ v5) → (v5 ≤ 5) → (mI Mq179 71 = mI Mq138 71) → (mI Mq179 54 43 = mI Mq138 54 43) → (5 - v5).toNat < n179 → VC l mdX12_findOrder 179 [some (aR 54), none, none, none, none, some (aI v5)] [] Mq179 0 0 (fun q N => ∃ r : Int, q = some (aI r) ∧ BF fQ M N ∧ mI N 55 = mI M 55 ∧ 0 ≤ r ∧ r ≤ 1 ∧ (r = 0 ∨ 0 ≤ mI M 55 256)) := by
                          intro n179
                          induction n179 with
                          | zero => intro Mq179 v5 hQ179 kp179_55 g179_5a g179_5b g179i0 g179i1 hm179; exact absurd hm179 (Nat.not_lt_zero _)
                          | succ n179 ih179 =>
                            intro Mq179 v5 hQ179 kp179_55 g179_5a g179_5b g179i0 g179i1 hm179
                            refine vc_iload dX12_findOrder_179 rfl ?_
                            refine vc_aload_n dX12_findOrder_181 rfl ?_
                            refine vc_getI dX12_findOrder_182 flX12_490 (s_54 hQ179.1.1) rfl ?_
                            have k77 : 0 ≤ mI Mq179 54 43 ∧ mI Mq179 54 43 ≤ 5 := b54_43 (M := Mq179) hQ179.1
                            refine vc_icmp_ge dX12_findOrder_185 (fun h78 => ?_) (fun h78 => ?_)
                            · have hPM : mI Mq179 71 = mI Mq138 71 := by first | rfl | exact g179i0
                              have hPN : mI Mq179 54 43 = mI Mq138 54 43 := by first | rfl | exact g179i1
                              refine vc_aload_n dX12_findOrder_208 rfl ?_
                              refine vc_cVI dX12_findOrder_209 (sfX12_nextOrder (M := Mq179) hQ179.1   (by rw [hPN]; exact g138i0) (by rw [hPM, hPN]; exact g138i1)) rfl okX12_nextOrder viX12_nextOrder lkX12_500 (s_54 hQ179.1.1) cl_12 rfl (Nat.le_of_ble_eq_true rfl) ⟨rfl, rfl⟩ (Nat.le_of_ble_eq_true rfl) (Nat.le_of_ble_eq_true rfl) (Nat.le_of_ble_eq_true rfl) ?_
                              rintro x79 M80 ⟨hB81, kp82, kp83, h84, h85, h86, h87, h88⟩
                              have hB89 : BF fQ M M80 := BF.go hQ179 hB81
                              have kp90 : mI M80 55 = mI M 55 := kp_go kp179_55 kp83
                              have fe91 : mI M80 54 43 = mI Mq179 54 43 := congrFun kp82 43
                              have hx0 := h86
                              have hx1 := h87
                              have hx2 := h88
                              have hxk := kp82
                              have hy := bA71 (M := M80) hB89.1
                              have hy5 := b54_43 (M := M80) hB89.1
                              have hxn := congrFun hxk 43
                              have hcn : mI M80 54 43 = mI Mq138 54 43 := hxn.trans hPN
                              have z0 := b54_43 (M := Mq138) hQ138.1
                              have z1 := lvo_5 (n := (mI Mq138 54 43).toNat) (bA71 (M := Mq138) hQ138.1) (by omega)
                              have z2 := lvo_5 (n := (mI Mq138 54 43).toNat) hy (by omega)
                              have z4 : (2 * (3125 - lv (mI M80 71) (mI Mq138 54 43).toNat) + x79).toNat < (2 * (3125 - lv (mI Mq138 71) (mI Mq138 54 43).toNat) + v2).toNat := by
                                by_cases e9 : x79 = 0
                                · rcases hx2 with e8 | e8
                                  · exact absurd e9 e8
                                  · clear hx0 h86; rw [e8, hPM]; omega
                                · rcases hx0 with e8 | ⟨i, i1, i2, i3⟩
                                  · exact absurd e8 e9
                                  · have z3 := lvo_lt (bA71 (M := Mq179) hQ179.1) hy i2 i3 (mI Mq138 54 43).toNat (by omega)
                                    rw [hPM] at z3
                                    clear h86; omega
                              clear hx0 h86
                              refine vc_istore_n dX12_findOrder_212 (by decide) rfl (show _ = [some (aR 54), none, some (aI x79), none, none, some (aI v5)] from rfl) ?_
                              refine vc_goto dX12_findOrder_213 ?_
                              refine vc_less [some (aR 54), none, some (aI x79), none, none, none] (lessL_keep (lessL_keep (lessL_keep (lessL_keep (lessL_keep (lessL_drop (lessL_nil))))))) ?_
                              exact ih138 M80 x79 hB89 kp90 (by omega) (by omega) (by first | (show 1 ≤ mI Mq108 54 43; exact g108i1) | (rw [hcn]; exact g138i0)) (by first | (intro a b ha hb e; have ea := g108i0 a ha; have eb := g108i0 b hb; have e2 : mI Mq108 71 a = mI Mq108 71 b := e; omega) | (rw [hcn, ← hPN]; exact hx1)) (by rw [hcn]; omega)
                            · refine vc_aload_n dX12_findOrder_188 rfl ?_
                              refine vc_getR dX12_findOrder_189 flX12_70 (s_54 hQ179.1.1) rfl (r_54_42 hQ179.1.1) ?_
                              refine vc_iload dX12_findOrder_192 rfl ?_
                              refine vc_aload_n dX12_findOrder_194 rfl ?_
                              refine vc_getR dX12_findOrder_195 flX12_67 (s_54 hQ179.1.1) rfl (r_54_41 hQ179.1.1) ?_
                              refine vc_iload dX12_findOrder_198 rfl ?_
                              refine vc_iaload dX12_findOrder_200 (s_71 hQ179.1.1) (by omega) (by omega) ?_
                              have k92 : 0 ≤ mI Mq179 71 v5.toNat ∧ mI Mq179 71 v5.toNat ≤ 4 := bA71 (M := Mq179) hQ179.1 _
                              refine vc_iastore dX12_findOrder_201 (s_72 hQ179.1.1) (by omega) (by omega) ?_
                              have kp93 : mI (sI Mq179 72 v5.toNat (mI Mq179 71 v5.toNat)) 55 = mI M 55 := (kp_sI kp179_55 rfl)
                              have hB94 : BF fQ M (sI Mq179 72 v5.toNat (mI Mq179 71 v5.toNat)) := BF.w72 hQ179 (fun _ => rfl) _ (by omega) (by omega)
                              refine vc_iincE dX12_findOrder_202 rfl (by omega) (by omega) (by decide) rfl (show _ = [some (aR 54), none, none, none, none, some (aI (v5 + 1))] from rfl) ?_
                              refine vc_goto dX12_findOrder_205 ?_
                              have k95 : mI (sI Mq179 72 v5.toNat (mI Mq179 71 v5.toNat)) 54 43 = mI Mq179 54 43 := rfl
                              exact ih179 (sI Mq179 72 v5.toNat (mI Mq179 71 v5.toNat)) (v5 + 1) hB94 kp93 (by omega) (by omega) (by first | rfl | (exact kp_sI g179i0 rfl)) (by first | rfl | exact g179i1) (by omega)
                        refine vc_less [some (aR 54), none, none, none, none, some (aI 0)] (lessL_keep (lessL_keep (lessL_drop (lessL_drop (lessL_keep (lessL_keep (lessL_nil))))))) ?_
                        have k96 : mI (sJ Mq138 54 44 x23) 54 43 = mI Mq138 54 43 := rfl
                        exact lp179 _ (sJ Mq138 54 44 x23) 0 hB76 kp75 (by omega) (by omega) (by first | rfl | (exact kp_sI g179i0 rfl)) (by first | rfl | exact g179i1) (Nat.lt_succ_self _)
            have k97 : mI (sJ Mq108 54 44 (-1)) 54 43 = mI Mq108 54 43 := rfl
            exact lp138 _ (sJ Mq108 54 44 (-1)) 1 hB20 kp19 (by omega) (by omega) (by first | (show 1 ≤ mI Mq108 54 43; exact g108i1) | (rw [hcn]; exact g138i0)) (by first | (intro a b ha hb e; have ea := g108i0 a ha; have eb := g108i0 b hb; have e2 : mI Mq108 71 a = mI Mq108 71 b := e; omega) | (rw [hcn, ← hPN]; exact hx1)) (Nat.lt_succ_self _)
          have lp108 : ∀ (n108 : Nat) (Mq108 : Mem) (v2 : Int), (BF fQ M Mq108) → (mI Mq108 55 = mI M 55) → (0 ≤ v2) → (v2 ≤ 16) → (∀ q : Nat, (q : Int) < mI Mq108 54 43 → mI Mq108 71 q = q) → (1 ≤ mI Mq108 54 43) → (16 - v2).toNat < n108 → VC l mdX12_findOrder 108 [some (aR 54), none, some (aI v2), none, none, none] [] Mq108 0 0 (fun q N => ∃ r : Int, q = some (aI r) ∧ BF fQ M N ∧ mI N 55 = mI M 55 ∧ 0 ≤ r ∧ r ≤ 1 ∧ (r = 0 ∨ 0 ≤ mI M 55 256)) := by
            intro n108
            induction n108 with
            | zero => intro Mq108 v2 hQ108 kp108_55 g108_2a g108_2b g108i0 g108i1 hm108; exact absurd hm108 (Nat.not_lt_zero _)
            | succ n108 ih108 =>
              intro Mq108 v2 hQ108 kp108_55 g108_2a g108_2b g108i0 g108i1 hm108
              refine vc_iload_n dX12_findOrder_108 rfl ?_
              refine vc_aload_n dX12_findOrder_109 rfl ?_
              refine vc_getR dX12_findOrder_110 flX12_7 (s_54 hQ108.1.1) rfl (r_54_0 hQ108.1.1) ?_
              refine vc_iconst dX12_findOrder_113 rfl ?_
              refine vc_iaload dX12_findOrder_114 (s_55 hQ108.1.1) (by omega) (by omega) ?_
              refine vc_topI (mI Mq108 55 0) rfl ?_
              have k98 : 0 ≤ mI Mq108 55 0 ∧ mI Mq108 55 0 ≤ 16 := b55_0 (M := Mq108) hQ108.1
              have k99 : mI Mq108 55 0 = mI M 55 0 := congrFun kp108_55 0
              refine vc_icmp_ge dX12_findOrder_115 (fun h100 => ?_) (fun h100 => ?_)
              · refine vc_less [some (aR 54), none, none, none, none, none] (lessL_keep (lessL_keep (lessL_drop (lessL_keep (lessL_keep (lessL_keep (lessL_nil))))))) ?_
                exact ex129 Mq108 hQ108 kp108_55 (by first | assumption | omega) (by first | assumption | omega) 
              · refine vc_aload_n dX12_findOrder_118 rfl ?_
                refine vc_iload_n dX12_findOrder_119 rfl ?_
                refine vc_cVU dX12_findOrder_120 (sfX12_findFar (M := Mq108) hQ108.1  v2 (by omega) (by omega)) rfl okX12_findFar viX12_findFar lkX12_487 (s_54 hQ108.1.1) cl_12 rfl (Nat.le_of_ble_eq_true rfl) ⟨rfl, rfl⟩ (Nat.le_of_ble_eq_true rfl) (Nat.le_of_ble_eq_true rfl) (Nat.le_of_ble_eq_true rfl) ?_
                rintro M101 ⟨hB102, kp103, kp104, kp105⟩
                have hB106 : BF fQ M M101 := BF.go hQ108 hB102.vq
                have kp107 : mI M101 55 = mI M 55 := kp_go kp108_55 kp104
                have fe108 : mI M101 54 43 = mI Mq108 54 43 := congrFun kp103 43
                have hf71 := kp105
                have hf54 := congrFun kp103 43
                refine vc_iincE dX12_findOrder_123 rfl (by omega) (by omega) (by decide) rfl (show _ = [some (aR 54), none, some (aI (v2 + 1)), none, none, none] from rfl) ?_
                refine vc_goto dX12_findOrder_126 ?_
                exact ih108 M101 (v2 + 1) hB106 kp107 (by omega) (by omega) (by first | exact g24i0 | (rw [hf71, hf54]; exact g108i0)) (by first | omega | (rw [hf54]; exact g108i1)) (by omega)
          exact lp108 _ Mq24 0 hQ24 kp24_55 (by omega) (by omega) (by first | exact g24i0 | (rw [hf71, hf54]; exact g108i0)) (by first | omega | (rw [hf54]; exact g108i1)) (Nat.lt_succ_self _)
        · refine vc_iconst dX12_findOrder_104 rfl ?_
          refine vc_zret dX12_findOrder_105 rfl (by first | decide | omega) (Nat.le_of_ble_eq_true rfl) (Nat.le_of_ble_eq_true rfl) ?_
          exact ⟨_, rfl, hQ24, kp24_55, by omega, by omega, by omega⟩
      have lp24 : ∀ (n24 : Nat) (Mq24 : Mem) (v2 : Int), (BF fQ M Mq24) → (mI Mq24 55 = mI M 55) → (0 ≤ v2) → (v2 ≤ 16) → (∀ q : Nat, (q : Int) < mI Mq24 54 43 → mI Mq24 71 q = q) → (16 - v2).toNat < n24 → VC l mdX12_findOrder 24 [some (aR 54), none, some (aI v2), none, none, none] [] Mq24 0 0 (fun q N => ∃ r : Int, q = some (aI r) ∧ BF fQ M N ∧ mI N 55 = mI M 55 ∧ 0 ≤ r ∧ r ≤ 1 ∧ (r = 0 ∨ 0 ≤ mI M 55 256)) := by
        intro n24
        induction n24 with
        | zero => intro Mq24 v2 hQ24 kp24_55 g24_2a g24_2b g24i0 hm24; exact absurd hm24 (Nat.not_lt_zero _)
        | succ n24 ih24 =>
          intro Mq24 v2 hQ24 kp24_55 g24_2a g24_2b g24i0 hm24
          refine vc_iload_n dX12_findOrder_24 rfl ?_
          refine vc_aload_n dX12_findOrder_25 rfl ?_
          refine vc_getR dX12_findOrder_26 flX12_7 (s_54 hQ24.1.1) rfl (r_54_0 hQ24.1.1) ?_
          refine vc_iconst dX12_findOrder_29 rfl ?_
          refine vc_iaload dX12_findOrder_30 (s_55 hQ24.1.1) (by omega) (by omega) ?_
          refine vc_topI (mI Mq24 55 0) rfl ?_
          have k109 : 0 ≤ mI Mq24 55 0 ∧ mI Mq24 55 0 ≤ 16 := b55_0 (M := Mq24) hQ24.1
          have k110 : mI Mq24 55 0 = mI M 55 0 := congrFun kp24_55 0
          refine vc_icmp_ge dX12_findOrder_31 (fun h111 => ?_) (fun h111 => ?_)
          · refine vc_less [some (aR 54), none, none, none, none, none] (lessL_keep (lessL_keep (lessL_drop (lessL_keep (lessL_keep (lessL_keep (lessL_nil))))))) ?_
            exact ex97 Mq24 hQ24 kp24_55 (by first | assumption | omega) 
          · refine vc_aload_n dX12_findOrder_34 rfl ?_
            refine vc_getR dX12_findOrder_35 flX12_51 (s_54 hQ24.1.1) rfl (r_54_35 hQ24.1.1) ?_
            refine vc_iload_n dX12_findOrder_38 rfl ?_
            refine vc_laload dX12_findOrder_39 (s_66 hQ24.1.1) (by omega) (by omega) ?_
            refine vc_lconst dX12_findOrder_40 ?_
            refine vc_topL 0 rfl ?_
            refine vc_lif_ne dX12_findOrder_41 dX12_findOrder_42 (fun h112 => ?_) (fun h112 => ?_)
            · refine vc_aload_n dX12_findOrder_48 rfl ?_
              refine vc_getI dX12_findOrder_49 flX12_490 (s_54 hQ24.1.1) rfl ?_
              have k113 : 0 ≤ mI Mq24 54 43 ∧ mI Mq24 54 43 ≤ 5 := b54_43 (M := Mq24) hQ24.1
              refine vc_iconst dX12_findOrder_52 rfl ?_
              refine vc_icmp_ne dX12_findOrder_53 (fun h114 => ?_) (fun h114 => ?_)
              · refine vc_aload_n dX12_findOrder_58 rfl ?_
                refine vc_getR dX12_findOrder_59 flX12_64 (s_54 hQ24.1.1) rfl (r_54_40 hQ24.1.1) ?_
                refine vc_aload_n dX12_findOrder_62 rfl ?_
                refine vc_getI dX12_findOrder_63 flX12_490 (s_54 hQ24.1.1) rfl ?_
                refine vc_iload_n dX12_findOrder_66 rfl ?_
                refine vc_iastore dX12_findOrder_67 (s_70 hQ24.1.1) (by omega) (by omega) ?_
                have kp115 : mI (sI Mq24 70 ((mI Mq24 54 43).toNat) v2) 55 = mI M 55 := (kp_sI kp24_55 rfl)
                have hB116 : BF fQ M (sI Mq24 70 ((mI Mq24 54 43).toNat) v2) := BF.w70 hQ24 (fun _ => rfl) _ (by omega) (by omega)
                refine vc_aload_n dX12_findOrder_68 rfl ?_
                refine vc_getR dX12_findOrder_69 flX12_67 (s_54 hB116.1.1) rfl (r_54_41 hB116.1.1) ?_
                refine vc_aload_n dX12_findOrder_72 rfl ?_
                refine vc_getI dX12_findOrder_73 flX12_490 (s_54 hB116.1.1) rfl ?_
                refine vc_topI (mI Mq24 54 43) rfl ?_
                have k117 : 0 ≤ mI Mq24 54 43 ∧ mI Mq24 54 43 ≤ 5 := b54_43 (M := (sI Mq24 70 ((mI Mq24 54 43).toNat) v2)) hB116.1
                refine vc_aload_n dX12_findOrder_76 rfl ?_
                refine vc_getI dX12_findOrder_77 flX12_490 (s_54 hB116.1.1) rfl ?_
                refine vc_topI (mI Mq24 54 43) rfl ?_
                refine vc_iastore dX12_findOrder_80 (s_71 hB116.1.1) (by omega) (by omega) ?_
                have kp118 : mI (sI (sI Mq24 70 ((mI Mq24 54 43).toNat) v2) 71 ((mI Mq24 54 43).toNat) (mI Mq24 54 43)) 55 = mI M 55 := (kp_sI kp115 rfl)
                have hB119 : BF fQ M (sI (sI Mq24 70 ((mI Mq24 54 43).toNat) v2) 71 ((mI Mq24 54 43).toNat) (mI Mq24 54 43)) := BF.w71 hB116 (fun _ => rfl) _ (by omega) (by omega)
                refine vc_aload_n dX12_findOrder_81 rfl ?_
                refine vc_dup dX12_findOrder_82 rfl ?_
                refine vc_getI dX12_findOrder_83 flX12_490 (s_54 hB119.1.1) rfl ?_
                refine vc_topI (mI Mq24 54 43) rfl ?_
                have k120 : 0 ≤ mI Mq24 54 43 ∧ mI Mq24 54 43 ≤ 5 := b54_43 (M := (sI (sI Mq24 70 ((mI Mq24 54 43).toNat) v2) 71 ((mI Mq24 54 43).toNat) (mI Mq24 54 43))) hB119.1
                refine vc_iconst dX12_findOrder_86 rfl ?_
                refine vc_iaddE dX12_findOrder_87 (by omega) (by omega) ?_
                refine vc_putI dX12_findOrder_88 (plX12_490 _ rfl) (s_54 hB119.1.1) rfl ?_
                have kp121 : mI (sI (sI (sI Mq24 70 ((mI Mq24 54 43).toNat) v2) 71 ((mI Mq24 54 43).toNat) (mI Mq24 54 43)) 54 43 ((mI Mq24 54 43) + 1)) 55 = mI M 55 := (kp_sI kp118 rfl)
                have hB122 : BF fQ M (sI (sI (sI Mq24 70 ((mI Mq24 54 43).toNat) v2) 71 ((mI Mq24 54 43).toNat) (mI Mq24 54 43)) 54 43 ((mI Mq24 54 43) + 1)) := BF.w54_43 hB119 rfl (by omega) (by omega)
                refine vc_iincE dX12_findOrder_91 rfl (by omega) (by omega) (by decide) rfl (show _ = [some (aR 54), none, some (aI (v2 + 1)), none, none, none] from rfl) ?_
                refine vc_goto dX12_findOrder_94 ?_
                have k123 : mI (sI (sI (sI Mq24 70 ((mI Mq24 54 43).toNat) v2) 71 ((mI Mq24 54 43).toNat) (mI Mq24 54 43)) 54 43 ((mI Mq24 54 43) + 1)) 54 43 = (mI Mq24 54 43) + 1 := rfl
                exact ih24 (sI (sI (sI Mq24 70 ((mI Mq24 54 43).toNat) v2) 71 ((mI Mq24 54 43).toNat) (mI Mq24 54 43)) 54 43 ((mI Mq24 54 43) + 1)) (v2 + 1) hB122 kp121 (by omega) (by omega) (by first | (intro q hq; exfalso; have hq2 : (q : Int) < 0 := hq; omega) | exact g24i0 | (intro q hq; have hq2 : (q : Int) < mI Mq24 54 43 + 1 := hq; show mI (sI (sI Mq24 70 _ _) 71 _ _) 71 q = q; rw [mI_sI]; by_cases e : q = (mI Mq24 54 43).toNat; (rw [if_pos ⟨rfl, e⟩]; omega); (rw [if_neg (fun z => e z.2)]; exact g24i0 q (by omega)))) (by omega)
              · refine vc_iconst dX12_findOrder_56 rfl ?_
                refine vc_zret dX12_findOrder_57 rfl (by first | decide | omega) (Nat.le_of_ble_eq_true rfl) (Nat.le_of_ble_eq_true rfl) ?_
                exact ⟨_, rfl, hQ24, kp24_55, by omega, by omega, by omega⟩
            · refine vc_goto dX12_findOrder_45 ?_
              refine vc_iincE dX12_findOrder_91 rfl (by omega) (by omega) (by decide) rfl (show _ = [some (aR 54), none, some (aI (v2 + 1)), none, none, none] from rfl) ?_
              refine vc_goto dX12_findOrder_94 ?_
              exact ih24 Mq24 (v2 + 1) hQ24 kp24_55 (by omega) (by omega) (by first | (intro q hq; exfalso; have hq2 : (q : Int) < 0 := hq; omega) | exact g24i0 | (intro q hq; have hq2 : (q : Int) < mI Mq24 54 43 + 1 := hq; show mI (sI (sI Mq24 70 _ _) 71 _ _) 71 q = q; rw [mI_sI]; by_cases e : q = (mI Mq24 54 43).toNat; (rw [if_pos ⟨rfl, e⟩]; omega); (rw [if_neg (fun z => e z.2)]; exact g24i0 q (by omega)))) (by omega)
      refine vc_less [some (aR 54), none, some (aI 0), none, none, none] (lessL_keep (lessL_drop (lessL_keep (lessL_keep (lessL_keep (lessL_keep (lessL_nil))))))) ?_
      have k124 : mI (sI M7 54 43 0) 54 43 = 0 := rfl
      exact lp24 _ (sI M7 54 43 0) 0 hB16 kp15 (by omega) (by omega) (by first | (intro q hq; exfalso; have hq2 : (q : Int) < 0 := hq; omega) | exact g24i0 | (intro q hq; have hq2 : (q : Int) < mI Mq24 54 43 + 1 := hq; show mI (sI (sI Mq24 70 _ _) 71 _ _) 71 q = q; rw [mI_sI]; by_cases e : q = (mI Mq24 54 43).toNat; (rw [if_pos ⟨rfl, e⟩]; omega); (rw [if_neg (fun z => e z.2)]; exact g24i0 q (by omega)))) (Nat.lt_succ_self _)
    · refine vc_iconst dX12_findOrder_15 rfl ?_
      refine vc_zret dX12_findOrder_16 rfl (by first | decide | omega) (Nat.le_of_ble_eq_true rfl) (Nat.le_of_ble_eq_true rfl) ?_
      exact ⟨_, rfl, hB12, kp13, by omega, by omega, by omega⟩

set_option maxRecDepth 4000 in
theorem sfX12_see {l : Launch} {M : Mem} (hB : Box M)  (t : Int) (i : Int)  : Call l mdX12_see [aR 54, aI t, aI i] M (fun q N => ∃ r : Int, q = some (aL r) ∧ BF fQ M N) := by
  have hB0 : BF fQ M M := BF.start hB
  refine Call.of [some (aR 54), some (aI t), some (aI i)] rfl (Nat.le_of_ble_eq_true rfl) rfl ?_
  refine vc_ok (fun hoM hoS hoL => ?_)
  have hr1 : -2147483648 ≤ t ∧ t < 2147483648 := hoL 1 _ rfl
  have hr2 : -2147483648 ≤ i ∧ i < 2147483648 := hoL 2 _ rfl
  refine vc_iload_n dX12_see_0 rfl ?_
  refine vc_bipush dX12_see_1 rfl ?_
  refine vc_icmp_lt dX12_see_3 (fun h1 => ?_) (fun h1 => ?_)
  · refine vc_ldc2 dX12_see_14 rfl klX12_474 ?_
    refine vc_lret dX12_see_17 rfl (Nat.le_of_ble_eq_true rfl) (Nat.le_of_ble_eq_true rfl) ?_
    exact ⟨_, rfl, hB0⟩
  · refine vc_aload_n dX12_see_6 rfl ?_
    refine vc_iload_n dX12_see_7 rfl ?_
    refine vc_cVI dX12_see_8 (sfX12_findOrder (M := M) hB0.1  t ) rfl okX12_findOrder viX12_findOrder lkX12_503 (s_54 hB0.1.1) cl_12 rfl (Nat.le_of_ble_eq_true rfl) ⟨rfl, rfl⟩ (Nat.le_of_ble_eq_true rfl) (Nat.le_of_ble_eq_true rfl) (Nat.le_of_ble_eq_true rfl) ?_
    rintro x2 M3 ⟨hB4, kp5, h6, h7, h8⟩
    have hB9 : BF fQ M M3 := BF.go hB0 hB4
    refine vc_if_ne dX12_see_11 (fun h10 => ?_) (fun h10 => ?_)
    · refine vc_iload_n dX12_see_18 rfl ?_
      refine vc_if_lt dX12_see_19 (fun h11 => ?_) (fun h11 => ?_)
      · refine vc_aload_n dX12_see_49 rfl ?_
        refine vc_getJ dX12_see_50 flX12_493 (s_54 hB9.1.1) rfl ?_
        refine vc_aload_n dX12_see_53 rfl ?_
        refine vc_getJ dX12_see_54 flX12_468 (s_54 hB9.1.1) rfl ?_
        refine vc_iload_n dX12_see_57 rfl ?_
        refine vc_bipush dX12_see_58 rfl ?_
        refine vc_icmp_ne dX12_see_60 (fun h12 => ?_) (fun h12 => ?_)
        · refine vc_iconst dX12_see_67 rfl ?_
          refine vc_cSL dX12_see_68 (sfX12_part (M := M3) hB9.1  (mJ M3 54 44) (mJ M3 54 36) 0 ) rfl okX12_part stX12_part lkX12_476 rfl (Nat.le_of_ble_eq_true rfl) ⟨rfl, rfl⟩ (Nat.le_of_ble_eq_true rfl) (Nat.le_of_ble_eq_true rfl) (Nat.le_of_ble_eq_true rfl) ?_
          rintro x13 _ rfl
          refine vc_lret dX12_see_71 rfl (Nat.le_of_ble_eq_true rfl) (Nat.le_of_ble_eq_true rfl) ?_
          exact ⟨_, rfl, hB9⟩
        · refine vc_iconst dX12_see_63 rfl ?_
          refine vc_goto dX12_see_64 ?_
          refine vc_cSL dX12_see_68 (sfX12_part (M := M3) hB9.1  (mJ M3 54 44) (mJ M3 54 36) 1 ) rfl okX12_part stX12_part lkX12_476 rfl (Nat.le_of_ble_eq_true rfl) ⟨rfl, rfl⟩ (Nat.le_of_ble_eq_true rfl) (Nat.le_of_ble_eq_true rfl) (Nat.le_of_ble_eq_true rfl) ?_
          rintro x14 _ rfl
          refine vc_lret dX12_see_71 rfl (Nat.le_of_ble_eq_true rfl) (Nat.le_of_ble_eq_true rfl) ?_
          exact ⟨_, rfl, hB9⟩
      · refine vc_iload_n dX12_see_22 rfl ?_
        refine vc_aload_n dX12_see_23 rfl ?_
        refine vc_getI dX12_see_24 flX12_490 (s_54 hB9.1.1) rfl ?_
        have k15 : 0 ≤ mI M3 54 43 ∧ mI M3 54 43 ≤ 5 := b54_43 (M := M3) hB9.1
        refine vc_icmp_ge dX12_see_27 (fun h16 => ?_) (fun h16 => ?_)
        · refine vc_ldc2 dX12_see_45 rfl klX12_474 ?_
          refine vc_lret dX12_see_48 rfl (Nat.le_of_ble_eq_true rfl) (Nat.le_of_ble_eq_true rfl) ?_
          exact ⟨_, rfl, hB9⟩
        · refine vc_aload_n dX12_see_30 rfl ?_
          refine vc_getR dX12_see_31 flX12_64 (s_54 hB9.1.1) rfl (r_54_40 hB9.1.1) ?_
          refine vc_aload_n dX12_see_34 rfl ?_
          refine vc_getR dX12_see_35 flX12_70 (s_54 hB9.1.1) rfl (r_54_42 hB9.1.1) ?_
          refine vc_iload_n dX12_see_38 rfl ?_
          refine vc_iaload dX12_see_39 (s_72 hB9.1.1) (by omega) (by omega) ?_
          have k17 : 0 ≤ mI M3 72 i.toNat ∧ mI M3 72 i.toNat ≤ 4 := bA72 (M := M3) hB9.1 _
          refine vc_iaload dX12_see_40 (s_70 hB9.1.1) (by omega) (by omega) ?_
          have k18 : 0 ≤ mI M3 70 ((mI M3 72 i.toNat).toNat) ∧ mI M3 70 ((mI M3 72 i.toNat).toNat) ≤ 15 := bA70 (M := M3) hB9.1 _
          refine vc_i2l dX12_see_41 ?_
          refine vc_goto dX12_see_42 ?_
          refine vc_lret dX12_see_48 rfl (Nat.le_of_ble_eq_true rfl) (Nat.le_of_ble_eq_true rfl) ?_
          exact ⟨_, rfl, hB9⟩
    · refine vc_ldc2 dX12_see_14 rfl klX12_474 ?_
      refine vc_lret dX12_see_17 rfl (Nat.le_of_ble_eq_true rfl) (Nat.le_of_ble_eq_true rfl) ?_
      exact ⟨_, rfl, hB9⟩

set_option maxRecDepth 4000 in
theorem sfX12_timeByAsking {l : Launch} {M : Mem} (hB : Box M)  (t : Int) (p0 : 0 ≤ t) (p1 : t ≤ 5) (p2 : 0 ≤ mI M 55 256) : Call l mdX12_timeByAsking [aR 54, aI t] M (fun q N => ∃ r : Int, q = some (aL r) ∧ BF fQ M N ∧ mI N 55 = mI M 55) := by
  have hB0 : BF fQ M M := BF.start hB
  refine Call.of [some (aR 54), some (aI t), none, none, none, none, none, none] rfl (Nat.le_of_ble_eq_true rfl) rfl ?_
  refine vc_aload_n dX12_timeByAsking_0 rfl ?_
  refine vc_iload_n dX12_timeByAsking_1 rfl ?_
  refine vc_cVI dX12_timeByAsking_2 (sfX12_cornerOf (M := M) hB0.1  t (by omega) (by omega)) rfl okX12_cornerOf viX12_cornerOf lkX12_296 (s_54 hB0.1.1) cl_12 rfl (Nat.le_of_ble_eq_true rfl) ⟨rfl, rfl⟩ (Nat.le_of_ble_eq_true rfl) (Nat.le_of_ble_eq_true rfl) (Nat.le_of_ble_eq_true rfl) ?_
  rintro x1 _ ⟨rfl, h2, h3⟩
  refine vc_istore_n dX12_timeByAsking_5 (by decide) rfl (show _ = [some (aR 54), some (aI t), some (aI x1), none, none, none, none, none] from rfl) ?_
  refine vc_aload_n dX12_timeByAsking_6 rfl ?_
  refine vc_getR dX12_timeByAsking_7 flX12_57 (s_54 hB0.1.1) rfl (r_54_38 hB0.1.1) ?_
  refine vc_bipush dX12_timeByAsking_10 rfl ?_
  refine vc_aload_n dX12_timeByAsking_12 rfl ?_
  refine vc_getR dX12_timeByAsking_13 flX12_7 (s_54 hB0.1.1) rfl (r_54_0 hB0.1.1) ?_
  refine vc_sipush dX12_timeByAsking_16 rfl ?_
  refine vc_iaload dX12_timeByAsking_19 (s_55 hB0.1.1) (by omega) (by omega) ?_
  refine vc_topI (mI M 55 256) rfl ?_
  have k4 : (-1) ≤ mI M 55 256 ∧ mI M 55 256 ≤ 15 := b55_256 (M := M) hB0.1
  refine vc_imulE dX12_timeByAsking_20 (by omega) (by omega) ?_
  refine vc_iload_n dX12_timeByAsking_21 rfl ?_
  refine vc_iaddE dX12_timeByAsking_22 (by omega) (by omega) ?_
  refine vc_iaload dX12_timeByAsking_23 (s_68 hB0.1.1) (by omega) (by omega) ?_
  refine vc_ldcw dX12_timeByAsking_24 rfl kcX12_483 ?_
  refine vc_icmp_lt dX12_timeByAsking_27 (fun h6 => ?_) (fun h6 => ?_)
  · refine vc_aload_n dX12_timeByAsking_34 rfl ?_
    refine vc_getR dX12_timeByAsking_35 flX12_57 (s_54 hB0.1.1) rfl (r_54_38 hB0.1.1) ?_
    refine vc_bipush dX12_timeByAsking_38 rfl ?_
    refine vc_aload_n dX12_timeByAsking_40 rfl ?_
    refine vc_getR dX12_timeByAsking_41 flX12_7 (s_54 hB0.1.1) rfl (r_54_0 hB0.1.1) ?_
    refine vc_sipush dX12_timeByAsking_44 rfl ?_
    refine vc_iaload dX12_timeByAsking_47 (s_55 hB0.1.1) (by omega) (by omega) ?_
    refine vc_topI (mI M 55 256) rfl ?_
    refine vc_imulE dX12_timeByAsking_48 (by omega) (by omega) ?_
    refine vc_iload_n dX12_timeByAsking_49 rfl ?_
    refine vc_iaddE dX12_timeByAsking_50 (by omega) (by omega) ?_
    refine vc_iaload dX12_timeByAsking_51 (s_68 hB0.1.1) (by omega) (by omega) ?_
    refine vc_aload_n dX12_timeByAsking_52 rfl ?_
    refine vc_iload_n dX12_timeByAsking_53 rfl ?_
    refine vc_cVI dX12_timeByAsking_54 (sfX12_asksOf (M := M) hB0.1  t (by omega) (by omega)) rfl okX12_asksOf viX12_asksOf lkX12_394 (s_54 hB0.1.1) cl_12 rfl (Nat.le_of_ble_eq_true rfl) ⟨rfl, rfl⟩ (Nat.le_of_ble_eq_true rfl) (Nat.le_of_ble_eq_true rfl) (Nat.le_of_ble_eq_true rfl) ?_
    rintro x8 M9 ⟨hB10, kp11, kp12, kp13, kp14, kp15, kp16⟩
    have hB17 : BF fQ M M9 := BF.go hB0 hB10.sq
    have kp18 : mI M9 55 = mI M 55 := kp_go rfl kp12
    refine vc_iadd dX12_timeByAsking_57 ?_
    refine vc_nameI (fun x19 ex19 => ?_)
    refine vc_istore_n dX12_timeByAsking_58 (by decide) rfl (show _ = [some (aR 54), some (aI t), some (aI x1), some (aI x19), none, none, none, none] from rfl) ?_
    refine vc_lconst dX12_timeByAsking_59 ?_
    refine vc_topL 0 rfl ?_
    refine vc_lstore dX12_timeByAsking_60 (by decide) rfl rfl (show _ = [some (aR 54), some (aI t), some (aI x1), some (aI x19), some (aL 0), none, none, none] from rfl) ?_
    refine vc_iconst dX12_timeByAsking_62 rfl ?_
    refine vc_istore dX12_timeByAsking_63 (by decide) rfl (show _ = [some (aR 54), some (aI t), some (aI x1), some (aI x19), some (aL 0), none, some (aI 0), none] from rfl) ?_
    have lp65 : ∀ (n65 : Nat) (v4 : Int) (v6 : Int), (0 ≤ v6) → (v6 ≤ 5) → (5 - v6).toNat < n65 → VC l mdX12_timeByAsking 65 [some (aR 54), none, some (aI x1), some (aI x19), some (aL v4), none, some (aI v6), none] [] M9 0 0 (fun q N => ∃ r : Int, q = some (aL r) ∧ BF fQ M N ∧ mI N 55 = mI M 55) := by
      intro n65
      induction n65 with
      | zero => intro v4 v6 g65_6a g65_6b hm65; exact absurd hm65 (Nat.not_lt_zero _)
      | succ n65 ih65 =>
        intro v4 v6 g65_6a g65_6b hm65
        refine vc_iload dX12_timeByAsking_65 rfl ?_
        refine vc_aload_n dX12_timeByAsking_67 rfl ?_
        refine vc_getI dX12_timeByAsking_68 flX12_490 (s_54 hB17.1.1) rfl ?_
        have k20 : 0 ≤ mI M9 54 43 ∧ mI M9 54 43 ≤ 5 := b54_43 (M := M9) hB17.1
        refine vc_icmp_ge dX12_timeByAsking_71 (fun h21 => ?_) (fun h21 => ?_)
        · refine vc_lload dX12_timeByAsking_139 rfl ?_
          refine vc_lret dX12_timeByAsking_141 rfl (Nat.le_of_ble_eq_true rfl) (Nat.le_of_ble_eq_true rfl) ?_
          exact ⟨_, rfl, hB17, kp18⟩
        · refine vc_aload_n dX12_timeByAsking_74 rfl ?_
          refine vc_getR dX12_timeByAsking_75 flX12_64 (s_54 hB17.1.1) rfl (r_54_40 hB17.1.1) ?_
          refine vc_iload dX12_timeByAsking_78 rfl ?_
          refine vc_iaload dX12_timeByAsking_80 (s_70 hB17.1.1) (by omega) (by omega) ?_
          have k22 : 0 ≤ mI M9 70 v6.toNat ∧ mI M9 70 v6.toNat ≤ 15 := bA70 (M := M9) hB17.1 _
          refine vc_nameI (fun x23 ex23 => ?_)
          refine vc_istore dX12_timeByAsking_81 (by decide) rfl (show _ = [some (aR 54), none, some (aI x1), some (aI x19), some (aL v4), none, some (aI v6), some (aI x23)] from rfl) ?_
          refine vc_aload_n dX12_timeByAsking_83 rfl ?_
          refine vc_getR dX12_timeByAsking_84 flX12_57 (s_54 hB17.1.1) rfl (r_54_38 hB17.1.1) ?_
          refine vc_bipush dX12_timeByAsking_87 rfl ?_
          refine vc_iload_n dX12_timeByAsking_89 rfl ?_
          refine vc_imulE dX12_timeByAsking_90 (by omega) (by omega) ?_
          refine vc_iload dX12_timeByAsking_91 rfl ?_
          refine vc_iaddE dX12_timeByAsking_93 (by omega) (by omega) ?_
          refine vc_iaload dX12_timeByAsking_94 (s_68 hB17.1.1) (by omega) (by omega) ?_
          refine vc_ldcw dX12_timeByAsking_95 rfl kcX12_483 ?_
          refine vc_icmp_lt dX12_timeByAsking_98 (fun h24 => ?_) (fun h24 => ?_)
          · refine vc_lload dX12_timeByAsking_105 rfl ?_
            refine vc_aload_n dX12_timeByAsking_107 rfl ?_
            refine vc_getR dX12_timeByAsking_108 flX12_51 (s_54 hB17.1.1) rfl (r_54_35 hB17.1.1) ?_
            refine vc_iload dX12_timeByAsking_111 rfl ?_
            refine vc_laload dX12_timeByAsking_113 (s_66 hB17.1.1) (by omega) (by omega) ?_
            refine vc_iload_n dX12_timeByAsking_114 rfl ?_
            refine vc_aload_n dX12_timeByAsking_115 rfl ?_
            refine vc_getR dX12_timeByAsking_116 flX12_57 (s_54 hB17.1.1) rfl (r_54_38 hB17.1.1) ?_
            refine vc_bipush dX12_timeByAsking_119 rfl ?_
            refine vc_iload_n dX12_timeByAsking_121 rfl ?_
            refine vc_imulE dX12_timeByAsking_122 (by omega) (by omega) ?_
            refine vc_iload dX12_timeByAsking_123 rfl ?_
            refine vc_iaddE dX12_timeByAsking_125 (by omega) (by omega) ?_
            refine vc_iaload dX12_timeByAsking_126 (s_68 hB17.1.1) (by omega) (by omega) ?_
            refine vc_iadd dX12_timeByAsking_127 ?_
            refine vc_i2l dX12_timeByAsking_128 ?_
            refine vc_lmul dX12_timeByAsking_129 ?_
            refine vc_ladd dX12_timeByAsking_130 ?_
            refine vc_nameL (fun x25 ex25 => ?_)
            refine vc_lstore dX12_timeByAsking_131 (by decide) rfl rfl (show _ = [some (aR 54), none, some (aI x1), some (aI x19), some (aL x25), none, some (aI v6), some (aI x23)] from rfl) ?_
            refine vc_iincE dX12_timeByAsking_133 rfl (by omega) (by omega) (by decide) rfl (show _ = [some (aR 54), none, some (aI x1), some (aI x19), some (aL x25), none, some (aI (v6 + 1)), some (aI x23)] from rfl) ?_
            refine vc_goto dX12_timeByAsking_136 ?_
            refine vc_less [some (aR 54), none, some (aI x1), some (aI x19), some (aL x25), none, some (aI (v6 + 1)), none] (lessL_keep (lessL_keep (lessL_keep (lessL_keep (lessL_keep (lessL_keep (lessL_keep (lessL_drop (lessL_nil))))))))) ?_
            exact ih65 x25 (v6 + 1) (by omega) (by omega) (by omega)
          · refine vc_ldc2 dX12_timeByAsking_101 rfl klX12_474 ?_
            refine vc_lret dX12_timeByAsking_104 rfl (Nat.le_of_ble_eq_true rfl) (Nat.le_of_ble_eq_true rfl) ?_
            exact ⟨_, rfl, hB17, kp18⟩
    refine vc_less [some (aR 54), none, some (aI x1), some (aI x19), some (aL 0), none, some (aI 0), none] (lessL_keep (lessL_drop (lessL_keep (lessL_keep (lessL_keep (lessL_keep (lessL_keep (lessL_keep (lessL_nil))))))))) ?_
    exact lp65 _ 0 0 (by omega) (by omega) (Nat.lt_succ_self _)
  · refine vc_ldc2 dX12_timeByAsking_30 rfl klX12_474 ?_
    refine vc_lret dX12_timeByAsking_33 rfl (Nat.le_of_ble_eq_true rfl) (Nat.le_of_ble_eq_true rfl) ?_
    exact ⟨_, rfl, hB0, rfl⟩

set_option maxRecDepth 4000 in
theorem sfX12_orAsk {l : Launch} {M : Mem} (hB : Box M)  (t : Int)  : Call l mdX12_orAsk [aR 54, aI t] M (fun q N => ∃ r : Int, q = some (aI r) ∧ BF fQ M N) := by
  have hB0 : BF fQ M M := BF.start hB
  refine Call.of [some (aR 54), some (aI t), none, none, none, none, none, none] rfl (Nat.le_of_ble_eq_true rfl) rfl ?_
  refine vc_ok (fun hoM hoS hoL => ?_)
  have hr1 : -2147483648 ≤ t ∧ t < 2147483648 := hoL 1 _ rfl
  refine vc_aload_n dX12_orAsk_0 rfl ?_
  refine vc_iload_n dX12_orAsk_1 rfl ?_
  refine vc_cVI dX12_orAsk_2 (sfX12_findOrder (M := M) hB0.1  t ) rfl okX12_findOrder viX12_findOrder lkX12_503 (s_54 hB0.1.1) cl_12 rfl (Nat.le_of_ble_eq_true rfl) ⟨rfl, rfl⟩ (Nat.le_of_ble_eq_true rfl) (Nat.le_of_ble_eq_true rfl) (Nat.le_of_ble_eq_true rfl) ?_
  rintro x1 M2 ⟨hB3, kp4, h5, h6, h7⟩
  have hB8 : BF fQ M M2 := BF.go hB0 hB3
  have kp9 : mI M2 55 = mI M 55 := kp_go rfl kp4
  refine vc_if_ne dX12_orAsk_5 (fun h10 => ?_) (fun h10 => ?_)
  · refine vc_iconst dX12_orAsk_10 rfl ?_
    refine vc_istore_n dX12_orAsk_11 (by decide) rfl (show _ = [some (aR 54), some (aI t), some (aI (-1)), none, none, none, none, none] from rfl) ?_
    refine vc_aload_n dX12_orAsk_12 rfl ?_
    refine vc_getJ dX12_orAsk_13 flX12_493 (s_54 hB8.1.1) rfl ?_
    refine vc_nameL (fun x11 ex11 => ?_)
    refine vc_lstore_n dX12_orAsk_16 (by decide) rfl rfl (show _ = [some (aR 54), some (aI t), some (aI (-1)), some (aL x11), none, none, none, none] from rfl) ?_
    refine vc_iconst dX12_orAsk_17 rfl ?_
    refine vc_istore dX12_orAsk_18 (by decide) rfl (show _ = [some (aR 54), some (aI t), some (aI (-1)), some (aL x11), none, some (aI 0), none, none] from rfl) ?_
    have lp20 : ∀ (n20 : Nat) (Mq20 : Mem) (v2 : Int) (v3 : Int) (v5 : Int), (BF fQ M Mq20) → (mI Mq20 55 = mI M 55) → (0 ≤ v5) → (v5 ≤ 6) → (6 - v5).toNat < n20 → VC l mdX12_orAsk 20 [some (aR 54), none, some (aI v2), some (aL v3), none, some (aI v5), none, none] [] Mq20 0 0 (fun q N => ∃ r : Int, q = some (aI r) ∧ BF fQ M N) := by
      intro n20
      induction n20 with
      | zero => intro Mq20 v2 v3 v5 hQ20 kp20_55 g20_5a g20_5b hm20; exact absurd hm20 (Nat.not_lt_zero _)
      | succ n20 ih20 =>
        intro Mq20 v2 v3 v5 hQ20 kp20_55 g20_5a g20_5b hm20
        refine vc_iload dX12_orAsk_20 rfl ?_
        refine vc_aload_n dX12_orAsk_22 rfl ?_
        refine vc_getR dX12_orAsk_23 flX12_7 (s_54 hQ20.1.1) rfl (r_54_0 hQ20.1.1) ?_
        refine vc_iconst dX12_orAsk_26 rfl ?_
        refine vc_iaload dX12_orAsk_27 (s_55 hQ20.1.1) (by omega) (by omega) ?_
        refine vc_topI (mI Mq20 55 2) rfl ?_
        have k12 : 0 ≤ mI Mq20 55 2 ∧ mI Mq20 55 2 ≤ 6 := b55_2 (M := Mq20) hQ20.1
        have k13 : mI Mq20 55 2 = mI M 55 2 := congrFun kp20_55 2
        refine vc_icmp_ge dX12_orAsk_28 (fun h14 => ?_) (fun h14 => ?_)
        · refine vc_iload_n dX12_orAsk_68 rfl ?_
          refine vc_iret dX12_orAsk_69 rfl (Nat.le_of_ble_eq_true rfl) (Nat.le_of_ble_eq_true rfl) ?_
          exact ⟨_, rfl, hQ20⟩
        · refine vc_aload_n dX12_orAsk_31 rfl ?_
          refine vc_iload dX12_orAsk_32 rfl ?_
          have f256 := congrFun kp20_55 256
          refine vc_cVL dX12_orAsk_34 (sfX12_timeByAsking (M := Mq20) hQ20.1  v5 (by omega) (by omega) (by omega)) rfl okX12_timeByAsking viX12_timeByAsking lkX12_506 (s_54 hQ20.1.1) cl_12 rfl (Nat.le_of_ble_eq_true rfl) ⟨rfl, rfl⟩ (Nat.le_of_ble_eq_true rfl) (Nat.le_of_ble_eq_true rfl) (Nat.le_of_ble_eq_true rfl) ?_
          rintro x15 M16 ⟨hB17, kp18⟩
          have hB19 : BF fQ M M16 := BF.go hQ20 hB17
          have kp20 : mI M16 55 = mI M 55 := kp_go kp20_55 kp18
          refine vc_lstore dX12_orAsk_37 (by decide) rfl rfl (show _ = [some (aR 54), none, some (aI v2), some (aL v3), none, some (aI v5), some (aL x15), none] from rfl) ?_
          refine vc_lload dX12_orAsk_39 rfl ?_
          refine vc_lconst dX12_orAsk_41 ?_
          refine vc_topL 0 rfl ?_
          refine vc_lif_lt dX12_orAsk_42 dX12_orAsk_43 (fun h21 => ?_) (fun h21 => ?_)
          · refine vc_iincE dX12_orAsk_62 rfl (by omega) (by omega) (by decide) rfl (show _ = [some (aR 54), none, some (aI v2), some (aL v3), none, some (aI (v5 + 1)), some (aL x15), none] from rfl) ?_
            refine vc_goto dX12_orAsk_65 ?_
            refine vc_less [some (aR 54), none, some (aI v2), some (aL v3), none, some (aI (v5 + 1)), none, none] (lessL_keep (lessL_keep (lessL_keep (lessL_keep (lessL_keep (lessL_keep (lessL_drop (lessL_keep (lessL_nil))))))))) ?_
            exact ih20 M16 v2 v3 (v5 + 1) hB19 kp20 (by omega) (by omega) (by omega)
          · refine vc_lload dX12_orAsk_46 rfl ?_
            refine vc_lload_n dX12_orAsk_48 rfl ?_
            refine vc_lif_lt dX12_orAsk_49 dX12_orAsk_50 (fun h22 => ?_) (fun h22 => ?_)
            · refine vc_iload dX12_orAsk_56 rfl ?_
              refine vc_istore_n dX12_orAsk_58 (by decide) rfl (show _ = [some (aR 54), none, some (aI v5), some (aL v3), none, some (aI v5), some (aL x15), none] from rfl) ?_
              refine vc_lload dX12_orAsk_59 rfl ?_
              refine vc_lstore_n dX12_orAsk_61 (by decide) rfl rfl (show _ = [some (aR 54), none, some (aI v5), some (aL x15), none, some (aI v5), some (aL x15), none] from rfl) ?_
              refine vc_iincE dX12_orAsk_62 rfl (by omega) (by omega) (by decide) rfl (show _ = [some (aR 54), none, some (aI v5), some (aL x15), none, some (aI (v5 + 1)), some (aL x15), none] from rfl) ?_
              refine vc_goto dX12_orAsk_65 ?_
              refine vc_less [some (aR 54), none, some (aI v5), some (aL x15), none, some (aI (v5 + 1)), none, none] (lessL_keep (lessL_keep (lessL_keep (lessL_keep (lessL_keep (lessL_keep (lessL_drop (lessL_keep (lessL_nil))))))))) ?_
              exact ih20 M16 v5 x15 (v5 + 1) hB19 kp20 (by omega) (by omega) (by omega)
            · refine vc_goto dX12_orAsk_53 ?_
              refine vc_iincE dX12_orAsk_62 rfl (by omega) (by omega) (by decide) rfl (show _ = [some (aR 54), none, some (aI v2), some (aL v3), none, some (aI (v5 + 1)), some (aL x15), none] from rfl) ?_
              refine vc_goto dX12_orAsk_65 ?_
              refine vc_less [some (aR 54), none, some (aI v2), some (aL v3), none, some (aI (v5 + 1)), none, none] (lessL_keep (lessL_keep (lessL_keep (lessL_keep (lessL_keep (lessL_keep (lessL_drop (lessL_keep (lessL_nil))))))))) ?_
              exact ih20 M16 v2 v3 (v5 + 1) hB19 kp20 (by omega) (by omega) (by omega)
    refine vc_less [some (aR 54), none, some (aI (-1)), some (aL x11), none, some (aI 0), none, none] (lessL_keep (lessL_drop (lessL_keep (lessL_keep (lessL_keep (lessL_keep (lessL_keep (lessL_keep (lessL_nil))))))))) ?_
    exact lp20 _ M2 (-1) x11 0 hB8 kp9 (by omega) (by omega) (Nat.lt_succ_self _)
  · refine vc_iconst dX12_orAsk_8 rfl ?_
    refine vc_iret dX12_orAsk_9 rfl (Nat.le_of_ble_eq_true rfl) (Nat.le_of_ble_eq_true rfl) ?_
    exact ⟨_, rfl, hB8⟩

/-- what a sign shows is a street -/
def SHW (f g : Nat → Int) (n : Int) : Prop := ∀ c : Nat, (c : Int) < n → g c = -1 ∨ (0 ≤ g c ∧ 0 ≤ f (10 + 9 * c + 1 + (g c).toNat))
theorem relA_co {f g : Nat → Int} (h0 : f 0 ≤ 16) (h3 : f 3 ≤ 8) (he : ∀ j : Nat, j < 589 → g j = f j) (h : relA f) : relA g := by
  refine ⟨fun c d hc hd => ?_, fun t ht => ?_, ?_⟩
  · rw [he 0 (by decide)] at hc ⊢
    rw [he _ (by omega)]
    exact h.1 c d hc hd
  · rw [he 3 (by decide)] at ht
    rw [he _ (by omega)]
    exact h.2.1 t ht
  · rw [he 6 (by decide), he 5 (by decide)]
    exact h.2.2
theorem aB_0 {j : Nat} {v : Int} (h : aB j v) : j = 0 → 0 ≤ v ∧ v ≤ 16 := h.1
theorem aB_3 {j : Nat} {v : Int} (h : aB j v) : j = 3 → 0 ≤ v ∧ v ≤ 8 := h.2.2.2.1
theorem BX.img {M : Mem} (h : Box M) : BX M (cpI M 56 55 0 0 589) := by
  obtain ⟨h1, h2, h3, h4, h5, h6, h7⟩ := h
  have e5 : mI (cpI M 56 55 0 0 589) 55 = mI M 55 := funext fun b => by rw [mI_cpI, if_neg (fun e => by omega)]
  have e7 : mI (cpI M 56 55 0 0 589) 57 = mI M 57 := funext fun b => by rw [mI_cpI, if_neg (fun e => by omega)]
  have e6 : ∀ b, b < 589 → mI (cpI M 56 55 0 0 589) 56 b = mI M 55 b := fun b hb => by rw [mI_cpI, if_pos (by omega)]; congr 1; omega
  have dy : Dz M (cpI M 56 55 0 0 589) := (Dz.refl M).cp (by decide)
  refine ⟨⟨h1, fun a b => ?_, h3.same dy (fun _ _ _ => rfl), ?_, relA_co (aB_0 (h2 55 0) rfl).2 (aB_3 (h2 55 3) rfl).2 e6 h4, by rw [e6 5 (by decide), e5]; omega, by rw [e7, e5]; exact h7⟩, dy⟩
  · rw [mI_cpI]
    split
    · rename_i e
      rw [e.1, show 0 + (b - 0) = b by omega]
      exact h2 55 b
    · exact h2 a b
  · rw [e5]
    exact h4
theorem BX.bck {M : Mem} (h : Box M) : BX M (cpI M 55 56 0 0 589) := by
  obtain ⟨h1, h2, h3, h4, h5, h6, h7⟩ := h
  have e6 : mI (cpI M 55 56 0 0 589) 56 = mI M 56 := funext fun b => by rw [mI_cpI, if_neg (fun e => by omega)]
  have e7 : mI (cpI M 55 56 0 0 589) 57 = mI M 57 := funext fun b => by rw [mI_cpI, if_neg (fun e => by omega)]
  have e5 : ∀ b, b < 589 → mI (cpI M 55 56 0 0 589) 55 b = mI M 56 b := fun b hb => by rw [mI_cpI, if_pos (by omega)]; congr 1; omega
  have dy : Dz M (cpI M 55 56 0 0 589) := (Dz.refl M).cp (by decide)
  refine ⟨⟨h1, fun a b => ?_, h3.same dy (fun _ _ _ => rfl), relA_co (aB_0 (h2 56 0) rfl).2 (aB_3 (h2 56 3) rfl).2 e5 h5, by rw [e6]; exact h5, by rw [e6, e5 5 (by decide)]; omega, fun t ht => ?_⟩, dy⟩
  · rw [mI_cpI]
    split
    · rename_i e
      rw [e.1, show 0 + (b - 0) = b by omega]
      exact h2 56 b
    · exact h2 a b
  · rw [e5 5 (by decide)] at ht
    rw [e7]
    exact h7 t (by omega)
