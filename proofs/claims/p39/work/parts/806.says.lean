/-! CONTRACTS of the reference: laws (written by wip/p35/c806.py) -/
def wfI (f : Nat → Int) (E C i n : Int) : Prop := wfC f (E - i).toNat (C + 2 * i).toNat n.toNat
theorem wfI_num {f : Nat → Int} {E C i n : Int} (h : wfI f E C i n) (hi : i < E) (h0 : 0 ≤ C + 2 * i) (hn : 0 ≤ n) (ho : f (C + 2 * i).toNat ≤ 1) : 0 ≤ f (C + 2 * i).toNat ∧ (f (C + 2 * i).toNat = 1 → 0 ≤ f (C + 2 * i + 1).toNat ∧ f (C + 2 * i + 1).toNat ≤ 8) ∧ wfI f E C (i + 1) (n + 1) := by
  unfold wfI at h ⊢
  rw [show (E - i).toNat = (E - (i + 1)).toNat + 1 by omega] at h
  unfold wfC at h
  rw [if_pos ho] at h
  rw [show (C + 2 * i + 1).toNat = (C + 2 * i).toNat + 1 by omega, show (C + 2 * (i + 1)).toNat = (C + 2 * i).toNat + 2 by omega, show (n + 1).toNat = n.toNat + 1 by omega]
  exact ⟨h.1.1, h.1.2, h.2⟩
theorem wfI_neg {f : Nat → Int} {E C i n : Int} (h : wfI f E C i n) (hi : i < E) (h0 : 0 ≤ C + 2 * i) (hn : 0 ≤ n) (ho : ¬ f (C + 2 * i).toNat ≤ 1) (h2 : f (C + 2 * i).toNat = 2) : 1 ≤ n ∧ wfI f E C (i + 1) n := by
  unfold wfI at h ⊢
  rw [show (E - i).toNat = (E - (i + 1)).toNat + 1 by omega] at h
  unfold wfC at h
  rw [if_neg ho, if_pos h2] at h
  rw [show (C + 2 * (i + 1)).toNat = (C + 2 * i).toNat + 2 by omega]
  exact ⟨by omega, h.2⟩
theorem wfI_two {f : Nat → Int} {E C i n : Int} (h : wfI f E C i n) (hi : i < E) (h0 : 0 ≤ C + 2 * i) (hn : 0 ≤ n) (ho : ¬ f (C + 2 * i).toNat ≤ 1) (h2 : ¬ f (C + 2 * i).toNat = 2) : 2 ≤ n ∧ wfI f E C (i + 1) (n + (-1)) := by
  unfold wfI at h ⊢
  rw [show (E - i).toNat = (E - (i + 1)).toNat + 1 by omega] at h
  unfold wfC at h
  rw [if_neg ho, if_neg h2] at h
  rw [show (C + 2 * (i + 1)).toNat = (C + 2 * i).toNat + 2 by omega, show (n + (-1)).toNat = n.toNat - 1 by omega]
  exact ⟨by omega, h.2⟩
def LW (M : Mem) (x C : Int) : Prop := 0 ≤ mI M 57 (x + 1).toNat ∧ mI M 57 (x + 1).toNat ≤ mI M 57 (x + 2).toNat ∧ mI M 57 (x + 2).toNat ≤ 300 ∧ wfI (mI M 57) (mI M 57 (x + 2).toNat) C (mI M 57 (x + 1).toNat) 0
set_option maxRecDepth 4000 in
theorem sfX12_held {l : Launch} {M : Mem} (hB : Box M)  (v : Int)  : Call l mdX12_held [aL v] M (fun q N => ∃ r : Int, q = some (aL r) ∧ M = N) := by
  have hB0 : BF fQ M M := BF.start hB
  refine Call.of [some (aL v), none] rfl (Nat.le_of_ble_eq_true rfl) rfl ?_
  refine vc_lload_n dX12_held_0 rfl ?_
  refine vc_ldc2 dX12_held_1 rfl klX12_281 ?_
  refine vc_lif_le dX12_held_4 dX12_held_5 (fun h1 => ?_) (fun h1 => ?_)
  · refine vc_lload_n dX12_held_14 rfl ?_
    refine vc_ldc2 dX12_held_15 rfl klX12_283 ?_
    refine vc_lif_ge dX12_held_18 dX12_held_19 (fun h2 => ?_) (fun h2 => ?_)
    · refine vc_lload_n dX12_held_28 rfl ?_
      refine vc_lret dX12_held_29 rfl (Nat.le_of_ble_eq_true rfl) (Nat.le_of_ble_eq_true rfl) ?_
      exact ⟨_, rfl, rfl⟩
    · refine vc_ldc2 dX12_held_22 rfl klX12_283 ?_
      refine vc_goto dX12_held_25 ?_
      refine vc_lret dX12_held_29 rfl (Nat.le_of_ble_eq_true rfl) (Nat.le_of_ble_eq_true rfl) ?_
      exact ⟨_, rfl, rfl⟩
  · refine vc_ldc2 dX12_held_8 rfl klX12_281 ?_
    refine vc_goto dX12_held_11 ?_
    refine vc_lret dX12_held_29 rfl (Nat.le_of_ble_eq_true rfl) (Nat.le_of_ble_eq_true rfl) ?_
    exact ⟨_, rfl, rfl⟩

set_option maxRecDepth 4000 in
theorem sfX12_two {l : Launch} {M : Mem} (hB : Box M)  (op : Int) (x : Int) (y : Int)  : Call l mdX12_two [aI op, aL x, aL y] M (fun q N => ∃ r : Int, q = some (aL r) ∧ M = N) := by
  have hB0 : BF fQ M M := BF.start hB
  refine Call.of [some (aI op), some (aL x), none, some (aL y), none] rfl (Nat.le_of_ble_eq_true rfl) rfl ?_
  refine vc_ok (fun hoM hoS hoL => ?_)
  have hr0 : -2147483648 ≤ op ∧ op < 2147483648 := hoL 0 _ rfl
  refine vc_iload_n dX12_two_0 rfl ?_
  by_cases h1 : op = 3
  · refine vc_tabIn dX12_two_1 3 40 h1 rfl rfl rfl ?_
    refine vc_lload_n dX12_two_40 rfl ?_
    refine vc_lload_n dX12_two_41 rfl ?_
    refine vc_ladd dX12_two_42 ?_
    refine vc_cSL dX12_two_43 (sfX12_held (M := M) hB0.1  (wL (x + y)) ) rfl okX12_held stX12_held lkX12_285 rfl (Nat.le_of_ble_eq_true rfl) ⟨rfl, rfl⟩ (Nat.le_of_ble_eq_true rfl) (Nat.le_of_ble_eq_true rfl) (Nat.le_of_ble_eq_true rfl) ?_
    rintro x2 _ rfl
    refine vc_lret dX12_two_46 rfl (Nat.le_of_ble_eq_true rfl) (Nat.le_of_ble_eq_true rfl) ?_
    exact ⟨_, rfl, rfl⟩
  by_cases h3 : op = 4
  · refine vc_tabIn dX12_two_1 4 47 h3 rfl rfl rfl ?_
    refine vc_lload_n dX12_two_47 rfl ?_
    refine vc_lload_n dX12_two_48 rfl ?_
    refine vc_lsub dX12_two_49 ?_
    refine vc_cSL dX12_two_50 (sfX12_held (M := M) hB0.1  (wL (x - y)) ) rfl okX12_held stX12_held lkX12_285 rfl (Nat.le_of_ble_eq_true rfl) ⟨rfl, rfl⟩ (Nat.le_of_ble_eq_true rfl) (Nat.le_of_ble_eq_true rfl) (Nat.le_of_ble_eq_true rfl) ?_
    rintro x4 _ rfl
    refine vc_lret dX12_two_53 rfl (Nat.le_of_ble_eq_true rfl) (Nat.le_of_ble_eq_true rfl) ?_
    exact ⟨_, rfl, rfl⟩
  by_cases h5 : op = 5
  · refine vc_tabIn dX12_two_1 5 54 h5 rfl rfl rfl ?_
    refine vc_lload_n dX12_two_54 rfl ?_
    refine vc_lload_n dX12_two_55 rfl ?_
    refine vc_lmul dX12_two_56 ?_
    refine vc_cSL dX12_two_57 (sfX12_held (M := M) hB0.1  (wL (x * y)) ) rfl okX12_held stX12_held lkX12_285 rfl (Nat.le_of_ble_eq_true rfl) ⟨rfl, rfl⟩ (Nat.le_of_ble_eq_true rfl) (Nat.le_of_ble_eq_true rfl) (Nat.le_of_ble_eq_true rfl) ?_
    rintro x6 _ rfl
    refine vc_lret dX12_two_60 rfl (Nat.le_of_ble_eq_true rfl) (Nat.le_of_ble_eq_true rfl) ?_
    exact ⟨_, rfl, rfl⟩
  by_cases h7 : op = 7
  · refine vc_tabIn dX12_two_1 7 61 h7 rfl rfl rfl ?_
    refine vc_lload_n dX12_two_61 rfl ?_
    refine vc_lload_n dX12_two_62 rfl ?_
    refine vc_lif_ge dX12_two_63 dX12_two_64 (fun h8 => ?_) (fun h8 => ?_)
    · refine vc_lload_n dX12_two_71 rfl ?_
      refine vc_lret dX12_two_72 rfl (Nat.le_of_ble_eq_true rfl) (Nat.le_of_ble_eq_true rfl) ?_
      exact ⟨_, rfl, rfl⟩
    · refine vc_lload_n dX12_two_67 rfl ?_
      refine vc_goto dX12_two_68 ?_
      refine vc_lret dX12_two_72 rfl (Nat.le_of_ble_eq_true rfl) (Nat.le_of_ble_eq_true rfl) ?_
      exact ⟨_, rfl, rfl⟩
  by_cases h9 : op = 8
  · refine vc_tabIn dX12_two_1 8 73 h9 rfl rfl rfl ?_
    refine vc_lload_n dX12_two_73 rfl ?_
    refine vc_lload_n dX12_two_74 rfl ?_
    refine vc_lif_le dX12_two_75 dX12_two_76 (fun h10 => ?_) (fun h10 => ?_)
    · refine vc_lload_n dX12_two_83 rfl ?_
      refine vc_lret dX12_two_84 rfl (Nat.le_of_ble_eq_true rfl) (Nat.le_of_ble_eq_true rfl) ?_
      exact ⟨_, rfl, rfl⟩
    · refine vc_lload_n dX12_two_79 rfl ?_
      refine vc_goto dX12_two_80 ?_
      refine vc_lret dX12_two_84 rfl (Nat.le_of_ble_eq_true rfl) (Nat.le_of_ble_eq_true rfl) ?_
      exact ⟨_, rfl, rfl⟩
  by_cases h11 : op = 6
  · refine vc_tabIn dX12_two_1 6 85 h11 rfl rfl rfl ?_
    refine vc_lload_n dX12_two_85 rfl ?_
    refine vc_lconst dX12_two_86 ?_
    refine vc_topL 0 rfl ?_
    refine vc_lif_ne dX12_two_87 dX12_two_88 (fun h12 => ?_) (fun h12 => ?_)
    · refine vc_lload_n dX12_two_95 rfl ?_
      refine vc_lload_n dX12_two_96 rfl ?_
      refine vc_ldiv dX12_two_97 (by omega) ?_
      refine vc_lret dX12_two_98 rfl (Nat.le_of_ble_eq_true rfl) (Nat.le_of_ble_eq_true rfl) ?_
      exact ⟨_, rfl, rfl⟩
    · refine vc_lconst dX12_two_91 ?_
      refine vc_topL 0 rfl ?_
      refine vc_goto dX12_two_92 ?_
      refine vc_lret dX12_two_98 rfl (Nat.le_of_ble_eq_true rfl) (Nat.le_of_ble_eq_true rfl) ?_
      exact ⟨_, rfl, rfl⟩
  refine vc_tabOut dX12_two_1 85 (by omega) rfl ?_
  refine vc_lload_n dX12_two_85 rfl ?_
  refine vc_lconst dX12_two_86 ?_
  refine vc_topL 0 rfl ?_
  refine vc_lif_ne dX12_two_87 dX12_two_88 (fun h13 => ?_) (fun h13 => ?_)
  · refine vc_lload_n dX12_two_95 rfl ?_
    refine vc_lload_n dX12_two_96 rfl ?_
    refine vc_ldiv dX12_two_97 (by omega) ?_
    refine vc_lret dX12_two_98 rfl (Nat.le_of_ble_eq_true rfl) (Nat.le_of_ble_eq_true rfl) ?_
    exact ⟨_, rfl, rfl⟩
  · refine vc_lconst dX12_two_91 ?_
    refine vc_topL 0 rfl ?_
    refine vc_goto dX12_two_92 ?_
    refine vc_lret dX12_two_98 rfl (Nat.le_of_ble_eq_true rfl) (Nat.le_of_ble_eq_true rfl) ?_
    exact ⟨_, rfl, rfl⟩

set_option maxRecDepth 4000 in
theorem sfX12_worked {l : Launch} {M : Mem} (hB : Box M)  (k : Int) (p0 : 0 ≤ k) (p1 : k ≤ 23) (p2 : 0 ≤ mI M 55 6) (p3 : LW M (((873 * mI M 55 6) + 1) + (11 * k)) ((873 * mI M 55 6) + 265)) : Call l mdX12_worked [aR 54, aI k] M (fun q N => ∃ r : Int, q = some (aI r) ∧ BF fS M N ∧ mI N 54 = mI M 54 ∧ mI N 55 = mI M 55 ∧ mI N 57 = mI M 57 ∧ mI N 61 = mI M 61 ∧ mI N 63 = mI M 63 ∧ mI N 69 = mI M 69 ∧ mI N 71 = mI M 71) := by
  have hB0 : BF fS M M := BF.start hB
  refine Call.of [some (aR 54), some (aI k), none, none, none, none, none, none] rfl (Nat.le_of_ble_eq_true rfl) rfl ?_
  refine vc_sipush dX12_worked_0 rfl ?_
  refine vc_aload_n dX12_worked_3 rfl ?_
  refine vc_getR dX12_worked_4 flX12_7 (s_54 hB0.1.1) rfl (r_54_0 hB0.1.1) ?_
  refine vc_bipush dX12_worked_7 rfl ?_
  refine vc_iaload dX12_worked_9 (s_55 hB0.1.1) (by omega) (by omega) ?_
  refine vc_topI (mI M 55 6) rfl ?_
  have k1 : (-1) ≤ mI M 55 6 ∧ mI M 55 6 ≤ 3 := b55_6 (M := M) hB0.1
  refine vc_imulE dX12_worked_10 (by omega) (by omega) ?_
  refine vc_iconst dX12_worked_11 rfl ?_
  refine vc_iaddE dX12_worked_12 (by omega) (by omega) ?_
  refine vc_bipush dX12_worked_13 rfl ?_
  refine vc_iload_n dX12_worked_15 rfl ?_
  refine vc_imulE dX12_worked_16 (by omega) (by omega) ?_
  refine vc_iaddE dX12_worked_17 (by omega) (by omega) ?_
  refine vc_nameI (fun x3 ex3 => ?_)
  refine vc_istore_n dX12_worked_18 (by decide) rfl (show _ = [some (aR 54), some (aI k), some (aI x3), none, none, none, none, none] from rfl) ?_
  refine vc_sipush dX12_worked_19 rfl ?_
  refine vc_aload_n dX12_worked_22 rfl ?_
  refine vc_getR dX12_worked_23 flX12_7 (s_54 hB0.1.1) rfl (r_54_0 hB0.1.1) ?_
  refine vc_bipush dX12_worked_26 rfl ?_
  refine vc_iaload dX12_worked_28 (s_55 hB0.1.1) (by omega) (by omega) ?_
  refine vc_topI (mI M 55 6) rfl ?_
  refine vc_imulE dX12_worked_29 (by omega) (by omega) ?_
  refine vc_sipush dX12_worked_30 rfl ?_
  refine vc_iaddE dX12_worked_33 (by omega) (by omega) ?_
  refine vc_nameI (fun x5 ex5 => ?_)
  refine vc_istore_n dX12_worked_34 (by decide) rfl (show _ = [some (aR 54), some (aI k), some (aI x3), some (aI x5), none, none, none, none] from rfl) ?_
  refine vc_iconst dX12_worked_35 rfl ?_
  refine vc_istore dX12_worked_36 (by decide) rfl (show _ = [some (aR 54), some (aI k), some (aI x3), some (aI x5), some (aI 0), none, none, none] from rfl) ?_
  have hl : LW M x3 x5 := by rw [ex3, ex5]; exact p3
  obtain ⟨l1, l2, l3, l4⟩ := hl
  refine vc_aload_n dX12_worked_38 rfl ?_
  refine vc_getR dX12_worked_39 flX12_16 (s_54 hB0.1.1) rfl (r_54_2 hB0.1.1) ?_
  refine vc_iload_n dX12_worked_42 rfl ?_
  refine vc_iconst dX12_worked_43 rfl ?_
  refine vc_iaddE dX12_worked_44 (by omega) (by omega) ?_
  refine vc_iaload dX12_worked_45 (s_57 hB0.1.1) (by omega) (by omega) ?_
  refine vc_nameI (fun x7 ex7 => ?_)
  refine vc_istore dX12_worked_46 (by decide) rfl (show _ = [some (aR 54), some (aI k), some (aI x3), some (aI x5), some (aI 0), some (aI x7), none, none] from rfl) ?_
  have lp48 : ∀ (n48 : Nat) (Mq48 : Mem) (v4 : Int) (v5 : Int), (BF fS M Mq48) → (mI Mq48 69 = mI M 69) → (mI Mq48 71 = mI M 71) → (mI Mq48 54 = mI M 54) → (mI Mq48 55 = mI M 55) → (mI Mq48 57 = mI M 57) → (mI Mq48 61 = mI M 61) → (mI Mq48 63 = mI M 63) → (0 ≤ v4) → (v4 ≤ 300) → (0 ≤ v5) → (v5 ≤ 300) → (mI M 57 (x3 + 1).toNat ≤ v5) → (v5 ≤ mI M 57 (x3 + 2).toNat) → (v4 ≤ v5 - mI M 57 (x3 + 1).toNat) → (wfI (mI M 57) (mI M 57 (x3 + 2).toNat) x5 v5 v4) → (mI M 57 (x3 + 2).toNat - v5).toNat < n48 → VC l mdX12_worked 48 [some (aR 54), none, some (aI x3), some (aI x5), some (aI v4), some (aI v5), none, none] [] Mq48 0 0 (fun q N => ∃ r : Int, q = some (aI r) ∧ BF fS M N ∧ mI N 54 = mI M 54 ∧ mI N 55 = mI M 55 ∧ mI N 57 = mI M 57 ∧ mI N 61 = mI M 61 ∧ mI N 63 = mI M 63 ∧ mI N 69 = mI M 69 ∧ mI N 71 = mI M 71) := by
    intro n48
    induction n48 with
    | zero => intro Mq48 v4 v5 hQ48 kp48_69 kp48_71 kp48_54 kp48_55 kp48_57 kp48_61 kp48_63 g48_4a g48_4b g48_5a g48_5b g48i0 g48i1 g48i2 g48i3 hm48; exact absurd hm48 (Nat.not_lt_zero _)
    | succ n48 ih48 =>
      intro Mq48 v4 v5 hQ48 kp48_69 kp48_71 kp48_54 kp48_55 kp48_57 kp48_61 kp48_63 g48_4a g48_4b g48_5a g48_5b g48i0 g48i1 g48i2 g48i3 hm48
      refine vc_iload dX12_worked_48 rfl ?_
      refine vc_aload_n dX12_worked_50 rfl ?_
      refine vc_getR dX12_worked_51 flX12_16 (s_54 hQ48.1.1) rfl (r_54_2 hQ48.1.1) ?_
      refine vc_iload_n dX12_worked_54 rfl ?_
      refine vc_iconst dX12_worked_55 rfl ?_
      refine vc_iaddE dX12_worked_56 (by omega) (by omega) ?_
      refine vc_iaload dX12_worked_57 (s_57 hQ48.1.1) (by omega) (by omega) ?_
      have k8 : mI Mq48 57 ((x3 + 2).toNat) = mI M 57 ((x3 + 2).toNat) := congrFun kp48_57 ((x3 + 2).toNat)
      refine vc_icmp_ge dX12_worked_58 (fun h9 => ?_) (fun h9 => ?_)
      · refine vc_aload_n dX12_worked_194 rfl ?_
        refine vc_getR dX12_worked_195 flX12_38 (s_54 hQ48.1.1) rfl (r_54_23 hQ48.1.1) ?_
        refine vc_iconst dX12_worked_198 rfl ?_
        refine vc_laload dX12_worked_199 (s_62 hQ48.1.1) (by omega) (by omega) ?_
        refine vc_topL (mJ Mq48 62 0) rfl ?_
        refine vc_l2i dX12_worked_200 ?_
        refine vc_iret dX12_worked_201 rfl (Nat.le_of_ble_eq_true rfl) (Nat.le_of_ble_eq_true rfl) ?_
        exact ⟨_, rfl, hQ48, kp48_54, kp48_55, kp48_57, kp48_61, kp48_63, kp48_69, kp48_71⟩
      · refine vc_aload_n dX12_worked_61 rfl ?_
        refine vc_getR dX12_worked_62 flX12_16 (s_54 hQ48.1.1) rfl (r_54_2 hQ48.1.1) ?_
        refine vc_iload_n dX12_worked_65 rfl ?_
        refine vc_iconst dX12_worked_66 rfl ?_
        refine vc_iload dX12_worked_67 rfl ?_
        refine vc_imulE dX12_worked_69 (by omega) (by omega) ?_
        refine vc_iaddE dX12_worked_70 (by omega) (by omega) ?_
        refine vc_iaload dX12_worked_71 (s_57 hQ48.1.1) (by omega) (by omega) ?_
        have k10 : mI Mq48 57 ((x5 + (2 * v5)).toNat) = mI M 57 ((x5 + (2 * v5)).toNat) := congrFun kp48_57 ((x5 + (2 * v5)).toNat)
        refine vc_nameI (fun x11 ex11 => ?_)
        refine vc_istore dX12_worked_72 (by decide) rfl (show _ = [some (aR 54), none, some (aI x3), some (aI x5), some (aI v4), some (aI v5), some (aI x11), none] from rfl) ?_
        refine vc_aload_n dX12_worked_74 rfl ?_
        refine vc_getR dX12_worked_75 flX12_16 (s_54 hQ48.1.1) rfl (r_54_2 hQ48.1.1) ?_
        refine vc_iload_n dX12_worked_78 rfl ?_
        refine vc_iconst dX12_worked_79 rfl ?_
        refine vc_iload dX12_worked_80 rfl ?_
        refine vc_imulE dX12_worked_82 (by omega) (by omega) ?_
        refine vc_iaddE dX12_worked_83 (by omega) (by omega) ?_
        refine vc_iconst dX12_worked_84 rfl ?_
        refine vc_iaddE dX12_worked_85 (by omega) (by omega) ?_
        refine vc_iaload dX12_worked_86 (s_57 hQ48.1.1) (by omega) (by omega) ?_
        have k12 : mI Mq48 57 (((x5 + (2 * v5)) + 1).toNat) = mI M 57 (((x5 + (2 * v5)) + 1).toNat) := congrFun kp48_57 (((x5 + (2 * v5)) + 1).toNat)
        refine vc_nameI (fun x13 ex13 => ?_)
        refine vc_istore dX12_worked_87 (by decide) rfl (show _ = [some (aR 54), none, some (aI x3), some (aI x5), some (aI v4), some (aI v5), some (aI x11), some (aI x13)] from rfl) ?_
        refine vc_iload dX12_worked_89 rfl ?_
        refine vc_iconst dX12_worked_91 rfl ?_
        refine vc_icmp_gt dX12_worked_92 (fun h14 => ?_) (fun h14 => ?_)
        · refine vc_iload dX12_worked_127 rfl ?_
          refine vc_iconst dX12_worked_129 rfl ?_
          refine vc_icmp_ne dX12_worked_130 (fun h15 => ?_) (fun h15 => ?_)
          · obtain ⟨wt0, wt⟩ := wfI_two g48i3 (by omega) (by omega) (by omega) (by omega) (by omega)
            refine vc_iincE dX12_worked_155 rfl (by omega) (by omega) (by decide) rfl (show _ = [some (aR 54), none, some (aI x3), some (aI x5), some (aI (v4 + (-1))), some (aI v5), some (aI x11), some (aI x13)] from rfl) ?_
            refine vc_aload_n dX12_worked_158 rfl ?_
            refine vc_getR dX12_worked_159 flX12_38 (s_54 hQ48.1.1) rfl (r_54_23 hQ48.1.1) ?_
            refine vc_iload dX12_worked_162 rfl ?_
            refine vc_iconst dX12_worked_164 rfl ?_
            refine vc_isubE dX12_worked_165 (by omega) (by omega) ?_
            refine vc_iload dX12_worked_166 rfl ?_
            refine vc_aload_n dX12_worked_168 rfl ?_
            refine vc_getR dX12_worked_169 flX12_38 (s_54 hQ48.1.1) rfl (r_54_23 hQ48.1.1) ?_
            refine vc_iload dX12_worked_172 rfl ?_
            refine vc_iconst dX12_worked_174 rfl ?_
            refine vc_isubE dX12_worked_175 (by omega) (by omega) ?_
            refine vc_laload dX12_worked_176 (s_62 hQ48.1.1) (by omega) (by omega) ?_
            refine vc_aload_n dX12_worked_177 rfl ?_
            refine vc_getR dX12_worked_178 flX12_38 (s_54 hQ48.1.1) rfl (r_54_23 hQ48.1.1) ?_
            refine vc_iload dX12_worked_181 rfl ?_
            refine vc_laload dX12_worked_183 (s_62 hQ48.1.1) (by omega) (by omega) ?_
            refine vc_cSL dX12_worked_184 (sfX12_two (M := Mq48) hQ48.1  x11 (mJ Mq48 62 (((v4 + (-1)) - 1).toNat)) (mJ Mq48 62 ((v4 + (-1)).toNat)) ) rfl okX12_two stX12_two lkX12_289 rfl (Nat.le_of_ble_eq_true rfl) ⟨rfl, rfl⟩ (Nat.le_of_ble_eq_true rfl) (Nat.le_of_ble_eq_true rfl) (Nat.le_of_ble_eq_true rfl) ?_
            rintro x16 _ rfl
            refine vc_lastore dX12_worked_187 (s_62 hQ48.1.1) (by omega) (by omega) ?_
            have kp17 : mI (sJ Mq48 62 (((v4 + (-1)) - 1).toNat) x16) 69 = mI M 69 := (kp_sJ kp48_69)
            have kp18 : mI (sJ Mq48 62 (((v4 + (-1)) - 1).toNat) x16) 71 = mI M 71 := (kp_sJ kp48_71)
            have kp19 : mI (sJ Mq48 62 (((v4 + (-1)) - 1).toNat) x16) 54 = mI M 54 := (kp_sJ kp48_54)
            have kp20 : mI (sJ Mq48 62 (((v4 + (-1)) - 1).toNat) x16) 55 = mI M 55 := (kp_sJ kp48_55)
            have kp21 : mI (sJ Mq48 62 (((v4 + (-1)) - 1).toNat) x16) 57 = mI M 57 := (kp_sJ kp48_57)
            have kp22 : mI (sJ Mq48 62 (((v4 + (-1)) - 1).toNat) x16) 61 = mI M 61 := (kp_sJ kp48_61)
            have kp23 : mI (sJ Mq48 62 (((v4 + (-1)) - 1).toNat) x16) 63 = mI M 63 := (kp_sJ kp48_63)
            have hB24 : BF fS M (sJ Mq48 62 (((v4 + (-1)) - 1).toNat) x16) := BF.J hQ48 _ _ _ rfl
            refine vc_iincE dX12_worked_188 rfl (by omega) (by omega) (by decide) rfl (show _ = [some (aR 54), none, some (aI x3), some (aI x5), some (aI (v4 + (-1))), some (aI (v5 + 1)), some (aI x11), some (aI x13)] from rfl) ?_
            refine vc_goto dX12_worked_191 ?_
            refine vc_less [some (aR 54), none, some (aI x3), some (aI x5), some (aI (v4 + (-1))), some (aI (v5 + 1)), none, none] (lessL_keep (lessL_keep (lessL_keep (lessL_keep (lessL_keep (lessL_keep (lessL_drop (lessL_drop (lessL_nil))))))))) ?_
            exact ih48 (sJ Mq48 62 (((v4 + (-1)) - 1).toNat) x16) (v4 + (-1)) (v5 + 1) hB24 kp17 kp18 kp19 kp20 kp21 kp22 kp23 (by omega) (by omega) (by omega) (by omega) (by omega) (by omega) (by omega) (by first | (rw [ex7]; exact l4) | exact w4 | exact wn | exact wt) (by omega)
          · obtain ⟨wn0, wn⟩ := wfI_neg g48i3 (by omega) (by omega) (by omega) (by omega) (by omega)
            refine vc_aload_n dX12_worked_133 rfl ?_
            refine vc_getR dX12_worked_134 flX12_38 (s_54 hQ48.1.1) rfl (r_54_23 hQ48.1.1) ?_
            refine vc_iload dX12_worked_137 rfl ?_
            refine vc_iconst dX12_worked_139 rfl ?_
            refine vc_isubE dX12_worked_140 (by omega) (by omega) ?_
            refine vc_aload_n dX12_worked_141 rfl ?_
            refine vc_getR dX12_worked_142 flX12_38 (s_54 hQ48.1.1) rfl (r_54_23 hQ48.1.1) ?_
            refine vc_iload dX12_worked_145 rfl ?_
            refine vc_iconst dX12_worked_147 rfl ?_
            refine vc_isubE dX12_worked_148 (by omega) (by omega) ?_
            refine vc_laload dX12_worked_149 (s_62 hQ48.1.1) (by omega) (by omega) ?_
            refine vc_lneg dX12_worked_150 ?_
            refine vc_lastore dX12_worked_151 (s_62 hQ48.1.1) (by omega) (by omega) ?_
            have kp25 : mI (sJ Mq48 62 ((v4 - 1).toNat) (wL (-(mJ Mq48 62 ((v4 - 1).toNat))))) 69 = mI M 69 := (kp_sJ kp48_69)
            have kp26 : mI (sJ Mq48 62 ((v4 - 1).toNat) (wL (-(mJ Mq48 62 ((v4 - 1).toNat))))) 71 = mI M 71 := (kp_sJ kp48_71)
            have kp27 : mI (sJ Mq48 62 ((v4 - 1).toNat) (wL (-(mJ Mq48 62 ((v4 - 1).toNat))))) 54 = mI M 54 := (kp_sJ kp48_54)
            have kp28 : mI (sJ Mq48 62 ((v4 - 1).toNat) (wL (-(mJ Mq48 62 ((v4 - 1).toNat))))) 55 = mI M 55 := (kp_sJ kp48_55)
            have kp29 : mI (sJ Mq48 62 ((v4 - 1).toNat) (wL (-(mJ Mq48 62 ((v4 - 1).toNat))))) 57 = mI M 57 := (kp_sJ kp48_57)
            have kp30 : mI (sJ Mq48 62 ((v4 - 1).toNat) (wL (-(mJ Mq48 62 ((v4 - 1).toNat))))) 61 = mI M 61 := (kp_sJ kp48_61)
            have kp31 : mI (sJ Mq48 62 ((v4 - 1).toNat) (wL (-(mJ Mq48 62 ((v4 - 1).toNat))))) 63 = mI M 63 := (kp_sJ kp48_63)
            have hB32 : BF fS M (sJ Mq48 62 ((v4 - 1).toNat) (wL (-(mJ Mq48 62 ((v4 - 1).toNat))))) := BF.J hQ48 _ _ _ rfl
            refine vc_goto dX12_worked_152 ?_
            refine vc_iincE dX12_worked_188 rfl (by omega) (by omega) (by decide) rfl (show _ = [some (aR 54), none, some (aI x3), some (aI x5), some (aI v4), some (aI (v5 + 1)), some (aI x11), some (aI x13)] from rfl) ?_
            refine vc_goto dX12_worked_191 ?_
            refine vc_less [some (aR 54), none, some (aI x3), some (aI x5), some (aI v4), some (aI (v5 + 1)), none, none] (lessL_keep (lessL_keep (lessL_keep (lessL_keep (lessL_keep (lessL_keep (lessL_drop (lessL_drop (lessL_nil))))))))) ?_
            exact ih48 (sJ Mq48 62 ((v4 - 1).toNat) (wL (-(mJ Mq48 62 ((v4 - 1).toNat))))) v4 (v5 + 1) hB32 kp25 kp26 kp27 kp28 kp29 kp30 kp31 (by omega) (by omega) (by omega) (by omega) (by omega) (by omega) (by omega) (by first | (rw [ex7]; exact l4) | exact w4 | exact wn | exact wt) (by omega)
        · obtain ⟨w1, w3, w4⟩ := wfI_num g48i3 (by omega) (by omega) (by omega) (by omega)
          refine vc_aload_n dX12_worked_95 rfl ?_
          refine vc_getR dX12_worked_96 flX12_38 (s_54 hQ48.1.1) rfl (r_54_23 hQ48.1.1) ?_
          refine vc_iload dX12_worked_99 rfl ?_
          refine vc_iload dX12_worked_101 rfl ?_
          refine vc_if_ne dX12_worked_103 (fun h33 => ?_) (fun h33 => ?_)
          · have w5 := w3 (by omega)
            refine vc_aload_n dX12_worked_112 rfl ?_
            refine vc_getR dX12_worked_113 flX12_35 (s_54 hQ48.1.1) rfl (r_54_22 hQ48.1.1) ?_
            refine vc_iload dX12_worked_116 rfl ?_
            refine vc_iaload dX12_worked_118 (s_61 hQ48.1.1) (by omega) (by omega) ?_
            have k34 : mI Mq48 61 x13.toNat = mI M 61 x13.toNat := congrFun kp48_61 x13.toNat
            refine vc_i2l dX12_worked_119 ?_
            refine vc_lastore dX12_worked_120 (s_62 hQ48.1.1) (by omega) (by omega) ?_
            have kp35 : mI (sJ Mq48 62 v4.toNat (mI Mq48 61 x13.toNat)) 69 = mI M 69 := (kp_sJ kp48_69)
            have kp36 : mI (sJ Mq48 62 v4.toNat (mI Mq48 61 x13.toNat)) 71 = mI M 71 := (kp_sJ kp48_71)
            have kp37 : mI (sJ Mq48 62 v4.toNat (mI Mq48 61 x13.toNat)) 54 = mI M 54 := (kp_sJ kp48_54)
            have kp38 : mI (sJ Mq48 62 v4.toNat (mI Mq48 61 x13.toNat)) 55 = mI M 55 := (kp_sJ kp48_55)
            have kp39 : mI (sJ Mq48 62 v4.toNat (mI Mq48 61 x13.toNat)) 57 = mI M 57 := (kp_sJ kp48_57)
            have kp40 : mI (sJ Mq48 62 v4.toNat (mI Mq48 61 x13.toNat)) 61 = mI M 61 := (kp_sJ kp48_61)
            have kp41 : mI (sJ Mq48 62 v4.toNat (mI Mq48 61 x13.toNat)) 63 = mI M 63 := (kp_sJ kp48_63)
            have hB42 : BF fS M (sJ Mq48 62 v4.toNat (mI Mq48 61 x13.toNat)) := BF.J hQ48 _ _ _ rfl
            refine vc_iincE dX12_worked_121 rfl (by omega) (by omega) (by decide) rfl (show _ = [some (aR 54), none, some (aI x3), some (aI x5), some (aI (v4 + 1)), some (aI v5), some (aI x11), some (aI x13)] from rfl) ?_
            refine vc_goto dX12_worked_124 ?_
            refine vc_iincE dX12_worked_188 rfl (by omega) (by omega) (by decide) rfl (show _ = [some (aR 54), none, some (aI x3), some (aI x5), some (aI (v4 + 1)), some (aI (v5 + 1)), some (aI x11), some (aI x13)] from rfl) ?_
            refine vc_goto dX12_worked_191 ?_
            refine vc_less [some (aR 54), none, some (aI x3), some (aI x5), some (aI (v4 + 1)), some (aI (v5 + 1)), none, none] (lessL_keep (lessL_keep (lessL_keep (lessL_keep (lessL_keep (lessL_keep (lessL_drop (lessL_drop (lessL_nil))))))))) ?_
            exact ih48 (sJ Mq48 62 v4.toNat (mI Mq48 61 x13.toNat)) (v4 + 1) (v5 + 1) hB42 kp35 kp36 kp37 kp38 kp39 kp40 kp41 (by omega) (by omega) (by omega) (by omega) (by omega) (by omega) (by omega) (by first | (rw [ex7]; exact l4) | exact w4 | exact wn | exact wt) (by omega)
          · refine vc_iload dX12_worked_106 rfl ?_
            refine vc_i2l dX12_worked_108 ?_
            refine vc_goto dX12_worked_109 ?_
            refine vc_lastore dX12_worked_120 (s_62 hQ48.1.1) (by omega) (by omega) ?_
            have kp43 : mI (sJ Mq48 62 v4.toNat x13) 69 = mI M 69 := (kp_sJ kp48_69)
            have kp44 : mI (sJ Mq48 62 v4.toNat x13) 71 = mI M 71 := (kp_sJ kp48_71)
            have kp45 : mI (sJ Mq48 62 v4.toNat x13) 54 = mI M 54 := (kp_sJ kp48_54)
            have kp46 : mI (sJ Mq48 62 v4.toNat x13) 55 = mI M 55 := (kp_sJ kp48_55)
            have kp47 : mI (sJ Mq48 62 v4.toNat x13) 57 = mI M 57 := (kp_sJ kp48_57)
            have kp48 : mI (sJ Mq48 62 v4.toNat x13) 61 = mI M 61 := (kp_sJ kp48_61)
            have kp49 : mI (sJ Mq48 62 v4.toNat x13) 63 = mI M 63 := (kp_sJ kp48_63)
            have hB50 : BF fS M (sJ Mq48 62 v4.toNat x13) := BF.J hQ48 _ _ _ rfl
            refine vc_iincE dX12_worked_121 rfl (by omega) (by omega) (by decide) rfl (show _ = [some (aR 54), none, some (aI x3), some (aI x5), some (aI (v4 + 1)), some (aI v5), some (aI x11), some (aI x13)] from rfl) ?_
            refine vc_goto dX12_worked_124 ?_
            refine vc_iincE dX12_worked_188 rfl (by omega) (by omega) (by decide) rfl (show _ = [some (aR 54), none, some (aI x3), some (aI x5), some (aI (v4 + 1)), some (aI (v5 + 1)), some (aI x11), some (aI x13)] from rfl) ?_
            refine vc_goto dX12_worked_191 ?_
            refine vc_less [some (aR 54), none, some (aI x3), some (aI x5), some (aI (v4 + 1)), some (aI (v5 + 1)), none, none] (lessL_keep (lessL_keep (lessL_keep (lessL_keep (lessL_keep (lessL_keep (lessL_drop (lessL_drop (lessL_nil))))))))) ?_
            exact ih48 (sJ Mq48 62 v4.toNat x13) (v4 + 1) (v5 + 1) hB50 kp43 kp44 kp45 kp46 kp47 kp48 kp49 (by omega) (by omega) (by omega) (by omega) (by omega) (by omega) (by omega) (by first | (rw [ex7]; exact l4) | exact w4 | exact wn | exact wt) (by omega)
  refine vc_less [some (aR 54), none, some (aI x3), some (aI x5), some (aI 0), some (aI x7), none, none] (lessL_keep (lessL_drop (lessL_keep (lessL_keep (lessL_keep (lessL_keep (lessL_keep (lessL_keep (lessL_nil))))))))) ?_
  exact lp48 _ M 0 x7 hB0 rfl rfl rfl rfl rfl rfl rfl (by omega) (by omega) (by omega) (by omega) (by omega) (by omega) (by omega) (by first | (rw [ex7]; exact l4) | exact w4 | exact wn | exact wt) (Nat.lt_succ_self _)

set_option maxRecDepth 4000 in
theorem sfX12_says {l : Launch} {M : Mem} (hB : Box M)  (s : Int) (wo : Int) (lo : Int) (hi : Int) (p0 : 0 ≤ s) (p1 : s ≤ 4) : Call l mdX12_says [aR 54, aI s, aI wo, aI lo, aI hi] M (fun q N => ∃ r : Int, q = some (aI r) ∧ BF fS M N ∧ mI N 54 = mI M 54 ∧ mI N 55 = mI M 55 ∧ mI N 57 = mI M 57 ∧ mI N 61 = mI M 61 ∧ mI N 63 = mI M 63 ∧ mI N 69 = mI M 69 ∧ mI N 71 = mI M 71) := by
  have hB0 : BF fS M M := BF.start hB
  refine Call.of [some (aR 54), some (aI s), some (aI wo), some (aI lo), some (aI hi), none, none] rfl (Nat.le_of_ble_eq_true rfl) rfl ?_
  refine vc_ok (fun hoM hoS hoL => ?_)
  have hr2 : -2147483648 ≤ wo ∧ wo < 2147483648 := hoL 2 _ rfl
  have hr3 : -2147483648 ≤ lo ∧ lo < 2147483648 := hoL 3 _ rfl
  have hr4 : -2147483648 ≤ hi ∧ hi < 2147483648 := hoL 4 _ rfl
  refine vc_iconst dX12_says_0 rfl ?_
  refine vc_istore dX12_says_1 (by decide) rfl (show _ = [some (aR 54), some (aI s), some (aI wo), some (aI lo), some (aI hi), some (aI 0), none] from rfl) ?_
  have lp3 : ∀ (n3 : Nat) (v5 : Int), (0 ≤ v5) → (v5 ≤ 24) → (24 - v5).toNat < n3 → VC l mdX12_says 3 [some (aR 54), some (aI s), some (aI wo), some (aI lo), some (aI hi), some (aI v5), none] [] M 0 0 (fun q N => ∃ r : Int, q = some (aI r) ∧ BF fS M N ∧ mI N 54 = mI M 54 ∧ mI N 55 = mI M 55 ∧ mI N 57 = mI M 57 ∧ mI N 61 = mI M 61 ∧ mI N 63 = mI M 63 ∧ mI N 69 = mI M 69 ∧ mI N 71 = mI M 71) := by
    intro n3
    induction n3 with
    | zero => intro v5 g3_5a g3_5b hm3; exact absurd hm3 (Nat.not_lt_zero _)
    | succ n3 ih3 =>
      intro v5 g3_5a g3_5b hm3
      refine vc_aload_n dX12_says_3 rfl ?_
      refine vc_getR dX12_says_4 flX12_7 (s_54 hB0.1.1) rfl (r_54_0 hB0.1.1) ?_
      refine vc_bipush dX12_says_7 rfl ?_
      refine vc_iaload dX12_says_9 (s_55 hB0.1.1) (by omega) (by omega) ?_
      refine vc_topI (mI M 55 6) rfl ?_
      have k1 : (-1) ≤ mI M 55 6 ∧ mI M 55 6 ≤ 3 := b55_6 (M := M) hB0.1
      refine vc_if_lt dX12_says_10 (fun h3 => ?_) (fun h3 => ?_)
      · refine vc_iload_n dX12_says_104 rfl ?_
        refine vc_iret dX12_says_105 rfl (Nat.le_of_ble_eq_true rfl) (Nat.le_of_ble_eq_true rfl) ?_
        exact ⟨_, rfl, hB0, rfl, rfl, rfl, rfl, rfl, rfl, rfl⟩
      · have hT := b55_6 (M := M) hB
        have hrl := hB.2.2.2.1.2.2
        have hwt := hB.2.2.2.2.2.2 (mI M 55 6).toNat (by omega)
        have hw1 := hwt.1
        have hw2 := hwt.2.1
        rw [show 873 * (mI M 55 6).toNat = (873 * mI M 55 6).toNat by omega] at hw1 hw2
        refine vc_iload dX12_says_13 rfl ?_
        refine vc_aload_n dX12_says_15 rfl ?_
        refine vc_getR dX12_says_16 flX12_16 (s_54 hB0.1.1) rfl (r_54_2 hB0.1.1) ?_
        refine vc_sipush dX12_says_19 rfl ?_
        refine vc_aload_n dX12_says_22 rfl ?_
        refine vc_getR dX12_says_23 flX12_7 (s_54 hB0.1.1) rfl (r_54_0 hB0.1.1) ?_
        refine vc_bipush dX12_says_26 rfl ?_
        refine vc_iaload dX12_says_28 (s_55 hB0.1.1) (by omega) (by omega) ?_
        refine vc_topI (mI M 55 6) rfl ?_
        refine vc_imulE dX12_says_29 (by omega) (by omega) ?_
        refine vc_iaload dX12_says_30 (s_57 hB0.1.1) (by omega) (by omega) ?_
        refine vc_icmp_ge dX12_says_31 (fun h6 => ?_) (fun h6 => ?_)
        · refine vc_iload_n dX12_says_104 rfl ?_
          refine vc_iret dX12_says_105 rfl (Nat.le_of_ble_eq_true rfl) (Nat.le_of_ble_eq_true rfl) ?_
          exact ⟨_, rfl, hB0, rfl, rfl, rfl, rfl, rfl, rfl, rfl⟩
        · refine vc_aload_n dX12_says_34 rfl ?_
          refine vc_getR dX12_says_35 flX12_16 (s_54 hB0.1.1) rfl (r_54_2 hB0.1.1) ?_
          refine vc_sipush dX12_says_38 rfl ?_
          refine vc_aload_n dX12_says_41 rfl ?_
          refine vc_getR dX12_says_42 flX12_7 (s_54 hB0.1.1) rfl (r_54_0 hB0.1.1) ?_
          refine vc_bipush dX12_says_45 rfl ?_
          refine vc_iaload dX12_says_47 (s_55 hB0.1.1) (by omega) (by omega) ?_
          refine vc_topI (mI M 55 6) rfl ?_
          refine vc_imulE dX12_says_48 (by omega) (by omega) ?_
          refine vc_iconst dX12_says_49 rfl ?_
          refine vc_iaddE dX12_says_50 (by omega) (by omega) ?_
          refine vc_bipush dX12_says_51 rfl ?_
          refine vc_iload dX12_says_53 rfl ?_
          refine vc_imulE dX12_says_55 (by omega) (by omega) ?_
          refine vc_iaddE dX12_says_56 (by omega) (by omega) ?_
          refine vc_iaload dX12_says_57 (s_57 hB0.1.1) (by omega) (by omega) ?_
          refine vc_iload_n dX12_says_58 rfl ?_
          refine vc_icmp_eq dX12_says_59 (fun h9 => ?_) (fun h9 => ?_)
          · refine vc_aload_n dX12_says_65 rfl ?_
            refine vc_iload dX12_says_66 rfl ?_
            have hk := (hwt.2.2 v5.toNat (by rw [show 873 * (mI M 55 6).toNat = (873 * mI M 55 6).toNat by omega]; omega)).2
            have hLW : LW M (((873 * mI M 55 6) + 1) + (11 * v5)) ((873 * mI M 55 6) + 265) := by
              rw [show 873 * (mI M 55 6).toNat + 1 + 11 * v5.toNat = ((((873 * mI M 55 6) + 1) + (11 * v5))).toNat by omega] at hk
              obtain ⟨k1, k2, k3, k4⟩ := hk (by omega) (by omega)
              unfold LW wfI
              rw [show ((((873 * mI M 55 6) + 1) + (11 * v5)) + 1).toNat = ((((873 * mI M 55 6) + 1) + (11 * v5))).toNat + 1 by omega, show ((((873 * mI M 55 6) + 1) + (11 * v5)) + 2).toNat = ((((873 * mI M 55 6) + 1) + (11 * v5))).toNat + 2 by omega]
              refine ⟨k1, k2, k3, ?_⟩
              rw [show (((873 * mI M 55 6) + 265) + 2 * mI M 57 (((((873 * mI M 55 6) + 1) + (11 * v5))).toNat + 1)).toNat = 873 * (mI M 55 6).toNat + 265 + 2 * (mI M 57 (((((873 * mI M 55 6) + 1) + (11 * v5))).toNat + 1)).toNat by omega]
              exact k4
            refine vc_cVI dX12_says_68 (sfX12_worked (M := M) hB0.1  v5 (by omega) (by omega) (by omega) (by exact hLW)) rfl okX12_worked viX12_worked lkX12_293 (s_54 hB0.1.1) cl_12 rfl (Nat.le_of_ble_eq_true rfl) ⟨rfl, rfl⟩ (Nat.le_of_ble_eq_true rfl) (Nat.le_of_ble_eq_true rfl) (Nat.le_of_ble_eq_true rfl) ?_
            rintro x10 M11 ⟨hB12, kp13, kp14, kp15, kp16, kp17, kp18, kp19⟩
            have hB20 : BF fS M M11 := BF.go hB0 hB12
            have kp21 : mI M11 69 = mI M 69 := kp_go rfl kp18
            have kp22 : mI M11 71 = mI M 71 := kp_go rfl kp19
            have kp23 : mI M11 54 = mI M 54 := kp_go rfl kp13
            have kp24 : mI M11 55 = mI M 55 := kp_go rfl kp14
            have kp25 : mI M11 57 = mI M 57 := kp_go rfl kp15
            have kp26 : mI M11 61 = mI M 61 := kp_go rfl kp16
            have kp27 : mI M11 63 = mI M 63 := kp_go rfl kp17
            refine vc_istore dX12_says_71 (by decide) rfl (show _ = [some (aR 54), some (aI s), some (aI wo), some (aI lo), some (aI hi), some (aI v5), some (aI x10)] from rfl) ?_
            refine vc_iload dX12_says_73 rfl ?_
            refine vc_iload_n dX12_says_75 rfl ?_
            refine vc_icmp_ge dX12_says_76 (fun h28 => ?_) (fun h28 => ?_)
            · refine vc_iload dX12_says_83 rfl ?_
              refine vc_iload dX12_says_85 rfl ?_
              refine vc_icmp_le dX12_says_87 (fun h29 => ?_) (fun h29 => ?_)
              · refine vc_iload dX12_says_95 rfl ?_
                refine vc_iret dX12_says_97 rfl (Nat.le_of_ble_eq_true rfl) (Nat.le_of_ble_eq_true rfl) ?_
                exact ⟨_, rfl, hB20, kp23, kp24, kp25, kp26, kp27, kp21, kp22⟩
              · refine vc_iload dX12_says_90 rfl ?_
                refine vc_goto dX12_says_92 ?_
                refine vc_iret dX12_says_97 rfl (Nat.le_of_ble_eq_true rfl) (Nat.le_of_ble_eq_true rfl) ?_
                exact ⟨_, rfl, hB20, kp23, kp24, kp25, kp26, kp27, kp21, kp22⟩
            · refine vc_iload_n dX12_says_79 rfl ?_
              refine vc_goto dX12_says_80 ?_
              refine vc_iret dX12_says_97 rfl (Nat.le_of_ble_eq_true rfl) (Nat.le_of_ble_eq_true rfl) ?_
              exact ⟨_, rfl, hB20, kp23, kp24, kp25, kp26, kp27, kp21, kp22⟩
          · refine vc_goto dX12_says_62 ?_
            refine vc_iincE dX12_says_98 rfl (by omega) (by omega) (by decide) rfl (show _ = [some (aR 54), some (aI s), some (aI wo), some (aI lo), some (aI hi), some (aI (v5 + 1)), none] from rfl) ?_
            refine vc_goto dX12_says_101 ?_
            exact ih3 (v5 + 1) (by omega) (by omega) (by omega)
  exact lp3 _ 0 (by omega) (by omega) (Nat.lt_succ_self _)
