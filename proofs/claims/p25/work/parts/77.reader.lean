/-! CONTRACTS of Reader (written by wip/p35/c77.py) -/
set_option maxRecDepth 4000 in
theorem sfX4_isBlank {l : Launch} {M : Mem} (hB : Box M)  (s : Int)  : Call l mdX4_isBlank [aI s] M (fun q N => ∃ r : Int, q = some (aI r) ∧ M = N ∧ 0 ≤ r ∧ r ≤ 1) := by
  have hB0 : BF fQ M M := BF.start hB
  refine Call.of [some (aI s)] rfl (Nat.le_of_ble_eq_true rfl) rfl ?_
  refine vc_ok (fun hoM hoS hoL => ?_)
  have hr0 : -2147483648 ≤ s ∧ s < 2147483648 := hoL 0 _ rfl
  refine vc_iload_n dX4_isBlank_0 rfl ?_
  refine vc_bipush dX4_isBlank_1 rfl ?_
  refine vc_icmp_eq dX4_isBlank_3 (fun h1 => ?_) (fun h1 => ?_)
  · refine vc_iconst dX4_isBlank_12 rfl ?_
    refine vc_goto dX4_isBlank_13 ?_
    refine vc_zret dX4_isBlank_17 rfl (by first | decide | omega) (Nat.le_of_ble_eq_true rfl) (Nat.le_of_ble_eq_true rfl) ?_
    exact ⟨_, rfl, rfl, by omega, by omega⟩
  · refine vc_iload_n dX4_isBlank_6 rfl ?_
    refine vc_bipush dX4_isBlank_7 rfl ?_
    refine vc_icmp_ne dX4_isBlank_9 (fun h2 => ?_) (fun h2 => ?_)
    · refine vc_iconst dX4_isBlank_16 rfl ?_
      refine vc_zret dX4_isBlank_17 rfl (by first | decide | omega) (Nat.le_of_ble_eq_true rfl) (Nat.le_of_ble_eq_true rfl) ?_
      exact ⟨_, rfl, rfl, by omega, by omega⟩
    · refine vc_iconst dX4_isBlank_12 rfl ?_
      refine vc_goto dX4_isBlank_13 ?_
      refine vc_zret dX4_isBlank_17 rfl (by first | decide | omega) (Nat.le_of_ble_eq_true rfl) (Nat.le_of_ble_eq_true rfl) ?_
      exact ⟨_, rfl, rfl, by omega, by omega⟩

set_option maxRecDepth 4000 in
theorem sfX4_isLetter {l : Launch} {M : Mem} (hB : Box M)  (s : Int)  : Call l mdX4_isLetter [aI s] M (fun q N => ∃ r : Int, q = some (aI r) ∧ M = N ∧ 0 ≤ r ∧ r ≤ 1) := by
  have hB0 : BF fQ M M := BF.start hB
  refine Call.of [some (aI s)] rfl (Nat.le_of_ble_eq_true rfl) rfl ?_
  refine vc_ok (fun hoM hoS hoL => ?_)
  have hr0 : -2147483648 ≤ s ∧ s < 2147483648 := hoL 0 _ rfl
  refine vc_iload_n dX4_isLetter_0 rfl ?_
  refine vc_bipush dX4_isLetter_1 rfl ?_
  refine vc_icmp_lt dX4_isLetter_3 (fun h1 => ?_) (fun h1 => ?_)
  · refine vc_iload_n dX4_isLetter_12 rfl ?_
    refine vc_bipush dX4_isLetter_13 rfl ?_
    refine vc_icmp_lt dX4_isLetter_15 (fun h2 => ?_) (fun h2 => ?_)
    · refine vc_iconst dX4_isLetter_28 rfl ?_
      refine vc_zret dX4_isLetter_29 rfl (by first | decide | omega) (Nat.le_of_ble_eq_true rfl) (Nat.le_of_ble_eq_true rfl) ?_
      exact ⟨_, rfl, rfl, by omega, by omega⟩
    · refine vc_iload_n dX4_isLetter_18 rfl ?_
      refine vc_bipush dX4_isLetter_19 rfl ?_
      refine vc_icmp_gt dX4_isLetter_21 (fun h3 => ?_) (fun h3 => ?_)
      · refine vc_iconst dX4_isLetter_28 rfl ?_
        refine vc_zret dX4_isLetter_29 rfl (by first | decide | omega) (Nat.le_of_ble_eq_true rfl) (Nat.le_of_ble_eq_true rfl) ?_
        exact ⟨_, rfl, rfl, by omega, by omega⟩
      · refine vc_iconst dX4_isLetter_24 rfl ?_
        refine vc_goto dX4_isLetter_25 ?_
        refine vc_zret dX4_isLetter_29 rfl (by first | decide | omega) (Nat.le_of_ble_eq_true rfl) (Nat.le_of_ble_eq_true rfl) ?_
        exact ⟨_, rfl, rfl, by omega, by omega⟩
  · refine vc_iload_n dX4_isLetter_6 rfl ?_
    refine vc_bipush dX4_isLetter_7 rfl ?_
    refine vc_icmp_le dX4_isLetter_9 (fun h4 => ?_) (fun h4 => ?_)
    · refine vc_iconst dX4_isLetter_24 rfl ?_
      refine vc_goto dX4_isLetter_25 ?_
      refine vc_zret dX4_isLetter_29 rfl (by first | decide | omega) (Nat.le_of_ble_eq_true rfl) (Nat.le_of_ble_eq_true rfl) ?_
      exact ⟨_, rfl, rfl, by omega, by omega⟩
    · refine vc_iload_n dX4_isLetter_12 rfl ?_
      refine vc_bipush dX4_isLetter_13 rfl ?_
      refine vc_icmp_lt dX4_isLetter_15 (fun h5 => by exfalso; omega) (fun h5 => ?_)
      refine vc_iload_n dX4_isLetter_18 rfl ?_
      refine vc_bipush dX4_isLetter_19 rfl ?_
      refine vc_icmp_gt dX4_isLetter_21 (fun h6 => ?_) (fun h6 => by exfalso; omega)
      refine vc_iconst dX4_isLetter_28 rfl ?_
      refine vc_zret dX4_isLetter_29 rfl (by first | decide | omega) (Nat.le_of_ble_eq_true rfl) (Nat.le_of_ble_eq_true rfl) ?_
      exact ⟨_, rfl, rfl, by omega, by omega⟩

set_option maxRecDepth 4000 in
theorem sfX4_isDigit {l : Launch} {M : Mem} (hB : Box M)  (s : Int)  : Call l mdX4_isDigit [aI s] M (fun q N => ∃ r : Int, q = some (aI r) ∧ M = N ∧ 0 ≤ r ∧ r ≤ 1) := by
  have hB0 : BF fQ M M := BF.start hB
  refine Call.of [some (aI s)] rfl (Nat.le_of_ble_eq_true rfl) rfl ?_
  refine vc_ok (fun hoM hoS hoL => ?_)
  have hr0 : -2147483648 ≤ s ∧ s < 2147483648 := hoL 0 _ rfl
  refine vc_iload_n dX4_isDigit_0 rfl ?_
  refine vc_bipush dX4_isDigit_1 rfl ?_
  refine vc_icmp_lt dX4_isDigit_3 (fun h1 => ?_) (fun h1 => ?_)
  · refine vc_iconst dX4_isDigit_16 rfl ?_
    refine vc_zret dX4_isDigit_17 rfl (by first | decide | omega) (Nat.le_of_ble_eq_true rfl) (Nat.le_of_ble_eq_true rfl) ?_
    exact ⟨_, rfl, rfl, by omega, by omega⟩
  · refine vc_iload_n dX4_isDigit_6 rfl ?_
    refine vc_bipush dX4_isDigit_7 rfl ?_
    refine vc_icmp_gt dX4_isDigit_9 (fun h2 => ?_) (fun h2 => ?_)
    · refine vc_iconst dX4_isDigit_16 rfl ?_
      refine vc_zret dX4_isDigit_17 rfl (by first | decide | omega) (Nat.le_of_ble_eq_true rfl) (Nat.le_of_ble_eq_true rfl) ?_
      exact ⟨_, rfl, rfl, by omega, by omega⟩
    · refine vc_iconst dX4_isDigit_12 rfl ?_
      refine vc_goto dX4_isDigit_13 ?_
      refine vc_zret dX4_isDigit_17 rfl (by first | decide | omega) (Nat.le_of_ble_eq_true rfl) (Nat.le_of_ble_eq_true rfl) ?_
      exact ⟨_, rfl, rfl, by omega, by omega⟩

set_option maxRecDepth 4000 in
theorem sfX4_endOfToken {l : Launch} {M : Mem} (hB : Box M)  (f : Int) (le : Int) (p0 : 0 ≤ f) (p1 : f ≤ 299) (p2 : 1 ≤ le) (p3 : le ≤ 300) (p4 : f < le) : Call l mdX4_endOfToken [aR 22, aI f, aI le] M (fun q N => ∃ r : Int, q = some (aI r) ∧ M = N ∧ 1 ≤ r ∧ r ≤ 300 ∧ f < r ∧ r ≤ le) := by
  have hB0 : BF fQ M M := BF.start hB
  refine Call.of [some (aR 22), some (aI f), some (aI le), none] rfl (Nat.le_of_ble_eq_true rfl) rfl ?_
  refine vc_iload_n dX4_endOfToken_0 rfl ?_
  refine vc_iconst dX4_endOfToken_1 rfl ?_
  refine vc_iaddE dX4_endOfToken_2 (by omega) (by omega) ?_
  refine vc_nameI (fun x1 ex1 => ?_)
  refine vc_istore_n dX4_endOfToken_3 (by decide) rfl (show _ = [some (aR 22), some (aI f), some (aI le), some (aI x1)] from rfl) ?_
  refine vc_aload_n dX4_endOfToken_4 rfl ?_
  refine vc_getR dX4_endOfToken_5 flX4_9 (s_22 hB0.1.1) rfl (r_22_0 hB0.1.1) ?_
  refine vc_iload_n dX4_endOfToken_8 rfl ?_
  refine vc_iaload dX4_endOfToken_9 (s_21 hB0.1.1) (by omega) (by omega) ?_
  refine vc_cSI dX4_endOfToken_10 (sfX4_isLetter (M := M) hB0.1  (mI M 21 f.toNat) ) rfl okX4_isLetter stX4_isLetter lkX4_95 rfl (Nat.le_of_ble_eq_true rfl) ⟨rfl, rfl⟩ (Nat.le_of_ble_eq_true rfl) (Nat.le_of_ble_eq_true rfl) (Nat.le_of_ble_eq_true rfl) ?_
  rintro x2 _ ⟨rfl, h3, h4⟩
  refine vc_if_eq dX4_endOfToken_13 (fun h5 => ?_) (fun h5 => ?_)
  · refine vc_aload_n dX4_endOfToken_39 rfl ?_
    refine vc_getR dX4_endOfToken_40 flX4_9 (s_22 hB0.1.1) rfl (r_22_0 hB0.1.1) ?_
    refine vc_iload_n dX4_endOfToken_43 rfl ?_
    refine vc_iaload dX4_endOfToken_44 (s_21 hB0.1.1) (by omega) (by omega) ?_
    refine vc_cSI dX4_endOfToken_45 (sfX4_isDigit (M := M) hB0.1  (mI M 21 f.toNat) ) rfl okX4_isDigit stX4_isDigit lkX4_98 rfl (Nat.le_of_ble_eq_true rfl) ⟨rfl, rfl⟩ (Nat.le_of_ble_eq_true rfl) (Nat.le_of_ble_eq_true rfl) (Nat.le_of_ble_eq_true rfl) ?_
    rintro x6 _ ⟨rfl, h7, h8⟩
    refine vc_if_eq dX4_endOfToken_48 (fun h9 => ?_) (fun h9 => ?_)
    · refine vc_iload_n dX4_endOfToken_74 rfl ?_
      refine vc_iret dX4_endOfToken_75 rfl (Nat.le_of_ble_eq_true rfl) (Nat.le_of_ble_eq_true rfl) ?_
      exact ⟨_, rfl, rfl, by omega, by omega, by omega, by omega⟩
    · have lp51 : ∀ (n51 : Nat) (v3 : Int), (f + 1 ≤ v3) → (v3 ≤ le) → (le - v3).toNat < n51 → VC l mdX4_endOfToken 51 [some (aR 22), none, some (aI le), some (aI v3)] [] M 0 0 (fun q N => ∃ r : Int, q = some (aI r) ∧ M = N ∧ 1 ≤ r ∧ r ≤ 300 ∧ f < r ∧ r ≤ le) := by
        intro n51
        induction n51 with
        | zero => intro v3 g51_3a g51_3b hm51; exact absurd hm51 (Nat.not_lt_zero _)
        | succ n51 ih51 =>
          intro v3 g51_3a g51_3b hm51
          refine vc_iload_n dX4_endOfToken_51 rfl ?_
          refine vc_iload_n dX4_endOfToken_52 rfl ?_
          refine vc_icmp_ge dX4_endOfToken_53 (fun h10 => ?_) (fun h10 => ?_)
          · refine vc_iload_n dX4_endOfToken_74 rfl ?_
            refine vc_iret dX4_endOfToken_75 rfl (Nat.le_of_ble_eq_true rfl) (Nat.le_of_ble_eq_true rfl) ?_
            exact ⟨_, rfl, rfl, by omega, by omega, by omega, by omega⟩
          · refine vc_aload_n dX4_endOfToken_56 rfl ?_
            refine vc_getR dX4_endOfToken_57 flX4_9 (s_22 hB0.1.1) rfl (r_22_0 hB0.1.1) ?_
            refine vc_iload_n dX4_endOfToken_60 rfl ?_
            refine vc_iaload dX4_endOfToken_61 (s_21 hB0.1.1) (by omega) (by omega) ?_
            refine vc_cSI dX4_endOfToken_62 (sfX4_isDigit (M := M) hB0.1  (mI M 21 v3.toNat) ) rfl okX4_isDigit stX4_isDigit lkX4_98 rfl (Nat.le_of_ble_eq_true rfl) ⟨rfl, rfl⟩ (Nat.le_of_ble_eq_true rfl) (Nat.le_of_ble_eq_true rfl) (Nat.le_of_ble_eq_true rfl) ?_
            rintro x11 _ ⟨rfl, h12, h13⟩
            refine vc_if_eq dX4_endOfToken_65 (fun h14 => ?_) (fun h14 => ?_)
            · refine vc_iload_n dX4_endOfToken_74 rfl ?_
              refine vc_iret dX4_endOfToken_75 rfl (Nat.le_of_ble_eq_true rfl) (Nat.le_of_ble_eq_true rfl) ?_
              exact ⟨_, rfl, rfl, by omega, by omega, by omega, by omega⟩
            · refine vc_iincE dX4_endOfToken_68 rfl (by omega) (by omega) (by decide) rfl (show _ = [some (aR 22), none, some (aI le), some (aI (v3 + 1))] from rfl) ?_
              refine vc_goto dX4_endOfToken_71 ?_
              exact ih51 (v3 + 1) (by omega) (by omega) (by omega)
      refine vc_less [some (aR 22), none, some (aI le), some (aI x1)] (lessL_keep (lessL_drop (lessL_keep (lessL_keep (lessL_nil))))) ?_
      exact lp51 _ x1 (by omega) (by omega) (Nat.lt_succ_self _)
  · have lp16 : ∀ (n16 : Nat) (v3 : Int), (f + 1 ≤ v3) → (v3 ≤ le) → (le - v3).toNat < n16 → VC l mdX4_endOfToken 16 [some (aR 22), none, some (aI le), some (aI v3)] [] M 0 0 (fun q N => ∃ r : Int, q = some (aI r) ∧ M = N ∧ 1 ≤ r ∧ r ≤ 300 ∧ f < r ∧ r ≤ le) := by
      intro n16
      induction n16 with
      | zero => intro v3 g16_3a g16_3b hm16; exact absurd hm16 (Nat.not_lt_zero _)
      | succ n16 ih16 =>
        intro v3 g16_3a g16_3b hm16
        refine vc_iload_n dX4_endOfToken_16 rfl ?_
        refine vc_iload_n dX4_endOfToken_17 rfl ?_
        refine vc_icmp_ge dX4_endOfToken_18 (fun h15 => ?_) (fun h15 => ?_)
        · refine vc_iload_n dX4_endOfToken_74 rfl ?_
          refine vc_iret dX4_endOfToken_75 rfl (Nat.le_of_ble_eq_true rfl) (Nat.le_of_ble_eq_true rfl) ?_
          exact ⟨_, rfl, rfl, by omega, by omega, by omega, by omega⟩
        · refine vc_aload_n dX4_endOfToken_21 rfl ?_
          refine vc_getR dX4_endOfToken_22 flX4_9 (s_22 hB0.1.1) rfl (r_22_0 hB0.1.1) ?_
          refine vc_iload_n dX4_endOfToken_25 rfl ?_
          refine vc_iaload dX4_endOfToken_26 (s_21 hB0.1.1) (by omega) (by omega) ?_
          refine vc_cSI dX4_endOfToken_27 (sfX4_isLetter (M := M) hB0.1  (mI M 21 v3.toNat) ) rfl okX4_isLetter stX4_isLetter lkX4_95 rfl (Nat.le_of_ble_eq_true rfl) ⟨rfl, rfl⟩ (Nat.le_of_ble_eq_true rfl) (Nat.le_of_ble_eq_true rfl) (Nat.le_of_ble_eq_true rfl) ?_
          rintro x16 _ ⟨rfl, h17, h18⟩
          refine vc_if_eq dX4_endOfToken_30 (fun h19 => ?_) (fun h19 => ?_)
          · refine vc_iload_n dX4_endOfToken_74 rfl ?_
            refine vc_iret dX4_endOfToken_75 rfl (Nat.le_of_ble_eq_true rfl) (Nat.le_of_ble_eq_true rfl) ?_
            exact ⟨_, rfl, rfl, by omega, by omega, by omega, by omega⟩
          · refine vc_iincE dX4_endOfToken_33 rfl (by omega) (by omega) (by decide) rfl (show _ = [some (aR 22), none, some (aI le), some (aI (v3 + 1))] from rfl) ?_
            refine vc_goto dX4_endOfToken_36 ?_
            exact ih16 (v3 + 1) (by omega) (by omega) (by omega)
    refine vc_less [some (aR 22), none, some (aI le), some (aI x1)] (lessL_keep (lessL_drop (lessL_keep (lessL_keep (lessL_nil))))) ?_
    exact lp16 _ x1 (by omega) (by omega) (Nat.lt_succ_self _)

set_option maxRecDepth 4000 in
theorem sfX4_numberOf {l : Launch} {M : Mem} (hB : Box M)  (f : Int) (t : Int) (p0 : 0 ≤ f) (p1 : f ≤ 300) (p2 : 0 ≤ t) (p3 : t ≤ 300) : Call l mdX4_numberOf [aR 22, aI f, aI t] M (fun q N => ∃ r : Int, q = some (aI r) ∧ M = N) := by
  have hB0 : BF fQ M M := BF.start hB
  refine Call.of [some (aR 22), some (aI f), some (aI t), none, none] rfl (Nat.le_of_ble_eq_true rfl) rfl ?_
  refine vc_iconst dX4_numberOf_0 rfl ?_
  refine vc_istore_n dX4_numberOf_1 (by decide) rfl (show _ = [some (aR 22), some (aI f), some (aI t), some (aI 0), none] from rfl) ?_
  refine vc_iload_n dX4_numberOf_2 rfl ?_
  refine vc_istore dX4_numberOf_3 (by decide) rfl (show _ = [some (aR 22), some (aI f), some (aI t), some (aI 0), some (aI f)] from rfl) ?_
  have lp5 : ∀ (n5 : Nat) (v3 : Int) (v4 : Int), (0 ≤ v4) → (t - v4).toNat < n5 → VC l mdX4_numberOf 5 [some (aR 22), none, some (aI t), some (aI v3), some (aI v4)] [] M 0 0 (fun q N => ∃ r : Int, q = some (aI r) ∧ M = N) := by
    intro n5
    induction n5 with
    | zero => intro v3 v4 g5_4a hm5; exact absurd hm5 (Nat.not_lt_zero _)
    | succ n5 ih5 =>
      intro v3 v4 g5_4a hm5
      refine vc_iload dX4_numberOf_5 rfl ?_
      refine vc_iload_n dX4_numberOf_7 rfl ?_
      refine vc_icmp_ge dX4_numberOf_8 (fun h1 => ?_) (fun h1 => ?_)
      · refine vc_iload_n dX4_numberOf_39 rfl ?_
        refine vc_iret dX4_numberOf_40 rfl (Nat.le_of_ble_eq_true rfl) (Nat.le_of_ble_eq_true rfl) ?_
        exact ⟨_, rfl, rfl⟩
      · refine vc_sipush dX4_numberOf_11 rfl ?_
        refine vc_bipush dX4_numberOf_14 rfl ?_
        refine vc_iload_n dX4_numberOf_16 rfl ?_
        refine vc_imul dX4_numberOf_17 ?_
        refine vc_aload_n dX4_numberOf_18 rfl ?_
        refine vc_getR dX4_numberOf_19 flX4_9 (s_22 hB0.1.1) rfl (r_22_0 hB0.1.1) ?_
        refine vc_iload dX4_numberOf_22 rfl ?_
        refine vc_iaload dX4_numberOf_24 (s_21 hB0.1.1) (by omega) (by omega) ?_
        refine vc_iadd dX4_numberOf_25 ?_
        refine vc_bipush dX4_numberOf_26 rfl ?_
        refine vc_isub dX4_numberOf_28 ?_
        refine vc_mminI dX4_numberOf_29 lkX4_33 (Nat.le_of_ble_eq_true rfl) (Nat.le_of_ble_eq_true rfl) (Nat.le_of_ble_eq_true rfl) ?_
        have k2 := minZ_bd 10000 (wI ((wI ((wI (10 * v3)) + (mI M 21 v4.toNat))) - 48))
        refine vc_nameI (fun x3 ex3 => ?_)
        refine vc_istore_n dX4_numberOf_32 (by decide) rfl (show _ = [some (aR 22), none, some (aI t), some (aI x3), some (aI v4)] from rfl) ?_
        refine vc_iincE dX4_numberOf_33 rfl (by omega) (by omega) (by decide) rfl (show _ = [some (aR 22), none, some (aI t), some (aI x3), some (aI (v4 + 1))] from rfl) ?_
        refine vc_goto dX4_numberOf_36 ?_
        exact ih5 x3 (v4 + 1) (by omega) (by omega)
  refine vc_less [some (aR 22), none, some (aI t), some (aI 0), some (aI f)] (lessL_keep (lessL_drop (lessL_keep (lessL_keep (lessL_keep (lessL_nil)))))) ?_
  exact lp5 _ 0 f (by omega) (Nat.lt_succ_self _)

set_option maxRecDepth 4000 in
theorem sfX4_setToken {l : Launch} {M : Mem} (hB : Box M)  (i : Int) (f : Int) (t : Int) (p0 : 0 ≤ i) (p1 : i ≤ 300) (p2 : 0 ≤ f) (p3 : f ≤ 299) (p4 : 0 ≤ t) (p5 : t ≤ 300) : Call l mdX4_setToken [aR 22, aI i, aI f, aI t] M (fun q N => q = none ∧ BF fQ M N ∧ mI N 22 13 = mI M 22 13) := by
  have hB0 : BF fQ M M := BF.start hB
  refine Call.of [some (aR 22), some (aI i), some (aI f), some (aI t)] rfl (Nat.le_of_ble_eq_true rfl) rfl ?_
  refine vc_aload_n dX4_setToken_0 rfl ?_
  refine vc_getR dX4_setToken_1 flX4_9 (s_22 hB0.1.1) rfl (r_22_0 hB0.1.1) ?_
  refine vc_iload_n dX4_setToken_4 rfl ?_
  refine vc_iaload dX4_setToken_5 (s_21 hB0.1.1) (by omega) (by omega) ?_
  refine vc_cSI dX4_setToken_6 (sfX4_isLetter (M := M) hB0.1  (mI M 21 f.toNat) ) rfl okX4_isLetter stX4_isLetter lkX4_95 rfl (Nat.le_of_ble_eq_true rfl) ⟨rfl, rfl⟩ (Nat.le_of_ble_eq_true rfl) (Nat.le_of_ble_eq_true rfl) (Nat.le_of_ble_eq_true rfl) ?_
  rintro x1 _ ⟨rfl, h2, h3⟩
  refine vc_if_eq dX4_setToken_9 (fun h4 => ?_) (fun h4 => ?_)
  · refine vc_aload_n dX4_setToken_34 rfl ?_
    refine vc_getR dX4_setToken_35 flX4_9 (s_22 hB0.1.1) rfl (r_22_0 hB0.1.1) ?_
    refine vc_iload_n dX4_setToken_38 rfl ?_
    refine vc_iaload dX4_setToken_39 (s_21 hB0.1.1) (by omega) (by omega) ?_
    refine vc_cSI dX4_setToken_40 (sfX4_isDigit (M := M) hB0.1  (mI M 21 f.toNat) ) rfl okX4_isDigit stX4_isDigit lkX4_98 rfl (Nat.le_of_ble_eq_true rfl) ⟨rfl, rfl⟩ (Nat.le_of_ble_eq_true rfl) (Nat.le_of_ble_eq_true rfl) (Nat.le_of_ble_eq_true rfl) ?_
    rintro x5 _ ⟨rfl, h6, h7⟩
    refine vc_if_eq dX4_setToken_43 (fun h8 => ?_) (fun h8 => ?_)
    · refine vc_aload_n dX4_setToken_68 rfl ?_
      refine vc_getR dX4_setToken_69 flX4_24 (s_22 hB0.1.1) rfl (r_22_4 hB0.1.1) ?_
      refine vc_iload_n dX4_setToken_72 rfl ?_
      refine vc_iconst dX4_setToken_73 rfl ?_
      refine vc_iastore dX4_setToken_74 (s_26 hB0.1.1) (by omega) (by omega) ?_
      have hB9 : BF fQ M (sI M 26 i.toNat 3) := BF.w26 hB0 (fun _ => rfl) _
      refine vc_aload_n dX4_setToken_75 rfl ?_
      refine vc_getR dX4_setToken_76 flX4_27 (s_22 hB9.1.1) rfl (r_22_5 hB9.1.1) ?_
      refine vc_iload_n dX4_setToken_79 rfl ?_
      refine vc_aload_n dX4_setToken_80 rfl ?_
      refine vc_getR dX4_setToken_81 flX4_9 (s_22 hB9.1.1) rfl (r_22_0 hB9.1.1) ?_
      refine vc_iload_n dX4_setToken_84 rfl ?_
      refine vc_iaload dX4_setToken_85 (s_21 hB9.1.1) (by omega) (by omega) ?_
      refine vc_topI (mI M 21 f.toNat) rfl ?_
      refine vc_iastore dX4_setToken_86 (s_27 hB9.1.1) (by omega) (by omega) ?_
      have hB10 : BF fQ M (sI (sI M 26 i.toNat 3) 27 i.toNat (mI M 21 f.toNat)) := BF.w27 hB9 (fun _ => rfl) _
      refine vc_vret dX4_setToken_87 rfl (Nat.le_of_ble_eq_true rfl) (Nat.le_of_ble_eq_true rfl) ?_
      have k11 : mI (sI (sI M 26 i.toNat 3) 27 i.toNat (mI M 21 f.toNat)) 22 13 = mI M 22 13 := rfl
      exact ⟨rfl, hB10, by omega⟩
    · refine vc_aload_n dX4_setToken_46 rfl ?_
      refine vc_getR dX4_setToken_47 flX4_24 (s_22 hB0.1.1) rfl (r_22_4 hB0.1.1) ?_
      refine vc_iload_n dX4_setToken_50 rfl ?_
      refine vc_iconst dX4_setToken_51 rfl ?_
      refine vc_iastore dX4_setToken_52 (s_26 hB0.1.1) (by omega) (by omega) ?_
      have hB12 : BF fQ M (sI M 26 i.toNat 2) := BF.w26 hB0 (fun _ => rfl) _
      refine vc_aload_n dX4_setToken_53 rfl ?_
      refine vc_getR dX4_setToken_54 flX4_27 (s_22 hB12.1.1) rfl (r_22_5 hB12.1.1) ?_
      refine vc_iload_n dX4_setToken_57 rfl ?_
      refine vc_aload_n dX4_setToken_58 rfl ?_
      refine vc_iload_n dX4_setToken_59 rfl ?_
      refine vc_iload_n dX4_setToken_60 rfl ?_
      have k13 : mI (sI M 26 i.toNat 2) 22 13 = mI M 22 13 := rfl
      refine vc_cVI dX4_setToken_61 (sfX4_numberOf (M := (sI M 26 i.toNat 2)) hB12.1  f t (by omega) (by omega) (by omega) (by omega)) rfl okX4_numberOf viX4_numberOf lkX4_104 (s_22 hB12.1.1) cl_4 rfl (Nat.le_of_ble_eq_true rfl) ⟨rfl, rfl⟩ (Nat.le_of_ble_eq_true rfl) (Nat.le_of_ble_eq_true rfl) (Nat.le_of_ble_eq_true rfl) ?_
      rintro x14 _ rfl
      refine vc_iastore dX4_setToken_64 (s_27 hB12.1.1) (by omega) (by omega) ?_
      have hB15 : BF fQ M (sI (sI M 26 i.toNat 2) 27 i.toNat x14) := BF.w27 hB12 (fun _ => rfl) _
      refine vc_goto dX4_setToken_65 ?_
      refine vc_vret dX4_setToken_87 rfl (Nat.le_of_ble_eq_true rfl) (Nat.le_of_ble_eq_true rfl) ?_
      have k16 : mI (sI (sI M 26 i.toNat 2) 27 i.toNat x14) 22 13 = mI M 22 13 := rfl
      exact ⟨rfl, hB15, by omega⟩
  · refine vc_aload_n dX4_setToken_12 rfl ?_
    refine vc_getR dX4_setToken_13 flX4_24 (s_22 hB0.1.1) rfl (r_22_4 hB0.1.1) ?_
    refine vc_iload_n dX4_setToken_16 rfl ?_
    refine vc_iconst dX4_setToken_17 rfl ?_
    refine vc_iastore dX4_setToken_18 (s_26 hB0.1.1) (by omega) (by omega) ?_
    have hB17 : BF fQ M (sI M 26 i.toNat 1) := BF.w26 hB0 (fun _ => rfl) _
    refine vc_aload_n dX4_setToken_19 rfl ?_
    refine vc_getR dX4_setToken_20 flX4_27 (s_22 hB17.1.1) rfl (r_22_5 hB17.1.1) ?_
    refine vc_iload_n dX4_setToken_23 rfl ?_
    refine vc_aload_n dX4_setToken_24 rfl ?_
    refine vc_iload_n dX4_setToken_25 rfl ?_
    refine vc_iload_n dX4_setToken_26 rfl ?_
    have k18 : mI (sI M 26 i.toNat 1) 22 13 = mI M 22 13 := rfl
    refine vc_cVI dX4_setToken_27 (sfX4_wordOf (M := (sI M 26 i.toNat 1)) hB17.1  f t (by omega) (by omega) (by omega) (by omega)) rfl okX4_wordOf viX4_wordOf lkX4_101 (s_22 hB17.1.1) cl_4 rfl (Nat.le_of_ble_eq_true rfl) ⟨rfl, rfl⟩ (Nat.le_of_ble_eq_true rfl) (Nat.le_of_ble_eq_true rfl) (Nat.le_of_ble_eq_true rfl) ?_
    rintro x19 _ rfl
    refine vc_iastore dX4_setToken_30 (s_27 hB17.1.1) (by omega) (by omega) ?_
    have hB20 : BF fQ M (sI (sI M 26 i.toNat 1) 27 i.toNat x19) := BF.w27 hB17 (fun _ => rfl) _
    refine vc_goto dX4_setToken_31 ?_
    refine vc_vret dX4_setToken_87 rfl (Nat.le_of_ble_eq_true rfl) (Nat.le_of_ble_eq_true rfl) ?_
    have k21 : mI (sI (sI M 26 i.toNat 1) 27 i.toNat x19) 22 13 = mI M 22 13 := rfl
    exact ⟨rfl, hB20, by omega⟩

set_option maxRecDepth 4000 in
theorem sfX4_part {l : Launch} {M : Mem} (hB : Box M)  (le : Int) (p0 : 0 ≤ le) (p1 : le ≤ 300) : Call l mdX4_part [aR 22, aI le] M (fun q N => q = none ∧ BF fQ M N) := by
  have hB0 : BF fQ M M := BF.start hB
  refine Call.of [some (aR 22), some (aI le), none, none, none, none] rfl (Nat.le_of_ble_eq_true rfl) rfl ?_
  refine vc_iconst dX4_part_0 rfl ?_
  refine vc_istore_n dX4_part_1 (by decide) rfl (show _ = [some (aR 22), some (aI le), some (aI 0), none, none, none] from rfl) ?_
  refine vc_iconst dX4_part_2 rfl ?_
  refine vc_istore_n dX4_part_3 (by decide) rfl (show _ = [some (aR 22), some (aI le), some (aI 0), some (aI 0), none, none] from rfl) ?_
  refine vc_iconst dX4_part_4 rfl ?_
  refine vc_istore dX4_part_5 (by decide) rfl (show _ = [some (aR 22), some (aI le), some (aI 0), some (aI 0), some (aI 0), none] from rfl) ?_
  have lp7 : ∀ (n7 : Nat) (Mq7 : Mem) (v2 : Int) (v3 : Int) (v4 : Int), (BF fQ M Mq7) → (0 ≤ v2) → (v2 ≤ v4) → (0 ≤ v3) → (v3 ≤ le) → (0 ≤ v4) → (v4 ≤ 300) → (300 - v4).toNat < n7 → VC l mdX4_part 7 [some (aR 22), some (aI le), some (aI v2), some (aI v3), some (aI v4), none] [] Mq7 0 0 (fun q N => q = none ∧ BF fQ M N) := by
    intro n7
    induction n7 with
    | zero => intro Mq7 v2 v3 v4 hQ7 g7_2a g7_2b g7_3a g7_3b g7_4a g7_4b hm7; exact absurd hm7 (Nat.not_lt_zero _)
    | succ n7 ih7 =>
      intro Mq7 v2 v3 v4 hQ7 g7_2a g7_2b g7_3a g7_3b g7_4a g7_4b hm7
      refine vc_iload dX4_part_7 rfl ?_
      refine vc_sipush dX4_part_9 rfl ?_
      refine vc_icmp_ge dX4_part_12 (fun h1 => ?_) (fun h1 => ?_)
      · refine vc_aload_n dX4_part_69 rfl ?_
        refine vc_getR dX4_part_70 flX4_30 (s_22 hQ7.1.1) rfl (r_22_6 hQ7.1.1) ?_
        refine vc_iload_n dX4_part_73 rfl ?_
        refine vc_iload_n dX4_part_74 rfl ?_
        refine vc_iastore dX4_part_75 (s_28 hQ7.1.1) (by omega) (by omega) ?_
        have hB2 : BF fQ M (sI Mq7 28 v2.toNat le) := BF.w28 hQ7 (fun _ => rfl) _
        refine vc_aload_n dX4_part_76 rfl ?_
        refine vc_getR dX4_part_77 flX4_24 (s_22 hB2.1.1) rfl (r_22_4 hB2.1.1) ?_
        refine vc_iload_n dX4_part_80 rfl ?_
        refine vc_iconst dX4_part_81 rfl ?_
        refine vc_iastore dX4_part_82 (s_26 hB2.1.1) (by omega) (by omega) ?_
        have hB3 : BF fQ M (sI (sI Mq7 28 v2.toNat le) 26 v2.toNat 0) := BF.w26 hB2 (fun _ => rfl) _
        refine vc_vret dX4_part_83 rfl (Nat.le_of_ble_eq_true rfl) (Nat.le_of_ble_eq_true rfl) ?_
        exact ⟨rfl, hB3⟩
      · refine vc_iload_n dX4_part_15 rfl ?_
        refine vc_iload_n dX4_part_16 rfl ?_
        refine vc_icmp_ge dX4_part_17 (fun h4 => ?_) (fun h4 => ?_)
        · refine vc_aload_n dX4_part_69 rfl ?_
          refine vc_getR dX4_part_70 flX4_30 (s_22 hQ7.1.1) rfl (r_22_6 hQ7.1.1) ?_
          refine vc_iload_n dX4_part_73 rfl ?_
          refine vc_iload_n dX4_part_74 rfl ?_
          refine vc_iastore dX4_part_75 (s_28 hQ7.1.1) (by omega) (by omega) ?_
          have hB5 : BF fQ M (sI Mq7 28 v2.toNat le) := BF.w28 hQ7 (fun _ => rfl) _
          refine vc_aload_n dX4_part_76 rfl ?_
          refine vc_getR dX4_part_77 flX4_24 (s_22 hB5.1.1) rfl (r_22_4 hB5.1.1) ?_
          refine vc_iload_n dX4_part_80 rfl ?_
          refine vc_iconst dX4_part_81 rfl ?_
          refine vc_iastore dX4_part_82 (s_26 hB5.1.1) (by omega) (by omega) ?_
          have hB6 : BF fQ M (sI (sI Mq7 28 v2.toNat le) 26 v2.toNat 0) := BF.w26 hB5 (fun _ => rfl) _
          refine vc_vret dX4_part_83 rfl (Nat.le_of_ble_eq_true rfl) (Nat.le_of_ble_eq_true rfl) ?_
          exact ⟨rfl, hB6⟩
        · refine vc_iload_n dX4_part_20 rfl ?_
          refine vc_istore dX4_part_21 (by decide) rfl (show _ = [some (aR 22), some (aI le), some (aI v2), some (aI v3), some (aI v4), some (aI v3)] from rfl) ?_
          refine vc_aload_n dX4_part_23 rfl ?_
          refine vc_iload dX4_part_24 rfl ?_
          refine vc_iload_n dX4_part_26 rfl ?_
          refine vc_cVI dX4_part_27 (sfX4_endOfToken (M := Mq7) hQ7.1  v3 le (by omega) (by omega) (by omega) (by omega) (by omega)) rfl okX4_endOfToken viX4_endOfToken lkX4_84 (s_22 hQ7.1.1) cl_4 rfl (Nat.le_of_ble_eq_true rfl) ⟨rfl, rfl⟩ (Nat.le_of_ble_eq_true rfl) (Nat.le_of_ble_eq_true rfl) (Nat.le_of_ble_eq_true rfl) ?_
          rintro x7 _ ⟨rfl, h8, h9, h10, h11⟩
          refine vc_istore_n dX4_part_30 (by decide) rfl (show _ = [some (aR 22), some (aI le), some (aI v2), some (aI x7), some (aI v4), some (aI v3)] from rfl) ?_
          refine vc_aload_n dX4_part_31 rfl ?_
          refine vc_getR dX4_part_32 flX4_9 (s_22 hQ7.1.1) rfl (r_22_0 hQ7.1.1) ?_
          refine vc_iload dX4_part_35 rfl ?_
          refine vc_iaload dX4_part_37 (s_21 hQ7.1.1) (by omega) (by omega) ?_
          refine vc_cSI dX4_part_38 (sfX4_isBlank (M := Mq7) hQ7.1  (mI Mq7 21 v3.toNat) ) rfl okX4_isBlank stX4_isBlank lkX4_87 rfl (Nat.le_of_ble_eq_true rfl) ⟨rfl, rfl⟩ (Nat.le_of_ble_eq_true rfl) (Nat.le_of_ble_eq_true rfl) (Nat.le_of_ble_eq_true rfl) ?_
          rintro x12 _ ⟨rfl, h13, h14⟩
          refine vc_if_ne dX4_part_41 (fun h15 => ?_) (fun h15 => ?_)
          · refine vc_iincE dX4_part_63 rfl (by omega) (by omega) (by decide) rfl (show _ = [some (aR 22), some (aI le), some (aI v2), some (aI x7), some (aI (v4 + 1)), some (aI v3)] from rfl) ?_
            refine vc_goto dX4_part_66 ?_
            refine vc_less [some (aR 22), some (aI le), some (aI v2), some (aI x7), some (aI (v4 + 1)), none] (lessL_keep (lessL_keep (lessL_keep (lessL_keep (lessL_keep (lessL_drop (lessL_nil))))))) ?_
            exact ih7 Mq7 v2 x7 (v4 + 1) hQ7 (by omega) (by omega) (by omega) (by omega) (by omega) (by omega) (by omega)
          · refine vc_aload_n dX4_part_44 rfl ?_
            refine vc_getR dX4_part_45 flX4_30 (s_22 hQ7.1.1) rfl (r_22_6 hQ7.1.1) ?_
            refine vc_iload_n dX4_part_48 rfl ?_
            refine vc_iload dX4_part_49 rfl ?_
            refine vc_iastore dX4_part_51 (s_28 hQ7.1.1) (by omega) (by omega) ?_
            have hB16 : BF fQ M (sI Mq7 28 v2.toNat v3) := BF.w28 hQ7 (fun _ => rfl) _
            refine vc_aload_n dX4_part_52 rfl ?_
            refine vc_iload_n dX4_part_53 rfl ?_
            refine vc_iload dX4_part_54 rfl ?_
            refine vc_iload_n dX4_part_56 rfl ?_
            refine vc_cVU dX4_part_57 (sfX4_setToken (M := (sI Mq7 28 v2.toNat v3)) hB16.1  v2 v3 x7 (by omega) (by omega) (by omega) (by omega) (by omega) (by omega)) rfl okX4_setToken viX4_setToken lkX4_91 (s_22 hB16.1.1) cl_4 rfl (Nat.le_of_ble_eq_true rfl) ⟨rfl, rfl⟩ (Nat.le_of_ble_eq_true rfl) (Nat.le_of_ble_eq_true rfl) (Nat.le_of_ble_eq_true rfl) ?_
            rintro M17 ⟨hB18, h19⟩
            have hB20 : BF fQ M M17 := BF.go hB16 hB18
            refine vc_iincE dX4_part_60 rfl (by omega) (by omega) (by decide) rfl (show _ = [some (aR 22), some (aI le), some (aI (v2 + 1)), some (aI x7), some (aI v4), some (aI v3)] from rfl) ?_
            refine vc_iincE dX4_part_63 rfl (by omega) (by omega) (by decide) rfl (show _ = [some (aR 22), some (aI le), some (aI (v2 + 1)), some (aI x7), some (aI (v4 + 1)), some (aI v3)] from rfl) ?_
            refine vc_goto dX4_part_66 ?_
            refine vc_less [some (aR 22), some (aI le), some (aI (v2 + 1)), some (aI x7), some (aI (v4 + 1)), none] (lessL_keep (lessL_keep (lessL_keep (lessL_keep (lessL_keep (lessL_drop (lessL_nil))))))) ?_
            exact ih7 M17 (v2 + 1) x7 (v4 + 1) hB20 (by omega) (by omega) (by omega) (by omega) (by omega) (by omega) (by omega)
  exact lp7 _ M 0 0 0 hB0 (by omega) (by omega) (by omega) (by omega) (by omega) (by omega) (Nat.lt_succ_self _)

set_option maxRecDepth 4000 in
theorem sfX4_takeToken {l : Launch} {M : Mem} (hB : Box M)    : Call l mdX4_takeToken [aR 22] M (fun q N => ∃ r : Int, q = some (aI r) ∧ BF fQ M N ∧ 1 ≤ r ∧ r ≤ 1 ∧ 0 ≤ mI N 22 9 ∧ mI N 22 13 = mI M 22 13) := by
  have hB0 : BF fQ M M := BF.start hB
  refine Call.of [some (aR 22)] rfl (Nat.le_of_ble_eq_true rfl) rfl ?_
  refine vc_aload_n dX4_takeToken_0 rfl ?_
  refine vc_getI dX4_takeToken_1 flX4_62 (s_22 hB0.1.1) rfl ?_
  have k1 : (-1) ≤ mI M 22 9 ∧ mI M 22 9 ≤ 300 := b22_9 (M := M) hB0.1
  refine vc_sipush dX4_takeToken_4 rfl ?_
  refine vc_icmp_ge dX4_takeToken_7 (fun h2 => ?_) (fun h2 => ?_)
  · refine vc_iconst dX4_takeToken_46 rfl ?_
    refine vc_zret dX4_takeToken_47 rfl (by first | decide | omega) (Nat.le_of_ble_eq_true rfl) (Nat.le_of_ble_eq_true rfl) ?_
    exact ⟨_, rfl, hB0, by omega, by omega, by omega, by omega⟩
  · refine vc_aload_n dX4_takeToken_10 rfl ?_
    refine vc_dup dX4_takeToken_11 rfl ?_
    refine vc_getI dX4_takeToken_12 flX4_62 (s_22 hB0.1.1) rfl ?_
    refine vc_iconst dX4_takeToken_15 rfl ?_
    refine vc_iaddE dX4_takeToken_16 (by omega) (by omega) ?_
    refine vc_putI dX4_takeToken_17 (plX4_62 _ rfl) (s_22 hB0.1.1) rfl ?_
    have hB3 : BF fQ M (sI M 22 9 ((mI M 22 9) + 1)) := BF.w22_9 hB0 rfl (by omega) (by omega)
    refine vc_aload_n dX4_takeToken_20 rfl ?_
    refine vc_aload_n dX4_takeToken_21 rfl ?_
    refine vc_getR dX4_takeToken_22 flX4_24 (s_22 hB3.1.1) rfl (r_22_4 hB3.1.1) ?_
    refine vc_aload_n dX4_takeToken_25 rfl ?_
    refine vc_getI dX4_takeToken_26 flX4_62 (s_22 hB3.1.1) rfl ?_
    refine vc_topI ((mI M 22 9) + 1) rfl ?_
    refine vc_iaload dX4_takeToken_29 (s_26 hB3.1.1) (by omega) (by omega) ?_
    refine vc_topI (mI M 26 (((mI M 22 9) + 1).toNat)) rfl ?_
    refine vc_putI dX4_takeToken_30 (plX4_69 _ rfl) (s_22 hB3.1.1) rfl ?_
    have hB4 : BF fQ M (sI (sI M 22 9 ((mI M 22 9) + 1)) 22 10 (mI M 26 (((mI M 22 9) + 1).toNat))) := BF.w22_10 hB3 rfl
    refine vc_aload_n dX4_takeToken_33 rfl ?_
    refine vc_aload_n dX4_takeToken_34 rfl ?_
    refine vc_getR dX4_takeToken_35 flX4_27 (s_22 hB4.1.1) rfl (r_22_5 hB4.1.1) ?_
    refine vc_aload_n dX4_takeToken_38 rfl ?_
    refine vc_getI dX4_takeToken_39 flX4_62 (s_22 hB4.1.1) rfl ?_
    refine vc_topI ((mI M 22 9) + 1) rfl ?_
    refine vc_iaload dX4_takeToken_42 (s_27 hB4.1.1) (by omega) (by omega) ?_
    refine vc_topI (mI M 27 (((mI M 22 9) + 1).toNat)) rfl ?_
    refine vc_putI dX4_takeToken_43 (plX4_119 _ rfl) (s_22 hB4.1.1) rfl ?_
    have hB5 : BF fQ M (sI (sI (sI M 22 9 ((mI M 22 9) + 1)) 22 10 (mI M 26 (((mI M 22 9) + 1).toNat))) 22 11 (mI M 27 (((mI M 22 9) + 1).toNat))) := BF.w22_11 hB4 rfl
    refine vc_iconst dX4_takeToken_46 rfl ?_
    refine vc_zret dX4_takeToken_47 rfl (by first | decide | omega) (Nat.le_of_ble_eq_true rfl) (Nat.le_of_ble_eq_true rfl) ?_
    have k6 : mI (sI (sI (sI M 22 9 ((mI M 22 9) + 1)) 22 10 (mI M 26 (((mI M 22 9) + 1).toNat))) 22 11 (mI M 27 (((mI M 22 9) + 1).toNat))) 22 9 = (mI M 22 9) + 1 := rfl
    have k7 : mI (sI (sI (sI M 22 9 ((mI M 22 9) + 1)) 22 10 (mI M 26 (((mI M 22 9) + 1).toNat))) 22 11 (mI M 27 (((mI M 22 9) + 1).toNat))) 22 13 = mI M 22 13 := rfl
    exact ⟨_, rfl, hB5, by omega, by omega, by omega, by omega⟩

set_option maxRecDepth 4000 in
theorem sfX4_failed {l : Launch} {M : Mem} (hB : Box M)  (w : Int) (p0 : 0 ≤ mI M 22 9) : Call l mdX4_failed [aR 22, aI w] M (fun q N => ∃ r : Int, q = some (aI r) ∧ BF fQ M N ∧ 0 ≤ r ∧ r ≤ 0 ∧ 0 ≤ mI N 22 9 ∧ mI N 22 13 = mI M 22 13) := by
  have hB0 : BF fQ M M := BF.start hB
  refine Call.of [some (aR 22), some (aI w)] rfl (Nat.le_of_ble_eq_true rfl) rfl ?_
  refine vc_ok (fun hoM hoS hoL => ?_)
  have hr1 : -2147483648 ≤ w ∧ w < 2147483648 := hoL 1 _ rfl
  refine vc_aload_n dX4_failed_0 rfl ?_
  refine vc_iload_n dX4_failed_1 rfl ?_
  refine vc_putI dX4_failed_2 (plX4_43 _ rfl) (s_22 hB0.1.1) rfl ?_
  have hB1 : BF fQ M (sI M 22 7 w) := BF.w22_7 hB0 rfl
  refine vc_aload_n dX4_failed_5 rfl ?_
  refine vc_aload_n dX4_failed_6 rfl ?_
  refine vc_getR dX4_failed_7 flX4_30 (s_22 hB1.1.1) rfl (r_22_6 hB1.1.1) ?_
  refine vc_aload_n dX4_failed_10 rfl ?_
  refine vc_getI dX4_failed_11 flX4_62 (s_22 hB1.1.1) rfl ?_
  refine vc_topI (mI M 22 9) rfl ?_
  have k2 : (-1) ≤ mI M 22 9 ∧ mI M 22 9 ≤ 300 := b22_9 (M := (sI M 22 7 w)) hB1.1
  refine vc_iaload dX4_failed_14 (s_28 hB1.1.1) (by omega) (by omega) ?_
  refine vc_topI (mI M 28 ((mI M 22 9).toNat)) rfl ?_
  refine vc_putI dX4_failed_15 (plX4_47 _ rfl) (s_22 hB1.1.1) rfl ?_
  have hB3 : BF fQ M (sI (sI M 22 7 w) 22 8 (mI M 28 ((mI M 22 9).toNat))) := BF.w22_8 hB1 rfl
  refine vc_iconst dX4_failed_18 rfl ?_
  refine vc_zret dX4_failed_19 rfl (by first | decide | omega) (Nat.le_of_ble_eq_true rfl) (Nat.le_of_ble_eq_true rfl) ?_
  have k4 : mI (sI (sI M 22 7 w) 22 8 (mI M 28 ((mI M 22 9).toNat))) 22 9 = mI M 22 9 := rfl
  have k5 : mI (sI (sI M 22 7 w) 22 8 (mI M 28 ((mI M 22 9).toNat))) 22 13 = mI M 22 13 := rfl
  exact ⟨_, rfl, hB3, by omega, by omega, by omega, by omega⟩

set_option maxRecDepth 4000 in
theorem sfX4_keep {l : Launch} {M : Mem} (hB : Box M)  (c : Int) (n : Int) (p0 : 0 ≤ c) (p1 : c ≤ 4) (p2 : 0 ≤ mI M 22 9) : Call l mdX4_keep [aR 22, aI c, aI n] M (fun q N => q = none ∧ BF fQ M N ∧ 0 ≤ mI N 22 9 ∧ mI N 22 13 = mI M 22 13) := by
  have hB0 : BF fQ M M := BF.start hB
  refine Call.of [some (aR 22), some (aI c), some (aI n), none] rfl (Nat.le_of_ble_eq_true rfl) rfl ?_
  refine vc_ok (fun hoM hoS hoL => ?_)
  have hr2 : -2147483648 ≤ n ∧ n < 2147483648 := hoL 2 _ rfl
  refine vc_iconst dX4_keep_0 rfl ?_
  refine vc_aload_n dX4_keep_1 rfl ?_
  refine vc_getI dX4_keep_2 flX4_53 (s_22 hB0.1.1) rfl ?_
  have k1 : 0 ≤ mI M 22 13 ∧ mI M 22 13 ≤ 24 := b22_13 (M := M) hB0.1
  refine vc_imulE dX4_keep_5 (by omega) (by omega) ?_
  refine vc_iload_n dX4_keep_6 rfl ?_
  refine vc_iaddE dX4_keep_7 (by omega) (by omega) ?_
  refine vc_nameI (fun x2 ex2 => ?_)
  refine vc_istore_n dX4_keep_8 (by decide) rfl (show _ = [some (aR 22), some (aI c), some (aI n), some (aI x2)] from rfl) ?_
  refine vc_iload_n dX4_keep_9 rfl ?_
  refine vc_aload_n dX4_keep_10 rfl ?_
  refine vc_getR dX4_keep_11 flX4_21 (s_22 hB0.1.1) rfl (r_22_3 hB0.1.1) ?_
  refine vc_alen dX4_keep_14 (s_25 hB0.1.1) rfl ?_
  refine vc_topI 120 rfl ?_
  refine vc_icmp_ge dX4_keep_15 (fun h3 => ?_) (fun h3 => ?_)
  · refine vc_vret dX4_keep_25 rfl (Nat.le_of_ble_eq_true rfl) (Nat.le_of_ble_eq_true rfl) ?_
    exact ⟨rfl, hB0, by omega, by omega⟩
  · refine vc_aload_n dX4_keep_18 rfl ?_
    refine vc_getR dX4_keep_19 flX4_21 (s_22 hB0.1.1) rfl (r_22_3 hB0.1.1) ?_
    refine vc_iload_n dX4_keep_22 rfl ?_
    refine vc_iload_n dX4_keep_23 rfl ?_
    refine vc_iastore dX4_keep_24 (s_25 hB0.1.1) (by omega) (by omega) ?_
    have hB4 : BF fQ M (sI M 25 x2.toNat n) := BF.w25 hB0 (fun _ => rfl) _
    refine vc_vret dX4_keep_25 rfl (Nat.le_of_ble_eq_true rfl) (Nat.le_of_ble_eq_true rfl) ?_
    have k5 : mI (sI M 25 x2.toNat n) 22 9 = mI M 22 9 := rfl
    have k6 : mI (sI M 25 x2.toNat n) 22 13 = mI M 22 13 := rfl
    exact ⟨rfl, hB4, by omega, by omega⟩

set_option maxRecDepth 4000 in
theorem sfX4_isSign {l : Launch} {M : Mem} (hB : Box M)  (s : Int)  : Call l mdX4_isSign [aR 22, aI s] M (fun q N => ∃ r : Int, q = some (aI r) ∧ M = N ∧ 0 ≤ r ∧ r ≤ 1) := by
  have hB0 : BF fQ M M := BF.start hB
  refine Call.of [some (aR 22), some (aI s)] rfl (Nat.le_of_ble_eq_true rfl) rfl ?_
  refine vc_ok (fun hoM hoS hoL => ?_)
  have hr1 : -2147483648 ≤ s ∧ s < 2147483648 := hoL 1 _ rfl
  refine vc_aload_n dX4_isSign_0 rfl ?_
  refine vc_getI dX4_isSign_1 flX4_69 (s_22 hB0.1.1) rfl ?_
  refine vc_iconst dX4_isSign_4 rfl ?_
  refine vc_icmp_ne dX4_isSign_5 (fun h1 => ?_) (fun h1 => ?_)
  · refine vc_iconst dX4_isSign_20 rfl ?_
    refine vc_zret dX4_isSign_21 rfl (by first | decide | omega) (Nat.le_of_ble_eq_true rfl) (Nat.le_of_ble_eq_true rfl) ?_
    exact ⟨_, rfl, rfl, by omega, by omega⟩
  · refine vc_aload_n dX4_isSign_8 rfl ?_
    refine vc_getI dX4_isSign_9 flX4_119 (s_22 hB0.1.1) rfl ?_
    refine vc_iload_n dX4_isSign_12 rfl ?_
    refine vc_icmp_ne dX4_isSign_13 (fun h2 => ?_) (fun h2 => ?_)
    · refine vc_iconst dX4_isSign_20 rfl ?_
      refine vc_zret dX4_isSign_21 rfl (by first | decide | omega) (Nat.le_of_ble_eq_true rfl) (Nat.le_of_ble_eq_true rfl) ?_
      exact ⟨_, rfl, rfl, by omega, by omega⟩
    · refine vc_iconst dX4_isSign_16 rfl ?_
      refine vc_goto dX4_isSign_17 ?_
      refine vc_zret dX4_isSign_21 rfl (by first | decide | omega) (Nat.le_of_ble_eq_true rfl) (Nat.le_of_ble_eq_true rfl) ?_
      exact ⟨_, rfl, rfl, by omega, by omega⟩

set_option maxRecDepth 4000 in
theorem sfX4_readNumber {l : Launch} {M : Mem} (hB : Box M)  (c : Int) (lo : Int) (hi : Int) (p0 : 0 ≤ c) (p1 : c ≤ 4) (p2 : 0 ≤ mI M 22 9) : Call l mdX4_readNumber [aR 22, aI c, aI lo, aI hi] M (fun q N => ∃ r : Int, q = some (aI r) ∧ BF fQ M N ∧ 0 ≤ r ∧ r ≤ 1 ∧ 0 ≤ mI N 22 9 ∧ mI N 22 13 = mI M 22 13) := by
  have hB0 : BF fQ M M := BF.start hB
  refine Call.of [some (aR 22), some (aI c), some (aI lo), some (aI hi)] rfl (Nat.le_of_ble_eq_true rfl) rfl ?_
  refine vc_ok (fun hoM hoS hoL => ?_)
  have hr2 : -2147483648 ≤ lo ∧ lo < 2147483648 := hoL 2 _ rfl
  have hr3 : -2147483648 ≤ hi ∧ hi < 2147483648 := hoL 3 _ rfl
  refine vc_aload_n dX4_readNumber_0 rfl ?_
  refine vc_getI dX4_readNumber_1 flX4_69 (s_22 hB0.1.1) rfl ?_
  refine vc_iconst dX4_readNumber_4 rfl ?_
  refine vc_icmp_eq dX4_readNumber_5 (fun h1 => ?_) (fun h1 => ?_)
  · refine vc_aload_n dX4_readNumber_14 rfl ?_
    refine vc_getI dX4_readNumber_15 flX4_119 (s_22 hB0.1.1) rfl ?_
    refine vc_iload_n dX4_readNumber_18 rfl ?_
    refine vc_icmp_lt dX4_readNumber_19 (fun h2 => ?_) (fun h2 => ?_)
    · refine vc_aload_n dX4_readNumber_30 rfl ?_
      refine vc_iconst dX4_readNumber_31 rfl ?_
      refine vc_cVI dX4_readNumber_32 (sfX4_failed (M := M) hB0.1  2 (by omega)) rfl okX4_failed viX4_failed lkX4_122 (s_22 hB0.1.1) cl_4 rfl (Nat.le_of_ble_eq_true rfl) ⟨rfl, rfl⟩ (Nat.le_of_ble_eq_true rfl) (Nat.le_of_ble_eq_true rfl) (Nat.le_of_ble_eq_true rfl) ?_
      rintro x3 M4 ⟨hB5, h6, h7, h8, h9⟩
      have hB10 : BF fQ M M4 := BF.go hB0 hB5
      refine vc_zret dX4_readNumber_35 rfl (by first | decide | omega) (Nat.le_of_ble_eq_true rfl) (Nat.le_of_ble_eq_true rfl) ?_
      exact ⟨_, rfl, hB10, by omega, by omega, by omega, by omega⟩
    · refine vc_aload_n dX4_readNumber_22 rfl ?_
      refine vc_getI dX4_readNumber_23 flX4_119 (s_22 hB0.1.1) rfl ?_
      refine vc_iload_n dX4_readNumber_26 rfl ?_
      refine vc_icmp_le dX4_readNumber_27 (fun h11 => ?_) (fun h11 => ?_)
      · refine vc_aload_n dX4_readNumber_36 rfl ?_
        refine vc_iload_n dX4_readNumber_37 rfl ?_
        refine vc_aload_n dX4_readNumber_38 rfl ?_
        refine vc_getI dX4_readNumber_39 flX4_119 (s_22 hB0.1.1) rfl ?_
        refine vc_cVU dX4_readNumber_42 (sfX4_keep (M := M) hB0.1  c (mI M 22 11) (by omega) (by omega) (by omega)) rfl okX4_keep viX4_keep lkX4_125 (s_22 hB0.1.1) cl_4 rfl (Nat.le_of_ble_eq_true rfl) ⟨rfl, rfl⟩ (Nat.le_of_ble_eq_true rfl) (Nat.le_of_ble_eq_true rfl) (Nat.le_of_ble_eq_true rfl) ?_
        rintro M12 ⟨hB13, h14, h15⟩
        have hB16 : BF fQ M M12 := BF.go hB0 hB13
        refine vc_aload_n dX4_readNumber_45 rfl ?_
        refine vc_cVI dX4_readNumber_46 (sfX4_takeToken (M := M12) hB16.1   ) rfl okX4_takeToken viX4_takeToken lkX4_65 (s_22 hB16.1.1) cl_4 rfl (Nat.le_of_ble_eq_true rfl) ⟨rfl, rfl⟩ (Nat.le_of_ble_eq_true rfl) (Nat.le_of_ble_eq_true rfl) (Nat.le_of_ble_eq_true rfl) ?_
        rintro x17 M18 ⟨hB19, h20, h21, h22, h23⟩
        have hB24 : BF fQ M M18 := BF.go hB16 hB19
        refine vc_zret dX4_readNumber_49 rfl (by first | decide | omega) (Nat.le_of_ble_eq_true rfl) (Nat.le_of_ble_eq_true rfl) ?_
        exact ⟨_, rfl, hB24, by omega, by omega, by omega, by omega⟩
      · refine vc_aload_n dX4_readNumber_30 rfl ?_
        refine vc_iconst dX4_readNumber_31 rfl ?_
        refine vc_cVI dX4_readNumber_32 (sfX4_failed (M := M) hB0.1  2 (by omega)) rfl okX4_failed viX4_failed lkX4_122 (s_22 hB0.1.1) cl_4 rfl (Nat.le_of_ble_eq_true rfl) ⟨rfl, rfl⟩ (Nat.le_of_ble_eq_true rfl) (Nat.le_of_ble_eq_true rfl) (Nat.le_of_ble_eq_true rfl) ?_
        rintro x25 M26 ⟨hB27, h28, h29, h30, h31⟩
        have hB32 : BF fQ M M26 := BF.go hB0 hB27
        refine vc_zret dX4_readNumber_35 rfl (by first | decide | omega) (Nat.le_of_ble_eq_true rfl) (Nat.le_of_ble_eq_true rfl) ?_
        exact ⟨_, rfl, hB32, by omega, by omega, by omega, by omega⟩
  · refine vc_aload_n dX4_readNumber_8 rfl ?_
    refine vc_iconst dX4_readNumber_9 rfl ?_
    refine vc_cVI dX4_readNumber_10 (sfX4_failed (M := M) hB0.1  1 (by omega)) rfl okX4_failed viX4_failed lkX4_122 (s_22 hB0.1.1) cl_4 rfl (Nat.le_of_ble_eq_true rfl) ⟨rfl, rfl⟩ (Nat.le_of_ble_eq_true rfl) (Nat.le_of_ble_eq_true rfl) (Nat.le_of_ble_eq_true rfl) ?_
    rintro x33 M34 ⟨hB35, h36, h37, h38, h39⟩
    have hB40 : BF fQ M M34 := BF.go hB0 hB35
    refine vc_zret dX4_readNumber_13 rfl (by first | decide | omega) (Nat.le_of_ble_eq_true rfl) (Nat.le_of_ble_eq_true rfl) ?_
    exact ⟨_, rfl, hB40, by omega, by omega, by omega, by omega⟩

set_option maxRecDepth 4000 in
theorem sfX4_readCorner {l : Launch} {M : Mem} (hB : Box M)  (c : Int) (p0 : 0 ≤ c) (p1 : c ≤ 4) (p2 : 0 ≤ mI M 22 9) : Call l mdX4_readCorner [aR 22, aI c] M (fun q N => ∃ r : Int, q = some (aI r) ∧ BF fQ M N ∧ 0 ≤ r ∧ r ≤ 1 ∧ 0 ≤ mI N 22 9 ∧ mI N 22 13 = mI M 22 13) := by
  have hB0 : BF fQ M M := BF.start hB
  refine Call.of [some (aR 22), some (aI c)] rfl (Nat.le_of_ble_eq_true rfl) rfl ?_
  refine vc_aload_n dX4_readCorner_0 rfl ?_
  refine vc_iload_n dX4_readCorner_1 rfl ?_
  refine vc_iconst dX4_readCorner_2 rfl ?_
  refine vc_bipush dX4_readCorner_3 rfl ?_
  refine vc_cVI dX4_readCorner_5 (sfX4_readNumber (M := M) hB0.1  c 0 15 (by omega) (by omega) (by omega)) rfl okX4_readNumber viX4_readNumber lkX4_144 (s_22 hB0.1.1) cl_4 rfl (Nat.le_of_ble_eq_true rfl) ⟨rfl, rfl⟩ (Nat.le_of_ble_eq_true rfl) (Nat.le_of_ble_eq_true rfl) (Nat.le_of_ble_eq_true rfl) ?_
  rintro x1 M2 ⟨hB3, h4, h5, h6, h7⟩
  have hB8 : BF fQ M M2 := BF.go hB0 hB3
  refine vc_zret dX4_readCorner_8 rfl (by first | decide | omega) (Nat.le_of_ble_eq_true rfl) (Nat.le_of_ble_eq_true rfl) ?_
  exact ⟨_, rfl, hB8, by omega, by omega, by omega, by omega⟩

set_option maxRecDepth 4000 in
theorem sfX4_readWord {l : Launch} {M : Mem} (hB : Box M)  (w : Int) (p0 : 0 ≤ mI M 22 9) : Call l mdX4_readWord [aR 22, aI w] M (fun q N => ∃ r : Int, q = some (aI r) ∧ BF fQ M N ∧ 0 ≤ r ∧ r ≤ 1 ∧ 0 ≤ mI N 22 9 ∧ mI N 22 13 = mI M 22 13) := by
  have hB0 : BF fQ M M := BF.start hB
  refine Call.of [some (aR 22), some (aI w)] rfl (Nat.le_of_ble_eq_true rfl) rfl ?_
  refine vc_ok (fun hoM hoS hoL => ?_)
  have hr1 : -2147483648 ≤ w ∧ w < 2147483648 := hoL 1 _ rfl
  refine vc_aload_n dX4_readWord_0 rfl ?_
  refine vc_getI dX4_readWord_1 flX4_69 (s_22 hB0.1.1) rfl ?_
  refine vc_iconst dX4_readWord_4 rfl ?_
  refine vc_icmp_ne dX4_readWord_5 (fun h1 => ?_) (fun h1 => ?_)
  · refine vc_aload_n dX4_readWord_16 rfl ?_
    refine vc_iconst dX4_readWord_17 rfl ?_
    refine vc_cVI dX4_readWord_18 (sfX4_failed (M := M) hB0.1  1 (by omega)) rfl okX4_failed viX4_failed lkX4_122 (s_22 hB0.1.1) cl_4 rfl (Nat.le_of_ble_eq_true rfl) ⟨rfl, rfl⟩ (Nat.le_of_ble_eq_true rfl) (Nat.le_of_ble_eq_true rfl) (Nat.le_of_ble_eq_true rfl) ?_
    rintro x2 M3 ⟨hB4, h5, h6, h7, h8⟩
    have hB9 : BF fQ M M3 := BF.go hB0 hB4
    refine vc_zret dX4_readWord_21 rfl (by first | decide | omega) (Nat.le_of_ble_eq_true rfl) (Nat.le_of_ble_eq_true rfl) ?_
    exact ⟨_, rfl, hB9, by omega, by omega, by omega, by omega⟩
  · refine vc_aload_n dX4_readWord_8 rfl ?_
    refine vc_getI dX4_readWord_9 flX4_119 (s_22 hB0.1.1) rfl ?_
    refine vc_iload_n dX4_readWord_12 rfl ?_
    refine vc_icmp_eq dX4_readWord_13 (fun h10 => ?_) (fun h10 => ?_)
    · refine vc_aload_n dX4_readWord_22 rfl ?_
      refine vc_cVI dX4_readWord_23 (sfX4_takeToken (M := M) hB0.1   ) rfl okX4_takeToken viX4_takeToken lkX4_65 (s_22 hB0.1.1) cl_4 rfl (Nat.le_of_ble_eq_true rfl) ⟨rfl, rfl⟩ (Nat.le_of_ble_eq_true rfl) (Nat.le_of_ble_eq_true rfl) (Nat.le_of_ble_eq_true rfl) ?_
      rintro x11 M12 ⟨hB13, h14, h15, h16, h17⟩
      have hB18 : BF fQ M M12 := BF.go hB0 hB13
      refine vc_zret dX4_readWord_26 rfl (by first | decide | omega) (Nat.le_of_ble_eq_true rfl) (Nat.le_of_ble_eq_true rfl) ?_
      exact ⟨_, rfl, hB18, by omega, by omega, by omega, by omega⟩
    · refine vc_aload_n dX4_readWord_16 rfl ?_
      refine vc_iconst dX4_readWord_17 rfl ?_
      refine vc_cVI dX4_readWord_18 (sfX4_failed (M := M) hB0.1  1 (by omega)) rfl okX4_failed viX4_failed lkX4_122 (s_22 hB0.1.1) cl_4 rfl (Nat.le_of_ble_eq_true rfl) ⟨rfl, rfl⟩ (Nat.le_of_ble_eq_true rfl) (Nat.le_of_ble_eq_true rfl) (Nat.le_of_ble_eq_true rfl) ?_
      rintro x19 M20 ⟨hB21, h22, h23, h24, h25⟩
      have hB26 : BF fQ M M20 := BF.go hB0 hB21
      refine vc_zret dX4_readWord_21 rfl (by first | decide | omega) (Nat.le_of_ble_eq_true rfl) (Nat.le_of_ble_eq_true rfl) ?_
      exact ⟨_, rfl, hB26, by omega, by omega, by omega, by omega⟩

set_option maxRecDepth 4000 in
theorem sfX4_readSign {l : Launch} {M : Mem} (hB : Box M)  (s : Int) (p0 : 0 ≤ mI M 22 9) : Call l mdX4_readSign [aR 22, aI s] M (fun q N => ∃ r : Int, q = some (aI r) ∧ BF fQ M N ∧ 0 ≤ r ∧ r ≤ 1 ∧ 0 ≤ mI N 22 9 ∧ mI N 22 13 = mI M 22 13) := by
  have hB0 : BF fQ M M := BF.start hB
  refine Call.of [some (aR 22), some (aI s)] rfl (Nat.le_of_ble_eq_true rfl) rfl ?_
  refine vc_ok (fun hoM hoS hoL => ?_)
  have hr1 : -2147483648 ≤ s ∧ s < 2147483648 := hoL 1 _ rfl
  refine vc_aload_n dX4_readSign_0 rfl ?_
  refine vc_iload_n dX4_readSign_1 rfl ?_
  refine vc_cVI dX4_readSign_2 (sfX4_isSign (M := M) hB0.1  s ) rfl okX4_isSign viX4_isSign lkX4_163 (s_22 hB0.1.1) cl_4 rfl (Nat.le_of_ble_eq_true rfl) ⟨rfl, rfl⟩ (Nat.le_of_ble_eq_true rfl) (Nat.le_of_ble_eq_true rfl) (Nat.le_of_ble_eq_true rfl) ?_
  rintro x1 _ ⟨rfl, h2, h3⟩
  refine vc_if_ne dX4_readSign_5 (fun h4 => ?_) (fun h4 => ?_)
  · refine vc_aload_n dX4_readSign_14 rfl ?_
    refine vc_cVI dX4_readSign_15 (sfX4_takeToken (M := M) hB0.1   ) rfl okX4_takeToken viX4_takeToken lkX4_65 (s_22 hB0.1.1) cl_4 rfl (Nat.le_of_ble_eq_true rfl) ⟨rfl, rfl⟩ (Nat.le_of_ble_eq_true rfl) (Nat.le_of_ble_eq_true rfl) (Nat.le_of_ble_eq_true rfl) ?_
    rintro x5 M6 ⟨hB7, h8, h9, h10, h11⟩
    have hB12 : BF fQ M M6 := BF.go hB0 hB7
    refine vc_zret dX4_readSign_18 rfl (by first | decide | omega) (Nat.le_of_ble_eq_true rfl) (Nat.le_of_ble_eq_true rfl) ?_
    exact ⟨_, rfl, hB12, by omega, by omega, by omega, by omega⟩
  · refine vc_aload_n dX4_readSign_8 rfl ?_
    refine vc_iconst dX4_readSign_9 rfl ?_
    refine vc_cVI dX4_readSign_10 (sfX4_failed (M := M) hB0.1  1 (by omega)) rfl okX4_failed viX4_failed lkX4_122 (s_22 hB0.1.1) cl_4 rfl (Nat.le_of_ble_eq_true rfl) ⟨rfl, rfl⟩ (Nat.le_of_ble_eq_true rfl) (Nat.le_of_ble_eq_true rfl) (Nat.le_of_ble_eq_true rfl) ?_
    rintro x13 M14 ⟨hB15, h16, h17, h18, h19⟩
    have hB20 : BF fQ M M14 := BF.go hB0 hB15
    refine vc_zret dX4_readSign_13 rfl (by first | decide | omega) (Nat.le_of_ble_eq_true rfl) (Nat.le_of_ble_eq_true rfl) ?_
    exact ⟨_, rfl, hB20, by omega, by omega, by omega, by omega⟩

set_option maxRecDepth 4000 in
theorem sfX4_readFacing {l : Launch} {M : Mem} (hB : Box M)   (p0 : 0 ≤ mI M 22 9) : Call l mdX4_readFacing [aR 22] M (fun q N => ∃ r : Int, q = some (aI r) ∧ BF fQ M N ∧ 0 ≤ r ∧ r ≤ 1 ∧ 0 ≤ mI N 22 9 ∧ mI N 22 13 = mI M 22 13) := by
  have hB0 : BF fQ M M := BF.start hB
  refine Call.of [some (aR 22)] rfl (Nat.le_of_ble_eq_true rfl) rfl ?_
  refine vc_aload_n dX4_readFacing_0 rfl ?_
  refine vc_bipush dX4_readFacing_1 rfl ?_
  refine vc_cVI dX4_readFacing_3 (sfX4_readWord (M := M) hB0.1  17 (by omega)) rfl okX4_readWord viX4_readWord lkX4_151 (s_22 hB0.1.1) cl_4 rfl (Nat.le_of_ble_eq_true rfl) ⟨rfl, rfl⟩ (Nat.le_of_ble_eq_true rfl) (Nat.le_of_ble_eq_true rfl) (Nat.le_of_ble_eq_true rfl) ?_
  rintro x1 M2 ⟨hB3, h4, h5, h6, h7⟩
  have hB8 : BF fQ M M2 := BF.go hB0 hB3
  refine vc_if_eq dX4_readFacing_6 (fun h9 => ?_) (fun h9 => ?_)
  · refine vc_iconst dX4_readFacing_23 rfl ?_
    refine vc_zret dX4_readFacing_24 rfl (by first | decide | omega) (Nat.le_of_ble_eq_true rfl) (Nat.le_of_ble_eq_true rfl) ?_
    exact ⟨_, rfl, hB8, by omega, by omega, by omega, by omega⟩
  · refine vc_aload_n dX4_readFacing_9 rfl ?_
    refine vc_iconst dX4_readFacing_10 rfl ?_
    refine vc_iconst dX4_readFacing_11 rfl ?_
    refine vc_iconst dX4_readFacing_12 rfl ?_
    refine vc_cVI dX4_readFacing_13 (sfX4_readNumber (M := M2) hB8.1  2 0 3 (by omega) (by omega) (by omega)) rfl okX4_readNumber viX4_readNumber lkX4_144 (s_22 hB8.1.1) cl_4 rfl (Nat.le_of_ble_eq_true rfl) ⟨rfl, rfl⟩ (Nat.le_of_ble_eq_true rfl) (Nat.le_of_ble_eq_true rfl) (Nat.le_of_ble_eq_true rfl) ?_
    rintro x10 M11 ⟨hB12, h13, h14, h15, h16⟩
    have hB17 : BF fQ M M11 := BF.go hB8 hB12
    refine vc_if_eq dX4_readFacing_16 (fun h18 => ?_) (fun h18 => ?_)
    · refine vc_iconst dX4_readFacing_23 rfl ?_
      refine vc_zret dX4_readFacing_24 rfl (by first | decide | omega) (Nat.le_of_ble_eq_true rfl) (Nat.le_of_ble_eq_true rfl) ?_
      exact ⟨_, rfl, hB17, by omega, by omega, by omega, by omega⟩
    · refine vc_iconst dX4_readFacing_19 rfl ?_
      refine vc_goto dX4_readFacing_20 ?_
      refine vc_zret dX4_readFacing_24 rfl (by first | decide | omega) (Nat.le_of_ble_eq_true rfl) (Nat.le_of_ble_eq_true rfl) ?_
      exact ⟨_, rfl, hB17, by omega, by omega, by omega, by omega⟩

set_option maxRecDepth 4000 in
theorem sfX4_readSideTo {l : Launch} {M : Mem} (hB : Box M)  (c : Int) (p0 : 0 ≤ c) (p1 : c ≤ 4) (p2 : 0 ≤ mI M 22 9) : Call l mdX4_readSideTo [aR 22, aI c] M (fun q N => ∃ r : Int, q = some (aI r) ∧ BF fQ M N ∧ 0 ≤ r ∧ r ≤ 1 ∧ 0 ≤ mI N 22 9 ∧ mI N 22 13 = mI M 22 13) := by
  have hB0 : BF fQ M M := BF.start hB
  refine Call.of [some (aR 22), some (aI c)] rfl (Nat.le_of_ble_eq_true rfl) rfl ?_
  refine vc_aload_n dX4_readSideTo_0 rfl ?_
  refine vc_getI dX4_readSideTo_1 flX4_69 (s_22 hB0.1.1) rfl ?_
  refine vc_iconst dX4_readSideTo_4 rfl ?_
  refine vc_icmp_ne dX4_readSideTo_5 (fun h1 => ?_) (fun h1 => ?_)
  · refine vc_aload_n dX4_readSideTo_35 rfl ?_
    refine vc_iconst dX4_readSideTo_36 rfl ?_
    refine vc_cVI dX4_readSideTo_37 (sfX4_failed (M := M) hB0.1  1 (by omega)) rfl okX4_failed viX4_failed lkX4_122 (s_22 hB0.1.1) cl_4 rfl (Nat.le_of_ble_eq_true rfl) ⟨rfl, rfl⟩ (Nat.le_of_ble_eq_true rfl) (Nat.le_of_ble_eq_true rfl) (Nat.le_of_ble_eq_true rfl) ?_
    rintro x2 M3 ⟨hB4, h5, h6, h7, h8⟩
    have hB9 : BF fQ M M3 := BF.go hB0 hB4
    refine vc_zret dX4_readSideTo_40 rfl (by first | decide | omega) (Nat.le_of_ble_eq_true rfl) (Nat.le_of_ble_eq_true rfl) ?_
    exact ⟨_, rfl, hB9, by omega, by omega, by omega, by omega⟩
  · refine vc_aload_n dX4_readSideTo_8 rfl ?_
    refine vc_getI dX4_readSideTo_9 flX4_119 (s_22 hB0.1.1) rfl ?_
    refine vc_bipush dX4_readSideTo_12 rfl ?_
    refine vc_icmp_lt dX4_readSideTo_14 (fun h10 => ?_) (fun h10 => ?_)
    · refine vc_aload_n dX4_readSideTo_35 rfl ?_
      refine vc_iconst dX4_readSideTo_36 rfl ?_
      refine vc_cVI dX4_readSideTo_37 (sfX4_failed (M := M) hB0.1  1 (by omega)) rfl okX4_failed viX4_failed lkX4_122 (s_22 hB0.1.1) cl_4 rfl (Nat.le_of_ble_eq_true rfl) ⟨rfl, rfl⟩ (Nat.le_of_ble_eq_true rfl) (Nat.le_of_ble_eq_true rfl) (Nat.le_of_ble_eq_true rfl) ?_
      rintro x11 M12 ⟨hB13, h14, h15, h16, h17⟩
      have hB18 : BF fQ M M12 := BF.go hB0 hB13
      refine vc_zret dX4_readSideTo_40 rfl (by first | decide | omega) (Nat.le_of_ble_eq_true rfl) (Nat.le_of_ble_eq_true rfl) ?_
      exact ⟨_, rfl, hB18, by omega, by omega, by omega, by omega⟩
    · refine vc_aload_n dX4_readSideTo_17 rfl ?_
      refine vc_getI dX4_readSideTo_18 flX4_119 (s_22 hB0.1.1) rfl ?_
      refine vc_bipush dX4_readSideTo_21 rfl ?_
      refine vc_icmp_gt dX4_readSideTo_23 (fun h19 => ?_) (fun h19 => ?_)
      · refine vc_aload_n dX4_readSideTo_35 rfl ?_
        refine vc_iconst dX4_readSideTo_36 rfl ?_
        refine vc_cVI dX4_readSideTo_37 (sfX4_failed (M := M) hB0.1  1 (by omega)) rfl okX4_failed viX4_failed lkX4_122 (s_22 hB0.1.1) cl_4 rfl (Nat.le_of_ble_eq_true rfl) ⟨rfl, rfl⟩ (Nat.le_of_ble_eq_true rfl) (Nat.le_of_ble_eq_true rfl) (Nat.le_of_ble_eq_true rfl) ?_
        rintro x20 M21 ⟨hB22, h23, h24, h25, h26⟩
        have hB27 : BF fQ M M21 := BF.go hB0 hB22
        refine vc_zret dX4_readSideTo_40 rfl (by first | decide | omega) (Nat.le_of_ble_eq_true rfl) (Nat.le_of_ble_eq_true rfl) ?_
        exact ⟨_, rfl, hB27, by omega, by omega, by omega, by omega⟩
      · refine vc_aload_n dX4_readSideTo_26 rfl ?_
        refine vc_getI dX4_readSideTo_27 flX4_119 (s_22 hB0.1.1) rfl ?_
        refine vc_bipush dX4_readSideTo_30 rfl ?_
        refine vc_icmp_ne dX4_readSideTo_32 (fun h28 => ?_) (fun h28 => ?_)
        · refine vc_aload_n dX4_readSideTo_41 rfl ?_
          refine vc_iload_n dX4_readSideTo_42 rfl ?_
          refine vc_aload_n dX4_readSideTo_43 rfl ?_
          refine vc_getI dX4_readSideTo_44 flX4_119 (s_22 hB0.1.1) rfl ?_
          refine vc_bipush dX4_readSideTo_47 rfl ?_
          refine vc_icmp_ne dX4_readSideTo_49 (fun h29 => ?_) (fun h29 => ?_)
          · refine vc_aload_n dX4_readSideTo_56 rfl ?_
            refine vc_getI dX4_readSideTo_57 flX4_119 (s_22 hB0.1.1) rfl ?_
            refine vc_bipush dX4_readSideTo_60 rfl ?_
            refine vc_isubE dX4_readSideTo_62 (by omega) (by omega) ?_
            refine vc_iconst dX4_readSideTo_63 rfl ?_
            refine vc_iaddE dX4_readSideTo_64 (by omega) (by omega) ?_
            refine vc_cVU dX4_readSideTo_65 (sfX4_keep (M := M) hB0.1  c (((mI M 22 11) - 23) + 1) (by omega) (by omega) (by omega)) rfl okX4_keep viX4_keep lkX4_125 (s_22 hB0.1.1) cl_4 rfl (Nat.le_of_ble_eq_true rfl) ⟨rfl, rfl⟩ (Nat.le_of_ble_eq_true rfl) (Nat.le_of_ble_eq_true rfl) (Nat.le_of_ble_eq_true rfl) ?_
            rintro M30 ⟨hB31, h32, h33⟩
            have hB34 : BF fQ M M30 := BF.go hB0 hB31
            refine vc_aload_n dX4_readSideTo_68 rfl ?_
            refine vc_cVI dX4_readSideTo_69 (sfX4_takeToken (M := M30) hB34.1   ) rfl okX4_takeToken viX4_takeToken lkX4_65 (s_22 hB34.1.1) cl_4 rfl (Nat.le_of_ble_eq_true rfl) ⟨rfl, rfl⟩ (Nat.le_of_ble_eq_true rfl) (Nat.le_of_ble_eq_true rfl) (Nat.le_of_ble_eq_true rfl) ?_
            rintro x35 M36 ⟨hB37, h38, h39, h40, h41⟩
            have hB42 : BF fQ M M36 := BF.go hB34 hB37
            refine vc_zret dX4_readSideTo_72 rfl (by first | decide | omega) (Nat.le_of_ble_eq_true rfl) (Nat.le_of_ble_eq_true rfl) ?_
            exact ⟨_, rfl, hB42, by omega, by omega, by omega, by omega⟩
          · refine vc_iconst dX4_readSideTo_52 rfl ?_
            refine vc_goto dX4_readSideTo_53 ?_
            refine vc_cVU dX4_readSideTo_65 (sfX4_keep (M := M) hB0.1  c 3 (by omega) (by omega) (by omega)) rfl okX4_keep viX4_keep lkX4_125 (s_22 hB0.1.1) cl_4 rfl (Nat.le_of_ble_eq_true rfl) ⟨rfl, rfl⟩ (Nat.le_of_ble_eq_true rfl) (Nat.le_of_ble_eq_true rfl) (Nat.le_of_ble_eq_true rfl) ?_
            rintro M43 ⟨hB44, h45, h46⟩
            have hB47 : BF fQ M M43 := BF.go hB0 hB44
            refine vc_aload_n dX4_readSideTo_68 rfl ?_
            refine vc_cVI dX4_readSideTo_69 (sfX4_takeToken (M := M43) hB47.1   ) rfl okX4_takeToken viX4_takeToken lkX4_65 (s_22 hB47.1.1) cl_4 rfl (Nat.le_of_ble_eq_true rfl) ⟨rfl, rfl⟩ (Nat.le_of_ble_eq_true rfl) (Nat.le_of_ble_eq_true rfl) (Nat.le_of_ble_eq_true rfl) ?_
            rintro x48 M49 ⟨hB50, h51, h52, h53, h54⟩
            have hB55 : BF fQ M M49 := BF.go hB47 hB50
            refine vc_zret dX4_readSideTo_72 rfl (by first | decide | omega) (Nat.le_of_ble_eq_true rfl) (Nat.le_of_ble_eq_true rfl) ?_
            exact ⟨_, rfl, hB55, by omega, by omega, by omega, by omega⟩
        · refine vc_aload_n dX4_readSideTo_35 rfl ?_
          refine vc_iconst dX4_readSideTo_36 rfl ?_
          refine vc_cVI dX4_readSideTo_37 (sfX4_failed (M := M) hB0.1  1 (by omega)) rfl okX4_failed viX4_failed lkX4_122 (s_22 hB0.1.1) cl_4 rfl (Nat.le_of_ble_eq_true rfl) ⟨rfl, rfl⟩ (Nat.le_of_ble_eq_true rfl) (Nat.le_of_ble_eq_true rfl) (Nat.le_of_ble_eq_true rfl) ?_
          rintro x56 M57 ⟨hB58, h59, h60, h61, h62⟩
          have hB63 : BF fQ M M57 := BF.go hB0 hB58
          refine vc_zret dX4_readSideTo_40 rfl (by first | decide | omega) (Nat.le_of_ble_eq_true rfl) (Nat.le_of_ble_eq_true rfl) ?_
          exact ⟨_, rfl, hB63, by omega, by omega, by omega, by omega⟩

set_option maxRecDepth 4000 in
theorem sfX4_readTurn {l : Launch} {M : Mem} (hB : Box M)  (i : Int) (p0 : 0 ≤ mI M 22 9) : Call l mdX4_readTurn [aR 22, aI i] M (fun q N => ∃ r : Int, q = some (aI r) ∧ BF fQ M N ∧ 0 ≤ mI N 22 9 ∧ mI N 22 13 = mI M 22 13) := by
  have hB0 : BF fQ M M := BF.start hB
  refine Call.of [some (aR 22), some (aI i), none, none, none] rfl (Nat.le_of_ble_eq_true rfl) rfl ?_
  refine vc_ok (fun hoM hoS hoL => ?_)
  have hr1 : -2147483648 ≤ i ∧ i < 2147483648 := hoL 1 _ rfl
  refine vc_aload_n dX4_readTurn_0 rfl ?_
  refine vc_getI dX4_readTurn_1 flX4_69 (s_22 hB0.1.1) rfl ?_
  refine vc_iconst dX4_readTurn_4 rfl ?_
  refine vc_icmp_ne dX4_readTurn_5 (fun h1 => ?_) (fun h1 => ?_)
  · refine vc_iconst dX4_readTurn_21 rfl ?_
    refine vc_istore_n dX4_readTurn_22 (by decide) rfl (show _ = [some (aR 22), some (aI i), some (aI 0), none, none] from rfl) ?_
    refine vc_iload_n dX4_readTurn_23 rfl ?_
    refine vc_if_ne dX4_readTurn_24 (fun h2 => by exfalso; omega) (fun h2 => ?_)
    refine vc_aload_n dX4_readTurn_27 rfl ?_
    refine vc_getI dX4_readTurn_28 flX4_69 (s_22 hB0.1.1) rfl ?_
    refine vc_iconst dX4_readTurn_31 rfl ?_
    refine vc_icmp_eq dX4_readTurn_32 (fun h3 => ?_) (fun h3 => ?_)
    · refine vc_iload_n dX4_readTurn_43 rfl ?_
      refine vc_if_ne dX4_readTurn_44 (fun h4 => by exfalso; omega) (fun h4 => ?_)
      refine vc_aload_n dX4_readTurn_47 rfl ?_
      refine vc_getI dX4_readTurn_48 flX4_119 (s_22 hB0.1.1) rfl ?_
      refine vc_iconst dX4_readTurn_51 rfl ?_
      refine vc_icmp_lt dX4_readTurn_52 (fun h5 => ?_) (fun h5 => ?_)
      · refine vc_aload_n dX4_readTurn_63 rfl ?_
        refine vc_iconst dX4_readTurn_64 rfl ?_
        refine vc_cVI dX4_readTurn_65 (sfX4_failed (M := M) hB0.1  2 (by omega)) rfl okX4_failed viX4_failed lkX4_122 (s_22 hB0.1.1) cl_4 rfl (Nat.le_of_ble_eq_true rfl) ⟨rfl, rfl⟩ (Nat.le_of_ble_eq_true rfl) (Nat.le_of_ble_eq_true rfl) (Nat.le_of_ble_eq_true rfl) ?_
        rintro x6 M7 ⟨hB8, h9, h10, h11, h12⟩
        have hB13 : BF fQ M M7 := BF.go hB0 hB8
        refine vc_pop dX4_readTurn_68 rfl ?_
        refine vc_iconst dX4_readTurn_69 rfl ?_
        refine vc_iret dX4_readTurn_70 rfl (Nat.le_of_ble_eq_true rfl) (Nat.le_of_ble_eq_true rfl) ?_
        exact ⟨_, rfl, hB13, by omega, by omega⟩
      · refine vc_aload_n dX4_readTurn_55 rfl ?_
        refine vc_getI dX4_readTurn_56 flX4_119 (s_22 hB0.1.1) rfl ?_
        refine vc_iconst dX4_readTurn_59 rfl ?_
        refine vc_icmp_le dX4_readTurn_60 (fun h14 => ?_) (fun h14 => ?_)
        · refine vc_iload_n dX4_readTurn_71 rfl ?_
          refine vc_bipush dX4_readTurn_72 rfl ?_
          refine vc_icmp_lt dX4_readTurn_74 (fun h15 => ?_) (fun h15 => ?_)
          · refine vc_iload_n dX4_readTurn_86 rfl ?_
            refine vc_if_eq dX4_readTurn_87 (fun h16 => ?_) (fun h16 => by exfalso; omega)
            refine vc_aload_n dX4_readTurn_95 rfl ?_
            refine vc_getI dX4_readTurn_96 flX4_119 (s_22 hB0.1.1) rfl ?_
            refine vc_nameI (fun x17 ex17 => ?_)
            refine vc_istore_n dX4_readTurn_99 (by decide) rfl (show _ = [some (aR 22), some (aI i), some (aI 0), some (aI x17), none] from rfl) ?_
            refine vc_aload_n dX4_readTurn_100 rfl ?_
            refine vc_iconst dX4_readTurn_101 rfl ?_
            refine vc_iconst dX4_readTurn_102 rfl ?_
            refine vc_iconst dX4_readTurn_103 rfl ?_
            refine vc_cVI dX4_readTurn_104 (sfX4_readNumber (M := M) hB0.1  3 1 5 (by omega) (by omega) (by omega)) rfl okX4_readNumber viX4_readNumber lkX4_144 (s_22 hB0.1.1) cl_4 rfl (Nat.le_of_ble_eq_true rfl) ⟨rfl, rfl⟩ (Nat.le_of_ble_eq_true rfl) (Nat.le_of_ble_eq_true rfl) (Nat.le_of_ble_eq_true rfl) ?_
            rintro x18 M19 ⟨hB20, h21, h22, h23, h24⟩
            have hB25 : BF fQ M M19 := BF.go hB0 hB20
            refine vc_if_ne dX4_readTurn_107 (fun h26 => ?_) (fun h26 => ?_)
            · refine vc_aload_n dX4_readTurn_112 rfl ?_
              refine vc_getI dX4_readTurn_113 flX4_69 (s_22 hB25.1.1) rfl ?_
              refine vc_iconst dX4_readTurn_116 rfl ?_
              refine vc_icmp_ne dX4_readTurn_117 (fun h27 => ?_) (fun h27 => ?_)
              · refine vc_aload_n dX4_readTurn_138 rfl ?_
                refine vc_iconst dX4_readTurn_139 rfl ?_
                refine vc_cVI dX4_readTurn_140 (sfX4_failed (M := M19) hB25.1  1 (by omega)) rfl okX4_failed viX4_failed lkX4_122 (s_22 hB25.1.1) cl_4 rfl (Nat.le_of_ble_eq_true rfl) ⟨rfl, rfl⟩ (Nat.le_of_ble_eq_true rfl) (Nat.le_of_ble_eq_true rfl) (Nat.le_of_ble_eq_true rfl) ?_
                rintro x28 M29 ⟨hB30, h31, h32, h33, h34⟩
                have hB35 : BF fQ M M29 := BF.go hB25 hB30
                refine vc_pop dX4_readTurn_143 rfl ?_
                refine vc_iconst dX4_readTurn_144 rfl ?_
                refine vc_iret dX4_readTurn_145 rfl (Nat.le_of_ble_eq_true rfl) (Nat.le_of_ble_eq_true rfl) ?_
                exact ⟨_, rfl, hB35, by omega, by omega⟩
              · refine vc_aload_n dX4_readTurn_120 rfl ?_
                refine vc_getI dX4_readTurn_121 flX4_119 (s_22 hB25.1.1) rfl ?_
                refine vc_bipush dX4_readTurn_124 rfl ?_
                refine vc_icmp_lt dX4_readTurn_126 (fun h36 => ?_) (fun h36 => ?_)
                · refine vc_aload_n dX4_readTurn_138 rfl ?_
                  refine vc_iconst dX4_readTurn_139 rfl ?_
                  refine vc_cVI dX4_readTurn_140 (sfX4_failed (M := M19) hB25.1  1 (by omega)) rfl okX4_failed viX4_failed lkX4_122 (s_22 hB25.1.1) cl_4 rfl (Nat.le_of_ble_eq_true rfl) ⟨rfl, rfl⟩ (Nat.le_of_ble_eq_true rfl) (Nat.le_of_ble_eq_true rfl) (Nat.le_of_ble_eq_true rfl) ?_
                  rintro x37 M38 ⟨hB39, h40, h41, h42, h43⟩
                  have hB44 : BF fQ M M38 := BF.go hB25 hB39
                  refine vc_pop dX4_readTurn_143 rfl ?_
                  refine vc_iconst dX4_readTurn_144 rfl ?_
                  refine vc_iret dX4_readTurn_145 rfl (Nat.le_of_ble_eq_true rfl) (Nat.le_of_ble_eq_true rfl) ?_
                  exact ⟨_, rfl, hB44, by omega, by omega⟩
                · refine vc_aload_n dX4_readTurn_129 rfl ?_
                  refine vc_getI dX4_readTurn_130 flX4_119 (s_22 hB25.1.1) rfl ?_
                  refine vc_bipush dX4_readTurn_133 rfl ?_
                  refine vc_icmp_le dX4_readTurn_135 (fun h45 => ?_) (fun h45 => ?_)
                  · refine vc_bipush dX4_readTurn_146 rfl ?_
                    refine vc_aload_n dX4_readTurn_148 rfl ?_
                    refine vc_getI dX4_readTurn_149 flX4_119 (s_22 hB25.1.1) rfl ?_
                    refine vc_bipush dX4_readTurn_152 rfl ?_
                    refine vc_isubE dX4_readTurn_154 (by omega) (by omega) ?_
                    refine vc_iconst dX4_readTurn_155 rfl ?_
                    refine vc_iaddE dX4_readTurn_156 (by omega) (by omega) ?_
                    refine vc_imulE dX4_readTurn_157 (by omega) (by omega) ?_
                    refine vc_iload_n dX4_readTurn_158 rfl ?_
                    refine vc_if_eq dX4_readTurn_159 (fun h46 => ?_) (fun h46 => by exfalso; omega)
                    refine vc_iconst dX4_readTurn_167 rfl ?_
                    refine vc_iaddE dX4_readTurn_168 (by omega) (by omega) ?_
                    refine vc_iload_n dX4_readTurn_169 rfl ?_
                    refine vc_iaddE dX4_readTurn_170 (by omega) (by omega) ?_
                    refine vc_nameI (fun x47 ex47 => ?_)
                    refine vc_istore dX4_readTurn_171 (by decide) rfl (show _ = [some (aR 22), some (aI i), some (aI 0), some (aI x17), some (aI x47)] from rfl) ?_
                    refine vc_aload_n dX4_readTurn_173 rfl ?_
                    refine vc_cVI dX4_readTurn_174 (sfX4_takeToken (M := M19) hB25.1   ) rfl okX4_takeToken viX4_takeToken lkX4_65 (s_22 hB25.1.1) cl_4 rfl (Nat.le_of_ble_eq_true rfl) ⟨rfl, rfl⟩ (Nat.le_of_ble_eq_true rfl) (Nat.le_of_ble_eq_true rfl) (Nat.le_of_ble_eq_true rfl) ?_
                    rintro x48 M49 ⟨hB50, h51, h52, h53, h54⟩
                    have hB55 : BF fQ M M49 := BF.go hB25 hB50
                    refine vc_pop dX4_readTurn_177 rfl ?_
                    refine vc_iload dX4_readTurn_178 rfl ?_
                    refine vc_iret dX4_readTurn_180 rfl (Nat.le_of_ble_eq_true rfl) (Nat.le_of_ble_eq_true rfl) ?_
                    exact ⟨_, rfl, hB55, by omega, by omega⟩
                  · refine vc_aload_n dX4_readTurn_138 rfl ?_
                    refine vc_iconst dX4_readTurn_139 rfl ?_
                    refine vc_cVI dX4_readTurn_140 (sfX4_failed (M := M19) hB25.1  1 (by omega)) rfl okX4_failed viX4_failed lkX4_122 (s_22 hB25.1.1) cl_4 rfl (Nat.le_of_ble_eq_true rfl) ⟨rfl, rfl⟩ (Nat.le_of_ble_eq_true rfl) (Nat.le_of_ble_eq_true rfl) (Nat.le_of_ble_eq_true rfl) ?_
                    rintro x56 M57 ⟨hB58, h59, h60, h61, h62⟩
                    have hB63 : BF fQ M M57 := BF.go hB25 hB58
                    refine vc_pop dX4_readTurn_143 rfl ?_
                    refine vc_iconst dX4_readTurn_144 rfl ?_
                    refine vc_iret dX4_readTurn_145 rfl (Nat.le_of_ble_eq_true rfl) (Nat.le_of_ble_eq_true rfl) ?_
                    exact ⟨_, rfl, hB63, by omega, by omega⟩
            · refine vc_iconst dX4_readTurn_110 rfl ?_
              refine vc_iret dX4_readTurn_111 rfl (Nat.le_of_ble_eq_true rfl) (Nat.le_of_ble_eq_true rfl) ?_
              exact ⟨_, rfl, hB25, by omega, by omega⟩
          · refine vc_aload_n dX4_readTurn_77 rfl ?_
            refine vc_bipush dX4_readTurn_78 rfl ?_
            refine vc_cVI dX4_readTurn_80 (sfX4_failed (M := M) hB0.1  7 (by omega)) rfl okX4_failed viX4_failed lkX4_122 (s_22 hB0.1.1) cl_4 rfl (Nat.le_of_ble_eq_true rfl) ⟨rfl, rfl⟩ (Nat.le_of_ble_eq_true rfl) (Nat.le_of_ble_eq_true rfl) (Nat.le_of_ble_eq_true rfl) ?_
            rintro x64 M65 ⟨hB66, h67, h68, h69, h70⟩
            have hB71 : BF fQ M M65 := BF.go hB0 hB66
            refine vc_pop dX4_readTurn_83 rfl ?_
            refine vc_iconst dX4_readTurn_84 rfl ?_
            refine vc_iret dX4_readTurn_85 rfl (Nat.le_of_ble_eq_true rfl) (Nat.le_of_ble_eq_true rfl) ?_
            exact ⟨_, rfl, hB71, by omega, by omega⟩
        · refine vc_aload_n dX4_readTurn_63 rfl ?_
          refine vc_iconst dX4_readTurn_64 rfl ?_
          refine vc_cVI dX4_readTurn_65 (sfX4_failed (M := M) hB0.1  2 (by omega)) rfl okX4_failed viX4_failed lkX4_122 (s_22 hB0.1.1) cl_4 rfl (Nat.le_of_ble_eq_true rfl) ⟨rfl, rfl⟩ (Nat.le_of_ble_eq_true rfl) (Nat.le_of_ble_eq_true rfl) (Nat.le_of_ble_eq_true rfl) ?_
          rintro x72 M73 ⟨hB74, h75, h76, h77, h78⟩
          have hB79 : BF fQ M M73 := BF.go hB0 hB74
          refine vc_pop dX4_readTurn_68 rfl ?_
          refine vc_iconst dX4_readTurn_69 rfl ?_
          refine vc_iret dX4_readTurn_70 rfl (Nat.le_of_ble_eq_true rfl) (Nat.le_of_ble_eq_true rfl) ?_
          exact ⟨_, rfl, hB79, by omega, by omega⟩
    · refine vc_aload_n dX4_readTurn_35 rfl ?_
      refine vc_iconst dX4_readTurn_36 rfl ?_
      refine vc_cVI dX4_readTurn_37 (sfX4_failed (M := M) hB0.1  1 (by omega)) rfl okX4_failed viX4_failed lkX4_122 (s_22 hB0.1.1) cl_4 rfl (Nat.le_of_ble_eq_true rfl) ⟨rfl, rfl⟩ (Nat.le_of_ble_eq_true rfl) (Nat.le_of_ble_eq_true rfl) (Nat.le_of_ble_eq_true rfl) ?_
      rintro x80 M81 ⟨hB82, h83, h84, h85, h86⟩
      have hB87 : BF fQ M M81 := BF.go hB0 hB82
      refine vc_pop dX4_readTurn_40 rfl ?_
      refine vc_iconst dX4_readTurn_41 rfl ?_
      refine vc_iret dX4_readTurn_42 rfl (Nat.le_of_ble_eq_true rfl) (Nat.le_of_ble_eq_true rfl) ?_
      exact ⟨_, rfl, hB87, by omega, by omega⟩
  · refine vc_aload_n dX4_readTurn_8 rfl ?_
    refine vc_getI dX4_readTurn_9 flX4_119 (s_22 hB0.1.1) rfl ?_
    refine vc_bipush dX4_readTurn_12 rfl ?_
    refine vc_icmp_ne dX4_readTurn_14 (fun h88 => ?_) (fun h88 => ?_)
    · refine vc_iconst dX4_readTurn_21 rfl ?_
      refine vc_istore_n dX4_readTurn_22 (by decide) rfl (show _ = [some (aR 22), some (aI i), some (aI 0), none, none] from rfl) ?_
      refine vc_iload_n dX4_readTurn_23 rfl ?_
      refine vc_if_ne dX4_readTurn_24 (fun h89 => by exfalso; omega) (fun h89 => ?_)
      refine vc_aload_n dX4_readTurn_27 rfl ?_
      refine vc_getI dX4_readTurn_28 flX4_69 (s_22 hB0.1.1) rfl ?_
      refine vc_iconst dX4_readTurn_31 rfl ?_
      refine vc_icmp_eq dX4_readTurn_32 (fun h90 => by exfalso; omega) (fun h90 => ?_)
      refine vc_aload_n dX4_readTurn_35 rfl ?_
      refine vc_iconst dX4_readTurn_36 rfl ?_
      refine vc_cVI dX4_readTurn_37 (sfX4_failed (M := M) hB0.1  1 (by omega)) rfl okX4_failed viX4_failed lkX4_122 (s_22 hB0.1.1) cl_4 rfl (Nat.le_of_ble_eq_true rfl) ⟨rfl, rfl⟩ (Nat.le_of_ble_eq_true rfl) (Nat.le_of_ble_eq_true rfl) (Nat.le_of_ble_eq_true rfl) ?_
      rintro x91 M92 ⟨hB93, h94, h95, h96, h97⟩
      have hB98 : BF fQ M M92 := BF.go hB0 hB93
      refine vc_pop dX4_readTurn_40 rfl ?_
      refine vc_iconst dX4_readTurn_41 rfl ?_
      refine vc_iret dX4_readTurn_42 rfl (Nat.le_of_ble_eq_true rfl) (Nat.le_of_ble_eq_true rfl) ?_
      exact ⟨_, rfl, hB98, by omega, by omega⟩
    · refine vc_iconst dX4_readTurn_17 rfl ?_
      refine vc_goto dX4_readTurn_18 ?_
      refine vc_istore_n dX4_readTurn_22 (by decide) rfl (show _ = [some (aR 22), some (aI i), some (aI 1), none, none] from rfl) ?_
      refine vc_iload_n dX4_readTurn_23 rfl ?_
      refine vc_if_ne dX4_readTurn_24 (fun h99 => ?_) (fun h99 => by exfalso; omega)
      refine vc_iload_n dX4_readTurn_43 rfl ?_
      refine vc_if_ne dX4_readTurn_44 (fun h100 => ?_) (fun h100 => by exfalso; omega)
      refine vc_iload_n dX4_readTurn_71 rfl ?_
      refine vc_bipush dX4_readTurn_72 rfl ?_
      refine vc_icmp_lt dX4_readTurn_74 (fun h101 => ?_) (fun h101 => ?_)
      · refine vc_iload_n dX4_readTurn_86 rfl ?_
        refine vc_if_eq dX4_readTurn_87 (fun h102 => by exfalso; omega) (fun h102 => ?_)
        refine vc_aload_n dX4_readTurn_90 rfl ?_
        refine vc_cVI dX4_readTurn_91 (sfX4_takeToken (M := M) hB0.1   ) rfl okX4_takeToken viX4_takeToken lkX4_65 (s_22 hB0.1.1) cl_4 rfl (Nat.le_of_ble_eq_true rfl) ⟨rfl, rfl⟩ (Nat.le_of_ble_eq_true rfl) (Nat.le_of_ble_eq_true rfl) (Nat.le_of_ble_eq_true rfl) ?_
        rintro x103 M104 ⟨hB105, h106, h107, h108, h109⟩
        have hB110 : BF fQ M M104 := BF.go hB0 hB105
        refine vc_pop dX4_readTurn_94 rfl ?_
        refine vc_aload_n dX4_readTurn_95 rfl ?_
        refine vc_getI dX4_readTurn_96 flX4_119 (s_22 hB110.1.1) rfl ?_
        refine vc_nameI (fun x111 ex111 => ?_)
        refine vc_istore_n dX4_readTurn_99 (by decide) rfl (show _ = [some (aR 22), some (aI i), some (aI 1), some (aI x111), none] from rfl) ?_
        refine vc_aload_n dX4_readTurn_100 rfl ?_
        refine vc_iconst dX4_readTurn_101 rfl ?_
        refine vc_iconst dX4_readTurn_102 rfl ?_
        refine vc_iconst dX4_readTurn_103 rfl ?_
        refine vc_cVI dX4_readTurn_104 (sfX4_readNumber (M := M104) hB110.1  3 1 5 (by omega) (by omega) (by omega)) rfl okX4_readNumber viX4_readNumber lkX4_144 (s_22 hB110.1.1) cl_4 rfl (Nat.le_of_ble_eq_true rfl) ⟨rfl, rfl⟩ (Nat.le_of_ble_eq_true rfl) (Nat.le_of_ble_eq_true rfl) (Nat.le_of_ble_eq_true rfl) ?_
        rintro x112 M113 ⟨hB114, h115, h116, h117, h118⟩
        have hB119 : BF fQ M M113 := BF.go hB110 hB114
        refine vc_if_ne dX4_readTurn_107 (fun h120 => ?_) (fun h120 => ?_)
        · refine vc_aload_n dX4_readTurn_112 rfl ?_
          refine vc_getI dX4_readTurn_113 flX4_69 (s_22 hB119.1.1) rfl ?_
          refine vc_iconst dX4_readTurn_116 rfl ?_
          refine vc_icmp_ne dX4_readTurn_117 (fun h121 => ?_) (fun h121 => ?_)
          · refine vc_aload_n dX4_readTurn_138 rfl ?_
            refine vc_iconst dX4_readTurn_139 rfl ?_
            refine vc_cVI dX4_readTurn_140 (sfX4_failed (M := M113) hB119.1  1 (by omega)) rfl okX4_failed viX4_failed lkX4_122 (s_22 hB119.1.1) cl_4 rfl (Nat.le_of_ble_eq_true rfl) ⟨rfl, rfl⟩ (Nat.le_of_ble_eq_true rfl) (Nat.le_of_ble_eq_true rfl) (Nat.le_of_ble_eq_true rfl) ?_
            rintro x122 M123 ⟨hB124, h125, h126, h127, h128⟩
            have hB129 : BF fQ M M123 := BF.go hB119 hB124
            refine vc_pop dX4_readTurn_143 rfl ?_
            refine vc_iconst dX4_readTurn_144 rfl ?_
            refine vc_iret dX4_readTurn_145 rfl (Nat.le_of_ble_eq_true rfl) (Nat.le_of_ble_eq_true rfl) ?_
            exact ⟨_, rfl, hB129, by omega, by omega⟩
          · refine vc_aload_n dX4_readTurn_120 rfl ?_
            refine vc_getI dX4_readTurn_121 flX4_119 (s_22 hB119.1.1) rfl ?_
            refine vc_bipush dX4_readTurn_124 rfl ?_
            refine vc_icmp_lt dX4_readTurn_126 (fun h130 => ?_) (fun h130 => ?_)
            · refine vc_aload_n dX4_readTurn_138 rfl ?_
              refine vc_iconst dX4_readTurn_139 rfl ?_
              refine vc_cVI dX4_readTurn_140 (sfX4_failed (M := M113) hB119.1  1 (by omega)) rfl okX4_failed viX4_failed lkX4_122 (s_22 hB119.1.1) cl_4 rfl (Nat.le_of_ble_eq_true rfl) ⟨rfl, rfl⟩ (Nat.le_of_ble_eq_true rfl) (Nat.le_of_ble_eq_true rfl) (Nat.le_of_ble_eq_true rfl) ?_
              rintro x131 M132 ⟨hB133, h134, h135, h136, h137⟩
              have hB138 : BF fQ M M132 := BF.go hB119 hB133
              refine vc_pop dX4_readTurn_143 rfl ?_
              refine vc_iconst dX4_readTurn_144 rfl ?_
              refine vc_iret dX4_readTurn_145 rfl (Nat.le_of_ble_eq_true rfl) (Nat.le_of_ble_eq_true rfl) ?_
              exact ⟨_, rfl, hB138, by omega, by omega⟩
            · refine vc_aload_n dX4_readTurn_129 rfl ?_
              refine vc_getI dX4_readTurn_130 flX4_119 (s_22 hB119.1.1) rfl ?_
              refine vc_bipush dX4_readTurn_133 rfl ?_
              refine vc_icmp_le dX4_readTurn_135 (fun h139 => ?_) (fun h139 => ?_)
              · refine vc_bipush dX4_readTurn_146 rfl ?_
                refine vc_aload_n dX4_readTurn_148 rfl ?_
                refine vc_getI dX4_readTurn_149 flX4_119 (s_22 hB119.1.1) rfl ?_
                refine vc_bipush dX4_readTurn_152 rfl ?_
                refine vc_isubE dX4_readTurn_154 (by omega) (by omega) ?_
                refine vc_iconst dX4_readTurn_155 rfl ?_
                refine vc_iaddE dX4_readTurn_156 (by omega) (by omega) ?_
                refine vc_imulE dX4_readTurn_157 (by omega) (by omega) ?_
                refine vc_iload_n dX4_readTurn_158 rfl ?_
                refine vc_if_eq dX4_readTurn_159 (fun h140 => by exfalso; omega) (fun h140 => ?_)
                refine vc_bipush dX4_readTurn_162 rfl ?_
                refine vc_goto dX4_readTurn_164 ?_
                refine vc_iaddE dX4_readTurn_168 (by omega) (by omega) ?_
                refine vc_iload_n dX4_readTurn_169 rfl ?_
                refine vc_iadd dX4_readTurn_170 ?_
                refine vc_nameI (fun x141 ex141 => ?_)
                refine vc_istore dX4_readTurn_171 (by decide) rfl (show _ = [some (aR 22), some (aI i), some (aI 1), some (aI x111), some (aI x141)] from rfl) ?_
                refine vc_aload_n dX4_readTurn_173 rfl ?_
                refine vc_cVI dX4_readTurn_174 (sfX4_takeToken (M := M113) hB119.1   ) rfl okX4_takeToken viX4_takeToken lkX4_65 (s_22 hB119.1.1) cl_4 rfl (Nat.le_of_ble_eq_true rfl) ⟨rfl, rfl⟩ (Nat.le_of_ble_eq_true rfl) (Nat.le_of_ble_eq_true rfl) (Nat.le_of_ble_eq_true rfl) ?_
                rintro x142 M143 ⟨hB144, h145, h146, h147, h148⟩
                have hB149 : BF fQ M M143 := BF.go hB119 hB144
                refine vc_pop dX4_readTurn_177 rfl ?_
                refine vc_iload dX4_readTurn_178 rfl ?_
                refine vc_iret dX4_readTurn_180 rfl (Nat.le_of_ble_eq_true rfl) (Nat.le_of_ble_eq_true rfl) ?_
                exact ⟨_, rfl, hB149, by omega, by omega⟩
              · refine vc_aload_n dX4_readTurn_138 rfl ?_
                refine vc_iconst dX4_readTurn_139 rfl ?_
                refine vc_cVI dX4_readTurn_140 (sfX4_failed (M := M113) hB119.1  1 (by omega)) rfl okX4_failed viX4_failed lkX4_122 (s_22 hB119.1.1) cl_4 rfl (Nat.le_of_ble_eq_true rfl) ⟨rfl, rfl⟩ (Nat.le_of_ble_eq_true rfl) (Nat.le_of_ble_eq_true rfl) (Nat.le_of_ble_eq_true rfl) ?_
                rintro x150 M151 ⟨hB152, h153, h154, h155, h156⟩
                have hB157 : BF fQ M M151 := BF.go hB119 hB152
                refine vc_pop dX4_readTurn_143 rfl ?_
                refine vc_iconst dX4_readTurn_144 rfl ?_
                refine vc_iret dX4_readTurn_145 rfl (Nat.le_of_ble_eq_true rfl) (Nat.le_of_ble_eq_true rfl) ?_
                exact ⟨_, rfl, hB157, by omega, by omega⟩
        · refine vc_iconst dX4_readTurn_110 rfl ?_
          refine vc_iret dX4_readTurn_111 rfl (Nat.le_of_ble_eq_true rfl) (Nat.le_of_ble_eq_true rfl) ?_
          exact ⟨_, rfl, hB119, by omega, by omega⟩
      · refine vc_aload_n dX4_readTurn_77 rfl ?_
        refine vc_bipush dX4_readTurn_78 rfl ?_
        refine vc_cVI dX4_readTurn_80 (sfX4_failed (M := M) hB0.1  7 (by omega)) rfl okX4_failed viX4_failed lkX4_122 (s_22 hB0.1.1) cl_4 rfl (Nat.le_of_ble_eq_true rfl) ⟨rfl, rfl⟩ (Nat.le_of_ble_eq_true rfl) (Nat.le_of_ble_eq_true rfl) (Nat.le_of_ble_eq_true rfl) ?_
        rintro x158 M159 ⟨hB160, h161, h162, h163, h164⟩
        have hB165 : BF fQ M M159 := BF.go hB0 hB160
        refine vc_pop dX4_readTurn_83 rfl ?_
        refine vc_iconst dX4_readTurn_84 rfl ?_
        refine vc_iret dX4_readTurn_85 rfl (Nat.le_of_ble_eq_true rfl) (Nat.le_of_ble_eq_true rfl) ?_
        exact ⟨_, rfl, hB165, by omega, by omega⟩

set_option maxRecDepth 4000 in
theorem sfX4_readTurns {l : Launch} {M : Mem} (hB : Box M)   (p0 : 0 ≤ mI M 22 9) : Call l mdX4_readTurns [aR 22] M (fun q N => ∃ r : Int, q = some (aI r) ∧ BF fQ M N ∧ 0 ≤ r ∧ r ≤ 1 ∧ 0 ≤ mI N 22 9 ∧ mI N 22 13 = mI M 22 13) := by
  have hB0 : BF fQ M M := BF.start hB
  refine Call.of [some (aR 22), none, none, none, none] rfl (Nat.le_of_ble_eq_true rfl) rfl ?_
  refine vc_iconst dX4_readTurns_0 rfl ?_
  refine vc_istore_n dX4_readTurns_1 (by decide) rfl (show _ = [some (aR 22), some (aI 0), none, none, none] from rfl) ?_
  refine vc_iconst dX4_readTurns_2 rfl ?_
  refine vc_istore_n dX4_readTurns_3 (by decide) rfl (show _ = [some (aR 22), some (aI 0), some (aI 0), none, none] from rfl) ?_
  refine vc_iconst dX4_readTurns_4 rfl ?_
  refine vc_istore_n dX4_readTurns_5 (by decide) rfl (show _ = [some (aR 22), some (aI 0), some (aI 0), some (aI 0), none] from rfl) ?_
  have lp6 : ∀ (n6 : Nat) (Mq6 : Mem) (v1 : Int) (v2 : Int) (v3 : Int), (BF fQ M Mq6) → (0 ≤ v3) → (v3 ≤ 7) → (0 ≤ mI Mq6 22 9) → (mI Mq6 22 13 = mI M 22 13) → (7 - v3).toNat < n6 → VC l mdX4_readTurns 6 [some (aR 22), some (aI v1), some (aI v2), some (aI v3), none] [] Mq6 0 0 (fun q N => ∃ r : Int, q = some (aI r) ∧ BF fQ M N ∧ 0 ≤ r ∧ r ≤ 1 ∧ 0 ≤ mI N 22 9 ∧ mI N 22 13 = mI M 22 13) := by
    intro n6
    induction n6 with
    | zero => intro Mq6 v1 v2 v3 hQ6 g6_3a g6_3b g6i0 g6i1 hm6; exact absurd hm6 (Nat.not_lt_zero _)
    | succ n6 ih6 =>
      intro Mq6 v1 v2 v3 hQ6 g6_3a g6_3b g6i0 g6i1 hm6
      refine vc_iload_n dX4_readTurns_6 rfl ?_
      refine vc_bipush dX4_readTurns_7 rfl ?_
      refine vc_icmp_gt dX4_readTurns_9 (fun h1 => ?_) (fun h1 => ?_)
      · refine vc_aload_n dX4_readTurns_86 rfl ?_
        refine vc_iconst dX4_readTurns_87 rfl ?_
        refine vc_iload_n dX4_readTurns_88 rfl ?_
        refine vc_cVU dX4_readTurns_89 (sfX4_keep (M := Mq6) hQ6.1  3 v1 (by omega) (by omega) (by omega)) rfl okX4_keep viX4_keep lkX4_125 (s_22 hQ6.1.1) cl_4 rfl (Nat.le_of_ble_eq_true rfl) ⟨rfl, rfl⟩ (Nat.le_of_ble_eq_true rfl) (Nat.le_of_ble_eq_true rfl) (Nat.le_of_ble_eq_true rfl) ?_
        rintro M2 ⟨hB3, h4, h5⟩
        have hB6 : BF fQ M M2 := BF.go hQ6 hB3
        refine vc_aload_n dX4_readTurns_92 rfl ?_
        refine vc_iconst dX4_readTurns_93 rfl ?_
        refine vc_iload_n dX4_readTurns_94 rfl ?_
        refine vc_cVU dX4_readTurns_95 (sfX4_keep (M := M2) hB6.1  4 v2 (by omega) (by omega) (by omega)) rfl okX4_keep viX4_keep lkX4_125 (s_22 hB6.1.1) cl_4 rfl (Nat.le_of_ble_eq_true rfl) ⟨rfl, rfl⟩ (Nat.le_of_ble_eq_true rfl) (Nat.le_of_ble_eq_true rfl) (Nat.le_of_ble_eq_true rfl) ?_
        rintro M7 ⟨hB8, h9, h10⟩
        have hB11 : BF fQ M M7 := BF.go hB6 hB8
        refine vc_iconst dX4_readTurns_98 rfl ?_
        refine vc_zret dX4_readTurns_99 rfl (by first | decide | omega) (Nat.le_of_ble_eq_true rfl) (Nat.le_of_ble_eq_true rfl) ?_
        exact ⟨_, rfl, hB11, by omega, by omega, by omega, by omega⟩
      · refine vc_aload_n dX4_readTurns_12 rfl ?_
        refine vc_iload_n dX4_readTurns_13 rfl ?_
        refine vc_cVI dX4_readTurns_14 (sfX4_readTurn (M := Mq6) hQ6.1  v3 (by omega)) rfl okX4_readTurn viX4_readTurn lkX4_166 (s_22 hQ6.1.1) cl_4 rfl (Nat.le_of_ble_eq_true rfl) ⟨rfl, rfl⟩ (Nat.le_of_ble_eq_true rfl) (Nat.le_of_ble_eq_true rfl) (Nat.le_of_ble_eq_true rfl) ?_
        rintro x12 M13 ⟨hB14, h15, h16⟩
        have hB17 : BF fQ M M13 := BF.go hQ6 hB14
        refine vc_istore dX4_readTurns_17 (by decide) rfl (show _ = [some (aR 22), some (aI v1), some (aI v2), some (aI v3), some (aI x12)] from rfl) ?_
        refine vc_iload dX4_readTurns_19 rfl ?_
        refine vc_iconst dX4_readTurns_21 rfl ?_
        refine vc_icmp_ne dX4_readTurns_22 (fun h18 => ?_) (fun h18 => ?_)
        · refine vc_iload_n dX4_readTurns_27 rfl ?_
          refine vc_iconst dX4_readTurns_28 rfl ?_
          refine vc_icmp_ge dX4_readTurns_29 (fun h19 => ?_) (fun h19 => ?_)
          · refine vc_iload_n dX4_readTurns_43 rfl ?_
            refine vc_istore_n dX4_readTurns_44 (by decide) rfl (show _ = [some (aR 22), some (aI v1), some (aI v2), some (aI v3), some (aI x12)] from rfl) ?_
            refine vc_iload_n dX4_readTurns_45 rfl ?_
            refine vc_iconst dX4_readTurns_46 rfl ?_
            refine vc_icmp_ge dX4_readTurns_47 (fun h20 => ?_) (fun h20 => by exfalso; omega)
            refine vc_sipush dX4_readTurns_54 rfl ?_
            refine vc_iload_n dX4_readTurns_57 rfl ?_
            refine vc_imul dX4_readTurns_58 ?_
            refine vc_iload dX4_readTurns_59 rfl ?_
            refine vc_iadd dX4_readTurns_61 ?_
            refine vc_nameI (fun x21 ex21 => ?_)
            refine vc_istore_n dX4_readTurns_62 (by decide) rfl (show _ = [some (aR 22), some (aI v1), some (aI x21), some (aI v3), some (aI x12)] from rfl) ?_
            refine vc_aload_n dX4_readTurns_63 rfl ?_
            refine vc_bipush dX4_readTurns_64 rfl ?_
            refine vc_cVI dX4_readTurns_66 (sfX4_isSign (M := M13) hB17.1  44 ) rfl okX4_isSign viX4_isSign lkX4_163 (s_22 hB17.1.1) cl_4 rfl (Nat.le_of_ble_eq_true rfl) ⟨rfl, rfl⟩ (Nat.le_of_ble_eq_true rfl) (Nat.le_of_ble_eq_true rfl) (Nat.le_of_ble_eq_true rfl) ?_
            rintro x22 _ ⟨rfl, h23, h24⟩
            refine vc_if_ne dX4_readTurns_69 (fun h25 => ?_) (fun h25 => ?_)
            · refine vc_aload_n dX4_readTurns_75 rfl ?_
              refine vc_cVI dX4_readTurns_76 (sfX4_takeToken (M := M13) hB17.1   ) rfl okX4_takeToken viX4_takeToken lkX4_65 (s_22 hB17.1.1) cl_4 rfl (Nat.le_of_ble_eq_true rfl) ⟨rfl, rfl⟩ (Nat.le_of_ble_eq_true rfl) (Nat.le_of_ble_eq_true rfl) (Nat.le_of_ble_eq_true rfl) ?_
              rintro x26 M27 ⟨hB28, h29, h30, h31, h32⟩
              have hB33 : BF fQ M M27 := BF.go hB17 hB28
              refine vc_pop dX4_readTurns_79 rfl ?_
              refine vc_iincE dX4_readTurns_80 rfl (by omega) (by omega) (by decide) rfl (show _ = [some (aR 22), some (aI v1), some (aI x21), some (aI (v3 + 1)), some (aI x12)] from rfl) ?_
              refine vc_goto dX4_readTurns_83 ?_
              refine vc_less [some (aR 22), some (aI v1), some (aI x21), some (aI (v3 + 1)), none] (lessL_keep (lessL_keep (lessL_keep (lessL_keep (lessL_drop (lessL_nil)))))) ?_
              exact ih6 M27 v1 x21 (v3 + 1) hB33 (by omega) (by omega) (by omega) (by omega) (by omega)
            · refine vc_goto dX4_readTurns_72 ?_
              refine vc_aload_n dX4_readTurns_86 rfl ?_
              refine vc_iconst dX4_readTurns_87 rfl ?_
              refine vc_iload_n dX4_readTurns_88 rfl ?_
              refine vc_cVU dX4_readTurns_89 (sfX4_keep (M := M13) hB17.1  3 v1 (by omega) (by omega) (by omega)) rfl okX4_keep viX4_keep lkX4_125 (s_22 hB17.1.1) cl_4 rfl (Nat.le_of_ble_eq_true rfl) ⟨rfl, rfl⟩ (Nat.le_of_ble_eq_true rfl) (Nat.le_of_ble_eq_true rfl) (Nat.le_of_ble_eq_true rfl) ?_
              rintro M34 ⟨hB35, h36, h37⟩
              have hB38 : BF fQ M M34 := BF.go hB17 hB35
              refine vc_aload_n dX4_readTurns_92 rfl ?_
              refine vc_iconst dX4_readTurns_93 rfl ?_
              refine vc_iload_n dX4_readTurns_94 rfl ?_
              refine vc_cVU dX4_readTurns_95 (sfX4_keep (M := M34) hB38.1  4 x21 (by omega) (by omega) (by omega)) rfl okX4_keep viX4_keep lkX4_125 (s_22 hB38.1.1) cl_4 rfl (Nat.le_of_ble_eq_true rfl) ⟨rfl, rfl⟩ (Nat.le_of_ble_eq_true rfl) (Nat.le_of_ble_eq_true rfl) (Nat.le_of_ble_eq_true rfl) ?_
              rintro M39 ⟨hB40, h41, h42⟩
              have hB43 : BF fQ M M39 := BF.go hB38 hB40
              refine vc_iconst dX4_readTurns_98 rfl ?_
              refine vc_zret dX4_readTurns_99 rfl (by first | decide | omega) (Nat.le_of_ble_eq_true rfl) (Nat.le_of_ble_eq_true rfl) ?_
              exact ⟨_, rfl, hB43, by omega, by omega, by omega, by omega⟩
          · refine vc_sipush dX4_readTurns_32 rfl ?_
            refine vc_iload_n dX4_readTurns_35 rfl ?_
            refine vc_imul dX4_readTurns_36 ?_
            refine vc_iload dX4_readTurns_37 rfl ?_
            refine vc_iadd dX4_readTurns_39 ?_
            refine vc_goto dX4_readTurns_40 ?_
            refine vc_nameI (fun x44 ex44 => ?_)
            refine vc_istore_n dX4_readTurns_44 (by decide) rfl (show _ = [some (aR 22), some (aI x44), some (aI v2), some (aI v3), some (aI x12)] from rfl) ?_
            refine vc_iload_n dX4_readTurns_45 rfl ?_
            refine vc_iconst dX4_readTurns_46 rfl ?_
            refine vc_icmp_ge dX4_readTurns_47 (fun h45 => by exfalso; omega) (fun h45 => ?_)
            refine vc_iconst dX4_readTurns_50 rfl ?_
            refine vc_goto dX4_readTurns_51 ?_
            refine vc_istore_n dX4_readTurns_62 (by decide) rfl (show _ = [some (aR 22), some (aI x44), some (aI 0), some (aI v3), some (aI x12)] from rfl) ?_
            refine vc_aload_n dX4_readTurns_63 rfl ?_
            refine vc_bipush dX4_readTurns_64 rfl ?_
            refine vc_cVI dX4_readTurns_66 (sfX4_isSign (M := M13) hB17.1  44 ) rfl okX4_isSign viX4_isSign lkX4_163 (s_22 hB17.1.1) cl_4 rfl (Nat.le_of_ble_eq_true rfl) ⟨rfl, rfl⟩ (Nat.le_of_ble_eq_true rfl) (Nat.le_of_ble_eq_true rfl) (Nat.le_of_ble_eq_true rfl) ?_
            rintro x46 _ ⟨rfl, h47, h48⟩
            refine vc_if_ne dX4_readTurns_69 (fun h49 => ?_) (fun h49 => ?_)
            · refine vc_aload_n dX4_readTurns_75 rfl ?_
              refine vc_cVI dX4_readTurns_76 (sfX4_takeToken (M := M13) hB17.1   ) rfl okX4_takeToken viX4_takeToken lkX4_65 (s_22 hB17.1.1) cl_4 rfl (Nat.le_of_ble_eq_true rfl) ⟨rfl, rfl⟩ (Nat.le_of_ble_eq_true rfl) (Nat.le_of_ble_eq_true rfl) (Nat.le_of_ble_eq_true rfl) ?_
              rintro x50 M51 ⟨hB52, h53, h54, h55, h56⟩
              have hB57 : BF fQ M M51 := BF.go hB17 hB52
              refine vc_pop dX4_readTurns_79 rfl ?_
              refine vc_iincE dX4_readTurns_80 rfl (by omega) (by omega) (by decide) rfl (show _ = [some (aR 22), some (aI x44), some (aI 0), some (aI (v3 + 1)), some (aI x12)] from rfl) ?_
              refine vc_goto dX4_readTurns_83 ?_
              refine vc_less [some (aR 22), some (aI x44), some (aI 0), some (aI (v3 + 1)), none] (lessL_keep (lessL_keep (lessL_keep (lessL_keep (lessL_drop (lessL_nil)))))) ?_
              exact ih6 M51 x44 0 (v3 + 1) hB57 (by omega) (by omega) (by omega) (by omega) (by omega)
            · refine vc_goto dX4_readTurns_72 ?_
              refine vc_aload_n dX4_readTurns_86 rfl ?_
              refine vc_iconst dX4_readTurns_87 rfl ?_
              refine vc_iload_n dX4_readTurns_88 rfl ?_
              refine vc_cVU dX4_readTurns_89 (sfX4_keep (M := M13) hB17.1  3 x44 (by omega) (by omega) (by omega)) rfl okX4_keep viX4_keep lkX4_125 (s_22 hB17.1.1) cl_4 rfl (Nat.le_of_ble_eq_true rfl) ⟨rfl, rfl⟩ (Nat.le_of_ble_eq_true rfl) (Nat.le_of_ble_eq_true rfl) (Nat.le_of_ble_eq_true rfl) ?_
              rintro M58 ⟨hB59, h60, h61⟩
              have hB62 : BF fQ M M58 := BF.go hB17 hB59
              refine vc_aload_n dX4_readTurns_92 rfl ?_
              refine vc_iconst dX4_readTurns_93 rfl ?_
              refine vc_iload_n dX4_readTurns_94 rfl ?_
              refine vc_cVU dX4_readTurns_95 (sfX4_keep (M := M58) hB62.1  4 0 (by omega) (by omega) (by omega)) rfl okX4_keep viX4_keep lkX4_125 (s_22 hB62.1.1) cl_4 rfl (Nat.le_of_ble_eq_true rfl) ⟨rfl, rfl⟩ (Nat.le_of_ble_eq_true rfl) (Nat.le_of_ble_eq_true rfl) (Nat.le_of_ble_eq_true rfl) ?_
              rintro M63 ⟨hB64, h65, h66⟩
              have hB67 : BF fQ M M63 := BF.go hB62 hB64
              refine vc_iconst dX4_readTurns_98 rfl ?_
              refine vc_zret dX4_readTurns_99 rfl (by first | decide | omega) (Nat.le_of_ble_eq_true rfl) (Nat.le_of_ble_eq_true rfl) ?_
              exact ⟨_, rfl, hB67, by omega, by omega, by omega, by omega⟩
        · refine vc_iconst dX4_readTurns_25 rfl ?_
          refine vc_zret dX4_readTurns_26 rfl (by first | decide | omega) (Nat.le_of_ble_eq_true rfl) (Nat.le_of_ble_eq_true rfl) ?_
          exact ⟨_, rfl, hB17, by omega, by omega, by omega, by omega⟩
  exact lp6 _ M 0 0 0 hB0 (by omega) (by omega) (by omega) (by omega) (Nat.lt_succ_self _)

set_option maxRecDepth 4000 in
theorem sfX4_readDeed {l : Launch} {M : Mem} (hB : Box M)  (w : Int) (p0 : 0 ≤ mI M 22 9) : Call l mdX4_readDeed [aR 22, aI w] M (fun q N => ∃ r : Int, q = some (aI r) ∧ BF fQ M N ∧ 0 ≤ r ∧ r ≤ 1 ∧ 0 ≤ mI N 22 9 ∧ mI N 22 13 = mI M 22 13) := by
  have hB0 : BF fQ M M := BF.start hB
  refine Call.of [some (aR 22), some (aI w)] rfl (Nat.le_of_ble_eq_true rfl) rfl ?_
  refine vc_ok (fun hoM hoS hoL => ?_)
  have hr1 : -2147483648 ≤ w ∧ w < 2147483648 := hoL 1 _ rfl
  refine vc_iload_n dX4_readDeed_0 rfl ?_
  by_cases h1 : w = 5
  · refine vc_tabIn dX4_readDeed_1 5 56 h1 rfl rfl rfl ?_
    refine vc_aload_n dX4_readDeed_56 rfl ?_
    refine vc_iconst dX4_readDeed_57 rfl ?_
    refine vc_iconst dX4_readDeed_58 rfl ?_
    refine vc_iconst dX4_readDeed_59 rfl ?_
    refine vc_cVI dX4_readDeed_60 (sfX4_readNumber (M := M) hB0.1  1 0 5 (by omega) (by omega) (by omega)) rfl okX4_readNumber viX4_readNumber lkX4_144 (s_22 hB0.1.1) cl_4 rfl (Nat.le_of_ble_eq_true rfl) ⟨rfl, rfl⟩ (Nat.le_of_ble_eq_true rfl) (Nat.le_of_ble_eq_true rfl) (Nat.le_of_ble_eq_true rfl) ?_
    rintro x2 M3 ⟨hB4, h5, h6, h7, h8⟩
    have hB9 : BF fQ M M3 := BF.go hB0 hB4
    refine vc_zret dX4_readDeed_63 rfl (by first | decide | omega) (Nat.le_of_ble_eq_true rfl) (Nat.le_of_ble_eq_true rfl) ?_
    exact ⟨_, rfl, hB9, by omega, by omega, by omega, by omega⟩
  by_cases h10 : w = 6
  · refine vc_tabIn dX4_readDeed_1 6 64 h10 rfl rfl rfl ?_
    refine vc_aload_n dX4_readDeed_64 rfl ?_
    refine vc_iconst dX4_readDeed_65 rfl ?_
    refine vc_cVI dX4_readDeed_66 (sfX4_readCorner (M := M) hB0.1  1 (by omega) (by omega) (by omega)) rfl okX4_readCorner viX4_readCorner lkX4_148 (s_22 hB0.1.1) cl_4 rfl (Nat.le_of_ble_eq_true rfl) ⟨rfl, rfl⟩ (Nat.le_of_ble_eq_true rfl) (Nat.le_of_ble_eq_true rfl) (Nat.le_of_ble_eq_true rfl) ?_
    rintro x11 M12 ⟨hB13, h14, h15, h16, h17⟩
    have hB18 : BF fQ M M12 := BF.go hB0 hB13
    refine vc_if_eq dX4_readDeed_69 (fun h19 => ?_) (fun h19 => ?_)
    · refine vc_iconst dX4_readDeed_103 rfl ?_
      refine vc_zret dX4_readDeed_104 rfl (by first | decide | omega) (Nat.le_of_ble_eq_true rfl) (Nat.le_of_ble_eq_true rfl) ?_
      exact ⟨_, rfl, hB18, by omega, by omega, by omega, by omega⟩
    · refine vc_aload_n dX4_readDeed_72 rfl ?_
      refine vc_iconst dX4_readDeed_73 rfl ?_
      refine vc_iconst dX4_readDeed_74 rfl ?_
      refine vc_iconst dX4_readDeed_75 rfl ?_
      refine vc_cVI dX4_readDeed_76 (sfX4_readNumber (M := M12) hB18.1  2 0 3 (by omega) (by omega) (by omega)) rfl okX4_readNumber viX4_readNumber lkX4_144 (s_22 hB18.1.1) cl_4 rfl (Nat.le_of_ble_eq_true rfl) ⟨rfl, rfl⟩ (Nat.le_of_ble_eq_true rfl) (Nat.le_of_ble_eq_true rfl) (Nat.le_of_ble_eq_true rfl) ?_
      rintro x20 M21 ⟨hB22, h23, h24, h25, h26⟩
      have hB27 : BF fQ M M21 := BF.go hB18 hB22
      refine vc_if_eq dX4_readDeed_79 (fun h28 => ?_) (fun h28 => ?_)
      · refine vc_iconst dX4_readDeed_103 rfl ?_
        refine vc_zret dX4_readDeed_104 rfl (by first | decide | omega) (Nat.le_of_ble_eq_true rfl) (Nat.le_of_ble_eq_true rfl) ?_
        exact ⟨_, rfl, hB27, by omega, by omega, by omega, by omega⟩
      · refine vc_aload_n dX4_readDeed_82 rfl ?_
        refine vc_bipush dX4_readDeed_83 rfl ?_
        refine vc_cVI dX4_readDeed_85 (sfX4_readWord (M := M21) hB27.1  16 (by omega)) rfl okX4_readWord viX4_readWord lkX4_151 (s_22 hB27.1.1) cl_4 rfl (Nat.le_of_ble_eq_true rfl) ⟨rfl, rfl⟩ (Nat.le_of_ble_eq_true rfl) (Nat.le_of_ble_eq_true rfl) (Nat.le_of_ble_eq_true rfl) ?_
        rintro x29 M30 ⟨hB31, h32, h33, h34, h35⟩
        have hB36 : BF fQ M M30 := BF.go hB27 hB31
        refine vc_if_eq dX4_readDeed_88 (fun h37 => ?_) (fun h37 => ?_)
        · refine vc_iconst dX4_readDeed_103 rfl ?_
          refine vc_zret dX4_readDeed_104 rfl (by first | decide | omega) (Nat.le_of_ble_eq_true rfl) (Nat.le_of_ble_eq_true rfl) ?_
          exact ⟨_, rfl, hB36, by omega, by omega, by omega, by omega⟩
        · refine vc_aload_n dX4_readDeed_91 rfl ?_
          refine vc_iconst dX4_readDeed_92 rfl ?_
          refine vc_cVI dX4_readDeed_93 (sfX4_readCorner (M := M30) hB36.1  3 (by omega) (by omega) (by omega)) rfl okX4_readCorner viX4_readCorner lkX4_148 (s_22 hB36.1.1) cl_4 rfl (Nat.le_of_ble_eq_true rfl) ⟨rfl, rfl⟩ (Nat.le_of_ble_eq_true rfl) (Nat.le_of_ble_eq_true rfl) (Nat.le_of_ble_eq_true rfl) ?_
          rintro x38 M39 ⟨hB40, h41, h42, h43, h44⟩
          have hB45 : BF fQ M M39 := BF.go hB36 hB40
          refine vc_if_eq dX4_readDeed_96 (fun h46 => ?_) (fun h46 => ?_)
          · refine vc_iconst dX4_readDeed_103 rfl ?_
            refine vc_zret dX4_readDeed_104 rfl (by first | decide | omega) (Nat.le_of_ble_eq_true rfl) (Nat.le_of_ble_eq_true rfl) ?_
            exact ⟨_, rfl, hB45, by omega, by omega, by omega, by omega⟩
          · refine vc_iconst dX4_readDeed_99 rfl ?_
            refine vc_goto dX4_readDeed_100 ?_
            refine vc_zret dX4_readDeed_104 rfl (by first | decide | omega) (Nat.le_of_ble_eq_true rfl) (Nat.le_of_ble_eq_true rfl) ?_
            exact ⟨_, rfl, hB45, by omega, by omega, by omega, by omega⟩
  by_cases h47 : w = 7
  · refine vc_tabIn dX4_readDeed_1 7 64 h47 rfl rfl rfl ?_
    refine vc_aload_n dX4_readDeed_64 rfl ?_
    refine vc_iconst dX4_readDeed_65 rfl ?_
    refine vc_cVI dX4_readDeed_66 (sfX4_readCorner (M := M) hB0.1  1 (by omega) (by omega) (by omega)) rfl okX4_readCorner viX4_readCorner lkX4_148 (s_22 hB0.1.1) cl_4 rfl (Nat.le_of_ble_eq_true rfl) ⟨rfl, rfl⟩ (Nat.le_of_ble_eq_true rfl) (Nat.le_of_ble_eq_true rfl) (Nat.le_of_ble_eq_true rfl) ?_
    rintro x48 M49 ⟨hB50, h51, h52, h53, h54⟩
    have hB55 : BF fQ M M49 := BF.go hB0 hB50
    refine vc_if_eq dX4_readDeed_69 (fun h56 => ?_) (fun h56 => ?_)
    · refine vc_iconst dX4_readDeed_103 rfl ?_
      refine vc_zret dX4_readDeed_104 rfl (by first | decide | omega) (Nat.le_of_ble_eq_true rfl) (Nat.le_of_ble_eq_true rfl) ?_
      exact ⟨_, rfl, hB55, by omega, by omega, by omega, by omega⟩
    · refine vc_aload_n dX4_readDeed_72 rfl ?_
      refine vc_iconst dX4_readDeed_73 rfl ?_
      refine vc_iconst dX4_readDeed_74 rfl ?_
      refine vc_iconst dX4_readDeed_75 rfl ?_
      refine vc_cVI dX4_readDeed_76 (sfX4_readNumber (M := M49) hB55.1  2 0 3 (by omega) (by omega) (by omega)) rfl okX4_readNumber viX4_readNumber lkX4_144 (s_22 hB55.1.1) cl_4 rfl (Nat.le_of_ble_eq_true rfl) ⟨rfl, rfl⟩ (Nat.le_of_ble_eq_true rfl) (Nat.le_of_ble_eq_true rfl) (Nat.le_of_ble_eq_true rfl) ?_
      rintro x57 M58 ⟨hB59, h60, h61, h62, h63⟩
      have hB64 : BF fQ M M58 := BF.go hB55 hB59
      refine vc_if_eq dX4_readDeed_79 (fun h65 => ?_) (fun h65 => ?_)
      · refine vc_iconst dX4_readDeed_103 rfl ?_
        refine vc_zret dX4_readDeed_104 rfl (by first | decide | omega) (Nat.le_of_ble_eq_true rfl) (Nat.le_of_ble_eq_true rfl) ?_
        exact ⟨_, rfl, hB64, by omega, by omega, by omega, by omega⟩
      · refine vc_aload_n dX4_readDeed_82 rfl ?_
        refine vc_bipush dX4_readDeed_83 rfl ?_
        refine vc_cVI dX4_readDeed_85 (sfX4_readWord (M := M58) hB64.1  16 (by omega)) rfl okX4_readWord viX4_readWord lkX4_151 (s_22 hB64.1.1) cl_4 rfl (Nat.le_of_ble_eq_true rfl) ⟨rfl, rfl⟩ (Nat.le_of_ble_eq_true rfl) (Nat.le_of_ble_eq_true rfl) (Nat.le_of_ble_eq_true rfl) ?_
        rintro x66 M67 ⟨hB68, h69, h70, h71, h72⟩
        have hB73 : BF fQ M M67 := BF.go hB64 hB68
        refine vc_if_eq dX4_readDeed_88 (fun h74 => ?_) (fun h74 => ?_)
        · refine vc_iconst dX4_readDeed_103 rfl ?_
          refine vc_zret dX4_readDeed_104 rfl (by first | decide | omega) (Nat.le_of_ble_eq_true rfl) (Nat.le_of_ble_eq_true rfl) ?_
          exact ⟨_, rfl, hB73, by omega, by omega, by omega, by omega⟩
        · refine vc_aload_n dX4_readDeed_91 rfl ?_
          refine vc_iconst dX4_readDeed_92 rfl ?_
          refine vc_cVI dX4_readDeed_93 (sfX4_readCorner (M := M67) hB73.1  3 (by omega) (by omega) (by omega)) rfl okX4_readCorner viX4_readCorner lkX4_148 (s_22 hB73.1.1) cl_4 rfl (Nat.le_of_ble_eq_true rfl) ⟨rfl, rfl⟩ (Nat.le_of_ble_eq_true rfl) (Nat.le_of_ble_eq_true rfl) (Nat.le_of_ble_eq_true rfl) ?_
          rintro x75 M76 ⟨hB77, h78, h79, h80, h81⟩
          have hB82 : BF fQ M M76 := BF.go hB73 hB77
          refine vc_if_eq dX4_readDeed_96 (fun h83 => ?_) (fun h83 => ?_)
          · refine vc_iconst dX4_readDeed_103 rfl ?_
            refine vc_zret dX4_readDeed_104 rfl (by first | decide | omega) (Nat.le_of_ble_eq_true rfl) (Nat.le_of_ble_eq_true rfl) ?_
            exact ⟨_, rfl, hB82, by omega, by omega, by omega, by omega⟩
          · refine vc_iconst dX4_readDeed_99 rfl ?_
            refine vc_goto dX4_readDeed_100 ?_
            refine vc_zret dX4_readDeed_104 rfl (by first | decide | omega) (Nat.le_of_ble_eq_true rfl) (Nat.le_of_ble_eq_true rfl) ?_
            exact ⟨_, rfl, hB82, by omega, by omega, by omega, by omega⟩
  by_cases h84 : w = 8
  · refine vc_tabIn dX4_readDeed_1 8 105 h84 rfl rfl rfl ?_
    refine vc_aload_n dX4_readDeed_105 rfl ?_
    refine vc_iconst dX4_readDeed_106 rfl ?_
    refine vc_cVI dX4_readDeed_107 (sfX4_readCorner (M := M) hB0.1  1 (by omega) (by omega) (by omega)) rfl okX4_readCorner viX4_readCorner lkX4_148 (s_22 hB0.1.1) cl_4 rfl (Nat.le_of_ble_eq_true rfl) ⟨rfl, rfl⟩ (Nat.le_of_ble_eq_true rfl) (Nat.le_of_ble_eq_true rfl) (Nat.le_of_ble_eq_true rfl) ?_
    rintro x85 M86 ⟨hB87, h88, h89, h90, h91⟩
    have hB92 : BF fQ M M86 := BF.go hB0 hB87
    refine vc_zret dX4_readDeed_110 rfl (by first | decide | omega) (Nat.le_of_ble_eq_true rfl) (Nat.le_of_ble_eq_true rfl) ?_
    exact ⟨_, rfl, hB92, by omega, by omega, by omega, by omega⟩
  by_cases h93 : w = 9
  · refine vc_tabIn dX4_readDeed_1 9 105 h93 rfl rfl rfl ?_
    refine vc_aload_n dX4_readDeed_105 rfl ?_
    refine vc_iconst dX4_readDeed_106 rfl ?_
    refine vc_cVI dX4_readDeed_107 (sfX4_readCorner (M := M) hB0.1  1 (by omega) (by omega) (by omega)) rfl okX4_readCorner viX4_readCorner lkX4_148 (s_22 hB0.1.1) cl_4 rfl (Nat.le_of_ble_eq_true rfl) ⟨rfl, rfl⟩ (Nat.le_of_ble_eq_true rfl) (Nat.le_of_ble_eq_true rfl) (Nat.le_of_ble_eq_true rfl) ?_
    rintro x94 M95 ⟨hB96, h97, h98, h99, h100⟩
    have hB101 : BF fQ M M95 := BF.go hB0 hB96
    refine vc_zret dX4_readDeed_110 rfl (by first | decide | omega) (Nat.le_of_ble_eq_true rfl) (Nat.le_of_ble_eq_true rfl) ?_
    exact ⟨_, rfl, hB101, by omega, by omega, by omega, by omega⟩
  by_cases h102 : w = 10
  · refine vc_tabIn dX4_readDeed_1 10 111 h102 rfl rfl rfl ?_
    refine vc_aload_n dX4_readDeed_111 rfl ?_
    refine vc_iconst dX4_readDeed_112 rfl ?_
    refine vc_iconst dX4_readDeed_113 rfl ?_
    refine vc_iconst dX4_readDeed_114 rfl ?_
    refine vc_cVI dX4_readDeed_115 (sfX4_readNumber (M := M) hB0.1  1 0 5 (by omega) (by omega) (by omega)) rfl okX4_readNumber viX4_readNumber lkX4_144 (s_22 hB0.1.1) cl_4 rfl (Nat.le_of_ble_eq_true rfl) ⟨rfl, rfl⟩ (Nat.le_of_ble_eq_true rfl) (Nat.le_of_ble_eq_true rfl) (Nat.le_of_ble_eq_true rfl) ?_
    rintro x103 M104 ⟨hB105, h106, h107, h108, h109⟩
    have hB110 : BF fQ M M104 := BF.go hB0 hB105
    refine vc_if_eq dX4_readDeed_118 (fun h111 => ?_) (fun h111 => ?_)
    · refine vc_iconst dX4_readDeed_148 rfl ?_
      refine vc_zret dX4_readDeed_149 rfl (by first | decide | omega) (Nat.le_of_ble_eq_true rfl) (Nat.le_of_ble_eq_true rfl) ?_
      exact ⟨_, rfl, hB110, by omega, by omega, by omega, by omega⟩
    · refine vc_aload_n dX4_readDeed_121 rfl ?_
      refine vc_cVI dX4_readDeed_122 (sfX4_readFacing (M := M104) hB110.1   (by omega)) rfl okX4_readFacing viX4_readFacing lkX4_154 (s_22 hB110.1.1) cl_4 rfl (Nat.le_of_ble_eq_true rfl) ⟨rfl, rfl⟩ (Nat.le_of_ble_eq_true rfl) (Nat.le_of_ble_eq_true rfl) (Nat.le_of_ble_eq_true rfl) ?_
      rintro x112 M113 ⟨hB114, h115, h116, h117, h118⟩
      have hB119 : BF fQ M M113 := BF.go hB110 hB114
      refine vc_if_eq dX4_readDeed_125 (fun h120 => ?_) (fun h120 => ?_)
      · refine vc_iconst dX4_readDeed_148 rfl ?_
        refine vc_zret dX4_readDeed_149 rfl (by first | decide | omega) (Nat.le_of_ble_eq_true rfl) (Nat.le_of_ble_eq_true rfl) ?_
        exact ⟨_, rfl, hB119, by omega, by omega, by omega, by omega⟩
      · refine vc_aload_n dX4_readDeed_128 rfl ?_
        refine vc_bipush dX4_readDeed_129 rfl ?_
        refine vc_cVI dX4_readDeed_131 (sfX4_readSign (M := M113) hB119.1  58 (by omega)) rfl okX4_readSign viX4_readSign lkX4_141 (s_22 hB119.1.1) cl_4 rfl (Nat.le_of_ble_eq_true rfl) ⟨rfl, rfl⟩ (Nat.le_of_ble_eq_true rfl) (Nat.le_of_ble_eq_true rfl) (Nat.le_of_ble_eq_true rfl) ?_
        rintro x121 M122 ⟨hB123, h124, h125, h126, h127⟩
        have hB128 : BF fQ M M122 := BF.go hB119 hB123
        refine vc_if_eq dX4_readDeed_134 (fun h129 => ?_) (fun h129 => ?_)
        · refine vc_iconst dX4_readDeed_148 rfl ?_
          refine vc_zret dX4_readDeed_149 rfl (by first | decide | omega) (Nat.le_of_ble_eq_true rfl) (Nat.le_of_ble_eq_true rfl) ?_
          exact ⟨_, rfl, hB128, by omega, by omega, by omega, by omega⟩
        · refine vc_aload_n dX4_readDeed_137 rfl ?_
          refine vc_cVI dX4_readDeed_138 (sfX4_readTurns (M := M122) hB128.1   (by omega)) rfl okX4_readTurns viX4_readTurns lkX4_157 (s_22 hB128.1.1) cl_4 rfl (Nat.le_of_ble_eq_true rfl) ⟨rfl, rfl⟩ (Nat.le_of_ble_eq_true rfl) (Nat.le_of_ble_eq_true rfl) (Nat.le_of_ble_eq_true rfl) ?_
          rintro x130 M131 ⟨hB132, h133, h134, h135, h136⟩
          have hB137 : BF fQ M M131 := BF.go hB128 hB132
          refine vc_if_eq dX4_readDeed_141 (fun h138 => ?_) (fun h138 => ?_)
          · refine vc_iconst dX4_readDeed_148 rfl ?_
            refine vc_zret dX4_readDeed_149 rfl (by first | decide | omega) (Nat.le_of_ble_eq_true rfl) (Nat.le_of_ble_eq_true rfl) ?_
            exact ⟨_, rfl, hB137, by omega, by omega, by omega, by omega⟩
          · refine vc_iconst dX4_readDeed_144 rfl ?_
            refine vc_goto dX4_readDeed_145 ?_
            refine vc_zret dX4_readDeed_149 rfl (by first | decide | omega) (Nat.le_of_ble_eq_true rfl) (Nat.le_of_ble_eq_true rfl) ?_
            exact ⟨_, rfl, hB137, by omega, by omega, by omega, by omega⟩
  by_cases h139 : w = 11
  · refine vc_tabIn dX4_readDeed_1 11 150 h139 rfl rfl rfl ?_
    refine vc_aload_n dX4_readDeed_150 rfl ?_
    refine vc_iconst dX4_readDeed_151 rfl ?_
    refine vc_cVI dX4_readDeed_152 (sfX4_readCorner (M := M) hB0.1  1 (by omega) (by omega) (by omega)) rfl okX4_readCorner viX4_readCorner lkX4_148 (s_22 hB0.1.1) cl_4 rfl (Nat.le_of_ble_eq_true rfl) ⟨rfl, rfl⟩ (Nat.le_of_ble_eq_true rfl) (Nat.le_of_ble_eq_true rfl) (Nat.le_of_ble_eq_true rfl) ?_
    rintro x140 M141 ⟨hB142, h143, h144, h145, h146⟩
    have hB147 : BF fQ M M141 := BF.go hB0 hB142
    refine vc_if_eq dX4_readDeed_155 (fun h148 => ?_) (fun h148 => ?_)
    · refine vc_iconst dX4_readDeed_169 rfl ?_
      refine vc_zret dX4_readDeed_170 rfl (by first | decide | omega) (Nat.le_of_ble_eq_true rfl) (Nat.le_of_ble_eq_true rfl) ?_
      exact ⟨_, rfl, hB147, by omega, by omega, by omega, by omega⟩
    · refine vc_aload_n dX4_readDeed_158 rfl ?_
      refine vc_cVI dX4_readDeed_159 (sfX4_readFacing (M := M141) hB147.1   (by omega)) rfl okX4_readFacing viX4_readFacing lkX4_154 (s_22 hB147.1.1) cl_4 rfl (Nat.le_of_ble_eq_true rfl) ⟨rfl, rfl⟩ (Nat.le_of_ble_eq_true rfl) (Nat.le_of_ble_eq_true rfl) (Nat.le_of_ble_eq_true rfl) ?_
      rintro x149 M150 ⟨hB151, h152, h153, h154, h155⟩
      have hB156 : BF fQ M M150 := BF.go hB147 hB151
      refine vc_if_eq dX4_readDeed_162 (fun h157 => ?_) (fun h157 => ?_)
      · refine vc_iconst dX4_readDeed_169 rfl ?_
        refine vc_zret dX4_readDeed_170 rfl (by first | decide | omega) (Nat.le_of_ble_eq_true rfl) (Nat.le_of_ble_eq_true rfl) ?_
        exact ⟨_, rfl, hB156, by omega, by omega, by omega, by omega⟩
      · refine vc_iconst dX4_readDeed_165 rfl ?_
        refine vc_goto dX4_readDeed_166 ?_
        refine vc_zret dX4_readDeed_170 rfl (by first | decide | omega) (Nat.le_of_ble_eq_true rfl) (Nat.le_of_ble_eq_true rfl) ?_
        exact ⟨_, rfl, hB156, by omega, by omega, by omega, by omega⟩
  by_cases h158 : w = 12
  · refine vc_tabIn dX4_readDeed_1 12 171 h158 rfl rfl rfl ?_
    refine vc_aload_n dX4_readDeed_171 rfl ?_
    refine vc_iconst dX4_readDeed_172 rfl ?_
    refine vc_iconst dX4_readDeed_173 rfl ?_
    refine vc_bipush dX4_readDeed_174 rfl ?_
    refine vc_cVI dX4_readDeed_176 (sfX4_readNumber (M := M) hB0.1  1 1 20 (by omega) (by omega) (by omega)) rfl okX4_readNumber viX4_readNumber lkX4_144 (s_22 hB0.1.1) cl_4 rfl (Nat.le_of_ble_eq_true rfl) ⟨rfl, rfl⟩ (Nat.le_of_ble_eq_true rfl) (Nat.le_of_ble_eq_true rfl) (Nat.le_of_ble_eq_true rfl) ?_
    rintro x159 M160 ⟨hB161, h162, h163, h164, h165⟩
    have hB166 : BF fQ M M160 := BF.go hB0 hB161
    refine vc_zret dX4_readDeed_179 rfl (by first | decide | omega) (Nat.le_of_ble_eq_true rfl) (Nat.le_of_ble_eq_true rfl) ?_
    exact ⟨_, rfl, hB166, by omega, by omega, by omega, by omega⟩
  by_cases h167 : w = 13
  · refine vc_tabIn dX4_readDeed_1 13 180 h167 rfl rfl rfl ?_
    refine vc_aload_n dX4_readDeed_180 rfl ?_
    refine vc_iconst dX4_readDeed_181 rfl ?_
    refine vc_cVI dX4_readDeed_182 (sfX4_readSideTo (M := M) hB0.1  1 (by omega) (by omega) (by omega)) rfl okX4_readSideTo viX4_readSideTo lkX4_160 (s_22 hB0.1.1) cl_4 rfl (Nat.le_of_ble_eq_true rfl) ⟨rfl, rfl⟩ (Nat.le_of_ble_eq_true rfl) (Nat.le_of_ble_eq_true rfl) (Nat.le_of_ble_eq_true rfl) ?_
    rintro x168 M169 ⟨hB170, h171, h172, h173, h174⟩
    have hB175 : BF fQ M M169 := BF.go hB0 hB170
    refine vc_zret dX4_readDeed_185 rfl (by first | decide | omega) (Nat.le_of_ble_eq_true rfl) (Nat.le_of_ble_eq_true rfl) ?_
    exact ⟨_, rfl, hB175, by omega, by omega, by omega, by omega⟩
  by_cases h176 : w = 14
  · refine vc_tabIn dX4_readDeed_1 14 186 h176 rfl rfl rfl ?_
    refine vc_aload_n dX4_readDeed_186 rfl ?_
    refine vc_iconst dX4_readDeed_187 rfl ?_
    refine vc_iconst dX4_readDeed_188 rfl ?_
    refine vc_iconst dX4_readDeed_189 rfl ?_
    refine vc_cVI dX4_readDeed_190 (sfX4_readNumber (M := M) hB0.1  1 0 5 (by omega) (by omega) (by omega)) rfl okX4_readNumber viX4_readNumber lkX4_144 (s_22 hB0.1.1) cl_4 rfl (Nat.le_of_ble_eq_true rfl) ⟨rfl, rfl⟩ (Nat.le_of_ble_eq_true rfl) (Nat.le_of_ble_eq_true rfl) (Nat.le_of_ble_eq_true rfl) ?_
    rintro x177 M178 ⟨hB179, h180, h181, h182, h183⟩
    have hB184 : BF fQ M M178 := BF.go hB0 hB179
    refine vc_zret dX4_readDeed_193 rfl (by first | decide | omega) (Nat.le_of_ble_eq_true rfl) (Nat.le_of_ble_eq_true rfl) ?_
    exact ⟨_, rfl, hB184, by omega, by omega, by omega, by omega⟩
  refine vc_tabOut dX4_readDeed_1 194 (by omega) rfl ?_
  refine vc_aload_n dX4_readDeed_194 rfl ?_
  refine vc_iconst dX4_readDeed_195 rfl ?_
  refine vc_iconst dX4_readDeed_196 rfl ?_
  refine vc_bipush dX4_readDeed_197 rfl ?_
  refine vc_cVI dX4_readDeed_199 (sfX4_readNumber (M := M) hB0.1  1 0 7 (by omega) (by omega) (by omega)) rfl okX4_readNumber viX4_readNumber lkX4_144 (s_22 hB0.1.1) cl_4 rfl (Nat.le_of_ble_eq_true rfl) ⟨rfl, rfl⟩ (Nat.le_of_ble_eq_true rfl) (Nat.le_of_ble_eq_true rfl) (Nat.le_of_ble_eq_true rfl) ?_
  rintro x185 M186 ⟨hB187, h188, h189, h190, h191⟩
  have hB192 : BF fQ M M186 := BF.go hB0 hB187
  refine vc_zret dX4_readDeed_202 rfl (by first | decide | omega) (Nat.le_of_ble_eq_true rfl) (Nat.le_of_ble_eq_true rfl) ?_
  exact ⟨_, rfl, hB192, by omega, by omega, by omega, by omega⟩

set_option maxRecDepth 4000 in
theorem sfX4_beginLaw {l : Launch} {M : Mem} (hB : Box M)  (law : Int) (p0 : 0 ≤ law) (p1 : law ≤ 4) (p2 : 0 ≤ mI M 22 9) : Call l mdX4_beginLaw [aR 22, aI law] M (fun q N => ∃ r : Int, q = some (aI r) ∧ BF fQ M N ∧ 0 ≤ r ∧ r ≤ 1 ∧ 0 ≤ mI N 22 9 ∧ mI N 22 13 = mI M 22 13) := by
  have hB0 : BF fQ M M := BF.start hB
  refine Call.of [some (aR 22), some (aI law)] rfl (Nat.le_of_ble_eq_true rfl) rfl ?_
  refine vc_aload_n dX4_beginLaw_0 rfl ?_
  refine vc_iload_n dX4_beginLaw_1 rfl ?_
  refine vc_iconst dX4_beginLaw_2 rfl ?_
  refine vc_icmp_ge dX4_beginLaw_3 (fun h1 => ?_) (fun h1 => ?_)
  · refine vc_iload_n dX4_beginLaw_11 rfl ?_
    refine vc_iconst dX4_beginLaw_12 rfl ?_
    refine vc_icmp_ne dX4_beginLaw_13 (fun h2 => ?_) (fun h2 => ?_)
    · refine vc_bipush dX4_beginLaw_22 rfl ?_
      refine vc_putI dX4_beginLaw_24 (plX4_170 _ rfl) (s_22 hB0.1.1) rfl ?_
      have hB3 : BF fQ M (sI M 22 14 7) := BF.w22_14 hB0 rfl
      refine vc_aload_n dX4_beginLaw_27 rfl ?_
      refine vc_getR dX4_beginLaw_28 flX4_18 (s_22 hB3.1.1) rfl (r_22_2 hB3.1.1) ?_
      refine vc_iconst dX4_beginLaw_31 rfl ?_
      refine vc_iload_n dX4_beginLaw_32 rfl ?_
      refine vc_imulE dX4_beginLaw_33 (by omega) (by omega) ?_
      refine vc_aload_n dX4_beginLaw_34 rfl ?_
      refine vc_getI dX4_beginLaw_35 flX4_50 (s_22 hB3.1.1) rfl ?_
      refine vc_topI (mI M 22 12) rfl ?_
      have k4 : 0 ≤ mI M 22 12 ∧ mI M 22 12 ≤ 300 := b22_12 (M := (sI M 22 14 7)) hB3.1
      refine vc_iastore dX4_beginLaw_38 (s_24 hB3.1.1) (by omega) (by omega) ?_
      have hB5 : BF fQ M (sI (sI M 22 14 7) 24 ((2 * law).toNat) (mI M 22 12)) := BF.w24 hB3 (fun _ => rfl) _ (by omega) (by omega)
      refine vc_iconst dX4_beginLaw_39 rfl ?_
      refine vc_zret dX4_beginLaw_40 rfl (by first | decide | omega) (Nat.le_of_ble_eq_true rfl) (Nat.le_of_ble_eq_true rfl) ?_
      have k6 : mI (sI (sI M 22 14 7) 24 ((2 * law).toNat) (mI M 22 12)) 22 9 = mI M 22 9 := rfl
      have k7 : mI (sI (sI M 22 14 7) 24 ((2 * law).toNat) (mI M 22 12)) 22 13 = mI M 22 13 := rfl
      exact ⟨_, rfl, hB5, by omega, by omega, by omega, by omega⟩
    · refine vc_sipush dX4_beginLaw_16 rfl ?_
      refine vc_goto dX4_beginLaw_19 ?_
      refine vc_putI dX4_beginLaw_24 (plX4_170 _ rfl) (s_22 hB0.1.1) rfl ?_
      have hB8 : BF fQ M (sI M 22 14 448) := BF.w22_14 hB0 rfl
      refine vc_aload_n dX4_beginLaw_27 rfl ?_
      refine vc_getR dX4_beginLaw_28 flX4_18 (s_22 hB8.1.1) rfl (r_22_2 hB8.1.1) ?_
      refine vc_iconst dX4_beginLaw_31 rfl ?_
      refine vc_iload_n dX4_beginLaw_32 rfl ?_
      refine vc_imulE dX4_beginLaw_33 (by omega) (by omega) ?_
      refine vc_aload_n dX4_beginLaw_34 rfl ?_
      refine vc_getI dX4_beginLaw_35 flX4_50 (s_22 hB8.1.1) rfl ?_
      refine vc_topI (mI M 22 12) rfl ?_
      have k9 : 0 ≤ mI M 22 12 ∧ mI M 22 12 ≤ 300 := b22_12 (M := (sI M 22 14 448)) hB8.1
      refine vc_iastore dX4_beginLaw_38 (s_24 hB8.1.1) (by omega) (by omega) ?_
      have hB10 : BF fQ M (sI (sI M 22 14 448) 24 ((2 * law).toNat) (mI M 22 12)) := BF.w24 hB8 (fun _ => rfl) _ (by omega) (by omega)
      refine vc_iconst dX4_beginLaw_39 rfl ?_
      refine vc_zret dX4_beginLaw_40 rfl (by first | decide | omega) (Nat.le_of_ble_eq_true rfl) (Nat.le_of_ble_eq_true rfl) ?_
      have k11 : mI (sI (sI M 22 14 448) 24 ((2 * law).toNat) (mI M 22 12)) 22 9 = mI M 22 9 := rfl
      have k12 : mI (sI (sI M 22 14 448) 24 ((2 * law).toNat) (mI M 22 12)) 22 13 = mI M 22 13 := rfl
      exact ⟨_, rfl, hB10, by omega, by omega, by omega, by omega⟩
  · refine vc_bipush dX4_beginLaw_6 rfl ?_
    refine vc_goto dX4_beginLaw_8 ?_
    refine vc_putI dX4_beginLaw_24 (plX4_170 _ rfl) (s_22 hB0.1.1) rfl ?_
    have hB13 : BF fQ M (sI M 22 14 63) := BF.w22_14 hB0 rfl
    refine vc_aload_n dX4_beginLaw_27 rfl ?_
    refine vc_getR dX4_beginLaw_28 flX4_18 (s_22 hB13.1.1) rfl (r_22_2 hB13.1.1) ?_
    refine vc_iconst dX4_beginLaw_31 rfl ?_
    refine vc_iload_n dX4_beginLaw_32 rfl ?_
    refine vc_imulE dX4_beginLaw_33 (by omega) (by omega) ?_
    refine vc_aload_n dX4_beginLaw_34 rfl ?_
    refine vc_getI dX4_beginLaw_35 flX4_50 (s_22 hB13.1.1) rfl ?_
    refine vc_topI (mI M 22 12) rfl ?_
    have k14 : 0 ≤ mI M 22 12 ∧ mI M 22 12 ≤ 300 := b22_12 (M := (sI M 22 14 63)) hB13.1
    refine vc_iastore dX4_beginLaw_38 (s_24 hB13.1.1) (by omega) (by omega) ?_
    have hB15 : BF fQ M (sI (sI M 22 14 63) 24 ((2 * law).toNat) (mI M 22 12)) := BF.w24 hB13 (fun _ => rfl) _ (by omega) (by omega)
    refine vc_iconst dX4_beginLaw_39 rfl ?_
    refine vc_zret dX4_beginLaw_40 rfl (by first | decide | omega) (Nat.le_of_ble_eq_true rfl) (Nat.le_of_ble_eq_true rfl) ?_
    have k16 : mI (sI (sI M 22 14 63) 24 ((2 * law).toNat) (mI M 22 12)) 22 9 = mI M 22 9 := rfl
    have k17 : mI (sI (sI M 22 14 63) 24 ((2 * law).toNat) (mI M 22 12)) 22 13 = mI M 22 13 := rfl
    exact ⟨_, rfl, hB15, by omega, by omega, by omega, by omega⟩

set_option maxRecDepth 4000 in
theorem sfX4_endLaw {l : Launch} {M : Mem} (hB : Box M)  (law : Int) (p0 : 0 ≤ law) (p1 : law ≤ 4) (p2 : 0 ≤ mI M 22 9) : Call l mdX4_endLaw [aR 22, aI law] M (fun q N => ∃ r : Int, q = some (aI r) ∧ BF fQ M N ∧ 0 ≤ r ∧ r ≤ 1 ∧ 0 ≤ mI N 22 9 ∧ mI N 22 13 = mI M 22 13) := by
  have hB0 : BF fQ M M := BF.start hB
  refine Call.of [some (aR 22), some (aI law)] rfl (Nat.le_of_ble_eq_true rfl) rfl ?_
  refine vc_aload_n dX4_endLaw_0 rfl ?_
  refine vc_getR dX4_endLaw_1 flX4_18 (s_22 hB0.1.1) rfl (r_22_2 hB0.1.1) ?_
  refine vc_iconst dX4_endLaw_4 rfl ?_
  refine vc_iload_n dX4_endLaw_5 rfl ?_
  refine vc_imulE dX4_endLaw_6 (by omega) (by omega) ?_
  refine vc_iconst dX4_endLaw_7 rfl ?_
  refine vc_iaddE dX4_endLaw_8 (by omega) (by omega) ?_
  refine vc_aload_n dX4_endLaw_9 rfl ?_
  refine vc_getI dX4_endLaw_10 flX4_50 (s_22 hB0.1.1) rfl ?_
  have k1 : 0 ≤ mI M 22 12 ∧ mI M 22 12 ≤ 300 := b22_12 (M := M) hB0.1
  refine vc_iastore dX4_endLaw_13 (s_24 hB0.1.1) (by omega) (by omega) ?_
  have hB2 : BF fQ M (sI M 24 (((2 * law) + 1).toNat) (mI M 22 12)) := BF.w24 hB0 (fun _ => rfl) _ (by omega) (by omega)
  refine vc_iconst dX4_endLaw_14 rfl ?_
  refine vc_zret dX4_endLaw_15 rfl (by first | decide | omega) (Nat.le_of_ble_eq_true rfl) (Nat.le_of_ble_eq_true rfl) ?_
  have k3 : mI (sI M 24 (((2 * law) + 1).toNat) (mI M 22 12)) 22 9 = mI M 22 9 := rfl
  have k4 : mI (sI M 24 (((2 * law) + 1).toNat) (mI M 22 12)) 22 13 = mI M 22 13 := rfl
  exact ⟨_, rfl, hB2, by omega, by omega, by omega, by omega⟩

set_option maxRecDepth 4000 in
theorem sfX4_emit {l : Launch} {M : Mem} (hB : Box M)  (op : Int) (p0 : 0 ≤ mI M 22 9) : Call l mdX4_emit [aR 22, aI op] M (fun q N => ∃ r : Int, q = some (aI r) ∧ BF fQ M N ∧ 0 ≤ r ∧ r ≤ 1 ∧ 0 ≤ mI N 22 9 ∧ mI N 22 13 = mI M 22 13) := by
  have hB0 : BF fQ M M := BF.start hB
  refine Call.of [some (aR 22), some (aI op)] rfl (Nat.le_of_ble_eq_true rfl) rfl ?_
  refine vc_ok (fun hoM hoS hoL => ?_)
  have hr1 : -2147483648 ≤ op ∧ op < 2147483648 := hoL 1 _ rfl
  refine vc_aload_n dX4_emit_0 rfl ?_
  refine vc_getI dX4_emit_1 flX4_50 (s_22 hB0.1.1) rfl ?_
  have k1 : 0 ≤ mI M 22 12 ∧ mI M 22 12 ≤ 300 := b22_12 (M := M) hB0.1
  refine vc_aload_n dX4_emit_4 rfl ?_
  refine vc_getR dX4_emit_5 flX4_15 (s_22 hB0.1.1) rfl (r_22_1 hB0.1.1) ?_
  refine vc_alen dX4_emit_8 (s_23 hB0.1.1) rfl ?_
  refine vc_topI 300 rfl ?_
  refine vc_icmp_ge dX4_emit_9 (fun h2 => ?_) (fun h2 => ?_)
  · refine vc_iconst dX4_emit_32 rfl ?_
    refine vc_zret dX4_emit_33 rfl (by first | decide | omega) (Nat.le_of_ble_eq_true rfl) (Nat.le_of_ble_eq_true rfl) ?_
    exact ⟨_, rfl, hB0, by omega, by omega, by omega, by omega⟩
  · refine vc_aload_n dX4_emit_12 rfl ?_
    refine vc_getR dX4_emit_13 flX4_15 (s_22 hB0.1.1) rfl (r_22_1 hB0.1.1) ?_
    refine vc_aload_n dX4_emit_16 rfl ?_
    refine vc_getI dX4_emit_17 flX4_50 (s_22 hB0.1.1) rfl ?_
    refine vc_iload_n dX4_emit_20 rfl ?_
    refine vc_iastore dX4_emit_21 (s_23 hB0.1.1) (by omega) (by omega) ?_
    have hB3 : BF fQ M (sI M 23 ((mI M 22 12).toNat) op) := BF.w23 hB0 (fun _ => rfl) _
    refine vc_aload_n dX4_emit_22 rfl ?_
    refine vc_dup dX4_emit_23 rfl ?_
    refine vc_getI dX4_emit_24 flX4_50 (s_22 hB3.1.1) rfl ?_
    refine vc_topI (mI M 22 12) rfl ?_
    have k4 : 0 ≤ mI M 22 12 ∧ mI M 22 12 ≤ 300 := b22_12 (M := (sI M 23 ((mI M 22 12).toNat) op)) hB3.1
    refine vc_iconst dX4_emit_27 rfl ?_
    refine vc_iaddE dX4_emit_28 (by omega) (by omega) ?_
    refine vc_putI dX4_emit_29 (plX4_50 _ rfl) (s_22 hB3.1.1) rfl ?_
    have hB5 : BF fQ M (sI (sI M 23 ((mI M 22 12).toNat) op) 22 12 ((mI M 22 12) + 1)) := BF.w22_12 hB3 rfl (by omega) (by omega)
    refine vc_iconst dX4_emit_32 rfl ?_
    refine vc_zret dX4_emit_33 rfl (by first | decide | omega) (Nat.le_of_ble_eq_true rfl) (Nat.le_of_ble_eq_true rfl) ?_
    have k6 : mI (sI (sI M 23 ((mI M 22 12).toNat) op) 22 12 ((mI M 22 12) + 1)) 22 9 = mI M 22 9 := rfl
    have k7 : mI (sI (sI M 23 ((mI M 22 12).toNat) op) 22 12 ((mI M 22 12) + 1)) 22 13 = mI M 22 13 := rfl
    exact ⟨_, rfl, hB5, by omega, by omega, by omega, by omega⟩

def RdO (l : Launch) (nf : Nat) : Prop := ∀ {M : Mem} (hB : Box M)  (d : Int) (p0 : 0 ≤ d) (p1 : d ≤ 8) (p2 : 0 ≤ mI M 22 9) (hnf : (8 - d).toNat < nf), Call l (mdX4_readOne (11 + 3 * nf)) [aR 22, aI d] M (fun q N => ∃ r : Int, q = some (aI r) ∧ BF fQ M N ∧ 0 ≤ r ∧ r ≤ 1 ∧ 0 ≤ mI N 22 9 ∧ mI N 22 13 = mI M 22 13)
def RdP (l : Launch) (nf : Nat) : Prop := ∀ {M : Mem} (hB : Box M)  (d : Int) (p0 : 0 ≤ d) (p1 : d ≤ 8) (p2 : 0 ≤ mI M 22 9) (hnf : (8 - d).toNat < nf), Call l (mdX4_readProduct (12 + 3 * nf)) [aR 22, aI d] M (fun q N => ∃ r : Int, q = some (aI r) ∧ BF fQ M N ∧ 0 ≤ r ∧ r ≤ 1 ∧ 0 ≤ mI N 22 9 ∧ mI N 22 13 = mI M 22 13)
def RdS (l : Launch) (nf : Nat) : Prop := ∀ {M : Mem} (hB : Box M)  (d : Int) (p0 : 0 ≤ d) (p1 : d ≤ 8) (p2 : 0 ≤ mI M 22 9) (hnf : (8 - d).toNat < nf), Call l (mdX4_readSum (13 + 3 * nf)) [aR 22, aI d] M (fun q N => ∃ r : Int, q = some (aI r) ∧ BF fQ M N ∧ 0 ≤ r ∧ r ≤ 1 ∧ 0 ≤ mI N 22 9 ∧ mI N 22 13 = mI M 22 13)
set_option maxRecDepth 4000 in
theorem rd_one {l : Launch} {nf : Nat} (hs : RdS l nf) (ho : RdO l nf) : RdO l (nf + 1) := by
  intro M hB d p0 p1 p2 hnf
  have hB0 : BF fQ M M := BF.start hB
  refine Call.of [some (aR 22), some (aI d), none, none] rfl (Nat.le_of_ble_eq_true rfl) rfl ?_
  refine vc_aload_n dX4_readOne_0 rfl ?_
  refine vc_getI dX4_readOne_1 flX4_69 (s_22 hB0.1.1) rfl ?_
  refine vc_iconst dX4_readOne_4 rfl ?_
  refine vc_icmp_ne dX4_readOne_5 (fun h1 => ?_) (fun h1 => ?_)
  · refine vc_aload_n dX4_readOne_50 rfl ?_
    refine vc_getI dX4_readOne_51 flX4_69 (s_22 hB0.1.1) rfl ?_
    refine vc_iconst dX4_readOne_54 rfl ?_
    refine vc_icmp_ne dX4_readOne_55 (fun h2 => ?_) (fun h2 => ?_)
    · refine vc_aload_n dX4_readOne_119 rfl ?_
      refine vc_getI dX4_readOne_120 flX4_69 (s_22 hB0.1.1) rfl ?_
      refine vc_iconst dX4_readOne_123 rfl ?_
      refine vc_icmp_ne dX4_readOne_124 (fun h3 => ?_) (fun h3 => ?_)
      · refine vc_iconst dX4_readOne_149 rfl ?_
        refine vc_istore_n dX4_readOne_150 (Nat.le_of_ble_eq_true rfl) rfl (show _ = [some (aR 22), some (aI d), some (aI 0), none] from rfl) ?_
        refine vc_iload_n dX4_readOne_151 rfl ?_
        refine vc_if_ne dX4_readOne_152 (fun h4 => by exfalso; omega) (fun h4 => ?_)
        refine vc_aload_n dX4_readOne_155 rfl ?_
        refine vc_bipush dX4_readOne_156 rfl ?_
        refine vc_cVI dX4_readOne_158 (sfX4_isSign (M := M) hB0.1  40 ) rfl okX4_isSign viX4_isSign lkX4_163 (s_22 hB0.1.1) cl_4 rfl (by show 0 < 11 + 3 * (nf + 1); omega) ⟨rfl, rfl⟩ (Nat.le_of_ble_eq_true rfl) (Nat.le_of_ble_eq_true rfl) (Nat.le_of_ble_eq_true rfl) ?_
        rintro x5 _ ⟨rfl, h6, h7⟩
        refine vc_if_ne dX4_readOne_161 (fun h8 => ?_) (fun h8 => ?_)
        · refine vc_iload_n dX4_readOne_179 rfl ?_
          refine vc_bipush dX4_readOne_180 rfl ?_
          refine vc_icmp_lt dX4_readOne_182 (fun h9 => ?_) (fun h9 => ?_)
          · refine vc_aload_n dX4_readOne_191 rfl ?_
            refine vc_getI dX4_readOne_192 flX4_119 (s_22 hB0.1.1) rfl ?_
            refine vc_nameI (fun x10 ex10 => ?_)
            refine vc_istore_n dX4_readOne_195 (Nat.le_of_ble_eq_true rfl) rfl (show _ = [some (aR 22), some (aI d), some (aI 0), some (aI x10)] from rfl) ?_
            refine vc_aload_n dX4_readOne_196 rfl ?_
            refine vc_cVI dX4_readOne_197 (sfX4_takeToken (M := M) hB0.1   ) rfl okX4_takeToken viX4_takeToken lkX4_65 (s_22 hB0.1.1) cl_4 rfl (by show 0 < 11 + 3 * (nf + 1); omega) ⟨rfl, rfl⟩ (Nat.le_of_ble_eq_true rfl) (Nat.le_of_ble_eq_true rfl) (Nat.le_of_ble_eq_true rfl) ?_
            rintro x11 M12 ⟨hB13, h14, h15, h16, h17⟩
            have hB18 : BF fQ M M12 := BF.go hB0 hB13
            refine vc_pop dX4_readOne_200 rfl ?_
            refine vc_iload_n dX4_readOne_201 rfl ?_
            refine vc_if_eq dX4_readOne_202 (fun h19 => ?_) (fun h19 => by exfalso; omega)
            refine vc_iload_n dX4_readOne_280 rfl ?_
            refine vc_bipush dX4_readOne_281 rfl ?_
            refine vc_icmp_ne dX4_readOne_283 (fun h20 => ?_) (fun h20 => ?_)
            · refine vc_aload_n dX4_readOne_311 rfl ?_
              refine vc_iload_n dX4_readOne_312 rfl ?_
              refine vc_iconst dX4_readOne_313 rfl ?_
              refine vc_iaddE dX4_readOne_314 (by omega) (by omega) ?_
              refine vc_cVI dX4_readOne_315 (ho (M := M12) hB18.1  (d + 1) (by omega) (by omega) (by omega) (by omega)) rfl (okX4_readOne (11 + 3 * nf)) (viX4_readOne (11 + 3 * nf)) (lkX4_179 (11 + 3 * nf)) (s_22 hB18.1.1) cl_4 rfl (by show (11 + 3 * nf) < 11 + 3 * (nf + 1); omega) ⟨rfl, rfl⟩ (Nat.le_of_ble_eq_true rfl) (Nat.le_of_ble_eq_true rfl) (Nat.le_of_ble_eq_true rfl) ?_
              rintro x21 M22 ⟨hB23, h24, h25, h26, h27⟩
              have hB28 : BF fQ M M22 := BF.go hB18 hB23
              refine vc_if_eq dX4_readOne_318 (fun h29 => ?_) (fun h29 => ?_)
              · refine vc_iconst dX4_readOne_335 rfl ?_
                refine vc_zret dX4_readOne_336 rfl (by first | decide | omega) (Nat.le_of_ble_eq_true rfl) (Nat.le_of_ble_eq_true rfl) ?_
                exact ⟨_, rfl, hB28, by omega, by omega, by omega, by omega⟩
              · refine vc_aload_n dX4_readOne_321 rfl ?_
                refine vc_sipush dX4_readOne_322 rfl ?_
                refine vc_cVI dX4_readOne_325 (sfX4_emit (M := M22) hB28.1  20006 (by omega)) rfl okX4_emit viX4_emit lkX4_176 (s_22 hB28.1.1) cl_4 rfl (by show 0 < 11 + 3 * (nf + 1); omega) ⟨rfl, rfl⟩ (Nat.le_of_ble_eq_true rfl) (Nat.le_of_ble_eq_true rfl) (Nat.le_of_ble_eq_true rfl) ?_
                rintro x30 M31 ⟨hB32, h33, h34, h35, h36⟩
                have hB37 : BF fQ M M31 := BF.go hB28 hB32
                refine vc_if_eq dX4_readOne_328 (fun h38 => ?_) (fun h38 => ?_)
                · refine vc_iconst dX4_readOne_335 rfl ?_
                  refine vc_zret dX4_readOne_336 rfl (by first | decide | omega) (Nat.le_of_ble_eq_true rfl) (Nat.le_of_ble_eq_true rfl) ?_
                  exact ⟨_, rfl, hB37, by omega, by omega, by omega, by omega⟩
                · refine vc_iconst dX4_readOne_331 rfl ?_
                  refine vc_goto dX4_readOne_332 ?_
                  refine vc_zret dX4_readOne_336 rfl (by first | decide | omega) (Nat.le_of_ble_eq_true rfl) (Nat.le_of_ble_eq_true rfl) ?_
                  exact ⟨_, rfl, hB37, by omega, by omega, by omega, by omega⟩
            · refine vc_aload_n dX4_readOne_286 rfl ?_
              refine vc_iload_n dX4_readOne_287 rfl ?_
              refine vc_iconst dX4_readOne_288 rfl ?_
              refine vc_iaddE dX4_readOne_289 (by omega) (by omega) ?_
              refine vc_cVI dX4_readOne_290 (hs (M := M12) hB18.1  (d + 1) (by omega) (by omega) (by omega) (by omega)) rfl (okX4_readSum (13 + 3 * nf)) (viX4_readSum (13 + 3 * nf)) (lkX4_132 (13 + 3 * nf)) (s_22 hB18.1.1) cl_4 rfl (by show (13 + 3 * nf) < 11 + 3 * (nf + 1); omega) ⟨rfl, rfl⟩ (Nat.le_of_ble_eq_true rfl) (Nat.le_of_ble_eq_true rfl) (Nat.le_of_ble_eq_true rfl) ?_
              rintro x39 M40 ⟨hB41, h42, h43, h44, h45⟩
              have hB46 : BF fQ M M40 := BF.go hB18 hB41
              refine vc_if_eq dX4_readOne_293 (fun h47 => ?_) (fun h47 => ?_)
              · refine vc_iconst dX4_readOne_309 rfl ?_
                refine vc_zret dX4_readOne_310 rfl (by first | decide | omega) (Nat.le_of_ble_eq_true rfl) (Nat.le_of_ble_eq_true rfl) ?_
                exact ⟨_, rfl, hB46, by omega, by omega, by omega, by omega⟩
              · refine vc_aload_n dX4_readOne_296 rfl ?_
                refine vc_bipush dX4_readOne_297 rfl ?_
                refine vc_cVI dX4_readOne_299 (sfX4_readSign (M := M40) hB46.1  41 (by omega)) rfl okX4_readSign viX4_readSign lkX4_141 (s_22 hB46.1.1) cl_4 rfl (by show 1 < 11 + 3 * (nf + 1); omega) ⟨rfl, rfl⟩ (Nat.le_of_ble_eq_true rfl) (Nat.le_of_ble_eq_true rfl) (Nat.le_of_ble_eq_true rfl) ?_
                rintro x48 M49 ⟨hB50, h51, h52, h53, h54⟩
                have hB55 : BF fQ M M49 := BF.go hB46 hB50
                refine vc_if_eq dX4_readOne_302 (fun h56 => ?_) (fun h56 => ?_)
                · refine vc_iconst dX4_readOne_309 rfl ?_
                  refine vc_zret dX4_readOne_310 rfl (by first | decide | omega) (Nat.le_of_ble_eq_true rfl) (Nat.le_of_ble_eq_true rfl) ?_
                  exact ⟨_, rfl, hB55, by omega, by omega, by omega, by omega⟩
                · refine vc_iconst dX4_readOne_305 rfl ?_
                  refine vc_goto dX4_readOne_306 ?_
                  refine vc_zret dX4_readOne_310 rfl (by first | decide | omega) (Nat.le_of_ble_eq_true rfl) (Nat.le_of_ble_eq_true rfl) ?_
                  exact ⟨_, rfl, hB55, by omega, by omega, by omega, by omega⟩
          · refine vc_aload_n dX4_readOne_185 rfl ?_
            refine vc_iconst dX4_readOne_186 rfl ?_
            refine vc_cVI dX4_readOne_187 (sfX4_failed (M := M) hB0.1  3 (by omega)) rfl okX4_failed viX4_failed lkX4_122 (s_22 hB0.1.1) cl_4 rfl (by show 0 < 11 + 3 * (nf + 1); omega) ⟨rfl, rfl⟩ (Nat.le_of_ble_eq_true rfl) (Nat.le_of_ble_eq_true rfl) (Nat.le_of_ble_eq_true rfl) ?_
            rintro x57 M58 ⟨hB59, h60, h61, h62, h63⟩
            have hB64 : BF fQ M M58 := BF.go hB0 hB59
            refine vc_zret dX4_readOne_190 rfl (by first | decide | omega) (Nat.le_of_ble_eq_true rfl) (Nat.le_of_ble_eq_true rfl) ?_
            exact ⟨_, rfl, hB64, by omega, by omega, by omega, by omega⟩
        · refine vc_aload_n dX4_readOne_164 rfl ?_
          refine vc_bipush dX4_readOne_165 rfl ?_
          refine vc_cVI dX4_readOne_167 (sfX4_isSign (M := M) hB0.1  45 ) rfl okX4_isSign viX4_isSign lkX4_163 (s_22 hB0.1.1) cl_4 rfl (by show 0 < 11 + 3 * (nf + 1); omega) ⟨rfl, rfl⟩ (Nat.le_of_ble_eq_true rfl) (Nat.le_of_ble_eq_true rfl) (Nat.le_of_ble_eq_true rfl) ?_
          rintro x65 _ ⟨rfl, h66, h67⟩
          refine vc_if_ne dX4_readOne_170 (fun h68 => ?_) (fun h68 => ?_)
          · refine vc_iload_n dX4_readOne_179 rfl ?_
            refine vc_bipush dX4_readOne_180 rfl ?_
            refine vc_icmp_lt dX4_readOne_182 (fun h69 => ?_) (fun h69 => ?_)
            · refine vc_aload_n dX4_readOne_191 rfl ?_
              refine vc_getI dX4_readOne_192 flX4_119 (s_22 hB0.1.1) rfl ?_
              refine vc_nameI (fun x70 ex70 => ?_)
              refine vc_istore_n dX4_readOne_195 (Nat.le_of_ble_eq_true rfl) rfl (show _ = [some (aR 22), some (aI d), some (aI 0), some (aI x70)] from rfl) ?_
              refine vc_aload_n dX4_readOne_196 rfl ?_
              refine vc_cVI dX4_readOne_197 (sfX4_takeToken (M := M) hB0.1   ) rfl okX4_takeToken viX4_takeToken lkX4_65 (s_22 hB0.1.1) cl_4 rfl (by show 0 < 11 + 3 * (nf + 1); omega) ⟨rfl, rfl⟩ (Nat.le_of_ble_eq_true rfl) (Nat.le_of_ble_eq_true rfl) (Nat.le_of_ble_eq_true rfl) ?_
              rintro x71 M72 ⟨hB73, h74, h75, h76, h77⟩
              have hB78 : BF fQ M M72 := BF.go hB0 hB73
              refine vc_pop dX4_readOne_200 rfl ?_
              refine vc_iload_n dX4_readOne_201 rfl ?_
              refine vc_if_eq dX4_readOne_202 (fun h79 => ?_) (fun h79 => by exfalso; omega)
              refine vc_iload_n dX4_readOne_280 rfl ?_
              refine vc_bipush dX4_readOne_281 rfl ?_
              refine vc_icmp_ne dX4_readOne_283 (fun h80 => ?_) (fun h80 => ?_)
              · refine vc_aload_n dX4_readOne_311 rfl ?_
                refine vc_iload_n dX4_readOne_312 rfl ?_
                refine vc_iconst dX4_readOne_313 rfl ?_
                refine vc_iaddE dX4_readOne_314 (by omega) (by omega) ?_
                refine vc_cVI dX4_readOne_315 (ho (M := M72) hB78.1  (d + 1) (by omega) (by omega) (by omega) (by omega)) rfl (okX4_readOne (11 + 3 * nf)) (viX4_readOne (11 + 3 * nf)) (lkX4_179 (11 + 3 * nf)) (s_22 hB78.1.1) cl_4 rfl (by show (11 + 3 * nf) < 11 + 3 * (nf + 1); omega) ⟨rfl, rfl⟩ (Nat.le_of_ble_eq_true rfl) (Nat.le_of_ble_eq_true rfl) (Nat.le_of_ble_eq_true rfl) ?_
                rintro x81 M82 ⟨hB83, h84, h85, h86, h87⟩
                have hB88 : BF fQ M M82 := BF.go hB78 hB83
                refine vc_if_eq dX4_readOne_318 (fun h89 => ?_) (fun h89 => ?_)
                · refine vc_iconst dX4_readOne_335 rfl ?_
                  refine vc_zret dX4_readOne_336 rfl (by first | decide | omega) (Nat.le_of_ble_eq_true rfl) (Nat.le_of_ble_eq_true rfl) ?_
                  exact ⟨_, rfl, hB88, by omega, by omega, by omega, by omega⟩
                · refine vc_aload_n dX4_readOne_321 rfl ?_
                  refine vc_sipush dX4_readOne_322 rfl ?_
                  refine vc_cVI dX4_readOne_325 (sfX4_emit (M := M82) hB88.1  20006 (by omega)) rfl okX4_emit viX4_emit lkX4_176 (s_22 hB88.1.1) cl_4 rfl (by show 0 < 11 + 3 * (nf + 1); omega) ⟨rfl, rfl⟩ (Nat.le_of_ble_eq_true rfl) (Nat.le_of_ble_eq_true rfl) (Nat.le_of_ble_eq_true rfl) ?_
                  rintro x90 M91 ⟨hB92, h93, h94, h95, h96⟩
                  have hB97 : BF fQ M M91 := BF.go hB88 hB92
                  refine vc_if_eq dX4_readOne_328 (fun h98 => ?_) (fun h98 => ?_)
                  · refine vc_iconst dX4_readOne_335 rfl ?_
                    refine vc_zret dX4_readOne_336 rfl (by first | decide | omega) (Nat.le_of_ble_eq_true rfl) (Nat.le_of_ble_eq_true rfl) ?_
                    exact ⟨_, rfl, hB97, by omega, by omega, by omega, by omega⟩
                  · refine vc_iconst dX4_readOne_331 rfl ?_
                    refine vc_goto dX4_readOne_332 ?_
                    refine vc_zret dX4_readOne_336 rfl (by first | decide | omega) (Nat.le_of_ble_eq_true rfl) (Nat.le_of_ble_eq_true rfl) ?_
                    exact ⟨_, rfl, hB97, by omega, by omega, by omega, by omega⟩
              · refine vc_aload_n dX4_readOne_286 rfl ?_
                refine vc_iload_n dX4_readOne_287 rfl ?_
                refine vc_iconst dX4_readOne_288 rfl ?_
                refine vc_iaddE dX4_readOne_289 (by omega) (by omega) ?_
                refine vc_cVI dX4_readOne_290 (hs (M := M72) hB78.1  (d + 1) (by omega) (by omega) (by omega) (by omega)) rfl (okX4_readSum (13 + 3 * nf)) (viX4_readSum (13 + 3 * nf)) (lkX4_132 (13 + 3 * nf)) (s_22 hB78.1.1) cl_4 rfl (by show (13 + 3 * nf) < 11 + 3 * (nf + 1); omega) ⟨rfl, rfl⟩ (Nat.le_of_ble_eq_true rfl) (Nat.le_of_ble_eq_true rfl) (Nat.le_of_ble_eq_true rfl) ?_
                rintro x99 M100 ⟨hB101, h102, h103, h104, h105⟩
                have hB106 : BF fQ M M100 := BF.go hB78 hB101
                refine vc_if_eq dX4_readOne_293 (fun h107 => ?_) (fun h107 => ?_)
                · refine vc_iconst dX4_readOne_309 rfl ?_
                  refine vc_zret dX4_readOne_310 rfl (by first | decide | omega) (Nat.le_of_ble_eq_true rfl) (Nat.le_of_ble_eq_true rfl) ?_
                  exact ⟨_, rfl, hB106, by omega, by omega, by omega, by omega⟩
                · refine vc_aload_n dX4_readOne_296 rfl ?_
                  refine vc_bipush dX4_readOne_297 rfl ?_
                  refine vc_cVI dX4_readOne_299 (sfX4_readSign (M := M100) hB106.1  41 (by omega)) rfl okX4_readSign viX4_readSign lkX4_141 (s_22 hB106.1.1) cl_4 rfl (by show 1 < 11 + 3 * (nf + 1); omega) ⟨rfl, rfl⟩ (Nat.le_of_ble_eq_true rfl) (Nat.le_of_ble_eq_true rfl) (Nat.le_of_ble_eq_true rfl) ?_
                  rintro x108 M109 ⟨hB110, h111, h112, h113, h114⟩
                  have hB115 : BF fQ M M109 := BF.go hB106 hB110
                  refine vc_if_eq dX4_readOne_302 (fun h116 => ?_) (fun h116 => ?_)
                  · refine vc_iconst dX4_readOne_309 rfl ?_
                    refine vc_zret dX4_readOne_310 rfl (by first | decide | omega) (Nat.le_of_ble_eq_true rfl) (Nat.le_of_ble_eq_true rfl) ?_
                    exact ⟨_, rfl, hB115, by omega, by omega, by omega, by omega⟩
                  · refine vc_iconst dX4_readOne_305 rfl ?_
                    refine vc_goto dX4_readOne_306 ?_
                    refine vc_zret dX4_readOne_310 rfl (by first | decide | omega) (Nat.le_of_ble_eq_true rfl) (Nat.le_of_ble_eq_true rfl) ?_
                    exact ⟨_, rfl, hB115, by omega, by omega, by omega, by omega⟩
            · refine vc_aload_n dX4_readOne_185 rfl ?_
              refine vc_iconst dX4_readOne_186 rfl ?_
              refine vc_cVI dX4_readOne_187 (sfX4_failed (M := M) hB0.1  3 (by omega)) rfl okX4_failed viX4_failed lkX4_122 (s_22 hB0.1.1) cl_4 rfl (by show 0 < 11 + 3 * (nf + 1); omega) ⟨rfl, rfl⟩ (Nat.le_of_ble_eq_true rfl) (Nat.le_of_ble_eq_true rfl) (Nat.le_of_ble_eq_true rfl) ?_
              rintro x117 M118 ⟨hB119, h120, h121, h122, h123⟩
              have hB124 : BF fQ M M118 := BF.go hB0 hB119
              refine vc_zret dX4_readOne_190 rfl (by first | decide | omega) (Nat.le_of_ble_eq_true rfl) (Nat.le_of_ble_eq_true rfl) ?_
              exact ⟨_, rfl, hB124, by omega, by omega, by omega, by omega⟩
          · refine vc_aload_n dX4_readOne_173 rfl ?_
            refine vc_iconst dX4_readOne_174 rfl ?_
            refine vc_cVI dX4_readOne_175 (sfX4_failed (M := M) hB0.1  1 (by omega)) rfl okX4_failed viX4_failed lkX4_122 (s_22 hB0.1.1) cl_4 rfl (by show 0 < 11 + 3 * (nf + 1); omega) ⟨rfl, rfl⟩ (Nat.le_of_ble_eq_true rfl) (Nat.le_of_ble_eq_true rfl) (Nat.le_of_ble_eq_true rfl) ?_
            rintro x125 M126 ⟨hB127, h128, h129, h130, h131⟩
            have hB132 : BF fQ M M126 := BF.go hB0 hB127
            refine vc_zret dX4_readOne_178 rfl (by first | decide | omega) (Nat.le_of_ble_eq_true rfl) (Nat.le_of_ble_eq_true rfl) ?_
            exact ⟨_, rfl, hB132, by omega, by omega, by omega, by omega⟩
      · refine vc_aload_n dX4_readOne_127 rfl ?_
        refine vc_getI dX4_readOne_128 flX4_119 (s_22 hB0.1.1) rfl ?_
        refine vc_bipush dX4_readOne_131 rfl ?_
        refine vc_icmp_eq dX4_readOne_133 (fun h133 => ?_) (fun h133 => ?_)
        · refine vc_iconst dX4_readOne_145 rfl ?_
          refine vc_goto dX4_readOne_146 ?_
          refine vc_istore_n dX4_readOne_150 (Nat.le_of_ble_eq_true rfl) rfl (show _ = [some (aR 22), some (aI d), some (aI 1), none] from rfl) ?_
          refine vc_iload_n dX4_readOne_151 rfl ?_
          refine vc_if_ne dX4_readOne_152 (fun h134 => ?_) (fun h134 => by exfalso; omega)
          refine vc_iload_n dX4_readOne_179 rfl ?_
          refine vc_bipush dX4_readOne_180 rfl ?_
          refine vc_icmp_lt dX4_readOne_182 (fun h135 => ?_) (fun h135 => ?_)
          · refine vc_aload_n dX4_readOne_191 rfl ?_
            refine vc_getI dX4_readOne_192 flX4_119 (s_22 hB0.1.1) rfl ?_
            refine vc_nameI (fun x136 ex136 => ?_)
            refine vc_istore_n dX4_readOne_195 (Nat.le_of_ble_eq_true rfl) rfl (show _ = [some (aR 22), some (aI d), some (aI 1), some (aI x136)] from rfl) ?_
            refine vc_aload_n dX4_readOne_196 rfl ?_
            refine vc_cVI dX4_readOne_197 (sfX4_takeToken (M := M) hB0.1   ) rfl okX4_takeToken viX4_takeToken lkX4_65 (s_22 hB0.1.1) cl_4 rfl (by show 0 < 11 + 3 * (nf + 1); omega) ⟨rfl, rfl⟩ (Nat.le_of_ble_eq_true rfl) (Nat.le_of_ble_eq_true rfl) (Nat.le_of_ble_eq_true rfl) ?_
            rintro x137 M138 ⟨hB139, h140, h141, h142, h143⟩
            have hB144 : BF fQ M M138 := BF.go hB0 hB139
            refine vc_pop dX4_readOne_200 rfl ?_
            refine vc_iload_n dX4_readOne_201 rfl ?_
            refine vc_if_eq dX4_readOne_202 (fun h145 => by exfalso; omega) (fun h145 => ?_)
            refine vc_aload_n dX4_readOne_205 rfl ?_
            refine vc_bipush dX4_readOne_206 rfl ?_
            refine vc_cVI dX4_readOne_208 (sfX4_readWord (M := M138) hB144.1  19 (by omega)) rfl okX4_readWord viX4_readWord lkX4_151 (s_22 hB144.1.1) cl_4 rfl (by show 1 < 11 + 3 * (nf + 1); omega) ⟨rfl, rfl⟩ (Nat.le_of_ble_eq_true rfl) (Nat.le_of_ble_eq_true rfl) (Nat.le_of_ble_eq_true rfl) ?_
            rintro x146 M147 ⟨hB148, h149, h150, h151, h152⟩
            have hB153 : BF fQ M M147 := BF.go hB144 hB148
            refine vc_if_eq dX4_readOne_211 (fun h154 => ?_) (fun h154 => ?_)
            · refine vc_iconst dX4_readOne_278 rfl ?_
              refine vc_zret dX4_readOne_279 rfl (by first | decide | omega) (Nat.le_of_ble_eq_true rfl) (Nat.le_of_ble_eq_true rfl) ?_
              exact ⟨_, rfl, hB153, by omega, by omega, by omega, by omega⟩
            · refine vc_aload_n dX4_readOne_214 rfl ?_
              refine vc_iload_n dX4_readOne_215 rfl ?_
              refine vc_iconst dX4_readOne_216 rfl ?_
              refine vc_iaddE dX4_readOne_217 (by omega) (by omega) ?_
              refine vc_cVI dX4_readOne_218 (hs (M := M147) hB153.1  (d + 1) (by omega) (by omega) (by omega) (by omega)) rfl (okX4_readSum (13 + 3 * nf)) (viX4_readSum (13 + 3 * nf)) (lkX4_132 (13 + 3 * nf)) (s_22 hB153.1.1) cl_4 rfl (by show (13 + 3 * nf) < 11 + 3 * (nf + 1); omega) ⟨rfl, rfl⟩ (Nat.le_of_ble_eq_true rfl) (Nat.le_of_ble_eq_true rfl) (Nat.le_of_ble_eq_true rfl) ?_
              rintro x155 M156 ⟨hB157, h158, h159, h160, h161⟩
              have hB162 : BF fQ M M156 := BF.go hB153 hB157
              refine vc_if_eq dX4_readOne_221 (fun h163 => ?_) (fun h163 => ?_)
              · refine vc_iconst dX4_readOne_278 rfl ?_
                refine vc_zret dX4_readOne_279 rfl (by first | decide | omega) (Nat.le_of_ble_eq_true rfl) (Nat.le_of_ble_eq_true rfl) ?_
                exact ⟨_, rfl, hB162, by omega, by omega, by omega, by omega⟩
              · refine vc_aload_n dX4_readOne_224 rfl ?_
                refine vc_bipush dX4_readOne_225 rfl ?_
                refine vc_cVI dX4_readOne_227 (sfX4_readSign (M := M156) hB162.1  44 (by omega)) rfl okX4_readSign viX4_readSign lkX4_141 (s_22 hB162.1.1) cl_4 rfl (by show 1 < 11 + 3 * (nf + 1); omega) ⟨rfl, rfl⟩ (Nat.le_of_ble_eq_true rfl) (Nat.le_of_ble_eq_true rfl) (Nat.le_of_ble_eq_true rfl) ?_
                rintro x164 M165 ⟨hB166, h167, h168, h169, h170⟩
                have hB171 : BF fQ M M165 := BF.go hB162 hB166
                refine vc_if_eq dX4_readOne_230 (fun h172 => ?_) (fun h172 => ?_)
                · refine vc_iconst dX4_readOne_278 rfl ?_
                  refine vc_zret dX4_readOne_279 rfl (by first | decide | omega) (Nat.le_of_ble_eq_true rfl) (Nat.le_of_ble_eq_true rfl) ?_
                  exact ⟨_, rfl, hB171, by omega, by omega, by omega, by omega⟩
                · refine vc_aload_n dX4_readOne_233 rfl ?_
                  refine vc_iload_n dX4_readOne_234 rfl ?_
                  refine vc_iconst dX4_readOne_235 rfl ?_
                  refine vc_iaddE dX4_readOne_236 (by omega) (by omega) ?_
                  refine vc_cVI dX4_readOne_237 (hs (M := M165) hB171.1  (d + 1) (by omega) (by omega) (by omega) (by omega)) rfl (okX4_readSum (13 + 3 * nf)) (viX4_readSum (13 + 3 * nf)) (lkX4_132 (13 + 3 * nf)) (s_22 hB171.1.1) cl_4 rfl (by show (13 + 3 * nf) < 11 + 3 * (nf + 1); omega) ⟨rfl, rfl⟩ (Nat.le_of_ble_eq_true rfl) (Nat.le_of_ble_eq_true rfl) (Nat.le_of_ble_eq_true rfl) ?_
                  rintro x173 M174 ⟨hB175, h176, h177, h178, h179⟩
                  have hB180 : BF fQ M M174 := BF.go hB171 hB175
                  refine vc_if_eq dX4_readOne_240 (fun h181 => ?_) (fun h181 => ?_)
                  · refine vc_iconst dX4_readOne_278 rfl ?_
                    refine vc_zret dX4_readOne_279 rfl (by first | decide | omega) (Nat.le_of_ble_eq_true rfl) (Nat.le_of_ble_eq_true rfl) ?_
                    exact ⟨_, rfl, hB180, by omega, by omega, by omega, by omega⟩
                  · refine vc_aload_n dX4_readOne_243 rfl ?_
                    refine vc_bipush dX4_readOne_244 rfl ?_
                    refine vc_cVI dX4_readOne_246 (sfX4_readWord (M := M174) hB180.1  20 (by omega)) rfl okX4_readWord viX4_readWord lkX4_151 (s_22 hB180.1.1) cl_4 rfl (by show 1 < 11 + 3 * (nf + 1); omega) ⟨rfl, rfl⟩ (Nat.le_of_ble_eq_true rfl) (Nat.le_of_ble_eq_true rfl) (Nat.le_of_ble_eq_true rfl) ?_
                    rintro x182 M183 ⟨hB184, h185, h186, h187, h188⟩
                    have hB189 : BF fQ M M183 := BF.go hB180 hB184
                    refine vc_if_eq dX4_readOne_249 (fun h190 => ?_) (fun h190 => ?_)
                    · refine vc_iconst dX4_readOne_278 rfl ?_
                      refine vc_zret dX4_readOne_279 rfl (by first | decide | omega) (Nat.le_of_ble_eq_true rfl) (Nat.le_of_ble_eq_true rfl) ?_
                      exact ⟨_, rfl, hB189, by omega, by omega, by omega, by omega⟩
                    · refine vc_aload_n dX4_readOne_252 rfl ?_
                      refine vc_iload_n dX4_readOne_253 rfl ?_
                      refine vc_bipush dX4_readOne_254 rfl ?_
                      refine vc_icmp_ne dX4_readOne_256 (fun h191 => by exfalso; omega) (fun h191 => ?_)
                      refine vc_sipush dX4_readOne_259 rfl ?_
                      refine vc_goto dX4_readOne_262 ?_
                      refine vc_cVI dX4_readOne_268 (sfX4_emit (M := M183) hB189.1  20004 (by omega)) rfl okX4_emit viX4_emit lkX4_176 (s_22 hB189.1.1) cl_4 rfl (by show 0 < 11 + 3 * (nf + 1); omega) ⟨rfl, rfl⟩ (Nat.le_of_ble_eq_true rfl) (Nat.le_of_ble_eq_true rfl) (Nat.le_of_ble_eq_true rfl) ?_
                      rintro x192 M193 ⟨hB194, h195, h196, h197, h198⟩
                      have hB199 : BF fQ M M193 := BF.go hB189 hB194
                      refine vc_if_eq dX4_readOne_271 (fun h200 => ?_) (fun h200 => ?_)
                      · refine vc_iconst dX4_readOne_278 rfl ?_
                        refine vc_zret dX4_readOne_279 rfl (by first | decide | omega) (Nat.le_of_ble_eq_true rfl) (Nat.le_of_ble_eq_true rfl) ?_
                        exact ⟨_, rfl, hB199, by omega, by omega, by omega, by omega⟩
                      · refine vc_iconst dX4_readOne_274 rfl ?_
                        refine vc_goto dX4_readOne_275 ?_
                        refine vc_zret dX4_readOne_279 rfl (by first | decide | omega) (Nat.le_of_ble_eq_true rfl) (Nat.le_of_ble_eq_true rfl) ?_
                        exact ⟨_, rfl, hB199, by omega, by omega, by omega, by omega⟩
          · refine vc_aload_n dX4_readOne_185 rfl ?_
            refine vc_iconst dX4_readOne_186 rfl ?_
            refine vc_cVI dX4_readOne_187 (sfX4_failed (M := M) hB0.1  3 (by omega)) rfl okX4_failed viX4_failed lkX4_122 (s_22 hB0.1.1) cl_4 rfl (by show 0 < 11 + 3 * (nf + 1); omega) ⟨rfl, rfl⟩ (Nat.le_of_ble_eq_true rfl) (Nat.le_of_ble_eq_true rfl) (Nat.le_of_ble_eq_true rfl) ?_
            rintro x201 M202 ⟨hB203, h204, h205, h206, h207⟩
            have hB208 : BF fQ M M202 := BF.go hB0 hB203
            refine vc_zret dX4_readOne_190 rfl (by first | decide | omega) (Nat.le_of_ble_eq_true rfl) (Nat.le_of_ble_eq_true rfl) ?_
            exact ⟨_, rfl, hB208, by omega, by omega, by omega, by omega⟩
        · refine vc_aload_n dX4_readOne_136 rfl ?_
          refine vc_getI dX4_readOne_137 flX4_119 (s_22 hB0.1.1) rfl ?_
          refine vc_bipush dX4_readOne_140 rfl ?_
          refine vc_icmp_ne dX4_readOne_142 (fun h209 => ?_) (fun h209 => ?_)
          · refine vc_iconst dX4_readOne_149 rfl ?_
            refine vc_istore_n dX4_readOne_150 (Nat.le_of_ble_eq_true rfl) rfl (show _ = [some (aR 22), some (aI d), some (aI 0), none] from rfl) ?_
            refine vc_iload_n dX4_readOne_151 rfl ?_
            refine vc_if_ne dX4_readOne_152 (fun h210 => by exfalso; omega) (fun h210 => ?_)
            refine vc_aload_n dX4_readOne_155 rfl ?_
            refine vc_bipush dX4_readOne_156 rfl ?_
            refine vc_cVI dX4_readOne_158 (sfX4_isSign (M := M) hB0.1  40 ) rfl okX4_isSign viX4_isSign lkX4_163 (s_22 hB0.1.1) cl_4 rfl (by show 0 < 11 + 3 * (nf + 1); omega) ⟨rfl, rfl⟩ (Nat.le_of_ble_eq_true rfl) (Nat.le_of_ble_eq_true rfl) (Nat.le_of_ble_eq_true rfl) ?_
            rintro x211 _ ⟨rfl, h212, h213⟩
            refine vc_if_ne dX4_readOne_161 (fun h214 => ?_) (fun h214 => ?_)
            · refine vc_iload_n dX4_readOne_179 rfl ?_
              refine vc_bipush dX4_readOne_180 rfl ?_
              refine vc_icmp_lt dX4_readOne_182 (fun h215 => ?_) (fun h215 => ?_)
              · refine vc_aload_n dX4_readOne_191 rfl ?_
                refine vc_getI dX4_readOne_192 flX4_119 (s_22 hB0.1.1) rfl ?_
                refine vc_nameI (fun x216 ex216 => ?_)
                refine vc_istore_n dX4_readOne_195 (Nat.le_of_ble_eq_true rfl) rfl (show _ = [some (aR 22), some (aI d), some (aI 0), some (aI x216)] from rfl) ?_
                refine vc_aload_n dX4_readOne_196 rfl ?_
                refine vc_cVI dX4_readOne_197 (sfX4_takeToken (M := M) hB0.1   ) rfl okX4_takeToken viX4_takeToken lkX4_65 (s_22 hB0.1.1) cl_4 rfl (by show 0 < 11 + 3 * (nf + 1); omega) ⟨rfl, rfl⟩ (Nat.le_of_ble_eq_true rfl) (Nat.le_of_ble_eq_true rfl) (Nat.le_of_ble_eq_true rfl) ?_
                rintro x217 M218 ⟨hB219, h220, h221, h222, h223⟩
                have hB224 : BF fQ M M218 := BF.go hB0 hB219
                refine vc_pop dX4_readOne_200 rfl ?_
                refine vc_iload_n dX4_readOne_201 rfl ?_
                refine vc_if_eq dX4_readOne_202 (fun h225 => ?_) (fun h225 => by exfalso; omega)
                refine vc_iload_n dX4_readOne_280 rfl ?_
                refine vc_bipush dX4_readOne_281 rfl ?_
                refine vc_icmp_ne dX4_readOne_283 (fun h226 => ?_) (fun h226 => ?_)
                · refine vc_aload_n dX4_readOne_311 rfl ?_
                  refine vc_iload_n dX4_readOne_312 rfl ?_
                  refine vc_iconst dX4_readOne_313 rfl ?_
                  refine vc_iaddE dX4_readOne_314 (by omega) (by omega) ?_
                  refine vc_cVI dX4_readOne_315 (ho (M := M218) hB224.1  (d + 1) (by omega) (by omega) (by omega) (by omega)) rfl (okX4_readOne (11 + 3 * nf)) (viX4_readOne (11 + 3 * nf)) (lkX4_179 (11 + 3 * nf)) (s_22 hB224.1.1) cl_4 rfl (by show (11 + 3 * nf) < 11 + 3 * (nf + 1); omega) ⟨rfl, rfl⟩ (Nat.le_of_ble_eq_true rfl) (Nat.le_of_ble_eq_true rfl) (Nat.le_of_ble_eq_true rfl) ?_
                  rintro x227 M228 ⟨hB229, h230, h231, h232, h233⟩
                  have hB234 : BF fQ M M228 := BF.go hB224 hB229
                  refine vc_if_eq dX4_readOne_318 (fun h235 => ?_) (fun h235 => ?_)
                  · refine vc_iconst dX4_readOne_335 rfl ?_
                    refine vc_zret dX4_readOne_336 rfl (by first | decide | omega) (Nat.le_of_ble_eq_true rfl) (Nat.le_of_ble_eq_true rfl) ?_
                    exact ⟨_, rfl, hB234, by omega, by omega, by omega, by omega⟩
                  · refine vc_aload_n dX4_readOne_321 rfl ?_
                    refine vc_sipush dX4_readOne_322 rfl ?_
                    refine vc_cVI dX4_readOne_325 (sfX4_emit (M := M228) hB234.1  20006 (by omega)) rfl okX4_emit viX4_emit lkX4_176 (s_22 hB234.1.1) cl_4 rfl (by show 0 < 11 + 3 * (nf + 1); omega) ⟨rfl, rfl⟩ (Nat.le_of_ble_eq_true rfl) (Nat.le_of_ble_eq_true rfl) (Nat.le_of_ble_eq_true rfl) ?_
                    rintro x236 M237 ⟨hB238, h239, h240, h241, h242⟩
                    have hB243 : BF fQ M M237 := BF.go hB234 hB238
                    refine vc_if_eq dX4_readOne_328 (fun h244 => ?_) (fun h244 => ?_)
                    · refine vc_iconst dX4_readOne_335 rfl ?_
                      refine vc_zret dX4_readOne_336 rfl (by first | decide | omega) (Nat.le_of_ble_eq_true rfl) (Nat.le_of_ble_eq_true rfl) ?_
                      exact ⟨_, rfl, hB243, by omega, by omega, by omega, by omega⟩
                    · refine vc_iconst dX4_readOne_331 rfl ?_
                      refine vc_goto dX4_readOne_332 ?_
                      refine vc_zret dX4_readOne_336 rfl (by first | decide | omega) (Nat.le_of_ble_eq_true rfl) (Nat.le_of_ble_eq_true rfl) ?_
                      exact ⟨_, rfl, hB243, by omega, by omega, by omega, by omega⟩
                · refine vc_aload_n dX4_readOne_286 rfl ?_
                  refine vc_iload_n dX4_readOne_287 rfl ?_
                  refine vc_iconst dX4_readOne_288 rfl ?_
                  refine vc_iaddE dX4_readOne_289 (by omega) (by omega) ?_
                  refine vc_cVI dX4_readOne_290 (hs (M := M218) hB224.1  (d + 1) (by omega) (by omega) (by omega) (by omega)) rfl (okX4_readSum (13 + 3 * nf)) (viX4_readSum (13 + 3 * nf)) (lkX4_132 (13 + 3 * nf)) (s_22 hB224.1.1) cl_4 rfl (by show (13 + 3 * nf) < 11 + 3 * (nf + 1); omega) ⟨rfl, rfl⟩ (Nat.le_of_ble_eq_true rfl) (Nat.le_of_ble_eq_true rfl) (Nat.le_of_ble_eq_true rfl) ?_
                  rintro x245 M246 ⟨hB247, h248, h249, h250, h251⟩
                  have hB252 : BF fQ M M246 := BF.go hB224 hB247
                  refine vc_if_eq dX4_readOne_293 (fun h253 => ?_) (fun h253 => ?_)
                  · refine vc_iconst dX4_readOne_309 rfl ?_
                    refine vc_zret dX4_readOne_310 rfl (by first | decide | omega) (Nat.le_of_ble_eq_true rfl) (Nat.le_of_ble_eq_true rfl) ?_
                    exact ⟨_, rfl, hB252, by omega, by omega, by omega, by omega⟩
                  · refine vc_aload_n dX4_readOne_296 rfl ?_
                    refine vc_bipush dX4_readOne_297 rfl ?_
                    refine vc_cVI dX4_readOne_299 (sfX4_readSign (M := M246) hB252.1  41 (by omega)) rfl okX4_readSign viX4_readSign lkX4_141 (s_22 hB252.1.1) cl_4 rfl (by show 1 < 11 + 3 * (nf + 1); omega) ⟨rfl, rfl⟩ (Nat.le_of_ble_eq_true rfl) (Nat.le_of_ble_eq_true rfl) (Nat.le_of_ble_eq_true rfl) ?_
                    rintro x254 M255 ⟨hB256, h257, h258, h259, h260⟩
                    have hB261 : BF fQ M M255 := BF.go hB252 hB256
                    refine vc_if_eq dX4_readOne_302 (fun h262 => ?_) (fun h262 => ?_)
                    · refine vc_iconst dX4_readOne_309 rfl ?_
                      refine vc_zret dX4_readOne_310 rfl (by first | decide | omega) (Nat.le_of_ble_eq_true rfl) (Nat.le_of_ble_eq_true rfl) ?_
                      exact ⟨_, rfl, hB261, by omega, by omega, by omega, by omega⟩
                    · refine vc_iconst dX4_readOne_305 rfl ?_
                      refine vc_goto dX4_readOne_306 ?_
                      refine vc_zret dX4_readOne_310 rfl (by first | decide | omega) (Nat.le_of_ble_eq_true rfl) (Nat.le_of_ble_eq_true rfl) ?_
                      exact ⟨_, rfl, hB261, by omega, by omega, by omega, by omega⟩
              · refine vc_aload_n dX4_readOne_185 rfl ?_
                refine vc_iconst dX4_readOne_186 rfl ?_
                refine vc_cVI dX4_readOne_187 (sfX4_failed (M := M) hB0.1  3 (by omega)) rfl okX4_failed viX4_failed lkX4_122 (s_22 hB0.1.1) cl_4 rfl (by show 0 < 11 + 3 * (nf + 1); omega) ⟨rfl, rfl⟩ (Nat.le_of_ble_eq_true rfl) (Nat.le_of_ble_eq_true rfl) (Nat.le_of_ble_eq_true rfl) ?_
                rintro x263 M264 ⟨hB265, h266, h267, h268, h269⟩
                have hB270 : BF fQ M M264 := BF.go hB0 hB265
                refine vc_zret dX4_readOne_190 rfl (by first | decide | omega) (Nat.le_of_ble_eq_true rfl) (Nat.le_of_ble_eq_true rfl) ?_
                exact ⟨_, rfl, hB270, by omega, by omega, by omega, by omega⟩
            · refine vc_aload_n dX4_readOne_164 rfl ?_
              refine vc_bipush dX4_readOne_165 rfl ?_
              refine vc_cVI dX4_readOne_167 (sfX4_isSign (M := M) hB0.1  45 ) rfl okX4_isSign viX4_isSign lkX4_163 (s_22 hB0.1.1) cl_4 rfl (by show 0 < 11 + 3 * (nf + 1); omega) ⟨rfl, rfl⟩ (Nat.le_of_ble_eq_true rfl) (Nat.le_of_ble_eq_true rfl) (Nat.le_of_ble_eq_true rfl) ?_
              rintro x271 _ ⟨rfl, h272, h273⟩
              refine vc_if_ne dX4_readOne_170 (fun h274 => ?_) (fun h274 => ?_)
              · refine vc_iload_n dX4_readOne_179 rfl ?_
                refine vc_bipush dX4_readOne_180 rfl ?_
                refine vc_icmp_lt dX4_readOne_182 (fun h275 => ?_) (fun h275 => ?_)
                · refine vc_aload_n dX4_readOne_191 rfl ?_
                  refine vc_getI dX4_readOne_192 flX4_119 (s_22 hB0.1.1) rfl ?_
                  refine vc_nameI (fun x276 ex276 => ?_)
                  refine vc_istore_n dX4_readOne_195 (Nat.le_of_ble_eq_true rfl) rfl (show _ = [some (aR 22), some (aI d), some (aI 0), some (aI x276)] from rfl) ?_
                  refine vc_aload_n dX4_readOne_196 rfl ?_
                  refine vc_cVI dX4_readOne_197 (sfX4_takeToken (M := M) hB0.1   ) rfl okX4_takeToken viX4_takeToken lkX4_65 (s_22 hB0.1.1) cl_4 rfl (by show 0 < 11 + 3 * (nf + 1); omega) ⟨rfl, rfl⟩ (Nat.le_of_ble_eq_true rfl) (Nat.le_of_ble_eq_true rfl) (Nat.le_of_ble_eq_true rfl) ?_
                  rintro x277 M278 ⟨hB279, h280, h281, h282, h283⟩
                  have hB284 : BF fQ M M278 := BF.go hB0 hB279
                  refine vc_pop dX4_readOne_200 rfl ?_
                  refine vc_iload_n dX4_readOne_201 rfl ?_
                  refine vc_if_eq dX4_readOne_202 (fun h285 => ?_) (fun h285 => by exfalso; omega)
                  refine vc_iload_n dX4_readOne_280 rfl ?_
                  refine vc_bipush dX4_readOne_281 rfl ?_
                  refine vc_icmp_ne dX4_readOne_283 (fun h286 => ?_) (fun h286 => ?_)
                  · refine vc_aload_n dX4_readOne_311 rfl ?_
                    refine vc_iload_n dX4_readOne_312 rfl ?_
                    refine vc_iconst dX4_readOne_313 rfl ?_
                    refine vc_iaddE dX4_readOne_314 (by omega) (by omega) ?_
                    refine vc_cVI dX4_readOne_315 (ho (M := M278) hB284.1  (d + 1) (by omega) (by omega) (by omega) (by omega)) rfl (okX4_readOne (11 + 3 * nf)) (viX4_readOne (11 + 3 * nf)) (lkX4_179 (11 + 3 * nf)) (s_22 hB284.1.1) cl_4 rfl (by show (11 + 3 * nf) < 11 + 3 * (nf + 1); omega) ⟨rfl, rfl⟩ (Nat.le_of_ble_eq_true rfl) (Nat.le_of_ble_eq_true rfl) (Nat.le_of_ble_eq_true rfl) ?_
                    rintro x287 M288 ⟨hB289, h290, h291, h292, h293⟩
                    have hB294 : BF fQ M M288 := BF.go hB284 hB289
                    refine vc_if_eq dX4_readOne_318 (fun h295 => ?_) (fun h295 => ?_)
                    · refine vc_iconst dX4_readOne_335 rfl ?_
                      refine vc_zret dX4_readOne_336 rfl (by first | decide | omega) (Nat.le_of_ble_eq_true rfl) (Nat.le_of_ble_eq_true rfl) ?_
                      exact ⟨_, rfl, hB294, by omega, by omega, by omega, by omega⟩
                    · refine vc_aload_n dX4_readOne_321 rfl ?_
                      refine vc_sipush dX4_readOne_322 rfl ?_
                      refine vc_cVI dX4_readOne_325 (sfX4_emit (M := M288) hB294.1  20006 (by omega)) rfl okX4_emit viX4_emit lkX4_176 (s_22 hB294.1.1) cl_4 rfl (by show 0 < 11 + 3 * (nf + 1); omega) ⟨rfl, rfl⟩ (Nat.le_of_ble_eq_true rfl) (Nat.le_of_ble_eq_true rfl) (Nat.le_of_ble_eq_true rfl) ?_
                      rintro x296 M297 ⟨hB298, h299, h300, h301, h302⟩
                      have hB303 : BF fQ M M297 := BF.go hB294 hB298
                      refine vc_if_eq dX4_readOne_328 (fun h304 => ?_) (fun h304 => ?_)
                      · refine vc_iconst dX4_readOne_335 rfl ?_
                        refine vc_zret dX4_readOne_336 rfl (by first | decide | omega) (Nat.le_of_ble_eq_true rfl) (Nat.le_of_ble_eq_true rfl) ?_
                        exact ⟨_, rfl, hB303, by omega, by omega, by omega, by omega⟩
                      · refine vc_iconst dX4_readOne_331 rfl ?_
                        refine vc_goto dX4_readOne_332 ?_
                        refine vc_zret dX4_readOne_336 rfl (by first | decide | omega) (Nat.le_of_ble_eq_true rfl) (Nat.le_of_ble_eq_true rfl) ?_
                        exact ⟨_, rfl, hB303, by omega, by omega, by omega, by omega⟩
                  · refine vc_aload_n dX4_readOne_286 rfl ?_
                    refine vc_iload_n dX4_readOne_287 rfl ?_
                    refine vc_iconst dX4_readOne_288 rfl ?_
                    refine vc_iaddE dX4_readOne_289 (by omega) (by omega) ?_
                    refine vc_cVI dX4_readOne_290 (hs (M := M278) hB284.1  (d + 1) (by omega) (by omega) (by omega) (by omega)) rfl (okX4_readSum (13 + 3 * nf)) (viX4_readSum (13 + 3 * nf)) (lkX4_132 (13 + 3 * nf)) (s_22 hB284.1.1) cl_4 rfl (by show (13 + 3 * nf) < 11 + 3 * (nf + 1); omega) ⟨rfl, rfl⟩ (Nat.le_of_ble_eq_true rfl) (Nat.le_of_ble_eq_true rfl) (Nat.le_of_ble_eq_true rfl) ?_
                    rintro x305 M306 ⟨hB307, h308, h309, h310, h311⟩
                    have hB312 : BF fQ M M306 := BF.go hB284 hB307
                    refine vc_if_eq dX4_readOne_293 (fun h313 => ?_) (fun h313 => ?_)
                    · refine vc_iconst dX4_readOne_309 rfl ?_
                      refine vc_zret dX4_readOne_310 rfl (by first | decide | omega) (Nat.le_of_ble_eq_true rfl) (Nat.le_of_ble_eq_true rfl) ?_
                      exact ⟨_, rfl, hB312, by omega, by omega, by omega, by omega⟩
                    · refine vc_aload_n dX4_readOne_296 rfl ?_
                      refine vc_bipush dX4_readOne_297 rfl ?_
                      refine vc_cVI dX4_readOne_299 (sfX4_readSign (M := M306) hB312.1  41 (by omega)) rfl okX4_readSign viX4_readSign lkX4_141 (s_22 hB312.1.1) cl_4 rfl (by show 1 < 11 + 3 * (nf + 1); omega) ⟨rfl, rfl⟩ (Nat.le_of_ble_eq_true rfl) (Nat.le_of_ble_eq_true rfl) (Nat.le_of_ble_eq_true rfl) ?_
                      rintro x314 M315 ⟨hB316, h317, h318, h319, h320⟩
                      have hB321 : BF fQ M M315 := BF.go hB312 hB316
                      refine vc_if_eq dX4_readOne_302 (fun h322 => ?_) (fun h322 => ?_)
                      · refine vc_iconst dX4_readOne_309 rfl ?_
                        refine vc_zret dX4_readOne_310 rfl (by first | decide | omega) (Nat.le_of_ble_eq_true rfl) (Nat.le_of_ble_eq_true rfl) ?_
                        exact ⟨_, rfl, hB321, by omega, by omega, by omega, by omega⟩
                      · refine vc_iconst dX4_readOne_305 rfl ?_
                        refine vc_goto dX4_readOne_306 ?_
                        refine vc_zret dX4_readOne_310 rfl (by first | decide | omega) (Nat.le_of_ble_eq_true rfl) (Nat.le_of_ble_eq_true rfl) ?_
                        exact ⟨_, rfl, hB321, by omega, by omega, by omega, by omega⟩
                · refine vc_aload_n dX4_readOne_185 rfl ?_
                  refine vc_iconst dX4_readOne_186 rfl ?_
                  refine vc_cVI dX4_readOne_187 (sfX4_failed (M := M) hB0.1  3 (by omega)) rfl okX4_failed viX4_failed lkX4_122 (s_22 hB0.1.1) cl_4 rfl (by show 0 < 11 + 3 * (nf + 1); omega) ⟨rfl, rfl⟩ (Nat.le_of_ble_eq_true rfl) (Nat.le_of_ble_eq_true rfl) (Nat.le_of_ble_eq_true rfl) ?_
                  rintro x323 M324 ⟨hB325, h326, h327, h328, h329⟩
                  have hB330 : BF fQ M M324 := BF.go hB0 hB325
                  refine vc_zret dX4_readOne_190 rfl (by first | decide | omega) (Nat.le_of_ble_eq_true rfl) (Nat.le_of_ble_eq_true rfl) ?_
                  exact ⟨_, rfl, hB330, by omega, by omega, by omega, by omega⟩
              · refine vc_aload_n dX4_readOne_173 rfl ?_
                refine vc_iconst dX4_readOne_174 rfl ?_
                refine vc_cVI dX4_readOne_175 (sfX4_failed (M := M) hB0.1  1 (by omega)) rfl okX4_failed viX4_failed lkX4_122 (s_22 hB0.1.1) cl_4 rfl (by show 0 < 11 + 3 * (nf + 1); omega) ⟨rfl, rfl⟩ (Nat.le_of_ble_eq_true rfl) (Nat.le_of_ble_eq_true rfl) (Nat.le_of_ble_eq_true rfl) ?_
                rintro x331 M332 ⟨hB333, h334, h335, h336, h337⟩
                have hB338 : BF fQ M M332 := BF.go hB0 hB333
                refine vc_zret dX4_readOne_178 rfl (by first | decide | omega) (Nat.le_of_ble_eq_true rfl) (Nat.le_of_ble_eq_true rfl) ?_
                exact ⟨_, rfl, hB338, by omega, by omega, by omega, by omega⟩
          · refine vc_iconst dX4_readOne_145 rfl ?_
            refine vc_goto dX4_readOne_146 ?_
            refine vc_istore_n dX4_readOne_150 (Nat.le_of_ble_eq_true rfl) rfl (show _ = [some (aR 22), some (aI d), some (aI 1), none] from rfl) ?_
            refine vc_iload_n dX4_readOne_151 rfl ?_
            refine vc_if_ne dX4_readOne_152 (fun h339 => ?_) (fun h339 => by exfalso; omega)
            refine vc_iload_n dX4_readOne_179 rfl ?_
            refine vc_bipush dX4_readOne_180 rfl ?_
            refine vc_icmp_lt dX4_readOne_182 (fun h340 => ?_) (fun h340 => ?_)
            · refine vc_aload_n dX4_readOne_191 rfl ?_
              refine vc_getI dX4_readOne_192 flX4_119 (s_22 hB0.1.1) rfl ?_
              refine vc_nameI (fun x341 ex341 => ?_)
              refine vc_istore_n dX4_readOne_195 (Nat.le_of_ble_eq_true rfl) rfl (show _ = [some (aR 22), some (aI d), some (aI 1), some (aI x341)] from rfl) ?_
              refine vc_aload_n dX4_readOne_196 rfl ?_
              refine vc_cVI dX4_readOne_197 (sfX4_takeToken (M := M) hB0.1   ) rfl okX4_takeToken viX4_takeToken lkX4_65 (s_22 hB0.1.1) cl_4 rfl (by show 0 < 11 + 3 * (nf + 1); omega) ⟨rfl, rfl⟩ (Nat.le_of_ble_eq_true rfl) (Nat.le_of_ble_eq_true rfl) (Nat.le_of_ble_eq_true rfl) ?_
              rintro x342 M343 ⟨hB344, h345, h346, h347, h348⟩
              have hB349 : BF fQ M M343 := BF.go hB0 hB344
              refine vc_pop dX4_readOne_200 rfl ?_
              refine vc_iload_n dX4_readOne_201 rfl ?_
              refine vc_if_eq dX4_readOne_202 (fun h350 => by exfalso; omega) (fun h350 => ?_)
              refine vc_aload_n dX4_readOne_205 rfl ?_
              refine vc_bipush dX4_readOne_206 rfl ?_
              refine vc_cVI dX4_readOne_208 (sfX4_readWord (M := M343) hB349.1  19 (by omega)) rfl okX4_readWord viX4_readWord lkX4_151 (s_22 hB349.1.1) cl_4 rfl (by show 1 < 11 + 3 * (nf + 1); omega) ⟨rfl, rfl⟩ (Nat.le_of_ble_eq_true rfl) (Nat.le_of_ble_eq_true rfl) (Nat.le_of_ble_eq_true rfl) ?_
              rintro x351 M352 ⟨hB353, h354, h355, h356, h357⟩
              have hB358 : BF fQ M M352 := BF.go hB349 hB353
              refine vc_if_eq dX4_readOne_211 (fun h359 => ?_) (fun h359 => ?_)
              · refine vc_iconst dX4_readOne_278 rfl ?_
                refine vc_zret dX4_readOne_279 rfl (by first | decide | omega) (Nat.le_of_ble_eq_true rfl) (Nat.le_of_ble_eq_true rfl) ?_
                exact ⟨_, rfl, hB358, by omega, by omega, by omega, by omega⟩
              · refine vc_aload_n dX4_readOne_214 rfl ?_
                refine vc_iload_n dX4_readOne_215 rfl ?_
                refine vc_iconst dX4_readOne_216 rfl ?_
                refine vc_iaddE dX4_readOne_217 (by omega) (by omega) ?_
                refine vc_cVI dX4_readOne_218 (hs (M := M352) hB358.1  (d + 1) (by omega) (by omega) (by omega) (by omega)) rfl (okX4_readSum (13 + 3 * nf)) (viX4_readSum (13 + 3 * nf)) (lkX4_132 (13 + 3 * nf)) (s_22 hB358.1.1) cl_4 rfl (by show (13 + 3 * nf) < 11 + 3 * (nf + 1); omega) ⟨rfl, rfl⟩ (Nat.le_of_ble_eq_true rfl) (Nat.le_of_ble_eq_true rfl) (Nat.le_of_ble_eq_true rfl) ?_
                rintro x360 M361 ⟨hB362, h363, h364, h365, h366⟩
                have hB367 : BF fQ M M361 := BF.go hB358 hB362
                refine vc_if_eq dX4_readOne_221 (fun h368 => ?_) (fun h368 => ?_)
                · refine vc_iconst dX4_readOne_278 rfl ?_
                  refine vc_zret dX4_readOne_279 rfl (by first | decide | omega) (Nat.le_of_ble_eq_true rfl) (Nat.le_of_ble_eq_true rfl) ?_
                  exact ⟨_, rfl, hB367, by omega, by omega, by omega, by omega⟩
                · refine vc_aload_n dX4_readOne_224 rfl ?_
                  refine vc_bipush dX4_readOne_225 rfl ?_
                  refine vc_cVI dX4_readOne_227 (sfX4_readSign (M := M361) hB367.1  44 (by omega)) rfl okX4_readSign viX4_readSign lkX4_141 (s_22 hB367.1.1) cl_4 rfl (by show 1 < 11 + 3 * (nf + 1); omega) ⟨rfl, rfl⟩ (Nat.le_of_ble_eq_true rfl) (Nat.le_of_ble_eq_true rfl) (Nat.le_of_ble_eq_true rfl) ?_
                  rintro x369 M370 ⟨hB371, h372, h373, h374, h375⟩
                  have hB376 : BF fQ M M370 := BF.go hB367 hB371
                  refine vc_if_eq dX4_readOne_230 (fun h377 => ?_) (fun h377 => ?_)
                  · refine vc_iconst dX4_readOne_278 rfl ?_
                    refine vc_zret dX4_readOne_279 rfl (by first | decide | omega) (Nat.le_of_ble_eq_true rfl) (Nat.le_of_ble_eq_true rfl) ?_
                    exact ⟨_, rfl, hB376, by omega, by omega, by omega, by omega⟩
                  · refine vc_aload_n dX4_readOne_233 rfl ?_
                    refine vc_iload_n dX4_readOne_234 rfl ?_
                    refine vc_iconst dX4_readOne_235 rfl ?_
                    refine vc_iaddE dX4_readOne_236 (by omega) (by omega) ?_
                    refine vc_cVI dX4_readOne_237 (hs (M := M370) hB376.1  (d + 1) (by omega) (by omega) (by omega) (by omega)) rfl (okX4_readSum (13 + 3 * nf)) (viX4_readSum (13 + 3 * nf)) (lkX4_132 (13 + 3 * nf)) (s_22 hB376.1.1) cl_4 rfl (by show (13 + 3 * nf) < 11 + 3 * (nf + 1); omega) ⟨rfl, rfl⟩ (Nat.le_of_ble_eq_true rfl) (Nat.le_of_ble_eq_true rfl) (Nat.le_of_ble_eq_true rfl) ?_
                    rintro x378 M379 ⟨hB380, h381, h382, h383, h384⟩
                    have hB385 : BF fQ M M379 := BF.go hB376 hB380
                    refine vc_if_eq dX4_readOne_240 (fun h386 => ?_) (fun h386 => ?_)
                    · refine vc_iconst dX4_readOne_278 rfl ?_
                      refine vc_zret dX4_readOne_279 rfl (by first | decide | omega) (Nat.le_of_ble_eq_true rfl) (Nat.le_of_ble_eq_true rfl) ?_
                      exact ⟨_, rfl, hB385, by omega, by omega, by omega, by omega⟩
                    · refine vc_aload_n dX4_readOne_243 rfl ?_
                      refine vc_bipush dX4_readOne_244 rfl ?_
                      refine vc_cVI dX4_readOne_246 (sfX4_readWord (M := M379) hB385.1  20 (by omega)) rfl okX4_readWord viX4_readWord lkX4_151 (s_22 hB385.1.1) cl_4 rfl (by show 1 < 11 + 3 * (nf + 1); omega) ⟨rfl, rfl⟩ (Nat.le_of_ble_eq_true rfl) (Nat.le_of_ble_eq_true rfl) (Nat.le_of_ble_eq_true rfl) ?_
                      rintro x387 M388 ⟨hB389, h390, h391, h392, h393⟩
                      have hB394 : BF fQ M M388 := BF.go hB385 hB389
                      refine vc_if_eq dX4_readOne_249 (fun h395 => ?_) (fun h395 => ?_)
                      · refine vc_iconst dX4_readOne_278 rfl ?_
                        refine vc_zret dX4_readOne_279 rfl (by first | decide | omega) (Nat.le_of_ble_eq_true rfl) (Nat.le_of_ble_eq_true rfl) ?_
                        exact ⟨_, rfl, hB394, by omega, by omega, by omega, by omega⟩
                      · refine vc_aload_n dX4_readOne_252 rfl ?_
                        refine vc_iload_n dX4_readOne_253 rfl ?_
                        refine vc_bipush dX4_readOne_254 rfl ?_
                        refine vc_icmp_ne dX4_readOne_256 (fun h396 => ?_) (fun h396 => by exfalso; omega)
                        refine vc_sipush dX4_readOne_265 rfl ?_
                        refine vc_cVI dX4_readOne_268 (sfX4_emit (M := M388) hB394.1  20005 (by omega)) rfl okX4_emit viX4_emit lkX4_176 (s_22 hB394.1.1) cl_4 rfl (by show 0 < 11 + 3 * (nf + 1); omega) ⟨rfl, rfl⟩ (Nat.le_of_ble_eq_true rfl) (Nat.le_of_ble_eq_true rfl) (Nat.le_of_ble_eq_true rfl) ?_
                        rintro x397 M398 ⟨hB399, h400, h401, h402, h403⟩
                        have hB404 : BF fQ M M398 := BF.go hB394 hB399
                        refine vc_if_eq dX4_readOne_271 (fun h405 => ?_) (fun h405 => ?_)
                        · refine vc_iconst dX4_readOne_278 rfl ?_
                          refine vc_zret dX4_readOne_279 rfl (by first | decide | omega) (Nat.le_of_ble_eq_true rfl) (Nat.le_of_ble_eq_true rfl) ?_
                          exact ⟨_, rfl, hB404, by omega, by omega, by omega, by omega⟩
                        · refine vc_iconst dX4_readOne_274 rfl ?_
                          refine vc_goto dX4_readOne_275 ?_
                          refine vc_zret dX4_readOne_279 rfl (by first | decide | omega) (Nat.le_of_ble_eq_true rfl) (Nat.le_of_ble_eq_true rfl) ?_
                          exact ⟨_, rfl, hB404, by omega, by omega, by omega, by omega⟩
            · refine vc_aload_n dX4_readOne_185 rfl ?_
              refine vc_iconst dX4_readOne_186 rfl ?_
              refine vc_cVI dX4_readOne_187 (sfX4_failed (M := M) hB0.1  3 (by omega)) rfl okX4_failed viX4_failed lkX4_122 (s_22 hB0.1.1) cl_4 rfl (by show 0 < 11 + 3 * (nf + 1); omega) ⟨rfl, rfl⟩ (Nat.le_of_ble_eq_true rfl) (Nat.le_of_ble_eq_true rfl) (Nat.le_of_ble_eq_true rfl) ?_
              rintro x406 M407 ⟨hB408, h409, h410, h411, h412⟩
              have hB413 : BF fQ M M407 := BF.go hB0 hB408
              refine vc_zret dX4_readOne_190 rfl (by first | decide | omega) (Nat.le_of_ble_eq_true rfl) (Nat.le_of_ble_eq_true rfl) ?_
              exact ⟨_, rfl, hB413, by omega, by omega, by omega, by omega⟩
    · refine vc_aload_n dX4_readOne_58 rfl ?_
      refine vc_getI dX4_readOne_59 flX4_119 (s_22 hB0.1.1) rfl ?_
      refine vc_bipush dX4_readOne_62 rfl ?_
      refine vc_icmp_lt dX4_readOne_64 (fun h414 => ?_) (fun h414 => ?_)
      · refine vc_aload_n dX4_readOne_119 rfl ?_
        refine vc_getI dX4_readOne_120 flX4_69 (s_22 hB0.1.1) rfl ?_
        refine vc_iconst dX4_readOne_123 rfl ?_
        refine vc_icmp_ne dX4_readOne_124 (fun h415 => by exfalso; omega) (fun h415 => ?_)
        refine vc_aload_n dX4_readOne_127 rfl ?_
        refine vc_getI dX4_readOne_128 flX4_119 (s_22 hB0.1.1) rfl ?_
        refine vc_bipush dX4_readOne_131 rfl ?_
        refine vc_icmp_eq dX4_readOne_133 (fun h416 => ?_) (fun h416 => ?_)
        · refine vc_iconst dX4_readOne_145 rfl ?_
          refine vc_goto dX4_readOne_146 ?_
          refine vc_istore_n dX4_readOne_150 (Nat.le_of_ble_eq_true rfl) rfl (show _ = [some (aR 22), some (aI d), some (aI 1), none] from rfl) ?_
          refine vc_iload_n dX4_readOne_151 rfl ?_
          refine vc_if_ne dX4_readOne_152 (fun h417 => ?_) (fun h417 => by exfalso; omega)
          refine vc_iload_n dX4_readOne_179 rfl ?_
          refine vc_bipush dX4_readOne_180 rfl ?_
          refine vc_icmp_lt dX4_readOne_182 (fun h418 => ?_) (fun h418 => ?_)
          · refine vc_aload_n dX4_readOne_191 rfl ?_
            refine vc_getI dX4_readOne_192 flX4_119 (s_22 hB0.1.1) rfl ?_
            refine vc_nameI (fun x419 ex419 => ?_)
            refine vc_istore_n dX4_readOne_195 (Nat.le_of_ble_eq_true rfl) rfl (show _ = [some (aR 22), some (aI d), some (aI 1), some (aI x419)] from rfl) ?_
            refine vc_aload_n dX4_readOne_196 rfl ?_
            refine vc_cVI dX4_readOne_197 (sfX4_takeToken (M := M) hB0.1   ) rfl okX4_takeToken viX4_takeToken lkX4_65 (s_22 hB0.1.1) cl_4 rfl (by show 0 < 11 + 3 * (nf + 1); omega) ⟨rfl, rfl⟩ (Nat.le_of_ble_eq_true rfl) (Nat.le_of_ble_eq_true rfl) (Nat.le_of_ble_eq_true rfl) ?_
            rintro x420 M421 ⟨hB422, h423, h424, h425, h426⟩
            have hB427 : BF fQ M M421 := BF.go hB0 hB422
            refine vc_pop dX4_readOne_200 rfl ?_
            refine vc_iload_n dX4_readOne_201 rfl ?_
            refine vc_if_eq dX4_readOne_202 (fun h428 => by exfalso; omega) (fun h428 => ?_)
            refine vc_aload_n dX4_readOne_205 rfl ?_
            refine vc_bipush dX4_readOne_206 rfl ?_
            refine vc_cVI dX4_readOne_208 (sfX4_readWord (M := M421) hB427.1  19 (by omega)) rfl okX4_readWord viX4_readWord lkX4_151 (s_22 hB427.1.1) cl_4 rfl (by show 1 < 11 + 3 * (nf + 1); omega) ⟨rfl, rfl⟩ (Nat.le_of_ble_eq_true rfl) (Nat.le_of_ble_eq_true rfl) (Nat.le_of_ble_eq_true rfl) ?_
            rintro x429 M430 ⟨hB431, h432, h433, h434, h435⟩
            have hB436 : BF fQ M M430 := BF.go hB427 hB431
            refine vc_if_eq dX4_readOne_211 (fun h437 => ?_) (fun h437 => ?_)
            · refine vc_iconst dX4_readOne_278 rfl ?_
              refine vc_zret dX4_readOne_279 rfl (by first | decide | omega) (Nat.le_of_ble_eq_true rfl) (Nat.le_of_ble_eq_true rfl) ?_
              exact ⟨_, rfl, hB436, by omega, by omega, by omega, by omega⟩
            · refine vc_aload_n dX4_readOne_214 rfl ?_
              refine vc_iload_n dX4_readOne_215 rfl ?_
              refine vc_iconst dX4_readOne_216 rfl ?_
              refine vc_iaddE dX4_readOne_217 (by omega) (by omega) ?_
              refine vc_cVI dX4_readOne_218 (hs (M := M430) hB436.1  (d + 1) (by omega) (by omega) (by omega) (by omega)) rfl (okX4_readSum (13 + 3 * nf)) (viX4_readSum (13 + 3 * nf)) (lkX4_132 (13 + 3 * nf)) (s_22 hB436.1.1) cl_4 rfl (by show (13 + 3 * nf) < 11 + 3 * (nf + 1); omega) ⟨rfl, rfl⟩ (Nat.le_of_ble_eq_true rfl) (Nat.le_of_ble_eq_true rfl) (Nat.le_of_ble_eq_true rfl) ?_
              rintro x438 M439 ⟨hB440, h441, h442, h443, h444⟩
              have hB445 : BF fQ M M439 := BF.go hB436 hB440
              refine vc_if_eq dX4_readOne_221 (fun h446 => ?_) (fun h446 => ?_)
              · refine vc_iconst dX4_readOne_278 rfl ?_
                refine vc_zret dX4_readOne_279 rfl (by first | decide | omega) (Nat.le_of_ble_eq_true rfl) (Nat.le_of_ble_eq_true rfl) ?_
                exact ⟨_, rfl, hB445, by omega, by omega, by omega, by omega⟩
              · refine vc_aload_n dX4_readOne_224 rfl ?_
                refine vc_bipush dX4_readOne_225 rfl ?_
                refine vc_cVI dX4_readOne_227 (sfX4_readSign (M := M439) hB445.1  44 (by omega)) rfl okX4_readSign viX4_readSign lkX4_141 (s_22 hB445.1.1) cl_4 rfl (by show 1 < 11 + 3 * (nf + 1); omega) ⟨rfl, rfl⟩ (Nat.le_of_ble_eq_true rfl) (Nat.le_of_ble_eq_true rfl) (Nat.le_of_ble_eq_true rfl) ?_
                rintro x447 M448 ⟨hB449, h450, h451, h452, h453⟩
                have hB454 : BF fQ M M448 := BF.go hB445 hB449
                refine vc_if_eq dX4_readOne_230 (fun h455 => ?_) (fun h455 => ?_)
                · refine vc_iconst dX4_readOne_278 rfl ?_
                  refine vc_zret dX4_readOne_279 rfl (by first | decide | omega) (Nat.le_of_ble_eq_true rfl) (Nat.le_of_ble_eq_true rfl) ?_
                  exact ⟨_, rfl, hB454, by omega, by omega, by omega, by omega⟩
                · refine vc_aload_n dX4_readOne_233 rfl ?_
                  refine vc_iload_n dX4_readOne_234 rfl ?_
                  refine vc_iconst dX4_readOne_235 rfl ?_
                  refine vc_iaddE dX4_readOne_236 (by omega) (by omega) ?_
                  refine vc_cVI dX4_readOne_237 (hs (M := M448) hB454.1  (d + 1) (by omega) (by omega) (by omega) (by omega)) rfl (okX4_readSum (13 + 3 * nf)) (viX4_readSum (13 + 3 * nf)) (lkX4_132 (13 + 3 * nf)) (s_22 hB454.1.1) cl_4 rfl (by show (13 + 3 * nf) < 11 + 3 * (nf + 1); omega) ⟨rfl, rfl⟩ (Nat.le_of_ble_eq_true rfl) (Nat.le_of_ble_eq_true rfl) (Nat.le_of_ble_eq_true rfl) ?_
                  rintro x456 M457 ⟨hB458, h459, h460, h461, h462⟩
                  have hB463 : BF fQ M M457 := BF.go hB454 hB458
                  refine vc_if_eq dX4_readOne_240 (fun h464 => ?_) (fun h464 => ?_)
                  · refine vc_iconst dX4_readOne_278 rfl ?_
                    refine vc_zret dX4_readOne_279 rfl (by first | decide | omega) (Nat.le_of_ble_eq_true rfl) (Nat.le_of_ble_eq_true rfl) ?_
                    exact ⟨_, rfl, hB463, by omega, by omega, by omega, by omega⟩
                  · refine vc_aload_n dX4_readOne_243 rfl ?_
                    refine vc_bipush dX4_readOne_244 rfl ?_
                    refine vc_cVI dX4_readOne_246 (sfX4_readWord (M := M457) hB463.1  20 (by omega)) rfl okX4_readWord viX4_readWord lkX4_151 (s_22 hB463.1.1) cl_4 rfl (by show 1 < 11 + 3 * (nf + 1); omega) ⟨rfl, rfl⟩ (Nat.le_of_ble_eq_true rfl) (Nat.le_of_ble_eq_true rfl) (Nat.le_of_ble_eq_true rfl) ?_
                    rintro x465 M466 ⟨hB467, h468, h469, h470, h471⟩
                    have hB472 : BF fQ M M466 := BF.go hB463 hB467
                    refine vc_if_eq dX4_readOne_249 (fun h473 => ?_) (fun h473 => ?_)
                    · refine vc_iconst dX4_readOne_278 rfl ?_
                      refine vc_zret dX4_readOne_279 rfl (by first | decide | omega) (Nat.le_of_ble_eq_true rfl) (Nat.le_of_ble_eq_true rfl) ?_
                      exact ⟨_, rfl, hB472, by omega, by omega, by omega, by omega⟩
                    · refine vc_aload_n dX4_readOne_252 rfl ?_
                      refine vc_iload_n dX4_readOne_253 rfl ?_
                      refine vc_bipush dX4_readOne_254 rfl ?_
                      refine vc_icmp_ne dX4_readOne_256 (fun h474 => by exfalso; omega) (fun h474 => ?_)
                      refine vc_sipush dX4_readOne_259 rfl ?_
                      refine vc_goto dX4_readOne_262 ?_
                      refine vc_cVI dX4_readOne_268 (sfX4_emit (M := M466) hB472.1  20004 (by omega)) rfl okX4_emit viX4_emit lkX4_176 (s_22 hB472.1.1) cl_4 rfl (by show 0 < 11 + 3 * (nf + 1); omega) ⟨rfl, rfl⟩ (Nat.le_of_ble_eq_true rfl) (Nat.le_of_ble_eq_true rfl) (Nat.le_of_ble_eq_true rfl) ?_
                      rintro x475 M476 ⟨hB477, h478, h479, h480, h481⟩
                      have hB482 : BF fQ M M476 := BF.go hB472 hB477
                      refine vc_if_eq dX4_readOne_271 (fun h483 => ?_) (fun h483 => ?_)
                      · refine vc_iconst dX4_readOne_278 rfl ?_
                        refine vc_zret dX4_readOne_279 rfl (by first | decide | omega) (Nat.le_of_ble_eq_true rfl) (Nat.le_of_ble_eq_true rfl) ?_
                        exact ⟨_, rfl, hB482, by omega, by omega, by omega, by omega⟩
                      · refine vc_iconst dX4_readOne_274 rfl ?_
                        refine vc_goto dX4_readOne_275 ?_
                        refine vc_zret dX4_readOne_279 rfl (by first | decide | omega) (Nat.le_of_ble_eq_true rfl) (Nat.le_of_ble_eq_true rfl) ?_
                        exact ⟨_, rfl, hB482, by omega, by omega, by omega, by omega⟩
          · refine vc_aload_n dX4_readOne_185 rfl ?_
            refine vc_iconst dX4_readOne_186 rfl ?_
            refine vc_cVI dX4_readOne_187 (sfX4_failed (M := M) hB0.1  3 (by omega)) rfl okX4_failed viX4_failed lkX4_122 (s_22 hB0.1.1) cl_4 rfl (by show 0 < 11 + 3 * (nf + 1); omega) ⟨rfl, rfl⟩ (Nat.le_of_ble_eq_true rfl) (Nat.le_of_ble_eq_true rfl) (Nat.le_of_ble_eq_true rfl) ?_
            rintro x484 M485 ⟨hB486, h487, h488, h489, h490⟩
            have hB491 : BF fQ M M485 := BF.go hB0 hB486
            refine vc_zret dX4_readOne_190 rfl (by first | decide | omega) (Nat.le_of_ble_eq_true rfl) (Nat.le_of_ble_eq_true rfl) ?_
            exact ⟨_, rfl, hB491, by omega, by omega, by omega, by omega⟩
        · refine vc_aload_n dX4_readOne_136 rfl ?_
          refine vc_getI dX4_readOne_137 flX4_119 (s_22 hB0.1.1) rfl ?_
          refine vc_bipush dX4_readOne_140 rfl ?_
          refine vc_icmp_ne dX4_readOne_142 (fun h492 => ?_) (fun h492 => ?_)
          · refine vc_iconst dX4_readOne_149 rfl ?_
            refine vc_istore_n dX4_readOne_150 (Nat.le_of_ble_eq_true rfl) rfl (show _ = [some (aR 22), some (aI d), some (aI 0), none] from rfl) ?_
            refine vc_iload_n dX4_readOne_151 rfl ?_
            refine vc_if_ne dX4_readOne_152 (fun h493 => by exfalso; omega) (fun h493 => ?_)
            refine vc_aload_n dX4_readOne_155 rfl ?_
            refine vc_bipush dX4_readOne_156 rfl ?_
            refine vc_cVI dX4_readOne_158 (sfX4_isSign (M := M) hB0.1  40 ) rfl okX4_isSign viX4_isSign lkX4_163 (s_22 hB0.1.1) cl_4 rfl (by show 0 < 11 + 3 * (nf + 1); omega) ⟨rfl, rfl⟩ (Nat.le_of_ble_eq_true rfl) (Nat.le_of_ble_eq_true rfl) (Nat.le_of_ble_eq_true rfl) ?_
            rintro x494 _ ⟨rfl, h495, h496⟩
            refine vc_if_ne dX4_readOne_161 (fun h497 => ?_) (fun h497 => ?_)
            · refine vc_iload_n dX4_readOne_179 rfl ?_
              refine vc_bipush dX4_readOne_180 rfl ?_
              refine vc_icmp_lt dX4_readOne_182 (fun h498 => ?_) (fun h498 => ?_)
              · refine vc_aload_n dX4_readOne_191 rfl ?_
                refine vc_getI dX4_readOne_192 flX4_119 (s_22 hB0.1.1) rfl ?_
                refine vc_nameI (fun x499 ex499 => ?_)
                refine vc_istore_n dX4_readOne_195 (Nat.le_of_ble_eq_true rfl) rfl (show _ = [some (aR 22), some (aI d), some (aI 0), some (aI x499)] from rfl) ?_
                refine vc_aload_n dX4_readOne_196 rfl ?_
                refine vc_cVI dX4_readOne_197 (sfX4_takeToken (M := M) hB0.1   ) rfl okX4_takeToken viX4_takeToken lkX4_65 (s_22 hB0.1.1) cl_4 rfl (by show 0 < 11 + 3 * (nf + 1); omega) ⟨rfl, rfl⟩ (Nat.le_of_ble_eq_true rfl) (Nat.le_of_ble_eq_true rfl) (Nat.le_of_ble_eq_true rfl) ?_
                rintro x500 M501 ⟨hB502, h503, h504, h505, h506⟩
                have hB507 : BF fQ M M501 := BF.go hB0 hB502
                refine vc_pop dX4_readOne_200 rfl ?_
                refine vc_iload_n dX4_readOne_201 rfl ?_
                refine vc_if_eq dX4_readOne_202 (fun h508 => ?_) (fun h508 => by exfalso; omega)
                refine vc_iload_n dX4_readOne_280 rfl ?_
                refine vc_bipush dX4_readOne_281 rfl ?_
                refine vc_icmp_ne dX4_readOne_283 (fun h509 => ?_) (fun h509 => by exfalso; omega)
                refine vc_aload_n dX4_readOne_311 rfl ?_
                refine vc_iload_n dX4_readOne_312 rfl ?_
                refine vc_iconst dX4_readOne_313 rfl ?_
                refine vc_iaddE dX4_readOne_314 (by omega) (by omega) ?_
                refine vc_cVI dX4_readOne_315 (ho (M := M501) hB507.1  (d + 1) (by omega) (by omega) (by omega) (by omega)) rfl (okX4_readOne (11 + 3 * nf)) (viX4_readOne (11 + 3 * nf)) (lkX4_179 (11 + 3 * nf)) (s_22 hB507.1.1) cl_4 rfl (by show (11 + 3 * nf) < 11 + 3 * (nf + 1); omega) ⟨rfl, rfl⟩ (Nat.le_of_ble_eq_true rfl) (Nat.le_of_ble_eq_true rfl) (Nat.le_of_ble_eq_true rfl) ?_
                rintro x510 M511 ⟨hB512, h513, h514, h515, h516⟩
                have hB517 : BF fQ M M511 := BF.go hB507 hB512
                refine vc_if_eq dX4_readOne_318 (fun h518 => ?_) (fun h518 => ?_)
                · refine vc_iconst dX4_readOne_335 rfl ?_
                  refine vc_zret dX4_readOne_336 rfl (by first | decide | omega) (Nat.le_of_ble_eq_true rfl) (Nat.le_of_ble_eq_true rfl) ?_
                  exact ⟨_, rfl, hB517, by omega, by omega, by omega, by omega⟩
                · refine vc_aload_n dX4_readOne_321 rfl ?_
                  refine vc_sipush dX4_readOne_322 rfl ?_
                  refine vc_cVI dX4_readOne_325 (sfX4_emit (M := M511) hB517.1  20006 (by omega)) rfl okX4_emit viX4_emit lkX4_176 (s_22 hB517.1.1) cl_4 rfl (by show 0 < 11 + 3 * (nf + 1); omega) ⟨rfl, rfl⟩ (Nat.le_of_ble_eq_true rfl) (Nat.le_of_ble_eq_true rfl) (Nat.le_of_ble_eq_true rfl) ?_
                  rintro x519 M520 ⟨hB521, h522, h523, h524, h525⟩
                  have hB526 : BF fQ M M520 := BF.go hB517 hB521
                  refine vc_if_eq dX4_readOne_328 (fun h527 => ?_) (fun h527 => ?_)
                  · refine vc_iconst dX4_readOne_335 rfl ?_
                    refine vc_zret dX4_readOne_336 rfl (by first | decide | omega) (Nat.le_of_ble_eq_true rfl) (Nat.le_of_ble_eq_true rfl) ?_
                    exact ⟨_, rfl, hB526, by omega, by omega, by omega, by omega⟩
                  · refine vc_iconst dX4_readOne_331 rfl ?_
                    refine vc_goto dX4_readOne_332 ?_
                    refine vc_zret dX4_readOne_336 rfl (by first | decide | omega) (Nat.le_of_ble_eq_true rfl) (Nat.le_of_ble_eq_true rfl) ?_
                    exact ⟨_, rfl, hB526, by omega, by omega, by omega, by omega⟩
              · refine vc_aload_n dX4_readOne_185 rfl ?_
                refine vc_iconst dX4_readOne_186 rfl ?_
                refine vc_cVI dX4_readOne_187 (sfX4_failed (M := M) hB0.1  3 (by omega)) rfl okX4_failed viX4_failed lkX4_122 (s_22 hB0.1.1) cl_4 rfl (by show 0 < 11 + 3 * (nf + 1); omega) ⟨rfl, rfl⟩ (Nat.le_of_ble_eq_true rfl) (Nat.le_of_ble_eq_true rfl) (Nat.le_of_ble_eq_true rfl) ?_
                rintro x528 M529 ⟨hB530, h531, h532, h533, h534⟩
                have hB535 : BF fQ M M529 := BF.go hB0 hB530
                refine vc_zret dX4_readOne_190 rfl (by first | decide | omega) (Nat.le_of_ble_eq_true rfl) (Nat.le_of_ble_eq_true rfl) ?_
                exact ⟨_, rfl, hB535, by omega, by omega, by omega, by omega⟩
            · refine vc_aload_n dX4_readOne_164 rfl ?_
              refine vc_bipush dX4_readOne_165 rfl ?_
              refine vc_cVI dX4_readOne_167 (sfX4_isSign (M := M) hB0.1  45 ) rfl okX4_isSign viX4_isSign lkX4_163 (s_22 hB0.1.1) cl_4 rfl (by show 0 < 11 + 3 * (nf + 1); omega) ⟨rfl, rfl⟩ (Nat.le_of_ble_eq_true rfl) (Nat.le_of_ble_eq_true rfl) (Nat.le_of_ble_eq_true rfl) ?_
              rintro x536 _ ⟨rfl, h537, h538⟩
              refine vc_if_ne dX4_readOne_170 (fun h539 => ?_) (fun h539 => ?_)
              · refine vc_iload_n dX4_readOne_179 rfl ?_
                refine vc_bipush dX4_readOne_180 rfl ?_
                refine vc_icmp_lt dX4_readOne_182 (fun h540 => ?_) (fun h540 => ?_)
                · refine vc_aload_n dX4_readOne_191 rfl ?_
                  refine vc_getI dX4_readOne_192 flX4_119 (s_22 hB0.1.1) rfl ?_
                  refine vc_nameI (fun x541 ex541 => ?_)
                  refine vc_istore_n dX4_readOne_195 (Nat.le_of_ble_eq_true rfl) rfl (show _ = [some (aR 22), some (aI d), some (aI 0), some (aI x541)] from rfl) ?_
                  refine vc_aload_n dX4_readOne_196 rfl ?_
                  refine vc_cVI dX4_readOne_197 (sfX4_takeToken (M := M) hB0.1   ) rfl okX4_takeToken viX4_takeToken lkX4_65 (s_22 hB0.1.1) cl_4 rfl (by show 0 < 11 + 3 * (nf + 1); omega) ⟨rfl, rfl⟩ (Nat.le_of_ble_eq_true rfl) (Nat.le_of_ble_eq_true rfl) (Nat.le_of_ble_eq_true rfl) ?_
                  rintro x542 M543 ⟨hB544, h545, h546, h547, h548⟩
                  have hB549 : BF fQ M M543 := BF.go hB0 hB544
                  refine vc_pop dX4_readOne_200 rfl ?_
                  refine vc_iload_n dX4_readOne_201 rfl ?_
                  refine vc_if_eq dX4_readOne_202 (fun h550 => ?_) (fun h550 => by exfalso; omega)
                  refine vc_iload_n dX4_readOne_280 rfl ?_
                  refine vc_bipush dX4_readOne_281 rfl ?_
                  refine vc_icmp_ne dX4_readOne_283 (fun h551 => ?_) (fun h551 => by exfalso; omega)
                  refine vc_aload_n dX4_readOne_311 rfl ?_
                  refine vc_iload_n dX4_readOne_312 rfl ?_
                  refine vc_iconst dX4_readOne_313 rfl ?_
                  refine vc_iaddE dX4_readOne_314 (by omega) (by omega) ?_
                  refine vc_cVI dX4_readOne_315 (ho (M := M543) hB549.1  (d + 1) (by omega) (by omega) (by omega) (by omega)) rfl (okX4_readOne (11 + 3 * nf)) (viX4_readOne (11 + 3 * nf)) (lkX4_179 (11 + 3 * nf)) (s_22 hB549.1.1) cl_4 rfl (by show (11 + 3 * nf) < 11 + 3 * (nf + 1); omega) ⟨rfl, rfl⟩ (Nat.le_of_ble_eq_true rfl) (Nat.le_of_ble_eq_true rfl) (Nat.le_of_ble_eq_true rfl) ?_
                  rintro x552 M553 ⟨hB554, h555, h556, h557, h558⟩
                  have hB559 : BF fQ M M553 := BF.go hB549 hB554
                  refine vc_if_eq dX4_readOne_318 (fun h560 => ?_) (fun h560 => ?_)
                  · refine vc_iconst dX4_readOne_335 rfl ?_
                    refine vc_zret dX4_readOne_336 rfl (by first | decide | omega) (Nat.le_of_ble_eq_true rfl) (Nat.le_of_ble_eq_true rfl) ?_
                    exact ⟨_, rfl, hB559, by omega, by omega, by omega, by omega⟩
                  · refine vc_aload_n dX4_readOne_321 rfl ?_
                    refine vc_sipush dX4_readOne_322 rfl ?_
                    refine vc_cVI dX4_readOne_325 (sfX4_emit (M := M553) hB559.1  20006 (by omega)) rfl okX4_emit viX4_emit lkX4_176 (s_22 hB559.1.1) cl_4 rfl (by show 0 < 11 + 3 * (nf + 1); omega) ⟨rfl, rfl⟩ (Nat.le_of_ble_eq_true rfl) (Nat.le_of_ble_eq_true rfl) (Nat.le_of_ble_eq_true rfl) ?_
                    rintro x561 M562 ⟨hB563, h564, h565, h566, h567⟩
                    have hB568 : BF fQ M M562 := BF.go hB559 hB563
                    refine vc_if_eq dX4_readOne_328 (fun h569 => ?_) (fun h569 => ?_)
                    · refine vc_iconst dX4_readOne_335 rfl ?_
                      refine vc_zret dX4_readOne_336 rfl (by first | decide | omega) (Nat.le_of_ble_eq_true rfl) (Nat.le_of_ble_eq_true rfl) ?_
                      exact ⟨_, rfl, hB568, by omega, by omega, by omega, by omega⟩
                    · refine vc_iconst dX4_readOne_331 rfl ?_
                      refine vc_goto dX4_readOne_332 ?_
                      refine vc_zret dX4_readOne_336 rfl (by first | decide | omega) (Nat.le_of_ble_eq_true rfl) (Nat.le_of_ble_eq_true rfl) ?_
                      exact ⟨_, rfl, hB568, by omega, by omega, by omega, by omega⟩
                · refine vc_aload_n dX4_readOne_185 rfl ?_
                  refine vc_iconst dX4_readOne_186 rfl ?_
                  refine vc_cVI dX4_readOne_187 (sfX4_failed (M := M) hB0.1  3 (by omega)) rfl okX4_failed viX4_failed lkX4_122 (s_22 hB0.1.1) cl_4 rfl (by show 0 < 11 + 3 * (nf + 1); omega) ⟨rfl, rfl⟩ (Nat.le_of_ble_eq_true rfl) (Nat.le_of_ble_eq_true rfl) (Nat.le_of_ble_eq_true rfl) ?_
                  rintro x570 M571 ⟨hB572, h573, h574, h575, h576⟩
                  have hB577 : BF fQ M M571 := BF.go hB0 hB572
                  refine vc_zret dX4_readOne_190 rfl (by first | decide | omega) (Nat.le_of_ble_eq_true rfl) (Nat.le_of_ble_eq_true rfl) ?_
                  exact ⟨_, rfl, hB577, by omega, by omega, by omega, by omega⟩
              · refine vc_aload_n dX4_readOne_173 rfl ?_
                refine vc_iconst dX4_readOne_174 rfl ?_
                refine vc_cVI dX4_readOne_175 (sfX4_failed (M := M) hB0.1  1 (by omega)) rfl okX4_failed viX4_failed lkX4_122 (s_22 hB0.1.1) cl_4 rfl (by show 0 < 11 + 3 * (nf + 1); omega) ⟨rfl, rfl⟩ (Nat.le_of_ble_eq_true rfl) (Nat.le_of_ble_eq_true rfl) (Nat.le_of_ble_eq_true rfl) ?_
                rintro x578 M579 ⟨hB580, h581, h582, h583, h584⟩
                have hB585 : BF fQ M M579 := BF.go hB0 hB580
                refine vc_zret dX4_readOne_178 rfl (by first | decide | omega) (Nat.le_of_ble_eq_true rfl) (Nat.le_of_ble_eq_true rfl) ?_
                exact ⟨_, rfl, hB585, by omega, by omega, by omega, by omega⟩
          · refine vc_iconst dX4_readOne_145 rfl ?_
            refine vc_goto dX4_readOne_146 ?_
            refine vc_istore_n dX4_readOne_150 (Nat.le_of_ble_eq_true rfl) rfl (show _ = [some (aR 22), some (aI d), some (aI 1), none] from rfl) ?_
            refine vc_iload_n dX4_readOne_151 rfl ?_
            refine vc_if_ne dX4_readOne_152 (fun h586 => ?_) (fun h586 => by exfalso; omega)
            refine vc_iload_n dX4_readOne_179 rfl ?_
            refine vc_bipush dX4_readOne_180 rfl ?_
            refine vc_icmp_lt dX4_readOne_182 (fun h587 => ?_) (fun h587 => ?_)
            · refine vc_aload_n dX4_readOne_191 rfl ?_
              refine vc_getI dX4_readOne_192 flX4_119 (s_22 hB0.1.1) rfl ?_
              refine vc_nameI (fun x588 ex588 => ?_)
              refine vc_istore_n dX4_readOne_195 (Nat.le_of_ble_eq_true rfl) rfl (show _ = [some (aR 22), some (aI d), some (aI 1), some (aI x588)] from rfl) ?_
              refine vc_aload_n dX4_readOne_196 rfl ?_
              refine vc_cVI dX4_readOne_197 (sfX4_takeToken (M := M) hB0.1   ) rfl okX4_takeToken viX4_takeToken lkX4_65 (s_22 hB0.1.1) cl_4 rfl (by show 0 < 11 + 3 * (nf + 1); omega) ⟨rfl, rfl⟩ (Nat.le_of_ble_eq_true rfl) (Nat.le_of_ble_eq_true rfl) (Nat.le_of_ble_eq_true rfl) ?_
              rintro x589 M590 ⟨hB591, h592, h593, h594, h595⟩
              have hB596 : BF fQ M M590 := BF.go hB0 hB591
              refine vc_pop dX4_readOne_200 rfl ?_
              refine vc_iload_n dX4_readOne_201 rfl ?_
              refine vc_if_eq dX4_readOne_202 (fun h597 => by exfalso; omega) (fun h597 => ?_)
              refine vc_aload_n dX4_readOne_205 rfl ?_
              refine vc_bipush dX4_readOne_206 rfl ?_
              refine vc_cVI dX4_readOne_208 (sfX4_readWord (M := M590) hB596.1  19 (by omega)) rfl okX4_readWord viX4_readWord lkX4_151 (s_22 hB596.1.1) cl_4 rfl (by show 1 < 11 + 3 * (nf + 1); omega) ⟨rfl, rfl⟩ (Nat.le_of_ble_eq_true rfl) (Nat.le_of_ble_eq_true rfl) (Nat.le_of_ble_eq_true rfl) ?_
              rintro x598 M599 ⟨hB600, h601, h602, h603, h604⟩
              have hB605 : BF fQ M M599 := BF.go hB596 hB600
              refine vc_if_eq dX4_readOne_211 (fun h606 => ?_) (fun h606 => ?_)
              · refine vc_iconst dX4_readOne_278 rfl ?_
                refine vc_zret dX4_readOne_279 rfl (by first | decide | omega) (Nat.le_of_ble_eq_true rfl) (Nat.le_of_ble_eq_true rfl) ?_
                exact ⟨_, rfl, hB605, by omega, by omega, by omega, by omega⟩
              · refine vc_aload_n dX4_readOne_214 rfl ?_
                refine vc_iload_n dX4_readOne_215 rfl ?_
                refine vc_iconst dX4_readOne_216 rfl ?_
                refine vc_iaddE dX4_readOne_217 (by omega) (by omega) ?_
                refine vc_cVI dX4_readOne_218 (hs (M := M599) hB605.1  (d + 1) (by omega) (by omega) (by omega) (by omega)) rfl (okX4_readSum (13 + 3 * nf)) (viX4_readSum (13 + 3 * nf)) (lkX4_132 (13 + 3 * nf)) (s_22 hB605.1.1) cl_4 rfl (by show (13 + 3 * nf) < 11 + 3 * (nf + 1); omega) ⟨rfl, rfl⟩ (Nat.le_of_ble_eq_true rfl) (Nat.le_of_ble_eq_true rfl) (Nat.le_of_ble_eq_true rfl) ?_
                rintro x607 M608 ⟨hB609, h610, h611, h612, h613⟩
                have hB614 : BF fQ M M608 := BF.go hB605 hB609
                refine vc_if_eq dX4_readOne_221 (fun h615 => ?_) (fun h615 => ?_)
                · refine vc_iconst dX4_readOne_278 rfl ?_
                  refine vc_zret dX4_readOne_279 rfl (by first | decide | omega) (Nat.le_of_ble_eq_true rfl) (Nat.le_of_ble_eq_true rfl) ?_
                  exact ⟨_, rfl, hB614, by omega, by omega, by omega, by omega⟩
                · refine vc_aload_n dX4_readOne_224 rfl ?_
                  refine vc_bipush dX4_readOne_225 rfl ?_
                  refine vc_cVI dX4_readOne_227 (sfX4_readSign (M := M608) hB614.1  44 (by omega)) rfl okX4_readSign viX4_readSign lkX4_141 (s_22 hB614.1.1) cl_4 rfl (by show 1 < 11 + 3 * (nf + 1); omega) ⟨rfl, rfl⟩ (Nat.le_of_ble_eq_true rfl) (Nat.le_of_ble_eq_true rfl) (Nat.le_of_ble_eq_true rfl) ?_
                  rintro x616 M617 ⟨hB618, h619, h620, h621, h622⟩
                  have hB623 : BF fQ M M617 := BF.go hB614 hB618
                  refine vc_if_eq dX4_readOne_230 (fun h624 => ?_) (fun h624 => ?_)
                  · refine vc_iconst dX4_readOne_278 rfl ?_
                    refine vc_zret dX4_readOne_279 rfl (by first | decide | omega) (Nat.le_of_ble_eq_true rfl) (Nat.le_of_ble_eq_true rfl) ?_
                    exact ⟨_, rfl, hB623, by omega, by omega, by omega, by omega⟩
                  · refine vc_aload_n dX4_readOne_233 rfl ?_
                    refine vc_iload_n dX4_readOne_234 rfl ?_
                    refine vc_iconst dX4_readOne_235 rfl ?_
                    refine vc_iaddE dX4_readOne_236 (by omega) (by omega) ?_
                    refine vc_cVI dX4_readOne_237 (hs (M := M617) hB623.1  (d + 1) (by omega) (by omega) (by omega) (by omega)) rfl (okX4_readSum (13 + 3 * nf)) (viX4_readSum (13 + 3 * nf)) (lkX4_132 (13 + 3 * nf)) (s_22 hB623.1.1) cl_4 rfl (by show (13 + 3 * nf) < 11 + 3 * (nf + 1); omega) ⟨rfl, rfl⟩ (Nat.le_of_ble_eq_true rfl) (Nat.le_of_ble_eq_true rfl) (Nat.le_of_ble_eq_true rfl) ?_
                    rintro x625 M626 ⟨hB627, h628, h629, h630, h631⟩
                    have hB632 : BF fQ M M626 := BF.go hB623 hB627
                    refine vc_if_eq dX4_readOne_240 (fun h633 => ?_) (fun h633 => ?_)
                    · refine vc_iconst dX4_readOne_278 rfl ?_
                      refine vc_zret dX4_readOne_279 rfl (by first | decide | omega) (Nat.le_of_ble_eq_true rfl) (Nat.le_of_ble_eq_true rfl) ?_
                      exact ⟨_, rfl, hB632, by omega, by omega, by omega, by omega⟩
                    · refine vc_aload_n dX4_readOne_243 rfl ?_
                      refine vc_bipush dX4_readOne_244 rfl ?_
                      refine vc_cVI dX4_readOne_246 (sfX4_readWord (M := M626) hB632.1  20 (by omega)) rfl okX4_readWord viX4_readWord lkX4_151 (s_22 hB632.1.1) cl_4 rfl (by show 1 < 11 + 3 * (nf + 1); omega) ⟨rfl, rfl⟩ (Nat.le_of_ble_eq_true rfl) (Nat.le_of_ble_eq_true rfl) (Nat.le_of_ble_eq_true rfl) ?_
                      rintro x634 M635 ⟨hB636, h637, h638, h639, h640⟩
                      have hB641 : BF fQ M M635 := BF.go hB632 hB636
                      refine vc_if_eq dX4_readOne_249 (fun h642 => ?_) (fun h642 => ?_)
                      · refine vc_iconst dX4_readOne_278 rfl ?_
                        refine vc_zret dX4_readOne_279 rfl (by first | decide | omega) (Nat.le_of_ble_eq_true rfl) (Nat.le_of_ble_eq_true rfl) ?_
                        exact ⟨_, rfl, hB641, by omega, by omega, by omega, by omega⟩
                      · refine vc_aload_n dX4_readOne_252 rfl ?_
                        refine vc_iload_n dX4_readOne_253 rfl ?_
                        refine vc_bipush dX4_readOne_254 rfl ?_
                        refine vc_icmp_ne dX4_readOne_256 (fun h643 => ?_) (fun h643 => by exfalso; omega)
                        refine vc_sipush dX4_readOne_265 rfl ?_
                        refine vc_cVI dX4_readOne_268 (sfX4_emit (M := M635) hB641.1  20005 (by omega)) rfl okX4_emit viX4_emit lkX4_176 (s_22 hB641.1.1) cl_4 rfl (by show 0 < 11 + 3 * (nf + 1); omega) ⟨rfl, rfl⟩ (Nat.le_of_ble_eq_true rfl) (Nat.le_of_ble_eq_true rfl) (Nat.le_of_ble_eq_true rfl) ?_
                        rintro x644 M645 ⟨hB646, h647, h648, h649, h650⟩
                        have hB651 : BF fQ M M645 := BF.go hB641 hB646
                        refine vc_if_eq dX4_readOne_271 (fun h652 => ?_) (fun h652 => ?_)
                        · refine vc_iconst dX4_readOne_278 rfl ?_
                          refine vc_zret dX4_readOne_279 rfl (by first | decide | omega) (Nat.le_of_ble_eq_true rfl) (Nat.le_of_ble_eq_true rfl) ?_
                          exact ⟨_, rfl, hB651, by omega, by omega, by omega, by omega⟩
                        · refine vc_iconst dX4_readOne_274 rfl ?_
                          refine vc_goto dX4_readOne_275 ?_
                          refine vc_zret dX4_readOne_279 rfl (by first | decide | omega) (Nat.le_of_ble_eq_true rfl) (Nat.le_of_ble_eq_true rfl) ?_
                          exact ⟨_, rfl, hB651, by omega, by omega, by omega, by omega⟩
            · refine vc_aload_n dX4_readOne_185 rfl ?_
              refine vc_iconst dX4_readOne_186 rfl ?_
              refine vc_cVI dX4_readOne_187 (sfX4_failed (M := M) hB0.1  3 (by omega)) rfl okX4_failed viX4_failed lkX4_122 (s_22 hB0.1.1) cl_4 rfl (by show 0 < 11 + 3 * (nf + 1); omega) ⟨rfl, rfl⟩ (Nat.le_of_ble_eq_true rfl) (Nat.le_of_ble_eq_true rfl) (Nat.le_of_ble_eq_true rfl) ?_
              rintro x653 M654 ⟨hB655, h656, h657, h658, h659⟩
              have hB660 : BF fQ M M654 := BF.go hB0 hB655
              refine vc_zret dX4_readOne_190 rfl (by first | decide | omega) (Nat.le_of_ble_eq_true rfl) (Nat.le_of_ble_eq_true rfl) ?_
              exact ⟨_, rfl, hB660, by omega, by omega, by omega, by omega⟩
      · refine vc_aload_n dX4_readOne_67 rfl ?_
        refine vc_getI dX4_readOne_68 flX4_119 (s_22 hB0.1.1) rfl ?_
        refine vc_bipush dX4_readOne_71 rfl ?_
        refine vc_isub dX4_readOne_73 ?_
        refine vc_nameI (fun x661 ex661 => ?_)
        refine vc_istore_n dX4_readOne_74 (Nat.le_of_ble_eq_true rfl) rfl (show _ = [some (aR 22), some (aI d), some (aI x661), none] from rfl) ?_
        refine vc_aload_n dX4_readOne_75 rfl ?_
        refine vc_getI dX4_readOne_76 flX4_170 (s_22 hB0.1.1) rfl ?_
        refine vc_iload_n dX4_readOne_79 rfl ?_
        refine vc_ishr dX4_readOne_80 ?_
        refine vc_iconst dX4_readOne_81 rfl ?_
        refine vc_iandM dX4_readOne_82 2 1 rfl (Nat.le_of_ble_eq_true rfl) rfl ?_
        refine vc_if_ne dX4_readOne_83 (fun h662 => ?_) (fun h662 => ?_)
        · refine vc_aload_n dX4_readOne_94 rfl ?_
          refine vc_sipush dX4_readOne_95 rfl ?_
          refine vc_iload_n dX4_readOne_98 rfl ?_
          refine vc_iadd dX4_readOne_99 ?_
          refine vc_cVI dX4_readOne_100 (sfX4_emit (M := M) hB0.1  (wI (10000 + x661)) (by omega)) rfl okX4_emit viX4_emit lkX4_176 (s_22 hB0.1.1) cl_4 rfl (by show 0 < 11 + 3 * (nf + 1); omega) ⟨rfl, rfl⟩ (Nat.le_of_ble_eq_true rfl) (Nat.le_of_ble_eq_true rfl) (Nat.le_of_ble_eq_true rfl) ?_
          rintro x663 M664 ⟨hB665, h666, h667, h668, h669⟩
          have hB670 : BF fQ M M664 := BF.go hB0 hB665
          refine vc_if_eq dX4_readOne_103 (fun h671 => ?_) (fun h671 => ?_)
          · refine vc_iconst dX4_readOne_117 rfl ?_
            refine vc_zret dX4_readOne_118 rfl (by first | decide | omega) (Nat.le_of_ble_eq_true rfl) (Nat.le_of_ble_eq_true rfl) ?_
            exact ⟨_, rfl, hB670, by omega, by omega, by omega, by omega⟩
          · refine vc_aload_n dX4_readOne_106 rfl ?_
            refine vc_cVI dX4_readOne_107 (sfX4_takeToken (M := M664) hB670.1   ) rfl okX4_takeToken viX4_takeToken lkX4_65 (s_22 hB670.1.1) cl_4 rfl (by show 0 < 11 + 3 * (nf + 1); omega) ⟨rfl, rfl⟩ (Nat.le_of_ble_eq_true rfl) (Nat.le_of_ble_eq_true rfl) (Nat.le_of_ble_eq_true rfl) ?_
            rintro x672 M673 ⟨hB674, h675, h676, h677, h678⟩
            have hB679 : BF fQ M M673 := BF.go hB670 hB674
            refine vc_if_eq dX4_readOne_110 (fun h680 => by exfalso; omega) (fun h680 => ?_)
            refine vc_iconst dX4_readOne_113 rfl ?_
            refine vc_goto dX4_readOne_114 ?_
            refine vc_zret dX4_readOne_118 rfl (by first | decide | omega) (Nat.le_of_ble_eq_true rfl) (Nat.le_of_ble_eq_true rfl) ?_
            exact ⟨_, rfl, hB679, by omega, by omega, by omega, by omega⟩
        · refine vc_aload_n dX4_readOne_86 rfl ?_
          refine vc_iconst dX4_readOne_87 rfl ?_
          refine vc_cVI dX4_readOne_88 (sfX4_failed (M := M) hB0.1  5 (by omega)) rfl okX4_failed viX4_failed lkX4_122 (s_22 hB0.1.1) cl_4 rfl (by show 0 < 11 + 3 * (nf + 1); omega) ⟨rfl, rfl⟩ (Nat.le_of_ble_eq_true rfl) (Nat.le_of_ble_eq_true rfl) (Nat.le_of_ble_eq_true rfl) ?_
          rintro x681 M682 ⟨hB683, h684, h685, h686, h687⟩
          have hB688 : BF fQ M M682 := BF.go hB0 hB683
          refine vc_goto dX4_readOne_91 ?_
          refine vc_zret dX4_readOne_118 rfl (by first | decide | omega) (Nat.le_of_ble_eq_true rfl) (Nat.le_of_ble_eq_true rfl) ?_
          exact ⟨_, rfl, hB688, by omega, by omega, by omega, by omega⟩
  · refine vc_aload_n dX4_readOne_8 rfl ?_
    refine vc_getI dX4_readOne_9 flX4_119 (s_22 hB0.1.1) rfl ?_
    refine vc_sipush dX4_readOne_12 rfl ?_
    refine vc_icmp_le dX4_readOne_15 (fun h689 => ?_) (fun h689 => ?_)
    · refine vc_aload_n dX4_readOne_26 rfl ?_
      refine vc_aload_n dX4_readOne_27 rfl ?_
      refine vc_getI dX4_readOne_28 flX4_119 (s_22 hB0.1.1) rfl ?_
      refine vc_cVI dX4_readOne_31 (sfX4_emit (M := M) hB0.1  (mI M 22 11) (by omega)) rfl okX4_emit viX4_emit lkX4_176 (s_22 hB0.1.1) cl_4 rfl (by show 0 < 11 + 3 * (nf + 1); omega) ⟨rfl, rfl⟩ (Nat.le_of_ble_eq_true rfl) (Nat.le_of_ble_eq_true rfl) (Nat.le_of_ble_eq_true rfl) ?_
      rintro x690 M691 ⟨hB692, h693, h694, h695, h696⟩
      have hB697 : BF fQ M M691 := BF.go hB0 hB692
      refine vc_if_eq dX4_readOne_34 (fun h698 => ?_) (fun h698 => ?_)
      · refine vc_iconst dX4_readOne_48 rfl ?_
        refine vc_zret dX4_readOne_49 rfl (by first | decide | omega) (Nat.le_of_ble_eq_true rfl) (Nat.le_of_ble_eq_true rfl) ?_
        exact ⟨_, rfl, hB697, by omega, by omega, by omega, by omega⟩
      · refine vc_aload_n dX4_readOne_37 rfl ?_
        refine vc_cVI dX4_readOne_38 (sfX4_takeToken (M := M691) hB697.1   ) rfl okX4_takeToken viX4_takeToken lkX4_65 (s_22 hB697.1.1) cl_4 rfl (by show 0 < 11 + 3 * (nf + 1); omega) ⟨rfl, rfl⟩ (Nat.le_of_ble_eq_true rfl) (Nat.le_of_ble_eq_true rfl) (Nat.le_of_ble_eq_true rfl) ?_
        rintro x699 M700 ⟨hB701, h702, h703, h704, h705⟩
        have hB706 : BF fQ M M700 := BF.go hB697 hB701
        refine vc_if_eq dX4_readOne_41 (fun h707 => by exfalso; omega) (fun h707 => ?_)
        refine vc_iconst dX4_readOne_44 rfl ?_
        refine vc_goto dX4_readOne_45 ?_
        refine vc_zret dX4_readOne_49 rfl (by first | decide | omega) (Nat.le_of_ble_eq_true rfl) (Nat.le_of_ble_eq_true rfl) ?_
        exact ⟨_, rfl, hB706, by omega, by omega, by omega, by omega⟩
    · refine vc_aload_n dX4_readOne_18 rfl ?_
      refine vc_iconst dX4_readOne_19 rfl ?_
      refine vc_cVI dX4_readOne_20 (sfX4_failed (M := M) hB0.1  2 (by omega)) rfl okX4_failed viX4_failed lkX4_122 (s_22 hB0.1.1) cl_4 rfl (by show 0 < 11 + 3 * (nf + 1); omega) ⟨rfl, rfl⟩ (Nat.le_of_ble_eq_true rfl) (Nat.le_of_ble_eq_true rfl) (Nat.le_of_ble_eq_true rfl) ?_
      rintro x708 M709 ⟨hB710, h711, h712, h713, h714⟩
      have hB715 : BF fQ M M709 := BF.go hB0 hB710
      refine vc_goto dX4_readOne_23 ?_
      refine vc_zret dX4_readOne_49 rfl (by first | decide | omega) (Nat.le_of_ble_eq_true rfl) (Nat.le_of_ble_eq_true rfl) ?_
      exact ⟨_, rfl, hB715, by omega, by omega, by omega, by omega⟩

set_option maxRecDepth 4000 in
theorem rd_prod {l : Launch} {nf : Nat} (ho : RdO l nf) : RdP l nf := by
  intro M hB d p0 p1 p2 hnf
  have hB0 : BF fQ M M := BF.start hB
  refine Call.of [some (aR 22), some (aI d), none, none, none] rfl (Nat.le_of_ble_eq_true rfl) rfl ?_
  refine vc_aload_n dX4_readProduct_0 rfl ?_
  refine vc_iload_n dX4_readProduct_1 rfl ?_
  refine vc_cVI dX4_readProduct_2 (ho (M := M) hB0.1  d (by omega) (by omega) (by omega) (by omega)) rfl (okX4_readOne (11 + 3 * nf)) (viX4_readOne (11 + 3 * nf)) (lkX4_179 (11 + 3 * nf)) (s_22 hB0.1.1) cl_4 rfl (by show (11 + 3 * nf) < 12 + 3 * nf; omega) ⟨rfl, rfl⟩ (Nat.le_of_ble_eq_true rfl) (Nat.le_of_ble_eq_true rfl) (Nat.le_of_ble_eq_true rfl) ?_
  rintro x1 M2 ⟨hB3, h4, h5, h6, h7⟩
  have hB8 : BF fQ M M2 := BF.go hB0 hB3
  refine vc_istore_n dX4_readProduct_5 (Nat.le_of_ble_eq_true rfl) rfl (show _ = [some (aR 22), some (aI d), some (aI x1), none, none] from rfl) ?_
  refine vc_iconst dX4_readProduct_6 rfl ?_
  refine vc_istore_n dX4_readProduct_7 (Nat.le_of_ble_eq_true rfl) rfl (show _ = [some (aR 22), some (aI d), some (aI x1), some (aI 0), none] from rfl) ?_
  have lp8 : ∀ (n8 : Nat) (Mq8 : Mem) (v2 : Int) (v3 : Int), (BF fQ M Mq8) → (0 ≤ v2) → (v2 ≤ 1) → (0 ≤ v3) → (v3 ≤ 300) → (0 ≤ mI Mq8 22 9) → (mI Mq8 22 13 = mI M 22 13) → (300 - v3).toNat < n8 → VC l (mdX4_readProduct (12 + 3 * nf)) 8 [some (aR 22), some (aI d), some (aI v2), some (aI v3), none] [] Mq8 0 0 (fun q N => ∃ r : Int, q = some (aI r) ∧ BF fQ M N ∧ 0 ≤ r ∧ r ≤ 1 ∧ 0 ≤ mI N 22 9 ∧ mI N 22 13 = mI M 22 13) := by
    intro n8
    induction n8 with
    | zero => intro Mq8 v2 v3 hQ8 g8_2a g8_2b g8_3a g8_3b g8i0 g8i1 hm8; exact absurd hm8 (Nat.not_lt_zero _)
    | succ n8 ih8 =>
      intro Mq8 v2 v3 hQ8 g8_2a g8_2b g8_3a g8_3b g8i0 g8i1 hm8
      refine vc_iload_n dX4_readProduct_8 rfl ?_
      refine vc_sipush dX4_readProduct_9 rfl ?_
      refine vc_icmp_ge dX4_readProduct_12 (fun h9 => ?_) (fun h9 => ?_)
      · refine vc_iload_n dX4_readProduct_91 rfl ?_
        refine vc_zret dX4_readProduct_92 rfl (by first | decide | omega) (Nat.le_of_ble_eq_true rfl) (Nat.le_of_ble_eq_true rfl) ?_
        exact ⟨_, rfl, hQ8, by omega, by omega, by omega, by omega⟩
      · refine vc_iload_n dX4_readProduct_15 rfl ?_
        refine vc_if_eq dX4_readProduct_16 (fun h10 => ?_) (fun h10 => ?_)
        · refine vc_iload_n dX4_readProduct_91 rfl ?_
          refine vc_zret dX4_readProduct_92 rfl (by first | decide | omega) (Nat.le_of_ble_eq_true rfl) (Nat.le_of_ble_eq_true rfl) ?_
          exact ⟨_, rfl, hQ8, by omega, by omega, by omega, by omega⟩
        · refine vc_aload_n dX4_readProduct_19 rfl ?_
          refine vc_bipush dX4_readProduct_20 rfl ?_
          refine vc_cVI dX4_readProduct_22 (sfX4_isSign (M := Mq8) hQ8.1  42 ) rfl okX4_isSign viX4_isSign lkX4_163 (s_22 hQ8.1.1) cl_4 rfl (by show 0 < 12 + 3 * nf; omega) ⟨rfl, rfl⟩ (Nat.le_of_ble_eq_true rfl) (Nat.le_of_ble_eq_true rfl) (Nat.le_of_ble_eq_true rfl) ?_
          rintro x11 _ ⟨rfl, h12, h13⟩
          refine vc_if_ne dX4_readProduct_25 (fun h14 => ?_) (fun h14 => ?_)
          · refine vc_aload_n dX4_readProduct_37 rfl ?_
            refine vc_getI dX4_readProduct_38 flX4_119 (s_22 hQ8.1.1) rfl ?_
            refine vc_bipush dX4_readProduct_41 rfl ?_
            refine vc_icmp_ne dX4_readProduct_43 (fun h15 => ?_) (fun h15 => ?_)
            · refine vc_sipush dX4_readProduct_52 rfl ?_
              refine vc_istore dX4_readProduct_55 (Nat.le_of_ble_eq_true rfl) rfl (show _ = [some (aR 22), some (aI d), some (aI v2), some (aI v3), some (aI 20003)] from rfl) ?_
              refine vc_aload_n dX4_readProduct_57 rfl ?_
              refine vc_cVI dX4_readProduct_58 (sfX4_takeToken (M := Mq8) hQ8.1   ) rfl okX4_takeToken viX4_takeToken lkX4_65 (s_22 hQ8.1.1) cl_4 rfl (by show 0 < 12 + 3 * nf; omega) ⟨rfl, rfl⟩ (Nat.le_of_ble_eq_true rfl) (Nat.le_of_ble_eq_true rfl) (Nat.le_of_ble_eq_true rfl) ?_
              rintro x16 M17 ⟨hB18, h19, h20, h21, h22⟩
              have hB23 : BF fQ M M17 := BF.go hQ8 hB18
              refine vc_pop dX4_readProduct_61 rfl ?_
              refine vc_aload_n dX4_readProduct_62 rfl ?_
              refine vc_iload_n dX4_readProduct_63 rfl ?_
              refine vc_cVI dX4_readProduct_64 (ho (M := M17) hB23.1  d (by omega) (by omega) (by omega) (by omega)) rfl (okX4_readOne (11 + 3 * nf)) (viX4_readOne (11 + 3 * nf)) (lkX4_179 (11 + 3 * nf)) (s_22 hB23.1.1) cl_4 rfl (by show (11 + 3 * nf) < 12 + 3 * nf; omega) ⟨rfl, rfl⟩ (Nat.le_of_ble_eq_true rfl) (Nat.le_of_ble_eq_true rfl) (Nat.le_of_ble_eq_true rfl) ?_
              rintro x24 M25 ⟨hB26, h27, h28, h29, h30⟩
              have hB31 : BF fQ M M25 := BF.go hB23 hB26
              refine vc_if_eq dX4_readProduct_67 (fun h32 => ?_) (fun h32 => ?_)
              · refine vc_iconst dX4_readProduct_83 rfl ?_
                refine vc_istore_n dX4_readProduct_84 (Nat.le_of_ble_eq_true rfl) rfl (show _ = [some (aR 22), some (aI d), some (aI 0), some (aI v3), some (aI 20003)] from rfl) ?_
                refine vc_iincE dX4_readProduct_85 rfl (by omega) (by omega) (Nat.le_of_ble_eq_true rfl) rfl (show _ = [some (aR 22), some (aI d), some (aI 0), some (aI (v3 + 1)), some (aI 20003)] from rfl) ?_
                refine vc_goto dX4_readProduct_88 ?_
                refine vc_less [some (aR 22), some (aI d), some (aI 0), some (aI (v3 + 1)), none] (lessL_keep (lessL_keep (lessL_keep (lessL_keep (lessL_drop (lessL_nil)))))) ?_
                exact ih8 M25 0 (v3 + 1) hB31 (by omega) (by omega) (by omega) (by omega) (by omega) (by omega) (by omega)
              · refine vc_aload_n dX4_readProduct_70 rfl ?_
                refine vc_iload dX4_readProduct_71 rfl ?_
                refine vc_cVI dX4_readProduct_73 (sfX4_emit (M := M25) hB31.1  20003 (by omega)) rfl okX4_emit viX4_emit lkX4_176 (s_22 hB31.1.1) cl_4 rfl (by show 0 < 12 + 3 * nf; omega) ⟨rfl, rfl⟩ (Nat.le_of_ble_eq_true rfl) (Nat.le_of_ble_eq_true rfl) (Nat.le_of_ble_eq_true rfl) ?_
                rintro x33 M34 ⟨hB35, h36, h37, h38, h39⟩
                have hB40 : BF fQ M M34 := BF.go hB31 hB35
                refine vc_if_eq dX4_readProduct_76 (fun h41 => ?_) (fun h41 => ?_)
                · refine vc_iconst dX4_readProduct_83 rfl ?_
                  refine vc_istore_n dX4_readProduct_84 (Nat.le_of_ble_eq_true rfl) rfl (show _ = [some (aR 22), some (aI d), some (aI 0), some (aI v3), some (aI 20003)] from rfl) ?_
                  refine vc_iincE dX4_readProduct_85 rfl (by omega) (by omega) (Nat.le_of_ble_eq_true rfl) rfl (show _ = [some (aR 22), some (aI d), some (aI 0), some (aI (v3 + 1)), some (aI 20003)] from rfl) ?_
                  refine vc_goto dX4_readProduct_88 ?_
                  refine vc_less [some (aR 22), some (aI d), some (aI 0), some (aI (v3 + 1)), none] (lessL_keep (lessL_keep (lessL_keep (lessL_keep (lessL_drop (lessL_nil)))))) ?_
                  exact ih8 M34 0 (v3 + 1) hB40 (by omega) (by omega) (by omega) (by omega) (by omega) (by omega) (by omega)
                · refine vc_iconst dX4_readProduct_79 rfl ?_
                  refine vc_goto dX4_readProduct_80 ?_
                  refine vc_istore_n dX4_readProduct_84 (Nat.le_of_ble_eq_true rfl) rfl (show _ = [some (aR 22), some (aI d), some (aI 1), some (aI v3), some (aI 20003)] from rfl) ?_
                  refine vc_iincE dX4_readProduct_85 rfl (by omega) (by omega) (Nat.le_of_ble_eq_true rfl) rfl (show _ = [some (aR 22), some (aI d), some (aI 1), some (aI (v3 + 1)), some (aI 20003)] from rfl) ?_
                  refine vc_goto dX4_readProduct_88 ?_
                  refine vc_less [some (aR 22), some (aI d), some (aI 1), some (aI (v3 + 1)), none] (lessL_keep (lessL_keep (lessL_keep (lessL_keep (lessL_drop (lessL_nil)))))) ?_
                  exact ih8 M34 1 (v3 + 1) hB40 (by omega) (by omega) (by omega) (by omega) (by omega) (by omega) (by omega)
            · refine vc_sipush dX4_readProduct_46 rfl ?_
              refine vc_goto dX4_readProduct_49 ?_
              refine vc_istore dX4_readProduct_55 (Nat.le_of_ble_eq_true rfl) rfl (show _ = [some (aR 22), some (aI d), some (aI v2), some (aI v3), some (aI 20002)] from rfl) ?_
              refine vc_aload_n dX4_readProduct_57 rfl ?_
              refine vc_cVI dX4_readProduct_58 (sfX4_takeToken (M := Mq8) hQ8.1   ) rfl okX4_takeToken viX4_takeToken lkX4_65 (s_22 hQ8.1.1) cl_4 rfl (by show 0 < 12 + 3 * nf; omega) ⟨rfl, rfl⟩ (Nat.le_of_ble_eq_true rfl) (Nat.le_of_ble_eq_true rfl) (Nat.le_of_ble_eq_true rfl) ?_
              rintro x42 M43 ⟨hB44, h45, h46, h47, h48⟩
              have hB49 : BF fQ M M43 := BF.go hQ8 hB44
              refine vc_pop dX4_readProduct_61 rfl ?_
              refine vc_aload_n dX4_readProduct_62 rfl ?_
              refine vc_iload_n dX4_readProduct_63 rfl ?_
              refine vc_cVI dX4_readProduct_64 (ho (M := M43) hB49.1  d (by omega) (by omega) (by omega) (by omega)) rfl (okX4_readOne (11 + 3 * nf)) (viX4_readOne (11 + 3 * nf)) (lkX4_179 (11 + 3 * nf)) (s_22 hB49.1.1) cl_4 rfl (by show (11 + 3 * nf) < 12 + 3 * nf; omega) ⟨rfl, rfl⟩ (Nat.le_of_ble_eq_true rfl) (Nat.le_of_ble_eq_true rfl) (Nat.le_of_ble_eq_true rfl) ?_
              rintro x50 M51 ⟨hB52, h53, h54, h55, h56⟩
              have hB57 : BF fQ M M51 := BF.go hB49 hB52
              refine vc_if_eq dX4_readProduct_67 (fun h58 => ?_) (fun h58 => ?_)
              · refine vc_iconst dX4_readProduct_83 rfl ?_
                refine vc_istore_n dX4_readProduct_84 (Nat.le_of_ble_eq_true rfl) rfl (show _ = [some (aR 22), some (aI d), some (aI 0), some (aI v3), some (aI 20002)] from rfl) ?_
                refine vc_iincE dX4_readProduct_85 rfl (by omega) (by omega) (Nat.le_of_ble_eq_true rfl) rfl (show _ = [some (aR 22), some (aI d), some (aI 0), some (aI (v3 + 1)), some (aI 20002)] from rfl) ?_
                refine vc_goto dX4_readProduct_88 ?_
                refine vc_less [some (aR 22), some (aI d), some (aI 0), some (aI (v3 + 1)), none] (lessL_keep (lessL_keep (lessL_keep (lessL_keep (lessL_drop (lessL_nil)))))) ?_
                exact ih8 M51 0 (v3 + 1) hB57 (by omega) (by omega) (by omega) (by omega) (by omega) (by omega) (by omega)
              · refine vc_aload_n dX4_readProduct_70 rfl ?_
                refine vc_iload dX4_readProduct_71 rfl ?_
                refine vc_cVI dX4_readProduct_73 (sfX4_emit (M := M51) hB57.1  20002 (by omega)) rfl okX4_emit viX4_emit lkX4_176 (s_22 hB57.1.1) cl_4 rfl (by show 0 < 12 + 3 * nf; omega) ⟨rfl, rfl⟩ (Nat.le_of_ble_eq_true rfl) (Nat.le_of_ble_eq_true rfl) (Nat.le_of_ble_eq_true rfl) ?_
                rintro x59 M60 ⟨hB61, h62, h63, h64, h65⟩
                have hB66 : BF fQ M M60 := BF.go hB57 hB61
                refine vc_if_eq dX4_readProduct_76 (fun h67 => ?_) (fun h67 => ?_)
                · refine vc_iconst dX4_readProduct_83 rfl ?_
                  refine vc_istore_n dX4_readProduct_84 (Nat.le_of_ble_eq_true rfl) rfl (show _ = [some (aR 22), some (aI d), some (aI 0), some (aI v3), some (aI 20002)] from rfl) ?_
                  refine vc_iincE dX4_readProduct_85 rfl (by omega) (by omega) (Nat.le_of_ble_eq_true rfl) rfl (show _ = [some (aR 22), some (aI d), some (aI 0), some (aI (v3 + 1)), some (aI 20002)] from rfl) ?_
                  refine vc_goto dX4_readProduct_88 ?_
                  refine vc_less [some (aR 22), some (aI d), some (aI 0), some (aI (v3 + 1)), none] (lessL_keep (lessL_keep (lessL_keep (lessL_keep (lessL_drop (lessL_nil)))))) ?_
                  exact ih8 M60 0 (v3 + 1) hB66 (by omega) (by omega) (by omega) (by omega) (by omega) (by omega) (by omega)
                · refine vc_iconst dX4_readProduct_79 rfl ?_
                  refine vc_goto dX4_readProduct_80 ?_
                  refine vc_istore_n dX4_readProduct_84 (Nat.le_of_ble_eq_true rfl) rfl (show _ = [some (aR 22), some (aI d), some (aI 1), some (aI v3), some (aI 20002)] from rfl) ?_
                  refine vc_iincE dX4_readProduct_85 rfl (by omega) (by omega) (Nat.le_of_ble_eq_true rfl) rfl (show _ = [some (aR 22), some (aI d), some (aI 1), some (aI (v3 + 1)), some (aI 20002)] from rfl) ?_
                  refine vc_goto dX4_readProduct_88 ?_
                  refine vc_less [some (aR 22), some (aI d), some (aI 1), some (aI (v3 + 1)), none] (lessL_keep (lessL_keep (lessL_keep (lessL_keep (lessL_drop (lessL_nil)))))) ?_
                  exact ih8 M60 1 (v3 + 1) hB66 (by omega) (by omega) (by omega) (by omega) (by omega) (by omega) (by omega)
          · refine vc_aload_n dX4_readProduct_28 rfl ?_
            refine vc_bipush dX4_readProduct_29 rfl ?_
            refine vc_cVI dX4_readProduct_31 (sfX4_isSign (M := Mq8) hQ8.1  47 ) rfl okX4_isSign viX4_isSign lkX4_163 (s_22 hQ8.1.1) cl_4 rfl (by show 0 < 12 + 3 * nf; omega) ⟨rfl, rfl⟩ (Nat.le_of_ble_eq_true rfl) (Nat.le_of_ble_eq_true rfl) (Nat.le_of_ble_eq_true rfl) ?_
            rintro x68 _ ⟨rfl, h69, h70⟩
            refine vc_if_eq dX4_readProduct_34 (fun h71 => ?_) (fun h71 => ?_)
            · refine vc_iload_n dX4_readProduct_91 rfl ?_
              refine vc_zret dX4_readProduct_92 rfl (by first | decide | omega) (Nat.le_of_ble_eq_true rfl) (Nat.le_of_ble_eq_true rfl) ?_
              exact ⟨_, rfl, hQ8, by omega, by omega, by omega, by omega⟩
            · refine vc_aload_n dX4_readProduct_37 rfl ?_
              refine vc_getI dX4_readProduct_38 flX4_119 (s_22 hQ8.1.1) rfl ?_
              refine vc_bipush dX4_readProduct_41 rfl ?_
              refine vc_icmp_ne dX4_readProduct_43 (fun h72 => ?_) (fun h72 => ?_)
              · refine vc_sipush dX4_readProduct_52 rfl ?_
                refine vc_istore dX4_readProduct_55 (Nat.le_of_ble_eq_true rfl) rfl (show _ = [some (aR 22), some (aI d), some (aI v2), some (aI v3), some (aI 20003)] from rfl) ?_
                refine vc_aload_n dX4_readProduct_57 rfl ?_
                refine vc_cVI dX4_readProduct_58 (sfX4_takeToken (M := Mq8) hQ8.1   ) rfl okX4_takeToken viX4_takeToken lkX4_65 (s_22 hQ8.1.1) cl_4 rfl (by show 0 < 12 + 3 * nf; omega) ⟨rfl, rfl⟩ (Nat.le_of_ble_eq_true rfl) (Nat.le_of_ble_eq_true rfl) (Nat.le_of_ble_eq_true rfl) ?_
                rintro x73 M74 ⟨hB75, h76, h77, h78, h79⟩
                have hB80 : BF fQ M M74 := BF.go hQ8 hB75
                refine vc_pop dX4_readProduct_61 rfl ?_
                refine vc_aload_n dX4_readProduct_62 rfl ?_
                refine vc_iload_n dX4_readProduct_63 rfl ?_
                refine vc_cVI dX4_readProduct_64 (ho (M := M74) hB80.1  d (by omega) (by omega) (by omega) (by omega)) rfl (okX4_readOne (11 + 3 * nf)) (viX4_readOne (11 + 3 * nf)) (lkX4_179 (11 + 3 * nf)) (s_22 hB80.1.1) cl_4 rfl (by show (11 + 3 * nf) < 12 + 3 * nf; omega) ⟨rfl, rfl⟩ (Nat.le_of_ble_eq_true rfl) (Nat.le_of_ble_eq_true rfl) (Nat.le_of_ble_eq_true rfl) ?_
                rintro x81 M82 ⟨hB83, h84, h85, h86, h87⟩
                have hB88 : BF fQ M M82 := BF.go hB80 hB83
                refine vc_if_eq dX4_readProduct_67 (fun h89 => ?_) (fun h89 => ?_)
                · refine vc_iconst dX4_readProduct_83 rfl ?_
                  refine vc_istore_n dX4_readProduct_84 (Nat.le_of_ble_eq_true rfl) rfl (show _ = [some (aR 22), some (aI d), some (aI 0), some (aI v3), some (aI 20003)] from rfl) ?_
                  refine vc_iincE dX4_readProduct_85 rfl (by omega) (by omega) (Nat.le_of_ble_eq_true rfl) rfl (show _ = [some (aR 22), some (aI d), some (aI 0), some (aI (v3 + 1)), some (aI 20003)] from rfl) ?_
                  refine vc_goto dX4_readProduct_88 ?_
                  refine vc_less [some (aR 22), some (aI d), some (aI 0), some (aI (v3 + 1)), none] (lessL_keep (lessL_keep (lessL_keep (lessL_keep (lessL_drop (lessL_nil)))))) ?_
                  exact ih8 M82 0 (v3 + 1) hB88 (by omega) (by omega) (by omega) (by omega) (by omega) (by omega) (by omega)
                · refine vc_aload_n dX4_readProduct_70 rfl ?_
                  refine vc_iload dX4_readProduct_71 rfl ?_
                  refine vc_cVI dX4_readProduct_73 (sfX4_emit (M := M82) hB88.1  20003 (by omega)) rfl okX4_emit viX4_emit lkX4_176 (s_22 hB88.1.1) cl_4 rfl (by show 0 < 12 + 3 * nf; omega) ⟨rfl, rfl⟩ (Nat.le_of_ble_eq_true rfl) (Nat.le_of_ble_eq_true rfl) (Nat.le_of_ble_eq_true rfl) ?_
                  rintro x90 M91 ⟨hB92, h93, h94, h95, h96⟩
                  have hB97 : BF fQ M M91 := BF.go hB88 hB92
                  refine vc_if_eq dX4_readProduct_76 (fun h98 => ?_) (fun h98 => ?_)
                  · refine vc_iconst dX4_readProduct_83 rfl ?_
                    refine vc_istore_n dX4_readProduct_84 (Nat.le_of_ble_eq_true rfl) rfl (show _ = [some (aR 22), some (aI d), some (aI 0), some (aI v3), some (aI 20003)] from rfl) ?_
                    refine vc_iincE dX4_readProduct_85 rfl (by omega) (by omega) (Nat.le_of_ble_eq_true rfl) rfl (show _ = [some (aR 22), some (aI d), some (aI 0), some (aI (v3 + 1)), some (aI 20003)] from rfl) ?_
                    refine vc_goto dX4_readProduct_88 ?_
                    refine vc_less [some (aR 22), some (aI d), some (aI 0), some (aI (v3 + 1)), none] (lessL_keep (lessL_keep (lessL_keep (lessL_keep (lessL_drop (lessL_nil)))))) ?_
                    exact ih8 M91 0 (v3 + 1) hB97 (by omega) (by omega) (by omega) (by omega) (by omega) (by omega) (by omega)
                  · refine vc_iconst dX4_readProduct_79 rfl ?_
                    refine vc_goto dX4_readProduct_80 ?_
                    refine vc_istore_n dX4_readProduct_84 (Nat.le_of_ble_eq_true rfl) rfl (show _ = [some (aR 22), some (aI d), some (aI 1), some (aI v3), some (aI 20003)] from rfl) ?_
                    refine vc_iincE dX4_readProduct_85 rfl (by omega) (by omega) (Nat.le_of_ble_eq_true rfl) rfl (show _ = [some (aR 22), some (aI d), some (aI 1), some (aI (v3 + 1)), some (aI 20003)] from rfl) ?_
                    refine vc_goto dX4_readProduct_88 ?_
                    refine vc_less [some (aR 22), some (aI d), some (aI 1), some (aI (v3 + 1)), none] (lessL_keep (lessL_keep (lessL_keep (lessL_keep (lessL_drop (lessL_nil)))))) ?_
                    exact ih8 M91 1 (v3 + 1) hB97 (by omega) (by omega) (by omega) (by omega) (by omega) (by omega) (by omega)
              · refine vc_sipush dX4_readProduct_46 rfl ?_
                refine vc_goto dX4_readProduct_49 ?_
                refine vc_istore dX4_readProduct_55 (Nat.le_of_ble_eq_true rfl) rfl (show _ = [some (aR 22), some (aI d), some (aI v2), some (aI v3), some (aI 20002)] from rfl) ?_
                refine vc_aload_n dX4_readProduct_57 rfl ?_
                refine vc_cVI dX4_readProduct_58 (sfX4_takeToken (M := Mq8) hQ8.1   ) rfl okX4_takeToken viX4_takeToken lkX4_65 (s_22 hQ8.1.1) cl_4 rfl (by show 0 < 12 + 3 * nf; omega) ⟨rfl, rfl⟩ (Nat.le_of_ble_eq_true rfl) (Nat.le_of_ble_eq_true rfl) (Nat.le_of_ble_eq_true rfl) ?_
                rintro x99 M100 ⟨hB101, h102, h103, h104, h105⟩
                have hB106 : BF fQ M M100 := BF.go hQ8 hB101
                refine vc_pop dX4_readProduct_61 rfl ?_
                refine vc_aload_n dX4_readProduct_62 rfl ?_
                refine vc_iload_n dX4_readProduct_63 rfl ?_
                refine vc_cVI dX4_readProduct_64 (ho (M := M100) hB106.1  d (by omega) (by omega) (by omega) (by omega)) rfl (okX4_readOne (11 + 3 * nf)) (viX4_readOne (11 + 3 * nf)) (lkX4_179 (11 + 3 * nf)) (s_22 hB106.1.1) cl_4 rfl (by show (11 + 3 * nf) < 12 + 3 * nf; omega) ⟨rfl, rfl⟩ (Nat.le_of_ble_eq_true rfl) (Nat.le_of_ble_eq_true rfl) (Nat.le_of_ble_eq_true rfl) ?_
                rintro x107 M108 ⟨hB109, h110, h111, h112, h113⟩
                have hB114 : BF fQ M M108 := BF.go hB106 hB109
                refine vc_if_eq dX4_readProduct_67 (fun h115 => ?_) (fun h115 => ?_)
                · refine vc_iconst dX4_readProduct_83 rfl ?_
                  refine vc_istore_n dX4_readProduct_84 (Nat.le_of_ble_eq_true rfl) rfl (show _ = [some (aR 22), some (aI d), some (aI 0), some (aI v3), some (aI 20002)] from rfl) ?_
                  refine vc_iincE dX4_readProduct_85 rfl (by omega) (by omega) (Nat.le_of_ble_eq_true rfl) rfl (show _ = [some (aR 22), some (aI d), some (aI 0), some (aI (v3 + 1)), some (aI 20002)] from rfl) ?_
                  refine vc_goto dX4_readProduct_88 ?_
                  refine vc_less [some (aR 22), some (aI d), some (aI 0), some (aI (v3 + 1)), none] (lessL_keep (lessL_keep (lessL_keep (lessL_keep (lessL_drop (lessL_nil)))))) ?_
                  exact ih8 M108 0 (v3 + 1) hB114 (by omega) (by omega) (by omega) (by omega) (by omega) (by omega) (by omega)
                · refine vc_aload_n dX4_readProduct_70 rfl ?_
                  refine vc_iload dX4_readProduct_71 rfl ?_
                  refine vc_cVI dX4_readProduct_73 (sfX4_emit (M := M108) hB114.1  20002 (by omega)) rfl okX4_emit viX4_emit lkX4_176 (s_22 hB114.1.1) cl_4 rfl (by show 0 < 12 + 3 * nf; omega) ⟨rfl, rfl⟩ (Nat.le_of_ble_eq_true rfl) (Nat.le_of_ble_eq_true rfl) (Nat.le_of_ble_eq_true rfl) ?_
                  rintro x116 M117 ⟨hB118, h119, h120, h121, h122⟩
                  have hB123 : BF fQ M M117 := BF.go hB114 hB118
                  refine vc_if_eq dX4_readProduct_76 (fun h124 => ?_) (fun h124 => ?_)
                  · refine vc_iconst dX4_readProduct_83 rfl ?_
                    refine vc_istore_n dX4_readProduct_84 (Nat.le_of_ble_eq_true rfl) rfl (show _ = [some (aR 22), some (aI d), some (aI 0), some (aI v3), some (aI 20002)] from rfl) ?_
                    refine vc_iincE dX4_readProduct_85 rfl (by omega) (by omega) (Nat.le_of_ble_eq_true rfl) rfl (show _ = [some (aR 22), some (aI d), some (aI 0), some (aI (v3 + 1)), some (aI 20002)] from rfl) ?_
                    refine vc_goto dX4_readProduct_88 ?_
                    refine vc_less [some (aR 22), some (aI d), some (aI 0), some (aI (v3 + 1)), none] (lessL_keep (lessL_keep (lessL_keep (lessL_keep (lessL_drop (lessL_nil)))))) ?_
                    exact ih8 M117 0 (v3 + 1) hB123 (by omega) (by omega) (by omega) (by omega) (by omega) (by omega) (by omega)
                  · refine vc_iconst dX4_readProduct_79 rfl ?_
                    refine vc_goto dX4_readProduct_80 ?_
                    refine vc_istore_n dX4_readProduct_84 (Nat.le_of_ble_eq_true rfl) rfl (show _ = [some (aR 22), some (aI d), some (aI 1), some (aI v3), some (aI 20002)] from rfl) ?_
                    refine vc_iincE dX4_readProduct_85 rfl (by omega) (by omega) (Nat.le_of_ble_eq_true rfl) rfl (show _ = [some (aR 22), some (aI d), some (aI 1), some (aI (v3 + 1)), some (aI 20002)] from rfl) ?_
                    refine vc_goto dX4_readProduct_88 ?_
                    refine vc_less [some (aR 22), some (aI d), some (aI 1), some (aI (v3 + 1)), none] (lessL_keep (lessL_keep (lessL_keep (lessL_keep (lessL_drop (lessL_nil)))))) ?_
                    exact ih8 M117 1 (v3 + 1) hB123 (by omega) (by omega) (by omega) (by omega) (by omega) (by omega) (by omega)
  exact lp8 _ M2 x1 0 hB8 (by omega) (by omega) (by omega) (by omega) (by omega) (by omega) (Nat.lt_succ_self _)

set_option maxRecDepth 4000 in
theorem rd_sum {l : Launch} {nf : Nat} (hp : RdP l nf) : RdS l nf := by
  intro M hB d p0 p1 p2 hnf
  have hB0 : BF fQ M M := BF.start hB
  refine Call.of [some (aR 22), some (aI d), none, none, none] rfl (Nat.le_of_ble_eq_true rfl) rfl ?_
  refine vc_aload_n dX4_readSum_0 rfl ?_
  refine vc_iload_n dX4_readSum_1 rfl ?_
  refine vc_cVI dX4_readSum_2 (hp (M := M) hB0.1  d (by omega) (by omega) (by omega) (by omega)) rfl (okX4_readProduct (12 + 3 * nf)) (viX4_readProduct (12 + 3 * nf)) (lkX4_173 (12 + 3 * nf)) (s_22 hB0.1.1) cl_4 rfl (by show (12 + 3 * nf) < 13 + 3 * nf; omega) ⟨rfl, rfl⟩ (Nat.le_of_ble_eq_true rfl) (Nat.le_of_ble_eq_true rfl) (Nat.le_of_ble_eq_true rfl) ?_
  rintro x1 M2 ⟨hB3, h4, h5, h6, h7⟩
  have hB8 : BF fQ M M2 := BF.go hB0 hB3
  refine vc_istore_n dX4_readSum_5 (Nat.le_of_ble_eq_true rfl) rfl (show _ = [some (aR 22), some (aI d), some (aI x1), none, none] from rfl) ?_
  refine vc_iconst dX4_readSum_6 rfl ?_
  refine vc_istore_n dX4_readSum_7 (Nat.le_of_ble_eq_true rfl) rfl (show _ = [some (aR 22), some (aI d), some (aI x1), some (aI 0), none] from rfl) ?_
  have lp8 : ∀ (n8 : Nat) (Mq8 : Mem) (v2 : Int) (v3 : Int), (BF fQ M Mq8) → (0 ≤ v2) → (v2 ≤ 1) → (0 ≤ v3) → (v3 ≤ 300) → (0 ≤ mI Mq8 22 9) → (mI Mq8 22 13 = mI M 22 13) → (300 - v3).toNat < n8 → VC l (mdX4_readSum (13 + 3 * nf)) 8 [some (aR 22), some (aI d), some (aI v2), some (aI v3), none] [] Mq8 0 0 (fun q N => ∃ r : Int, q = some (aI r) ∧ BF fQ M N ∧ 0 ≤ r ∧ r ≤ 1 ∧ 0 ≤ mI N 22 9 ∧ mI N 22 13 = mI M 22 13) := by
    intro n8
    induction n8 with
    | zero => intro Mq8 v2 v3 hQ8 g8_2a g8_2b g8_3a g8_3b g8i0 g8i1 hm8; exact absurd hm8 (Nat.not_lt_zero _)
    | succ n8 ih8 =>
      intro Mq8 v2 v3 hQ8 g8_2a g8_2b g8_3a g8_3b g8i0 g8i1 hm8
      refine vc_iload_n dX4_readSum_8 rfl ?_
      refine vc_sipush dX4_readSum_9 rfl ?_
      refine vc_icmp_ge dX4_readSum_12 (fun h9 => ?_) (fun h9 => ?_)
      · refine vc_iload_n dX4_readSum_91 rfl ?_
        refine vc_zret dX4_readSum_92 rfl (by first | decide | omega) (Nat.le_of_ble_eq_true rfl) (Nat.le_of_ble_eq_true rfl) ?_
        exact ⟨_, rfl, hQ8, by omega, by omega, by omega, by omega⟩
      · refine vc_iload_n dX4_readSum_15 rfl ?_
        refine vc_if_eq dX4_readSum_16 (fun h10 => ?_) (fun h10 => ?_)
        · refine vc_iload_n dX4_readSum_91 rfl ?_
          refine vc_zret dX4_readSum_92 rfl (by first | decide | omega) (Nat.le_of_ble_eq_true rfl) (Nat.le_of_ble_eq_true rfl) ?_
          exact ⟨_, rfl, hQ8, by omega, by omega, by omega, by omega⟩
        · refine vc_aload_n dX4_readSum_19 rfl ?_
          refine vc_bipush dX4_readSum_20 rfl ?_
          refine vc_cVI dX4_readSum_22 (sfX4_isSign (M := Mq8) hQ8.1  43 ) rfl okX4_isSign viX4_isSign lkX4_163 (s_22 hQ8.1.1) cl_4 rfl (by show 0 < 13 + 3 * nf; omega) ⟨rfl, rfl⟩ (Nat.le_of_ble_eq_true rfl) (Nat.le_of_ble_eq_true rfl) (Nat.le_of_ble_eq_true rfl) ?_
          rintro x11 _ ⟨rfl, h12, h13⟩
          refine vc_if_ne dX4_readSum_25 (fun h14 => ?_) (fun h14 => ?_)
          · refine vc_aload_n dX4_readSum_37 rfl ?_
            refine vc_getI dX4_readSum_38 flX4_119 (s_22 hQ8.1.1) rfl ?_
            refine vc_bipush dX4_readSum_41 rfl ?_
            refine vc_icmp_ne dX4_readSum_43 (fun h15 => ?_) (fun h15 => ?_)
            · refine vc_sipush dX4_readSum_52 rfl ?_
              refine vc_istore dX4_readSum_55 (Nat.le_of_ble_eq_true rfl) rfl (show _ = [some (aR 22), some (aI d), some (aI v2), some (aI v3), some (aI 20001)] from rfl) ?_
              refine vc_aload_n dX4_readSum_57 rfl ?_
              refine vc_cVI dX4_readSum_58 (sfX4_takeToken (M := Mq8) hQ8.1   ) rfl okX4_takeToken viX4_takeToken lkX4_65 (s_22 hQ8.1.1) cl_4 rfl (by show 0 < 13 + 3 * nf; omega) ⟨rfl, rfl⟩ (Nat.le_of_ble_eq_true rfl) (Nat.le_of_ble_eq_true rfl) (Nat.le_of_ble_eq_true rfl) ?_
              rintro x16 M17 ⟨hB18, h19, h20, h21, h22⟩
              have hB23 : BF fQ M M17 := BF.go hQ8 hB18
              refine vc_pop dX4_readSum_61 rfl ?_
              refine vc_aload_n dX4_readSum_62 rfl ?_
              refine vc_iload_n dX4_readSum_63 rfl ?_
              refine vc_cVI dX4_readSum_64 (hp (M := M17) hB23.1  d (by omega) (by omega) (by omega) (by omega)) rfl (okX4_readProduct (12 + 3 * nf)) (viX4_readProduct (12 + 3 * nf)) (lkX4_173 (12 + 3 * nf)) (s_22 hB23.1.1) cl_4 rfl (by show (12 + 3 * nf) < 13 + 3 * nf; omega) ⟨rfl, rfl⟩ (Nat.le_of_ble_eq_true rfl) (Nat.le_of_ble_eq_true rfl) (Nat.le_of_ble_eq_true rfl) ?_
              rintro x24 M25 ⟨hB26, h27, h28, h29, h30⟩
              have hB31 : BF fQ M M25 := BF.go hB23 hB26
              refine vc_if_eq dX4_readSum_67 (fun h32 => ?_) (fun h32 => ?_)
              · refine vc_iconst dX4_readSum_83 rfl ?_
                refine vc_istore_n dX4_readSum_84 (Nat.le_of_ble_eq_true rfl) rfl (show _ = [some (aR 22), some (aI d), some (aI 0), some (aI v3), some (aI 20001)] from rfl) ?_
                refine vc_iincE dX4_readSum_85 rfl (by omega) (by omega) (Nat.le_of_ble_eq_true rfl) rfl (show _ = [some (aR 22), some (aI d), some (aI 0), some (aI (v3 + 1)), some (aI 20001)] from rfl) ?_
                refine vc_goto dX4_readSum_88 ?_
                refine vc_less [some (aR 22), some (aI d), some (aI 0), some (aI (v3 + 1)), none] (lessL_keep (lessL_keep (lessL_keep (lessL_keep (lessL_drop (lessL_nil)))))) ?_
                exact ih8 M25 0 (v3 + 1) hB31 (by omega) (by omega) (by omega) (by omega) (by omega) (by omega) (by omega)
              · refine vc_aload_n dX4_readSum_70 rfl ?_
                refine vc_iload dX4_readSum_71 rfl ?_
                refine vc_cVI dX4_readSum_73 (sfX4_emit (M := M25) hB31.1  20001 (by omega)) rfl okX4_emit viX4_emit lkX4_176 (s_22 hB31.1.1) cl_4 rfl (by show 0 < 13 + 3 * nf; omega) ⟨rfl, rfl⟩ (Nat.le_of_ble_eq_true rfl) (Nat.le_of_ble_eq_true rfl) (Nat.le_of_ble_eq_true rfl) ?_
                rintro x33 M34 ⟨hB35, h36, h37, h38, h39⟩
                have hB40 : BF fQ M M34 := BF.go hB31 hB35
                refine vc_if_eq dX4_readSum_76 (fun h41 => ?_) (fun h41 => ?_)
                · refine vc_iconst dX4_readSum_83 rfl ?_
                  refine vc_istore_n dX4_readSum_84 (Nat.le_of_ble_eq_true rfl) rfl (show _ = [some (aR 22), some (aI d), some (aI 0), some (aI v3), some (aI 20001)] from rfl) ?_
                  refine vc_iincE dX4_readSum_85 rfl (by omega) (by omega) (Nat.le_of_ble_eq_true rfl) rfl (show _ = [some (aR 22), some (aI d), some (aI 0), some (aI (v3 + 1)), some (aI 20001)] from rfl) ?_
                  refine vc_goto dX4_readSum_88 ?_
                  refine vc_less [some (aR 22), some (aI d), some (aI 0), some (aI (v3 + 1)), none] (lessL_keep (lessL_keep (lessL_keep (lessL_keep (lessL_drop (lessL_nil)))))) ?_
                  exact ih8 M34 0 (v3 + 1) hB40 (by omega) (by omega) (by omega) (by omega) (by omega) (by omega) (by omega)
                · refine vc_iconst dX4_readSum_79 rfl ?_
                  refine vc_goto dX4_readSum_80 ?_
                  refine vc_istore_n dX4_readSum_84 (Nat.le_of_ble_eq_true rfl) rfl (show _ = [some (aR 22), some (aI d), some (aI 1), some (aI v3), some (aI 20001)] from rfl) ?_
                  refine vc_iincE dX4_readSum_85 rfl (by omega) (by omega) (Nat.le_of_ble_eq_true rfl) rfl (show _ = [some (aR 22), some (aI d), some (aI 1), some (aI (v3 + 1)), some (aI 20001)] from rfl) ?_
                  refine vc_goto dX4_readSum_88 ?_
                  refine vc_less [some (aR 22), some (aI d), some (aI 1), some (aI (v3 + 1)), none] (lessL_keep (lessL_keep (lessL_keep (lessL_keep (lessL_drop (lessL_nil)))))) ?_
                  exact ih8 M34 1 (v3 + 1) hB40 (by omega) (by omega) (by omega) (by omega) (by omega) (by omega) (by omega)
            · refine vc_sipush dX4_readSum_46 rfl ?_
              refine vc_goto dX4_readSum_49 ?_
              refine vc_istore dX4_readSum_55 (Nat.le_of_ble_eq_true rfl) rfl (show _ = [some (aR 22), some (aI d), some (aI v2), some (aI v3), some (aI 20000)] from rfl) ?_
              refine vc_aload_n dX4_readSum_57 rfl ?_
              refine vc_cVI dX4_readSum_58 (sfX4_takeToken (M := Mq8) hQ8.1   ) rfl okX4_takeToken viX4_takeToken lkX4_65 (s_22 hQ8.1.1) cl_4 rfl (by show 0 < 13 + 3 * nf; omega) ⟨rfl, rfl⟩ (Nat.le_of_ble_eq_true rfl) (Nat.le_of_ble_eq_true rfl) (Nat.le_of_ble_eq_true rfl) ?_
              rintro x42 M43 ⟨hB44, h45, h46, h47, h48⟩
              have hB49 : BF fQ M M43 := BF.go hQ8 hB44
              refine vc_pop dX4_readSum_61 rfl ?_
              refine vc_aload_n dX4_readSum_62 rfl ?_
              refine vc_iload_n dX4_readSum_63 rfl ?_
              refine vc_cVI dX4_readSum_64 (hp (M := M43) hB49.1  d (by omega) (by omega) (by omega) (by omega)) rfl (okX4_readProduct (12 + 3 * nf)) (viX4_readProduct (12 + 3 * nf)) (lkX4_173 (12 + 3 * nf)) (s_22 hB49.1.1) cl_4 rfl (by show (12 + 3 * nf) < 13 + 3 * nf; omega) ⟨rfl, rfl⟩ (Nat.le_of_ble_eq_true rfl) (Nat.le_of_ble_eq_true rfl) (Nat.le_of_ble_eq_true rfl) ?_
              rintro x50 M51 ⟨hB52, h53, h54, h55, h56⟩
              have hB57 : BF fQ M M51 := BF.go hB49 hB52
              refine vc_if_eq dX4_readSum_67 (fun h58 => ?_) (fun h58 => ?_)
              · refine vc_iconst dX4_readSum_83 rfl ?_
                refine vc_istore_n dX4_readSum_84 (Nat.le_of_ble_eq_true rfl) rfl (show _ = [some (aR 22), some (aI d), some (aI 0), some (aI v3), some (aI 20000)] from rfl) ?_
                refine vc_iincE dX4_readSum_85 rfl (by omega) (by omega) (Nat.le_of_ble_eq_true rfl) rfl (show _ = [some (aR 22), some (aI d), some (aI 0), some (aI (v3 + 1)), some (aI 20000)] from rfl) ?_
                refine vc_goto dX4_readSum_88 ?_
                refine vc_less [some (aR 22), some (aI d), some (aI 0), some (aI (v3 + 1)), none] (lessL_keep (lessL_keep (lessL_keep (lessL_keep (lessL_drop (lessL_nil)))))) ?_
                exact ih8 M51 0 (v3 + 1) hB57 (by omega) (by omega) (by omega) (by omega) (by omega) (by omega) (by omega)
              · refine vc_aload_n dX4_readSum_70 rfl ?_
                refine vc_iload dX4_readSum_71 rfl ?_
                refine vc_cVI dX4_readSum_73 (sfX4_emit (M := M51) hB57.1  20000 (by omega)) rfl okX4_emit viX4_emit lkX4_176 (s_22 hB57.1.1) cl_4 rfl (by show 0 < 13 + 3 * nf; omega) ⟨rfl, rfl⟩ (Nat.le_of_ble_eq_true rfl) (Nat.le_of_ble_eq_true rfl) (Nat.le_of_ble_eq_true rfl) ?_
                rintro x59 M60 ⟨hB61, h62, h63, h64, h65⟩
                have hB66 : BF fQ M M60 := BF.go hB57 hB61
                refine vc_if_eq dX4_readSum_76 (fun h67 => ?_) (fun h67 => ?_)
                · refine vc_iconst dX4_readSum_83 rfl ?_
                  refine vc_istore_n dX4_readSum_84 (Nat.le_of_ble_eq_true rfl) rfl (show _ = [some (aR 22), some (aI d), some (aI 0), some (aI v3), some (aI 20000)] from rfl) ?_
                  refine vc_iincE dX4_readSum_85 rfl (by omega) (by omega) (Nat.le_of_ble_eq_true rfl) rfl (show _ = [some (aR 22), some (aI d), some (aI 0), some (aI (v3 + 1)), some (aI 20000)] from rfl) ?_
                  refine vc_goto dX4_readSum_88 ?_
                  refine vc_less [some (aR 22), some (aI d), some (aI 0), some (aI (v3 + 1)), none] (lessL_keep (lessL_keep (lessL_keep (lessL_keep (lessL_drop (lessL_nil)))))) ?_
                  exact ih8 M60 0 (v3 + 1) hB66 (by omega) (by omega) (by omega) (by omega) (by omega) (by omega) (by omega)
                · refine vc_iconst dX4_readSum_79 rfl ?_
                  refine vc_goto dX4_readSum_80 ?_
                  refine vc_istore_n dX4_readSum_84 (Nat.le_of_ble_eq_true rfl) rfl (show _ = [some (aR 22), some (aI d), some (aI 1), some (aI v3), some (aI 20000)] from rfl) ?_
                  refine vc_iincE dX4_readSum_85 rfl (by omega) (by omega) (Nat.le_of_ble_eq_true rfl) rfl (show _ = [some (aR 22), some (aI d), some (aI 1), some (aI (v3 + 1)), some (aI 20000)] from rfl) ?_
                  refine vc_goto dX4_readSum_88 ?_
                  refine vc_less [some (aR 22), some (aI d), some (aI 1), some (aI (v3 + 1)), none] (lessL_keep (lessL_keep (lessL_keep (lessL_keep (lessL_drop (lessL_nil)))))) ?_
                  exact ih8 M60 1 (v3 + 1) hB66 (by omega) (by omega) (by omega) (by omega) (by omega) (by omega) (by omega)
          · refine vc_aload_n dX4_readSum_28 rfl ?_
            refine vc_bipush dX4_readSum_29 rfl ?_
            refine vc_cVI dX4_readSum_31 (sfX4_isSign (M := Mq8) hQ8.1  45 ) rfl okX4_isSign viX4_isSign lkX4_163 (s_22 hQ8.1.1) cl_4 rfl (by show 0 < 13 + 3 * nf; omega) ⟨rfl, rfl⟩ (Nat.le_of_ble_eq_true rfl) (Nat.le_of_ble_eq_true rfl) (Nat.le_of_ble_eq_true rfl) ?_
            rintro x68 _ ⟨rfl, h69, h70⟩
            refine vc_if_eq dX4_readSum_34 (fun h71 => ?_) (fun h71 => ?_)
            · refine vc_iload_n dX4_readSum_91 rfl ?_
              refine vc_zret dX4_readSum_92 rfl (by first | decide | omega) (Nat.le_of_ble_eq_true rfl) (Nat.le_of_ble_eq_true rfl) ?_
              exact ⟨_, rfl, hQ8, by omega, by omega, by omega, by omega⟩
            · refine vc_aload_n dX4_readSum_37 rfl ?_
              refine vc_getI dX4_readSum_38 flX4_119 (s_22 hQ8.1.1) rfl ?_
              refine vc_bipush dX4_readSum_41 rfl ?_
              refine vc_icmp_ne dX4_readSum_43 (fun h72 => ?_) (fun h72 => ?_)
              · refine vc_sipush dX4_readSum_52 rfl ?_
                refine vc_istore dX4_readSum_55 (Nat.le_of_ble_eq_true rfl) rfl (show _ = [some (aR 22), some (aI d), some (aI v2), some (aI v3), some (aI 20001)] from rfl) ?_
                refine vc_aload_n dX4_readSum_57 rfl ?_
                refine vc_cVI dX4_readSum_58 (sfX4_takeToken (M := Mq8) hQ8.1   ) rfl okX4_takeToken viX4_takeToken lkX4_65 (s_22 hQ8.1.1) cl_4 rfl (by show 0 < 13 + 3 * nf; omega) ⟨rfl, rfl⟩ (Nat.le_of_ble_eq_true rfl) (Nat.le_of_ble_eq_true rfl) (Nat.le_of_ble_eq_true rfl) ?_
                rintro x73 M74 ⟨hB75, h76, h77, h78, h79⟩
                have hB80 : BF fQ M M74 := BF.go hQ8 hB75
                refine vc_pop dX4_readSum_61 rfl ?_
                refine vc_aload_n dX4_readSum_62 rfl ?_
                refine vc_iload_n dX4_readSum_63 rfl ?_
                refine vc_cVI dX4_readSum_64 (hp (M := M74) hB80.1  d (by omega) (by omega) (by omega) (by omega)) rfl (okX4_readProduct (12 + 3 * nf)) (viX4_readProduct (12 + 3 * nf)) (lkX4_173 (12 + 3 * nf)) (s_22 hB80.1.1) cl_4 rfl (by show (12 + 3 * nf) < 13 + 3 * nf; omega) ⟨rfl, rfl⟩ (Nat.le_of_ble_eq_true rfl) (Nat.le_of_ble_eq_true rfl) (Nat.le_of_ble_eq_true rfl) ?_
                rintro x81 M82 ⟨hB83, h84, h85, h86, h87⟩
                have hB88 : BF fQ M M82 := BF.go hB80 hB83
                refine vc_if_eq dX4_readSum_67 (fun h89 => ?_) (fun h89 => ?_)
                · refine vc_iconst dX4_readSum_83 rfl ?_
                  refine vc_istore_n dX4_readSum_84 (Nat.le_of_ble_eq_true rfl) rfl (show _ = [some (aR 22), some (aI d), some (aI 0), some (aI v3), some (aI 20001)] from rfl) ?_
                  refine vc_iincE dX4_readSum_85 rfl (by omega) (by omega) (Nat.le_of_ble_eq_true rfl) rfl (show _ = [some (aR 22), some (aI d), some (aI 0), some (aI (v3 + 1)), some (aI 20001)] from rfl) ?_
                  refine vc_goto dX4_readSum_88 ?_
                  refine vc_less [some (aR 22), some (aI d), some (aI 0), some (aI (v3 + 1)), none] (lessL_keep (lessL_keep (lessL_keep (lessL_keep (lessL_drop (lessL_nil)))))) ?_
                  exact ih8 M82 0 (v3 + 1) hB88 (by omega) (by omega) (by omega) (by omega) (by omega) (by omega) (by omega)
                · refine vc_aload_n dX4_readSum_70 rfl ?_
                  refine vc_iload dX4_readSum_71 rfl ?_
                  refine vc_cVI dX4_readSum_73 (sfX4_emit (M := M82) hB88.1  20001 (by omega)) rfl okX4_emit viX4_emit lkX4_176 (s_22 hB88.1.1) cl_4 rfl (by show 0 < 13 + 3 * nf; omega) ⟨rfl, rfl⟩ (Nat.le_of_ble_eq_true rfl) (Nat.le_of_ble_eq_true rfl) (Nat.le_of_ble_eq_true rfl) ?_
                  rintro x90 M91 ⟨hB92, h93, h94, h95, h96⟩
                  have hB97 : BF fQ M M91 := BF.go hB88 hB92
                  refine vc_if_eq dX4_readSum_76 (fun h98 => ?_) (fun h98 => ?_)
                  · refine vc_iconst dX4_readSum_83 rfl ?_
                    refine vc_istore_n dX4_readSum_84 (Nat.le_of_ble_eq_true rfl) rfl (show _ = [some (aR 22), some (aI d), some (aI 0), some (aI v3), some (aI 20001)] from rfl) ?_
                    refine vc_iincE dX4_readSum_85 rfl (by omega) (by omega) (Nat.le_of_ble_eq_true rfl) rfl (show _ = [some (aR 22), some (aI d), some (aI 0), some (aI (v3 + 1)), some (aI 20001)] from rfl) ?_
                    refine vc_goto dX4_readSum_88 ?_
                    refine vc_less [some (aR 22), some (aI d), some (aI 0), some (aI (v3 + 1)), none] (lessL_keep (lessL_keep (lessL_keep (lessL_keep (lessL_drop (lessL_nil)))))) ?_
                    exact ih8 M91 0 (v3 + 1) hB97 (by omega) (by omega) (by omega) (by omega) (by omega) (by omega) (by omega)
                  · refine vc_iconst dX4_readSum_79 rfl ?_
                    refine vc_goto dX4_readSum_80 ?_
                    refine vc_istore_n dX4_readSum_84 (Nat.le_of_ble_eq_true rfl) rfl (show _ = [some (aR 22), some (aI d), some (aI 1), some (aI v3), some (aI 20001)] from rfl) ?_
                    refine vc_iincE dX4_readSum_85 rfl (by omega) (by omega) (Nat.le_of_ble_eq_true rfl) rfl (show _ = [some (aR 22), some (aI d), some (aI 1), some (aI (v3 + 1)), some (aI 20001)] from rfl) ?_
                    refine vc_goto dX4_readSum_88 ?_
                    refine vc_less [some (aR 22), some (aI d), some (aI 1), some (aI (v3 + 1)), none] (lessL_keep (lessL_keep (lessL_keep (lessL_keep (lessL_drop (lessL_nil)))))) ?_
                    exact ih8 M91 1 (v3 + 1) hB97 (by omega) (by omega) (by omega) (by omega) (by omega) (by omega) (by omega)
              · refine vc_sipush dX4_readSum_46 rfl ?_
                refine vc_goto dX4_readSum_49 ?_
                refine vc_istore dX4_readSum_55 (Nat.le_of_ble_eq_true rfl) rfl (show _ = [some (aR 22), some (aI d), some (aI v2), some (aI v3), some (aI 20000)] from rfl) ?_
                refine vc_aload_n dX4_readSum_57 rfl ?_
                refine vc_cVI dX4_readSum_58 (sfX4_takeToken (M := Mq8) hQ8.1   ) rfl okX4_takeToken viX4_takeToken lkX4_65 (s_22 hQ8.1.1) cl_4 rfl (by show 0 < 13 + 3 * nf; omega) ⟨rfl, rfl⟩ (Nat.le_of_ble_eq_true rfl) (Nat.le_of_ble_eq_true rfl) (Nat.le_of_ble_eq_true rfl) ?_
                rintro x99 M100 ⟨hB101, h102, h103, h104, h105⟩
                have hB106 : BF fQ M M100 := BF.go hQ8 hB101
                refine vc_pop dX4_readSum_61 rfl ?_
                refine vc_aload_n dX4_readSum_62 rfl ?_
                refine vc_iload_n dX4_readSum_63 rfl ?_
                refine vc_cVI dX4_readSum_64 (hp (M := M100) hB106.1  d (by omega) (by omega) (by omega) (by omega)) rfl (okX4_readProduct (12 + 3 * nf)) (viX4_readProduct (12 + 3 * nf)) (lkX4_173 (12 + 3 * nf)) (s_22 hB106.1.1) cl_4 rfl (by show (12 + 3 * nf) < 13 + 3 * nf; omega) ⟨rfl, rfl⟩ (Nat.le_of_ble_eq_true rfl) (Nat.le_of_ble_eq_true rfl) (Nat.le_of_ble_eq_true rfl) ?_
                rintro x107 M108 ⟨hB109, h110, h111, h112, h113⟩
                have hB114 : BF fQ M M108 := BF.go hB106 hB109
                refine vc_if_eq dX4_readSum_67 (fun h115 => ?_) (fun h115 => ?_)
                · refine vc_iconst dX4_readSum_83 rfl ?_
                  refine vc_istore_n dX4_readSum_84 (Nat.le_of_ble_eq_true rfl) rfl (show _ = [some (aR 22), some (aI d), some (aI 0), some (aI v3), some (aI 20000)] from rfl) ?_
                  refine vc_iincE dX4_readSum_85 rfl (by omega) (by omega) (Nat.le_of_ble_eq_true rfl) rfl (show _ = [some (aR 22), some (aI d), some (aI 0), some (aI (v3 + 1)), some (aI 20000)] from rfl) ?_
                  refine vc_goto dX4_readSum_88 ?_
                  refine vc_less [some (aR 22), some (aI d), some (aI 0), some (aI (v3 + 1)), none] (lessL_keep (lessL_keep (lessL_keep (lessL_keep (lessL_drop (lessL_nil)))))) ?_
                  exact ih8 M108 0 (v3 + 1) hB114 (by omega) (by omega) (by omega) (by omega) (by omega) (by omega) (by omega)
                · refine vc_aload_n dX4_readSum_70 rfl ?_
                  refine vc_iload dX4_readSum_71 rfl ?_
                  refine vc_cVI dX4_readSum_73 (sfX4_emit (M := M108) hB114.1  20000 (by omega)) rfl okX4_emit viX4_emit lkX4_176 (s_22 hB114.1.1) cl_4 rfl (by show 0 < 13 + 3 * nf; omega) ⟨rfl, rfl⟩ (Nat.le_of_ble_eq_true rfl) (Nat.le_of_ble_eq_true rfl) (Nat.le_of_ble_eq_true rfl) ?_
                  rintro x116 M117 ⟨hB118, h119, h120, h121, h122⟩
                  have hB123 : BF fQ M M117 := BF.go hB114 hB118
                  refine vc_if_eq dX4_readSum_76 (fun h124 => ?_) (fun h124 => ?_)
                  · refine vc_iconst dX4_readSum_83 rfl ?_
                    refine vc_istore_n dX4_readSum_84 (Nat.le_of_ble_eq_true rfl) rfl (show _ = [some (aR 22), some (aI d), some (aI 0), some (aI v3), some (aI 20000)] from rfl) ?_
                    refine vc_iincE dX4_readSum_85 rfl (by omega) (by omega) (Nat.le_of_ble_eq_true rfl) rfl (show _ = [some (aR 22), some (aI d), some (aI 0), some (aI (v3 + 1)), some (aI 20000)] from rfl) ?_
                    refine vc_goto dX4_readSum_88 ?_
                    refine vc_less [some (aR 22), some (aI d), some (aI 0), some (aI (v3 + 1)), none] (lessL_keep (lessL_keep (lessL_keep (lessL_keep (lessL_drop (lessL_nil)))))) ?_
                    exact ih8 M117 0 (v3 + 1) hB123 (by omega) (by omega) (by omega) (by omega) (by omega) (by omega) (by omega)
                  · refine vc_iconst dX4_readSum_79 rfl ?_
                    refine vc_goto dX4_readSum_80 ?_
                    refine vc_istore_n dX4_readSum_84 (Nat.le_of_ble_eq_true rfl) rfl (show _ = [some (aR 22), some (aI d), some (aI 1), some (aI v3), some (aI 20000)] from rfl) ?_
                    refine vc_iincE dX4_readSum_85 rfl (by omega) (by omega) (Nat.le_of_ble_eq_true rfl) rfl (show _ = [some (aR 22), some (aI d), some (aI 1), some (aI (v3 + 1)), some (aI 20000)] from rfl) ?_
                    refine vc_goto dX4_readSum_88 ?_
                    refine vc_less [some (aR 22), some (aI d), some (aI 1), some (aI (v3 + 1)), none] (lessL_keep (lessL_keep (lessL_keep (lessL_keep (lessL_drop (lessL_nil)))))) ?_
                    exact ih8 M117 1 (v3 + 1) hB123 (by omega) (by omega) (by omega) (by omega) (by omega) (by omega) (by omega)
  exact lp8 _ M2 x1 0 hB8 (by omega) (by omega) (by omega) (by omega) (by omega) (by omega) (Nat.lt_succ_self _)

theorem rd_all {l : Launch} (nf : Nat) : RdO l nf ∧ RdS l nf := by
  induction nf with
  | zero => constructor <;> (intro M hB d _ _ _ h; exact absurd h (Nat.not_lt_zero _))
  | succ nf ih => exact ⟨rd_one ih.2 ih.1, rd_sum (rd_prod (rd_one ih.2 ih.1))⟩
set_option maxRecDepth 4000 in
theorem sfX4_readClause {l : Launch} {M : Mem} (hB : Box M)   (p0 : 0 ≤ mI M 22 9) : Call l mdX4_readClause [aR 22] M (fun q N => ∃ r : Int, q = some (aI r) ∧ BF fQ M N ∧ 0 ≤ r ∧ r ≤ 1 ∧ 0 ≤ mI N 22 9) := by
  have hB0 : BF fQ M M := BF.start hB
  refine Call.of [some (aR 22), none, none] rfl (Nat.le_of_ble_eq_true rfl) rfl ?_
  refine vc_aload_n dX4_readClause_0 rfl ?_
  refine vc_getI dX4_readClause_1 flX4_69 (s_22 hB0.1.1) rfl ?_
  refine vc_iconst dX4_readClause_4 rfl ?_
  refine vc_icmp_ne dX4_readClause_5 (fun h1 => ?_) (fun h1 => ?_)
  · refine vc_aload_n dX4_readClause_24 rfl ?_
    refine vc_iconst dX4_readClause_25 rfl ?_
    refine vc_cVI dX4_readClause_26 (sfX4_failed (M := M) hB0.1  1 (by omega)) rfl okX4_failed viX4_failed lkX4_122 (s_22 hB0.1.1) cl_4 rfl (Nat.le_of_ble_eq_true rfl) ⟨rfl, rfl⟩ (Nat.le_of_ble_eq_true rfl) (Nat.le_of_ble_eq_true rfl) (Nat.le_of_ble_eq_true rfl) ?_
    rintro x2 M3 ⟨hB4, h5, h6, h7, h8⟩
    have hB9 : BF fQ M M3 := BF.go hB0 hB4
    refine vc_zret dX4_readClause_29 rfl (by first | decide | omega) (Nat.le_of_ble_eq_true rfl) (Nat.le_of_ble_eq_true rfl) ?_
    exact ⟨_, rfl, hB9, by omega, by omega, by omega⟩
  · refine vc_aload_n dX4_readClause_8 rfl ?_
    refine vc_getI dX4_readClause_9 flX4_119 (s_22 hB0.1.1) rfl ?_
    refine vc_if_lt dX4_readClause_12 (fun h10 => ?_) (fun h10 => ?_)
    · refine vc_aload_n dX4_readClause_24 rfl ?_
      refine vc_iconst dX4_readClause_25 rfl ?_
      refine vc_cVI dX4_readClause_26 (sfX4_failed (M := M) hB0.1  1 (by omega)) rfl okX4_failed viX4_failed lkX4_122 (s_22 hB0.1.1) cl_4 rfl (Nat.le_of_ble_eq_true rfl) ⟨rfl, rfl⟩ (Nat.le_of_ble_eq_true rfl) (Nat.le_of_ble_eq_true rfl) (Nat.le_of_ble_eq_true rfl) ?_
      rintro x11 M12 ⟨hB13, h14, h15, h16, h17⟩
      have hB18 : BF fQ M M12 := BF.go hB0 hB13
      refine vc_zret dX4_readClause_29 rfl (by first | decide | omega) (Nat.le_of_ble_eq_true rfl) (Nat.le_of_ble_eq_true rfl) ?_
      exact ⟨_, rfl, hB18, by omega, by omega, by omega⟩
    · refine vc_aload_n dX4_readClause_15 rfl ?_
      refine vc_getI dX4_readClause_16 flX4_119 (s_22 hB0.1.1) rfl ?_
      refine vc_bipush dX4_readClause_19 rfl ?_
      refine vc_icmp_le dX4_readClause_21 (fun h19 => ?_) (fun h19 => ?_)
      · refine vc_aload_n dX4_readClause_30 rfl ?_
        refine vc_getI dX4_readClause_31 flX4_119 (s_22 hB0.1.1) rfl ?_
        refine vc_nameI (fun x20 ex20 => ?_)
        refine vc_istore_n dX4_readClause_34 (by decide) rfl (show _ = [some (aR 22), some (aI x20), none] from rfl) ?_
        refine vc_iload_n dX4_readClause_35 rfl ?_
        refine vc_iconst dX4_readClause_36 rfl ?_
        refine vc_icmp_ge dX4_readClause_37 (fun h21 => ?_) (fun h21 => ?_)
        · refine vc_aload_n dX4_readClause_58 rfl ?_
          refine vc_getI dX4_readClause_59 flX4_53 (s_22 hB0.1.1) rfl ?_
          have k22 : 0 ≤ mI M 22 13 ∧ mI M 22 13 ≤ 24 := b22_13 (M := M) hB0.1
          refine vc_bipush dX4_readClause_62 rfl ?_
          refine vc_icmp_lt dX4_readClause_64 (fun h23 => ?_) (fun h23 => ?_)
          · refine vc_aload_n dX4_readClause_74 rfl ?_
            refine vc_iconst dX4_readClause_75 rfl ?_
            refine vc_iload_n dX4_readClause_76 rfl ?_
            refine vc_cVU dX4_readClause_77 (sfX4_keep (M := M) hB0.1  0 x20 (by omega) (by omega) (by omega)) rfl okX4_keep viX4_keep lkX4_125 (s_22 hB0.1.1) cl_4 rfl (Nat.le_of_ble_eq_true rfl) ⟨rfl, rfl⟩ (Nat.le_of_ble_eq_true rfl) (Nat.le_of_ble_eq_true rfl) (Nat.le_of_ble_eq_true rfl) ?_
            rintro M24 ⟨hB25, h26, h27⟩
            have hB28 : BF fQ M M24 := BF.go hB0 hB25
            refine vc_aload_n dX4_readClause_80 rfl ?_
            refine vc_cVI dX4_readClause_81 (sfX4_takeToken (M := M24) hB28.1   ) rfl okX4_takeToken viX4_takeToken lkX4_65 (s_22 hB28.1.1) cl_4 rfl (Nat.le_of_ble_eq_true rfl) ⟨rfl, rfl⟩ (Nat.le_of_ble_eq_true rfl) (Nat.le_of_ble_eq_true rfl) (Nat.le_of_ble_eq_true rfl) ?_
            rintro x29 M30 ⟨hB31, h32, h33, h34, h35⟩
            have hB36 : BF fQ M M30 := BF.go hB28 hB31
            refine vc_pop dX4_readClause_84 rfl ?_
            refine vc_iload_n dX4_readClause_85 rfl ?_
            refine vc_iconst dX4_readClause_86 rfl ?_
            refine vc_icmp_ge dX4_readClause_87 (fun h37 => ?_) (fun h37 => by exfalso; omega)
            refine vc_aload_n dX4_readClause_122 rfl ?_
            refine vc_iload_n dX4_readClause_123 rfl ?_
            refine vc_cVI dX4_readClause_124 (sfX4_readDeed (M := M30) hB36.1  x20 (by omega)) rfl okX4_readDeed viX4_readDeed lkX4_138 (s_22 hB36.1.1) cl_4 rfl (Nat.le_of_ble_eq_true rfl) ⟨rfl, rfl⟩ (Nat.le_of_ble_eq_true rfl) (Nat.le_of_ble_eq_true rfl) (Nat.le_of_ble_eq_true rfl) ?_
            rintro x38 M39 ⟨hB40, h41, h42, h43, h44⟩
            have hB45 : BF fQ M M39 := BF.go hB36 hB40
            refine vc_istore_n dX4_readClause_127 (by decide) rfl (show _ = [some (aR 22), some (aI x20), some (aI x38)] from rfl) ?_
            refine vc_iload_n dX4_readClause_128 rfl ?_
            refine vc_if_eq dX4_readClause_129 (fun h46 => ?_) (fun h46 => ?_)
            · refine vc_iconst dX4_readClause_141 rfl ?_
              refine vc_zret dX4_readClause_142 rfl (by first | decide | omega) (Nat.le_of_ble_eq_true rfl) (Nat.le_of_ble_eq_true rfl) ?_
              exact ⟨_, rfl, hB45, by omega, by omega, by omega⟩
            · refine vc_aload_n dX4_readClause_132 rfl ?_
              refine vc_bipush dX4_readClause_133 rfl ?_
              refine vc_cVI dX4_readClause_135 (sfX4_readSign (M := M39) hB45.1  59 (by omega)) rfl okX4_readSign viX4_readSign lkX4_141 (s_22 hB45.1.1) cl_4 rfl (Nat.le_of_ble_eq_true rfl) ⟨rfl, rfl⟩ (Nat.le_of_ble_eq_true rfl) (Nat.le_of_ble_eq_true rfl) (Nat.le_of_ble_eq_true rfl) ?_
              rintro x47 M48 ⟨hB49, h50, h51, h52, h53⟩
              have hB54 : BF fQ M M48 := BF.go hB45 hB49
              refine vc_if_ne dX4_readClause_138 (fun h55 => ?_) (fun h55 => ?_)
              · refine vc_aload_n dX4_readClause_143 rfl ?_
                refine vc_dup dX4_readClause_144 rfl ?_
                refine vc_getI dX4_readClause_145 flX4_53 (s_22 hB54.1.1) rfl ?_
                have k56 : 0 ≤ mI M48 22 13 ∧ mI M48 22 13 ≤ 24 := b22_13 (M := M48) hB54.1
                refine vc_iconst dX4_readClause_148 rfl ?_
                refine vc_iaddE dX4_readClause_149 (by omega) (by omega) ?_
                refine vc_putI dX4_readClause_150 (plX4_53 _ rfl) (s_22 hB54.1.1) rfl ?_
                have hB57 : BF fQ M (sI M48 22 13 ((mI M48 22 13) + 1)) := BF.w22_13 hB54 rfl (by omega) (by omega)
                refine vc_iconst dX4_readClause_153 rfl ?_
                refine vc_zret dX4_readClause_154 rfl (by first | decide | omega) (Nat.le_of_ble_eq_true rfl) (Nat.le_of_ble_eq_true rfl) ?_
                have k58 : mI (sI M48 22 13 ((mI M48 22 13) + 1)) 22 9 = mI M48 22 9 := rfl
                have k59 : mI (sI M48 22 13 ((mI M48 22 13) + 1)) 22 13 = (mI M48 22 13) + 1 := rfl
                exact ⟨_, rfl, hB57, by omega, by omega, by omega⟩
              · refine vc_iconst dX4_readClause_141 rfl ?_
                refine vc_zret dX4_readClause_142 rfl (by first | decide | omega) (Nat.le_of_ble_eq_true rfl) (Nat.le_of_ble_eq_true rfl) ?_
                exact ⟨_, rfl, hB54, by omega, by omega, by omega⟩
          · refine vc_aload_n dX4_readClause_67 rfl ?_
            refine vc_bipush dX4_readClause_68 rfl ?_
            refine vc_cVI dX4_readClause_70 (sfX4_failed (M := M) hB0.1  6 (by omega)) rfl okX4_failed viX4_failed lkX4_122 (s_22 hB0.1.1) cl_4 rfl (Nat.le_of_ble_eq_true rfl) ⟨rfl, rfl⟩ (Nat.le_of_ble_eq_true rfl) (Nat.le_of_ble_eq_true rfl) (Nat.le_of_ble_eq_true rfl) ?_
            rintro x60 M61 ⟨hB62, h63, h64, h65, h66⟩
            have hB67 : BF fQ M M61 := BF.go hB0 hB62
            refine vc_zret dX4_readClause_73 rfl (by first | decide | omega) (Nat.le_of_ble_eq_true rfl) (Nat.le_of_ble_eq_true rfl) ?_
            exact ⟨_, rfl, hB67, by omega, by omega, by omega⟩
        · refine vc_aload_n dX4_readClause_40 rfl ?_
          refine vc_getR dX4_readClause_41 flX4_18 (s_22 hB0.1.1) rfl (r_22_2 hB0.1.1) ?_
          refine vc_iconst dX4_readClause_44 rfl ?_
          refine vc_iload_n dX4_readClause_45 rfl ?_
          refine vc_imulE dX4_readClause_46 (by omega) (by omega) ?_
          refine vc_iaload dX4_readClause_47 (s_24 hB0.1.1) (by omega) (by omega) ?_
          have k68 : (-1) ≤ mI M 24 ((2 * x20).toNat) ∧ mI M 24 ((2 * x20).toNat) ≤ 300 := bA24 (M := M) hB0.1 _
          refine vc_iconst dX4_readClause_48 rfl ?_
          refine vc_icmp_eq dX4_readClause_49 (fun h69 => ?_) (fun h69 => ?_)
          · refine vc_aload_n dX4_readClause_58 rfl ?_
            refine vc_getI dX4_readClause_59 flX4_53 (s_22 hB0.1.1) rfl ?_
            have k70 : 0 ≤ mI M 22 13 ∧ mI M 22 13 ≤ 24 := b22_13 (M := M) hB0.1
            refine vc_bipush dX4_readClause_62 rfl ?_
            refine vc_icmp_lt dX4_readClause_64 (fun h71 => ?_) (fun h71 => ?_)
            · refine vc_aload_n dX4_readClause_74 rfl ?_
              refine vc_iconst dX4_readClause_75 rfl ?_
              refine vc_iload_n dX4_readClause_76 rfl ?_
              refine vc_cVU dX4_readClause_77 (sfX4_keep (M := M) hB0.1  0 x20 (by omega) (by omega) (by omega)) rfl okX4_keep viX4_keep lkX4_125 (s_22 hB0.1.1) cl_4 rfl (Nat.le_of_ble_eq_true rfl) ⟨rfl, rfl⟩ (Nat.le_of_ble_eq_true rfl) (Nat.le_of_ble_eq_true rfl) (Nat.le_of_ble_eq_true rfl) ?_
              rintro M72 ⟨hB73, h74, h75⟩
              have hB76 : BF fQ M M72 := BF.go hB0 hB73
              refine vc_aload_n dX4_readClause_80 rfl ?_
              refine vc_cVI dX4_readClause_81 (sfX4_takeToken (M := M72) hB76.1   ) rfl okX4_takeToken viX4_takeToken lkX4_65 (s_22 hB76.1.1) cl_4 rfl (Nat.le_of_ble_eq_true rfl) ⟨rfl, rfl⟩ (Nat.le_of_ble_eq_true rfl) (Nat.le_of_ble_eq_true rfl) (Nat.le_of_ble_eq_true rfl) ?_
              rintro x77 M78 ⟨hB79, h80, h81, h82, h83⟩
              have hB84 : BF fQ M M78 := BF.go hB76 hB79
              refine vc_pop dX4_readClause_84 rfl ?_
              refine vc_iload_n dX4_readClause_85 rfl ?_
              refine vc_iconst dX4_readClause_86 rfl ?_
              refine vc_icmp_ge dX4_readClause_87 (fun h85 => by exfalso; omega) (fun h85 => ?_)
              refine vc_aload_n dX4_readClause_90 rfl ?_
              refine vc_iload_n dX4_readClause_91 rfl ?_
              refine vc_cVI dX4_readClause_92 (sfX4_beginLaw (M := M78) hB84.1  x20 (by omega) (by omega) (by omega)) rfl okX4_beginLaw viX4_beginLaw lkX4_129 (s_22 hB84.1.1) cl_4 rfl (Nat.le_of_ble_eq_true rfl) ⟨rfl, rfl⟩ (Nat.le_of_ble_eq_true rfl) (Nat.le_of_ble_eq_true rfl) (Nat.le_of_ble_eq_true rfl) ?_
              rintro x86 M87 ⟨hB88, h89, h90, h91, h92⟩
              have hB93 : BF fQ M M87 := BF.go hB84 hB88
              refine vc_if_eq dX4_readClause_95 (fun h94 => ?_) (fun h94 => ?_)
              · refine vc_iconst dX4_readClause_118 rfl ?_
                refine vc_goto dX4_readClause_119 ?_
                refine vc_istore_n dX4_readClause_127 (by decide) rfl (show _ = [some (aR 22), some (aI x20), some (aI 0)] from rfl) ?_
                refine vc_iload_n dX4_readClause_128 rfl ?_
                refine vc_if_eq dX4_readClause_129 (fun h95 => ?_) (fun h95 => by exfalso; omega)
                refine vc_iconst dX4_readClause_141 rfl ?_
                refine vc_zret dX4_readClause_142 rfl (by first | decide | omega) (Nat.le_of_ble_eq_true rfl) (Nat.le_of_ble_eq_true rfl) ?_
                exact ⟨_, rfl, hB93, by omega, by omega, by omega⟩
              · refine vc_aload_n dX4_readClause_98 rfl ?_
                refine vc_iconst dX4_readClause_99 rfl ?_
                refine vc_cVI dX4_readClause_100 ((rd_all 9).2 (M := M87) hB93.1  0 (by omega) (by omega) (by omega) (by omega)) rfl (okX4_readSum (13 + 3 * 9)) (viX4_readSum (13 + 3 * 9)) (lkX4_132 (13 + 3 * 9)) (s_22 hB93.1.1) cl_4 rfl (Nat.le_of_ble_eq_true rfl) ⟨rfl, rfl⟩ (Nat.le_of_ble_eq_true rfl) (Nat.le_of_ble_eq_true rfl) (Nat.le_of_ble_eq_true rfl) ?_
                rintro x96 M97 ⟨hB98, h99, h100, h101, h102⟩
                have hB103 : BF fQ M M97 := BF.go hB93 hB98
                refine vc_if_eq dX4_readClause_103 (fun h104 => ?_) (fun h104 => ?_)
                · refine vc_iconst dX4_readClause_118 rfl ?_
                  refine vc_goto dX4_readClause_119 ?_
                  refine vc_istore_n dX4_readClause_127 (by decide) rfl (show _ = [some (aR 22), some (aI x20), some (aI 0)] from rfl) ?_
                  refine vc_iload_n dX4_readClause_128 rfl ?_
                  refine vc_if_eq dX4_readClause_129 (fun h105 => ?_) (fun h105 => by exfalso; omega)
                  refine vc_iconst dX4_readClause_141 rfl ?_
                  refine vc_zret dX4_readClause_142 rfl (by first | decide | omega) (Nat.le_of_ble_eq_true rfl) (Nat.le_of_ble_eq_true rfl) ?_
                  exact ⟨_, rfl, hB103, by omega, by omega, by omega⟩
                · refine vc_aload_n dX4_readClause_106 rfl ?_
                  refine vc_iload_n dX4_readClause_107 rfl ?_
                  refine vc_cVI dX4_readClause_108 (sfX4_endLaw (M := M97) hB103.1  x20 (by omega) (by omega) (by omega)) rfl okX4_endLaw viX4_endLaw lkX4_135 (s_22 hB103.1.1) cl_4 rfl (Nat.le_of_ble_eq_true rfl) ⟨rfl, rfl⟩ (Nat.le_of_ble_eq_true rfl) (Nat.le_of_ble_eq_true rfl) (Nat.le_of_ble_eq_true rfl) ?_
                  rintro x106 M107 ⟨hB108, h109, h110, h111, h112⟩
                  have hB113 : BF fQ M M107 := BF.go hB103 hB108
                  refine vc_if_eq dX4_readClause_111 (fun h114 => ?_) (fun h114 => ?_)
                  · refine vc_iconst dX4_readClause_118 rfl ?_
                    refine vc_goto dX4_readClause_119 ?_
                    refine vc_istore_n dX4_readClause_127 (by decide) rfl (show _ = [some (aR 22), some (aI x20), some (aI 0)] from rfl) ?_
                    refine vc_iload_n dX4_readClause_128 rfl ?_
                    refine vc_if_eq dX4_readClause_129 (fun h115 => ?_) (fun h115 => by exfalso; omega)
                    refine vc_iconst dX4_readClause_141 rfl ?_
                    refine vc_zret dX4_readClause_142 rfl (by first | decide | omega) (Nat.le_of_ble_eq_true rfl) (Nat.le_of_ble_eq_true rfl) ?_
                    exact ⟨_, rfl, hB113, by omega, by omega, by omega⟩
                  · refine vc_iconst dX4_readClause_114 rfl ?_
                    refine vc_goto dX4_readClause_115 ?_
                    refine vc_istore_n dX4_readClause_127 (by decide) rfl (show _ = [some (aR 22), some (aI x20), some (aI 1)] from rfl) ?_
                    refine vc_iload_n dX4_readClause_128 rfl ?_
                    refine vc_if_eq dX4_readClause_129 (fun h116 => by exfalso; omega) (fun h116 => ?_)
                    refine vc_aload_n dX4_readClause_132 rfl ?_
                    refine vc_bipush dX4_readClause_133 rfl ?_
                    refine vc_cVI dX4_readClause_135 (sfX4_readSign (M := M107) hB113.1  59 (by omega)) rfl okX4_readSign viX4_readSign lkX4_141 (s_22 hB113.1.1) cl_4 rfl (Nat.le_of_ble_eq_true rfl) ⟨rfl, rfl⟩ (Nat.le_of_ble_eq_true rfl) (Nat.le_of_ble_eq_true rfl) (Nat.le_of_ble_eq_true rfl) ?_
                    rintro x117 M118 ⟨hB119, h120, h121, h122, h123⟩
                    have hB124 : BF fQ M M118 := BF.go hB113 hB119
                    refine vc_if_ne dX4_readClause_138 (fun h125 => ?_) (fun h125 => ?_)
                    · refine vc_aload_n dX4_readClause_143 rfl ?_
                      refine vc_dup dX4_readClause_144 rfl ?_
                      refine vc_getI dX4_readClause_145 flX4_53 (s_22 hB124.1.1) rfl ?_
                      have k126 : 0 ≤ mI M118 22 13 ∧ mI M118 22 13 ≤ 24 := b22_13 (M := M118) hB124.1
                      refine vc_iconst dX4_readClause_148 rfl ?_
                      refine vc_iaddE dX4_readClause_149 (by omega) (by omega) ?_
                      refine vc_putI dX4_readClause_150 (plX4_53 _ rfl) (s_22 hB124.1.1) rfl ?_
                      have hB127 : BF fQ M (sI M118 22 13 ((mI M118 22 13) + 1)) := BF.w22_13 hB124 rfl (by omega) (by omega)
                      refine vc_iconst dX4_readClause_153 rfl ?_
                      refine vc_zret dX4_readClause_154 rfl (by first | decide | omega) (Nat.le_of_ble_eq_true rfl) (Nat.le_of_ble_eq_true rfl) ?_
                      have k128 : mI (sI M118 22 13 ((mI M118 22 13) + 1)) 22 9 = mI M118 22 9 := rfl
                      have k129 : mI (sI M118 22 13 ((mI M118 22 13) + 1)) 22 13 = (mI M118 22 13) + 1 := rfl
                      exact ⟨_, rfl, hB127, by omega, by omega, by omega⟩
                    · refine vc_iconst dX4_readClause_141 rfl ?_
                      refine vc_zret dX4_readClause_142 rfl (by first | decide | omega) (Nat.le_of_ble_eq_true rfl) (Nat.le_of_ble_eq_true rfl) ?_
                      exact ⟨_, rfl, hB124, by omega, by omega, by omega⟩
            · refine vc_aload_n dX4_readClause_67 rfl ?_
              refine vc_bipush dX4_readClause_68 rfl ?_
              refine vc_cVI dX4_readClause_70 (sfX4_failed (M := M) hB0.1  6 (by omega)) rfl okX4_failed viX4_failed lkX4_122 (s_22 hB0.1.1) cl_4 rfl (Nat.le_of_ble_eq_true rfl) ⟨rfl, rfl⟩ (Nat.le_of_ble_eq_true rfl) (Nat.le_of_ble_eq_true rfl) (Nat.le_of_ble_eq_true rfl) ?_
              rintro x130 M131 ⟨hB132, h133, h134, h135, h136⟩
              have hB137 : BF fQ M M131 := BF.go hB0 hB132
              refine vc_zret dX4_readClause_73 rfl (by first | decide | omega) (Nat.le_of_ble_eq_true rfl) (Nat.le_of_ble_eq_true rfl) ?_
              exact ⟨_, rfl, hB137, by omega, by omega, by omega⟩
          · refine vc_aload_n dX4_readClause_52 rfl ?_
            refine vc_iconst dX4_readClause_53 rfl ?_
            refine vc_cVI dX4_readClause_54 (sfX4_failed (M := M) hB0.1  4 (by omega)) rfl okX4_failed viX4_failed lkX4_122 (s_22 hB0.1.1) cl_4 rfl (Nat.le_of_ble_eq_true rfl) ⟨rfl, rfl⟩ (Nat.le_of_ble_eq_true rfl) (Nat.le_of_ble_eq_true rfl) (Nat.le_of_ble_eq_true rfl) ?_
            rintro x138 M139 ⟨hB140, h141, h142, h143, h144⟩
            have hB145 : BF fQ M M139 := BF.go hB0 hB140
            refine vc_zret dX4_readClause_57 rfl (by first | decide | omega) (Nat.le_of_ble_eq_true rfl) (Nat.le_of_ble_eq_true rfl) ?_
            exact ⟨_, rfl, hB145, by omega, by omega, by omega⟩
      · refine vc_aload_n dX4_readClause_24 rfl ?_
        refine vc_iconst dX4_readClause_25 rfl ?_
        refine vc_cVI dX4_readClause_26 (sfX4_failed (M := M) hB0.1  1 (by omega)) rfl okX4_failed viX4_failed lkX4_122 (s_22 hB0.1.1) cl_4 rfl (Nat.le_of_ble_eq_true rfl) ⟨rfl, rfl⟩ (Nat.le_of_ble_eq_true rfl) (Nat.le_of_ble_eq_true rfl) (Nat.le_of_ble_eq_true rfl) ?_
        rintro x146 M147 ⟨hB148, h149, h150, h151, h152⟩
        have hB153 : BF fQ M M147 := BF.go hB0 hB148
        refine vc_zret dX4_readClause_29 rfl (by first | decide | omega) (Nat.le_of_ble_eq_true rfl) (Nat.le_of_ble_eq_true rfl) ?_
        exact ⟨_, rfl, hB153, by omega, by omega, by omega⟩

set_option maxRecDepth 4000 in
theorem sfX4_reads {l : Launch} {M : Mem} (hB : Box M)  (b : Int) (p0 : 0 ≤ b) (p1 : b ≤ 300) : Call l mdX4_reads [aR 22, aI b] M (fun q N => ∃ r : Int, q = some (aI r) ∧ BF fQ M N ∧ 0 ≤ r ∧ r ≤ 1) := by
  have hB0 : BF fQ M M := BF.start hB
  refine Call.of [some (aR 22), some (aI b), none, none] rfl (Nat.le_of_ble_eq_true rfl) rfl ?_
  refine vc_aload_n dX4_reads_0 rfl ?_
  refine vc_iload_n dX4_reads_1 rfl ?_
  refine vc_sipush dX4_reads_2 rfl ?_
  refine vc_mminI dX4_reads_5 lkX4_33 (Nat.le_of_ble_eq_true rfl) (Nat.le_of_ble_eq_true rfl) (Nat.le_of_ble_eq_true rfl) ?_
  have k1 := minZ_bd b 300
  refine vc_cVU dX4_reads_8 (sfX4_part (M := M) hB0.1  (minZ b 300) (by omega) (by omega)) rfl okX4_part viX4_part lkX4_39 (s_22 hB0.1.1) cl_4 rfl (Nat.le_of_ble_eq_true rfl) ⟨rfl, rfl⟩ (Nat.le_of_ble_eq_true rfl) (Nat.le_of_ble_eq_true rfl) (Nat.le_of_ble_eq_true rfl) ?_
  rintro M2 hB3
  have hB4 : BF fQ M M2 := BF.go hB0 hB3
  refine vc_aload_n dX4_reads_11 rfl ?_
  refine vc_iconst dX4_reads_12 rfl ?_
  refine vc_putI dX4_reads_13 (plX4_43 _ rfl) (s_22 hB4.1.1) rfl ?_
  have hB5 : BF fQ M (sI M2 22 7 0) := BF.w22_7 hB4 rfl
  refine vc_aload_n dX4_reads_16 rfl ?_
  refine vc_iconst dX4_reads_17 rfl ?_
  refine vc_putI dX4_reads_18 (plX4_47 _ rfl) (s_22 hB5.1.1) rfl ?_
  have hB6 : BF fQ M (sI (sI M2 22 7 0) 22 8 (-1)) := BF.w22_8 hB5 rfl
  refine vc_aload_n dX4_reads_21 rfl ?_
  refine vc_iconst dX4_reads_22 rfl ?_
  refine vc_putI dX4_reads_23 (plX4_50 _ rfl) (s_22 hB6.1.1) rfl ?_
  have hB7 : BF fQ M (sI (sI (sI M2 22 7 0) 22 8 (-1)) 22 12 0) := BF.w22_12 hB6 rfl (by omega) (by omega)
  refine vc_aload_n dX4_reads_26 rfl ?_
  refine vc_iconst dX4_reads_27 rfl ?_
  refine vc_putI dX4_reads_28 (plX4_53 _ rfl) (s_22 hB7.1.1) rfl ?_
  have hB8 : BF fQ M (sI (sI (sI (sI M2 22 7 0) 22 8 (-1)) 22 12 0) 22 13 0) := BF.w22_13 hB7 rfl (by omega) (by omega)
  refine vc_aload_n dX4_reads_31 rfl ?_
  refine vc_getR dX4_reads_32 flX4_18 (s_22 hB8.1.1) rfl (r_22_2 hB8.1.1) ?_
  refine vc_iconst dX4_reads_35 rfl ?_
  have k9 : mI (sI (sI (sI (sI M2 22 7 0) 22 8 (-1)) 22 12 0) 22 13 0) 22 9 = mI M2 22 9 := rfl
  have k10 : mI (sI (sI (sI (sI M2 22 7 0) 22 8 (-1)) 22 12 0) 22 13 0) 22 13 = 0 := rfl
  refine vc_cSU dX4_reads_36 (sfJ7_fill_53178_24 (M := (sI (sI (sI (sI M2 22 7 0) 22 8 (-1)) 22 12 0) 22 13 0)) hB8.1  (-1) (by omega) (by omega)) rfl okJ7_fill_53178 stJ7_fill_53178 lkX4_56 rfl (Nat.le_of_ble_eq_true rfl) ⟨rfl, rfl⟩ (Nat.le_of_ble_eq_true rfl) (Nat.le_of_ble_eq_true rfl) (Nat.le_of_ble_eq_true rfl) ?_
  rintro M11 ⟨hB12, kp13, kp14⟩
  have hB15 : BF fQ M M11 := BF.go hB8 hB12
  refine vc_aload_n dX4_reads_39 rfl ?_
  refine vc_getR dX4_reads_40 flX4_21 (s_22 hB15.1.1) rfl (r_22_3 hB15.1.1) ?_
  refine vc_iconst dX4_reads_43 rfl ?_
  refine vc_cSU dX4_reads_44 (sfJ7_fill_53178_25 (M := M11) hB15.1  0 ) rfl okJ7_fill_53178 stJ7_fill_53178 lkX4_56 rfl (Nat.le_of_ble_eq_true rfl) ⟨rfl, rfl⟩ (Nat.le_of_ble_eq_true rfl) (Nat.le_of_ble_eq_true rfl) (Nat.le_of_ble_eq_true rfl) ?_
  rintro M16 ⟨hB17, kp18, kp19⟩
  have hB20 : BF fQ M M16 := BF.go hB15 hB17
  refine vc_aload_n dX4_reads_47 rfl ?_
  refine vc_iconst dX4_reads_48 rfl ?_
  refine vc_putI dX4_reads_49 (plX4_62 _ rfl) (s_22 hB20.1.1) rfl ?_
  have hB21 : BF fQ M (sI M16 22 9 (-1)) := BF.w22_9 hB20 rfl (by omega) (by omega)
  refine vc_aload_n dX4_reads_52 rfl ?_
  have k22 : mI (sI M16 22 9 (-1)) 22 9 = (-1) := rfl
  have k23 : mI (sI M16 22 9 (-1)) 22 13 = mI M16 22 13 := rfl
  refine vc_cVI dX4_reads_53 (sfX4_takeToken (M := (sI M16 22 9 (-1))) hB21.1   ) rfl okX4_takeToken viX4_takeToken lkX4_65 (s_22 hB21.1.1) cl_4 rfl (Nat.le_of_ble_eq_true rfl) ⟨rfl, rfl⟩ (Nat.le_of_ble_eq_true rfl) (Nat.le_of_ble_eq_true rfl) (Nat.le_of_ble_eq_true rfl) ?_
  rintro x24 M25 ⟨hB26, h27, h28, h29, h30⟩
  have hB31 : BF fQ M M25 := BF.go hB21 hB26
  refine vc_pop dX4_reads_56 rfl ?_
  refine vc_iconst dX4_reads_57 rfl ?_
  refine vc_istore_n dX4_reads_58 (by decide) rfl (show _ = [some (aR 22), some (aI b), some (aI 1), none] from rfl) ?_
  refine vc_iconst dX4_reads_59 rfl ?_
  refine vc_istore_n dX4_reads_60 (by decide) rfl (show _ = [some (aR 22), some (aI b), some (aI 1), some (aI 0)] from rfl) ?_
  have lp61 : ∀ (n61 : Nat) (Mq61 : Mem) (v2 : Int) (v3 : Int), (BF fQ M Mq61) → (0 ≤ v2) → (v2 ≤ 1) → (0 ≤ v3) → (v3 ≤ 25) → (0 ≤ mI Mq61 22 9) → (25 - v3).toNat < n61 → VC l mdX4_reads 61 [some (aR 22), none, some (aI v2), some (aI v3)] [] Mq61 0 0 (fun q N => ∃ r : Int, q = some (aI r) ∧ BF fQ M N ∧ 0 ≤ r ∧ r ≤ 1) := by
    intro n61
    induction n61 with
    | zero => intro Mq61 v2 v3 hQ61 g61_2a g61_2b g61_3a g61_3b g61i0 hm61; exact absurd hm61 (Nat.not_lt_zero _)
    | succ n61 ih61 =>
      intro Mq61 v2 v3 hQ61 g61_2a g61_2b g61_3a g61_3b g61i0 hm61
      refine vc_iload_n dX4_reads_61 rfl ?_
      refine vc_bipush dX4_reads_62 rfl ?_
      refine vc_icmp_gt dX4_reads_64 (fun h32 => ?_) (fun h32 => ?_)
      · refine vc_iload_n dX4_reads_89 rfl ?_
        refine vc_zret dX4_reads_90 rfl (by first | decide | omega) (Nat.le_of_ble_eq_true rfl) (Nat.le_of_ble_eq_true rfl) ?_
        exact ⟨_, rfl, hQ61, by omega, by omega⟩
      · refine vc_iload_n dX4_reads_67 rfl ?_
        refine vc_if_eq dX4_reads_68 (fun h33 => ?_) (fun h33 => ?_)
        · refine vc_iload_n dX4_reads_89 rfl ?_
          refine vc_zret dX4_reads_90 rfl (by first | decide | omega) (Nat.le_of_ble_eq_true rfl) (Nat.le_of_ble_eq_true rfl) ?_
          exact ⟨_, rfl, hQ61, by omega, by omega⟩
        · refine vc_aload_n dX4_reads_71 rfl ?_
          refine vc_getI dX4_reads_72 flX4_69 (s_22 hQ61.1.1) rfl ?_
          refine vc_if_eq dX4_reads_75 (fun h34 => ?_) (fun h34 => ?_)
          · refine vc_iload_n dX4_reads_89 rfl ?_
            refine vc_zret dX4_reads_90 rfl (by first | decide | omega) (Nat.le_of_ble_eq_true rfl) (Nat.le_of_ble_eq_true rfl) ?_
            exact ⟨_, rfl, hQ61, by omega, by omega⟩
          · refine vc_aload_n dX4_reads_78 rfl ?_
            refine vc_cVI dX4_reads_79 (sfX4_readClause (M := Mq61) hQ61.1   (by omega)) rfl okX4_readClause viX4_readClause lkX4_72 (s_22 hQ61.1.1) cl_4 rfl (Nat.le_of_ble_eq_true rfl) ⟨rfl, rfl⟩ (Nat.le_of_ble_eq_true rfl) (Nat.le_of_ble_eq_true rfl) (Nat.le_of_ble_eq_true rfl) ?_
            rintro x35 M36 ⟨hB37, h38, h39, h40⟩
            have hB41 : BF fQ M M36 := BF.go hQ61 hB37
            refine vc_istore_n dX4_reads_82 (by decide) rfl (show _ = [some (aR 22), none, some (aI x35), some (aI v3)] from rfl) ?_
            refine vc_iincE dX4_reads_83 rfl (by omega) (by omega) (by decide) rfl (show _ = [some (aR 22), none, some (aI x35), some (aI (v3 + 1))] from rfl) ?_
            refine vc_goto dX4_reads_86 ?_
            exact ih61 M36 x35 (v3 + 1) hB41 (by omega) (by omega) (by omega) (by omega) (by omega) (by omega)
  refine vc_less [some (aR 22), none, some (aI 1), some (aI 0)] (lessL_keep (lessL_drop (lessL_keep (lessL_keep (lessL_nil))))) ?_
  exact lp61 _ M25 1 0 hB31 (by omega) (by omega) (by omega) (by omega) (by omega) (Nat.lt_succ_self _)
