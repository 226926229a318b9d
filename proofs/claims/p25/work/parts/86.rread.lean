/-! CONTRACTS of the reference: its reader (written by wip/p35/c86.py) -/
set_option maxRecDepth 4000 in
theorem sfX12_byteAt {l : Launch} {M : Mem} (hB : Box M)  (k : Int) (p0 : 0 ≤ k) (p1 : k ≤ 301) : Call l mdX12_byteAt [aR 54, aI k] M (fun q N => ∃ r : Int, q = some (aI r) ∧ M = N ∧ (r = -1 ∨ k < mI M 54 6) ∧ (¬ k < mI M 54 6 ∨ r = mI M 59 k.toNat)) := by
  have hB0 : BF fQ M M := BF.start hB
  refine Call.of [some (aR 54), some (aI k)] rfl (Nat.le_of_ble_eq_true rfl) rfl ?_
  refine vc_iload_n dX12_byteAt_0 rfl ?_
  refine vc_aload_n dX12_byteAt_1 rfl ?_
  refine vc_getI dX12_byteAt_2 flX12_112 (s_54 hB0.1.1) rfl ?_
  have k1 : 0 ≤ mI M 54 6 ∧ mI M 54 6 ≤ 300 := b54_6 (M := M) hB0.1
  refine vc_icmp_ge dX12_byteAt_5 (fun h2 => ?_) (fun h2 => ?_)
  · refine vc_iconst dX12_byteAt_17 rfl ?_
    refine vc_iret dX12_byteAt_18 rfl (Nat.le_of_ble_eq_true rfl) (Nat.le_of_ble_eq_true rfl) ?_
    exact ⟨_, rfl, rfl, by omega, by omega⟩
  · refine vc_aload_n dX12_byteAt_8 rfl ?_
    refine vc_getR dX12_byteAt_9 flX12_22 (s_54 hB0.1.1) rfl (r_54_5 hB0.1.1) ?_
    refine vc_iload_n dX12_byteAt_12 rfl ?_
    refine vc_iaload dX12_byteAt_13 (s_59 hB0.1.1) (by omega) (by omega) ?_
    refine vc_goto dX12_byteAt_14 ?_
    refine vc_iret dX12_byteAt_18 rfl (Nat.le_of_ble_eq_true rfl) (Nat.le_of_ble_eq_true rfl) ?_
    exact ⟨_, rfl, rfl, by omega, by omega⟩

set_option maxRecDepth 4000 in
theorem sfX12_isLetterByte {l : Launch} {M : Mem} (hB : Box M)  (c : Int)  : Call l mdX12_isLetterByte [aI c] M (fun q N => ∃ r : Int, q = some (aI r) ∧ M = N ∧ 0 ≤ r ∧ r ≤ 1 ∧ ((r = 1 ∧ ((97 ≤ c ∧ c ≤ 122) ∨ (65 ≤ c ∧ c ≤ 90))) ∨ (r = 0 ∧ ¬ ((97 ≤ c ∧ c ≤ 122) ∨ (65 ≤ c ∧ c ≤ 90))))) := by
  have hB0 : BF fQ M M := BF.start hB
  refine Call.of [some (aI c)] rfl (Nat.le_of_ble_eq_true rfl) rfl ?_
  refine vc_ok (fun hoM hoS hoL => ?_)
  have hr0 : -2147483648 ≤ c ∧ c < 2147483648 := hoL 0 _ rfl
  refine vc_iload_n dX12_isLetterByte_0 rfl ?_
  refine vc_bipush dX12_isLetterByte_1 rfl ?_
  refine vc_icmp_lt dX12_isLetterByte_3 (fun h1 => ?_) (fun h1 => ?_)
  · refine vc_iload_n dX12_isLetterByte_12 rfl ?_
    refine vc_bipush dX12_isLetterByte_13 rfl ?_
    refine vc_icmp_lt dX12_isLetterByte_15 (fun h2 => ?_) (fun h2 => ?_)
    · refine vc_iconst dX12_isLetterByte_28 rfl ?_
      refine vc_zret dX12_isLetterByte_29 rfl (by first | decide | omega) (Nat.le_of_ble_eq_true rfl) (Nat.le_of_ble_eq_true rfl) ?_
      exact ⟨_, rfl, rfl, by omega, by omega, by omega⟩
    · refine vc_iload_n dX12_isLetterByte_18 rfl ?_
      refine vc_bipush dX12_isLetterByte_19 rfl ?_
      refine vc_icmp_gt dX12_isLetterByte_21 (fun h3 => ?_) (fun h3 => ?_)
      · refine vc_iconst dX12_isLetterByte_28 rfl ?_
        refine vc_zret dX12_isLetterByte_29 rfl (by first | decide | omega) (Nat.le_of_ble_eq_true rfl) (Nat.le_of_ble_eq_true rfl) ?_
        exact ⟨_, rfl, rfl, by omega, by omega, by omega⟩
      · refine vc_iconst dX12_isLetterByte_24 rfl ?_
        refine vc_goto dX12_isLetterByte_25 ?_
        refine vc_zret dX12_isLetterByte_29 rfl (by first | decide | omega) (Nat.le_of_ble_eq_true rfl) (Nat.le_of_ble_eq_true rfl) ?_
        exact ⟨_, rfl, rfl, by omega, by omega, by omega⟩
  · refine vc_iload_n dX12_isLetterByte_6 rfl ?_
    refine vc_bipush dX12_isLetterByte_7 rfl ?_
    refine vc_icmp_le dX12_isLetterByte_9 (fun h4 => ?_) (fun h4 => ?_)
    · refine vc_iconst dX12_isLetterByte_24 rfl ?_
      refine vc_goto dX12_isLetterByte_25 ?_
      refine vc_zret dX12_isLetterByte_29 rfl (by first | decide | omega) (Nat.le_of_ble_eq_true rfl) (Nat.le_of_ble_eq_true rfl) ?_
      exact ⟨_, rfl, rfl, by omega, by omega, by omega⟩
    · refine vc_iload_n dX12_isLetterByte_12 rfl ?_
      refine vc_bipush dX12_isLetterByte_13 rfl ?_
      refine vc_icmp_lt dX12_isLetterByte_15 (fun h5 => by exfalso; omega) (fun h5 => ?_)
      refine vc_iload_n dX12_isLetterByte_18 rfl ?_
      refine vc_bipush dX12_isLetterByte_19 rfl ?_
      refine vc_icmp_gt dX12_isLetterByte_21 (fun h6 => ?_) (fun h6 => by exfalso; omega)
      refine vc_iconst dX12_isLetterByte_28 rfl ?_
      refine vc_zret dX12_isLetterByte_29 rfl (by first | decide | omega) (Nat.le_of_ble_eq_true rfl) (Nat.le_of_ble_eq_true rfl) ?_
      exact ⟨_, rfl, rfl, by omega, by omega, by omega⟩

set_option maxRecDepth 4000 in
theorem sfX12_isFigure {l : Launch} {M : Mem} (hB : Box M)  (c : Int)  : Call l mdX12_isFigure [aI c] M (fun q N => ∃ r : Int, q = some (aI r) ∧ M = N ∧ 0 ≤ r ∧ r ≤ 1 ∧ ((r = 1 ∧ 48 ≤ c ∧ c ≤ 57) ∨ (r = 0 ∧ ¬ (48 ≤ c ∧ c ≤ 57)))) := by
  have hB0 : BF fQ M M := BF.start hB
  refine Call.of [some (aI c)] rfl (Nat.le_of_ble_eq_true rfl) rfl ?_
  refine vc_ok (fun hoM hoS hoL => ?_)
  have hr0 : -2147483648 ≤ c ∧ c < 2147483648 := hoL 0 _ rfl
  refine vc_iload_n dX12_isFigure_0 rfl ?_
  refine vc_bipush dX12_isFigure_1 rfl ?_
  refine vc_icmp_lt dX12_isFigure_3 (fun h1 => ?_) (fun h1 => ?_)
  · refine vc_iconst dX12_isFigure_16 rfl ?_
    refine vc_zret dX12_isFigure_17 rfl (by first | decide | omega) (Nat.le_of_ble_eq_true rfl) (Nat.le_of_ble_eq_true rfl) ?_
    exact ⟨_, rfl, rfl, by omega, by omega, by omega⟩
  · refine vc_iload_n dX12_isFigure_6 rfl ?_
    refine vc_bipush dX12_isFigure_7 rfl ?_
    refine vc_icmp_gt dX12_isFigure_9 (fun h2 => ?_) (fun h2 => ?_)
    · refine vc_iconst dX12_isFigure_16 rfl ?_
      refine vc_zret dX12_isFigure_17 rfl (by first | decide | omega) (Nat.le_of_ble_eq_true rfl) (Nat.le_of_ble_eq_true rfl) ?_
      exact ⟨_, rfl, rfl, by omega, by omega, by omega⟩
    · refine vc_iconst dX12_isFigure_12 rfl ?_
      refine vc_goto dX12_isFigure_13 ?_
      refine vc_zret dX12_isFigure_17 rfl (by first | decide | omega) (Nat.le_of_ble_eq_true rfl) (Nat.le_of_ble_eq_true rfl) ?_
      exact ⟨_, rfl, rfl, by omega, by omega, by omega⟩

set_option maxRecDepth 4000 in
theorem sfX12_isSign {l : Launch} {M : Mem} (hB : Box M)  (c : Int)  : Call l mdX12_isSign [aI c] M (fun q N => ∃ r : Int, q = some (aI r) ∧ M = N ∧ 0 ≤ r ∧ r ≤ 1) := by
  have hB0 : BF fQ M M := BF.start hB
  refine Call.of [some (aI c)] rfl (Nat.le_of_ble_eq_true rfl) rfl ?_
  refine vc_ok (fun hoM hoS hoL => ?_)
  have hr0 : -2147483648 ≤ c ∧ c < 2147483648 := hoL 0 _ rfl
  refine vc_iload_n dX12_isSign_0 rfl ?_
  by_cases h1 : c = 35
  · refine vc_tabIn dX12_isSign_1 35 128 h1 rfl rfl rfl ?_
    refine vc_iconst dX12_isSign_128 rfl ?_
    refine vc_zret dX12_isSign_129 rfl (by first | decide | omega) (Nat.le_of_ble_eq_true rfl) (Nat.le_of_ble_eq_true rfl) ?_
    exact ⟨_, rfl, rfl, by omega, by omega⟩
  by_cases h2 : c = 40
  · refine vc_tabIn dX12_isSign_1 40 128 h2 rfl rfl rfl ?_
    refine vc_iconst dX12_isSign_128 rfl ?_
    refine vc_zret dX12_isSign_129 rfl (by first | decide | omega) (Nat.le_of_ble_eq_true rfl) (Nat.le_of_ble_eq_true rfl) ?_
    exact ⟨_, rfl, rfl, by omega, by omega⟩
  by_cases h3 : c = 41
  · refine vc_tabIn dX12_isSign_1 41 128 h3 rfl rfl rfl ?_
    refine vc_iconst dX12_isSign_128 rfl ?_
    refine vc_zret dX12_isSign_129 rfl (by first | decide | omega) (Nat.le_of_ble_eq_true rfl) (Nat.le_of_ble_eq_true rfl) ?_
    exact ⟨_, rfl, rfl, by omega, by omega⟩
  by_cases h4 : c = 42
  · refine vc_tabIn dX12_isSign_1 42 128 h4 rfl rfl rfl ?_
    refine vc_iconst dX12_isSign_128 rfl ?_
    refine vc_zret dX12_isSign_129 rfl (by first | decide | omega) (Nat.le_of_ble_eq_true rfl) (Nat.le_of_ble_eq_true rfl) ?_
    exact ⟨_, rfl, rfl, by omega, by omega⟩
  by_cases h5 : c = 43
  · refine vc_tabIn dX12_isSign_1 43 128 h5 rfl rfl rfl ?_
    refine vc_iconst dX12_isSign_128 rfl ?_
    refine vc_zret dX12_isSign_129 rfl (by first | decide | omega) (Nat.le_of_ble_eq_true rfl) (Nat.le_of_ble_eq_true rfl) ?_
    exact ⟨_, rfl, rfl, by omega, by omega⟩
  by_cases h6 : c = 44
  · refine vc_tabIn dX12_isSign_1 44 128 h6 rfl rfl rfl ?_
    refine vc_iconst dX12_isSign_128 rfl ?_
    refine vc_zret dX12_isSign_129 rfl (by first | decide | omega) (Nat.le_of_ble_eq_true rfl) (Nat.le_of_ble_eq_true rfl) ?_
    exact ⟨_, rfl, rfl, by omega, by omega⟩
  by_cases h7 : c = 45
  · refine vc_tabIn dX12_isSign_1 45 128 h7 rfl rfl rfl ?_
    refine vc_iconst dX12_isSign_128 rfl ?_
    refine vc_zret dX12_isSign_129 rfl (by first | decide | omega) (Nat.le_of_ble_eq_true rfl) (Nat.le_of_ble_eq_true rfl) ?_
    exact ⟨_, rfl, rfl, by omega, by omega⟩
  by_cases h8 : c = 47
  · refine vc_tabIn dX12_isSign_1 47 128 h8 rfl rfl rfl ?_
    refine vc_iconst dX12_isSign_128 rfl ?_
    refine vc_zret dX12_isSign_129 rfl (by first | decide | omega) (Nat.le_of_ble_eq_true rfl) (Nat.le_of_ble_eq_true rfl) ?_
    exact ⟨_, rfl, rfl, by omega, by omega⟩
  by_cases h9 : c = 58
  · refine vc_tabIn dX12_isSign_1 58 128 h9 rfl rfl rfl ?_
    refine vc_iconst dX12_isSign_128 rfl ?_
    refine vc_zret dX12_isSign_129 rfl (by first | decide | omega) (Nat.le_of_ble_eq_true rfl) (Nat.le_of_ble_eq_true rfl) ?_
    exact ⟨_, rfl, rfl, by omega, by omega⟩
  by_cases h10 : c = 59
  · refine vc_tabIn dX12_isSign_1 59 128 h10 rfl rfl rfl ?_
    refine vc_iconst dX12_isSign_128 rfl ?_
    refine vc_zret dX12_isSign_129 rfl (by first | decide | omega) (Nat.le_of_ble_eq_true rfl) (Nat.le_of_ble_eq_true rfl) ?_
    exact ⟨_, rfl, rfl, by omega, by omega⟩
  by_cases h11 : c = 60
  · refine vc_tabIn dX12_isSign_1 60 128 h11 rfl rfl rfl ?_
    refine vc_iconst dX12_isSign_128 rfl ?_
    refine vc_zret dX12_isSign_129 rfl (by first | decide | omega) (Nat.le_of_ble_eq_true rfl) (Nat.le_of_ble_eq_true rfl) ?_
    exact ⟨_, rfl, rfl, by omega, by omega⟩
  by_cases h12 : c = 61
  · refine vc_tabIn dX12_isSign_1 61 128 h12 rfl rfl rfl ?_
    refine vc_iconst dX12_isSign_128 rfl ?_
    refine vc_zret dX12_isSign_129 rfl (by first | decide | omega) (Nat.le_of_ble_eq_true rfl) (Nat.le_of_ble_eq_true rfl) ?_
    exact ⟨_, rfl, rfl, by omega, by omega⟩
  by_cases h13 : c = 62
  · refine vc_tabIn dX12_isSign_1 62 128 h13 rfl rfl rfl ?_
    refine vc_iconst dX12_isSign_128 rfl ?_
    refine vc_zret dX12_isSign_129 rfl (by first | decide | omega) (Nat.le_of_ble_eq_true rfl) (Nat.le_of_ble_eq_true rfl) ?_
    exact ⟨_, rfl, rfl, by omega, by omega⟩
  by_cases h14 : c = 36
  · refine vc_tabIn dX12_isSign_1 36 130 h14 rfl rfl rfl ?_
    refine vc_iconst dX12_isSign_130 rfl ?_
    refine vc_zret dX12_isSign_131 rfl (by first | decide | omega) (Nat.le_of_ble_eq_true rfl) (Nat.le_of_ble_eq_true rfl) ?_
    exact ⟨_, rfl, rfl, by omega, by omega⟩
  by_cases h15 : c = 37
  · refine vc_tabIn dX12_isSign_1 37 130 h15 rfl rfl rfl ?_
    refine vc_iconst dX12_isSign_130 rfl ?_
    refine vc_zret dX12_isSign_131 rfl (by first | decide | omega) (Nat.le_of_ble_eq_true rfl) (Nat.le_of_ble_eq_true rfl) ?_
    exact ⟨_, rfl, rfl, by omega, by omega⟩
  by_cases h16 : c = 38
  · refine vc_tabIn dX12_isSign_1 38 130 h16 rfl rfl rfl ?_
    refine vc_iconst dX12_isSign_130 rfl ?_
    refine vc_zret dX12_isSign_131 rfl (by first | decide | omega) (Nat.le_of_ble_eq_true rfl) (Nat.le_of_ble_eq_true rfl) ?_
    exact ⟨_, rfl, rfl, by omega, by omega⟩
  by_cases h17 : c = 39
  · refine vc_tabIn dX12_isSign_1 39 130 h17 rfl rfl rfl ?_
    refine vc_iconst dX12_isSign_130 rfl ?_
    refine vc_zret dX12_isSign_131 rfl (by first | decide | omega) (Nat.le_of_ble_eq_true rfl) (Nat.le_of_ble_eq_true rfl) ?_
    exact ⟨_, rfl, rfl, by omega, by omega⟩
  by_cases h18 : c = 46
  · refine vc_tabIn dX12_isSign_1 46 130 h18 rfl rfl rfl ?_
    refine vc_iconst dX12_isSign_130 rfl ?_
    refine vc_zret dX12_isSign_131 rfl (by first | decide | omega) (Nat.le_of_ble_eq_true rfl) (Nat.le_of_ble_eq_true rfl) ?_
    exact ⟨_, rfl, rfl, by omega, by omega⟩
  by_cases h19 : c = 48
  · refine vc_tabIn dX12_isSign_1 48 130 h19 rfl rfl rfl ?_
    refine vc_iconst dX12_isSign_130 rfl ?_
    refine vc_zret dX12_isSign_131 rfl (by first | decide | omega) (Nat.le_of_ble_eq_true rfl) (Nat.le_of_ble_eq_true rfl) ?_
    exact ⟨_, rfl, rfl, by omega, by omega⟩
  by_cases h20 : c = 49
  · refine vc_tabIn dX12_isSign_1 49 130 h20 rfl rfl rfl ?_
    refine vc_iconst dX12_isSign_130 rfl ?_
    refine vc_zret dX12_isSign_131 rfl (by first | decide | omega) (Nat.le_of_ble_eq_true rfl) (Nat.le_of_ble_eq_true rfl) ?_
    exact ⟨_, rfl, rfl, by omega, by omega⟩
  by_cases h21 : c = 50
  · refine vc_tabIn dX12_isSign_1 50 130 h21 rfl rfl rfl ?_
    refine vc_iconst dX12_isSign_130 rfl ?_
    refine vc_zret dX12_isSign_131 rfl (by first | decide | omega) (Nat.le_of_ble_eq_true rfl) (Nat.le_of_ble_eq_true rfl) ?_
    exact ⟨_, rfl, rfl, by omega, by omega⟩
  by_cases h22 : c = 51
  · refine vc_tabIn dX12_isSign_1 51 130 h22 rfl rfl rfl ?_
    refine vc_iconst dX12_isSign_130 rfl ?_
    refine vc_zret dX12_isSign_131 rfl (by first | decide | omega) (Nat.le_of_ble_eq_true rfl) (Nat.le_of_ble_eq_true rfl) ?_
    exact ⟨_, rfl, rfl, by omega, by omega⟩
  by_cases h23 : c = 52
  · refine vc_tabIn dX12_isSign_1 52 130 h23 rfl rfl rfl ?_
    refine vc_iconst dX12_isSign_130 rfl ?_
    refine vc_zret dX12_isSign_131 rfl (by first | decide | omega) (Nat.le_of_ble_eq_true rfl) (Nat.le_of_ble_eq_true rfl) ?_
    exact ⟨_, rfl, rfl, by omega, by omega⟩
  by_cases h24 : c = 53
  · refine vc_tabIn dX12_isSign_1 53 130 h24 rfl rfl rfl ?_
    refine vc_iconst dX12_isSign_130 rfl ?_
    refine vc_zret dX12_isSign_131 rfl (by first | decide | omega) (Nat.le_of_ble_eq_true rfl) (Nat.le_of_ble_eq_true rfl) ?_
    exact ⟨_, rfl, rfl, by omega, by omega⟩
  by_cases h25 : c = 54
  · refine vc_tabIn dX12_isSign_1 54 130 h25 rfl rfl rfl ?_
    refine vc_iconst dX12_isSign_130 rfl ?_
    refine vc_zret dX12_isSign_131 rfl (by first | decide | omega) (Nat.le_of_ble_eq_true rfl) (Nat.le_of_ble_eq_true rfl) ?_
    exact ⟨_, rfl, rfl, by omega, by omega⟩
  by_cases h26 : c = 55
  · refine vc_tabIn dX12_isSign_1 55 130 h26 rfl rfl rfl ?_
    refine vc_iconst dX12_isSign_130 rfl ?_
    refine vc_zret dX12_isSign_131 rfl (by first | decide | omega) (Nat.le_of_ble_eq_true rfl) (Nat.le_of_ble_eq_true rfl) ?_
    exact ⟨_, rfl, rfl, by omega, by omega⟩
  by_cases h27 : c = 56
  · refine vc_tabIn dX12_isSign_1 56 130 h27 rfl rfl rfl ?_
    refine vc_iconst dX12_isSign_130 rfl ?_
    refine vc_zret dX12_isSign_131 rfl (by first | decide | omega) (Nat.le_of_ble_eq_true rfl) (Nat.le_of_ble_eq_true rfl) ?_
    exact ⟨_, rfl, rfl, by omega, by omega⟩
  by_cases h28 : c = 57
  · refine vc_tabIn dX12_isSign_1 57 130 h28 rfl rfl rfl ?_
    refine vc_iconst dX12_isSign_130 rfl ?_
    refine vc_zret dX12_isSign_131 rfl (by first | decide | omega) (Nat.le_of_ble_eq_true rfl) (Nat.le_of_ble_eq_true rfl) ?_
    exact ⟨_, rfl, rfl, by omega, by omega⟩
  refine vc_tabOut dX12_isSign_1 130 (by omega) rfl ?_
  refine vc_iconst dX12_isSign_130 rfl ?_
  refine vc_zret dX12_isSign_131 rfl (by first | decide | omega) (Nat.le_of_ble_eq_true rfl) (Nat.le_of_ble_eq_true rfl) ?_
  exact ⟨_, rfl, rfl, by omega, by omega⟩

set_option maxRecDepth 4000 in
theorem sfX12_nextToken {l : Launch} {M : Mem} (hB : Box M)    : Call l mdX12_nextToken [aR 54] M (fun q N => q = none ∧ BF fQ M N ∧ mI N 55 = mI M 55 ∧ mI N 57 = mI M 57 ∧ mI N 60 = mI M 60 ∧ mI M 54 9 ≤ mI N 54 10 ∧ mI N 54 10 ≤ mI N 54 9 ∧ (mI N 54 11 = 0 ∨ mI N 54 10 < mI N 54 9) ∧ mI N 54 14 = mI M 54 14 ∧ mI N 54 15 = mI M 54 15 ∧ mI N 54 16 = mI M 54 16 ∧ mI N 54 18 = mI M 54 18 ∧ mI N 54 19 = mI M 54 19 ∧ mI N 54 20 = mI M 54 20 ∧ mI N 54 21 = mI M 54 21) := by
  have hB0 : BF fQ M M := BF.start hB
  refine Call.of [some (aR 54), none] rfl (Nat.le_of_ble_eq_true rfl) rfl ?_
  have lp0 : ∀ (n0 : Nat) (Mq0 : Mem) , (BF fQ M Mq0) → (mI Mq0 57 = mI M 57) → (mI Mq0 59 = mI M 59) → (mI Mq0 60 = mI M 60) → (mI Mq0 55 = mI M 55) → (mI M 54 9 ≤ mI Mq0 54 9) → (mI Mq0 54 14 = mI M 54 14) → (mI Mq0 54 15 = mI M 54 15) → (mI Mq0 54 16 = mI M 54 16) → (mI Mq0 54 18 = mI M 54 18) → (mI Mq0 54 19 = mI M 54 19) → (mI Mq0 54 20 = mI M 54 20) → (mI Mq0 54 21 = mI M 54 21) → (300 - mI Mq0 54 9).toNat < n0 → VC l mdX12_nextToken 0 [some (aR 54), none] [] Mq0 0 0 (fun q N => q = none ∧ BF fQ M N ∧ mI N 55 = mI M 55 ∧ mI N 57 = mI M 57 ∧ mI N 60 = mI M 60 ∧ mI M 54 9 ≤ mI N 54 10 ∧ mI N 54 10 ≤ mI N 54 9 ∧ (mI N 54 11 = 0 ∨ mI N 54 10 < mI N 54 9) ∧ mI N 54 14 = mI M 54 14 ∧ mI N 54 15 = mI M 54 15 ∧ mI N 54 16 = mI M 54 16 ∧ mI N 54 18 = mI M 54 18 ∧ mI N 54 19 = mI M 54 19 ∧ mI N 54 20 = mI M 54 20 ∧ mI N 54 21 = mI M 54 21) := by
    intro n0
    induction n0 with
    | zero => intro Mq0 hQ0 kp0_57 kp0_59 kp0_60 kp0_55 g0i0 g0i1 g0i2 g0i3 g0i4 g0i5 g0i6 g0i7 hm0; exact absurd hm0 (Nat.not_lt_zero _)
    | succ n0 ih0 =>
      intro Mq0 hQ0 kp0_57 kp0_59 kp0_60 kp0_55 g0i0 g0i1 g0i2 g0i3 g0i4 g0i5 g0i6 g0i7 hm0
      refine vc_aload_n dX12_nextToken_0 rfl ?_
      refine vc_aload_n dX12_nextToken_1 rfl ?_
      refine vc_getI dX12_nextToken_2 flX12_119 (s_54 hQ0.1.1) rfl ?_
      have k1 : 0 ≤ mI Mq0 54 9 ∧ mI Mq0 54 9 ≤ 300 := b54_9 (M := Mq0) hQ0.1
      refine vc_cVI dX12_nextToken_5 (sfX12_byteAt (M := Mq0) hQ0.1  (mI Mq0 54 9) (by omega) (by omega)) rfl okX12_byteAt viX12_byteAt lkX12_122 (s_54 hQ0.1.1) cl_12 rfl (Nat.le_of_ble_eq_true rfl) ⟨rfl, rfl⟩ (Nat.le_of_ble_eq_true rfl) (Nat.le_of_ble_eq_true rfl) (Nat.le_of_ble_eq_true rfl) ?_
      rintro x2 _ ⟨rfl, h3, h4⟩
      have hk59 := congrFun kp0_59 (mI Mq0 54 9).toNat
      have hk6 := b54_6 (M := Mq0) hQ0.1
      refine vc_bipush dX12_nextToken_8 rfl ?_
      refine vc_icmp_eq dX12_nextToken_10 (fun h5 => ?_) (fun h5 => ?_)
      · refine vc_aload_n dX12_nextToken_26 rfl ?_
        refine vc_dup dX12_nextToken_27 rfl ?_
        refine vc_getI dX12_nextToken_28 flX12_119 (s_54 hQ0.1.1) rfl ?_
        refine vc_iconst dX12_nextToken_31 rfl ?_
        refine vc_iaddE dX12_nextToken_32 (by omega) (by omega) ?_
        refine vc_putI dX12_nextToken_33 (plX12_119 _ rfl) (s_54 hQ0.1.1) rfl ?_
        have kp6 : mI (sI Mq0 54 9 ((mI Mq0 54 9) + 1)) 57 = mI M 57 := (kp_sI kp0_57 rfl)
        have kp7 : mI (sI Mq0 54 9 ((mI Mq0 54 9) + 1)) 59 = mI M 59 := (kp_sI kp0_59 rfl)
        have kp8 : mI (sI Mq0 54 9 ((mI Mq0 54 9) + 1)) 60 = mI M 60 := (kp_sI kp0_60 rfl)
        have kp9 : mI (sI Mq0 54 9 ((mI Mq0 54 9) + 1)) 55 = mI M 55 := (kp_sI kp0_55 rfl)
        have hB10 : BF fQ M (sI Mq0 54 9 ((mI Mq0 54 9) + 1)) := BF.w54_9 hQ0 rfl (by omega) (by omega)
        refine vc_goto dX12_nextToken_36 ?_
        have k11 : mI (sI Mq0 54 9 ((mI Mq0 54 9) + 1)) 54 6 = mI Mq0 54 6 := rfl
        have k12 : mI (sI Mq0 54 9 ((mI Mq0 54 9) + 1)) 54 9 = (mI Mq0 54 9) + 1 := rfl
        have k13 : mI (sI Mq0 54 9 ((mI Mq0 54 9) + 1)) 54 10 = mI Mq0 54 10 := rfl
        have k14 : mI (sI Mq0 54 9 ((mI Mq0 54 9) + 1)) 54 11 = mI Mq0 54 11 := rfl
        have k15 : mI (sI Mq0 54 9 ((mI Mq0 54 9) + 1)) 54 14 = mI Mq0 54 14 := rfl
        have k16 : mI (sI Mq0 54 9 ((mI Mq0 54 9) + 1)) 54 15 = mI Mq0 54 15 := rfl
        have k17 : mI (sI Mq0 54 9 ((mI Mq0 54 9) + 1)) 54 16 = mI Mq0 54 16 := rfl
        have k18 : mI (sI Mq0 54 9 ((mI Mq0 54 9) + 1)) 54 18 = mI Mq0 54 18 := rfl
        have k19 : mI (sI Mq0 54 9 ((mI Mq0 54 9) + 1)) 54 19 = mI Mq0 54 19 := rfl
        have k20 : mI (sI Mq0 54 9 ((mI Mq0 54 9) + 1)) 54 20 = mI Mq0 54 20 := rfl
        have k21 : mI (sI Mq0 54 9 ((mI Mq0 54 9) + 1)) 54 21 = mI Mq0 54 21 := rfl
        exact ih0 (sI Mq0 54 9 ((mI Mq0 54 9) + 1)) hB10 kp6 kp7 kp8 kp9 (by omega) (by omega) (by omega) (by omega) (by omega) (by omega) (by omega) (by omega) (by omega)
      · refine vc_aload_n dX12_nextToken_13 rfl ?_
        refine vc_aload_n dX12_nextToken_14 rfl ?_
        refine vc_getI dX12_nextToken_15 flX12_119 (s_54 hQ0.1.1) rfl ?_
        refine vc_cVI dX12_nextToken_18 (sfX12_byteAt (M := Mq0) hQ0.1  (mI Mq0 54 9) (by omega) (by omega)) rfl okX12_byteAt viX12_byteAt lkX12_122 (s_54 hQ0.1.1) cl_12 rfl (Nat.le_of_ble_eq_true rfl) ⟨rfl, rfl⟩ (Nat.le_of_ble_eq_true rfl) (Nat.le_of_ble_eq_true rfl) (Nat.le_of_ble_eq_true rfl) ?_
        rintro x22 _ ⟨rfl, h23, h24⟩
        have hk59 := congrFun kp0_59 (mI Mq0 54 9).toNat
        have hk6 := b54_6 (M := Mq0) hQ0.1
        refine vc_bipush dX12_nextToken_21 rfl ?_
        refine vc_icmp_ne dX12_nextToken_23 (fun h25 => ?_) (fun h25 => ?_)
        · refine vc_aload_n dX12_nextToken_39 rfl ?_
          refine vc_aload_n dX12_nextToken_40 rfl ?_
          refine vc_getI dX12_nextToken_41 flX12_119 (s_54 hQ0.1.1) rfl ?_
          refine vc_putI dX12_nextToken_44 (plX12_126 _ rfl) (s_54 hQ0.1.1) rfl ?_
          have kp26 : mI (sI Mq0 54 10 (mI Mq0 54 9)) 57 = mI M 57 := (kp_sI kp0_57 rfl)
          have kp27 : mI (sI Mq0 54 10 (mI Mq0 54 9)) 59 = mI M 59 := (kp_sI kp0_59 rfl)
          have kp28 : mI (sI Mq0 54 10 (mI Mq0 54 9)) 60 = mI M 60 := (kp_sI kp0_60 rfl)
          have kp29 : mI (sI Mq0 54 10 (mI Mq0 54 9)) 55 = mI M 55 := (kp_sI kp0_55 rfl)
          have hB30 : BF fQ M (sI Mq0 54 10 (mI Mq0 54 9)) := BF.w54_10 hQ0 rfl (by omega) (by omega)
          refine vc_aload_n dX12_nextToken_47 rfl ?_
          refine vc_aload_n dX12_nextToken_48 rfl ?_
          refine vc_getI dX12_nextToken_49 flX12_119 (s_54 hB30.1.1) rfl ?_
          refine vc_topI (mI Mq0 54 9) rfl ?_
          have k31 : 0 ≤ mI Mq0 54 9 ∧ mI Mq0 54 9 ≤ 300 := b54_9 (M := (sI Mq0 54 10 (mI Mq0 54 9))) hB30.1
          have k32 : mI (sI Mq0 54 10 (mI Mq0 54 9)) 54 6 = mI Mq0 54 6 := rfl
          have k33 : mI (sI Mq0 54 10 (mI Mq0 54 9)) 54 9 = mI Mq0 54 9 := rfl
          have k34 : mI (sI Mq0 54 10 (mI Mq0 54 9)) 54 10 = mI Mq0 54 9 := rfl
          have k35 : mI (sI Mq0 54 10 (mI Mq0 54 9)) 54 11 = mI Mq0 54 11 := rfl
          have k36 : mI (sI Mq0 54 10 (mI Mq0 54 9)) 54 14 = mI Mq0 54 14 := rfl
          have k37 : mI (sI Mq0 54 10 (mI Mq0 54 9)) 54 15 = mI Mq0 54 15 := rfl
          have k38 : mI (sI Mq0 54 10 (mI Mq0 54 9)) 54 16 = mI Mq0 54 16 := rfl
          have k39 : mI (sI Mq0 54 10 (mI Mq0 54 9)) 54 18 = mI Mq0 54 18 := rfl
          have k40 : mI (sI Mq0 54 10 (mI Mq0 54 9)) 54 19 = mI Mq0 54 19 := rfl
          have k41 : mI (sI Mq0 54 10 (mI Mq0 54 9)) 54 20 = mI Mq0 54 20 := rfl
          have k42 : mI (sI Mq0 54 10 (mI Mq0 54 9)) 54 21 = mI Mq0 54 21 := rfl
          refine vc_cVI dX12_nextToken_52 (sfX12_byteAt (M := (sI Mq0 54 10 (mI Mq0 54 9))) hB30.1  (mI Mq0 54 9) (by omega) (by omega)) rfl okX12_byteAt viX12_byteAt lkX12_122 (s_54 hB30.1.1) cl_12 rfl (Nat.le_of_ble_eq_true rfl) ⟨rfl, rfl⟩ (Nat.le_of_ble_eq_true rfl) (Nat.le_of_ble_eq_true rfl) (Nat.le_of_ble_eq_true rfl) ?_
          rintro x43 _ ⟨rfl, h44, h45⟩
          have hk59 := congrFun kp27 (mI Mq0 54 9).toNat
          have hk6 := b54_6 (M := (sI Mq0 54 10 (mI Mq0 54 9))) hB30.1
          refine vc_istore_n dX12_nextToken_55 (by decide) rfl (show _ = [some (aR 54), some (aI x43)] from rfl) ?_
          refine vc_iload_n dX12_nextToken_56 rfl ?_
          refine vc_if_ge dX12_nextToken_57 (fun h46 => ?_) (fun h46 => ?_)
          · refine vc_iload_n dX12_nextToken_68 rfl ?_
            refine vc_cSI dX12_nextToken_69 (sfX12_isFigure (M := (sI Mq0 54 10 (mI Mq0 54 9))) hB30.1  x43 ) rfl okX12_isFigure stX12_isFigure lkX12_132 rfl (Nat.le_of_ble_eq_true rfl) ⟨rfl, rfl⟩ (Nat.le_of_ble_eq_true rfl) (Nat.le_of_ble_eq_true rfl) (Nat.le_of_ble_eq_true rfl) ?_
            rintro x47 _ ⟨rfl, h48, h49, h50⟩
            refine vc_if_eq dX12_nextToken_72 (fun h51 => ?_) (fun h51 => ?_)
            · refine vc_iload_n dX12_nextToken_151 rfl ?_
              refine vc_cSI dX12_nextToken_152 (sfX12_isLetterByte (M := (sI Mq0 54 10 (mI Mq0 54 9))) hB30.1  x43 ) rfl okX12_isLetterByte stX12_isLetterByte lkX12_139 rfl (Nat.le_of_ble_eq_true rfl) ⟨rfl, rfl⟩ (Nat.le_of_ble_eq_true rfl) (Nat.le_of_ble_eq_true rfl) (Nat.le_of_ble_eq_true rfl) ?_
              rintro x52 _ ⟨rfl, h53, h54, h55⟩
              refine vc_if_eq dX12_nextToken_155 (fun h56 => ?_) (fun h56 => ?_)
              · refine vc_aload_n dX12_nextToken_234 rfl ?_
                refine vc_iload_n dX12_nextToken_235 rfl ?_
                refine vc_cSI dX12_nextToken_236 (sfX12_isSign (M := (sI Mq0 54 10 (mI Mq0 54 9))) hB30.1  x43 ) rfl okX12_isSign stX12_isSign lkX12_148 rfl (Nat.le_of_ble_eq_true rfl) ⟨rfl, rfl⟩ (Nat.le_of_ble_eq_true rfl) (Nat.le_of_ble_eq_true rfl) (Nat.le_of_ble_eq_true rfl) ?_
                rintro x57 _ ⟨rfl, h58, h59⟩
                refine vc_if_eq dX12_nextToken_239 (fun h60 => ?_) (fun h60 => ?_)
                · refine vc_iconst dX12_nextToken_246 rfl ?_
                  refine vc_putI dX12_nextToken_247 (plX12_129 _ rfl) (s_54 hB30.1.1) rfl ?_
                  have kp61 : mI (sI (sI Mq0 54 10 (mI Mq0 54 9)) 54 11 3) 57 = mI M 57 := (kp_sI kp26 rfl)
                  have kp62 : mI (sI (sI Mq0 54 10 (mI Mq0 54 9)) 54 11 3) 59 = mI M 59 := (kp_sI kp27 rfl)
                  have kp63 : mI (sI (sI Mq0 54 10 (mI Mq0 54 9)) 54 11 3) 60 = mI M 60 := (kp_sI kp28 rfl)
                  have kp64 : mI (sI (sI Mq0 54 10 (mI Mq0 54 9)) 54 11 3) 55 = mI M 55 := (kp_sI kp29 rfl)
                  have hB65 : BF fQ M (sI (sI Mq0 54 10 (mI Mq0 54 9)) 54 11 3) := BF.w54_11 hB30 rfl
                  refine vc_aload_n dX12_nextToken_250 rfl ?_
                  refine vc_dup dX12_nextToken_251 rfl ?_
                  refine vc_getI dX12_nextToken_252 flX12_119 (s_54 hB65.1.1) rfl ?_
                  refine vc_topI (mI Mq0 54 9) rfl ?_
                  have k66 : 0 ≤ mI Mq0 54 9 ∧ mI Mq0 54 9 ≤ 300 := b54_9 (M := (sI (sI Mq0 54 10 (mI Mq0 54 9)) 54 11 3)) hB65.1
                  refine vc_iconst dX12_nextToken_255 rfl ?_
                  refine vc_iaddE dX12_nextToken_256 (by omega) (by omega) ?_
                  refine vc_putI dX12_nextToken_257 (plX12_119 _ rfl) (s_54 hB65.1.1) rfl ?_
                  have kp67 : mI (sI (sI (sI Mq0 54 10 (mI Mq0 54 9)) 54 11 3) 54 9 ((mI Mq0 54 9) + 1)) 57 = mI M 57 := (kp_sI kp61 rfl)
                  have kp68 : mI (sI (sI (sI Mq0 54 10 (mI Mq0 54 9)) 54 11 3) 54 9 ((mI Mq0 54 9) + 1)) 59 = mI M 59 := (kp_sI kp62 rfl)
                  have kp69 : mI (sI (sI (sI Mq0 54 10 (mI Mq0 54 9)) 54 11 3) 54 9 ((mI Mq0 54 9) + 1)) 60 = mI M 60 := (kp_sI kp63 rfl)
                  have kp70 : mI (sI (sI (sI Mq0 54 10 (mI Mq0 54 9)) 54 11 3) 54 9 ((mI Mq0 54 9) + 1)) 55 = mI M 55 := (kp_sI kp64 rfl)
                  have hB71 : BF fQ M (sI (sI (sI Mq0 54 10 (mI Mq0 54 9)) 54 11 3) 54 9 ((mI Mq0 54 9) + 1)) := BF.w54_9 hB65 rfl (by omega) (by omega)
                  refine vc_iload_n dX12_nextToken_260 rfl ?_
                  refine vc_bipush dX12_nextToken_261 rfl ?_
                  refine vc_icmp_eq dX12_nextToken_263 (fun h72 => ?_) (fun h72 => ?_)
                  · refine vc_aload_n dX12_nextToken_272 rfl ?_
                    refine vc_aload_n dX12_nextToken_273 rfl ?_
                    refine vc_getI dX12_nextToken_274 flX12_119 (s_54 hB71.1.1) rfl ?_
                    refine vc_topI ((mI Mq0 54 9) + 1) rfl ?_
                    have k73 : mI (sI (sI (sI Mq0 54 10 (mI Mq0 54 9)) 54 11 3) 54 9 ((mI Mq0 54 9) + 1)) 54 6 = mI Mq0 54 6 := rfl
                    have k74 : mI (sI (sI (sI Mq0 54 10 (mI Mq0 54 9)) 54 11 3) 54 9 ((mI Mq0 54 9) + 1)) 54 9 = (mI Mq0 54 9) + 1 := rfl
                    have k75 : mI (sI (sI (sI Mq0 54 10 (mI Mq0 54 9)) 54 11 3) 54 9 ((mI Mq0 54 9) + 1)) 54 10 = mI Mq0 54 9 := rfl
                    have k76 : mI (sI (sI (sI Mq0 54 10 (mI Mq0 54 9)) 54 11 3) 54 9 ((mI Mq0 54 9) + 1)) 54 11 = 3 := rfl
                    have k77 : mI (sI (sI (sI Mq0 54 10 (mI Mq0 54 9)) 54 11 3) 54 9 ((mI Mq0 54 9) + 1)) 54 14 = mI Mq0 54 14 := rfl
                    have k78 : mI (sI (sI (sI Mq0 54 10 (mI Mq0 54 9)) 54 11 3) 54 9 ((mI Mq0 54 9) + 1)) 54 15 = mI Mq0 54 15 := rfl
                    have k79 : mI (sI (sI (sI Mq0 54 10 (mI Mq0 54 9)) 54 11 3) 54 9 ((mI Mq0 54 9) + 1)) 54 16 = mI Mq0 54 16 := rfl
                    have k80 : mI (sI (sI (sI Mq0 54 10 (mI Mq0 54 9)) 54 11 3) 54 9 ((mI Mq0 54 9) + 1)) 54 18 = mI Mq0 54 18 := rfl
                    have k81 : mI (sI (sI (sI Mq0 54 10 (mI Mq0 54 9)) 54 11 3) 54 9 ((mI Mq0 54 9) + 1)) 54 19 = mI Mq0 54 19 := rfl
                    have k82 : mI (sI (sI (sI Mq0 54 10 (mI Mq0 54 9)) 54 11 3) 54 9 ((mI Mq0 54 9) + 1)) 54 20 = mI Mq0 54 20 := rfl
                    have k83 : mI (sI (sI (sI Mq0 54 10 (mI Mq0 54 9)) 54 11 3) 54 9 ((mI Mq0 54 9) + 1)) 54 21 = mI Mq0 54 21 := rfl
                    refine vc_cVI dX12_nextToken_277 (sfX12_byteAt (M := (sI (sI (sI Mq0 54 10 (mI Mq0 54 9)) 54 11 3) 54 9 ((mI Mq0 54 9) + 1))) hB71.1  ((mI Mq0 54 9) + 1) (by omega) (by omega)) rfl okX12_byteAt viX12_byteAt lkX12_122 (s_54 hB71.1.1) cl_12 rfl (Nat.le_of_ble_eq_true rfl) ⟨rfl, rfl⟩ (Nat.le_of_ble_eq_true rfl) (Nat.le_of_ble_eq_true rfl) (Nat.le_of_ble_eq_true rfl) ?_
                    rintro x84 _ ⟨rfl, h85, h86⟩
                    have hk59 := congrFun kp68 ((mI Mq0 54 9) + 1).toNat
                    have hk6 := b54_6 (M := (sI (sI (sI Mq0 54 10 (mI Mq0 54 9)) 54 11 3) 54 9 ((mI Mq0 54 9) + 1))) hB71.1
                    refine vc_bipush dX12_nextToken_280 rfl ?_
                    refine vc_icmp_ne dX12_nextToken_282 (fun h87 => ?_) (fun h87 => ?_)
                    · refine vc_vret dX12_nextToken_310 rfl (Nat.le_of_ble_eq_true rfl) (Nat.le_of_ble_eq_true rfl) ?_
                      exact ⟨rfl, hB71, kp70, kp67, kp69, by omega, by omega, by omega, by omega, by omega, by omega, by omega, by omega, by omega, by omega⟩
                    · refine vc_aload_n dX12_nextToken_285 rfl ?_
                      refine vc_iload_n dX12_nextToken_286 rfl ?_
                      refine vc_bipush dX12_nextToken_287 rfl ?_
                      refine vc_icmp_ne dX12_nextToken_289 (fun h88 => by exfalso; omega) (fun h88 => ?_)
                      refine vc_iconst dX12_nextToken_292 rfl ?_
                      refine vc_goto dX12_nextToken_293 ?_
                      refine vc_putI dX12_nextToken_297 (plX12_129 _ rfl) (s_54 hB71.1.1) rfl ?_
                      have kp89 : mI (sI (sI (sI (sI Mq0 54 10 (mI Mq0 54 9)) 54 11 3) 54 9 ((mI Mq0 54 9) + 1)) 54 11 4) 57 = mI M 57 := (kp_sI kp67 rfl)
                      have kp90 : mI (sI (sI (sI (sI Mq0 54 10 (mI Mq0 54 9)) 54 11 3) 54 9 ((mI Mq0 54 9) + 1)) 54 11 4) 59 = mI M 59 := (kp_sI kp68 rfl)
                      have kp91 : mI (sI (sI (sI (sI Mq0 54 10 (mI Mq0 54 9)) 54 11 3) 54 9 ((mI Mq0 54 9) + 1)) 54 11 4) 60 = mI M 60 := (kp_sI kp69 rfl)
                      have kp92 : mI (sI (sI (sI (sI Mq0 54 10 (mI Mq0 54 9)) 54 11 3) 54 9 ((mI Mq0 54 9) + 1)) 54 11 4) 55 = mI M 55 := (kp_sI kp70 rfl)
                      have hB93 : BF fQ M (sI (sI (sI (sI Mq0 54 10 (mI Mq0 54 9)) 54 11 3) 54 9 ((mI Mq0 54 9) + 1)) 54 11 4) := BF.w54_11 hB71 rfl
                      refine vc_aload_n dX12_nextToken_300 rfl ?_
                      refine vc_dup dX12_nextToken_301 rfl ?_
                      refine vc_getI dX12_nextToken_302 flX12_119 (s_54 hB93.1.1) rfl ?_
                      refine vc_topI ((mI Mq0 54 9) + 1) rfl ?_
                      refine vc_iconst dX12_nextToken_305 rfl ?_
                      refine vc_iaddE dX12_nextToken_306 (by omega) (by omega) ?_
                      refine vc_putI dX12_nextToken_307 (plX12_119 _ rfl) (s_54 hB93.1.1) rfl ?_
                      have kp94 : mI (sI (sI (sI (sI (sI Mq0 54 10 (mI Mq0 54 9)) 54 11 3) 54 9 ((mI Mq0 54 9) + 1)) 54 11 4) 54 9 (((mI Mq0 54 9) + 1) + 1)) 57 = mI M 57 := (kp_sI kp89 rfl)
                      have kp95 : mI (sI (sI (sI (sI (sI Mq0 54 10 (mI Mq0 54 9)) 54 11 3) 54 9 ((mI Mq0 54 9) + 1)) 54 11 4) 54 9 (((mI Mq0 54 9) + 1) + 1)) 59 = mI M 59 := (kp_sI kp90 rfl)
                      have kp96 : mI (sI (sI (sI (sI (sI Mq0 54 10 (mI Mq0 54 9)) 54 11 3) 54 9 ((mI Mq0 54 9) + 1)) 54 11 4) 54 9 (((mI Mq0 54 9) + 1) + 1)) 60 = mI M 60 := (kp_sI kp91 rfl)
                      have kp97 : mI (sI (sI (sI (sI (sI Mq0 54 10 (mI Mq0 54 9)) 54 11 3) 54 9 ((mI Mq0 54 9) + 1)) 54 11 4) 54 9 (((mI Mq0 54 9) + 1) + 1)) 55 = mI M 55 := (kp_sI kp92 rfl)
                      have hB98 : BF fQ M (sI (sI (sI (sI (sI Mq0 54 10 (mI Mq0 54 9)) 54 11 3) 54 9 ((mI Mq0 54 9) + 1)) 54 11 4) 54 9 (((mI Mq0 54 9) + 1) + 1)) := BF.w54_9 hB93 rfl (by omega) (by omega)
                      refine vc_vret dX12_nextToken_310 rfl (Nat.le_of_ble_eq_true rfl) (Nat.le_of_ble_eq_true rfl) ?_
                      have k99 : mI (sI (sI (sI (sI (sI Mq0 54 10 (mI Mq0 54 9)) 54 11 3) 54 9 ((mI Mq0 54 9) + 1)) 54 11 4) 54 9 (((mI Mq0 54 9) + 1) + 1)) 54 6 = mI Mq0 54 6 := rfl
                      have k100 : mI (sI (sI (sI (sI (sI Mq0 54 10 (mI Mq0 54 9)) 54 11 3) 54 9 ((mI Mq0 54 9) + 1)) 54 11 4) 54 9 (((mI Mq0 54 9) + 1) + 1)) 54 9 = ((mI Mq0 54 9) + 1) + 1 := rfl
                      have k101 : mI (sI (sI (sI (sI (sI Mq0 54 10 (mI Mq0 54 9)) 54 11 3) 54 9 ((mI Mq0 54 9) + 1)) 54 11 4) 54 9 (((mI Mq0 54 9) + 1) + 1)) 54 10 = mI Mq0 54 9 := rfl
                      have k102 : mI (sI (sI (sI (sI (sI Mq0 54 10 (mI Mq0 54 9)) 54 11 3) 54 9 ((mI Mq0 54 9) + 1)) 54 11 4) 54 9 (((mI Mq0 54 9) + 1) + 1)) 54 11 = 4 := rfl
                      have k103 : mI (sI (sI (sI (sI (sI Mq0 54 10 (mI Mq0 54 9)) 54 11 3) 54 9 ((mI Mq0 54 9) + 1)) 54 11 4) 54 9 (((mI Mq0 54 9) + 1) + 1)) 54 14 = mI Mq0 54 14 := rfl
                      have k104 : mI (sI (sI (sI (sI (sI Mq0 54 10 (mI Mq0 54 9)) 54 11 3) 54 9 ((mI Mq0 54 9) + 1)) 54 11 4) 54 9 (((mI Mq0 54 9) + 1) + 1)) 54 15 = mI Mq0 54 15 := rfl
                      have k105 : mI (sI (sI (sI (sI (sI Mq0 54 10 (mI Mq0 54 9)) 54 11 3) 54 9 ((mI Mq0 54 9) + 1)) 54 11 4) 54 9 (((mI Mq0 54 9) + 1) + 1)) 54 16 = mI Mq0 54 16 := rfl
                      have k106 : mI (sI (sI (sI (sI (sI Mq0 54 10 (mI Mq0 54 9)) 54 11 3) 54 9 ((mI Mq0 54 9) + 1)) 54 11 4) 54 9 (((mI Mq0 54 9) + 1) + 1)) 54 18 = mI Mq0 54 18 := rfl
                      have k107 : mI (sI (sI (sI (sI (sI Mq0 54 10 (mI Mq0 54 9)) 54 11 3) 54 9 ((mI Mq0 54 9) + 1)) 54 11 4) 54 9 (((mI Mq0 54 9) + 1) + 1)) 54 19 = mI Mq0 54 19 := rfl
                      have k108 : mI (sI (sI (sI (sI (sI Mq0 54 10 (mI Mq0 54 9)) 54 11 3) 54 9 ((mI Mq0 54 9) + 1)) 54 11 4) 54 9 (((mI Mq0 54 9) + 1) + 1)) 54 20 = mI Mq0 54 20 := rfl
                      have k109 : mI (sI (sI (sI (sI (sI Mq0 54 10 (mI Mq0 54 9)) 54 11 3) 54 9 ((mI Mq0 54 9) + 1)) 54 11 4) 54 9 (((mI Mq0 54 9) + 1) + 1)) 54 21 = mI Mq0 54 21 := rfl
                      exact ⟨rfl, hB98, kp97, kp94, kp96, by omega, by omega, by omega, by omega, by omega, by omega, by omega, by omega, by omega, by omega⟩
                  · refine vc_iload_n dX12_nextToken_266 rfl ?_
                    refine vc_bipush dX12_nextToken_267 rfl ?_
                    refine vc_icmp_ne dX12_nextToken_269 (fun h110 => ?_) (fun h110 => ?_)
                    · refine vc_vret dX12_nextToken_310 rfl (Nat.le_of_ble_eq_true rfl) (Nat.le_of_ble_eq_true rfl) ?_
                      have k111 : mI (sI (sI (sI Mq0 54 10 (mI Mq0 54 9)) 54 11 3) 54 9 ((mI Mq0 54 9) + 1)) 54 6 = mI Mq0 54 6 := rfl
                      have k112 : mI (sI (sI (sI Mq0 54 10 (mI Mq0 54 9)) 54 11 3) 54 9 ((mI Mq0 54 9) + 1)) 54 9 = (mI Mq0 54 9) + 1 := rfl
                      have k113 : mI (sI (sI (sI Mq0 54 10 (mI Mq0 54 9)) 54 11 3) 54 9 ((mI Mq0 54 9) + 1)) 54 10 = mI Mq0 54 9 := rfl
                      have k114 : mI (sI (sI (sI Mq0 54 10 (mI Mq0 54 9)) 54 11 3) 54 9 ((mI Mq0 54 9) + 1)) 54 11 = 3 := rfl
                      have k115 : mI (sI (sI (sI Mq0 54 10 (mI Mq0 54 9)) 54 11 3) 54 9 ((mI Mq0 54 9) + 1)) 54 14 = mI Mq0 54 14 := rfl
                      have k116 : mI (sI (sI (sI Mq0 54 10 (mI Mq0 54 9)) 54 11 3) 54 9 ((mI Mq0 54 9) + 1)) 54 15 = mI Mq0 54 15 := rfl
                      have k117 : mI (sI (sI (sI Mq0 54 10 (mI Mq0 54 9)) 54 11 3) 54 9 ((mI Mq0 54 9) + 1)) 54 16 = mI Mq0 54 16 := rfl
                      have k118 : mI (sI (sI (sI Mq0 54 10 (mI Mq0 54 9)) 54 11 3) 54 9 ((mI Mq0 54 9) + 1)) 54 18 = mI Mq0 54 18 := rfl
                      have k119 : mI (sI (sI (sI Mq0 54 10 (mI Mq0 54 9)) 54 11 3) 54 9 ((mI Mq0 54 9) + 1)) 54 19 = mI Mq0 54 19 := rfl
                      have k120 : mI (sI (sI (sI Mq0 54 10 (mI Mq0 54 9)) 54 11 3) 54 9 ((mI Mq0 54 9) + 1)) 54 20 = mI Mq0 54 20 := rfl
                      have k121 : mI (sI (sI (sI Mq0 54 10 (mI Mq0 54 9)) 54 11 3) 54 9 ((mI Mq0 54 9) + 1)) 54 21 = mI Mq0 54 21 := rfl
                      exact ⟨rfl, hB71, kp70, kp67, kp69, by omega, by omega, by omega, by omega, by omega, by omega, by omega, by omega, by omega, by omega⟩
                    · refine vc_aload_n dX12_nextToken_272 rfl ?_
                      refine vc_aload_n dX12_nextToken_273 rfl ?_
                      refine vc_getI dX12_nextToken_274 flX12_119 (s_54 hB71.1.1) rfl ?_
                      refine vc_topI ((mI Mq0 54 9) + 1) rfl ?_
                      have k122 : mI (sI (sI (sI Mq0 54 10 (mI Mq0 54 9)) 54 11 3) 54 9 ((mI Mq0 54 9) + 1)) 54 6 = mI Mq0 54 6 := rfl
                      have k123 : mI (sI (sI (sI Mq0 54 10 (mI Mq0 54 9)) 54 11 3) 54 9 ((mI Mq0 54 9) + 1)) 54 9 = (mI Mq0 54 9) + 1 := rfl
                      have k124 : mI (sI (sI (sI Mq0 54 10 (mI Mq0 54 9)) 54 11 3) 54 9 ((mI Mq0 54 9) + 1)) 54 10 = mI Mq0 54 9 := rfl
                      have k125 : mI (sI (sI (sI Mq0 54 10 (mI Mq0 54 9)) 54 11 3) 54 9 ((mI Mq0 54 9) + 1)) 54 11 = 3 := rfl
                      have k126 : mI (sI (sI (sI Mq0 54 10 (mI Mq0 54 9)) 54 11 3) 54 9 ((mI Mq0 54 9) + 1)) 54 14 = mI Mq0 54 14 := rfl
                      have k127 : mI (sI (sI (sI Mq0 54 10 (mI Mq0 54 9)) 54 11 3) 54 9 ((mI Mq0 54 9) + 1)) 54 15 = mI Mq0 54 15 := rfl
                      have k128 : mI (sI (sI (sI Mq0 54 10 (mI Mq0 54 9)) 54 11 3) 54 9 ((mI Mq0 54 9) + 1)) 54 16 = mI Mq0 54 16 := rfl
                      have k129 : mI (sI (sI (sI Mq0 54 10 (mI Mq0 54 9)) 54 11 3) 54 9 ((mI Mq0 54 9) + 1)) 54 18 = mI Mq0 54 18 := rfl
                      have k130 : mI (sI (sI (sI Mq0 54 10 (mI Mq0 54 9)) 54 11 3) 54 9 ((mI Mq0 54 9) + 1)) 54 19 = mI Mq0 54 19 := rfl
                      have k131 : mI (sI (sI (sI Mq0 54 10 (mI Mq0 54 9)) 54 11 3) 54 9 ((mI Mq0 54 9) + 1)) 54 20 = mI Mq0 54 20 := rfl
                      have k132 : mI (sI (sI (sI Mq0 54 10 (mI Mq0 54 9)) 54 11 3) 54 9 ((mI Mq0 54 9) + 1)) 54 21 = mI Mq0 54 21 := rfl
                      refine vc_cVI dX12_nextToken_277 (sfX12_byteAt (M := (sI (sI (sI Mq0 54 10 (mI Mq0 54 9)) 54 11 3) 54 9 ((mI Mq0 54 9) + 1))) hB71.1  ((mI Mq0 54 9) + 1) (by omega) (by omega)) rfl okX12_byteAt viX12_byteAt lkX12_122 (s_54 hB71.1.1) cl_12 rfl (Nat.le_of_ble_eq_true rfl) ⟨rfl, rfl⟩ (Nat.le_of_ble_eq_true rfl) (Nat.le_of_ble_eq_true rfl) (Nat.le_of_ble_eq_true rfl) ?_
                      rintro x133 _ ⟨rfl, h134, h135⟩
                      have hk59 := congrFun kp68 ((mI Mq0 54 9) + 1).toNat
                      have hk6 := b54_6 (M := (sI (sI (sI Mq0 54 10 (mI Mq0 54 9)) 54 11 3) 54 9 ((mI Mq0 54 9) + 1))) hB71.1
                      refine vc_bipush dX12_nextToken_280 rfl ?_
                      refine vc_icmp_ne dX12_nextToken_282 (fun h136 => ?_) (fun h136 => ?_)
                      · refine vc_vret dX12_nextToken_310 rfl (Nat.le_of_ble_eq_true rfl) (Nat.le_of_ble_eq_true rfl) ?_
                        exact ⟨rfl, hB71, kp70, kp67, kp69, by omega, by omega, by omega, by omega, by omega, by omega, by omega, by omega, by omega, by omega⟩
                      · refine vc_aload_n dX12_nextToken_285 rfl ?_
                        refine vc_iload_n dX12_nextToken_286 rfl ?_
                        refine vc_bipush dX12_nextToken_287 rfl ?_
                        refine vc_icmp_ne dX12_nextToken_289 (fun h137 => ?_) (fun h137 => by exfalso; omega)
                        refine vc_iconst dX12_nextToken_296 rfl ?_
                        refine vc_putI dX12_nextToken_297 (plX12_129 _ rfl) (s_54 hB71.1.1) rfl ?_
                        have kp138 : mI (sI (sI (sI (sI Mq0 54 10 (mI Mq0 54 9)) 54 11 3) 54 9 ((mI Mq0 54 9) + 1)) 54 11 5) 57 = mI M 57 := (kp_sI kp67 rfl)
                        have kp139 : mI (sI (sI (sI (sI Mq0 54 10 (mI Mq0 54 9)) 54 11 3) 54 9 ((mI Mq0 54 9) + 1)) 54 11 5) 59 = mI M 59 := (kp_sI kp68 rfl)
                        have kp140 : mI (sI (sI (sI (sI Mq0 54 10 (mI Mq0 54 9)) 54 11 3) 54 9 ((mI Mq0 54 9) + 1)) 54 11 5) 60 = mI M 60 := (kp_sI kp69 rfl)
                        have kp141 : mI (sI (sI (sI (sI Mq0 54 10 (mI Mq0 54 9)) 54 11 3) 54 9 ((mI Mq0 54 9) + 1)) 54 11 5) 55 = mI M 55 := (kp_sI kp70 rfl)
                        have hB142 : BF fQ M (sI (sI (sI (sI Mq0 54 10 (mI Mq0 54 9)) 54 11 3) 54 9 ((mI Mq0 54 9) + 1)) 54 11 5) := BF.w54_11 hB71 rfl
                        refine vc_aload_n dX12_nextToken_300 rfl ?_
                        refine vc_dup dX12_nextToken_301 rfl ?_
                        refine vc_getI dX12_nextToken_302 flX12_119 (s_54 hB142.1.1) rfl ?_
                        refine vc_topI ((mI Mq0 54 9) + 1) rfl ?_
                        refine vc_iconst dX12_nextToken_305 rfl ?_
                        refine vc_iaddE dX12_nextToken_306 (by omega) (by omega) ?_
                        refine vc_putI dX12_nextToken_307 (plX12_119 _ rfl) (s_54 hB142.1.1) rfl ?_
                        have kp143 : mI (sI (sI (sI (sI (sI Mq0 54 10 (mI Mq0 54 9)) 54 11 3) 54 9 ((mI Mq0 54 9) + 1)) 54 11 5) 54 9 (((mI Mq0 54 9) + 1) + 1)) 57 = mI M 57 := (kp_sI kp138 rfl)
                        have kp144 : mI (sI (sI (sI (sI (sI Mq0 54 10 (mI Mq0 54 9)) 54 11 3) 54 9 ((mI Mq0 54 9) + 1)) 54 11 5) 54 9 (((mI Mq0 54 9) + 1) + 1)) 59 = mI M 59 := (kp_sI kp139 rfl)
                        have kp145 : mI (sI (sI (sI (sI (sI Mq0 54 10 (mI Mq0 54 9)) 54 11 3) 54 9 ((mI Mq0 54 9) + 1)) 54 11 5) 54 9 (((mI Mq0 54 9) + 1) + 1)) 60 = mI M 60 := (kp_sI kp140 rfl)
                        have kp146 : mI (sI (sI (sI (sI (sI Mq0 54 10 (mI Mq0 54 9)) 54 11 3) 54 9 ((mI Mq0 54 9) + 1)) 54 11 5) 54 9 (((mI Mq0 54 9) + 1) + 1)) 55 = mI M 55 := (kp_sI kp141 rfl)
                        have hB147 : BF fQ M (sI (sI (sI (sI (sI Mq0 54 10 (mI Mq0 54 9)) 54 11 3) 54 9 ((mI Mq0 54 9) + 1)) 54 11 5) 54 9 (((mI Mq0 54 9) + 1) + 1)) := BF.w54_9 hB142 rfl (by omega) (by omega)
                        refine vc_vret dX12_nextToken_310 rfl (Nat.le_of_ble_eq_true rfl) (Nat.le_of_ble_eq_true rfl) ?_
                        have k148 : mI (sI (sI (sI (sI (sI Mq0 54 10 (mI Mq0 54 9)) 54 11 3) 54 9 ((mI Mq0 54 9) + 1)) 54 11 5) 54 9 (((mI Mq0 54 9) + 1) + 1)) 54 6 = mI Mq0 54 6 := rfl
                        have k149 : mI (sI (sI (sI (sI (sI Mq0 54 10 (mI Mq0 54 9)) 54 11 3) 54 9 ((mI Mq0 54 9) + 1)) 54 11 5) 54 9 (((mI Mq0 54 9) + 1) + 1)) 54 9 = ((mI Mq0 54 9) + 1) + 1 := rfl
                        have k150 : mI (sI (sI (sI (sI (sI Mq0 54 10 (mI Mq0 54 9)) 54 11 3) 54 9 ((mI Mq0 54 9) + 1)) 54 11 5) 54 9 (((mI Mq0 54 9) + 1) + 1)) 54 10 = mI Mq0 54 9 := rfl
                        have k151 : mI (sI (sI (sI (sI (sI Mq0 54 10 (mI Mq0 54 9)) 54 11 3) 54 9 ((mI Mq0 54 9) + 1)) 54 11 5) 54 9 (((mI Mq0 54 9) + 1) + 1)) 54 11 = 5 := rfl
                        have k152 : mI (sI (sI (sI (sI (sI Mq0 54 10 (mI Mq0 54 9)) 54 11 3) 54 9 ((mI Mq0 54 9) + 1)) 54 11 5) 54 9 (((mI Mq0 54 9) + 1) + 1)) 54 14 = mI Mq0 54 14 := rfl
                        have k153 : mI (sI (sI (sI (sI (sI Mq0 54 10 (mI Mq0 54 9)) 54 11 3) 54 9 ((mI Mq0 54 9) + 1)) 54 11 5) 54 9 (((mI Mq0 54 9) + 1) + 1)) 54 15 = mI Mq0 54 15 := rfl
                        have k154 : mI (sI (sI (sI (sI (sI Mq0 54 10 (mI Mq0 54 9)) 54 11 3) 54 9 ((mI Mq0 54 9) + 1)) 54 11 5) 54 9 (((mI Mq0 54 9) + 1) + 1)) 54 16 = mI Mq0 54 16 := rfl
                        have k155 : mI (sI (sI (sI (sI (sI Mq0 54 10 (mI Mq0 54 9)) 54 11 3) 54 9 ((mI Mq0 54 9) + 1)) 54 11 5) 54 9 (((mI Mq0 54 9) + 1) + 1)) 54 18 = mI Mq0 54 18 := rfl
                        have k156 : mI (sI (sI (sI (sI (sI Mq0 54 10 (mI Mq0 54 9)) 54 11 3) 54 9 ((mI Mq0 54 9) + 1)) 54 11 5) 54 9 (((mI Mq0 54 9) + 1) + 1)) 54 19 = mI Mq0 54 19 := rfl
                        have k157 : mI (sI (sI (sI (sI (sI Mq0 54 10 (mI Mq0 54 9)) 54 11 3) 54 9 ((mI Mq0 54 9) + 1)) 54 11 5) 54 9 (((mI Mq0 54 9) + 1) + 1)) 54 20 = mI Mq0 54 20 := rfl
                        have k158 : mI (sI (sI (sI (sI (sI Mq0 54 10 (mI Mq0 54 9)) 54 11 3) 54 9 ((mI Mq0 54 9) + 1)) 54 11 5) 54 9 (((mI Mq0 54 9) + 1) + 1)) 54 21 = mI Mq0 54 21 := rfl
                        exact ⟨rfl, hB147, kp146, kp143, kp145, by omega, by omega, by omega, by omega, by omega, by omega, by omega, by omega, by omega, by omega⟩
                · refine vc_iload_n dX12_nextToken_242 rfl ?_
                  refine vc_goto dX12_nextToken_243 ?_
                  refine vc_putI dX12_nextToken_247 (plX12_129 _ rfl) (s_54 hB30.1.1) rfl ?_
                  have kp159 : mI (sI (sI Mq0 54 10 (mI Mq0 54 9)) 54 11 x43) 57 = mI M 57 := (kp_sI kp26 rfl)
                  have kp160 : mI (sI (sI Mq0 54 10 (mI Mq0 54 9)) 54 11 x43) 59 = mI M 59 := (kp_sI kp27 rfl)
                  have kp161 : mI (sI (sI Mq0 54 10 (mI Mq0 54 9)) 54 11 x43) 60 = mI M 60 := (kp_sI kp28 rfl)
                  have kp162 : mI (sI (sI Mq0 54 10 (mI Mq0 54 9)) 54 11 x43) 55 = mI M 55 := (kp_sI kp29 rfl)
                  have hB163 : BF fQ M (sI (sI Mq0 54 10 (mI Mq0 54 9)) 54 11 x43) := BF.w54_11 hB30 rfl
                  refine vc_aload_n dX12_nextToken_250 rfl ?_
                  refine vc_dup dX12_nextToken_251 rfl ?_
                  refine vc_getI dX12_nextToken_252 flX12_119 (s_54 hB163.1.1) rfl ?_
                  refine vc_topI (mI Mq0 54 9) rfl ?_
                  have k164 : 0 ≤ mI Mq0 54 9 ∧ mI Mq0 54 9 ≤ 300 := b54_9 (M := (sI (sI Mq0 54 10 (mI Mq0 54 9)) 54 11 x43)) hB163.1
                  refine vc_iconst dX12_nextToken_255 rfl ?_
                  refine vc_iaddE dX12_nextToken_256 (by omega) (by omega) ?_
                  refine vc_putI dX12_nextToken_257 (plX12_119 _ rfl) (s_54 hB163.1.1) rfl ?_
                  have kp165 : mI (sI (sI (sI Mq0 54 10 (mI Mq0 54 9)) 54 11 x43) 54 9 ((mI Mq0 54 9) + 1)) 57 = mI M 57 := (kp_sI kp159 rfl)
                  have kp166 : mI (sI (sI (sI Mq0 54 10 (mI Mq0 54 9)) 54 11 x43) 54 9 ((mI Mq0 54 9) + 1)) 59 = mI M 59 := (kp_sI kp160 rfl)
                  have kp167 : mI (sI (sI (sI Mq0 54 10 (mI Mq0 54 9)) 54 11 x43) 54 9 ((mI Mq0 54 9) + 1)) 60 = mI M 60 := (kp_sI kp161 rfl)
                  have kp168 : mI (sI (sI (sI Mq0 54 10 (mI Mq0 54 9)) 54 11 x43) 54 9 ((mI Mq0 54 9) + 1)) 55 = mI M 55 := (kp_sI kp162 rfl)
                  have hB169 : BF fQ M (sI (sI (sI Mq0 54 10 (mI Mq0 54 9)) 54 11 x43) 54 9 ((mI Mq0 54 9) + 1)) := BF.w54_9 hB163 rfl (by omega) (by omega)
                  refine vc_iload_n dX12_nextToken_260 rfl ?_
                  refine vc_bipush dX12_nextToken_261 rfl ?_
                  refine vc_icmp_eq dX12_nextToken_263 (fun h170 => ?_) (fun h170 => ?_)
                  · refine vc_aload_n dX12_nextToken_272 rfl ?_
                    refine vc_aload_n dX12_nextToken_273 rfl ?_
                    refine vc_getI dX12_nextToken_274 flX12_119 (s_54 hB169.1.1) rfl ?_
                    refine vc_topI ((mI Mq0 54 9) + 1) rfl ?_
                    have k171 : mI (sI (sI (sI Mq0 54 10 (mI Mq0 54 9)) 54 11 x43) 54 9 ((mI Mq0 54 9) + 1)) 54 6 = mI Mq0 54 6 := rfl
                    have k172 : mI (sI (sI (sI Mq0 54 10 (mI Mq0 54 9)) 54 11 x43) 54 9 ((mI Mq0 54 9) + 1)) 54 9 = (mI Mq0 54 9) + 1 := rfl
                    have k173 : mI (sI (sI (sI Mq0 54 10 (mI Mq0 54 9)) 54 11 x43) 54 9 ((mI Mq0 54 9) + 1)) 54 10 = mI Mq0 54 9 := rfl
                    have k174 : mI (sI (sI (sI Mq0 54 10 (mI Mq0 54 9)) 54 11 x43) 54 9 ((mI Mq0 54 9) + 1)) 54 11 = x43 := rfl
                    have k175 : mI (sI (sI (sI Mq0 54 10 (mI Mq0 54 9)) 54 11 x43) 54 9 ((mI Mq0 54 9) + 1)) 54 14 = mI Mq0 54 14 := rfl
                    have k176 : mI (sI (sI (sI Mq0 54 10 (mI Mq0 54 9)) 54 11 x43) 54 9 ((mI Mq0 54 9) + 1)) 54 15 = mI Mq0 54 15 := rfl
                    have k177 : mI (sI (sI (sI Mq0 54 10 (mI Mq0 54 9)) 54 11 x43) 54 9 ((mI Mq0 54 9) + 1)) 54 16 = mI Mq0 54 16 := rfl
                    have k178 : mI (sI (sI (sI Mq0 54 10 (mI Mq0 54 9)) 54 11 x43) 54 9 ((mI Mq0 54 9) + 1)) 54 18 = mI Mq0 54 18 := rfl
                    have k179 : mI (sI (sI (sI Mq0 54 10 (mI Mq0 54 9)) 54 11 x43) 54 9 ((mI Mq0 54 9) + 1)) 54 19 = mI Mq0 54 19 := rfl
                    have k180 : mI (sI (sI (sI Mq0 54 10 (mI Mq0 54 9)) 54 11 x43) 54 9 ((mI Mq0 54 9) + 1)) 54 20 = mI Mq0 54 20 := rfl
                    have k181 : mI (sI (sI (sI Mq0 54 10 (mI Mq0 54 9)) 54 11 x43) 54 9 ((mI Mq0 54 9) + 1)) 54 21 = mI Mq0 54 21 := rfl
                    refine vc_cVI dX12_nextToken_277 (sfX12_byteAt (M := (sI (sI (sI Mq0 54 10 (mI Mq0 54 9)) 54 11 x43) 54 9 ((mI Mq0 54 9) + 1))) hB169.1  ((mI Mq0 54 9) + 1) (by omega) (by omega)) rfl okX12_byteAt viX12_byteAt lkX12_122 (s_54 hB169.1.1) cl_12 rfl (Nat.le_of_ble_eq_true rfl) ⟨rfl, rfl⟩ (Nat.le_of_ble_eq_true rfl) (Nat.le_of_ble_eq_true rfl) (Nat.le_of_ble_eq_true rfl) ?_
                    rintro x182 _ ⟨rfl, h183, h184⟩
                    have hk59 := congrFun kp166 ((mI Mq0 54 9) + 1).toNat
                    have hk6 := b54_6 (M := (sI (sI (sI Mq0 54 10 (mI Mq0 54 9)) 54 11 x43) 54 9 ((mI Mq0 54 9) + 1))) hB169.1
                    refine vc_bipush dX12_nextToken_280 rfl ?_
                    refine vc_icmp_ne dX12_nextToken_282 (fun h185 => ?_) (fun h185 => ?_)
                    · refine vc_vret dX12_nextToken_310 rfl (Nat.le_of_ble_eq_true rfl) (Nat.le_of_ble_eq_true rfl) ?_
                      exact ⟨rfl, hB169, kp168, kp165, kp167, by omega, by omega, by omega, by omega, by omega, by omega, by omega, by omega, by omega, by omega⟩
                    · refine vc_aload_n dX12_nextToken_285 rfl ?_
                      refine vc_iload_n dX12_nextToken_286 rfl ?_
                      refine vc_bipush dX12_nextToken_287 rfl ?_
                      refine vc_icmp_ne dX12_nextToken_289 (fun h186 => by exfalso; omega) (fun h186 => ?_)
                      refine vc_iconst dX12_nextToken_292 rfl ?_
                      refine vc_goto dX12_nextToken_293 ?_
                      refine vc_putI dX12_nextToken_297 (plX12_129 _ rfl) (s_54 hB169.1.1) rfl ?_
                      have kp187 : mI (sI (sI (sI (sI Mq0 54 10 (mI Mq0 54 9)) 54 11 x43) 54 9 ((mI Mq0 54 9) + 1)) 54 11 4) 57 = mI M 57 := (kp_sI kp165 rfl)
                      have kp188 : mI (sI (sI (sI (sI Mq0 54 10 (mI Mq0 54 9)) 54 11 x43) 54 9 ((mI Mq0 54 9) + 1)) 54 11 4) 59 = mI M 59 := (kp_sI kp166 rfl)
                      have kp189 : mI (sI (sI (sI (sI Mq0 54 10 (mI Mq0 54 9)) 54 11 x43) 54 9 ((mI Mq0 54 9) + 1)) 54 11 4) 60 = mI M 60 := (kp_sI kp167 rfl)
                      have kp190 : mI (sI (sI (sI (sI Mq0 54 10 (mI Mq0 54 9)) 54 11 x43) 54 9 ((mI Mq0 54 9) + 1)) 54 11 4) 55 = mI M 55 := (kp_sI kp168 rfl)
                      have hB191 : BF fQ M (sI (sI (sI (sI Mq0 54 10 (mI Mq0 54 9)) 54 11 x43) 54 9 ((mI Mq0 54 9) + 1)) 54 11 4) := BF.w54_11 hB169 rfl
                      refine vc_aload_n dX12_nextToken_300 rfl ?_
                      refine vc_dup dX12_nextToken_301 rfl ?_
                      refine vc_getI dX12_nextToken_302 flX12_119 (s_54 hB191.1.1) rfl ?_
                      refine vc_topI ((mI Mq0 54 9) + 1) rfl ?_
                      refine vc_iconst dX12_nextToken_305 rfl ?_
                      refine vc_iaddE dX12_nextToken_306 (by omega) (by omega) ?_
                      refine vc_putI dX12_nextToken_307 (plX12_119 _ rfl) (s_54 hB191.1.1) rfl ?_
                      have kp192 : mI (sI (sI (sI (sI (sI Mq0 54 10 (mI Mq0 54 9)) 54 11 x43) 54 9 ((mI Mq0 54 9) + 1)) 54 11 4) 54 9 (((mI Mq0 54 9) + 1) + 1)) 57 = mI M 57 := (kp_sI kp187 rfl)
                      have kp193 : mI (sI (sI (sI (sI (sI Mq0 54 10 (mI Mq0 54 9)) 54 11 x43) 54 9 ((mI Mq0 54 9) + 1)) 54 11 4) 54 9 (((mI Mq0 54 9) + 1) + 1)) 59 = mI M 59 := (kp_sI kp188 rfl)
                      have kp194 : mI (sI (sI (sI (sI (sI Mq0 54 10 (mI Mq0 54 9)) 54 11 x43) 54 9 ((mI Mq0 54 9) + 1)) 54 11 4) 54 9 (((mI Mq0 54 9) + 1) + 1)) 60 = mI M 60 := (kp_sI kp189 rfl)
                      have kp195 : mI (sI (sI (sI (sI (sI Mq0 54 10 (mI Mq0 54 9)) 54 11 x43) 54 9 ((mI Mq0 54 9) + 1)) 54 11 4) 54 9 (((mI Mq0 54 9) + 1) + 1)) 55 = mI M 55 := (kp_sI kp190 rfl)
                      have hB196 : BF fQ M (sI (sI (sI (sI (sI Mq0 54 10 (mI Mq0 54 9)) 54 11 x43) 54 9 ((mI Mq0 54 9) + 1)) 54 11 4) 54 9 (((mI Mq0 54 9) + 1) + 1)) := BF.w54_9 hB191 rfl (by omega) (by omega)
                      refine vc_vret dX12_nextToken_310 rfl (Nat.le_of_ble_eq_true rfl) (Nat.le_of_ble_eq_true rfl) ?_
                      have k197 : mI (sI (sI (sI (sI (sI Mq0 54 10 (mI Mq0 54 9)) 54 11 x43) 54 9 ((mI Mq0 54 9) + 1)) 54 11 4) 54 9 (((mI Mq0 54 9) + 1) + 1)) 54 6 = mI Mq0 54 6 := rfl
                      have k198 : mI (sI (sI (sI (sI (sI Mq0 54 10 (mI Mq0 54 9)) 54 11 x43) 54 9 ((mI Mq0 54 9) + 1)) 54 11 4) 54 9 (((mI Mq0 54 9) + 1) + 1)) 54 9 = ((mI Mq0 54 9) + 1) + 1 := rfl
                      have k199 : mI (sI (sI (sI (sI (sI Mq0 54 10 (mI Mq0 54 9)) 54 11 x43) 54 9 ((mI Mq0 54 9) + 1)) 54 11 4) 54 9 (((mI Mq0 54 9) + 1) + 1)) 54 10 = mI Mq0 54 9 := rfl
                      have k200 : mI (sI (sI (sI (sI (sI Mq0 54 10 (mI Mq0 54 9)) 54 11 x43) 54 9 ((mI Mq0 54 9) + 1)) 54 11 4) 54 9 (((mI Mq0 54 9) + 1) + 1)) 54 11 = 4 := rfl
                      have k201 : mI (sI (sI (sI (sI (sI Mq0 54 10 (mI Mq0 54 9)) 54 11 x43) 54 9 ((mI Mq0 54 9) + 1)) 54 11 4) 54 9 (((mI Mq0 54 9) + 1) + 1)) 54 14 = mI Mq0 54 14 := rfl
                      have k202 : mI (sI (sI (sI (sI (sI Mq0 54 10 (mI Mq0 54 9)) 54 11 x43) 54 9 ((mI Mq0 54 9) + 1)) 54 11 4) 54 9 (((mI Mq0 54 9) + 1) + 1)) 54 15 = mI Mq0 54 15 := rfl
                      have k203 : mI (sI (sI (sI (sI (sI Mq0 54 10 (mI Mq0 54 9)) 54 11 x43) 54 9 ((mI Mq0 54 9) + 1)) 54 11 4) 54 9 (((mI Mq0 54 9) + 1) + 1)) 54 16 = mI Mq0 54 16 := rfl
                      have k204 : mI (sI (sI (sI (sI (sI Mq0 54 10 (mI Mq0 54 9)) 54 11 x43) 54 9 ((mI Mq0 54 9) + 1)) 54 11 4) 54 9 (((mI Mq0 54 9) + 1) + 1)) 54 18 = mI Mq0 54 18 := rfl
                      have k205 : mI (sI (sI (sI (sI (sI Mq0 54 10 (mI Mq0 54 9)) 54 11 x43) 54 9 ((mI Mq0 54 9) + 1)) 54 11 4) 54 9 (((mI Mq0 54 9) + 1) + 1)) 54 19 = mI Mq0 54 19 := rfl
                      have k206 : mI (sI (sI (sI (sI (sI Mq0 54 10 (mI Mq0 54 9)) 54 11 x43) 54 9 ((mI Mq0 54 9) + 1)) 54 11 4) 54 9 (((mI Mq0 54 9) + 1) + 1)) 54 20 = mI Mq0 54 20 := rfl
                      have k207 : mI (sI (sI (sI (sI (sI Mq0 54 10 (mI Mq0 54 9)) 54 11 x43) 54 9 ((mI Mq0 54 9) + 1)) 54 11 4) 54 9 (((mI Mq0 54 9) + 1) + 1)) 54 21 = mI Mq0 54 21 := rfl
                      exact ⟨rfl, hB196, kp195, kp192, kp194, by omega, by omega, by omega, by omega, by omega, by omega, by omega, by omega, by omega, by omega⟩
                  · refine vc_iload_n dX12_nextToken_266 rfl ?_
                    refine vc_bipush dX12_nextToken_267 rfl ?_
                    refine vc_icmp_ne dX12_nextToken_269 (fun h208 => ?_) (fun h208 => ?_)
                    · refine vc_vret dX12_nextToken_310 rfl (Nat.le_of_ble_eq_true rfl) (Nat.le_of_ble_eq_true rfl) ?_
                      have k209 : mI (sI (sI (sI Mq0 54 10 (mI Mq0 54 9)) 54 11 x43) 54 9 ((mI Mq0 54 9) + 1)) 54 6 = mI Mq0 54 6 := rfl
                      have k210 : mI (sI (sI (sI Mq0 54 10 (mI Mq0 54 9)) 54 11 x43) 54 9 ((mI Mq0 54 9) + 1)) 54 9 = (mI Mq0 54 9) + 1 := rfl
                      have k211 : mI (sI (sI (sI Mq0 54 10 (mI Mq0 54 9)) 54 11 x43) 54 9 ((mI Mq0 54 9) + 1)) 54 10 = mI Mq0 54 9 := rfl
                      have k212 : mI (sI (sI (sI Mq0 54 10 (mI Mq0 54 9)) 54 11 x43) 54 9 ((mI Mq0 54 9) + 1)) 54 11 = x43 := rfl
                      have k213 : mI (sI (sI (sI Mq0 54 10 (mI Mq0 54 9)) 54 11 x43) 54 9 ((mI Mq0 54 9) + 1)) 54 14 = mI Mq0 54 14 := rfl
                      have k214 : mI (sI (sI (sI Mq0 54 10 (mI Mq0 54 9)) 54 11 x43) 54 9 ((mI Mq0 54 9) + 1)) 54 15 = mI Mq0 54 15 := rfl
                      have k215 : mI (sI (sI (sI Mq0 54 10 (mI Mq0 54 9)) 54 11 x43) 54 9 ((mI Mq0 54 9) + 1)) 54 16 = mI Mq0 54 16 := rfl
                      have k216 : mI (sI (sI (sI Mq0 54 10 (mI Mq0 54 9)) 54 11 x43) 54 9 ((mI Mq0 54 9) + 1)) 54 18 = mI Mq0 54 18 := rfl
                      have k217 : mI (sI (sI (sI Mq0 54 10 (mI Mq0 54 9)) 54 11 x43) 54 9 ((mI Mq0 54 9) + 1)) 54 19 = mI Mq0 54 19 := rfl
                      have k218 : mI (sI (sI (sI Mq0 54 10 (mI Mq0 54 9)) 54 11 x43) 54 9 ((mI Mq0 54 9) + 1)) 54 20 = mI Mq0 54 20 := rfl
                      have k219 : mI (sI (sI (sI Mq0 54 10 (mI Mq0 54 9)) 54 11 x43) 54 9 ((mI Mq0 54 9) + 1)) 54 21 = mI Mq0 54 21 := rfl
                      exact ⟨rfl, hB169, kp168, kp165, kp167, by omega, by omega, by omega, by omega, by omega, by omega, by omega, by omega, by omega, by omega⟩
                    · refine vc_aload_n dX12_nextToken_272 rfl ?_
                      refine vc_aload_n dX12_nextToken_273 rfl ?_
                      refine vc_getI dX12_nextToken_274 flX12_119 (s_54 hB169.1.1) rfl ?_
                      refine vc_topI ((mI Mq0 54 9) + 1) rfl ?_
                      have k220 : mI (sI (sI (sI Mq0 54 10 (mI Mq0 54 9)) 54 11 x43) 54 9 ((mI Mq0 54 9) + 1)) 54 6 = mI Mq0 54 6 := rfl
                      have k221 : mI (sI (sI (sI Mq0 54 10 (mI Mq0 54 9)) 54 11 x43) 54 9 ((mI Mq0 54 9) + 1)) 54 9 = (mI Mq0 54 9) + 1 := rfl
                      have k222 : mI (sI (sI (sI Mq0 54 10 (mI Mq0 54 9)) 54 11 x43) 54 9 ((mI Mq0 54 9) + 1)) 54 10 = mI Mq0 54 9 := rfl
                      have k223 : mI (sI (sI (sI Mq0 54 10 (mI Mq0 54 9)) 54 11 x43) 54 9 ((mI Mq0 54 9) + 1)) 54 11 = x43 := rfl
                      have k224 : mI (sI (sI (sI Mq0 54 10 (mI Mq0 54 9)) 54 11 x43) 54 9 ((mI Mq0 54 9) + 1)) 54 14 = mI Mq0 54 14 := rfl
                      have k225 : mI (sI (sI (sI Mq0 54 10 (mI Mq0 54 9)) 54 11 x43) 54 9 ((mI Mq0 54 9) + 1)) 54 15 = mI Mq0 54 15 := rfl
                      have k226 : mI (sI (sI (sI Mq0 54 10 (mI Mq0 54 9)) 54 11 x43) 54 9 ((mI Mq0 54 9) + 1)) 54 16 = mI Mq0 54 16 := rfl
                      have k227 : mI (sI (sI (sI Mq0 54 10 (mI Mq0 54 9)) 54 11 x43) 54 9 ((mI Mq0 54 9) + 1)) 54 18 = mI Mq0 54 18 := rfl
                      have k228 : mI (sI (sI (sI Mq0 54 10 (mI Mq0 54 9)) 54 11 x43) 54 9 ((mI Mq0 54 9) + 1)) 54 19 = mI Mq0 54 19 := rfl
                      have k229 : mI (sI (sI (sI Mq0 54 10 (mI Mq0 54 9)) 54 11 x43) 54 9 ((mI Mq0 54 9) + 1)) 54 20 = mI Mq0 54 20 := rfl
                      have k230 : mI (sI (sI (sI Mq0 54 10 (mI Mq0 54 9)) 54 11 x43) 54 9 ((mI Mq0 54 9) + 1)) 54 21 = mI Mq0 54 21 := rfl
                      refine vc_cVI dX12_nextToken_277 (sfX12_byteAt (M := (sI (sI (sI Mq0 54 10 (mI Mq0 54 9)) 54 11 x43) 54 9 ((mI Mq0 54 9) + 1))) hB169.1  ((mI Mq0 54 9) + 1) (by omega) (by omega)) rfl okX12_byteAt viX12_byteAt lkX12_122 (s_54 hB169.1.1) cl_12 rfl (Nat.le_of_ble_eq_true rfl) ⟨rfl, rfl⟩ (Nat.le_of_ble_eq_true rfl) (Nat.le_of_ble_eq_true rfl) (Nat.le_of_ble_eq_true rfl) ?_
                      rintro x231 _ ⟨rfl, h232, h233⟩
                      have hk59 := congrFun kp166 ((mI Mq0 54 9) + 1).toNat
                      have hk6 := b54_6 (M := (sI (sI (sI Mq0 54 10 (mI Mq0 54 9)) 54 11 x43) 54 9 ((mI Mq0 54 9) + 1))) hB169.1
                      refine vc_bipush dX12_nextToken_280 rfl ?_
                      refine vc_icmp_ne dX12_nextToken_282 (fun h234 => ?_) (fun h234 => ?_)
                      · refine vc_vret dX12_nextToken_310 rfl (Nat.le_of_ble_eq_true rfl) (Nat.le_of_ble_eq_true rfl) ?_
                        exact ⟨rfl, hB169, kp168, kp165, kp167, by omega, by omega, by omega, by omega, by omega, by omega, by omega, by omega, by omega, by omega⟩
                      · refine vc_aload_n dX12_nextToken_285 rfl ?_
                        refine vc_iload_n dX12_nextToken_286 rfl ?_
                        refine vc_bipush dX12_nextToken_287 rfl ?_
                        refine vc_icmp_ne dX12_nextToken_289 (fun h235 => ?_) (fun h235 => by exfalso; omega)
                        refine vc_iconst dX12_nextToken_296 rfl ?_
                        refine vc_putI dX12_nextToken_297 (plX12_129 _ rfl) (s_54 hB169.1.1) rfl ?_
                        have kp236 : mI (sI (sI (sI (sI Mq0 54 10 (mI Mq0 54 9)) 54 11 x43) 54 9 ((mI Mq0 54 9) + 1)) 54 11 5) 57 = mI M 57 := (kp_sI kp165 rfl)
                        have kp237 : mI (sI (sI (sI (sI Mq0 54 10 (mI Mq0 54 9)) 54 11 x43) 54 9 ((mI Mq0 54 9) + 1)) 54 11 5) 59 = mI M 59 := (kp_sI kp166 rfl)
                        have kp238 : mI (sI (sI (sI (sI Mq0 54 10 (mI Mq0 54 9)) 54 11 x43) 54 9 ((mI Mq0 54 9) + 1)) 54 11 5) 60 = mI M 60 := (kp_sI kp167 rfl)
                        have kp239 : mI (sI (sI (sI (sI Mq0 54 10 (mI Mq0 54 9)) 54 11 x43) 54 9 ((mI Mq0 54 9) + 1)) 54 11 5) 55 = mI M 55 := (kp_sI kp168 rfl)
                        have hB240 : BF fQ M (sI (sI (sI (sI Mq0 54 10 (mI Mq0 54 9)) 54 11 x43) 54 9 ((mI Mq0 54 9) + 1)) 54 11 5) := BF.w54_11 hB169 rfl
                        refine vc_aload_n dX12_nextToken_300 rfl ?_
                        refine vc_dup dX12_nextToken_301 rfl ?_
                        refine vc_getI dX12_nextToken_302 flX12_119 (s_54 hB240.1.1) rfl ?_
                        refine vc_topI ((mI Mq0 54 9) + 1) rfl ?_
                        refine vc_iconst dX12_nextToken_305 rfl ?_
                        refine vc_iaddE dX12_nextToken_306 (by omega) (by omega) ?_
                        refine vc_putI dX12_nextToken_307 (plX12_119 _ rfl) (s_54 hB240.1.1) rfl ?_
                        have kp241 : mI (sI (sI (sI (sI (sI Mq0 54 10 (mI Mq0 54 9)) 54 11 x43) 54 9 ((mI Mq0 54 9) + 1)) 54 11 5) 54 9 (((mI Mq0 54 9) + 1) + 1)) 57 = mI M 57 := (kp_sI kp236 rfl)
                        have kp242 : mI (sI (sI (sI (sI (sI Mq0 54 10 (mI Mq0 54 9)) 54 11 x43) 54 9 ((mI Mq0 54 9) + 1)) 54 11 5) 54 9 (((mI Mq0 54 9) + 1) + 1)) 59 = mI M 59 := (kp_sI kp237 rfl)
                        have kp243 : mI (sI (sI (sI (sI (sI Mq0 54 10 (mI Mq0 54 9)) 54 11 x43) 54 9 ((mI Mq0 54 9) + 1)) 54 11 5) 54 9 (((mI Mq0 54 9) + 1) + 1)) 60 = mI M 60 := (kp_sI kp238 rfl)
                        have kp244 : mI (sI (sI (sI (sI (sI Mq0 54 10 (mI Mq0 54 9)) 54 11 x43) 54 9 ((mI Mq0 54 9) + 1)) 54 11 5) 54 9 (((mI Mq0 54 9) + 1) + 1)) 55 = mI M 55 := (kp_sI kp239 rfl)
                        have hB245 : BF fQ M (sI (sI (sI (sI (sI Mq0 54 10 (mI Mq0 54 9)) 54 11 x43) 54 9 ((mI Mq0 54 9) + 1)) 54 11 5) 54 9 (((mI Mq0 54 9) + 1) + 1)) := BF.w54_9 hB240 rfl (by omega) (by omega)
                        refine vc_vret dX12_nextToken_310 rfl (Nat.le_of_ble_eq_true rfl) (Nat.le_of_ble_eq_true rfl) ?_
                        have k246 : mI (sI (sI (sI (sI (sI Mq0 54 10 (mI Mq0 54 9)) 54 11 x43) 54 9 ((mI Mq0 54 9) + 1)) 54 11 5) 54 9 (((mI Mq0 54 9) + 1) + 1)) 54 6 = mI Mq0 54 6 := rfl
                        have k247 : mI (sI (sI (sI (sI (sI Mq0 54 10 (mI Mq0 54 9)) 54 11 x43) 54 9 ((mI Mq0 54 9) + 1)) 54 11 5) 54 9 (((mI Mq0 54 9) + 1) + 1)) 54 9 = ((mI Mq0 54 9) + 1) + 1 := rfl
                        have k248 : mI (sI (sI (sI (sI (sI Mq0 54 10 (mI Mq0 54 9)) 54 11 x43) 54 9 ((mI Mq0 54 9) + 1)) 54 11 5) 54 9 (((mI Mq0 54 9) + 1) + 1)) 54 10 = mI Mq0 54 9 := rfl
                        have k249 : mI (sI (sI (sI (sI (sI Mq0 54 10 (mI Mq0 54 9)) 54 11 x43) 54 9 ((mI Mq0 54 9) + 1)) 54 11 5) 54 9 (((mI Mq0 54 9) + 1) + 1)) 54 11 = 5 := rfl
                        have k250 : mI (sI (sI (sI (sI (sI Mq0 54 10 (mI Mq0 54 9)) 54 11 x43) 54 9 ((mI Mq0 54 9) + 1)) 54 11 5) 54 9 (((mI Mq0 54 9) + 1) + 1)) 54 14 = mI Mq0 54 14 := rfl
                        have k251 : mI (sI (sI (sI (sI (sI Mq0 54 10 (mI Mq0 54 9)) 54 11 x43) 54 9 ((mI Mq0 54 9) + 1)) 54 11 5) 54 9 (((mI Mq0 54 9) + 1) + 1)) 54 15 = mI Mq0 54 15 := rfl
                        have k252 : mI (sI (sI (sI (sI (sI Mq0 54 10 (mI Mq0 54 9)) 54 11 x43) 54 9 ((mI Mq0 54 9) + 1)) 54 11 5) 54 9 (((mI Mq0 54 9) + 1) + 1)) 54 16 = mI Mq0 54 16 := rfl
                        have k253 : mI (sI (sI (sI (sI (sI Mq0 54 10 (mI Mq0 54 9)) 54 11 x43) 54 9 ((mI Mq0 54 9) + 1)) 54 11 5) 54 9 (((mI Mq0 54 9) + 1) + 1)) 54 18 = mI Mq0 54 18 := rfl
                        have k254 : mI (sI (sI (sI (sI (sI Mq0 54 10 (mI Mq0 54 9)) 54 11 x43) 54 9 ((mI Mq0 54 9) + 1)) 54 11 5) 54 9 (((mI Mq0 54 9) + 1) + 1)) 54 19 = mI Mq0 54 19 := rfl
                        have k255 : mI (sI (sI (sI (sI (sI Mq0 54 10 (mI Mq0 54 9)) 54 11 x43) 54 9 ((mI Mq0 54 9) + 1)) 54 11 5) 54 9 (((mI Mq0 54 9) + 1) + 1)) 54 20 = mI Mq0 54 20 := rfl
                        have k256 : mI (sI (sI (sI (sI (sI Mq0 54 10 (mI Mq0 54 9)) 54 11 x43) 54 9 ((mI Mq0 54 9) + 1)) 54 11 5) 54 9 (((mI Mq0 54 9) + 1) + 1)) 54 21 = mI Mq0 54 21 := rfl
                        exact ⟨rfl, hB245, kp244, kp241, kp243, by omega, by omega, by omega, by omega, by omega, by omega, by omega, by omega, by omega, by omega⟩
              · refine vc_aload_n dX12_nextToken_158 rfl ?_
                refine vc_iconst dX12_nextToken_159 rfl ?_
                refine vc_putI dX12_nextToken_160 (plX12_129 _ rfl) (s_54 hB30.1.1) rfl ?_
                have kp257 : mI (sI (sI Mq0 54 10 (mI Mq0 54 9)) 54 11 2) 57 = mI M 57 := (kp_sI kp26 rfl)
                have kp258 : mI (sI (sI Mq0 54 10 (mI Mq0 54 9)) 54 11 2) 59 = mI M 59 := (kp_sI kp27 rfl)
                have kp259 : mI (sI (sI Mq0 54 10 (mI Mq0 54 9)) 54 11 2) 60 = mI M 60 := (kp_sI kp28 rfl)
                have kp260 : mI (sI (sI Mq0 54 10 (mI Mq0 54 9)) 54 11 2) 55 = mI M 55 := (kp_sI kp29 rfl)
                have hB261 : BF fQ M (sI (sI Mq0 54 10 (mI Mq0 54 9)) 54 11 2) := BF.w54_11 hB30 rfl
                refine vc_aload_n dX12_nextToken_163 rfl ?_
                refine vc_lconst dX12_nextToken_164 ?_
                refine vc_topL 0 rfl ?_
                refine vc_putJ dX12_nextToken_165 (plX12_142 _ rfl) (s_54 hB261.1.1) rfl ?_
                have kp262 : mI (sJ (sI (sI Mq0 54 10 (mI Mq0 54 9)) 54 11 2) 54 13 0) 57 = mI M 57 := (kp_sJ kp257)
                have kp263 : mI (sJ (sI (sI Mq0 54 10 (mI Mq0 54 9)) 54 11 2) 54 13 0) 59 = mI M 59 := (kp_sJ kp258)
                have kp264 : mI (sJ (sI (sI Mq0 54 10 (mI Mq0 54 9)) 54 11 2) 54 13 0) 60 = mI M 60 := (kp_sJ kp259)
                have kp265 : mI (sJ (sI (sI Mq0 54 10 (mI Mq0 54 9)) 54 11 2) 54 13 0) 55 = mI M 55 := (kp_sJ kp260)
                have hB266 : BF fQ M (sJ (sI (sI Mq0 54 10 (mI Mq0 54 9)) 54 11 2) 54 13 0) := BF.J hB261 _ _ _ rfl
                have lp168 : ∀ (n168 : Nat) (Mq168 : Mem) , (BF fQ M Mq168) → (mI Mq168 57 = mI M 57) → (mI Mq168 59 = mI M 59) → (mI Mq168 60 = mI M 60) → (mI Mq168 55 = mI M 55) → (mI M 54 9 ≤ mI Mq168 54 10) → (mI Mq168 54 10 < mI Mq168 54 9 ∨ (mI Mq168 54 10 = mI Mq168 54 9 ∧ mI Mq168 54 9 < mI Mq168 54 6 ∧ ((97 ≤ mI M 59 (mI Mq168 54 9).toNat ∧ mI M 59 (mI Mq168 54 9).toNat ≤ 122) ∨ (65 ≤ mI M 59 (mI Mq168 54 9).toNat ∧ mI M 59 (mI Mq168 54 9).toNat ≤ 90)))) → (mI Mq168 54 14 = mI M 54 14) → (mI Mq168 54 15 = mI M 54 15) → (mI Mq168 54 16 = mI M 54 16) → (mI Mq168 54 18 = mI M 54 18) → (mI Mq168 54 19 = mI M 54 19) → (mI Mq168 54 20 = mI M 54 20) → (mI Mq168 54 21 = mI M 54 21) → (300 - mI Mq168 54 9).toNat < n168 → VC l mdX12_nextToken 168 [some (aR 54), none] [] Mq168 0 0 (fun q N => q = none ∧ BF fQ M N ∧ mI N 55 = mI M 55 ∧ mI N 57 = mI M 57 ∧ mI N 60 = mI M 60 ∧ mI M 54 9 ≤ mI N 54 10 ∧ mI N 54 10 ≤ mI N 54 9 ∧ (mI N 54 11 = 0 ∨ mI N 54 10 < mI N 54 9) ∧ mI N 54 14 = mI M 54 14 ∧ mI N 54 15 = mI M 54 15 ∧ mI N 54 16 = mI M 54 16 ∧ mI N 54 18 = mI M 54 18 ∧ mI N 54 19 = mI M 54 19 ∧ mI N 54 20 = mI M 54 20 ∧ mI N 54 21 = mI M 54 21) := by
                  intro n168
                  induction n168 with
                  | zero => intro Mq168 hQ168 kp168_57 kp168_59 kp168_60 kp168_55 g168i0 g168i1 g168i2 g168i3 g168i4 g168i5 g168i6 g168i7 g168i8 hm168; exact absurd hm168 (Nat.not_lt_zero _)
                  | succ n168 ih168 =>
                    intro Mq168 hQ168 kp168_57 kp168_59 kp168_60 kp168_55 g168i0 g168i1 g168i2 g168i3 g168i4 g168i5 g168i6 g168i7 g168i8 hm168
                    refine vc_aload_n dX12_nextToken_168 rfl ?_
                    refine vc_aload_n dX12_nextToken_169 rfl ?_
                    refine vc_getI dX12_nextToken_170 flX12_119 (s_54 hQ168.1.1) rfl ?_
                    have k267 : 0 ≤ mI Mq168 54 9 ∧ mI Mq168 54 9 ≤ 300 := b54_9 (M := Mq168) hQ168.1
                    refine vc_cVI dX12_nextToken_173 (sfX12_byteAt (M := Mq168) hQ168.1  (mI Mq168 54 9) (by omega) (by omega)) rfl okX12_byteAt viX12_byteAt lkX12_122 (s_54 hQ168.1.1) cl_12 rfl (Nat.le_of_ble_eq_true rfl) ⟨rfl, rfl⟩ (Nat.le_of_ble_eq_true rfl) (Nat.le_of_ble_eq_true rfl) (Nat.le_of_ble_eq_true rfl) ?_
                    rintro x268 _ ⟨rfl, h269, h270⟩
                    have hk59 := congrFun kp168_59 (mI Mq168 54 9).toNat
                    have hk6 := b54_6 (M := Mq168) hQ168.1
                    refine vc_cSI dX12_nextToken_176 (sfX12_isLetterByte (M := Mq168) hQ168.1  x268 ) rfl okX12_isLetterByte stX12_isLetterByte lkX12_139 rfl (Nat.le_of_ble_eq_true rfl) ⟨rfl, rfl⟩ (Nat.le_of_ble_eq_true rfl) (Nat.le_of_ble_eq_true rfl) (Nat.le_of_ble_eq_true rfl) ?_
                    rintro x271 _ ⟨rfl, h272, h273, h274⟩
                    refine vc_if_eq dX12_nextToken_179 (fun h275 => ?_) (fun h275 => ?_)
                    · refine vc_vret dX12_nextToken_310 rfl (Nat.le_of_ble_eq_true rfl) (Nat.le_of_ble_eq_true rfl) ?_
                      exact ⟨rfl, hQ168, kp168_55, kp168_57, kp168_60, by omega, by omega, by omega, by omega, by omega, by omega, by omega, by omega, by omega, by omega⟩
                    · refine vc_aload_n dX12_nextToken_182 rfl ?_
                      refine vc_aload_n dX12_nextToken_183 rfl ?_
                      refine vc_getJ dX12_nextToken_184 flX12_142 (s_54 hQ168.1.1) rfl ?_
                      refine vc_bipush dX12_nextToken_187 rfl ?_
                      refine vc_lshr dX12_nextToken_189 ?_
                      refine vc_lconst dX12_nextToken_190 ?_
                      refine vc_topL 0 rfl ?_
                      refine vc_lif_eq dX12_nextToken_191 dX12_nextToken_192 (fun h276 => ?_) (fun h276 => ?_)
                      · refine vc_aload_n dX12_nextToken_201 rfl ?_
                        refine vc_getJ dX12_nextToken_202 flX12_142 (s_54 hQ168.1.1) rfl ?_
                        refine vc_bipush dX12_nextToken_205 rfl ?_
                        refine vc_lshl dX12_nextToken_207 ?_
                        refine vc_aload_n dX12_nextToken_208 rfl ?_
                        refine vc_aload_n dX12_nextToken_209 rfl ?_
                        refine vc_getI dX12_nextToken_210 flX12_119 (s_54 hQ168.1.1) rfl ?_
                        refine vc_cVI dX12_nextToken_213 (sfX12_byteAt (M := Mq168) hQ168.1  (mI Mq168 54 9) (by omega) (by omega)) rfl okX12_byteAt viX12_byteAt lkX12_122 (s_54 hQ168.1.1) cl_12 rfl (Nat.le_of_ble_eq_true rfl) ⟨rfl, rfl⟩ (Nat.le_of_ble_eq_true rfl) (Nat.le_of_ble_eq_true rfl) (Nat.le_of_ble_eq_true rfl) ?_
                        rintro x277 _ ⟨rfl, h278, h279⟩
                        have hk59 := congrFun kp168_59 (mI Mq168 54 9).toNat
                        have hk6 := b54_6 (M := Mq168) hQ168.1
                        refine vc_i2l dX12_nextToken_216 ?_
                        refine vc_lor dX12_nextToken_217 ?_
                        refine vc_putJ dX12_nextToken_218 (plX12_142 _ rfl) (s_54 hQ168.1.1) rfl ?_
                        have kp280 : mI (sJ Mq168 54 13 (orL (shlL (mJ Mq168 54 13) 8) x277)) 57 = mI M 57 := (kp_sJ kp168_57)
                        have kp281 : mI (sJ Mq168 54 13 (orL (shlL (mJ Mq168 54 13) 8) x277)) 59 = mI M 59 := (kp_sJ kp168_59)
                        have kp282 : mI (sJ Mq168 54 13 (orL (shlL (mJ Mq168 54 13) 8) x277)) 60 = mI M 60 := (kp_sJ kp168_60)
                        have kp283 : mI (sJ Mq168 54 13 (orL (shlL (mJ Mq168 54 13) 8) x277)) 55 = mI M 55 := (kp_sJ kp168_55)
                        have hB284 : BF fQ M (sJ Mq168 54 13 (orL (shlL (mJ Mq168 54 13) 8) x277)) := BF.J hQ168 _ _ _ rfl
                        refine vc_aload_n dX12_nextToken_221 rfl ?_
                        refine vc_dup dX12_nextToken_222 rfl ?_
                        refine vc_getI dX12_nextToken_223 flX12_119 (s_54 hB284.1.1) rfl ?_
                        refine vc_topI (mI Mq168 54 9) rfl ?_
                        have k285 : 0 ≤ mI Mq168 54 9 ∧ mI Mq168 54 9 ≤ 300 := b54_9 (M := (sJ Mq168 54 13 (orL (shlL (mJ Mq168 54 13) 8) x277))) hB284.1
                        refine vc_iconst dX12_nextToken_226 rfl ?_
                        refine vc_iaddE dX12_nextToken_227 (by omega) (by omega) ?_
                        refine vc_putI dX12_nextToken_228 (plX12_119 _ rfl) (s_54 hB284.1.1) rfl ?_
                        have kp286 : mI (sI (sJ Mq168 54 13 (orL (shlL (mJ Mq168 54 13) 8) x277)) 54 9 ((mI Mq168 54 9) + 1)) 57 = mI M 57 := (kp_sI kp280 rfl)
                        have kp287 : mI (sI (sJ Mq168 54 13 (orL (shlL (mJ Mq168 54 13) 8) x277)) 54 9 ((mI Mq168 54 9) + 1)) 59 = mI M 59 := (kp_sI kp281 rfl)
                        have kp288 : mI (sI (sJ Mq168 54 13 (orL (shlL (mJ Mq168 54 13) 8) x277)) 54 9 ((mI Mq168 54 9) + 1)) 60 = mI M 60 := (kp_sI kp282 rfl)
                        have kp289 : mI (sI (sJ Mq168 54 13 (orL (shlL (mJ Mq168 54 13) 8) x277)) 54 9 ((mI Mq168 54 9) + 1)) 55 = mI M 55 := (kp_sI kp283 rfl)
                        have hB290 : BF fQ M (sI (sJ Mq168 54 13 (orL (shlL (mJ Mq168 54 13) 8) x277)) 54 9 ((mI Mq168 54 9) + 1)) := BF.w54_9 hB284 rfl (by omega) (by omega)
                        refine vc_goto dX12_nextToken_231 ?_
                        have k291 : mI (sI (sJ Mq168 54 13 (orL (shlL (mJ Mq168 54 13) 8) x277)) 54 9 ((mI Mq168 54 9) + 1)) 54 6 = mI Mq168 54 6 := rfl
                        have k292 : mI (sI (sJ Mq168 54 13 (orL (shlL (mJ Mq168 54 13) 8) x277)) 54 9 ((mI Mq168 54 9) + 1)) 54 9 = (mI Mq168 54 9) + 1 := rfl
                        have k293 : mI (sI (sJ Mq168 54 13 (orL (shlL (mJ Mq168 54 13) 8) x277)) 54 9 ((mI Mq168 54 9) + 1)) 54 10 = mI Mq168 54 10 := rfl
                        have k294 : mI (sI (sJ Mq168 54 13 (orL (shlL (mJ Mq168 54 13) 8) x277)) 54 9 ((mI Mq168 54 9) + 1)) 54 11 = mI Mq168 54 11 := rfl
                        have k295 : mI (sI (sJ Mq168 54 13 (orL (shlL (mJ Mq168 54 13) 8) x277)) 54 9 ((mI Mq168 54 9) + 1)) 54 14 = mI Mq168 54 14 := rfl
                        have k296 : mI (sI (sJ Mq168 54 13 (orL (shlL (mJ Mq168 54 13) 8) x277)) 54 9 ((mI Mq168 54 9) + 1)) 54 15 = mI Mq168 54 15 := rfl
                        have k297 : mI (sI (sJ Mq168 54 13 (orL (shlL (mJ Mq168 54 13) 8) x277)) 54 9 ((mI Mq168 54 9) + 1)) 54 16 = mI Mq168 54 16 := rfl
                        have k298 : mI (sI (sJ Mq168 54 13 (orL (shlL (mJ Mq168 54 13) 8) x277)) 54 9 ((mI Mq168 54 9) + 1)) 54 18 = mI Mq168 54 18 := rfl
                        have k299 : mI (sI (sJ Mq168 54 13 (orL (shlL (mJ Mq168 54 13) 8) x277)) 54 9 ((mI Mq168 54 9) + 1)) 54 19 = mI Mq168 54 19 := rfl
                        have k300 : mI (sI (sJ Mq168 54 13 (orL (shlL (mJ Mq168 54 13) 8) x277)) 54 9 ((mI Mq168 54 9) + 1)) 54 20 = mI Mq168 54 20 := rfl
                        have k301 : mI (sI (sJ Mq168 54 13 (orL (shlL (mJ Mq168 54 13) 8) x277)) 54 9 ((mI Mq168 54 9) + 1)) 54 21 = mI Mq168 54 21 := rfl
                        exact ih168 (sI (sJ Mq168 54 13 (orL (shlL (mJ Mq168 54 13) 8) x277)) 54 9 ((mI Mq168 54 9) + 1)) hB290 kp286 kp287 kp288 kp289 (by omega) (by first | (left; omega) | (right; rw [ee9]; omega)) (by omega) (by omega) (by omega) (by omega) (by omega) (by omega) (by omega) (by omega)
                      · refine vc_ldc2 dX12_nextToken_195 rfl klX12_146 ?_
                        refine vc_goto dX12_nextToken_198 ?_
                        refine vc_putJ dX12_nextToken_218 (plX12_142 _ rfl) (s_54 hQ168.1.1) rfl ?_
                        have kp302 : mI (sJ Mq168 54 13 1152921504606846976) 57 = mI M 57 := (kp_sJ kp168_57)
                        have kp303 : mI (sJ Mq168 54 13 1152921504606846976) 59 = mI M 59 := (kp_sJ kp168_59)
                        have kp304 : mI (sJ Mq168 54 13 1152921504606846976) 60 = mI M 60 := (kp_sJ kp168_60)
                        have kp305 : mI (sJ Mq168 54 13 1152921504606846976) 55 = mI M 55 := (kp_sJ kp168_55)
                        have hB306 : BF fQ M (sJ Mq168 54 13 1152921504606846976) := BF.J hQ168 _ _ _ rfl
                        refine vc_aload_n dX12_nextToken_221 rfl ?_
                        refine vc_dup dX12_nextToken_222 rfl ?_
                        refine vc_getI dX12_nextToken_223 flX12_119 (s_54 hB306.1.1) rfl ?_
                        refine vc_topI (mI Mq168 54 9) rfl ?_
                        have k307 : 0 ≤ mI Mq168 54 9 ∧ mI Mq168 54 9 ≤ 300 := b54_9 (M := (sJ Mq168 54 13 1152921504606846976)) hB306.1
                        refine vc_iconst dX12_nextToken_226 rfl ?_
                        refine vc_iaddE dX12_nextToken_227 (by omega) (by omega) ?_
                        refine vc_putI dX12_nextToken_228 (plX12_119 _ rfl) (s_54 hB306.1.1) rfl ?_
                        have kp308 : mI (sI (sJ Mq168 54 13 1152921504606846976) 54 9 ((mI Mq168 54 9) + 1)) 57 = mI M 57 := (kp_sI kp302 rfl)
                        have kp309 : mI (sI (sJ Mq168 54 13 1152921504606846976) 54 9 ((mI Mq168 54 9) + 1)) 59 = mI M 59 := (kp_sI kp303 rfl)
                        have kp310 : mI (sI (sJ Mq168 54 13 1152921504606846976) 54 9 ((mI Mq168 54 9) + 1)) 60 = mI M 60 := (kp_sI kp304 rfl)
                        have kp311 : mI (sI (sJ Mq168 54 13 1152921504606846976) 54 9 ((mI Mq168 54 9) + 1)) 55 = mI M 55 := (kp_sI kp305 rfl)
                        have hB312 : BF fQ M (sI (sJ Mq168 54 13 1152921504606846976) 54 9 ((mI Mq168 54 9) + 1)) := BF.w54_9 hB306 rfl (by omega) (by omega)
                        refine vc_goto dX12_nextToken_231 ?_
                        have k313 : mI (sI (sJ Mq168 54 13 1152921504606846976) 54 9 ((mI Mq168 54 9) + 1)) 54 6 = mI Mq168 54 6 := rfl
                        have k314 : mI (sI (sJ Mq168 54 13 1152921504606846976) 54 9 ((mI Mq168 54 9) + 1)) 54 9 = (mI Mq168 54 9) + 1 := rfl
                        have k315 : mI (sI (sJ Mq168 54 13 1152921504606846976) 54 9 ((mI Mq168 54 9) + 1)) 54 10 = mI Mq168 54 10 := rfl
                        have k316 : mI (sI (sJ Mq168 54 13 1152921504606846976) 54 9 ((mI Mq168 54 9) + 1)) 54 11 = mI Mq168 54 11 := rfl
                        have k317 : mI (sI (sJ Mq168 54 13 1152921504606846976) 54 9 ((mI Mq168 54 9) + 1)) 54 14 = mI Mq168 54 14 := rfl
                        have k318 : mI (sI (sJ Mq168 54 13 1152921504606846976) 54 9 ((mI Mq168 54 9) + 1)) 54 15 = mI Mq168 54 15 := rfl
                        have k319 : mI (sI (sJ Mq168 54 13 1152921504606846976) 54 9 ((mI Mq168 54 9) + 1)) 54 16 = mI Mq168 54 16 := rfl
                        have k320 : mI (sI (sJ Mq168 54 13 1152921504606846976) 54 9 ((mI Mq168 54 9) + 1)) 54 18 = mI Mq168 54 18 := rfl
                        have k321 : mI (sI (sJ Mq168 54 13 1152921504606846976) 54 9 ((mI Mq168 54 9) + 1)) 54 19 = mI Mq168 54 19 := rfl
                        have k322 : mI (sI (sJ Mq168 54 13 1152921504606846976) 54 9 ((mI Mq168 54 9) + 1)) 54 20 = mI Mq168 54 20 := rfl
                        have k323 : mI (sI (sJ Mq168 54 13 1152921504606846976) 54 9 ((mI Mq168 54 9) + 1)) 54 21 = mI Mq168 54 21 := rfl
                        exact ih168 (sI (sJ Mq168 54 13 1152921504606846976) 54 9 ((mI Mq168 54 9) + 1)) hB312 kp308 kp309 kp310 kp311 (by omega) (by first | (left; omega) | (right; rw [ee9]; omega)) (by omega) (by omega) (by omega) (by omega) (by omega) (by omega) (by omega) (by omega)
                refine vc_less [some (aR 54), none] (lessL_keep (lessL_drop (lessL_nil))) ?_
                have k324 : mI (sJ (sI (sI Mq0 54 10 (mI Mq0 54 9)) 54 11 2) 54 13 0) 54 6 = mI Mq0 54 6 := rfl
                have k325 : mI (sJ (sI (sI Mq0 54 10 (mI Mq0 54 9)) 54 11 2) 54 13 0) 54 9 = mI Mq0 54 9 := rfl
                have k326 : mI (sJ (sI (sI Mq0 54 10 (mI Mq0 54 9)) 54 11 2) 54 13 0) 54 10 = mI Mq0 54 9 := rfl
                have k327 : mI (sJ (sI (sI Mq0 54 10 (mI Mq0 54 9)) 54 11 2) 54 13 0) 54 11 = 2 := rfl
                have k328 : mI (sJ (sI (sI Mq0 54 10 (mI Mq0 54 9)) 54 11 2) 54 13 0) 54 14 = mI Mq0 54 14 := rfl
                have k329 : mI (sJ (sI (sI Mq0 54 10 (mI Mq0 54 9)) 54 11 2) 54 13 0) 54 15 = mI Mq0 54 15 := rfl
                have k330 : mI (sJ (sI (sI Mq0 54 10 (mI Mq0 54 9)) 54 11 2) 54 13 0) 54 16 = mI Mq0 54 16 := rfl
                have k331 : mI (sJ (sI (sI Mq0 54 10 (mI Mq0 54 9)) 54 11 2) 54 13 0) 54 18 = mI Mq0 54 18 := rfl
                have k332 : mI (sJ (sI (sI Mq0 54 10 (mI Mq0 54 9)) 54 11 2) 54 13 0) 54 19 = mI Mq0 54 19 := rfl
                have k333 : mI (sJ (sI (sI Mq0 54 10 (mI Mq0 54 9)) 54 11 2) 54 13 0) 54 20 = mI Mq0 54 20 := rfl
                have k334 : mI (sJ (sI (sI Mq0 54 10 (mI Mq0 54 9)) 54 11 2) 54 13 0) 54 21 = mI Mq0 54 21 := rfl
                have ee9 : mI (sJ (sI (sI Mq0 54 10 (mI Mq0 54 9)) 54 11 2) 54 13 0) 54 9 = mI Mq0 54 9 := rfl
                have ee6 : mI (sJ (sI (sI Mq0 54 10 (mI Mq0 54 9)) 54 11 2) 54 13 0) 54 6 = mI Mq0 54 6 := rfl
                have ee10 : mI (sJ (sI (sI Mq0 54 10 (mI Mq0 54 9)) 54 11 2) 54 13 0) 54 10 = mI Mq0 54 9 := rfl
                exact lp168 _ (sJ (sI (sI Mq0 54 10 (mI Mq0 54 9)) 54 11 2) 54 13 0) hB266 kp262 kp263 kp264 kp265 (by omega) (by first | (left; omega) | (right; rw [ee9]; omega)) (by omega) (by omega) (by omega) (by omega) (by omega) (by omega) (by omega) (Nat.lt_succ_self _)
            · refine vc_aload_n dX12_nextToken_75 rfl ?_
              refine vc_iconst dX12_nextToken_76 rfl ?_
              refine vc_putI dX12_nextToken_77 (plX12_129 _ rfl) (s_54 hB30.1.1) rfl ?_
              have kp335 : mI (sI (sI Mq0 54 10 (mI Mq0 54 9)) 54 11 1) 57 = mI M 57 := (kp_sI kp26 rfl)
              have kp336 : mI (sI (sI Mq0 54 10 (mI Mq0 54 9)) 54 11 1) 59 = mI M 59 := (kp_sI kp27 rfl)
              have kp337 : mI (sI (sI Mq0 54 10 (mI Mq0 54 9)) 54 11 1) 60 = mI M 60 := (kp_sI kp28 rfl)
              have kp338 : mI (sI (sI Mq0 54 10 (mI Mq0 54 9)) 54 11 1) 55 = mI M 55 := (kp_sI kp29 rfl)
              have hB339 : BF fQ M (sI (sI Mq0 54 10 (mI Mq0 54 9)) 54 11 1) := BF.w54_11 hB30 rfl
              refine vc_aload_n dX12_nextToken_80 rfl ?_
              refine vc_iconst dX12_nextToken_81 rfl ?_
              refine vc_putI dX12_nextToken_82 (plX12_135 _ rfl) (s_54 hB339.1.1) rfl ?_
              have kp340 : mI (sI (sI (sI Mq0 54 10 (mI Mq0 54 9)) 54 11 1) 54 12 0) 57 = mI M 57 := (kp_sI kp335 rfl)
              have kp341 : mI (sI (sI (sI Mq0 54 10 (mI Mq0 54 9)) 54 11 1) 54 12 0) 59 = mI M 59 := (kp_sI kp336 rfl)
              have kp342 : mI (sI (sI (sI Mq0 54 10 (mI Mq0 54 9)) 54 11 1) 54 12 0) 60 = mI M 60 := (kp_sI kp337 rfl)
              have kp343 : mI (sI (sI (sI Mq0 54 10 (mI Mq0 54 9)) 54 11 1) 54 12 0) 55 = mI M 55 := (kp_sI kp338 rfl)
              have hB344 : BF fQ M (sI (sI (sI Mq0 54 10 (mI Mq0 54 9)) 54 11 1) 54 12 0) := BF.w54_12 hB339 rfl
              have lp85 : ∀ (n85 : Nat) (Mq85 : Mem) , (BF fQ M Mq85) → (mI Mq85 57 = mI M 57) → (mI Mq85 59 = mI M 59) → (mI Mq85 60 = mI M 60) → (mI Mq85 55 = mI M 55) → (mI M 54 9 ≤ mI Mq85 54 10) → (mI Mq85 54 10 < mI Mq85 54 9 ∨ (mI Mq85 54 10 = mI Mq85 54 9 ∧ mI Mq85 54 9 < mI Mq85 54 6 ∧ (48 ≤ mI M 59 (mI Mq85 54 9).toNat ∧ mI M 59 (mI Mq85 54 9).toNat ≤ 57))) → (mI Mq85 54 14 = mI M 54 14) → (mI Mq85 54 15 = mI M 54 15) → (mI Mq85 54 16 = mI M 54 16) → (mI Mq85 54 18 = mI M 54 18) → (mI Mq85 54 19 = mI M 54 19) → (mI Mq85 54 20 = mI M 54 20) → (mI Mq85 54 21 = mI M 54 21) → (300 - mI Mq85 54 9).toNat < n85 → VC l mdX12_nextToken 85 [some (aR 54), none] [] Mq85 0 0 (fun q N => q = none ∧ BF fQ M N ∧ mI N 55 = mI M 55 ∧ mI N 57 = mI M 57 ∧ mI N 60 = mI M 60 ∧ mI M 54 9 ≤ mI N 54 10 ∧ mI N 54 10 ≤ mI N 54 9 ∧ (mI N 54 11 = 0 ∨ mI N 54 10 < mI N 54 9) ∧ mI N 54 14 = mI M 54 14 ∧ mI N 54 15 = mI M 54 15 ∧ mI N 54 16 = mI M 54 16 ∧ mI N 54 18 = mI M 54 18 ∧ mI N 54 19 = mI M 54 19 ∧ mI N 54 20 = mI M 54 20 ∧ mI N 54 21 = mI M 54 21) := by
                intro n85
                induction n85 with
                | zero => intro Mq85 hQ85 kp85_57 kp85_59 kp85_60 kp85_55 g85i0 g85i1 g85i2 g85i3 g85i4 g85i5 g85i6 g85i7 g85i8 hm85; exact absurd hm85 (Nat.not_lt_zero _)
                | succ n85 ih85 =>
                  intro Mq85 hQ85 kp85_57 kp85_59 kp85_60 kp85_55 g85i0 g85i1 g85i2 g85i3 g85i4 g85i5 g85i6 g85i7 g85i8 hm85
                  refine vc_aload_n dX12_nextToken_85 rfl ?_
                  refine vc_aload_n dX12_nextToken_86 rfl ?_
                  refine vc_getI dX12_nextToken_87 flX12_119 (s_54 hQ85.1.1) rfl ?_
                  have k345 : 0 ≤ mI Mq85 54 9 ∧ mI Mq85 54 9 ≤ 300 := b54_9 (M := Mq85) hQ85.1
                  refine vc_cVI dX12_nextToken_90 (sfX12_byteAt (M := Mq85) hQ85.1  (mI Mq85 54 9) (by omega) (by omega)) rfl okX12_byteAt viX12_byteAt lkX12_122 (s_54 hQ85.1.1) cl_12 rfl (Nat.le_of_ble_eq_true rfl) ⟨rfl, rfl⟩ (Nat.le_of_ble_eq_true rfl) (Nat.le_of_ble_eq_true rfl) (Nat.le_of_ble_eq_true rfl) ?_
                  rintro x346 _ ⟨rfl, h347, h348⟩
                  have hk59 := congrFun kp85_59 (mI Mq85 54 9).toNat
                  have hk6 := b54_6 (M := Mq85) hQ85.1
                  refine vc_cSI dX12_nextToken_93 (sfX12_isFigure (M := Mq85) hQ85.1  x346 ) rfl okX12_isFigure stX12_isFigure lkX12_132 rfl (Nat.le_of_ble_eq_true rfl) ⟨rfl, rfl⟩ (Nat.le_of_ble_eq_true rfl) (Nat.le_of_ble_eq_true rfl) (Nat.le_of_ble_eq_true rfl) ?_
                  rintro x349 _ ⟨rfl, h350, h351, h352⟩
                  refine vc_if_eq dX12_nextToken_96 (fun h353 => ?_) (fun h353 => ?_)
                  · refine vc_vret dX12_nextToken_310 rfl (Nat.le_of_ble_eq_true rfl) (Nat.le_of_ble_eq_true rfl) ?_
                    exact ⟨rfl, hQ85, kp85_55, kp85_57, kp85_60, by omega, by omega, by omega, by omega, by omega, by omega, by omega, by omega, by omega, by omega⟩
                  · refine vc_aload_n dX12_nextToken_99 rfl ?_
                    refine vc_aload_n dX12_nextToken_100 rfl ?_
                    refine vc_getI dX12_nextToken_101 flX12_135 (s_54 hQ85.1.1) rfl ?_
                    refine vc_ldc dX12_nextToken_104 rfl kcX12_138 ?_
                    refine vc_icmp_le dX12_nextToken_106 (fun h354 => ?_) (fun h354 => ?_)
                    · refine vc_bipush dX12_nextToken_116 rfl ?_
                      refine vc_aload_n dX12_nextToken_118 rfl ?_
                      refine vc_getI dX12_nextToken_119 flX12_135 (s_54 hQ85.1.1) rfl ?_
                      refine vc_imul dX12_nextToken_122 ?_
                      refine vc_aload_n dX12_nextToken_123 rfl ?_
                      refine vc_aload_n dX12_nextToken_124 rfl ?_
                      refine vc_getI dX12_nextToken_125 flX12_119 (s_54 hQ85.1.1) rfl ?_
                      refine vc_cVI dX12_nextToken_128 (sfX12_byteAt (M := Mq85) hQ85.1  (mI Mq85 54 9) (by omega) (by omega)) rfl okX12_byteAt viX12_byteAt lkX12_122 (s_54 hQ85.1.1) cl_12 rfl (Nat.le_of_ble_eq_true rfl) ⟨rfl, rfl⟩ (Nat.le_of_ble_eq_true rfl) (Nat.le_of_ble_eq_true rfl) (Nat.le_of_ble_eq_true rfl) ?_
                      rintro x355 _ ⟨rfl, h356, h357⟩
                      have hk59 := congrFun kp85_59 (mI Mq85 54 9).toNat
                      have hk6 := b54_6 (M := Mq85) hQ85.1
                      refine vc_iadd dX12_nextToken_131 ?_
                      refine vc_bipush dX12_nextToken_132 rfl ?_
                      refine vc_isub dX12_nextToken_134 ?_
                      refine vc_putI dX12_nextToken_135 (plX12_135 _ rfl) (s_54 hQ85.1.1) rfl ?_
                      have kp358 : mI (sI Mq85 54 12 (wI ((wI ((wI (10 * (mI Mq85 54 12))) + x355)) - 48))) 57 = mI M 57 := (kp_sI kp85_57 rfl)
                      have kp359 : mI (sI Mq85 54 12 (wI ((wI ((wI (10 * (mI Mq85 54 12))) + x355)) - 48))) 59 = mI M 59 := (kp_sI kp85_59 rfl)
                      have kp360 : mI (sI Mq85 54 12 (wI ((wI ((wI (10 * (mI Mq85 54 12))) + x355)) - 48))) 60 = mI M 60 := (kp_sI kp85_60 rfl)
                      have kp361 : mI (sI Mq85 54 12 (wI ((wI ((wI (10 * (mI Mq85 54 12))) + x355)) - 48))) 55 = mI M 55 := (kp_sI kp85_55 rfl)
                      have hB362 : BF fQ M (sI Mq85 54 12 (wI ((wI ((wI (10 * (mI Mq85 54 12))) + x355)) - 48))) := BF.w54_12 hQ85 rfl
                      refine vc_aload_n dX12_nextToken_138 rfl ?_
                      refine vc_dup dX12_nextToken_139 rfl ?_
                      refine vc_getI dX12_nextToken_140 flX12_119 (s_54 hB362.1.1) rfl ?_
                      refine vc_topI (mI Mq85 54 9) rfl ?_
                      have k363 : 0 ≤ mI Mq85 54 9 ∧ mI Mq85 54 9 ≤ 300 := b54_9 (M := (sI Mq85 54 12 (wI ((wI ((wI (10 * (mI Mq85 54 12))) + x355)) - 48)))) hB362.1
                      refine vc_iconst dX12_nextToken_143 rfl ?_
                      refine vc_iaddE dX12_nextToken_144 (by omega) (by omega) ?_
                      refine vc_putI dX12_nextToken_145 (plX12_119 _ rfl) (s_54 hB362.1.1) rfl ?_
                      have kp364 : mI (sI (sI Mq85 54 12 (wI ((wI ((wI (10 * (mI Mq85 54 12))) + x355)) - 48))) 54 9 ((mI Mq85 54 9) + 1)) 57 = mI M 57 := (kp_sI kp358 rfl)
                      have kp365 : mI (sI (sI Mq85 54 12 (wI ((wI ((wI (10 * (mI Mq85 54 12))) + x355)) - 48))) 54 9 ((mI Mq85 54 9) + 1)) 59 = mI M 59 := (kp_sI kp359 rfl)
                      have kp366 : mI (sI (sI Mq85 54 12 (wI ((wI ((wI (10 * (mI Mq85 54 12))) + x355)) - 48))) 54 9 ((mI Mq85 54 9) + 1)) 60 = mI M 60 := (kp_sI kp360 rfl)
                      have kp367 : mI (sI (sI Mq85 54 12 (wI ((wI ((wI (10 * (mI Mq85 54 12))) + x355)) - 48))) 54 9 ((mI Mq85 54 9) + 1)) 55 = mI M 55 := (kp_sI kp361 rfl)
                      have hB368 : BF fQ M (sI (sI Mq85 54 12 (wI ((wI ((wI (10 * (mI Mq85 54 12))) + x355)) - 48))) 54 9 ((mI Mq85 54 9) + 1)) := BF.w54_9 hB362 rfl (by omega) (by omega)
                      refine vc_goto dX12_nextToken_148 ?_
                      have k369 : mI (sI (sI Mq85 54 12 (wI ((wI ((wI (10 * (mI Mq85 54 12))) + x355)) - 48))) 54 9 ((mI Mq85 54 9) + 1)) 54 6 = mI Mq85 54 6 := rfl
                      have k370 : mI (sI (sI Mq85 54 12 (wI ((wI ((wI (10 * (mI Mq85 54 12))) + x355)) - 48))) 54 9 ((mI Mq85 54 9) + 1)) 54 9 = (mI Mq85 54 9) + 1 := rfl
                      have k371 : mI (sI (sI Mq85 54 12 (wI ((wI ((wI (10 * (mI Mq85 54 12))) + x355)) - 48))) 54 9 ((mI Mq85 54 9) + 1)) 54 10 = mI Mq85 54 10 := rfl
                      have k372 : mI (sI (sI Mq85 54 12 (wI ((wI ((wI (10 * (mI Mq85 54 12))) + x355)) - 48))) 54 9 ((mI Mq85 54 9) + 1)) 54 11 = mI Mq85 54 11 := rfl
                      have k373 : mI (sI (sI Mq85 54 12 (wI ((wI ((wI (10 * (mI Mq85 54 12))) + x355)) - 48))) 54 9 ((mI Mq85 54 9) + 1)) 54 14 = mI Mq85 54 14 := rfl
                      have k374 : mI (sI (sI Mq85 54 12 (wI ((wI ((wI (10 * (mI Mq85 54 12))) + x355)) - 48))) 54 9 ((mI Mq85 54 9) + 1)) 54 15 = mI Mq85 54 15 := rfl
                      have k375 : mI (sI (sI Mq85 54 12 (wI ((wI ((wI (10 * (mI Mq85 54 12))) + x355)) - 48))) 54 9 ((mI Mq85 54 9) + 1)) 54 16 = mI Mq85 54 16 := rfl
                      have k376 : mI (sI (sI Mq85 54 12 (wI ((wI ((wI (10 * (mI Mq85 54 12))) + x355)) - 48))) 54 9 ((mI Mq85 54 9) + 1)) 54 18 = mI Mq85 54 18 := rfl
                      have k377 : mI (sI (sI Mq85 54 12 (wI ((wI ((wI (10 * (mI Mq85 54 12))) + x355)) - 48))) 54 9 ((mI Mq85 54 9) + 1)) 54 19 = mI Mq85 54 19 := rfl
                      have k378 : mI (sI (sI Mq85 54 12 (wI ((wI ((wI (10 * (mI Mq85 54 12))) + x355)) - 48))) 54 9 ((mI Mq85 54 9) + 1)) 54 20 = mI Mq85 54 20 := rfl
                      have k379 : mI (sI (sI Mq85 54 12 (wI ((wI ((wI (10 * (mI Mq85 54 12))) + x355)) - 48))) 54 9 ((mI Mq85 54 9) + 1)) 54 21 = mI Mq85 54 21 := rfl
                      exact ih85 (sI (sI Mq85 54 12 (wI ((wI ((wI (10 * (mI Mq85 54 12))) + x355)) - 48))) 54 9 ((mI Mq85 54 9) + 1)) hB368 kp364 kp365 kp366 kp367 (by omega) (by first | (left; omega) | (right; rw [ee9]; omega)) (by omega) (by omega) (by omega) (by omega) (by omega) (by omega) (by omega) (by omega)
                    · refine vc_aload_n dX12_nextToken_109 rfl ?_
                      refine vc_getI dX12_nextToken_110 flX12_135 (s_54 hQ85.1.1) rfl ?_
                      refine vc_goto dX12_nextToken_113 ?_
                      refine vc_putI dX12_nextToken_135 (plX12_135 _ rfl) (s_54 hQ85.1.1) rfl ?_
                      have kp380 : mI (sI Mq85 54 12 (mI Mq85 54 12)) 57 = mI M 57 := (kp_sI kp85_57 rfl)
                      have kp381 : mI (sI Mq85 54 12 (mI Mq85 54 12)) 59 = mI M 59 := (kp_sI kp85_59 rfl)
                      have kp382 : mI (sI Mq85 54 12 (mI Mq85 54 12)) 60 = mI M 60 := (kp_sI kp85_60 rfl)
                      have kp383 : mI (sI Mq85 54 12 (mI Mq85 54 12)) 55 = mI M 55 := (kp_sI kp85_55 rfl)
                      have hB384 : BF fQ M (sI Mq85 54 12 (mI Mq85 54 12)) := BF.w54_12 hQ85 rfl
                      refine vc_aload_n dX12_nextToken_138 rfl ?_
                      refine vc_dup dX12_nextToken_139 rfl ?_
                      refine vc_getI dX12_nextToken_140 flX12_119 (s_54 hB384.1.1) rfl ?_
                      refine vc_topI (mI Mq85 54 9) rfl ?_
                      have k385 : 0 ≤ mI Mq85 54 9 ∧ mI Mq85 54 9 ≤ 300 := b54_9 (M := (sI Mq85 54 12 (mI Mq85 54 12))) hB384.1
                      refine vc_iconst dX12_nextToken_143 rfl ?_
                      refine vc_iaddE dX12_nextToken_144 (by omega) (by omega) ?_
                      refine vc_putI dX12_nextToken_145 (plX12_119 _ rfl) (s_54 hB384.1.1) rfl ?_
                      have kp386 : mI (sI (sI Mq85 54 12 (mI Mq85 54 12)) 54 9 ((mI Mq85 54 9) + 1)) 57 = mI M 57 := (kp_sI kp380 rfl)
                      have kp387 : mI (sI (sI Mq85 54 12 (mI Mq85 54 12)) 54 9 ((mI Mq85 54 9) + 1)) 59 = mI M 59 := (kp_sI kp381 rfl)
                      have kp388 : mI (sI (sI Mq85 54 12 (mI Mq85 54 12)) 54 9 ((mI Mq85 54 9) + 1)) 60 = mI M 60 := (kp_sI kp382 rfl)
                      have kp389 : mI (sI (sI Mq85 54 12 (mI Mq85 54 12)) 54 9 ((mI Mq85 54 9) + 1)) 55 = mI M 55 := (kp_sI kp383 rfl)
                      have hB390 : BF fQ M (sI (sI Mq85 54 12 (mI Mq85 54 12)) 54 9 ((mI Mq85 54 9) + 1)) := BF.w54_9 hB384 rfl (by omega) (by omega)
                      refine vc_goto dX12_nextToken_148 ?_
                      have k391 : mI (sI (sI Mq85 54 12 (mI Mq85 54 12)) 54 9 ((mI Mq85 54 9) + 1)) 54 6 = mI Mq85 54 6 := rfl
                      have k392 : mI (sI (sI Mq85 54 12 (mI Mq85 54 12)) 54 9 ((mI Mq85 54 9) + 1)) 54 9 = (mI Mq85 54 9) + 1 := rfl
                      have k393 : mI (sI (sI Mq85 54 12 (mI Mq85 54 12)) 54 9 ((mI Mq85 54 9) + 1)) 54 10 = mI Mq85 54 10 := rfl
                      have k394 : mI (sI (sI Mq85 54 12 (mI Mq85 54 12)) 54 9 ((mI Mq85 54 9) + 1)) 54 11 = mI Mq85 54 11 := rfl
                      have k395 : mI (sI (sI Mq85 54 12 (mI Mq85 54 12)) 54 9 ((mI Mq85 54 9) + 1)) 54 14 = mI Mq85 54 14 := rfl
                      have k396 : mI (sI (sI Mq85 54 12 (mI Mq85 54 12)) 54 9 ((mI Mq85 54 9) + 1)) 54 15 = mI Mq85 54 15 := rfl
                      have k397 : mI (sI (sI Mq85 54 12 (mI Mq85 54 12)) 54 9 ((mI Mq85 54 9) + 1)) 54 16 = mI Mq85 54 16 := rfl
                      have k398 : mI (sI (sI Mq85 54 12 (mI Mq85 54 12)) 54 9 ((mI Mq85 54 9) + 1)) 54 18 = mI Mq85 54 18 := rfl
                      have k399 : mI (sI (sI Mq85 54 12 (mI Mq85 54 12)) 54 9 ((mI Mq85 54 9) + 1)) 54 19 = mI Mq85 54 19 := rfl
                      have k400 : mI (sI (sI Mq85 54 12 (mI Mq85 54 12)) 54 9 ((mI Mq85 54 9) + 1)) 54 20 = mI Mq85 54 20 := rfl
                      have k401 : mI (sI (sI Mq85 54 12 (mI Mq85 54 12)) 54 9 ((mI Mq85 54 9) + 1)) 54 21 = mI Mq85 54 21 := rfl
                      exact ih85 (sI (sI Mq85 54 12 (mI Mq85 54 12)) 54 9 ((mI Mq85 54 9) + 1)) hB390 kp386 kp387 kp388 kp389 (by omega) (by first | (left; omega) | (right; rw [ee9]; omega)) (by omega) (by omega) (by omega) (by omega) (by omega) (by omega) (by omega) (by omega)
              refine vc_less [some (aR 54), none] (lessL_keep (lessL_drop (lessL_nil))) ?_
              have k402 : mI (sI (sI (sI Mq0 54 10 (mI Mq0 54 9)) 54 11 1) 54 12 0) 54 6 = mI Mq0 54 6 := rfl
              have k403 : mI (sI (sI (sI Mq0 54 10 (mI Mq0 54 9)) 54 11 1) 54 12 0) 54 9 = mI Mq0 54 9 := rfl
              have k404 : mI (sI (sI (sI Mq0 54 10 (mI Mq0 54 9)) 54 11 1) 54 12 0) 54 10 = mI Mq0 54 9 := rfl
              have k405 : mI (sI (sI (sI Mq0 54 10 (mI Mq0 54 9)) 54 11 1) 54 12 0) 54 11 = 1 := rfl
              have k406 : mI (sI (sI (sI Mq0 54 10 (mI Mq0 54 9)) 54 11 1) 54 12 0) 54 14 = mI Mq0 54 14 := rfl
              have k407 : mI (sI (sI (sI Mq0 54 10 (mI Mq0 54 9)) 54 11 1) 54 12 0) 54 15 = mI Mq0 54 15 := rfl
              have k408 : mI (sI (sI (sI Mq0 54 10 (mI Mq0 54 9)) 54 11 1) 54 12 0) 54 16 = mI Mq0 54 16 := rfl
              have k409 : mI (sI (sI (sI Mq0 54 10 (mI Mq0 54 9)) 54 11 1) 54 12 0) 54 18 = mI Mq0 54 18 := rfl
              have k410 : mI (sI (sI (sI Mq0 54 10 (mI Mq0 54 9)) 54 11 1) 54 12 0) 54 19 = mI Mq0 54 19 := rfl
              have k411 : mI (sI (sI (sI Mq0 54 10 (mI Mq0 54 9)) 54 11 1) 54 12 0) 54 20 = mI Mq0 54 20 := rfl
              have k412 : mI (sI (sI (sI Mq0 54 10 (mI Mq0 54 9)) 54 11 1) 54 12 0) 54 21 = mI Mq0 54 21 := rfl
              have ee9 : mI (sI (sI (sI Mq0 54 10 (mI Mq0 54 9)) 54 11 1) 54 12 0) 54 9 = mI Mq0 54 9 := rfl
              have ee6 : mI (sI (sI (sI Mq0 54 10 (mI Mq0 54 9)) 54 11 1) 54 12 0) 54 6 = mI Mq0 54 6 := rfl
              have ee10 : mI (sI (sI (sI Mq0 54 10 (mI Mq0 54 9)) 54 11 1) 54 12 0) 54 10 = mI Mq0 54 9 := rfl
              exact lp85 _ (sI (sI (sI Mq0 54 10 (mI Mq0 54 9)) 54 11 1) 54 12 0) hB344 kp340 kp341 kp342 kp343 (by omega) (by first | (left; omega) | (right; rw [ee9]; omega)) (by omega) (by omega) (by omega) (by omega) (by omega) (by omega) (by omega) (Nat.lt_succ_self _)
          · refine vc_aload_n dX12_nextToken_60 rfl ?_
            refine vc_iconst dX12_nextToken_61 rfl ?_
            refine vc_putI dX12_nextToken_62 (plX12_129 _ rfl) (s_54 hB30.1.1) rfl ?_
            have kp413 : mI (sI (sI Mq0 54 10 (mI Mq0 54 9)) 54 11 0) 57 = mI M 57 := (kp_sI kp26 rfl)
            have kp414 : mI (sI (sI Mq0 54 10 (mI Mq0 54 9)) 54 11 0) 59 = mI M 59 := (kp_sI kp27 rfl)
            have kp415 : mI (sI (sI Mq0 54 10 (mI Mq0 54 9)) 54 11 0) 60 = mI M 60 := (kp_sI kp28 rfl)
            have kp416 : mI (sI (sI Mq0 54 10 (mI Mq0 54 9)) 54 11 0) 55 = mI M 55 := (kp_sI kp29 rfl)
            have hB417 : BF fQ M (sI (sI Mq0 54 10 (mI Mq0 54 9)) 54 11 0) := BF.w54_11 hB30 rfl
            refine vc_goto dX12_nextToken_65 ?_
            refine vc_vret dX12_nextToken_310 rfl (Nat.le_of_ble_eq_true rfl) (Nat.le_of_ble_eq_true rfl) ?_
            have k418 : mI (sI (sI Mq0 54 10 (mI Mq0 54 9)) 54 11 0) 54 6 = mI Mq0 54 6 := rfl
            have k419 : mI (sI (sI Mq0 54 10 (mI Mq0 54 9)) 54 11 0) 54 9 = mI Mq0 54 9 := rfl
            have k420 : mI (sI (sI Mq0 54 10 (mI Mq0 54 9)) 54 11 0) 54 10 = mI Mq0 54 9 := rfl
            have k421 : mI (sI (sI Mq0 54 10 (mI Mq0 54 9)) 54 11 0) 54 11 = 0 := rfl
            have k422 : mI (sI (sI Mq0 54 10 (mI Mq0 54 9)) 54 11 0) 54 14 = mI Mq0 54 14 := rfl
            have k423 : mI (sI (sI Mq0 54 10 (mI Mq0 54 9)) 54 11 0) 54 15 = mI Mq0 54 15 := rfl
            have k424 : mI (sI (sI Mq0 54 10 (mI Mq0 54 9)) 54 11 0) 54 16 = mI Mq0 54 16 := rfl
            have k425 : mI (sI (sI Mq0 54 10 (mI Mq0 54 9)) 54 11 0) 54 18 = mI Mq0 54 18 := rfl
            have k426 : mI (sI (sI Mq0 54 10 (mI Mq0 54 9)) 54 11 0) 54 19 = mI Mq0 54 19 := rfl
            have k427 : mI (sI (sI Mq0 54 10 (mI Mq0 54 9)) 54 11 0) 54 20 = mI Mq0 54 20 := rfl
            have k428 : mI (sI (sI Mq0 54 10 (mI Mq0 54 9)) 54 11 0) 54 21 = mI Mq0 54 21 := rfl
            exact ⟨rfl, hB417, kp416, kp413, kp415, by omega, by omega, by omega, by omega, by omega, by omega, by omega, by omega, by omega, by omega⟩
        · refine vc_aload_n dX12_nextToken_26 rfl ?_
          refine vc_dup dX12_nextToken_27 rfl ?_
          refine vc_getI dX12_nextToken_28 flX12_119 (s_54 hQ0.1.1) rfl ?_
          refine vc_iconst dX12_nextToken_31 rfl ?_
          refine vc_iaddE dX12_nextToken_32 (by omega) (by omega) ?_
          refine vc_putI dX12_nextToken_33 (plX12_119 _ rfl) (s_54 hQ0.1.1) rfl ?_
          have kp429 : mI (sI Mq0 54 9 ((mI Mq0 54 9) + 1)) 57 = mI M 57 := (kp_sI kp0_57 rfl)
          have kp430 : mI (sI Mq0 54 9 ((mI Mq0 54 9) + 1)) 59 = mI M 59 := (kp_sI kp0_59 rfl)
          have kp431 : mI (sI Mq0 54 9 ((mI Mq0 54 9) + 1)) 60 = mI M 60 := (kp_sI kp0_60 rfl)
          have kp432 : mI (sI Mq0 54 9 ((mI Mq0 54 9) + 1)) 55 = mI M 55 := (kp_sI kp0_55 rfl)
          have hB433 : BF fQ M (sI Mq0 54 9 ((mI Mq0 54 9) + 1)) := BF.w54_9 hQ0 rfl (by omega) (by omega)
          refine vc_goto dX12_nextToken_36 ?_
          have k434 : mI (sI Mq0 54 9 ((mI Mq0 54 9) + 1)) 54 6 = mI Mq0 54 6 := rfl
          have k435 : mI (sI Mq0 54 9 ((mI Mq0 54 9) + 1)) 54 9 = (mI Mq0 54 9) + 1 := rfl
          have k436 : mI (sI Mq0 54 9 ((mI Mq0 54 9) + 1)) 54 10 = mI Mq0 54 10 := rfl
          have k437 : mI (sI Mq0 54 9 ((mI Mq0 54 9) + 1)) 54 11 = mI Mq0 54 11 := rfl
          have k438 : mI (sI Mq0 54 9 ((mI Mq0 54 9) + 1)) 54 14 = mI Mq0 54 14 := rfl
          have k439 : mI (sI Mq0 54 9 ((mI Mq0 54 9) + 1)) 54 15 = mI Mq0 54 15 := rfl
          have k440 : mI (sI Mq0 54 9 ((mI Mq0 54 9) + 1)) 54 16 = mI Mq0 54 16 := rfl
          have k441 : mI (sI Mq0 54 9 ((mI Mq0 54 9) + 1)) 54 18 = mI Mq0 54 18 := rfl
          have k442 : mI (sI Mq0 54 9 ((mI Mq0 54 9) + 1)) 54 19 = mI Mq0 54 19 := rfl
          have k443 : mI (sI Mq0 54 9 ((mI Mq0 54 9) + 1)) 54 20 = mI Mq0 54 20 := rfl
          have k444 : mI (sI Mq0 54 9 ((mI Mq0 54 9) + 1)) 54 21 = mI Mq0 54 21 := rfl
          exact ih0 (sI Mq0 54 9 ((mI Mq0 54 9) + 1)) hB433 kp429 kp430 kp431 kp432 (by omega) (by omega) (by omega) (by omega) (by omega) (by omega) (by omega) (by omega) (by omega)
  exact lp0 _ M hB0 rfl rfl rfl rfl (by omega) (by omega) (by omega) (by omega) (by omega) (by omega) (by omega) (by omega) (Nat.lt_succ_self _)

set_option maxRecDepth 4000 in
theorem sfX12_w2 {l : Launch} {M : Mem} (hB : Box M)  (x : Int) (y : Int)  : Call l mdX12_w2 [aI x, aI y] M (fun q N => ∃ r : Int, q = some (aL r) ∧ M = N) := by
  have hB0 : BF fQ M M := BF.start hB
  refine Call.of [some (aI x), some (aI y)] rfl (Nat.le_of_ble_eq_true rfl) rfl ?_
  refine vc_ok (fun hoM hoS hoL => ?_)
  have hr0 : -2147483648 ≤ x ∧ x < 2147483648 := hoL 0 _ rfl
  have hr1 : -2147483648 ≤ y ∧ y < 2147483648 := hoL 1 _ rfl
  refine vc_iload_n dX12_w2_0 rfl ?_
  refine vc_i2l dX12_w2_1 ?_
  refine vc_bipush dX12_w2_2 rfl ?_
  refine vc_lshl dX12_w2_4 ?_
  refine vc_iload_n dX12_w2_5 rfl ?_
  refine vc_i2l dX12_w2_6 ?_
  refine vc_lor dX12_w2_7 ?_
  refine vc_lret dX12_w2_8 rfl (Nat.le_of_ble_eq_true rfl) (Nat.le_of_ble_eq_true rfl) ?_
  exact ⟨_, rfl, rfl⟩

set_option maxRecDepth 4000 in
theorem sfX12_w3 {l : Launch} {M : Mem} (hB : Box M)  (x : Int) (y : Int) (z : Int)  : Call l mdX12_w3 [aI x, aI y, aI z] M (fun q N => ∃ r : Int, q = some (aL r) ∧ M = N) := by
  have hB0 : BF fQ M M := BF.start hB
  refine Call.of [some (aI x), some (aI y), some (aI z)] rfl (Nat.le_of_ble_eq_true rfl) rfl ?_
  refine vc_ok (fun hoM hoS hoL => ?_)
  have hr0 : -2147483648 ≤ x ∧ x < 2147483648 := hoL 0 _ rfl
  have hr1 : -2147483648 ≤ y ∧ y < 2147483648 := hoL 1 _ rfl
  have hr2 : -2147483648 ≤ z ∧ z < 2147483648 := hoL 2 _ rfl
  refine vc_iload_n dX12_w3_0 rfl ?_
  refine vc_iload_n dX12_w3_1 rfl ?_
  refine vc_cSL dX12_w3_2 (sfX12_w2 (M := M) hB0.1  x y ) rfl okX12_w2 stX12_w2 lkX12_151 rfl (Nat.le_of_ble_eq_true rfl) ⟨rfl, rfl⟩ (Nat.le_of_ble_eq_true rfl) (Nat.le_of_ble_eq_true rfl) (Nat.le_of_ble_eq_true rfl) ?_
  rintro x1 _ rfl
  refine vc_bipush dX12_w3_5 rfl ?_
  refine vc_lshl dX12_w3_7 ?_
  refine vc_iload_n dX12_w3_8 rfl ?_
  refine vc_i2l dX12_w3_9 ?_
  refine vc_lor dX12_w3_10 ?_
  refine vc_lret dX12_w3_11 rfl (Nat.le_of_ble_eq_true rfl) (Nat.le_of_ble_eq_true rfl) ?_
  exact ⟨_, rfl, rfl⟩

set_option maxRecDepth 4000 in
theorem sfX12_w4 {l : Launch} {M : Mem} (hB : Box M)  (x : Int) (y : Int) (z : Int) (t : Int)  : Call l mdX12_w4 [aI x, aI y, aI z, aI t] M (fun q N => ∃ r : Int, q = some (aL r) ∧ M = N) := by
  have hB0 : BF fQ M M := BF.start hB
  refine Call.of [some (aI x), some (aI y), some (aI z), some (aI t)] rfl (Nat.le_of_ble_eq_true rfl) rfl ?_
  refine vc_ok (fun hoM hoS hoL => ?_)
  have hr0 : -2147483648 ≤ x ∧ x < 2147483648 := hoL 0 _ rfl
  have hr1 : -2147483648 ≤ y ∧ y < 2147483648 := hoL 1 _ rfl
  have hr2 : -2147483648 ≤ z ∧ z < 2147483648 := hoL 2 _ rfl
  have hr3 : -2147483648 ≤ t ∧ t < 2147483648 := hoL 3 _ rfl
  refine vc_iload_n dX12_w4_0 rfl ?_
  refine vc_iload_n dX12_w4_1 rfl ?_
  refine vc_iload_n dX12_w4_2 rfl ?_
  refine vc_cSL dX12_w4_3 (sfX12_w3 (M := M) hB0.1  x y z ) rfl okX12_w3 stX12_w3 lkX12_155 rfl (Nat.le_of_ble_eq_true rfl) ⟨rfl, rfl⟩ (Nat.le_of_ble_eq_true rfl) (Nat.le_of_ble_eq_true rfl) (Nat.le_of_ble_eq_true rfl) ?_
  rintro x1 _ rfl
  refine vc_bipush dX12_w4_6 rfl ?_
  refine vc_lshl dX12_w4_8 ?_
  refine vc_iload_n dX12_w4_9 rfl ?_
  refine vc_i2l dX12_w4_10 ?_
  refine vc_lor dX12_w4_11 ?_
  refine vc_lret dX12_w4_12 rfl (Nat.le_of_ble_eq_true rfl) (Nat.le_of_ble_eq_true rfl) ?_
  exact ⟨_, rfl, rfl⟩

set_option maxRecDepth 4000 in
theorem sfX12_w5 {l : Launch} {M : Mem} (hB : Box M)  (x : Int) (y : Int) (z : Int) (t : Int) (u : Int)  : Call l mdX12_w5 [aI x, aI y, aI z, aI t, aI u] M (fun q N => ∃ r : Int, q = some (aL r) ∧ M = N) := by
  have hB0 : BF fQ M M := BF.start hB
  refine Call.of [some (aI x), some (aI y), some (aI z), some (aI t), some (aI u)] rfl (Nat.le_of_ble_eq_true rfl) rfl ?_
  refine vc_ok (fun hoM hoS hoL => ?_)
  have hr0 : -2147483648 ≤ x ∧ x < 2147483648 := hoL 0 _ rfl
  have hr1 : -2147483648 ≤ y ∧ y < 2147483648 := hoL 1 _ rfl
  have hr2 : -2147483648 ≤ z ∧ z < 2147483648 := hoL 2 _ rfl
  have hr3 : -2147483648 ≤ t ∧ t < 2147483648 := hoL 3 _ rfl
  have hr4 : -2147483648 ≤ u ∧ u < 2147483648 := hoL 4 _ rfl
  refine vc_iload_n dX12_w5_0 rfl ?_
  refine vc_iload_n dX12_w5_1 rfl ?_
  refine vc_iload_n dX12_w5_2 rfl ?_
  refine vc_iload_n dX12_w5_3 rfl ?_
  refine vc_cSL dX12_w5_4 (sfX12_w4 (M := M) hB0.1  x y z t ) rfl okX12_w4 stX12_w4 lkX12_159 rfl (Nat.le_of_ble_eq_true rfl) ⟨rfl, rfl⟩ (Nat.le_of_ble_eq_true rfl) (Nat.le_of_ble_eq_true rfl) (Nat.le_of_ble_eq_true rfl) ?_
  rintro x1 _ rfl
  refine vc_bipush dX12_w5_7 rfl ?_
  refine vc_lshl dX12_w5_9 ?_
  refine vc_iload dX12_w5_10 rfl ?_
  refine vc_i2l dX12_w5_12 ?_
  refine vc_lor dX12_w5_13 ?_
  refine vc_lret dX12_w5_14 rfl (Nat.le_of_ble_eq_true rfl) (Nat.le_of_ble_eq_true rfl) ?_
  exact ⟨_, rfl, rfl⟩

set_option maxRecDepth 4000 in
theorem sfX12_w6 {l : Launch} {M : Mem} (hB : Box M)  (x : Int) (y : Int) (z : Int) (t : Int) (u : Int) (v : Int)  : Call l mdX12_w6 [aI x, aI y, aI z, aI t, aI u, aI v] M (fun q N => ∃ r : Int, q = some (aL r) ∧ M = N) := by
  have hB0 : BF fQ M M := BF.start hB
  refine Call.of [some (aI x), some (aI y), some (aI z), some (aI t), some (aI u), some (aI v)] rfl (Nat.le_of_ble_eq_true rfl) rfl ?_
  refine vc_ok (fun hoM hoS hoL => ?_)
  have hr0 : -2147483648 ≤ x ∧ x < 2147483648 := hoL 0 _ rfl
  have hr1 : -2147483648 ≤ y ∧ y < 2147483648 := hoL 1 _ rfl
  have hr2 : -2147483648 ≤ z ∧ z < 2147483648 := hoL 2 _ rfl
  have hr3 : -2147483648 ≤ t ∧ t < 2147483648 := hoL 3 _ rfl
  have hr4 : -2147483648 ≤ u ∧ u < 2147483648 := hoL 4 _ rfl
  have hr5 : -2147483648 ≤ v ∧ v < 2147483648 := hoL 5 _ rfl
  refine vc_iload_n dX12_w6_0 rfl ?_
  refine vc_iload_n dX12_w6_1 rfl ?_
  refine vc_iload_n dX12_w6_2 rfl ?_
  refine vc_iload_n dX12_w6_3 rfl ?_
  refine vc_iload dX12_w6_4 rfl ?_
  refine vc_cSL dX12_w6_6 (sfX12_w5 (M := M) hB0.1  x y z t u ) rfl okX12_w5 stX12_w5 lkX12_163 rfl (Nat.le_of_ble_eq_true rfl) ⟨rfl, rfl⟩ (Nat.le_of_ble_eq_true rfl) (Nat.le_of_ble_eq_true rfl) (Nat.le_of_ble_eq_true rfl) ?_
  rintro x1 _ rfl
  refine vc_bipush dX12_w6_9 rfl ?_
  refine vc_lshl dX12_w6_11 ?_
  refine vc_iload dX12_w6_12 rfl ?_
  refine vc_i2l dX12_w6_14 ?_
  refine vc_lor dX12_w6_15 ?_
  refine vc_lret dX12_w6_16 rfl (Nat.le_of_ble_eq_true rfl) (Nat.le_of_ble_eq_true rfl) ?_
  exact ⟨_, rfl, rfl⟩

set_option maxRecDepth 4000 in
theorem sfX12_isWord {l : Launch} {M : Mem} (hB : Box M)  (w : Int)  : Call l mdX12_isWord [aR 54, aL w] M (fun q N => ∃ r : Int, q = some (aI r) ∧ M = N ∧ 0 ≤ r ∧ r ≤ 1 ∧ (r = 0 ∨ mI M 54 11 = 2)) := by
  have hB0 : BF fQ M M := BF.start hB
  refine Call.of [some (aR 54), some (aL w), none] rfl (Nat.le_of_ble_eq_true rfl) rfl ?_
  refine vc_aload_n dX12_isWord_0 rfl ?_
  refine vc_getI dX12_isWord_1 flX12_129 (s_54 hB0.1.1) rfl ?_
  refine vc_iconst dX12_isWord_4 rfl ?_
  refine vc_icmp_ne dX12_isWord_5 (fun h1 => ?_) (fun h1 => ?_)
  · refine vc_iconst dX12_isWord_21 rfl ?_
    refine vc_zret dX12_isWord_22 rfl (by first | decide | omega) (Nat.le_of_ble_eq_true rfl) (Nat.le_of_ble_eq_true rfl) ?_
    exact ⟨_, rfl, rfl, by omega, by omega, by omega⟩
  · refine vc_aload_n dX12_isWord_8 rfl ?_
    refine vc_getJ dX12_isWord_9 flX12_142 (s_54 hB0.1.1) rfl ?_
    refine vc_lload_n dX12_isWord_12 rfl ?_
    refine vc_lif_ne dX12_isWord_13 dX12_isWord_14 (fun h2 => ?_) (fun h2 => ?_)
    · refine vc_iconst dX12_isWord_21 rfl ?_
      refine vc_zret dX12_isWord_22 rfl (by first | decide | omega) (Nat.le_of_ble_eq_true rfl) (Nat.le_of_ble_eq_true rfl) ?_
      exact ⟨_, rfl, rfl, by omega, by omega, by omega⟩
    · refine vc_iconst dX12_isWord_17 rfl ?_
      refine vc_goto dX12_isWord_18 ?_
      refine vc_zret dX12_isWord_22 rfl (by first | decide | omega) (Nat.le_of_ble_eq_true rfl) (Nat.le_of_ble_eq_true rfl) ?_
      exact ⟨_, rfl, rfl, by omega, by omega, by omega⟩

set_option maxRecDepth 4000 in
theorem sfX12_emit {l : Launch} {M : Mem} (hB : Box M)  (o : Int) (v : Int) (p0 : mI M 54 14 = 873 * mI M 55 5) (p1 : mI M 54 15 ≤ 299) : Call l mdX12_emit [aR 54, aI o, aI v] M (fun q N => q = none ∧ BF fT M N ∧ mI N 55 = mI M 55 ∧ mI N 60 = mI M 60 ∧ mI N 54 15 = mI M 54 15 + 1 ∧ mI N 57 = mI (sI (sI M 57 (mI M 54 14 + 265 + 2 * mI M 54 15).toNat o) 57 (mI M 54 14 + 265 + 2 * mI M 54 15 + 1).toNat v) 57 ∧ mI N 54 9 = mI M 54 9 ∧ mI N 54 10 = mI M 54 10 ∧ mI N 54 11 = mI M 54 11 ∧ mI N 54 14 = mI M 54 14 ∧ mI N 54 16 = mI M 54 16 ∧ mI N 54 18 = mI M 54 18 ∧ mI N 54 19 = mI M 54 19 ∧ mI N 54 20 = mI M 54 20 ∧ mI N 54 21 = mI M 54 21) := by
  have hB0 : BF fT M M := BF.start hB
  refine Call.of [some (aR 54), some (aI o), some (aI v)] rfl (Nat.le_of_ble_eq_true rfl) rfl ?_
  refine vc_ok (fun hoM hoS hoL => ?_)
  have hr1 : -2147483648 ≤ o ∧ o < 2147483648 := hoL 1 _ rfl
  have hr2 : -2147483648 ≤ v ∧ v < 2147483648 := hoL 2 _ rfl
  have hk5 := b55_5 hB
  refine vc_aload_n dX12_emit_0 rfl ?_
  refine vc_getR dX12_emit_1 flX12_16 (s_54 hB0.1.1) rfl (r_54_2 hB0.1.1) ?_
  refine vc_aload_n dX12_emit_4 rfl ?_
  refine vc_getI dX12_emit_5 flX12_167 (s_54 hB0.1.1) rfl ?_
  have k1 : 0 ≤ mI M 54 14 ∧ mI M 54 14 ≤ 2619 := b54_14 (M := M) hB0.1
  refine vc_sipush dX12_emit_8 rfl ?_
  refine vc_iaddE dX12_emit_11 (by omega) (by omega) ?_
  refine vc_iconst dX12_emit_12 rfl ?_
  refine vc_aload_n dX12_emit_13 rfl ?_
  refine vc_getI dX12_emit_14 flX12_170 (s_54 hB0.1.1) rfl ?_
  have k2 : 0 ≤ mI M 54 15 ∧ mI M 54 15 ≤ 300 := b54_15 (M := M) hB0.1
  refine vc_imulE dX12_emit_17 (by omega) (by omega) ?_
  refine vc_iaddE dX12_emit_18 (by omega) (by omega) ?_
  refine vc_iload_n dX12_emit_19 rfl ?_
  refine vc_iastore dX12_emit_20 (s_57 hB0.1.1) (by omega) (by omega) ?_
  have kp3 : mI (sI M 57 ((((mI M 54 14) + 265) + (2 * (mI M 54 15))).toNat) o) 60 = mI M 60 := (kp_sI rfl rfl)
  have kp4 : mI (sI M 57 ((((mI M 54 14) + 265) + (2 * (mI M 54 15))).toNat) o) 55 = mI M 55 := (kp_sI rfl rfl)
  have hB5 : BF fT M (sI M 57 ((((mI M 54 14) + 265) + (2 * (mI M 54 15))).toNat) o) := BF.x57 (x := ((mI M 54 14) + 265) + (2 * (mI M 54 15))) hB0 (by first | omega | (show 873 * mI M 55 5 ≤ _; omega))
  refine vc_aload_n dX12_emit_21 rfl ?_
  refine vc_getR dX12_emit_22 flX12_16 (s_54 hB5.1.1) rfl (r_54_2 hB5.1.1) ?_
  refine vc_aload_n dX12_emit_25 rfl ?_
  refine vc_getI dX12_emit_26 flX12_167 (s_54 hB5.1.1) rfl ?_
  refine vc_topI (mI M 54 14) rfl ?_
  have k6 : 0 ≤ mI M 54 14 ∧ mI M 54 14 ≤ 2619 := b54_14 (M := (sI M 57 ((((mI M 54 14) + 265) + (2 * (mI M 54 15))).toNat) o)) hB5.1
  refine vc_sipush dX12_emit_29 rfl ?_
  refine vc_iaddE dX12_emit_32 (by omega) (by omega) ?_
  refine vc_iconst dX12_emit_33 rfl ?_
  refine vc_aload_n dX12_emit_34 rfl ?_
  refine vc_getI dX12_emit_35 flX12_170 (s_54 hB5.1.1) rfl ?_
  refine vc_topI (mI M 54 15) rfl ?_
  have k7 : 0 ≤ mI M 54 15 ∧ mI M 54 15 ≤ 300 := b54_15 (M := (sI M 57 ((((mI M 54 14) + 265) + (2 * (mI M 54 15))).toNat) o)) hB5.1
  refine vc_imulE dX12_emit_38 (by omega) (by omega) ?_
  refine vc_iaddE dX12_emit_39 (by omega) (by omega) ?_
  refine vc_iconst dX12_emit_40 rfl ?_
  refine vc_iaddE dX12_emit_41 (by omega) (by omega) ?_
  refine vc_iload_n dX12_emit_42 rfl ?_
  refine vc_iastore dX12_emit_43 (s_57 hB5.1.1) (by omega) (by omega) ?_
  have kp8 : mI (sI (sI M 57 ((((mI M 54 14) + 265) + (2 * (mI M 54 15))).toNat) o) 57 (((((mI M 54 14) + 265) + (2 * (mI M 54 15))) + 1).toNat) v) 60 = mI M 60 := (kp_sI kp3 rfl)
  have kp9 : mI (sI (sI M 57 ((((mI M 54 14) + 265) + (2 * (mI M 54 15))).toNat) o) 57 (((((mI M 54 14) + 265) + (2 * (mI M 54 15))) + 1).toNat) v) 55 = mI M 55 := (kp_sI kp4 rfl)
  have hB10 : BF fT M (sI (sI M 57 ((((mI M 54 14) + 265) + (2 * (mI M 54 15))).toNat) o) 57 (((((mI M 54 14) + 265) + (2 * (mI M 54 15))) + 1).toNat) v) := BF.x57 (x := (((mI M 54 14) + 265) + (2 * (mI M 54 15))) + 1) hB5 (by first | omega | (show 873 * mI M 55 5 ≤ _; omega))
  refine vc_aload_n dX12_emit_44 rfl ?_
  refine vc_dup dX12_emit_45 rfl ?_
  refine vc_getI dX12_emit_46 flX12_170 (s_54 hB10.1.1) rfl ?_
  refine vc_topI (mI M 54 15) rfl ?_
  have k11 : 0 ≤ mI M 54 15 ∧ mI M 54 15 ≤ 300 := b54_15 (M := (sI (sI M 57 ((((mI M 54 14) + 265) + (2 * (mI M 54 15))).toNat) o) 57 (((((mI M 54 14) + 265) + (2 * (mI M 54 15))) + 1).toNat) v)) hB10.1
  refine vc_iconst dX12_emit_49 rfl ?_
  refine vc_iaddE dX12_emit_50 (by omega) (by omega) ?_
  refine vc_putI dX12_emit_51 (plX12_170 _ rfl) (s_54 hB10.1.1) rfl ?_
  have kp12 : mI (sI (sI (sI M 57 ((((mI M 54 14) + 265) + (2 * (mI M 54 15))).toNat) o) 57 (((((mI M 54 14) + 265) + (2 * (mI M 54 15))) + 1).toNat) v) 54 15 ((mI M 54 15) + 1)) 60 = mI M 60 := (kp_sI kp8 rfl)
  have kp13 : mI (sI (sI (sI M 57 ((((mI M 54 14) + 265) + (2 * (mI M 54 15))).toNat) o) 57 (((((mI M 54 14) + 265) + (2 * (mI M 54 15))) + 1).toNat) v) 54 15 ((mI M 54 15) + 1)) 55 = mI M 55 := (kp_sI kp9 rfl)
  have hB14 : BF fT M (sI (sI (sI M 57 ((((mI M 54 14) + 265) + (2 * (mI M 54 15))).toNat) o) 57 (((((mI M 54 14) + 265) + (2 * (mI M 54 15))) + 1).toNat) v) 54 15 ((mI M 54 15) + 1)) := BF.w54_15 hB10 rfl (by omega) (by omega)
  refine vc_vret dX12_emit_54 rfl (Nat.le_of_ble_eq_true rfl) (Nat.le_of_ble_eq_true rfl) ?_
  have k15 : mI (sI (sI (sI M 57 ((((mI M 54 14) + 265) + (2 * (mI M 54 15))).toNat) o) 57 (((((mI M 54 14) + 265) + (2 * (mI M 54 15))) + 1).toNat) v) 54 15 ((mI M 54 15) + 1)) 54 9 = mI M 54 9 := rfl
  have k16 : mI (sI (sI (sI M 57 ((((mI M 54 14) + 265) + (2 * (mI M 54 15))).toNat) o) 57 (((((mI M 54 14) + 265) + (2 * (mI M 54 15))) + 1).toNat) v) 54 15 ((mI M 54 15) + 1)) 54 10 = mI M 54 10 := rfl
  have k17 : mI (sI (sI (sI M 57 ((((mI M 54 14) + 265) + (2 * (mI M 54 15))).toNat) o) 57 (((((mI M 54 14) + 265) + (2 * (mI M 54 15))) + 1).toNat) v) 54 15 ((mI M 54 15) + 1)) 54 11 = mI M 54 11 := rfl
  have k18 : mI (sI (sI (sI M 57 ((((mI M 54 14) + 265) + (2 * (mI M 54 15))).toNat) o) 57 (((((mI M 54 14) + 265) + (2 * (mI M 54 15))) + 1).toNat) v) 54 15 ((mI M 54 15) + 1)) 54 14 = mI M 54 14 := rfl
  have k19 : mI (sI (sI (sI M 57 ((((mI M 54 14) + 265) + (2 * (mI M 54 15))).toNat) o) 57 (((((mI M 54 14) + 265) + (2 * (mI M 54 15))) + 1).toNat) v) 54 15 ((mI M 54 15) + 1)) 54 15 = (mI M 54 15) + 1 := rfl
  have k20 : mI (sI (sI (sI M 57 ((((mI M 54 14) + 265) + (2 * (mI M 54 15))).toNat) o) 57 (((((mI M 54 14) + 265) + (2 * (mI M 54 15))) + 1).toNat) v) 54 15 ((mI M 54 15) + 1)) 54 16 = mI M 54 16 := rfl
  have k21 : mI (sI (sI (sI M 57 ((((mI M 54 14) + 265) + (2 * (mI M 54 15))).toNat) o) 57 (((((mI M 54 14) + 265) + (2 * (mI M 54 15))) + 1).toNat) v) 54 15 ((mI M 54 15) + 1)) 54 18 = mI M 54 18 := rfl
  have k22 : mI (sI (sI (sI M 57 ((((mI M 54 14) + 265) + (2 * (mI M 54 15))).toNat) o) 57 (((((mI M 54 14) + 265) + (2 * (mI M 54 15))) + 1).toNat) v) 54 15 ((mI M 54 15) + 1)) 54 19 = mI M 54 19 := rfl
  have k23 : mI (sI (sI (sI M 57 ((((mI M 54 14) + 265) + (2 * (mI M 54 15))).toNat) o) 57 (((((mI M 54 14) + 265) + (2 * (mI M 54 15))) + 1).toNat) v) 54 15 ((mI M 54 15) + 1)) 54 20 = mI M 54 20 := rfl
  have k24 : mI (sI (sI (sI M 57 ((((mI M 54 14) + 265) + (2 * (mI M 54 15))).toNat) o) 57 (((((mI M 54 14) + 265) + (2 * (mI M 54 15))) + 1).toNat) v) 54 15 ((mI M 54 15) + 1)) 54 21 = mI M 54 21 := rfl
  exact ⟨rfl, hB14, kp13, kp12, by omega, by exact kp_sI rfl rfl, by omega, by omega, by omega, by omega, by omega, by omega, by omega, by omega, by omega⟩

set_option maxRecDepth 4000 in
theorem sfX12_nameOf {l : Launch} {M : Mem} (hB : Box M)    : Call l mdX12_nameOf [aR 54] M (fun q N => ∃ r : Int, q = some (aI r) ∧ M = N ∧ (-1) ≤ r ∧ r ≤ 8 ∧ (r < 0 ∨ mI M 54 11 = 2)) := by
  have hB0 : BF fQ M M := BF.start hB
  refine Call.of [some (aR 54)] rfl (Nat.le_of_ble_eq_true rfl) rfl ?_
  refine vc_aload_n dX12_nameOf_0 rfl ?_
  refine vc_getI dX12_nameOf_1 flX12_129 (s_54 hB0.1.1) rfl ?_
  refine vc_iconst dX12_nameOf_4 rfl ?_
  refine vc_icmp_eq dX12_nameOf_5 (fun h1 => ?_) (fun h1 => ?_)
  · refine vc_aload_n dX12_nameOf_10 rfl ?_
    refine vc_getJ dX12_nameOf_11 flX12_142 (s_54 hB0.1.1) rfl ?_
    refine vc_bipush dX12_nameOf_14 rfl ?_
    refine vc_bipush dX12_nameOf_16 rfl ?_
    refine vc_bipush dX12_nameOf_18 rfl ?_
    refine vc_cSL dX12_nameOf_20 (sfX12_w3 (M := M) hB0.1  119 104 111 ) rfl okX12_w3 stX12_w3 lkX12_155 rfl (Nat.le_of_ble_eq_true rfl) ⟨rfl, rfl⟩ (Nat.le_of_ble_eq_true rfl) (Nat.le_of_ble_eq_true rfl) (Nat.le_of_ble_eq_true rfl) ?_
    rintro x2 _ rfl
    refine vc_lif_ne dX12_nameOf_23 dX12_nameOf_24 (fun h3 => ?_) (fun h3 => ?_)
    · refine vc_aload_n dX12_nameOf_29 rfl ?_
      refine vc_getJ dX12_nameOf_30 flX12_142 (s_54 hB0.1.1) rfl ?_
      refine vc_bipush dX12_nameOf_33 rfl ?_
      refine vc_bipush dX12_nameOf_35 rfl ?_
      refine vc_bipush dX12_nameOf_37 rfl ?_
      refine vc_bipush dX12_nameOf_39 rfl ?_
      refine vc_cSL dX12_nameOf_41 (sfX12_w4 (M := M) hB0.1  104 101 114 101 ) rfl okX12_w4 stX12_w4 lkX12_159 rfl (Nat.le_of_ble_eq_true rfl) ⟨rfl, rfl⟩ (Nat.le_of_ble_eq_true rfl) (Nat.le_of_ble_eq_true rfl) (Nat.le_of_ble_eq_true rfl) ?_
      rintro x4 _ rfl
      refine vc_lif_ne dX12_nameOf_44 dX12_nameOf_45 (fun h5 => ?_) (fun h5 => ?_)
      · refine vc_aload_n dX12_nameOf_50 rfl ?_
        refine vc_getJ dX12_nameOf_51 flX12_142 (s_54 hB0.1.1) rfl ?_
        refine vc_bipush dX12_nameOf_54 rfl ?_
        refine vc_bipush dX12_nameOf_56 rfl ?_
        refine vc_bipush dX12_nameOf_58 rfl ?_
        refine vc_bipush dX12_nameOf_60 rfl ?_
        refine vc_bipush dX12_nameOf_62 rfl ?_
        refine vc_cSL dX12_nameOf_64 (sfX12_w5 (M := M) hB0.1  97 115 107 101 100 ) rfl okX12_w5 stX12_w5 lkX12_163 rfl (Nat.le_of_ble_eq_true rfl) ⟨rfl, rfl⟩ (Nat.le_of_ble_eq_true rfl) (Nat.le_of_ble_eq_true rfl) (Nat.le_of_ble_eq_true rfl) ?_
        rintro x6 _ rfl
        refine vc_lif_ne dX12_nameOf_67 dX12_nameOf_68 (fun h7 => ?_) (fun h7 => ?_)
        · refine vc_aload_n dX12_nameOf_73 rfl ?_
          refine vc_getJ dX12_nameOf_74 flX12_142 (s_54 hB0.1.1) rfl ?_
          refine vc_bipush dX12_nameOf_77 rfl ?_
          refine vc_bipush dX12_nameOf_79 rfl ?_
          refine vc_bipush dX12_nameOf_81 rfl ?_
          refine vc_bipush dX12_nameOf_83 rfl ?_
          refine vc_bipush dX12_nameOf_85 rfl ?_
          refine vc_cSL dX12_nameOf_87 (sfX12_w5 (M := M) hB0.1  116 117 114 110 115 ) rfl okX12_w5 stX12_w5 lkX12_163 rfl (Nat.le_of_ble_eq_true rfl) ⟨rfl, rfl⟩ (Nat.le_of_ble_eq_true rfl) (Nat.le_of_ble_eq_true rfl) (Nat.le_of_ble_eq_true rfl) ?_
          rintro x8 _ rfl
          refine vc_lif_ne dX12_nameOf_90 dX12_nameOf_91 (fun h9 => ?_) (fun h9 => ?_)
          · refine vc_aload_n dX12_nameOf_96 rfl ?_
            refine vc_getJ dX12_nameOf_97 flX12_142 (s_54 hB0.1.1) rfl ?_
            refine vc_bipush dX12_nameOf_100 rfl ?_
            refine vc_bipush dX12_nameOf_102 rfl ?_
            refine vc_bipush dX12_nameOf_104 rfl ?_
            refine vc_bipush dX12_nameOf_106 rfl ?_
            refine vc_cSL dX12_nameOf_108 (sfX12_w4 (M := M) hB0.1  102 97 99 101 ) rfl okX12_w4 stX12_w4 lkX12_159 rfl (Nat.le_of_ble_eq_true rfl) ⟨rfl, rfl⟩ (Nat.le_of_ble_eq_true rfl) (Nat.le_of_ble_eq_true rfl) (Nat.le_of_ble_eq_true rfl) ?_
            rintro x10 _ rfl
            refine vc_lif_ne dX12_nameOf_111 dX12_nameOf_112 (fun h11 => ?_) (fun h11 => ?_)
            · refine vc_aload_n dX12_nameOf_117 rfl ?_
              refine vc_getJ dX12_nameOf_118 flX12_142 (s_54 hB0.1.1) rfl ?_
              refine vc_bipush dX12_nameOf_121 rfl ?_
              refine vc_bipush dX12_nameOf_123 rfl ?_
              refine vc_bipush dX12_nameOf_125 rfl ?_
              refine vc_bipush dX12_nameOf_127 rfl ?_
              refine vc_cSL dX12_nameOf_129 (sfX12_w4 (M := M) hB0.1  116 111 108 100 ) rfl okX12_w4 stX12_w4 lkX12_159 rfl (Nat.le_of_ble_eq_true rfl) ⟨rfl, rfl⟩ (Nat.le_of_ble_eq_true rfl) (Nat.le_of_ble_eq_true rfl) (Nat.le_of_ble_eq_true rfl) ?_
              rintro x12 _ rfl
              refine vc_lif_ne dX12_nameOf_132 dX12_nameOf_133 (fun h13 => ?_) (fun h13 => ?_)
              · refine vc_aload_n dX12_nameOf_138 rfl ?_
                refine vc_getJ dX12_nameOf_139 flX12_142 (s_54 hB0.1.1) rfl ?_
                refine vc_bipush dX12_nameOf_142 rfl ?_
                refine vc_bipush dX12_nameOf_144 rfl ?_
                refine vc_bipush dX12_nameOf_146 rfl ?_
                refine vc_bipush dX12_nameOf_148 rfl ?_
                refine vc_bipush dX12_nameOf_150 rfl ?_
                refine vc_bipush dX12_nameOf_152 rfl ?_
                refine vc_cSL dX12_nameOf_154 (sfX12_w6 (M := M) hB0.1  110 97 114 114 111 119 ) rfl okX12_w6 stX12_w6 lkX12_173 rfl (Nat.le_of_ble_eq_true rfl) ⟨rfl, rfl⟩ (Nat.le_of_ble_eq_true rfl) (Nat.le_of_ble_eq_true rfl) (Nat.le_of_ble_eq_true rfl) ?_
                rintro x14 _ rfl
                refine vc_lif_ne dX12_nameOf_157 dX12_nameOf_158 (fun h15 => ?_) (fun h15 => ?_)
                · refine vc_aload_n dX12_nameOf_164 rfl ?_
                  refine vc_getJ dX12_nameOf_165 flX12_142 (s_54 hB0.1.1) rfl ?_
                  refine vc_bipush dX12_nameOf_168 rfl ?_
                  refine vc_bipush dX12_nameOf_170 rfl ?_
                  refine vc_bipush dX12_nameOf_172 rfl ?_
                  refine vc_bipush dX12_nameOf_174 rfl ?_
                  refine vc_bipush dX12_nameOf_176 rfl ?_
                  refine vc_cSL dX12_nameOf_178 (sfX12_w5 (M := M) hB0.1  115 105 103 104 116 ) rfl okX12_w5 stX12_w5 lkX12_163 rfl (Nat.le_of_ble_eq_true rfl) ⟨rfl, rfl⟩ (Nat.le_of_ble_eq_true rfl) (Nat.le_of_ble_eq_true rfl) (Nat.le_of_ble_eq_true rfl) ?_
                  rintro x16 _ rfl
                  refine vc_lif_ne dX12_nameOf_181 dX12_nameOf_182 (fun h17 => ?_) (fun h17 => ?_)
                  · refine vc_aload_n dX12_nameOf_190 rfl ?_
                    refine vc_getJ dX12_nameOf_191 flX12_142 (s_54 hB0.1.1) rfl ?_
                    refine vc_bipush dX12_nameOf_194 rfl ?_
                    refine vc_bipush dX12_nameOf_196 rfl ?_
                    refine vc_bipush dX12_nameOf_198 rfl ?_
                    refine vc_cSL dX12_nameOf_200 (sfX12_w3 (M := M) hB0.1  119 97 121 ) rfl okX12_w3 stX12_w3 lkX12_155 rfl (Nat.le_of_ble_eq_true rfl) ⟨rfl, rfl⟩ (Nat.le_of_ble_eq_true rfl) (Nat.le_of_ble_eq_true rfl) (Nat.le_of_ble_eq_true rfl) ?_
                    rintro x18 _ rfl
                    refine vc_lif_ne dX12_nameOf_203 dX12_nameOf_204 (fun h19 => ?_) (fun h19 => ?_)
                    · refine vc_iconst dX12_nameOf_212 rfl ?_
                      refine vc_iret dX12_nameOf_213 rfl (Nat.le_of_ble_eq_true rfl) (Nat.le_of_ble_eq_true rfl) ?_
                      exact ⟨_, rfl, rfl, by omega, by omega, by omega⟩
                    · refine vc_bipush dX12_nameOf_207 rfl ?_
                      refine vc_goto dX12_nameOf_209 ?_
                      refine vc_iret dX12_nameOf_213 rfl (Nat.le_of_ble_eq_true rfl) (Nat.le_of_ble_eq_true rfl) ?_
                      exact ⟨_, rfl, rfl, by omega, by omega, by omega⟩
                  · refine vc_bipush dX12_nameOf_185 rfl ?_
                    refine vc_goto dX12_nameOf_187 ?_
                    refine vc_iret dX12_nameOf_213 rfl (Nat.le_of_ble_eq_true rfl) (Nat.le_of_ble_eq_true rfl) ?_
                    exact ⟨_, rfl, rfl, by omega, by omega, by omega⟩
                · refine vc_bipush dX12_nameOf_161 rfl ?_
                  refine vc_iret dX12_nameOf_163 rfl (Nat.le_of_ble_eq_true rfl) (Nat.le_of_ble_eq_true rfl) ?_
                  exact ⟨_, rfl, rfl, by omega, by omega, by omega⟩
              · refine vc_iconst dX12_nameOf_136 rfl ?_
                refine vc_iret dX12_nameOf_137 rfl (Nat.le_of_ble_eq_true rfl) (Nat.le_of_ble_eq_true rfl) ?_
                exact ⟨_, rfl, rfl, by omega, by omega, by omega⟩
            · refine vc_iconst dX12_nameOf_115 rfl ?_
              refine vc_iret dX12_nameOf_116 rfl (Nat.le_of_ble_eq_true rfl) (Nat.le_of_ble_eq_true rfl) ?_
              exact ⟨_, rfl, rfl, by omega, by omega, by omega⟩
          · refine vc_iconst dX12_nameOf_94 rfl ?_
            refine vc_iret dX12_nameOf_95 rfl (Nat.le_of_ble_eq_true rfl) (Nat.le_of_ble_eq_true rfl) ?_
            exact ⟨_, rfl, rfl, by omega, by omega, by omega⟩
        · refine vc_iconst dX12_nameOf_71 rfl ?_
          refine vc_iret dX12_nameOf_72 rfl (Nat.le_of_ble_eq_true rfl) (Nat.le_of_ble_eq_true rfl) ?_
          exact ⟨_, rfl, rfl, by omega, by omega, by omega⟩
      · refine vc_iconst dX12_nameOf_48 rfl ?_
        refine vc_iret dX12_nameOf_49 rfl (Nat.le_of_ble_eq_true rfl) (Nat.le_of_ble_eq_true rfl) ?_
        exact ⟨_, rfl, rfl, by omega, by omega, by omega⟩
    · refine vc_iconst dX12_nameOf_27 rfl ?_
      refine vc_iret dX12_nameOf_28 rfl (Nat.le_of_ble_eq_true rfl) (Nat.le_of_ble_eq_true rfl) ?_
      exact ⟨_, rfl, rfl, by omega, by omega, by omega⟩
  · refine vc_iconst dX12_nameOf_8 rfl ?_
    refine vc_iret dX12_nameOf_9 rfl (Nat.le_of_ble_eq_true rfl) (Nat.le_of_ble_eq_true rfl) ?_
    exact ⟨_, rfl, rfl, by omega, by omega, by omega⟩

set_option maxRecDepth 4000 in
theorem sfX12_isOf {l : Launch} {M : Mem} (hB : Box M)  (n : Int)  : Call l mdX12_isOf [aR 54, aI n] M (fun q N => ∃ r : Int, q = some (aI r) ∧ M = N ∧ 0 ≤ r ∧ r ≤ 1) := by
  have hB0 : BF fQ M M := BF.start hB
  refine Call.of [some (aR 54), some (aI n)] rfl (Nat.le_of_ble_eq_true rfl) rfl ?_
  refine vc_ok (fun hoM hoS hoL => ?_)
  have hr1 : -2147483648 ≤ n ∧ n < 2147483648 := hoL 1 _ rfl
  refine vc_iload_n dX12_isOf_0 rfl ?_
  refine vc_iconst dX12_isOf_1 rfl ?_
  refine vc_icmp_le dX12_isOf_2 (fun h1 => ?_) (fun h1 => ?_)
  · refine vc_iload_n dX12_isOf_21 rfl ?_
    refine vc_iconst dX12_isOf_22 rfl ?_
    refine vc_icmp_le dX12_isOf_23 (fun h2 => ?_) (fun h2 => ?_)
    · refine vc_aload_n dX12_isOf_42 rfl ?_
      refine vc_getI dX12_isOf_43 flX12_177 (s_54 hB0.1.1) rfl ?_
      refine vc_iconst dX12_isOf_46 rfl ?_
      refine vc_icmp_eq dX12_isOf_47 (fun h3 => ?_) (fun h3 => ?_)
      · refine vc_iconst dX12_isOf_54 rfl ?_
        refine vc_zret dX12_isOf_55 rfl (by first | decide | omega) (Nat.le_of_ble_eq_true rfl) (Nat.le_of_ble_eq_true rfl) ?_
        exact ⟨_, rfl, rfl, by omega, by omega⟩
      · refine vc_iconst dX12_isOf_50 rfl ?_
        refine vc_goto dX12_isOf_51 ?_
        refine vc_zret dX12_isOf_55 rfl (by first | decide | omega) (Nat.le_of_ble_eq_true rfl) (Nat.le_of_ble_eq_true rfl) ?_
        exact ⟨_, rfl, rfl, by omega, by omega⟩
    · refine vc_aload_n dX12_isOf_26 rfl ?_
      refine vc_getI dX12_isOf_27 flX12_177 (s_54 hB0.1.1) rfl ?_
      refine vc_iconst dX12_isOf_30 rfl ?_
      refine vc_icmp_gt dX12_isOf_31 (fun h4 => ?_) (fun h4 => ?_)
      · refine vc_iconst dX12_isOf_38 rfl ?_
        refine vc_goto dX12_isOf_39 ?_
        refine vc_zret dX12_isOf_55 rfl (by first | decide | omega) (Nat.le_of_ble_eq_true rfl) (Nat.le_of_ble_eq_true rfl) ?_
        exact ⟨_, rfl, rfl, by omega, by omega⟩
      · refine vc_iconst dX12_isOf_34 rfl ?_
        refine vc_goto dX12_isOf_35 ?_
        refine vc_zret dX12_isOf_55 rfl (by first | decide | omega) (Nat.le_of_ble_eq_true rfl) (Nat.le_of_ble_eq_true rfl) ?_
        exact ⟨_, rfl, rfl, by omega, by omega⟩
  · refine vc_aload_n dX12_isOf_5 rfl ?_
    refine vc_getI dX12_isOf_6 flX12_177 (s_54 hB0.1.1) rfl ?_
    refine vc_iconst dX12_isOf_9 rfl ?_
    refine vc_icmp_ne dX12_isOf_10 (fun h5 => ?_) (fun h5 => ?_)
    · refine vc_iconst dX12_isOf_17 rfl ?_
      refine vc_goto dX12_isOf_18 ?_
      refine vc_zret dX12_isOf_55 rfl (by first | decide | omega) (Nat.le_of_ble_eq_true rfl) (Nat.le_of_ble_eq_true rfl) ?_
      exact ⟨_, rfl, rfl, by omega, by omega⟩
    · refine vc_iconst dX12_isOf_13 rfl ?_
      refine vc_goto dX12_isOf_14 ?_
      refine vc_zret dX12_isOf_55 rfl (by first | decide | omega) (Nat.le_of_ble_eq_true rfl) (Nat.le_of_ble_eq_true rfl) ?_
      exact ⟨_, rfl, rfl, by omega, by omega⟩

set_option maxRecDepth 4000 in
theorem sfX12_rank {l : Launch} {M : Mem} (hB : Box M)  (o : Int)  : Call l mdX12_rank [aI o] M (fun q N => ∃ r : Int, q = some (aI r) ∧ M = N ∧ 0 ≤ r ∧ r ≤ 3 ∧ r = rkI o) := by
  have hB0 : BF fQ M M := BF.start hB
  refine Call.of [some (aI o)] rfl (Nat.le_of_ble_eq_true rfl) rfl ?_
  refine vc_ok (fun hoM hoS hoL => ?_)
  have hr0 : -2147483648 ≤ o ∧ o < 2147483648 := hoL 0 _ rfl
  refine vc_iload_n dX12_rank_0 rfl ?_
  refine vc_bipush dX12_rank_1 rfl ?_
  refine vc_icmp_lt dX12_rank_3 (fun h1 => ?_) (fun h1 => ?_)
  · refine vc_iload_n dX12_rank_10 rfl ?_
    refine vc_iconst dX12_rank_11 rfl ?_
    refine vc_icmp_ne dX12_rank_12 (fun h2 => ?_) (fun h2 => ?_)
    · refine vc_iload_n dX12_rank_19 rfl ?_
      refine vc_iconst dX12_rank_20 rfl ?_
      refine vc_icmp_lt dX12_rank_21 (fun h3 => ?_) (fun h3 => ?_)
      · refine vc_iconst dX12_rank_28 rfl ?_
        refine vc_iret dX12_rank_29 rfl (Nat.le_of_ble_eq_true rfl) (Nat.le_of_ble_eq_true rfl) ?_
        refine ⟨_, rfl, rfl, by omega, by omega, ?_⟩
        unfold rkI; repeat' split
        all_goals omega
      · refine vc_iconst dX12_rank_24 rfl ?_
        refine vc_goto dX12_rank_25 ?_
        refine vc_iret dX12_rank_29 rfl (Nat.le_of_ble_eq_true rfl) (Nat.le_of_ble_eq_true rfl) ?_
        refine ⟨_, rfl, rfl, by omega, by omega, ?_⟩
        unfold rkI; repeat' split
        all_goals omega
    · refine vc_iconst dX12_rank_15 rfl ?_
      refine vc_goto dX12_rank_16 ?_
      refine vc_iret dX12_rank_29 rfl (Nat.le_of_ble_eq_true rfl) (Nat.le_of_ble_eq_true rfl) ?_
      refine ⟨_, rfl, rfl, by omega, by omega, ?_⟩
      unfold rkI; repeat' split
      all_goals omega
  · refine vc_iconst dX12_rank_6 rfl ?_
    refine vc_goto dX12_rank_7 ?_
    refine vc_iret dX12_rank_29 rfl (Nat.le_of_ble_eq_true rfl) (Nat.le_of_ble_eq_true rfl) ?_
    refine ⟨_, rfl, rfl, by omega, by omega, ?_⟩
    unfold rkI; repeat' split
    all_goals omega

theorem fr_emit {A B N : Mem} {p o v : Int} {t : Int} (h0 : t ≤ p) (ht : 0 ≤ p) (h : mI N 57 = mI (sI (sI B 57 p.toNat o) 57 (p + 1).toNat v) 57) (hb : ∀ j : Nat, (j : Int) < t → mI B 57 j = mI A 57 j) : ∀ j : Nat, (j : Int) < t → mI N 57 j = mI A 57 j := fun j hj => by
  rw [h, mI_sI, if_neg (fun e => by omega), mI_sI, if_neg (fun e => by omega)]
  exact hb j hj
set_option maxRecDepth 4000 in
theorem sfX12_settlePile {l : Launch} {M : Mem} (hB : Box M) (S : Int) (e : Int) (p0 : 1 ≤ e) (p1 : e ≤ 3) (p2 : PI M S) (p3 : mI M 54 14 = 873 * mI M 55 5) (p4 : mI M 54 20 = 1) : Call l mdX12_settlePile [aR 54, aI e] M (fun q N => q = none ∧ BF fT M N ∧ mI N 55 = mI M 55 ∧ mI N 60 = mI M 60 ∧ PI N S ∧ mI N 54 9 = mI M 54 9 ∧ mI N 54 10 = mI M 54 10 ∧ mI N 54 11 = mI M 54 11 ∧ mI N 54 14 = mI M 54 14 ∧ mI N 54 16 = mI M 54 16 ∧ mI N 54 20 = mI M 54 20 ∧ mI N 54 21 = mI M 54 21 ∧ mI N 54 18 ≤ mI M 54 18 ∧ (∀ j : Nat, (j : Int) < mI M 54 14 + 265 + 2 * S → mI N 57 j = mI M 57 j) ∧ (mI N 54 18 = 0 ∨ rkI (mI N 60 (mI N 54 18 - 1).toNat) < e) ∧ (∀ q : Nat, mI N 54 18 ≤ q → (q : Int) < mI M 54 18 → e ≤ rkI (mI M 60 q))) := by
  have hB0 : BF fT M M := BF.start hB
  refine Call.of [some (aR 54), some (aI e)] rfl (Nat.le_of_ble_eq_true rfl) rfl ?_
  have lp0 : ∀ (n0 : Nat) (Mq0 : Mem) , (BF fT M Mq0) → (mI Mq0 60 = mI M 60) → (mI Mq0 55 = mI M 55) → (PI Mq0 S) → (mI Mq0 54 9 = mI M 54 9) → (mI Mq0 54 10 = mI M 54 10) → (mI Mq0 54 11 = mI M 54 11) → (mI Mq0 54 14 = mI M 54 14) → (mI Mq0 54 16 = mI M 54 16) → (mI Mq0 54 21 = mI M 54 21) → (mI Mq0 54 20 = 1) → (mI Mq0 54 18 ≤ mI M 54 18) → (∀ j : Nat, (j : Int) < mI M 54 14 + 265 + 2 * S → mI Mq0 57 j = mI M 57 j) → (∀ q : Nat, mI Mq0 54 18 ≤ q → (q : Int) < mI M 54 18 → e ≤ rkI (mI M 60 q)) → (mI Mq0 54 18).toNat < n0 → VC l mdX12_settlePile 0 [some (aR 54), some (aI e)] [] Mq0 0 0 (fun q N => q = none ∧ BF fT M N ∧ mI N 55 = mI M 55 ∧ mI N 60 = mI M 60 ∧ PI N S ∧ mI N 54 9 = mI M 54 9 ∧ mI N 54 10 = mI M 54 10 ∧ mI N 54 11 = mI M 54 11 ∧ mI N 54 14 = mI M 54 14 ∧ mI N 54 16 = mI M 54 16 ∧ mI N 54 20 = mI M 54 20 ∧ mI N 54 21 = mI M 54 21 ∧ mI N 54 18 ≤ mI M 54 18 ∧ (∀ j : Nat, (j : Int) < mI M 54 14 + 265 + 2 * S → mI N 57 j = mI M 57 j) ∧ (mI N 54 18 = 0 ∨ rkI (mI N 60 (mI N 54 18 - 1).toNat) < e) ∧ (∀ q : Nat, mI N 54 18 ≤ q → (q : Int) < mI M 54 18 → e ≤ rkI (mI M 60 q))) := by
    intro n0
    induction n0 with
    | zero => intro Mq0 hQ0 kp0_60 kp0_55 g0i0 g0i1 g0i2 g0i3 g0i4 g0i5 g0i6 g0i7 g0i8 g0i9 g0i10 hm0; exact absurd hm0 (Nat.not_lt_zero _)
    | succ n0 ih0 =>
      intro Mq0 hQ0 kp0_60 kp0_55 g0i0 g0i1 g0i2 g0i3 g0i4 g0i5 g0i6 g0i7 g0i8 g0i9 g0i10 hm0
      refine vc_aload_n dX12_settlePile_0 rfl ?_
      refine vc_getI dX12_settlePile_1 flX12_180 (s_54 hQ0.1.1) rfl ?_
      have k1 : 0 ≤ mI Mq0 54 18 ∧ mI Mq0 54 18 ≤ 160 := b54_18 (M := Mq0) hQ0.1
      refine vc_if_le dX12_settlePile_4 (fun h2 => ?_) (fun h2 => ?_)
      · refine vc_vret dX12_settlePile_75 rfl (Nat.le_of_ble_eq_true rfl) (Nat.le_of_ble_eq_true rfl) ?_
        exact ⟨rfl, hQ0, kp0_55, kp0_60, by exact g0i0, by omega, by omega, by omega, by omega, by omega, by omega, by omega, by omega, by exact g0i9, by first | (left; omega) | (right; omega), by exact g0i10⟩
      · refine vc_aload_n dX12_settlePile_7 rfl ?_
        refine vc_getR dX12_settlePile_8 flX12_32 (s_54 hQ0.1.1) rfl (r_54_17 hQ0.1.1) ?_
        refine vc_aload_n dX12_settlePile_11 rfl ?_
        refine vc_getI dX12_settlePile_12 flX12_180 (s_54 hQ0.1.1) rfl ?_
        refine vc_iconst dX12_settlePile_15 rfl ?_
        refine vc_isubE dX12_settlePile_16 (by omega) (by omega) ?_
        refine vc_iaload dX12_settlePile_17 (s_60 hQ0.1.1) (by omega) (by omega) ?_
        have k3 : mI Mq0 60 (((mI Mq0 54 18) - 1).toNat) = mI M 60 (((mI Mq0 54 18) - 1).toNat) := congrFun kp0_60 (((mI Mq0 54 18) - 1).toNat)
        refine vc_cSI dX12_settlePile_18 (sfX12_rank (M := Mq0) hQ0.1  (mI Mq0 60 (((mI Mq0 54 18) - 1).toNat)) ) rfl okX12_rank stX12_rank lkX12_183 rfl (Nat.le_of_ble_eq_true rfl) ⟨rfl, rfl⟩ (Nat.le_of_ble_eq_true rfl) (Nat.le_of_ble_eq_true rfl) (Nat.le_of_ble_eq_true rfl) ?_
        rintro x4 _ ⟨rfl, h5, h6, h7⟩
        have hrkE := h7
        refine vc_iload_n dX12_settlePile_21 rfl ?_
        refine vc_icmp_lt dX12_settlePile_22 (fun h8 => ?_) (fun h8 => ?_)
        · refine vc_vret dX12_settlePile_75 rfl (Nat.le_of_ble_eq_true rfl) (Nat.le_of_ble_eq_true rfl) ?_
          exact ⟨rfl, hQ0, kp0_55, kp0_60, by exact g0i0, by omega, by omega, by omega, by omega, by omega, by omega, by omega, by omega, by exact g0i9, by first | (left; omega) | (right; omega), by exact g0i10⟩
        · refine vc_aload_n dX12_settlePile_25 rfl ?_
          refine vc_dup dX12_settlePile_26 rfl ?_
          refine vc_getI dX12_settlePile_27 flX12_180 (s_54 hQ0.1.1) rfl ?_
          refine vc_iconst dX12_settlePile_30 rfl ?_
          refine vc_isubE dX12_settlePile_31 (by omega) (by omega) ?_
          refine vc_putI dX12_settlePile_32 (plX12_180 _ rfl) (s_54 hQ0.1.1) rfl ?_
          have kp9 : mI (sI Mq0 54 18 ((mI Mq0 54 18) - 1)) 60 = mI M 60 := (kp_sI kp0_60 rfl)
          have kp10 : mI (sI Mq0 54 18 ((mI Mq0 54 18) - 1)) 55 = mI M 55 := (kp_sI kp0_55 rfl)
          have hB11 : BF fT M (sI Mq0 54 18 ((mI Mq0 54 18) - 1)) := BF.w54_18 hQ0 rfl (by omega) (by omega)
          refine vc_aload_n dX12_settlePile_35 rfl ?_
          refine vc_aload_n dX12_settlePile_36 rfl ?_
          refine vc_getR dX12_settlePile_37 flX12_32 (s_54 hB11.1.1) rfl (r_54_17 hB11.1.1) ?_
          refine vc_aload_n dX12_settlePile_40 rfl ?_
          refine vc_getI dX12_settlePile_41 flX12_180 (s_54 hB11.1.1) rfl ?_
          refine vc_topI ((mI Mq0 54 18) - 1) rfl ?_
          refine vc_iaload dX12_settlePile_44 (s_60 hB11.1.1) (by omega) (by omega) ?_
          refine vc_topI (mI Mq0 60 (((mI Mq0 54 18) - 1).toNat)) rfl ?_
          refine vc_iconst dX12_settlePile_45 rfl ?_
          have k13 : mI (sI Mq0 54 18 ((mI Mq0 54 18) - 1)) 54 9 = mI Mq0 54 9 := rfl
          have k14 : mI (sI Mq0 54 18 ((mI Mq0 54 18) - 1)) 54 10 = mI Mq0 54 10 := rfl
          have k15 : mI (sI Mq0 54 18 ((mI Mq0 54 18) - 1)) 54 11 = mI Mq0 54 11 := rfl
          have k16 : mI (sI Mq0 54 18 ((mI Mq0 54 18) - 1)) 54 14 = mI Mq0 54 14 := rfl
          have k17 : mI (sI Mq0 54 18 ((mI Mq0 54 18) - 1)) 54 15 = mI Mq0 54 15 := rfl
          have k18 : mI (sI Mq0 54 18 ((mI Mq0 54 18) - 1)) 54 16 = mI Mq0 54 16 := rfl
          have k19 : mI (sI Mq0 54 18 ((mI Mq0 54 18) - 1)) 54 18 = (mI Mq0 54 18) - 1 := rfl
          have k20 : mI (sI Mq0 54 18 ((mI Mq0 54 18) - 1)) 54 19 = mI Mq0 54 19 := rfl
          have k21 : mI (sI Mq0 54 18 ((mI Mq0 54 18) - 1)) 54 20 = mI Mq0 54 20 := rfl
          have k22 : mI (sI Mq0 54 18 ((mI Mq0 54 18) - 1)) 54 21 = mI Mq0 54 21 := rfl
          have hz5 := congrFun kp10 5
          have hle := g0i0.len
          have htp := g0i0.top (by omega)
          have hrk6 : mI Mq0 60 (mI Mq0 54 18 - 1).toNat ≤ 6 := by
            have hr := hrkE
            unfold rkI at hr
            repeat' split at hr
            all_goals omega
          refine vc_cVU dX12_settlePile_46 (sfX12_emit (M := (sI Mq0 54 18 ((mI Mq0 54 18) - 1))) hB11.1  (mI Mq0 60 (((mI Mq0 54 18) - 1).toNat)) 0 (by omega) (by omega)) rfl okX12_emit viX12_emit lkX12_186 (s_54 hB11.1.1) cl_12 rfl (Nat.le_of_ble_eq_true rfl) ⟨rfl, rfl⟩ (Nat.le_of_ble_eq_true rfl) (Nat.le_of_ble_eq_true rfl) (Nat.le_of_ble_eq_true rfl) ?_
          rintro M23 ⟨hB24, kp25, kp26, h27, h28, h29, h30, h31, h32, h33, h34, h35, h36, h37⟩
          have hB38 : BF fT M M23 := BF.go hB11 hB24
          have kp39 : mI M23 60 = mI M 60 := kp_go kp9 kp26
          have kp40 : mI M23 55 = mI M 55 := kp_go kp10 kp25
          have hidx : mI M23 60 (mI M23 54 18).toNat = mI Mq0 60 (mI Mq0 54 18 - 1).toNat := by rw [show (mI M23 54 18).toNat = (mI Mq0 54 18 - 1).toNat by omega]; exact congrFun kp26 _
          have h57 := h28
          have h60 := kp26
          have h55 := kp25
          refine vc_aload_n dX12_settlePile_49 rfl ?_
          refine vc_getR dX12_settlePile_50 flX12_32 (s_54 hB38.1.1) rfl (r_54_17 hB38.1.1) ?_
          refine vc_aload_n dX12_settlePile_53 rfl ?_
          refine vc_getI dX12_settlePile_54 flX12_180 (s_54 hB38.1.1) rfl ?_
          have k41 : 0 ≤ mI M23 54 18 ∧ mI M23 54 18 ≤ 160 := b54_18 (M := M23) hB38.1
          refine vc_iaload dX12_settlePile_57 (s_60 hB38.1.1) (by omega) (by omega) ?_
          have k42 : mI M23 60 ((mI M23 54 18).toNat) = mI M 60 ((mI M23 54 18).toNat) := congrFun kp39 ((mI M23 54 18).toNat)
          refine vc_iconst dX12_settlePile_58 rfl ?_
          refine vc_icmp_ne dX12_settlePile_59 (fun h43 => ?_) (fun h43 => ?_)
          · exact ih0 M23 hB38 kp39 kp40 (by first | exact p2 | exact PI.pop (M := Mq0) g0i0 g0i7 (by omega) rfl hrk6 (by first | exact h57 | exact kp_sI h57 rfl) (by first | exact h60 | exact kp_sI h60 rfl) (by omega) (by omega) (by omega) (by first | (rw [if_pos (by omega)]; omega) | (rw [if_neg (by omega)]; omega)) (by omega) (by omega) (by omega)) (by omega) (by omega) (by omega) (by omega) (by omega) (by omega) (by omega) (by omega) (by first | (intro j hj; rfl) | (first | exact fr_emit (by omega) (by omega) h57 g0i9 | (intro j hj; exact fr_emit (by omega) (by omega) h57 g0i9 j hj))) (by first | (intro q hq1 hq2; exfalso; omega) | (intro q hq1 hq2; by_cases e9 : mI Mq0 54 18 ≤ q; (exact g0i10 q e9 hq2); (rw [← congrFun kp0_60 q, show q = (mI Mq0 54 18 - 1).toNat by omega, ← hrkE]; omega))) (by omega)
          · refine vc_aload_n dX12_settlePile_62 rfl ?_
            refine vc_dup dX12_settlePile_63 rfl ?_
            refine vc_getI dX12_settlePile_64 flX12_190 (s_54 hB38.1.1) rfl ?_
            refine vc_iconst dX12_settlePile_67 rfl ?_
            refine vc_isubE dX12_settlePile_68 (by omega) (by omega) ?_
            refine vc_putI dX12_settlePile_69 (plX12_190 _ rfl) (s_54 hB38.1.1) rfl ?_
            have kp44 : mI (sI M23 54 19 ((mI M23 54 19) - 1)) 60 = mI M 60 := (kp_sI kp39 rfl)
            have kp45 : mI (sI M23 54 19 ((mI M23 54 19) - 1)) 55 = mI M 55 := (kp_sI kp40 rfl)
            have hB46 : BF fT M (sI M23 54 19 ((mI M23 54 19) - 1)) := BF.w54_19 hB38 rfl
            refine vc_goto dX12_settlePile_72 ?_
            have k47 : mI (sI M23 54 19 ((mI M23 54 19) - 1)) 54 9 = mI M23 54 9 := rfl
            have k48 : mI (sI M23 54 19 ((mI M23 54 19) - 1)) 54 10 = mI M23 54 10 := rfl
            have k49 : mI (sI M23 54 19 ((mI M23 54 19) - 1)) 54 11 = mI M23 54 11 := rfl
            have k50 : mI (sI M23 54 19 ((mI M23 54 19) - 1)) 54 14 = mI M23 54 14 := rfl
            have k51 : mI (sI M23 54 19 ((mI M23 54 19) - 1)) 54 15 = mI M23 54 15 := rfl
            have k52 : mI (sI M23 54 19 ((mI M23 54 19) - 1)) 54 16 = mI M23 54 16 := rfl
            have k53 : mI (sI M23 54 19 ((mI M23 54 19) - 1)) 54 18 = mI M23 54 18 := rfl
            have k54 : mI (sI M23 54 19 ((mI M23 54 19) - 1)) 54 19 = (mI M23 54 19) - 1 := rfl
            have k55 : mI (sI M23 54 19 ((mI M23 54 19) - 1)) 54 20 = mI M23 54 20 := rfl
            have k56 : mI (sI M23 54 19 ((mI M23 54 19) - 1)) 54 21 = mI M23 54 21 := rfl
            exact ih0 (sI M23 54 19 ((mI M23 54 19) - 1)) hB46 kp44 kp45 (by first | exact p2 | exact PI.pop (M := Mq0) g0i0 g0i7 (by omega) rfl hrk6 (by first | exact h57 | exact kp_sI h57 rfl) (by first | exact h60 | exact kp_sI h60 rfl) (by omega) (by omega) (by omega) (by first | (rw [if_pos (by omega)]; omega) | (rw [if_neg (by omega)]; omega)) (by omega) (by omega) (by omega)) (by omega) (by omega) (by omega) (by omega) (by omega) (by omega) (by omega) (by omega) (by first | (intro j hj; rfl) | (first | exact fr_emit (by omega) (by omega) h57 g0i9 | (intro j hj; exact fr_emit (by omega) (by omega) h57 g0i9 j hj))) (by first | (intro q hq1 hq2; exfalso; omega) | (intro q hq1 hq2; by_cases e9 : mI Mq0 54 18 ≤ q; (exact g0i10 q e9 hq2); (rw [← congrFun kp0_60 q, show q = (mI Mq0 54 18 - 1).toNat by omega, ← hrkE]; omega))) (by omega)
  exact lp0 _ M hB0 rfl rfl (by first | exact p2 | exact PI.pop (M := Mq0) g0i0 g0i7 (by omega) rfl hrk6 (by first | exact h57 | exact kp_sI h57 rfl) (by first | exact h60 | exact kp_sI h60 rfl) (by omega) (by omega) (by omega) (by first | (rw [if_pos (by omega)]; omega) | (rw [if_neg (by omega)]; omega)) (by omega) (by omega) (by omega)) (by omega) (by omega) (by omega) (by omega) (by omega) (by omega) (by omega) (by omega) (by first | (intro j hj; rfl) | (first | exact fr_emit (by omega) (by omega) h57 g0i9 | (intro j hj; exact fr_emit (by omega) (by omega) h57 g0i9 j hj))) (by first | (intro q hq1 hq2; exfalso; omega) | (intro q hq1 hq2; by_cases e9 : mI Mq0 54 18 ≤ q; (exact g0i10 q e9 hq2); (rw [← congrFun kp0_60 q, show q = (mI Mq0 54 18 - 1).toNat by omega, ← hrkE]; omega))) (Nat.lt_succ_self _)
