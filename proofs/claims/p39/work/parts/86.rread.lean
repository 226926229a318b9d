/-! CONTRACTS of the reference: its reader (written by wip/p35/c86.py) -/
set_option maxRecDepth 4000 in
theorem sfX12_isLetterByte {l : Launch} {M : Mem} (hB : Box M)  (c : Int)  : Call l mdX12_isLetterByte [aI c] M (fun q N => ∃ r : Int, q = some (aI r) ∧ M = N ∧ 0 ≤ r ∧ r ≤ 1 ∧ ((r = 1 ∧ ((97 ≤ c ∧ c ≤ 122) ∨ (65 ≤ c ∧ c ≤ 90))) ∨ (r = 0 ∧ ¬ ((97 ≤ c ∧ c ≤ 122) ∨ (65 ≤ c ∧ c ≤ 90))))) := by
  have hB0 : BF fQ M M := BF.start hB
  refine Call.of [some (aI c)] rfl (Nat.le_of_ble_eq_true rfl) rfl ?_
  refine vc_ok (fun hoM hoS hoL => ?_)
  have hr0 : -2147483648 ≤ c ∧ c < 2147483648 := hoL 0 _ rfl
  refine vc_iload_n dX12_isLetterByte_0 rfl ?_
  refine vc_bipush dX12_isLetterByte_1 rfl ?_
  refine vc_icmp_lt dX12_isLetterByte_3 (fun h1 => ?_) (fun h1 => ?_)
  · refine vc_iload_n dX12_isLetterByte_12 rfl ?_
    refine vc_bipush dX12_isLetterByte_13 rfl ?_
    refine vc_icmp_lt dX12_isLetterByte_15 (fun h2 => ?_) (fun h2 => ?_)
    · refine vc_iconst dX12_isLetterByte_28 rfl ?_
      refine vc_zret dX12_isLetterByte_29 rfl (by first | decide | omega) (Nat.le_of_ble_eq_true rfl) (Nat.le_of_ble_eq_true rfl) ?_
      exact ⟨_, rfl, rfl, by omega, by omega, by omega⟩
    · refine vc_iload_n dX12_isLetterByte_18 rfl ?_
      refine vc_bipush dX12_isLetterByte_19 rfl ?_
      refine vc_icmp_gt dX12_isLetterByte_21 (fun h3 => ?_) (fun h3 => ?_)
      · refine vc_iconst dX12_isLetterByte_28 rfl ?_
        refine vc_zret dX12_isLetterByte_29 rfl (by first | decide | omega) (Nat.le_of_ble_eq_true rfl) (Nat.le_of_ble_eq_true rfl) ?_
        exact ⟨_, rfl, rfl, by omega, by omega, by omega⟩
      · refine vc_iconst dX12_isLetterByte_24 rfl ?_
        refine vc_goto dX12_isLetterByte_25 ?_
        refine vc_zret dX12_isLetterByte_29 rfl (by first | decide | omega) (Nat.le_of_ble_eq_true rfl) (Nat.le_of_ble_eq_true rfl) ?_
        exact ⟨_, rfl, rfl, by omega, by omega, by omega⟩
  · refine vc_iload_n dX12_isLetterByte_6 rfl ?_
    refine vc_bipush dX12_isLetterByte_7 rfl ?_
    refine vc_icmp_le dX12_isLetterByte_9 (fun h4 => ?_) (fun h4 => ?_)
    · refine vc_iconst dX12_isLetterByte_24 rfl ?_
      refine vc_goto dX12_isLetterByte_25 ?_
      refine vc_zret dX12_isLetterByte_29 rfl (by first | decide | omega) (Nat.le_of_ble_eq_true rfl) (Nat.le_of_ble_eq_true rfl) ?_
      exact ⟨_, rfl, rfl, by omega, by omega, by omega⟩
    · refine vc_iload_n dX12_isLetterByte_12 rfl ?_
      refine vc_bipush dX12_isLetterByte_13 rfl ?_
      refine vc_icmp_lt dX12_isLetterByte_15 (fun h5 => by exfalso; omega) (fun h5 => ?_)
      refine vc_iload_n dX12_isLetterByte_18 rfl ?_
      refine vc_bipush dX12_isLetterByte_19 rfl ?_
      refine vc_icmp_gt dX12_isLetterByte_21 (fun h6 => ?_) (fun h6 => by exfalso; omega)
      refine vc_iconst dX12_isLetterByte_28 rfl ?_
      refine vc_zret dX12_isLetterByte_29 rfl (by first | decide | omega) (Nat.le_of_ble_eq_true rfl) (Nat.le_of_ble_eq_true rfl) ?_
      exact ⟨_, rfl, rfl, by omega, by omega, by omega⟩

set_option maxRecDepth 4000 in
theorem sfX12_isFigure {l : Launch} {M : Mem} (hB : Box M)  (c : Int)  : Call l mdX12_isFigure [aI c] M (fun q N => ∃ r : Int, q = some (aI r) ∧ M = N ∧ 0 ≤ r ∧ r ≤ 1 ∧ ((r = 1 ∧ 48 ≤ c ∧ c ≤ 57) ∨ (r = 0 ∧ ¬ (48 ≤ c ∧ c ≤ 57)))) := by
  have hB0 : BF fQ M M := BF.start hB
  refine Call.of [some (aI c)] rfl (Nat.le_of_ble_eq_true rfl) rfl ?_
  refine vc_ok (fun hoM hoS hoL => ?_)
  have hr0 : -2147483648 ≤ c ∧ c < 2147483648 := hoL 0 _ rfl
  refine vc_iload_n dX12_isFigure_0 rfl ?_
  refine vc_bipush dX12_isFigure_1 rfl ?_
  refine vc_icmp_lt dX12_isFigure_3 (fun h1 => ?_) (fun h1 => ?_)
  · refine vc_iconst dX12_isFigure_16 rfl ?_
    refine vc_zret dX12_isFigure_17 rfl (by first | decide | omega) (Nat.le_of_ble_eq_true rfl) (Nat.le_of_ble_eq_true rfl) ?_
    exact ⟨_, rfl, rfl, by omega, by omega, by omega⟩
  · refine vc_iload_n dX12_isFigure_6 rfl ?_
    refine vc_bipush dX12_isFigure_7 rfl ?_
    refine vc_icmp_gt dX12_isFigure_9 (fun h2 => ?_) (fun h2 => ?_)
    · refine vc_iconst dX12_isFigure_16 rfl ?_
      refine vc_zret dX12_isFigure_17 rfl (by first | decide | omega) (Nat.le_of_ble_eq_true rfl) (Nat.le_of_ble_eq_true rfl) ?_
      exact ⟨_, rfl, rfl, by omega, by omega, by omega⟩
    · refine vc_iconst dX12_isFigure_12 rfl ?_
      refine vc_goto dX12_isFigure_13 ?_
      refine vc_zret dX12_isFigure_17 rfl (by first | decide | omega) (Nat.le_of_ble_eq_true rfl) (Nat.le_of_ble_eq_true rfl) ?_
      exact ⟨_, rfl, rfl, by omega, by omega, by omega⟩

set_option maxRecDepth 4000 in
theorem sfX12_rank {l : Launch} {M : Mem} (hB : Box M)  (o : Int)  : Call l mdX12_rank [aI o] M (fun q N => ∃ r : Int, q = some (aI r) ∧ M = N ∧ 0 ≤ r ∧ r ≤ 3 ∧ r = rkI o) := by
  have hB0 : BF fQ M M := BF.start hB
  refine Call.of [some (aI o)] rfl (Nat.le_of_ble_eq_true rfl) rfl ?_
  refine vc_ok (fun hoM hoS hoL => ?_)
  have hr0 : -2147483648 ≤ o ∧ o < 2147483648 := hoL 0 _ rfl
  refine vc_iload_n dX12_rank_0 rfl ?_
  refine vc_bipush dX12_rank_1 rfl ?_
  refine vc_icmp_lt dX12_rank_3 (fun h1 => ?_) (fun h1 => ?_)
  · refine vc_iload_n dX12_rank_10 rfl ?_
    refine vc_iconst dX12_rank_11 rfl ?_
    refine vc_icmp_ne dX12_rank_12 (fun h2 => ?_) (fun h2 => ?_)
    · refine vc_iload_n dX12_rank_19 rfl ?_
      refine vc_iconst dX12_rank_20 rfl ?_
      refine vc_icmp_lt dX12_rank_21 (fun h3 => ?_) (fun h3 => ?_)
      · refine vc_iconst dX12_rank_28 rfl ?_
        refine vc_iret dX12_rank_29 rfl (Nat.le_of_ble_eq_true rfl) (Nat.le_of_ble_eq_true rfl) ?_
        refine ⟨_, rfl, rfl, by omega, by omega, ?_⟩
        unfold rkI; repeat' split
        all_goals omega
      · refine vc_iconst dX12_rank_24 rfl ?_
        refine vc_goto dX12_rank_25 ?_
        refine vc_iret dX12_rank_29 rfl (Nat.le_of_ble_eq_true rfl) (Nat.le_of_ble_eq_true rfl) ?_
        refine ⟨_, rfl, rfl, by omega, by omega, ?_⟩
        unfold rkI; repeat' split
        all_goals omega
    · refine vc_iconst dX12_rank_15 rfl ?_
      refine vc_goto dX12_rank_16 ?_
      refine vc_iret dX12_rank_29 rfl (Nat.le_of_ble_eq_true rfl) (Nat.le_of_ble_eq_true rfl) ?_
      refine ⟨_, rfl, rfl, by omega, by omega, ?_⟩
      unfold rkI; repeat' split
      all_goals omega
  · refine vc_iconst dX12_rank_6 rfl ?_
    refine vc_goto dX12_rank_7 ?_
    refine vc_iret dX12_rank_29 rfl (Nat.le_of_ble_eq_true rfl) (Nat.le_of_ble_eq_true rfl) ?_
    refine ⟨_, rfl, rfl, by omega, by omega, ?_⟩
    unfold rkI; repeat' split
    all_goals omega

theorem fr_emit {A B N : Mem} {p o v : Int} {t : Int} (h0 : t ≤ p) (ht : 0 ≤ p) (h : mI N 57 = mI (sI (sI B 57 p.toNat o) 57 (p + 1).toNat v) 57) (hb : ∀ j : Nat, (j : Int) < t → mI B 57 j = mI A 57 j) : ∀ j : Nat, (j : Int) < t → mI N 57 j = mI A 57 j := fun j hj => by
  rw [h, mI_sI, if_neg (fun e => by omega), mI_sI, if_neg (fun e => by omega)]
  exact hb j hj
