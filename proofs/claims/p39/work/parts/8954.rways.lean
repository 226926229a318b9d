/-! THE WAYS of the reference (written by wip/laws3/c25b.py) -/
set_option maxRecDepth 4000 in
theorem sfX12_hasW {l : Launch} {M : Mem} (hB : Box M)  (s : Int) (k : Int)  : Call l mdX12_has [aI s, aI k] M (fun q N => ∃ r : Int, q = some (aI r) ∧ M = N ∧ 0 ≤ r ∧ r ≤ 1 ∧ ((r = 1 ∧ shrI s k % 2 ≠ 0) ∨ (r = 0 ∧ shrI s k % 2 = 0))) := by
  have hB0 : BF fQ M M := BF.start hB
  refine Call.of [some (aI s), some (aI k)] rfl (Nat.le_of_ble_eq_true rfl) rfl ?_
  refine vc_ok (fun hoM hoS hoL => ?_)
  have hr0 : -2147483648 ≤ s ∧ s < 2147483648 := hoL 0 _ rfl
  have hr1 : -2147483648 ≤ k ∧ k < 2147483648 := hoL 1 _ rfl
  refine vc_iload_n dX12_has_0 rfl ?_
  refine vc_iload_n dX12_has_1 rfl ?_
  refine vc_ishr dX12_has_2 ?_
  refine vc_iconst dX12_has_3 rfl ?_
  refine vc_iandM dX12_has_4 2 1 rfl (by decide) rfl ?_
  refine vc_iconst dX12_has_5 rfl ?_
  refine vc_icmp_ne dX12_has_6 (fun h1 => ?_) (fun h1 => ?_)
  · refine vc_iconst dX12_has_13 rfl ?_
    refine vc_zret dX12_has_14 rfl (by first | decide | omega) (Nat.le_of_ble_eq_true rfl) (Nat.le_of_ble_eq_true rfl) ?_
    exact ⟨_, rfl, rfl, by omega, by omega, by omega⟩
  · refine vc_iconst dX12_has_9 rfl ?_
    refine vc_goto dX12_has_10 ?_
    refine vc_zret dX12_has_14 rfl (by first | decide | omega) (Nat.le_of_ble_eq_true rfl) (Nat.le_of_ble_eq_true rfl) ?_
    exact ⟨_, rfl, rfl, by omega, by omega, by omega⟩

