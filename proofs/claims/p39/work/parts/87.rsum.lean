/-! CONTRACTS of the reference: its reader, sums (written by wip/p35/c87.py) -/
set_option maxRecDepth 4000 in
theorem sfX12_openAt {l : Launch} {M : Mem} (hB : Box M)   (p0 : mI M 54 18 ≤ 26) : Call l mdX12_openAt [aR 54] M (fun q N => ∃ r : Int, q = some (aI r) ∧ M = N ∧ (-1) ≤ r ∧ r ≤ 25 ∧ (r = -1 ∨ (r < mI M 54 18 ∧ 40 ≤ mI M 60 r.toNat)) ∧ (∀ q : Nat, r < q → (q : Int) < mI M 54 18 → mI M 60 q < 40)) := by
  have hB0 : BF fQ M M := BF.start hB
  refine Call.of [some (aR 54), none] rfl (Nat.le_of_ble_eq_true rfl) rfl ?_
  refine vc_aload_n dX12_openAt_0 rfl ?_
  refine vc_getI dX12_openAt_1 flX12_180 (s_54 hB0.1.1) rfl ?_
  have k1 : 0 ≤ mI M 54 18 ∧ mI M 54 18 ≤ 160 := b54_18 (M := M) hB0.1
  refine vc_iconst dX12_openAt_4 rfl ?_
  refine vc_isubE dX12_openAt_5 (by omega) (by omega) ?_
  refine vc_nameI (fun x2 ex2 => ?_)
  refine vc_istore_n dX12_openAt_6 (by decide) rfl (show _ = [some (aR 54), some (aI x2)] from rfl) ?_
  have lp7 : ∀ (n7 : Nat) (v1 : Int), ((-1) ≤ v1) → (v1 ≤ 25) → (v1 < mI M 54 18) → (∀ q : Nat, v1 < q → (q : Int) < mI M 54 18 → mI M 60 q < 40) → (v1 + 1).toNat < n7 → VC l mdX12_openAt 7 [some (aR 54), some (aI v1)] [] M 0 0 (fun q N => ∃ r : Int, q = some (aI r) ∧ M = N ∧ (-1) ≤ r ∧ r ≤ 25 ∧ (r = -1 ∨ (r < mI M 54 18 ∧ 40 ≤ mI M 60 r.toNat)) ∧ (∀ q : Nat, r < q → (q : Int) < mI M 54 18 → mI M 60 q < 40)) := by
    intro n7
    induction n7 with
    | zero => intro v1 g7_1a g7_1b g7i0 g7i1 hm7; exact absurd hm7 (Nat.not_lt_zero _)
    | succ n7 ih7 =>
      intro v1 g7_1a g7_1b g7i0 g7i1 hm7
      refine vc_iload_n dX12_openAt_7 rfl ?_
      refine vc_if_lt dX12_openAt_8 (fun h3 => ?_) (fun h3 => ?_)
      · refine vc_iload_n dX12_openAt_28 rfl ?_
        refine vc_iret dX12_openAt_29 rfl (Nat.le_of_ble_eq_true rfl) (Nat.le_of_ble_eq_true rfl) ?_
        exact ⟨_, rfl, rfl, by omega, by omega, by omega, by exact g7i1⟩
      · refine vc_aload_n dX12_openAt_11 rfl ?_
        refine vc_getR dX12_openAt_12 flX12_32 (s_54 hB0.1.1) rfl (r_54_17 hB0.1.1) ?_
        refine vc_iload_n dX12_openAt_15 rfl ?_
        refine vc_iaload dX12_openAt_16 (s_60 hB0.1.1) (by omega) (by omega) ?_
        refine vc_bipush dX12_openAt_17 rfl ?_
        refine vc_icmp_ge dX12_openAt_19 (fun h4 => ?_) (fun h4 => ?_)
        · refine vc_iload_n dX12_openAt_28 rfl ?_
          refine vc_iret dX12_openAt_29 rfl (Nat.le_of_ble_eq_true rfl) (Nat.le_of_ble_eq_true rfl) ?_
          exact ⟨_, rfl, rfl, by omega, by omega, by omega, by exact g7i1⟩
        · refine vc_iincE dX12_openAt_22 rfl (by omega) (by omega) (by decide) rfl (show _ = [some (aR 54), some (aI (v1 + (-1)))] from rfl) ?_
          refine vc_goto dX12_openAt_25 ?_
          exact ih7 (v1 + (-1)) (by omega) (by omega) (by omega) (by first | (intro q a b; exfalso; omega) | (intro q a b; by_cases e : (q : Int) = v1; (rw [show q = v1.toNat by omega]; omega); (exact g7i1 q (by omega) b))) (by omega)
  exact lp7 _ x2 (by omega) (by omega) (by omega) (by first | (intro q a b; exfalso; omega) | (intro q a b; by_cases e : (q : Int) = v1; (rw [show q = v1.toNat by omega]; omega); (exact g7i1 q (by omega) b))) (Nat.lt_succ_self _)

theorem rk_lt {o : Int} (h : o < 40) : 1 ≤ rkI o := by unfold rkI; rw [if_neg (by omega)]; split; decide; split <;> decide
theorem rk_40 {o : Int} (h : 40 ≤ o) : rkI o = 0 := by unfold rkI; rw [if_pos h]
/-- behind settlePile(1) the open one is the top -/
theorem top_at {M N : Mem} {k : Nat} (h60 : mI N 60 = mI M 60) (hle : mI N 54 18 ≤ mI M 54 18) (h0 : 0 ≤ mI N 54 18) (ht : mI N 54 18 = 0 ∨ rkI (mI N 60 (mI N 54 18 - 1).toNat) < 1) (hp : ∀ q : Nat, mI N 54 18 ≤ q → (q : Int) < mI M 54 18 → 1 ≤ rkI (mI M 60 q)) (hk : (k : Int) < mI M 54 18) (h40 : 40 ≤ mI M 60 k) (hq : ∀ q : Nat, k < q → (q : Int) < mI M 54 18 → mI M 60 q < 40) : mI N 54 18 = (k : Int) + 1 := by
  have a : (k : Int) < mI N 54 18 := by
    by_cases e : mI N 54 18 ≤ k
    · have := hp k e hk
      rw [rk_40 h40] at this
      omega
    · omega
  rcases ht with e | e
  · omega
  · by_cases e2 : mI N 54 18 = (k : Int) + 1
    · exact e2
    · exfalso
      have q := hq (mI N 54 18 - 1).toNat (by omega) (by omega)
      rw [h60] at e
      have := rk_lt q
      omega
theorem top_no {M N : Mem} (h60 : mI N 60 = mI M 60) (hle : mI N 54 18 ≤ mI M 54 18) (h0 : 0 ≤ mI N 54 18) (ht : mI N 54 18 = 0 ∨ rkI (mI N 60 (mI N 54 18 - 1).toNat) < 1) (hq : ∀ q : Nat, (q : Int) < mI M 54 18 → mI M 60 q < 40) : mI N 54 18 = 0 := by
  rcases ht with e | e
  · exact e
  · by_cases e2 : mI N 54 18 = 0
    · exact e2
    · exfalso
      have q := hq (mI N 54 18 - 1).toNat (by omega)
      rw [h60] at e
      have := rk_lt q
      omega
