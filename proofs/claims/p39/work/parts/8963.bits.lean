/-! BITS, counted on both sides (written by wip/laws3/c28.py) -/
set_option maxRecDepth 4000 in
theorem sfJ6_bitCount_0f7a4F {l : Launch} {M : Mem} (hB : Box M)  (i : Int)  : Call l mdJ6_bitCount_0f7a4 [aI i] M (fun q N => ∃ r : Int, q = some (aI r) ∧ M = N ∧ 0 ≤ r ∧ r ≤ 63 ∧ r = bcJ i) := by
  have hB0 : BF fQ M M := BF.start hB
  refine Call.of [some (aI i)] (by decide +kernel) (Nat.le_of_ble_eq_true rfl) rfl ?_
  refine vc_ok (fun hoM hoS hoL => ?_)
  have hr0 : -2147483648 ≤ i ∧ i < 2147483648 := hoL 0 _ rfl
  refine vc_iload_n dJ6_bitCount_0f7a4_0 rfl ?_
  refine vc_iload_n dJ6_bitCount_0f7a4_1 rfl ?_
  refine vc_iconst dJ6_bitCount_0f7a4_2 rfl ?_
  refine vc_iushr dJ6_bitCount_0f7a4_3 ?_
  refine vc_ldcw dJ6_bitCount_0f7a4_4 rfl kcJ6_265 ?_
  refine vc_iand dJ6_bitCount_0f7a4_7 ?_
  refine vc_isub dJ6_bitCount_0f7a4_8 ?_
  refine vc_nameI (fun x1 ex1 => ?_)
  refine vc_istore_n dJ6_bitCount_0f7a4_9 (by decide) rfl (show _ = [some (aI x1)] from rfl) ?_
  refine vc_iload_n dJ6_bitCount_0f7a4_10 rfl ?_
  refine vc_ldcw dJ6_bitCount_0f7a4_11 rfl kcJ6_266 ?_
  refine vc_iand dJ6_bitCount_0f7a4_14 ?_
  refine vc_iload_n dJ6_bitCount_0f7a4_15 rfl ?_
  refine vc_iconst dJ6_bitCount_0f7a4_16 rfl ?_
  refine vc_iushr dJ6_bitCount_0f7a4_17 ?_
  refine vc_ldcw dJ6_bitCount_0f7a4_18 rfl kcJ6_266 ?_
  refine vc_iand dJ6_bitCount_0f7a4_21 ?_
  refine vc_iadd dJ6_bitCount_0f7a4_22 ?_
  refine vc_nameI (fun x2 ex2 => ?_)
  refine vc_istore_n dJ6_bitCount_0f7a4_23 (by decide) rfl (show _ = [some (aI x2)] from rfl) ?_
  refine vc_iload_n dJ6_bitCount_0f7a4_24 rfl ?_
  refine vc_iload_n dJ6_bitCount_0f7a4_25 rfl ?_
  refine vc_iconst dJ6_bitCount_0f7a4_26 rfl ?_
  refine vc_iushr dJ6_bitCount_0f7a4_27 ?_
  refine vc_iadd dJ6_bitCount_0f7a4_28 ?_
  refine vc_ldcw dJ6_bitCount_0f7a4_29 rfl kcJ6_267 ?_
  refine vc_iand dJ6_bitCount_0f7a4_32 ?_
  refine vc_nameI (fun x3 ex3 => ?_)
  refine vc_istore_n dJ6_bitCount_0f7a4_33 (by decide) rfl (show _ = [some (aI x3)] from rfl) ?_
  refine vc_iload_n dJ6_bitCount_0f7a4_34 rfl ?_
  refine vc_iload_n dJ6_bitCount_0f7a4_35 rfl ?_
  refine vc_bipush dJ6_bitCount_0f7a4_36 rfl ?_
  refine vc_iushr dJ6_bitCount_0f7a4_38 ?_
  refine vc_iadd dJ6_bitCount_0f7a4_39 ?_
  refine vc_nameI (fun x4 ex4 => ?_)
  refine vc_istore_n dJ6_bitCount_0f7a4_40 (by decide) rfl (show _ = [some (aI x4)] from rfl) ?_
  refine vc_iload_n dJ6_bitCount_0f7a4_41 rfl ?_
  refine vc_iload_n dJ6_bitCount_0f7a4_42 rfl ?_
  refine vc_bipush dJ6_bitCount_0f7a4_43 rfl ?_
  refine vc_iushr dJ6_bitCount_0f7a4_45 ?_
  refine vc_iadd dJ6_bitCount_0f7a4_46 ?_
  refine vc_nameI (fun x5 ex5 => ?_)
  refine vc_istore_n dJ6_bitCount_0f7a4_47 (by decide) rfl (show _ = [some (aI x5)] from rfl) ?_
  refine vc_iload_n dJ6_bitCount_0f7a4_48 rfl ?_
  refine vc_bipush dJ6_bitCount_0f7a4_49 rfl ?_
  refine vc_iandM dJ6_bitCount_0f7a4_51 64 6 rfl (by decide) rfl ?_
  refine vc_iret dJ6_bitCount_0f7a4_52 rfl (Nat.le_of_ble_eq_true rfl) (Nat.le_of_ble_eq_true rfl) ?_
  exact ⟨_, rfl, rfl, by omega, by omega, by rw [ex5, ex4, ex3, ex2, ex1, bcJ, bc5, bc4, bc3, bc2, bc1]⟩

set_option maxRecDepth 4000 in
theorem sfX12_bitsF {l : Launch} {M : Mem} (hB : Box M)  (s : Int)  : Call l mdX12_bits [aI s] M (fun q N => ∃ r : Int, q = some (aI r) ∧ M = N ∧ 0 ≤ r ∧ r ≤ 16 ∧ r = bsN s 16) := by
  have hB0 : BF fQ M M := BF.start hB
  refine Call.of [some (aI s), none, none] rfl (Nat.le_of_ble_eq_true rfl) rfl ?_
  refine vc_ok (fun hoM hoS hoL => ?_)
  have hr0 : -2147483648 ≤ s ∧ s < 2147483648 := hoL 0 _ rfl
  refine vc_iconst dX12_bits_0 rfl ?_
  refine vc_istore_n dX12_bits_1 (by decide) rfl (show _ = [some (aI s), some (aI 0), none] from rfl) ?_
  refine vc_iconst dX12_bits_2 rfl ?_
  refine vc_istore_n dX12_bits_3 (by decide) rfl (show _ = [some (aI s), some (aI 0), some (aI 0)] from rfl) ?_
  have lp4 : ∀ (n4 : Nat) (v1 : Int) (v2 : Int), (0 ≤ v2) → (v2 ≤ 16) → (v1 = bsN s v2.toNat) → (0 ≤ v1) → (v1 ≤ v2) → (16 - v2).toNat < n4 → VC l mdX12_bits 4 [some (aI s), some (aI v1), some (aI v2)] [] M 0 0 (fun q N => ∃ r : Int, q = some (aI r) ∧ M = N ∧ 0 ≤ r ∧ r ≤ 16 ∧ r = bsN s 16) := by
    intro n4
    induction n4 with
    | zero => intro v1 v2 g4_2a g4_2b g4i0 g4i1 g4i2 hm4; exact absurd hm4 (Nat.not_lt_zero _)
    | succ n4 ih4 =>
      intro v1 v2 g4_2a g4_2b g4i0 g4i1 g4i2 hm4
      refine vc_iload_n dX12_bits_4 rfl ?_
      refine vc_bipush dX12_bits_5 rfl ?_
      refine vc_icmp_ge dX12_bits_7 (fun h1 => ?_) (fun h1 => ?_)
      · refine vc_iload_n dX12_bits_24 rfl ?_
        refine vc_iret dX12_bits_25 rfl (Nat.le_of_ble_eq_true rfl) (Nat.le_of_ble_eq_true rfl) ?_
        exact ⟨_, rfl, rfl, by omega, by omega, by rw [g4i0, show v2.toNat = 16 by omega]⟩
      · refine vc_iload_n dX12_bits_10 rfl ?_
        refine vc_iload_n dX12_bits_11 rfl ?_
        refine vc_iload_n dX12_bits_12 rfl ?_
        refine vc_ishr dX12_bits_13 ?_
        refine vc_iconst dX12_bits_14 rfl ?_
        refine vc_iandM dX12_bits_15 2 1 rfl (by decide) rfl ?_
        refine vc_iaddE dX12_bits_16 (by omega) (by omega) ?_
        refine vc_nameI (fun x2 ex2 => ?_)
        refine vc_istore_n dX12_bits_17 (by decide) rfl (show _ = [some (aI s), some (aI x2), some (aI v2)] from rfl) ?_
        refine vc_iincE dX12_bits_18 rfl (by omega) (by omega) (by decide) rfl (show _ = [some (aI s), some (aI x2), some (aI (v2 + 1))] from rfl) ?_
        refine vc_goto dX12_bits_21 ?_
        exact ih4 x2 (v2 + 1) (by omega) (by omega) (by first | rfl | (rw [show (v2 + 1).toNat = v2.toNat + 1 by omega, bsN_s, show ((v2.toNat : Nat) : Int) = v2 by omega]; omega)) (by omega) (by omega) (by omega)
  exact lp4 _ 0 0 (by omega) (by omega) (by first | rfl | (rw [show (v2 + 1).toNat = v2.toNat + 1 by omega, bsN_s, show ((v2.toNat : Nat) : Int) = v2 by omega]; omega)) (by omega) (by omega) (Nat.lt_succ_self _)


