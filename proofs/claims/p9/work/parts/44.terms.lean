/-! POWERS, LOWEST TERMS, of both (written by wip/whole/p44.py) -/
def powW (b : Int) : Nat → Int
  | 0 => 1
  | n + 1 => wL (powW b n * b)
theorem lessL_nil {L : List (Option AV)} : lessL [] L := fun i v h => by simp at h
theorem lessL_keep {x : Option AV} {L' L : List (Option AV)} (h : lessL L' L) : lessL (x :: L') (x :: L) := fun i v hv => by
  cases i with
  | zero => exact hv
  | succ i => rw [List.getElem?_cons_succ] at hv ⊢; exact h i v hv
theorem lessL_drop {x : Option AV} {L' L : List (Option AV)} (h : lessL L' L) : lessL (none :: L') (x :: L) := fun i v hv => by
  cases i with
  | zero => simp at hv
  | succ i => rw [List.getElem?_cons_succ] at hv ⊢; exact h i v hv
/-- the upper or the lower one of U by W in lowest terms -/
def lowT (U W : Nat) (low : Int) : Int := if W = 0 then (if low = 0 then 0 else 1) else if low = 0 then (U : Int) / (Nat.gcd U W : Nat) else (W : Int) / (Nat.gcd U W : Nat)
theorem gcd_next (a b : Nat) : Nat.gcd b (a % b) = Nat.gcd a b := by
  rw [Nat.gcd_comm b (a % b), ← Nat.gcd_rec b a, Nat.gcd_comm]
theorem qX11_power {l : Launch} {M : Mem} (b e : Int) (he : e ≤ 1000) : Fn l mdX11_power [aL b, aI e] M (some (aL (powW b e.toNat))) M := by
  have loop : ∀ (n k : Nat), k + n = e.toNat → VC l mdX11_power 5 [some (aL b), none, some (aI e), some (aL (powW b k)), none, some (aI (k : Int))] [] M 0 0 (fun r M2 => r = some (aL (powW b e.toNat)) ∧ M2 = M) := by
    intro n
    induction n with
    | zero =>
      intro k hk
      refine vc_iload dX11_power_5 rfl ?_
      refine vc_iload_n dX11_power_7 rfl ?_
      refine vc_icmp_ge dX11_power_8 (fun h1 => ?_) (fun h1 => by exfalso; omega)
      refine vc_lload_n dX11_power_21 rfl ?_
      refine vc_lret dX11_power_22 rfl (Nat.le_of_ble_eq_true rfl) (Nat.le_of_ble_eq_true rfl) ?_
      exact ⟨by rw [show k = e.toNat by omega], rfl⟩
    | succ n ih =>
      intro k hk
      refine vc_iload dX11_power_5 rfl ?_
      refine vc_iload_n dX11_power_7 rfl ?_
      refine vc_icmp_ge dX11_power_8 (fun h1 => by exfalso; omega) (fun h1 => ?_)
      refine vc_lload_n dX11_power_11 rfl ?_
      refine vc_lload_n dX11_power_12 rfl ?_
      refine vc_lmul dX11_power_13 ?_
      refine vc_lstore_n dX11_power_14 (by decide) rfl rfl (show _ = [some (aL b), none, some (aI e), some (aL (wL ((powW b k) * b))), none, some (aI (k : Int))] from rfl) ?_
      refine vc_iincE dX11_power_15 rfl (by omega) (by omega) (by decide) rfl (show _ = [some (aL b), none, some (aI e), some (aL (wL ((powW b k) * b))), none, some (aI ((k : Int) + 1))] from rfl) ?_
      refine vc_goto dX11_power_18 ?_
      rw [show (k : Int) + 1 = ((k + 1 : Nat) : Int) by omega]
      exact ih (k + 1) (by omega)
  refine Call.of [some (aL b), none, some (aI e), none, none, none] rfl (Nat.le_of_ble_eq_true rfl) rfl ?_
  refine vc_lconst dX11_power_0 ?_
  refine vc_topL 1 rfl ?_
  refine vc_lstore_n dX11_power_1 (by decide) rfl rfl (show _ = [some (aL b), none, some (aI e), some (aL 1), none, none] from rfl) ?_
  refine vc_iconst dX11_power_2 rfl ?_
  refine vc_istore dX11_power_3 (by decide) rfl (show _ = [some (aL b), none, some (aI e), some (aL 1), none, some (aI 0)] from rfl) ?_
  exact loop e.toNat 0 (by omega)
theorem qX12_power {l : Launch} {M : Mem} (b e : Int) (he : e ≤ 1000) : Fn l mdX12_power [aL b, aI e] M (some (aL (powW b e.toNat))) M := by
  have loop : ∀ (n k : Nat), k + n = e.toNat → VC l mdX12_power 5 [some (aL b), none, some (aI e), some (aL (powW b k)), none, some (aI (k : Int))] [] M 0 0 (fun r M2 => r = some (aL (powW b e.toNat)) ∧ M2 = M) := by
    intro n
    induction n with
    | zero =>
      intro k hk
      refine vc_iload dX12_power_5 rfl ?_
      refine vc_iload_n dX12_power_7 rfl ?_
      refine vc_icmp_ge dX12_power_8 (fun h1 => ?_) (fun h1 => by exfalso; omega)
      refine vc_lload_n dX12_power_21 rfl ?_
      refine vc_lret dX12_power_22 rfl (Nat.le_of_ble_eq_true rfl) (Nat.le_of_ble_eq_true rfl) ?_
      exact ⟨by rw [show k = e.toNat by omega], rfl⟩
    | succ n ih =>
      intro k hk
      refine vc_iload dX12_power_5 rfl ?_
      refine vc_iload_n dX12_power_7 rfl ?_
      refine vc_icmp_ge dX12_power_8 (fun h1 => by exfalso; omega) (fun h1 => ?_)
      refine vc_lload_n dX12_power_11 rfl ?_
      refine vc_lload_n dX12_power_12 rfl ?_
      refine vc_lmul dX12_power_13 ?_
      refine vc_lstore_n dX12_power_14 (by decide) rfl rfl (show _ = [some (aL b), none, some (aI e), some (aL (wL ((powW b k) * b))), none, some (aI (k : Int))] from rfl) ?_
      refine vc_iincE dX12_power_15 rfl (by omega) (by omega) (by decide) rfl (show _ = [some (aL b), none, some (aI e), some (aL (wL ((powW b k) * b))), none, some (aI ((k : Int) + 1))] from rfl) ?_
      refine vc_goto dX12_power_18 ?_
      rw [show (k : Int) + 1 = ((k + 1 : Nat) : Int) by omega]
      exact ih (k + 1) (by omega)
  refine Call.of [some (aL b), none, some (aI e), none, none, none] rfl (Nat.le_of_ble_eq_true rfl) rfl ?_
  refine vc_lconst dX12_power_0 ?_
  refine vc_topL 1 rfl ?_
  refine vc_lstore_n dX12_power_1 (by decide) rfl rfl (show _ = [some (aL b), none, some (aI e), some (aL 1), none, none] from rfl) ?_
  refine vc_iconst dX12_power_2 rfl ?_
  refine vc_istore dX12_power_3 (by decide) rfl (show _ = [some (aL b), none, some (aI e), some (aL 1), none, some (aI 0)] from rfl) ?_
  exact loop e.toNat 0 (by omega)
theorem qX12_common {l : Launch} {M : Mem} (U W : Nat) : Fn l mdX12_common [aL (U : Int), aL (W : Int)] M (some (aL (Nat.gcd U W : Nat))) M := by
  have loop : ∀ (n a b : Nat), b ≤ n → Nat.gcd a b = Nat.gcd U W → VC l mdX12_common 6 [some (aL (U : Int)), none, some (aL (W : Int)), none, some (aL (a : Int)), none, some (aL (b : Int)), none, none, none] [] M 0 0 (fun r M2 => r = some (aL (Nat.gcd U W : Nat)) ∧ M2 = M) := by
    intro n
    induction n with
    | zero =>
      intro a b hb hg
      refine vc_lload dX12_common_6 rfl ?_
      refine vc_lconst dX12_common_8 ?_
      refine vc_topL 0 rfl ?_
      refine vc_lif_eq dX12_common_9 dX12_common_10 (fun h1 => ?_) (fun h1 => by exfalso; omega)
      refine vc_lload dX12_common_31 rfl ?_
      refine vc_lret dX12_common_33 rfl (Nat.le_of_ble_eq_true rfl) (Nat.le_of_ble_eq_true rfl) ?_
      exact ⟨by rw [← hg, show b = 0 by omega, Nat.gcd_zero_right], rfl⟩
    | succ n ih =>
      intro a b hb hg
      refine vc_lload dX12_common_6 rfl ?_
      refine vc_lconst dX12_common_8 ?_
      refine vc_topL 0 rfl ?_
      refine vc_lif_eq dX12_common_9 dX12_common_10 (fun h1 => ?_) (fun h1 => ?_)
      · refine vc_lload dX12_common_31 rfl ?_
        refine vc_lret dX12_common_33 rfl (Nat.le_of_ble_eq_true rfl) (Nat.le_of_ble_eq_true rfl) ?_
        exact ⟨by rw [← hg, show b = 0 by omega, Nat.gcd_zero_right], rfl⟩
      · refine vc_lload dX12_common_13 rfl ?_
        refine vc_lload dX12_common_15 rfl ?_
        refine vc_lremE dX12_common_17 (by omega) (by omega) ?_
        refine vc_lstore dX12_common_18 (by decide) rfl rfl (show _ = [some (aL (U : Int)), none, some (aL (W : Int)), none, some (aL (a : Int)), none, some (aL (b : Int)), none, some (aL ((a : Int) % (b : Int))), none] from rfl) ?_
        refine vc_lload dX12_common_20 rfl ?_
        refine vc_lstore dX12_common_22 (by decide) rfl rfl (show _ = [some (aL (U : Int)), none, some (aL (W : Int)), none, some (aL (b : Int)), none, some (aL (b : Int)), none, some (aL ((a : Int) % (b : Int))), none] from rfl) ?_
        refine vc_lload dX12_common_24 rfl ?_
        refine vc_lstore dX12_common_26 (by decide) rfl rfl (show _ = [some (aL (U : Int)), none, some (aL (W : Int)), none, some (aL (b : Int)), none, some (aL ((a : Int) % (b : Int))), none, some (aL ((a : Int) % (b : Int))), none] from rfl) ?_
        refine vc_goto dX12_common_28 ?_
        refine vc_less [some (aL (U : Int)), none, some (aL (W : Int)), none, some (aL (b : Int)), none, some (aL ((a : Int) % (b : Int))), none, none, none] (lessL_keep (lessL_drop (lessL_keep (lessL_drop (lessL_keep (lessL_drop (lessL_keep (lessL_drop (lessL_drop (lessL_drop lessL_nil)))))))))) ?_
        have hb0 : 0 < b := by omega
        have hlt := Nat.mod_lt a hb0
        rw [show (a : Int) % (b : Int) = ((a % b : Nat) : Int) from (Int.natCast_emod a b).symm]
        exact ih b (a % b) (by omega) (by rw [gcd_next]; exact hg)
  refine Call.of [some (aL (U : Int)), none, some (aL (W : Int)), none, none, none, none, none, none, none] rfl (Nat.le_of_ble_eq_true rfl) rfl ?_
  refine vc_lload_n dX12_common_0 rfl ?_
  refine vc_lstore dX12_common_1 (by decide) rfl rfl (show _ = [some (aL (U : Int)), none, some (aL (W : Int)), none, some (aL (U : Int)), none, none, none, none, none] from rfl) ?_
  refine vc_lload_n dX12_common_3 rfl ?_
  refine vc_lstore dX12_common_4 (by decide) rfl rfl (show _ = [some (aL (U : Int)), none, some (aL (W : Int)), none, some (aL (U : Int)), none, some (aL (W : Int)), none, none, none] from rfl) ?_
  exact loop W U W (Nat.le_refl W) rfl
theorem qX12_part {l : Launch} {M : Mem} (U W : Nat) (low : Int) : Fn l mdX12_part [aL (U : Int), aL (W : Int), aI low] M (some (aL (lowT U W low))) M := by
  have hg : ¬ W = 0 → 0 < Nat.gcd U W := fun h => Nat.gcd_pos_of_pos_right U (by omega)
  refine Call.of [some (aL (U : Int)), none, some (aL (W : Int)), none, some (aI low)] rfl (Nat.le_of_ble_eq_true rfl) rfl ?_
  refine vc_lload_n dX12_part_0 rfl ?_
  refine vc_lconst dX12_part_1 ?_
  refine vc_topL 0 rfl ?_
  refine vc_lif_ne dX12_part_2 dX12_part_3 (fun h1 => ?_) (fun h1 => ?_)
  · refine vc_iload dX12_part_17 rfl ?_
    refine vc_if_eq dX12_part_19 (fun h2 => ?_) (fun h2 => ?_)
    · refine vc_lload_n dX12_part_26 rfl ?_
      refine vc_lload_n dX12_part_27 rfl ?_
      refine vc_lload_n dX12_part_28 rfl ?_
      refine vc_callSF dX12_part_29 (qX12_common (M := M) U W) rfl okX12_common stX12_common lkX12_461 rfl (Nat.le_of_ble_eq_true rfl) ⟨rfl, rfl⟩ (Nat.le_of_ble_eq_true rfl) (Nat.le_of_ble_eq_true rfl) (Nat.le_of_ble_eq_true rfl) ?_
      refine vc_ldivE dX12_part_32 (by first | omega | (have h9 := hg (by omega); omega)) (by first | omega | (have h9 := hg (by omega); omega)) ?_
      refine vc_lret dX12_part_33 rfl (Nat.le_of_ble_eq_true rfl) (Nat.le_of_ble_eq_true rfl) ?_
      refine ⟨?_, rfl⟩
      unfold lowT
      repeat' split
      all_goals first | rfl | (exfalso; omega) | (exfalso; have h9 := hg (by omega); omega)
    · refine vc_lload_n dX12_part_22 rfl ?_
      refine vc_goto dX12_part_23 ?_
      refine vc_lload_n dX12_part_27 rfl ?_
      refine vc_lload_n dX12_part_28 rfl ?_
      refine vc_callSF dX12_part_29 (qX12_common (M := M) U W) rfl okX12_common stX12_common lkX12_461 rfl (Nat.le_of_ble_eq_true rfl) ⟨rfl, rfl⟩ (Nat.le_of_ble_eq_true rfl) (Nat.le_of_ble_eq_true rfl) (Nat.le_of_ble_eq_true rfl) ?_
      refine vc_ldivE dX12_part_32 (by first | omega | (have h9 := hg (by omega); omega)) (by first | omega | (have h9 := hg (by omega); omega)) ?_
      refine vc_lret dX12_part_33 rfl (Nat.le_of_ble_eq_true rfl) (Nat.le_of_ble_eq_true rfl) ?_
      refine ⟨?_, rfl⟩
      unfold lowT
      repeat' split
      all_goals first | rfl | (exfalso; omega) | (exfalso; have h9 := hg (by omega); omega)
  · refine vc_iload dX12_part_6 rfl ?_
    refine vc_if_eq dX12_part_8 (fun h3 => ?_) (fun h3 => ?_)
    · refine vc_lconst dX12_part_15 ?_
      refine vc_topL 0 rfl ?_
      refine vc_lret dX12_part_16 rfl (Nat.le_of_ble_eq_true rfl) (Nat.le_of_ble_eq_true rfl) ?_
      refine ⟨?_, rfl⟩
      unfold lowT
      repeat' split
      all_goals first | rfl | (exfalso; omega) | (exfalso; have h9 := hg (by omega); omega)
    · refine vc_lconst dX12_part_11 ?_
      refine vc_topL 1 rfl ?_
      refine vc_goto dX12_part_12 ?_
      refine vc_lret dX12_part_16 rfl (Nat.le_of_ble_eq_true rfl) (Nat.le_of_ble_eq_true rfl) ?_
      refine ⟨?_, rfl⟩
      unfold lowT
      repeat' split
      all_goals first | rfl | (exfalso; omega) | (exfalso; have h9 := hg (by omega); omega)
set_option maxRecDepth 4000 in
theorem qX11_inLowestTerms {l : Launch} {M : Mem} (U W : Nat) (hW : W < 2 ^ 63) (low : Int) : Fn l mdX11_inLowestTerms [aL (U : Int), aL (W : Int), aI low] M (some (aL (lowT U W low))) M := by
  have hg : ¬ W = 0 → 0 < Nat.gcd U W := fun h => Nat.gcd_pos_of_pos_right U (by omega)
  have fin : VC l mdX11_inLowestTerms 45 [some (aL (U : Int)), none, some (aL (W : Int)), none, some (aI low), some (aL ((Nat.gcd U W : Nat) : Int)), none, none, none, none, none, none] [] M 0 0 (fun r M2 => r = some (aL (lowT U W low)) ∧ M2 = M) := by
    refine vc_lload_n dX11_inLowestTerms_45 rfl ?_
    refine vc_lconst dX11_inLowestTerms_46 ?_
    refine vc_topL 0 rfl ?_
    refine vc_lif_eq dX11_inLowestTerms_47 dX11_inLowestTerms_48 (fun h1 => ?_) (fun h1 => ?_)
    · refine vc_iload dX11_inLowestTerms_58 rfl ?_
      refine vc_if_eq dX11_inLowestTerms_60 (fun h2 => ?_) (fun h2 => ?_)
      · refine vc_lconst dX11_inLowestTerms_67 ?_
        refine vc_topL 0 rfl ?_
        refine vc_lret dX11_inLowestTerms_68 rfl (Nat.le_of_ble_eq_true rfl) (Nat.le_of_ble_eq_true rfl) ?_
        refine ⟨?_, rfl⟩
        unfold lowT
        repeat' split
        all_goals first | rfl | (exfalso; omega) | (exfalso; have h9 := hg (by omega); omega)
      · refine vc_lconst dX11_inLowestTerms_63 ?_
        refine vc_topL 1 rfl ?_
        refine vc_goto dX11_inLowestTerms_64 ?_
        refine vc_lret dX11_inLowestTerms_68 rfl (Nat.le_of_ble_eq_true rfl) (Nat.le_of_ble_eq_true rfl) ?_
        refine ⟨?_, rfl⟩
        unfold lowT
        repeat' split
        all_goals first | rfl | (exfalso; omega) | (exfalso; have h9 := hg (by omega); omega)
    · refine vc_lload dX11_inLowestTerms_51 rfl ?_
      refine vc_lconst dX11_inLowestTerms_53 ?_
      refine vc_topL 0 rfl ?_
      refine vc_lif_ne dX11_inLowestTerms_54 dX11_inLowestTerms_55 (fun h3 => ?_) (fun h3 => ?_)
      · refine vc_iload dX11_inLowestTerms_69 rfl ?_
        refine vc_if_eq dX11_inLowestTerms_71 (fun h4 => ?_) (fun h4 => ?_)
        · refine vc_lload_n dX11_inLowestTerms_81 rfl ?_
          refine vc_lload dX11_inLowestTerms_82 rfl ?_
          refine vc_ldivE dX11_inLowestTerms_84 (by first | omega | (have h9 := hg (by omega); omega)) (by first | omega | (have h9 := hg (by omega); omega)) ?_
          refine vc_lret dX11_inLowestTerms_85 rfl (Nat.le_of_ble_eq_true rfl) (Nat.le_of_ble_eq_true rfl) ?_
          refine ⟨?_, rfl⟩
          unfold lowT
          repeat' split
          all_goals first | rfl | (exfalso; omega) | (exfalso; have h9 := hg (by omega); omega)
        · refine vc_lload_n dX11_inLowestTerms_74 rfl ?_
          refine vc_lload dX11_inLowestTerms_75 rfl ?_
          refine vc_ldivE dX11_inLowestTerms_77 (by first | omega | (have h9 := hg (by omega); omega)) (by first | omega | (have h9 := hg (by omega); omega)) ?_
          refine vc_goto dX11_inLowestTerms_78 ?_
          refine vc_lret dX11_inLowestTerms_85 rfl (Nat.le_of_ble_eq_true rfl) (Nat.le_of_ble_eq_true rfl) ?_
          refine ⟨?_, rfl⟩
          unfold lowT
          repeat' split
          all_goals first | rfl | (exfalso; omega) | (exfalso; have h9 := hg (by omega); omega)
      · refine vc_iload dX11_inLowestTerms_58 rfl ?_
        refine vc_if_eq dX11_inLowestTerms_60 (fun h5 => ?_) (fun h5 => ?_)
        · refine vc_lconst dX11_inLowestTerms_67 ?_
          refine vc_topL 0 rfl ?_
          refine vc_lret dX11_inLowestTerms_68 rfl (Nat.le_of_ble_eq_true rfl) (Nat.le_of_ble_eq_true rfl) ?_
          refine ⟨?_, rfl⟩
          unfold lowT
          repeat' split
          all_goals first | rfl | (exfalso; omega) | (exfalso; have h9 := hg (by omega); omega)
        · refine vc_lconst dX11_inLowestTerms_63 ?_
          refine vc_topL 1 rfl ?_
          refine vc_goto dX11_inLowestTerms_64 ?_
          refine vc_lret dX11_inLowestTerms_68 rfl (Nat.le_of_ble_eq_true rfl) (Nat.le_of_ble_eq_true rfl) ?_
          refine ⟨?_, rfl⟩
          unfold lowT
          repeat' split
          all_goals first | rfl | (exfalso; omega) | (exfalso; have h9 := hg (by omega); omega)
  have loop : ∀ (k i a b : Nat), b ≤ a → a * b < 2 ^ k → i + k ≤ 1000 → Nat.gcd a b = Nat.gcd U W → VC l mdX11_inLowestTerms 9 [some (aL (U : Int)), none, some (aL (W : Int)), none, some (aI low), some (aL (a : Int)), none, some (aL (b : Int)), none, some (aI (i : Int)), none, none] [] M 0 0 (fun r M2 => r = some (aL (lowT U W low)) ∧ M2 = M) := by
    intro k
    induction k with
    | zero =>
      intro i a b hba hab hi hgc
      have hb0 : b = 0 := by
        rcases Nat.eq_zero_or_pos b with h | h
        · exact h
        · have := Nat.mul_pos (Nat.lt_of_lt_of_le h hba) h
          omega
      subst hb0
      rw [Nat.gcd_zero_right] at hgc
      refine vc_iload dX11_inLowestTerms_9 rfl ?_
      refine vc_sipush dX11_inLowestTerms_11 rfl ?_
      refine vc_icmp_ge dX11_inLowestTerms_14 (fun h1 => ?_) (fun h1 => ?_)
      · refine vc_less [some (aL (U : Int)), none, some (aL (W : Int)), none, some (aI low), some (aL (a : Int)), none, none, none, none, none, none] (lessL_keep (lessL_drop (lessL_keep (lessL_drop (lessL_keep (lessL_keep (lessL_drop (lessL_drop (lessL_drop (lessL_drop (lessL_drop (lessL_drop lessL_nil)))))))))))) ?_
        rw [hgc]
        exact fin
      · refine vc_lload dX11_inLowestTerms_17 rfl ?_
        refine vc_lconst dX11_inLowestTerms_19 ?_
        refine vc_topL 0 rfl ?_
        refine vc_lif_eq dX11_inLowestTerms_20 dX11_inLowestTerms_21 (fun h2 => ?_) (fun h2 => by exfalso; omega)
        refine vc_less [some (aL (U : Int)), none, some (aL (W : Int)), none, some (aI low), some (aL (a : Int)), none, none, none, none, none, none] (lessL_keep (lessL_drop (lessL_keep (lessL_drop (lessL_keep (lessL_keep (lessL_drop (lessL_drop (lessL_drop (lessL_drop (lessL_drop (lessL_drop lessL_nil)))))))))))) ?_
        rw [hgc]
        exact fin
    | succ k ih =>
      intro i a b hba hab hi hgc
      refine vc_iload dX11_inLowestTerms_9 rfl ?_
      refine vc_sipush dX11_inLowestTerms_11 rfl ?_
      refine vc_icmp_ge dX11_inLowestTerms_14 (fun h1 => by exfalso; omega) (fun h1 => ?_)
      refine vc_lload dX11_inLowestTerms_17 rfl ?_
      refine vc_lconst dX11_inLowestTerms_19 ?_
      refine vc_topL 0 rfl ?_
      refine vc_lif_eq dX11_inLowestTerms_20 dX11_inLowestTerms_21 (fun h2 => ?_) (fun h2 => ?_)
      · have hb0 : b = 0 := by omega
        rw [hb0, Nat.gcd_zero_right] at hgc
        refine vc_less [some (aL (U : Int)), none, some (aL (W : Int)), none, some (aI low), some (aL (a : Int)), none, none, none, none, none, none] (lessL_keep (lessL_drop (lessL_keep (lessL_drop (lessL_keep (lessL_keep (lessL_drop (lessL_drop (lessL_drop (lessL_drop (lessL_drop (lessL_drop lessL_nil)))))))))))) ?_
        rw [hgc]
        exact fin
      · refine vc_lload dX11_inLowestTerms_24 rfl ?_
        refine vc_lload dX11_inLowestTerms_26 rfl ?_
        refine vc_lremE dX11_inLowestTerms_28 (by omega) (by omega) ?_
        refine vc_lstore dX11_inLowestTerms_29 (by decide) rfl rfl (show _ = [some (aL (U : Int)), none, some (aL (W : Int)), none, some (aI low), some (aL (a : Int)), none, some (aL (b : Int)), none, some (aI (i : Int)), some (aL ((a : Int) % (b : Int))), none] from rfl) ?_
        refine vc_lload dX11_inLowestTerms_31 rfl ?_
        refine vc_lstore dX11_inLowestTerms_33 (by decide) rfl rfl (show _ = [some (aL (U : Int)), none, some (aL (W : Int)), none, some (aI low), some (aL (b : Int)), none, some (aL (b : Int)), none, some (aI (i : Int)), some (aL ((a : Int) % (b : Int))), none] from rfl) ?_
        refine vc_lload dX11_inLowestTerms_35 rfl ?_
        refine vc_lstore dX11_inLowestTerms_37 (by decide) rfl rfl (show _ = [some (aL (U : Int)), none, some (aL (W : Int)), none, some (aI low), some (aL (b : Int)), none, some (aL ((a : Int) % (b : Int))), none, some (aI (i : Int)), some (aL ((a : Int) % (b : Int))), none] from rfl) ?_
        refine vc_iincE dX11_inLowestTerms_39 rfl (by omega) (by omega) (by decide) rfl (show _ = [some (aL (U : Int)), none, some (aL (W : Int)), none, some (aI low), some (aL (b : Int)), none, some (aL ((a : Int) % (b : Int))), none, some (aI ((i : Int) + 1)), some (aL ((a : Int) % (b : Int))), none] from rfl) ?_
        refine vc_goto dX11_inLowestTerms_42 ?_
        refine vc_less [some (aL (U : Int)), none, some (aL (W : Int)), none, some (aI low), some (aL (b : Int)), none, some (aL ((a : Int) % (b : Int))), none, some (aI ((i : Int) + 1)), none, none] (lessL_keep (lessL_drop (lessL_keep (lessL_drop (lessL_keep (lessL_keep (lessL_drop (lessL_keep (lessL_drop (lessL_keep (lessL_drop (lessL_drop lessL_nil)))))))))))) ?_
        have hb0 : 0 < b := by omega
        have hlt := Nat.mod_lt a hb0
        have hdv := Nat.div_add_mod a b
        have hq : 1 ≤ a / b := (Nat.le_div_iff_mul_le hb0).mpr (by omega)
        have h2 : 2 * (b * (a % b)) ≤ a * b := by
          have e1 : b * 1 ≤ b * (a / b) := Nat.mul_le_mul_left b hq
          have e2 : (b + a % b) * b ≤ a * b := Nat.mul_le_mul_right b (by omega)
          have e3 : b * (a % b) ≤ b * b := Nat.mul_le_mul_left b (by omega)
          rw [Nat.add_mul, Nat.mul_comm (a % b) b] at e2
          omega
        rw [show (a : Int) % (b : Int) = ((a % b : Nat) : Int) from (Int.natCast_emod a b).symm, show (i : Int) + 1 = ((i + 1 : Nat) : Int) by omega]
        exact ih (i + 1) b (a % b) (by omega) (by rw [Nat.pow_succ] at hab; omega) (by omega) (by rw [gcd_next]; exact hgc)
  refine Call.of [some (aL (U : Int)), none, some (aL (W : Int)), none, some (aI low), none, none, none, none, none, none, none] rfl (Nat.le_of_ble_eq_true rfl) rfl ?_
  refine vc_lload_n dX11_inLowestTerms_0 rfl ?_
  refine vc_lstore dX11_inLowestTerms_1 (by decide) rfl rfl (show _ = [some (aL (U : Int)), none, some (aL (W : Int)), none, some (aI low), some (aL (U : Int)), none, none, none, none, none, none] from rfl) ?_
  refine vc_lload_n dX11_inLowestTerms_3 rfl ?_
  refine vc_lstore dX11_inLowestTerms_4 (by decide) rfl rfl (show _ = [some (aL (U : Int)), none, some (aL (W : Int)), none, some (aI low), some (aL (U : Int)), none, some (aL (W : Int)), none, none, none, none] from rfl) ?_
  refine vc_iconst dX11_inLowestTerms_6 rfl ?_
  refine vc_istore dX11_inLowestTerms_7 (by decide) rfl (show _ = [some (aL (U : Int)), none, some (aL (W : Int)), none, some (aI low), some (aL (U : Int)), none, some (aL (W : Int)), none, some (aI 0), none, none] from rfl) ?_
  refine vc_iload dX11_inLowestTerms_9 rfl ?_
  refine vc_sipush dX11_inLowestTerms_11 rfl ?_
  refine vc_icmp_ge dX11_inLowestTerms_14 (fun h1 => by exfalso; omega) (fun h1 => ?_)
  refine vc_lload dX11_inLowestTerms_17 rfl ?_
  refine vc_lconst dX11_inLowestTerms_19 ?_
  refine vc_topL 0 rfl ?_
  refine vc_lif_eq dX11_inLowestTerms_20 dX11_inLowestTerms_21 (fun h2 => ?_) (fun h2 => ?_)
  · have hw0 : W = 0 := by omega
    refine vc_less [some (aL (U : Int)), none, some (aL (W : Int)), none, some (aI low), some (aL (U : Int)), none, none, none, none, none, none] (lessL_keep (lessL_drop (lessL_keep (lessL_drop (lessL_keep (lessL_keep (lessL_drop (lessL_drop (lessL_drop (lessL_drop (lessL_drop (lessL_drop lessL_nil)))))))))))) ?_
    have e0 : U = Nat.gcd U W := by rw [hw0, Nat.gcd_zero_right]
    have f2 := fin
    rw [← e0] at f2
    exact f2
  · refine vc_lload dX11_inLowestTerms_24 rfl ?_
    refine vc_lload dX11_inLowestTerms_26 rfl ?_
    refine vc_lremE dX11_inLowestTerms_28 (by omega) (by omega) ?_
    refine vc_lstore dX11_inLowestTerms_29 (by decide) rfl rfl (show _ = [some (aL (U : Int)), none, some (aL (W : Int)), none, some (aI low), some (aL (U : Int)), none, some (aL (W : Int)), none, some (aI 0), some (aL ((U : Int) % (W : Int))), none] from rfl) ?_
    refine vc_lload dX11_inLowestTerms_31 rfl ?_
    refine vc_lstore dX11_inLowestTerms_33 (by decide) rfl rfl (show _ = [some (aL (U : Int)), none, some (aL (W : Int)), none, some (aI low), some (aL (W : Int)), none, some (aL (W : Int)), none, some (aI 0), some (aL ((U : Int) % (W : Int))), none] from rfl) ?_
    refine vc_lload dX11_inLowestTerms_35 rfl ?_
    refine vc_lstore dX11_inLowestTerms_37 (by decide) rfl rfl (show _ = [some (aL (U : Int)), none, some (aL (W : Int)), none, some (aI low), some (aL (W : Int)), none, some (aL ((U : Int) % (W : Int))), none, some (aI 0), some (aL ((U : Int) % (W : Int))), none] from rfl) ?_
    refine vc_iincE dX11_inLowestTerms_39 rfl (by omega) (by omega) (by decide) rfl (show _ = [some (aL (U : Int)), none, some (aL (W : Int)), none, some (aI low), some (aL (W : Int)), none, some (aL ((U : Int) % (W : Int))), none, some (aI 1), some (aL ((U : Int) % (W : Int))), none] from rfl) ?_
    refine vc_goto dX11_inLowestTerms_42 ?_
    refine vc_less [some (aL (U : Int)), none, some (aL (W : Int)), none, some (aI low), some (aL (W : Int)), none, some (aL ((U : Int) % (W : Int))), none, some (aI 1), none, none] (lessL_keep (lessL_drop (lessL_keep (lessL_drop (lessL_keep (lessL_keep (lessL_drop (lessL_keep (lessL_drop (lessL_keep (lessL_drop (lessL_drop lessL_nil)))))))))))) ?_
    have hb0 : 0 < W := by omega
    have hlt := Nat.mod_lt U hb0
    rw [show (U : Int) % (W : Int) = ((U % W : Nat) : Int) from (Int.natCast_emod U W).symm]
    refine loop 126 1 W (U % W) (by omega) ?_ (by omega) (gcd_next U W)
    have e1 : W * (U % W) < W * W := Nat.mul_lt_mul_of_pos_left hlt hb0
    have e2 : W * W ≤ 2 ^ 63 * 2 ^ 63 := Nat.mul_le_mul (Nat.le_of_lt hW) (Nat.le_of_lt hW)
    have e3 : (2 : Nat) ^ 63 * 2 ^ 63 = 2 ^ 126 := by rw [← Nat.pow_add]
    omega
