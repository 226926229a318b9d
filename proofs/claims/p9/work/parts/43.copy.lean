/-! IMAGE AND BACK, of the reference (written by wip/whole/p43.py) -/
theorem mem_ext {M M2 : Mem} (h : M.1 = M2.1) (h1 : ∀ a b, mI M a b = mI M2 a b) (h2 : ∀ a b, mJ M a b = mJ M2 a b) (h3 : ∀ a b, mR M a b = mR M2 a b) : M = M2 := by
  obtain ⟨s1, i1, j1, r1⟩ := M
  obtain ⟨s2, i2, j2, r2⟩ := M2
  have e1 : i1 = i2 := funext fun a => funext fun b => h1 a b
  have e2 : j1 = j2 := funext fun a => funext fun b => h2 a b
  have e3 : r1 = r2 := funext fun a => funext fun b => h3 a b
  cases h; cases e1; cases e2; cases e3; rfl
theorem cpI_0 (M : Mem) (t f : Nat) : cpI M t f 0 0 0 = M := by
  refine mem_ext rfl (fun a b => ?_) (fun _ _ => rfl) (fun _ _ => rfl)
  rw [mI_cpI, if_neg (by omega)]
theorem cpI_step (M : Mem) (t f k : Nat) : sI (cpI M t f 0 0 k) t k (mI M f k) = cpI M t f 0 0 (k + 1) := by
  refine mem_ext rfl (fun a b => ?_) (fun _ _ => rfl) (fun _ _ => rfl)
  rw [mI_sI, mI_cpI, mI_cpI]
  by_cases h1 : a = t ∧ b = k
  · obtain ⟨rfl, rfl⟩ := h1
    rw [if_pos ⟨rfl, rfl⟩, if_pos (by omega)]
    congr 1
    omega
  · rw [if_neg h1]
    by_cases h2 : a = t ∧ 0 ≤ b ∧ b < 0 + k
    · rw [if_pos h2, if_pos (by omega)]
    · rw [if_neg h2, if_neg (by omega)]
set_option maxRecDepth 4000 in
theorem qX12_copy_i {l : Launch} {M : Mem} (hs1 : M.1[55]? = some (.inr (0, 589))) (hs2 : M.1[56]? = some (.inr (0, 589))) : Fn l mdX12_copy [aR 55, aR 56] M none (cpI M 56 55 0 0 589) := by
  have loop : ∀ (n k : Nat), k + n = 589 → VC l mdX12_copy 2 [some (aR 55), some (aR 56), some (aI (k : Int))] [] (cpI M 56 55 0 0 k) 0 0 (fun r M2 => r = none ∧ M2 = cpI M 56 55 0 0 589) := by
    intro n
    induction n with
    | zero =>
      intro k hk
      have e : k = 589 := by omega
      subst e
      refine vc_iload_n dX12_copy_2 rfl ?_
      refine vc_sipush dX12_copy_3 rfl ?_
      refine vc_icmp_ge dX12_copy_6 (fun h1 => ?_) (fun h1 => by exfalso; omega)
      refine vc_vret dX12_copy_21 rfl (Nat.le_of_ble_eq_true rfl) (Nat.le_of_ble_eq_true rfl) ?_
      exact ⟨rfl, rfl⟩
    | succ n ih =>
      intro k hk
      refine vc_iload_n dX12_copy_2 rfl ?_
      refine vc_sipush dX12_copy_3 rfl ?_
      refine vc_icmp_ge dX12_copy_6 (fun h2 => by exfalso; omega) (fun h2 => ?_)
      refine vc_aload_n dX12_copy_9 rfl ?_
      refine vc_iload_n dX12_copy_10 rfl ?_
      refine vc_aload_n dX12_copy_11 rfl ?_
      refine vc_iload_n dX12_copy_12 rfl ?_
      refine vc_iaload dX12_copy_13 hs1 (by omega) (by omega) ?_
      refine vc_iastore dX12_copy_14 hs2 (by omega) (by omega) ?_
      refine vc_iincE dX12_copy_15 rfl (by omega) (by omega) (by decide) rfl (show _ = [some (aR 55), some (aR 56), some (aI ((k : Int) + 1))] from rfl) ?_
      refine vc_goto dX12_copy_18 ?_
      have e1 : sI (cpI M 56 55 0 0 k) 56 (k : Int).toNat (mI (cpI M 56 55 0 0 k) 55 (k : Int).toNat) = cpI M 56 55 0 0 (k + 1) := by
        rw [Int.toNat_natCast, show mI (cpI M 56 55 0 0 k) 55 k = mI M 55 k from rfl, cpI_step]
      rw [e1, show (k : Int) + 1 = ((k + 1 : Nat) : Int) by omega]
      exact ih (k + 1) (by omega)
  refine Call.of [some (aR 55), some (aR 56), none] rfl (Nat.le_of_ble_eq_true rfl) rfl ?_
  refine vc_iconst dX12_copy_0 rfl ?_
  refine vc_istore_n dX12_copy_1 (by decide) rfl (show _ = [some (aR 55), some (aR 56), some (aI 0)] from rfl) ?_
  have h0 := loop 589 0 rfl
  rw [cpI_0] at h0
  exact h0
set_option maxRecDepth 4000 in
theorem qX12_copy_b {l : Launch} {M : Mem} (hs1 : M.1[56]? = some (.inr (0, 589))) (hs2 : M.1[55]? = some (.inr (0, 589))) : Fn l mdX12_copy [aR 56, aR 55] M none (cpI M 55 56 0 0 589) := by
  have loop : ∀ (n k : Nat), k + n = 589 → VC l mdX12_copy 2 [some (aR 56), some (aR 55), some (aI (k : Int))] [] (cpI M 55 56 0 0 k) 0 0 (fun r M2 => r = none ∧ M2 = cpI M 55 56 0 0 589) := by
    intro n
    induction n with
    | zero =>
      intro k hk
      have e : k = 589 := by omega
      subst e
      refine vc_iload_n dX12_copy_2 rfl ?_
      refine vc_sipush dX12_copy_3 rfl ?_
      refine vc_icmp_ge dX12_copy_6 (fun h1 => ?_) (fun h1 => by exfalso; omega)
      refine vc_vret dX12_copy_21 rfl (Nat.le_of_ble_eq_true rfl) (Nat.le_of_ble_eq_true rfl) ?_
      exact ⟨rfl, rfl⟩
    | succ n ih =>
      intro k hk
      refine vc_iload_n dX12_copy_2 rfl ?_
      refine vc_sipush dX12_copy_3 rfl ?_
      refine vc_icmp_ge dX12_copy_6 (fun h2 => by exfalso; omega) (fun h2 => ?_)
      refine vc_aload_n dX12_copy_9 rfl ?_
      refine vc_iload_n dX12_copy_10 rfl ?_
      refine vc_aload_n dX12_copy_11 rfl ?_
      refine vc_iload_n dX12_copy_12 rfl ?_
      refine vc_iaload dX12_copy_13 hs1 (by omega) (by omega) ?_
      refine vc_iastore dX12_copy_14 hs2 (by omega) (by omega) ?_
      refine vc_iincE dX12_copy_15 rfl (by omega) (by omega) (by decide) rfl (show _ = [some (aR 56), some (aR 55), some (aI ((k : Int) + 1))] from rfl) ?_
      refine vc_goto dX12_copy_18 ?_
      have e1 : sI (cpI M 55 56 0 0 k) 55 (k : Int).toNat (mI (cpI M 55 56 0 0 k) 56 (k : Int).toNat) = cpI M 55 56 0 0 (k + 1) := by
        rw [Int.toNat_natCast, show mI (cpI M 55 56 0 0 k) 56 k = mI M 56 k from rfl, cpI_step]
      rw [e1, show (k : Int) + 1 = ((k + 1 : Nat) : Int) by omega]
      exact ih (k + 1) (by omega)
  refine Call.of [some (aR 56), some (aR 55), none] rfl (Nat.le_of_ble_eq_true rfl) rfl ?_
  refine vc_iconst dX12_copy_0 rfl ?_
  refine vc_istore_n dX12_copy_1 (by decide) rfl (show _ = [some (aR 56), some (aR 55), some (aI 0)] from rfl) ?_
  have h0 := loop 589 0 rfl
  rw [cpI_0] at h0
  exact h0
def fX12_image (M : Mem)  : Int := mI (cpI M 56 55 0 0 589) 55 0
def gX12_image (M : Mem)  : Mem := (cpI M 56 55 0 0 589)
set_option maxRecDepth 4000 in
theorem qX12_image {l : Launch} {M : Mem} (hS : St M)   : Fn l mdX12_image [aR 54] M (some (aI (fX12_image M ))) (gX12_image M ) := by
  refine Call.of [some (aR 54)] rfl (Nat.le_of_ble_eq_true rfl) rfl ?_
  refine vc_aload_n dX12_image_0 rfl ?_
  refine vc_getR dX12_image_1 flX12_7 (s_54 hS) rfl (r_54_0 hS) ?_
  refine vc_aload_n dX12_image_4 rfl ?_
  refine vc_getR dX12_image_5 flX12_13 (s_54 hS) rfl (r_54_1 hS) ?_
  refine vc_callSU dX12_image_8 (qX12_copy_i (M := M) (s_55 hS) (s_56 hS)) rfl okX12_copy stX12_copy lkX12_79 rfl (Nat.le_of_ble_eq_true rfl) ⟨rfl, rfl⟩ (Nat.le_of_ble_eq_true rfl) (Nat.le_of_ble_eq_true rfl) (Nat.le_of_ble_eq_true rfl) ?_
  refine vc_aload_n dX12_image_11 rfl ?_
  refine vc_getR dX12_image_12 flX12_7 (s_54 (St.C hS _ _ _ _ _)) rfl (r_54_0 (St.C hS _ _ _ _ _)) ?_
  refine vc_iconst dX12_image_15 rfl ?_
  refine vc_iaload dX12_image_16 (s_55 (St.C hS _ _ _ _ _)) (by omega) (by omega) ?_
  refine vc_topI (mI (cpI M 56 55 0 0 589) 55 0) rfl ?_
  refine vc_iret dX12_image_17 rfl (Nat.le_of_ble_eq_true rfl) (Nat.le_of_ble_eq_true rfl) ?_
  exact ⟨rfl, rfl⟩
theorem tX12_image {M : Mem} (hS : St M)  : St (gX12_image M ) := by
  unfold gX12_image
  all_goals first | exact (St.C hS _ _ _ _ _)

def fX12_back (M : Mem)  : Int := mI (cpI M 55 56 0 0 589) 55 0
def gX12_back (M : Mem)  : Mem := (cpI M 55 56 0 0 589)
set_option maxRecDepth 4000 in
theorem qX12_back {l : Launch} {M : Mem} (hS : St M)   : Fn l mdX12_back [aR 54] M (some (aI (fX12_back M ))) (gX12_back M ) := by
  refine Call.of [some (aR 54)] rfl (Nat.le_of_ble_eq_true rfl) rfl ?_
  refine vc_aload_n dX12_back_0 rfl ?_
  refine vc_getR dX12_back_1 flX12_13 (s_54 hS) rfl (r_54_1 hS) ?_
  refine vc_aload_n dX12_back_4 rfl ?_
  refine vc_getR dX12_back_5 flX12_7 (s_54 hS) rfl (r_54_0 hS) ?_
  refine vc_callSU dX12_back_8 (qX12_copy_b (M := M) (s_56 hS) (s_55 hS)) rfl okX12_copy stX12_copy lkX12_79 rfl (Nat.le_of_ble_eq_true rfl) ⟨rfl, rfl⟩ (Nat.le_of_ble_eq_true rfl) (Nat.le_of_ble_eq_true rfl) (Nat.le_of_ble_eq_true rfl) ?_
  refine vc_aload_n dX12_back_11 rfl ?_
  refine vc_getR dX12_back_12 flX12_7 (s_54 (St.C hS _ _ _ _ _)) rfl (r_54_0 (St.C hS _ _ _ _ _)) ?_
  refine vc_iconst dX12_back_15 rfl ?_
  refine vc_iaload dX12_back_16 (s_55 (St.C hS _ _ _ _ _)) (by omega) (by omega) ?_
  refine vc_topI (mI (cpI M 55 56 0 0 589) 55 0) rfl ?_
  refine vc_iret dX12_back_17 rfl (Nat.le_of_ble_eq_true rfl) (Nat.le_of_ble_eq_true rfl) ?_
  exact ⟨rfl, rfl⟩
theorem tX12_back {M : Mem} (hS : St M)  : St (gX12_back M ) := by
  unfold gX12_back
  all_goals first | exact (St.C hS _ _ _ _ _)

