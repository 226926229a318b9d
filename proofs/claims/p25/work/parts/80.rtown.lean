/-! CONTRACTS of the reference: the town (written by wip/p35/c80.py) -/
theorem aB_cnt {M : Mem} (h : Box M) {t : Int} (h0 : 0 ≤ t) (h1 : t < mI M 55 3) : 1 ≤ mI M 55 (((184 + (9 * t)) + 2)).toNat := by
  have q := h.2.2.2.1.2.1 t.toNat (by omega)
  rw [show (184 + 9 * t.toNat + 2) = (((184 + (9 * t)) + 2)).toNat by omega] at q
  exact q
/-- a write of a street -/
theorem BX.aS {M0 M : Mem} (h : BX M0 M) {x v : Int} (h0 : 10 ≤ x) (h9 : x < 154) (hc : 1 ≤ (x - 10) % 9 ∧ (x - 10) % 9 ≤ 4) (v0 : -1 ≤ v) (v1 : v ≤ 15) (hv : v < mI M 55 0) : BX M0 (sI M 55 x.toNat v) := by
  obtain ⟨⟨h1, h2, h3, h4, h5, h6, h7⟩, hd⟩ := h
  have eo : ∀ b, b ≠ x.toNat → mI (sI M 55 x.toNat v) 55 b = mI M 55 b := fun b hb => by rw [mI_sI, if_neg (fun e => hb e.2)]
  have e6 : mI (sI M 55 x.toNat v) 56 = mI M 56 := funext fun b => by rw [mI_sI, if_neg (fun e => by omega)]
  have e7 : mI (sI M 55 x.toNat v) 57 = mI M 57 := funext fun b => by rw [mI_sI, if_neg (fun e => by omega)]
  have z0 := eo 0 (by omega)
  have z3 := eo 3 (by omega)
  have z5 := eo 5 (by omega)
  have z6 := eo 6 (by omega)
  refine ⟨⟨h1, bx_sI h2 (by show aB _ _; unfold aB; refine ⟨?_, ?_, ?_, ?_, ?_, ?_, ?_, ?_, ?_, ?_, ?_, ?_, ?_, ?_, ?_, ?_, ?_, ?_⟩ <;> intros <;> omega), h3.same ((Dz.refl M).sI (by decide)) (fun _ _ _ => rfl), ?_⟩, hd.sI (by decide)⟩
  refine ⟨⟨fun c d hc2 hd2 => ?_, fun t ht => ?_, ?_⟩, by rw [e6]; exact h5, by rw [e6, z5]; exact h6, by rw [e7, z5]; exact h7⟩
  · rw [z0] at hc2 ⊢
    by_cases hb : 10 + 9 * c + 1 + d = x.toNat
    · rw [hb, mI_sI, if_pos ⟨rfl, rfl⟩]
      exact hv
    · rw [eo _ hb]
      exact h4.1 c d hc2 hd2
  · have hb := (h2 55 3).2.2.2.1 rfl
    rw [z3] at ht
    rw [eo _ (by omega)]
    exact h4.2.1 t ht
  · rw [z6, z5]
    exact h4.2.2
/-- one corner more -/
theorem BX.a0 {M0 M : Mem} (h : BX M0 M) {v : Int} (hv : v = mI M 55 0 + 1) (h16 : v ≤ 16) (hs : ∀ d : Nat, d < 4 → mI M 55 (10 + 9 * (mI M 55 0).toNat + 1 + d) < v) : BX M0 (sI M 55 0 v) := by
  obtain ⟨⟨h1, h2, h3, h4, h5, h6, h7⟩, hd⟩ := h
  have eo : ∀ b, b ≠ 0 → mI (sI M 55 0 v) 55 b = mI M 55 b := fun b hb => by rw [mI_sI, if_neg (fun e => hb e.2)]
  have e0 : mI (sI M 55 0 v) 55 0 = v := by rw [mI_sI, if_pos ⟨rfl, rfl⟩]
  have e6 : mI (sI M 55 0 v) 56 = mI M 56 := funext fun b => by rw [mI_sI, if_neg (fun e => by omega)]
  have e7 : mI (sI M 55 0 v) 57 = mI M 57 := funext fun b => by rw [mI_sI, if_neg (fun e => by omega)]
  have hb := (h2 55 0).1 rfl
  refine ⟨⟨h1, bx_sI h2 (by show aB _ _; unfold aB; refine ⟨?_, ?_, ?_, ?_, ?_, ?_, ?_, ?_, ?_, ?_, ?_, ?_, ?_, ?_, ?_, ?_, ?_, ?_⟩ <;> intros <;> omega), h3.same ((Dz.refl M).sI (by decide)) (fun _ _ _ => rfl), ?_⟩, hd.sI (by decide)⟩
  refine ⟨⟨fun c d hc2 hd2 => ?_, fun t ht => ?_, ?_⟩, by rw [e6]; exact h5, by rw [e6, eo 5 (by decide)]; exact h6, by rw [e7, eo 5 (by decide)]; exact h7⟩
  · rw [e0] at hc2 ⊢
    rw [eo _ (by omega)]
    by_cases hcn : (c : Int) = mI M 55 0
    · have q := hs d hd2
      rw [show (mI M 55 0).toNat = c by omega] at q
      exact q
    · have q := h4.1 c d (by omega) hd2
      omega
  · rw [eo 3 (by decide)] at ht
    rw [eo _ (by omega)]
    exact h4.2.1 t ht
  · rw [eo 6 (by decide), eo 5 (by decide)]
    exact h4.2.2
/-- the count of a telling that isn't told yet -/
theorem BX.aC {M0 M : Mem} (h : BX M0 M) {x v : Int} (h0 : 184 ≤ x) (h9 : x < 256) (hc : (x - 184) % 9 = 2) (v0 : 0 ≤ v) (v1 : v ≤ 6) (hv : mI M 55 3 ≤ (x - 184) / 9) : BX M0 (sI M 55 x.toNat v) := by
  obtain ⟨⟨h1, h2, h3, h4, h5, h6, h7⟩, hd⟩ := h
  have eo : ∀ b, b ≠ x.toNat → mI (sI M 55 x.toNat v) 55 b = mI M 55 b := fun b hb => by rw [mI_sI, if_neg (fun e => hb e.2)]
  have e6 : mI (sI M 55 x.toNat v) 56 = mI M 56 := funext fun b => by rw [mI_sI, if_neg (fun e => by omega)]
  have e7 : mI (sI M 55 x.toNat v) 57 = mI M 57 := funext fun b => by rw [mI_sI, if_neg (fun e => by omega)]
  have z0 := eo 0 (by omega)
  have z3 := eo 3 (by omega)
  have z5 := eo 5 (by omega)
  have z6 := eo 6 (by omega)
  refine ⟨⟨h1, bx_sI h2 (by show aB _ _; unfold aB; refine ⟨?_, ?_, ?_, ?_, ?_, ?_, ?_, ?_, ?_, ?_, ?_, ?_, ?_, ?_, ?_, ?_, ?_, ?_⟩ <;> intros <;> omega), h3.same ((Dz.refl M).sI (by decide)) (fun _ _ _ => rfl), ?_⟩, hd.sI (by decide)⟩
  refine ⟨⟨fun c d hc2 hd2 => ?_, fun t ht => ?_, ?_⟩, by rw [e6]; exact h5, by rw [e6, z5]; exact h6, by rw [e7, z5]; exact h7⟩
  · have hb := (h2 55 0).1 rfl
    rw [z0] at hc2 ⊢
    rw [eo _ (by omega)]
    exact h4.1 c d hc2 hd2
  · rw [z3] at ht
    rw [eo _ (by omega)]
    exact h4.2.1 t ht
  · rw [z6, z5]
    exact h4.2.2
/-- one telling more -/
theorem BX.a3 {M0 M : Mem} (h : BX M0 M) {v : Int} (hv : v = mI M 55 3 + 1) (h8 : v ≤ 8) (hs : 1 ≤ mI M 55 (184 + 9 * (mI M 55 3).toNat + 2)) : BX M0 (sI M 55 3 v) := by
  obtain ⟨⟨h1, h2, h3, h4, h5, h6, h7⟩, hd⟩ := h
  have eo : ∀ b, b ≠ 3 → mI (sI M 55 3 v) 55 b = mI M 55 b := fun b hb => by rw [mI_sI, if_neg (fun e => hb e.2)]
  have e0 : mI (sI M 55 3 v) 55 3 = v := by rw [mI_sI, if_pos ⟨rfl, rfl⟩]
  have e6 : mI (sI M 55 3 v) 56 = mI M 56 := funext fun b => by rw [mI_sI, if_neg (fun e => by omega)]
  have e7 : mI (sI M 55 3 v) 57 = mI M 57 := funext fun b => by rw [mI_sI, if_neg (fun e => by omega)]
  have hb := (h2 55 3).2.2.2.1 rfl
  refine ⟨⟨h1, bx_sI h2 (by show aB _ _; unfold aB; refine ⟨?_, ?_, ?_, ?_, ?_, ?_, ?_, ?_, ?_, ?_, ?_, ?_, ?_, ?_, ?_, ?_, ?_, ?_⟩ <;> intros <;> omega), h3.same ((Dz.refl M).sI (by decide)) (fun _ _ _ => rfl), ?_⟩, hd.sI (by decide)⟩
  refine ⟨⟨fun c d hc2 hd2 => ?_, fun t ht => ?_, ?_⟩, by rw [e6]; exact h5, by rw [e6, eo 5 (by decide)]; exact h6, by rw [e7, eo 5 (by decide)]; exact h7⟩
  · rw [eo 0 (by decide)] at hc2 ⊢
    rw [eo _ (by omega)]
    exact h4.1 c d hc2 hd2
  · rw [e0] at ht
    rw [eo _ (by omega)]
    by_cases hcn : (t : Int) = mI M 55 3
    · rw [show (mI M 55 3).toNat = t by omega] at hs
      exact hs
    · exact h4.2.1 t (by omega)
  · rw [eo 6 (by decide), eo 5 (by decide)]
    exact h4.2.2
/-- the text that rules -/
theorem BX.a6 {M0 M : Mem} (h : BX M0 M) {v : Int} (v0 : -1 ≤ v) (hv : v < mI M 55 5) : BX M0 (sI M 55 6 v) := by
  obtain ⟨⟨h1, h2, h3, h4, h5, h6, h7⟩, hd⟩ := h
  have eo : ∀ b, b ≠ 6 → mI (sI M 55 6 v) 55 b = mI M 55 b := fun b hb => by rw [mI_sI, if_neg (fun e => hb e.2)]
  have e0 : mI (sI M 55 6 v) 55 6 = v := by rw [mI_sI, if_pos ⟨rfl, rfl⟩]
  have e6 : mI (sI M 55 6 v) 56 = mI M 56 := funext fun b => by rw [mI_sI, if_neg (fun e => by omega)]
  have e7 : mI (sI M 55 6 v) 57 = mI M 57 := funext fun b => by rw [mI_sI, if_neg (fun e => by omega)]
  have hb := (h2 55 5).2.2.2.2.2.1 rfl
  refine ⟨⟨h1, bx_sI h2 (by show aB _ _; unfold aB; refine ⟨?_, ?_, ?_, ?_, ?_, ?_, ?_, ?_, ?_, ?_, ?_, ?_, ?_, ?_, ?_, ?_, ?_, ?_⟩ <;> intros <;> omega), h3.same ((Dz.refl M).sI (by decide)) (fun _ _ _ => rfl), ?_⟩, hd.sI (by decide)⟩
  refine ⟨⟨fun c d hc2 hd2 => ?_, fun t ht => ?_, ?_⟩, by rw [e6]; exact h5, by rw [e6, eo 5 (by decide)]; exact h6, by rw [e7, eo 5 (by decide)]; exact h7⟩
  · rw [eo 0 (by decide)] at hc2 ⊢
    rw [eo _ (by omega)]
    exact h4.1 c d hc2 hd2
  · rw [eo 3 (by decide)] at ht
    rw [eo _ (by omega)]
    exact h4.2.1 t ht
  · rw [e0, eo 5 (by decide)]
    exact hv
theorem BF.aS {f : Nat → Nat → Bool} {A M : Mem} (h : BF f A M) {x v : Int} (h0 : 10 ≤ x) (h9 : x < 154) (hc : 1 ≤ (x - 10) % 9 ∧ (x - 10) % 9 ≤ 4) (v0 : -1 ≤ v) (v1 : v ≤ 15) (hv : v < mI M 55 0) (hf : ∀ i, i ≠ 5 → f 55 i = false := by exact fR_55) : BF f A (sI M 55 x.toNat v) := h.of ((BX.start h.1).aS h0 h9 hc v0 v1 hv) (FzF.sI (hf _ (by omega))) (fun _ _ => rfl)
theorem BF.a0 {f : Nat → Nat → Bool} {A M : Mem} (h : BF f A M) {v : Int} (hv : v = mI M 55 0 + 1) (h16 : v ≤ 16) (hs : ∀ d : Nat, d < 4 → mI M 55 (10 + 9 * (mI M 55 0).toNat + 1 + d) < v) (hf : ∀ i, i ≠ 5 → f 55 i = false := by exact fR_55) : BF f A (sI M 55 0 v) := h.of ((BX.start h.1).a0 hv h16 hs) (FzF.sI (hf _ (by omega))) (fun _ _ => rfl)
theorem BF.aC {f : Nat → Nat → Bool} {A M : Mem} (h : BF f A M) {x v : Int} (h0 : 184 ≤ x) (h9 : x < 256) (hc : (x - 184) % 9 = 2) (v0 : 0 ≤ v) (v1 : v ≤ 6) (hv : mI M 55 3 ≤ (x - 184) / 9) (hf : ∀ i, i ≠ 5 → f 55 i = false := by exact fR_55) : BF f A (sI M 55 x.toNat v) := h.of ((BX.start h.1).aC h0 h9 hc v0 v1 hv) (FzF.sI (hf _ (by omega))) (fun _ _ => rfl)
theorem BF.a3 {f : Nat → Nat → Bool} {A M : Mem} (h : BF f A M) {v : Int} (hv : v = mI M 55 3 + 1) (h8 : v ≤ 8) (hs : 1 ≤ mI M 55 (184 + 9 * (mI M 55 3).toNat + 2)) (hf : ∀ i, i ≠ 5 → f 55 i = false := by exact fR_55) : BF f A (sI M 55 3 v) := h.of ((BX.start h.1).a3 hv h8 hs) (FzF.sI (hf _ (by omega))) (fun _ _ => rfl)
theorem BF.a6 {f : Nat → Nat → Bool} {A M : Mem} (h : BF f A M) {v : Int} (v0 : -1 ≤ v) (hv : v < mI M 55 5) (hf : ∀ i, i ≠ 5 → f 55 i = false := by exact fR_55) : BF f A (sI M 55 6 v) := h.of ((BX.start h.1).a6 v0 hv) (FzF.sI (hf _ (by omega))) (fun _ _ => rfl)

set_option maxRecDepth 4000 in
theorem sfX12_isIn {l : Launch} {M : Mem} (hB : Box M)  (v : Int) (lo : Int) (hi : Int)  : Call l mdX12_isIn [aI v, aI lo, aI hi] M (fun q N => ∃ r : Int, q = some (aI r) ∧ M = N ∧ 0 ≤ r ∧ r ≤ 1 ∧ (r = 0 ∨ (lo ≤ v ∧ v ≤ hi))) := by
  have hB0 : BF fQ M M := BF.start hB
  refine Call.of [some (aI v), some (aI lo), some (aI hi)] rfl (Nat.le_of_ble_eq_true rfl) rfl ?_
  refine vc_ok (fun hoM hoS hoL => ?_)
  have hr0 : -2147483648 ≤ v ∧ v < 2147483648 := hoL 0 _ rfl
  have hr1 : -2147483648 ≤ lo ∧ lo < 2147483648 := hoL 1 _ rfl
  have hr2 : -2147483648 ≤ hi ∧ hi < 2147483648 := hoL 2 _ rfl
  refine vc_iload_n dX12_isIn_0 rfl ?_
  refine vc_iload_n dX12_isIn_1 rfl ?_
  refine vc_icmp_lt dX12_isIn_2 (fun h1 => ?_) (fun h1 => ?_)
  · refine vc_iconst dX12_isIn_14 rfl ?_
    refine vc_zret dX12_isIn_15 rfl (by first | decide | omega) (Nat.le_of_ble_eq_true rfl) (Nat.le_of_ble_eq_true rfl) ?_
    exact ⟨_, rfl, rfl, by omega, by omega, by omega⟩
  · refine vc_iload_n dX12_isIn_5 rfl ?_
    refine vc_iload_n dX12_isIn_6 rfl ?_
    refine vc_icmp_gt dX12_isIn_7 (fun h2 => ?_) (fun h2 => ?_)
    · refine vc_iconst dX12_isIn_14 rfl ?_
      refine vc_zret dX12_isIn_15 rfl (by first | decide | omega) (Nat.le_of_ble_eq_true rfl) (Nat.le_of_ble_eq_true rfl) ?_
      exact ⟨_, rfl, rfl, by omega, by omega, by omega⟩
    · refine vc_iconst dX12_isIn_10 rfl ?_
      refine vc_goto dX12_isIn_11 ?_
      refine vc_zret dX12_isIn_15 rfl (by first | decide | omega) (Nat.le_of_ble_eq_true rfl) (Nat.le_of_ble_eq_true rfl) ?_
      exact ⟨_, rfl, rfl, by omega, by omega, by omega⟩

set_option maxRecDepth 4000 in
theorem sfX12_has {l : Launch} {M : Mem} (hB : Box M)  (s : Int) (k : Int)  : Call l mdX12_has [aI s, aI k] M (fun q N => ∃ r : Int, q = some (aI r) ∧ M = N ∧ 0 ≤ r ∧ r ≤ 1) := by
  have hB0 : BF fQ M M := BF.start hB
  refine Call.of [some (aI s), some (aI k)] rfl (Nat.le_of_ble_eq_true rfl) rfl ?_
  refine vc_ok (fun hoM hoS hoL => ?_)
  have hr0 : -2147483648 ≤ s ∧ s < 2147483648 := hoL 0 _ rfl
  have hr1 : -2147483648 ≤ k ∧ k < 2147483648 := hoL 1 _ rfl
  refine vc_iload_n dX12_has_0 rfl ?_
  refine vc_iload_n dX12_has_1 rfl ?_
  refine vc_ishr dX12_has_2 ?_
  refine vc_iconst dX12_has_3 rfl ?_
  refine vc_iandM dX12_has_4 2 1 rfl (by decide) rfl ?_
  refine vc_iconst dX12_has_5 rfl ?_
  refine vc_icmp_ne dX12_has_6 (fun h1 => ?_) (fun h1 => ?_)
  · refine vc_iconst dX12_has_13 rfl ?_
    refine vc_zret dX12_has_14 rfl (by first | decide | omega) (Nat.le_of_ble_eq_true rfl) (Nat.le_of_ble_eq_true rfl) ?_
    exact ⟨_, rfl, rfl, by omega, by omega⟩
  · refine vc_iconst dX12_has_9 rfl ?_
    refine vc_goto dX12_has_10 ?_
    refine vc_zret dX12_has_14 rfl (by first | decide | omega) (Nat.le_of_ble_eq_true rfl) (Nat.le_of_ble_eq_true rfl) ?_
    exact ⟨_, rfl, rfl, by omega, by omega⟩

set_option maxRecDepth 4000 in
theorem sfX12_bits {l : Launch} {M : Mem} (hB : Box M)  (s : Int)  : Call l mdX12_bits [aI s] M (fun q N => ∃ r : Int, q = some (aI r) ∧ M = N) := by
  have hB0 : BF fQ M M := BF.start hB
  refine Call.of [some (aI s), none, none] rfl (Nat.le_of_ble_eq_true rfl) rfl ?_
  refine vc_ok (fun hoM hoS hoL => ?_)
  have hr0 : -2147483648 ≤ s ∧ s < 2147483648 := hoL 0 _ rfl
  refine vc_iconst dX12_bits_0 rfl ?_
  refine vc_istore_n dX12_bits_1 (by decide) rfl (show _ = [some (aI s), some (aI 0), none] from rfl) ?_
  refine vc_iconst dX12_bits_2 rfl ?_
  refine vc_istore_n dX12_bits_3 (by decide) rfl (show _ = [some (aI s), some (aI 0), some (aI 0)] from rfl) ?_
  have lp4 : ∀ (n4 : Nat) (v1 : Int) (v2 : Int), (0 ≤ v2) → (v2 ≤ 16) → (16 - v2).toNat < n4 → VC l mdX12_bits 4 [some (aI s), some (aI v1), some (aI v2)] [] M 0 0 (fun q N => ∃ r : Int, q = some (aI r) ∧ M = N) := by
    intro n4
    induction n4 with
    | zero => intro v1 v2 g4_2a g4_2b hm4; exact absurd hm4 (Nat.not_lt_zero _)
    | succ n4 ih4 =>
      intro v1 v2 g4_2a g4_2b hm4
      refine vc_iload_n dX12_bits_4 rfl ?_
      refine vc_bipush dX12_bits_5 rfl ?_
      refine vc_icmp_ge dX12_bits_7 (fun h1 => ?_) (fun h1 => ?_)
      · refine vc_iload_n dX12_bits_24 rfl ?_
        refine vc_iret dX12_bits_25 rfl (Nat.le_of_ble_eq_true rfl) (Nat.le_of_ble_eq_true rfl) ?_
        exact ⟨_, rfl, rfl⟩
      · refine vc_iload_n dX12_bits_10 rfl ?_
        refine vc_iload_n dX12_bits_11 rfl ?_
        refine vc_iload_n dX12_bits_12 rfl ?_
        refine vc_ishr dX12_bits_13 ?_
        refine vc_iconst dX12_bits_14 rfl ?_
        refine vc_iandM dX12_bits_15 2 1 rfl (by decide) rfl ?_
        refine vc_iadd dX12_bits_16 ?_
        refine vc_nameI (fun x2 ex2 => ?_)
        refine vc_istore_n dX12_bits_17 (by decide) rfl (show _ = [some (aI s), some (aI x2), some (aI v2)] from rfl) ?_
        refine vc_iincE dX12_bits_18 rfl (by omega) (by omega) (by decide) rfl (show _ = [some (aI s), some (aI x2), some (aI (v2 + 1))] from rfl) ?_
        refine vc_goto dX12_bits_21 ?_
        exact ih4 x2 (v2 + 1) (by omega) (by omega) (by omega)
  exact lp4 _ 0 0 (by omega) (by omega) (Nat.lt_succ_self _)

set_option maxRecDepth 4000 in
theorem sfX12_isCorner {l : Launch} {M : Mem} (hB : Box M)  (c : Int)  : Call l mdX12_isCorner [aR 54, aI c] M (fun q N => ∃ r : Int, q = some (aI r) ∧ M = N ∧ 0 ≤ r ∧ r ≤ 1 ∧ (r = 0 ∨ (0 ≤ c ∧ c < mI M 55 0 ∧ c ≤ 15))) := by
  have hB0 : BF fQ M M := BF.start hB
  refine Call.of [some (aR 54), some (aI c)] rfl (Nat.le_of_ble_eq_true rfl) rfl ?_
  refine vc_ok (fun hoM hoS hoL => ?_)
  have hr1 : -2147483648 ≤ c ∧ c < 2147483648 := hoL 1 _ rfl
  refine vc_iload_n dX12_isCorner_0 rfl ?_
  refine vc_iconst dX12_isCorner_1 rfl ?_
  refine vc_aload_n dX12_isCorner_2 rfl ?_
  refine vc_getR dX12_isCorner_3 flX12_7 (s_54 hB0.1.1) rfl (r_54_0 hB0.1.1) ?_
  refine vc_iconst dX12_isCorner_6 rfl ?_
  refine vc_iaload dX12_isCorner_7 (s_55 hB0.1.1) (by omega) (by omega) ?_
  refine vc_topI (mI M 55 0) rfl ?_
  have k1 : 0 ≤ mI M 55 0 ∧ mI M 55 0 ≤ 16 := b55_0 (M := M) hB0.1
  refine vc_iconst dX12_isCorner_8 rfl ?_
  refine vc_isubE dX12_isCorner_9 (by omega) (by omega) ?_
  refine vc_cSI dX12_isCorner_10 (sfX12_isIn (M := M) hB0.1  c 0 ((mI M 55 0) - 1) ) rfl okX12_isIn stX12_isIn lkX12_83 rfl (Nat.le_of_ble_eq_true rfl) ⟨rfl, rfl⟩ (Nat.le_of_ble_eq_true rfl) (Nat.le_of_ble_eq_true rfl) (Nat.le_of_ble_eq_true rfl) ?_
  rintro x2 _ ⟨rfl, h3, h4, h5⟩
  refine vc_zret dX12_isCorner_13 rfl (by first | decide | omega) (Nat.le_of_ble_eq_true rfl) (Nat.le_of_ble_eq_true rfl) ?_
  exact ⟨_, rfl, rfl, by omega, by omega, by omega⟩

set_option maxRecDepth 4000 in
theorem sfX12_isTeller {l : Launch} {M : Mem} (hB : Box M)  (c : Int)  : Call l mdX12_isTeller [aR 54, aI c] M (fun q N => ∃ r : Int, q = some (aI r) ∧ M = N ∧ 0 ≤ r ∧ r ≤ 1 ∧ (r = 0 ∨ (0 ≤ c ∧ c < mI M 55 2 ∧ c ≤ 5))) := by
  have hB0 : BF fQ M M := BF.start hB
  refine Call.of [some (aR 54), some (aI c)] rfl (Nat.le_of_ble_eq_true rfl) rfl ?_
  refine vc_ok (fun hoM hoS hoL => ?_)
  have hr1 : -2147483648 ≤ c ∧ c < 2147483648 := hoL 1 _ rfl
  refine vc_iload_n dX12_isTeller_0 rfl ?_
  refine vc_iconst dX12_isTeller_1 rfl ?_
  refine vc_aload_n dX12_isTeller_2 rfl ?_
  refine vc_getR dX12_isTeller_3 flX12_7 (s_54 hB0.1.1) rfl (r_54_0 hB0.1.1) ?_
  refine vc_iconst dX12_isTeller_6 rfl ?_
  refine vc_iaload dX12_isTeller_7 (s_55 hB0.1.1) (by omega) (by omega) ?_
  refine vc_topI (mI M 55 2) rfl ?_
  have k1 : 0 ≤ mI M 55 2 ∧ mI M 55 2 ≤ 6 := b55_2 (M := M) hB0.1
  refine vc_iconst dX12_isTeller_8 rfl ?_
  refine vc_isubE dX12_isTeller_9 (by omega) (by omega) ?_
  refine vc_cSI dX12_isTeller_10 (sfX12_isIn (M := M) hB0.1  c 0 ((mI M 55 2) - 1) ) rfl okX12_isIn stX12_isIn lkX12_83 rfl (Nat.le_of_ble_eq_true rfl) ⟨rfl, rfl⟩ (Nat.le_of_ble_eq_true rfl) (Nat.le_of_ble_eq_true rfl) (Nat.le_of_ble_eq_true rfl) ?_
  rintro x2 _ ⟨rfl, h3, h4, h5⟩
  refine vc_zret dX12_isTeller_13 rfl (by first | decide | omega) (Nat.le_of_ble_eq_true rfl) (Nat.le_of_ble_eq_true rfl) ?_
  exact ⟨_, rfl, rfl, by omega, by omega, by omega⟩

set_option maxRecDepth 4000 in
theorem sfX12_isTelling {l : Launch} {M : Mem} (hB : Box M)  (c : Int)  : Call l mdX12_isTelling [aR 54, aI c] M (fun q N => ∃ r : Int, q = some (aI r) ∧ M = N ∧ 0 ≤ r ∧ r ≤ 1 ∧ (r = 0 ∨ (0 ≤ c ∧ c < mI M 55 3 ∧ c ≤ 7))) := by
  have hB0 : BF fQ M M := BF.start hB
  refine Call.of [some (aR 54), some (aI c)] rfl (Nat.le_of_ble_eq_true rfl) rfl ?_
  refine vc_ok (fun hoM hoS hoL => ?_)
  have hr1 : -2147483648 ≤ c ∧ c < 2147483648 := hoL 1 _ rfl
  refine vc_iload_n dX12_isTelling_0 rfl ?_
  refine vc_iconst dX12_isTelling_1 rfl ?_
  refine vc_aload_n dX12_isTelling_2 rfl ?_
  refine vc_getR dX12_isTelling_3 flX12_7 (s_54 hB0.1.1) rfl (r_54_0 hB0.1.1) ?_
  refine vc_iconst dX12_isTelling_6 rfl ?_
  refine vc_iaload dX12_isTelling_7 (s_55 hB0.1.1) (by omega) (by omega) ?_
  refine vc_topI (mI M 55 3) rfl ?_
  have k1 : 0 ≤ mI M 55 3 ∧ mI M 55 3 ≤ 8 := b55_3 (M := M) hB0.1
  refine vc_iconst dX12_isTelling_8 rfl ?_
  refine vc_isubE dX12_isTelling_9 (by omega) (by omega) ?_
  refine vc_cSI dX12_isTelling_10 (sfX12_isIn (M := M) hB0.1  c 0 ((mI M 55 3) - 1) ) rfl okX12_isIn stX12_isIn lkX12_83 rfl (Nat.le_of_ble_eq_true rfl) ⟨rfl, rfl⟩ (Nat.le_of_ble_eq_true rfl) (Nat.le_of_ble_eq_true rfl) (Nat.le_of_ble_eq_true rfl) ?_
  rintro x2 _ ⟨rfl, h3, h4, h5⟩
  refine vc_zret dX12_isTelling_13 rfl (by first | decide | omega) (Nat.le_of_ble_eq_true rfl) (Nat.le_of_ble_eq_true rfl) ?_
  exact ⟨_, rfl, rfl, by omega, by omega, by omega⟩

set_option maxRecDepth 4000 in
theorem sfX12_sightOf {l : Launch} {M : Mem} (hB : Box M)  (c : Int) (p0 : (-1) ≤ c) (p1 : c ≤ 15) : Call l mdX12_sightOf [aR 54, aI c] M (fun q N => ∃ r : Int, q = some (aI r) ∧ M = N) := by
  have hB0 : BF fQ M M := BF.start hB
  refine Call.of [some (aR 54), some (aI c)] rfl (Nat.le_of_ble_eq_true rfl) rfl ?_
  refine vc_aload_n dX12_sightOf_0 rfl ?_
  refine vc_getR dX12_sightOf_1 flX12_7 (s_54 hB0.1.1) rfl (r_54_0 hB0.1.1) ?_
  refine vc_bipush dX12_sightOf_4 rfl ?_
  refine vc_bipush dX12_sightOf_6 rfl ?_
  refine vc_iload_n dX12_sightOf_8 rfl ?_
  refine vc_imulE dX12_sightOf_9 (by omega) (by omega) ?_
  refine vc_iaddE dX12_sightOf_10 (by omega) (by omega) ?_
  refine vc_iaload dX12_sightOf_11 (s_55 hB0.1.1) (by omega) (by omega) ?_
  refine vc_iret dX12_sightOf_12 rfl (Nat.le_of_ble_eq_true rfl) (Nat.le_of_ble_eq_true rfl) ?_
  exact ⟨_, rfl, rfl⟩

set_option maxRecDepth 4000 in
theorem sfX12_streetOf {l : Launch} {M : Mem} (hB : Box M)  (c : Int) (d : Int) (p0 : 0 ≤ c) (p1 : c ≤ 15) (p2 : 0 ≤ d) (p3 : d ≤ 3) : Call l mdX12_streetOf [aR 54, aI c, aI d] M (fun q N => ∃ r : Int, q = some (aI r) ∧ M = N ∧ (-1) ≤ r ∧ r ≤ 15 ∧ r = mI M 55 (((10 + (9 * c)) + 1) + d).toNat) := by
  have hB0 : BF fQ M M := BF.start hB
  refine Call.of [some (aR 54), some (aI c), some (aI d)] rfl (Nat.le_of_ble_eq_true rfl) rfl ?_
  refine vc_aload_n dX12_streetOf_0 rfl ?_
  refine vc_getR dX12_streetOf_1 flX12_7 (s_54 hB0.1.1) rfl (r_54_0 hB0.1.1) ?_
  refine vc_bipush dX12_streetOf_4 rfl ?_
  refine vc_bipush dX12_streetOf_6 rfl ?_
  refine vc_iload_n dX12_streetOf_8 rfl ?_
  refine vc_imulE dX12_streetOf_9 (by omega) (by omega) ?_
  refine vc_iaddE dX12_streetOf_10 (by omega) (by omega) ?_
  refine vc_iconst dX12_streetOf_11 rfl ?_
  refine vc_iaddE dX12_streetOf_12 (by omega) (by omega) ?_
  refine vc_iload_n dX12_streetOf_13 rfl ?_
  refine vc_iaddE dX12_streetOf_14 (by omega) (by omega) ?_
  refine vc_iaload dX12_streetOf_15 (s_55 hB0.1.1) (by omega) (by omega) ?_
  have k1 : (-1) ≤ mI M 55 ((((10 + (9 * c)) + 1) + d).toNat) ∧ mI M 55 ((((10 + (9 * c)) + 1) + d).toNat) ≤ 15 := ba_st (M := M) hB0.1 (x := ((10 + (9 * c)) + 1) + d) (by omega) (by omega) ⟨by omega, by omega⟩
  refine vc_iret dX12_streetOf_16 rfl (Nat.le_of_ble_eq_true rfl) (Nat.le_of_ble_eq_true rfl) ?_
  exact ⟨_, rfl, rfl, by omega, by omega, by rfl⟩

set_option maxRecDepth 4000 in
theorem sfX12_isLane {l : Launch} {M : Mem} (hB : Box M)  (c : Int) (d : Int) (p0 : 0 ≤ c) (p1 : c ≤ 15) (p2 : 0 ≤ d) (p3 : d ≤ 3) : Call l mdX12_isLane [aR 54, aI c, aI d] M (fun q N => ∃ r : Int, q = some (aI r) ∧ M = N ∧ 0 ≤ r ∧ r ≤ 1) := by
  have hB0 : BF fQ M M := BF.start hB
  refine Call.of [some (aR 54), some (aI c), some (aI d)] rfl (Nat.le_of_ble_eq_true rfl) rfl ?_
  refine vc_aload_n dX12_isLane_0 rfl ?_
  refine vc_getR dX12_isLane_1 flX12_7 (s_54 hB0.1.1) rfl (r_54_0 hB0.1.1) ?_
  refine vc_bipush dX12_isLane_4 rfl ?_
  refine vc_bipush dX12_isLane_6 rfl ?_
  refine vc_iload_n dX12_isLane_8 rfl ?_
  refine vc_imulE dX12_isLane_9 (by omega) (by omega) ?_
  refine vc_iaddE dX12_isLane_10 (by omega) (by omega) ?_
  refine vc_iconst dX12_isLane_11 rfl ?_
  refine vc_iaddE dX12_isLane_12 (by omega) (by omega) ?_
  refine vc_iload_n dX12_isLane_13 rfl ?_
  refine vc_iaddE dX12_isLane_14 (by omega) (by omega) ?_
  refine vc_iaload dX12_isLane_15 (s_55 hB0.1.1) (by omega) (by omega) ?_
  refine vc_iconst dX12_isLane_16 rfl ?_
  refine vc_icmp_ne dX12_isLane_17 (fun h1 => ?_) (fun h1 => ?_)
  · refine vc_iconst dX12_isLane_24 rfl ?_
    refine vc_zret dX12_isLane_25 rfl (by first | decide | omega) (Nat.le_of_ble_eq_true rfl) (Nat.le_of_ble_eq_true rfl) ?_
    exact ⟨_, rfl, rfl, by omega, by omega⟩
  · refine vc_iconst dX12_isLane_20 rfl ?_
    refine vc_goto dX12_isLane_21 ?_
    refine vc_zret dX12_isLane_25 rfl (by first | decide | omega) (Nat.le_of_ble_eq_true rfl) (Nat.le_of_ble_eq_true rfl) ?_
    exact ⟨_, rfl, rfl, by omega, by omega⟩

set_option maxRecDepth 4000 in
theorem sfX12_tellerOf {l : Launch} {M : Mem} (hB : Box M)  (t : Int) (p0 : 0 ≤ t) (p1 : t ≤ 7) : Call l mdX12_tellerOf [aR 54, aI t] M (fun q N => ∃ r : Int, q = some (aI r) ∧ M = N ∧ 0 ≤ r ∧ r ≤ 5) := by
  have hB0 : BF fQ M M := BF.start hB
  refine Call.of [some (aR 54), some (aI t)] rfl (Nat.le_of_ble_eq_true rfl) rfl ?_
  refine vc_aload_n dX12_tellerOf_0 rfl ?_
  refine vc_getR dX12_tellerOf_1 flX12_7 (s_54 hB0.1.1) rfl (r_54_0 hB0.1.1) ?_
  refine vc_sipush dX12_tellerOf_4 rfl ?_
  refine vc_bipush dX12_tellerOf_7 rfl ?_
  refine vc_iload_n dX12_tellerOf_9 rfl ?_
  refine vc_imulE dX12_tellerOf_10 (by omega) (by omega) ?_
  refine vc_iaddE dX12_tellerOf_11 (by omega) (by omega) ?_
  refine vc_iaload dX12_tellerOf_12 (s_55 hB0.1.1) (by omega) (by omega) ?_
  have k1 : 0 ≤ mI M 55 ((184 + (9 * t)).toNat) ∧ mI M 55 ((184 + (9 * t)).toNat) ≤ 5 := ba_t0 (M := M) hB0.1 (x := 184 + (9 * t)) (by omega) (by omega) (by omega)
  refine vc_iret dX12_tellerOf_13 rfl (Nat.le_of_ble_eq_true rfl) (Nat.le_of_ble_eq_true rfl) ?_
  exact ⟨_, rfl, rfl, by omega, by omega⟩

set_option maxRecDepth 4000 in
theorem sfX12_facingOf {l : Launch} {M : Mem} (hB : Box M)  (t : Int) (p0 : 0 ≤ t) (p1 : t ≤ 7) : Call l mdX12_facingOf [aR 54, aI t] M (fun q N => ∃ r : Int, q = some (aI r) ∧ M = N ∧ 0 ≤ r ∧ r ≤ 3) := by
  have hB0 : BF fQ M M := BF.start hB
  refine Call.of [some (aR 54), some (aI t)] rfl (Nat.le_of_ble_eq_true rfl) rfl ?_
  refine vc_aload_n dX12_facingOf_0 rfl ?_
  refine vc_getR dX12_facingOf_1 flX12_7 (s_54 hB0.1.1) rfl (r_54_0 hB0.1.1) ?_
  refine vc_sipush dX12_facingOf_4 rfl ?_
  refine vc_bipush dX12_facingOf_7 rfl ?_
  refine vc_iload_n dX12_facingOf_9 rfl ?_
  refine vc_imulE dX12_facingOf_10 (by omega) (by omega) ?_
  refine vc_iaddE dX12_facingOf_11 (by omega) (by omega) ?_
  refine vc_iconst dX12_facingOf_12 rfl ?_
  refine vc_iaddE dX12_facingOf_13 (by omega) (by omega) ?_
  refine vc_iaload dX12_facingOf_14 (s_55 hB0.1.1) (by omega) (by omega) ?_
  have k1 : 0 ≤ mI M 55 (((184 + (9 * t)) + 1).toNat) ∧ mI M 55 (((184 + (9 * t)) + 1).toNat) ≤ 3 := ba_t1 (M := M) hB0.1 (x := (184 + (9 * t)) + 1) (by omega) (by omega) (by omega)
  refine vc_iret dX12_facingOf_15 rfl (Nat.le_of_ble_eq_true rfl) (Nat.le_of_ble_eq_true rfl) ?_
  exact ⟨_, rfl, rfl, by omega, by omega⟩

set_option maxRecDepth 4000 in
theorem sfX12_turnsOf {l : Launch} {M : Mem} (hB : Box M)  (t : Int) (p0 : 0 ≤ t) (p1 : t ≤ 7) : Call l mdX12_turnsOf [aR 54, aI t] M (fun q N => ∃ r : Int, q = some (aI r) ∧ M = N ∧ 0 ≤ r ∧ r ≤ 6 ∧ r = mI M 55 (((184 + (9 * t)) + 2)).toNat) := by
  have hB0 : BF fQ M M := BF.start hB
  refine Call.of [some (aR 54), some (aI t)] rfl (Nat.le_of_ble_eq_true rfl) rfl ?_
  refine vc_aload_n dX12_turnsOf_0 rfl ?_
  refine vc_getR dX12_turnsOf_1 flX12_7 (s_54 hB0.1.1) rfl (r_54_0 hB0.1.1) ?_
  refine vc_sipush dX12_turnsOf_4 rfl ?_
  refine vc_bipush dX12_turnsOf_7 rfl ?_
  refine vc_iload_n dX12_turnsOf_9 rfl ?_
  refine vc_imulE dX12_turnsOf_10 (by omega) (by omega) ?_
  refine vc_iaddE dX12_turnsOf_11 (by omega) (by omega) ?_
  refine vc_iconst dX12_turnsOf_12 rfl ?_
  refine vc_iaddE dX12_turnsOf_13 (by omega) (by omega) ?_
  refine vc_iaload dX12_turnsOf_14 (s_55 hB0.1.1) (by omega) (by omega) ?_
  have k1 : 0 ≤ mI M 55 (((184 + (9 * t)) + 2).toNat) ∧ mI M 55 (((184 + (9 * t)) + 2).toNat) ≤ 6 := ba_t2 (M := M) hB0.1 (x := (184 + (9 * t)) + 2) (by omega) (by omega) (by omega)
  refine vc_iret dX12_turnsOf_15 rfl (Nat.le_of_ble_eq_true rfl) (Nat.le_of_ble_eq_true rfl) ?_
  exact ⟨_, rfl, rfl, by omega, by omega, by rfl⟩

set_option maxRecDepth 4000 in
theorem sfX12_turnAt {l : Launch} {M : Mem} (hB : Box M)  (t : Int) (k : Int) (p0 : 0 ≤ t) (p1 : t ≤ 7) (p2 : 0 ≤ k) (p3 : k ≤ 5) : Call l mdX12_turnAt [aR 54, aI t, aI k] M (fun q N => ∃ r : Int, q = some (aI r) ∧ M = N) := by
  have hB0 : BF fQ M M := BF.start hB
  refine Call.of [some (aR 54), some (aI t), some (aI k)] rfl (Nat.le_of_ble_eq_true rfl) rfl ?_
  refine vc_aload_n dX12_turnAt_0 rfl ?_
  refine vc_getR dX12_turnAt_1 flX12_7 (s_54 hB0.1.1) rfl (r_54_0 hB0.1.1) ?_
  refine vc_sipush dX12_turnAt_4 rfl ?_
  refine vc_bipush dX12_turnAt_7 rfl ?_
  refine vc_iload_n dX12_turnAt_9 rfl ?_
  refine vc_imulE dX12_turnAt_10 (by omega) (by omega) ?_
  refine vc_iaddE dX12_turnAt_11 (by omega) (by omega) ?_
  refine vc_iconst dX12_turnAt_12 rfl ?_
  refine vc_iaddE dX12_turnAt_13 (by omega) (by omega) ?_
  refine vc_iload_n dX12_turnAt_14 rfl ?_
  refine vc_iaddE dX12_turnAt_15 (by omega) (by omega) ?_
  refine vc_iaload dX12_turnAt_16 (s_55 hB0.1.1) (by omega) (by omega) ?_
  refine vc_iret dX12_turnAt_17 rfl (Nat.le_of_ble_eq_true rfl) (Nat.le_of_ble_eq_true rfl) ?_
  exact ⟨_, rfl, rfl⟩

set_option maxRecDepth 4000 in
theorem sfX12_cornerOf {l : Launch} {M : Mem} (hB : Box M)  (t : Int) (p0 : 0 ≤ t) (p1 : t ≤ 5) : Call l mdX12_cornerOf [aR 54, aI t] M (fun q N => ∃ r : Int, q = some (aI r) ∧ M = N ∧ 0 ≤ r ∧ r ≤ 15) := by
  have hB0 : BF fQ M M := BF.start hB
  refine Call.of [some (aR 54), some (aI t)] rfl (Nat.le_of_ble_eq_true rfl) rfl ?_
  refine vc_aload_n dX12_cornerOf_0 rfl ?_
  refine vc_getR dX12_cornerOf_1 flX12_7 (s_54 hB0.1.1) rfl (r_54_0 hB0.1.1) ?_
  refine vc_sipush dX12_cornerOf_4 rfl ?_
  refine vc_iconst dX12_cornerOf_7 rfl ?_
  refine vc_iload_n dX12_cornerOf_8 rfl ?_
  refine vc_imulE dX12_cornerOf_9 (by omega) (by omega) ?_
  refine vc_iaddE dX12_cornerOf_10 (by omega) (by omega) ?_
  refine vc_iaload dX12_cornerOf_11 (s_55 hB0.1.1) (by omega) (by omega) ?_
  have k1 : 0 ≤ mI M 55 ((154 + (5 * t)).toNat) ∧ mI M 55 ((154 + (5 * t)).toNat) ≤ 15 := ba_tc (M := M) hB0.1 (x := 154 + (5 * t)) (by omega) (by omega) (by omega)
  refine vc_iret dX12_cornerOf_12 rfl (Nat.le_of_ble_eq_true rfl) (Nat.le_of_ble_eq_true rfl) ?_
  exact ⟨_, rfl, rfl, by omega, by omega⟩

set_option maxRecDepth 4000 in
theorem sfX12_corner {l : Launch} {M : Mem} (hB : Box M)  (s : Int)  : Call l mdX12_corner [aR 54, aI s] M (fun q N => ∃ r : Int, q = some (aI r) ∧ BF fR M N ∧ mI N 57 = mI M 57) := by
  have hB0 : BF fR M M := BF.start hB
  refine Call.of [some (aR 54), some (aI s), none, none] rfl (Nat.le_of_ble_eq_true rfl) rfl ?_
  refine vc_ok (fun hoM hoS hoL => ?_)
  have hr1 : -2147483648 ≤ s ∧ s < 2147483648 := hoL 1 _ rfl
  refine vc_iload_n dX12_corner_0 rfl ?_
  refine vc_iconst dX12_corner_1 rfl ?_
  refine vc_iconst dX12_corner_2 rfl ?_
  refine vc_cSI dX12_corner_3 (sfX12_isIn (M := M) hB0.1  s 0 5 ) rfl okX12_isIn stX12_isIn lkX12_83 rfl (Nat.le_of_ble_eq_true rfl) ⟨rfl, rfl⟩ (Nat.le_of_ble_eq_true rfl) (Nat.le_of_ble_eq_true rfl) (Nat.le_of_ble_eq_true rfl) ?_
  rintro x1 _ ⟨rfl, h2, h3, h4⟩
  refine vc_if_eq dX12_corner_6 (fun h5 => ?_) (fun h5 => ?_)
  · refine vc_iconst dX12_corner_20 rfl ?_
    refine vc_iret dX12_corner_21 rfl (Nat.le_of_ble_eq_true rfl) (Nat.le_of_ble_eq_true rfl) ?_
    exact ⟨_, rfl, hB0, rfl⟩
  · refine vc_aload_n dX12_corner_9 rfl ?_
    refine vc_getR dX12_corner_10 flX12_7 (s_54 hB0.1.1) rfl (r_54_0 hB0.1.1) ?_
    refine vc_iconst dX12_corner_13 rfl ?_
    refine vc_iaload dX12_corner_14 (s_55 hB0.1.1) (by omega) (by omega) ?_
    refine vc_topI (mI M 55 0) rfl ?_
    have k6 : 0 ≤ mI M 55 0 ∧ mI M 55 0 ≤ 16 := b55_0 (M := M) hB0.1
    refine vc_bipush dX12_corner_15 rfl ?_
    refine vc_icmp_ne dX12_corner_17 (fun h7 => ?_) (fun h7 => ?_)
    · refine vc_bipush dX12_corner_22 rfl ?_
      refine vc_bipush dX12_corner_24 rfl ?_
      refine vc_aload_n dX12_corner_26 rfl ?_
      refine vc_getR dX12_corner_27 flX12_7 (s_54 hB0.1.1) rfl (r_54_0 hB0.1.1) ?_
      refine vc_iconst dX12_corner_30 rfl ?_
      refine vc_iaload dX12_corner_31 (s_55 hB0.1.1) (by omega) (by omega) ?_
      refine vc_topI (mI M 55 0) rfl ?_
      refine vc_imulE dX12_corner_32 (by omega) (by omega) ?_
      refine vc_iaddE dX12_corner_33 (by omega) (by omega) ?_
      refine vc_nameI (fun x8 ex8 => ?_)
      refine vc_istore_n dX12_corner_34 (by decide) rfl (show _ = [some (aR 54), some (aI s), some (aI x8), none] from rfl) ?_
      refine vc_aload_n dX12_corner_35 rfl ?_
      refine vc_getR dX12_corner_36 flX12_7 (s_54 hB0.1.1) rfl (r_54_0 hB0.1.1) ?_
      refine vc_iload_n dX12_corner_39 rfl ?_
      refine vc_iload_n dX12_corner_40 rfl ?_
      refine vc_iastore dX12_corner_41 (s_55 hB0.1.1) (by omega) (by omega) ?_
      have kp9 : mI (sI M 55 x8.toNat s) 57 = mI M 57 := (kp_sI rfl rfl)
      have hB10 : BF fR M (sI M 55 x8.toNat s) := BF.a (x := x8) hB0 (by omega) (by omega) (by unfold aB; refine ⟨?_, ?_, ?_, ?_, ?_, ?_, ?_, ?_, ?_, ?_, ?_, ?_, ?_, ?_, ?_, ?_, ?_, ?_⟩ <;> intros <;> omega) (by omega) (by omega) (by omega) (by omega) (by omega) (by omega) fR_55
      refine vc_iconst dX12_corner_42 rfl ?_
      refine vc_istore_n dX12_corner_43 (by decide) rfl (show _ = [some (aR 54), some (aI s), some (aI x8), some (aI 0)] from rfl) ?_
      have lp44 : ∀ (n44 : Nat) (Mq44 : Mem) (v3 : Int), (BF fR M Mq44) → (mI Mq44 57 = mI M 57) → (0 ≤ v3) → (v3 ≤ 4) → (mI Mq44 55 0 = mI M 55 0) → (∀ q : Nat, (q : Int) < v3 → mI Mq44 55 (10 + 9 * (mI M 55 0).toNat + 1 + q) = -1) → (4 - v3).toNat < n44 → VC l mdX12_corner 44 [some (aR 54), none, some (aI x8), some (aI v3)] [] Mq44 0 0 (fun q N => ∃ r : Int, q = some (aI r) ∧ BF fR M N ∧ mI N 57 = mI M 57) := by
        intro n44
        induction n44 with
        | zero => intro Mq44 v3 hQ44 kp44_57 g44_3a g44_3b g44i0 g44i1 hm44; exact absurd hm44 (Nat.not_lt_zero _)
        | succ n44 ih44 =>
          intro Mq44 v3 hQ44 kp44_57 g44_3a g44_3b g44i0 g44i1 hm44
          refine vc_iload_n dX12_corner_44 rfl ?_
          refine vc_iconst dX12_corner_45 rfl ?_
          refine vc_icmp_ge dX12_corner_46 (fun h11 => ?_) (fun h11 => ?_)
          · refine vc_aload_n dX12_corner_77 rfl ?_
            refine vc_getR dX12_corner_78 flX12_7 (s_54 hQ44.1.1) rfl (r_54_0 hQ44.1.1) ?_
            refine vc_iconst dX12_corner_81 rfl ?_
            refine vc_dup2 dX12_corner_82 rfl rfl ?_
            refine vc_iaload dX12_corner_83 (s_55 hQ44.1.1) (by omega) (by omega) ?_
            refine vc_topI (mI Mq44 55 0) rfl ?_
            have k12 : 0 ≤ mI Mq44 55 0 ∧ mI Mq44 55 0 ≤ 16 := b55_0 (M := Mq44) hQ44.1
            refine vc_iconst dX12_corner_84 rfl ?_
            refine vc_iaddE dX12_corner_85 (by omega) (by omega) ?_
            refine vc_iastore dX12_corner_86 (s_55 hQ44.1.1) (by omega) (by omega) ?_
            refine vc_mem (sI Mq44 55 0 ((mI Mq44 55 0) + 1)) rfl ?_
            have kp13 : mI (sI Mq44 55 0 ((mI Mq44 55 0) + 1)) 57 = mI M 57 := (kp_sI kp44_57 rfl)
            have hB14 : BF fR M (sI Mq44 55 0 ((mI Mq44 55 0) + 1)) := BF.a0 hQ44 (by omega) (by omega) (fun d hd => by have q := g44i1 d (by omega); rw [g44i0]; omega)
            refine vc_aload_n dX12_corner_87 rfl ?_
            refine vc_getR dX12_corner_88 flX12_7 (s_54 hB14.1.1) rfl (r_54_0 hB14.1.1) ?_
            refine vc_iconst dX12_corner_91 rfl ?_
            refine vc_iaload dX12_corner_92 (s_55 hB14.1.1) (by omega) (by omega) ?_
            refine vc_topI ((mI Mq44 55 0) + 1) rfl ?_
            refine vc_iconst dX12_corner_93 rfl ?_
            refine vc_isubE dX12_corner_94 (by omega) (by omega) ?_
            refine vc_iret dX12_corner_95 rfl (Nat.le_of_ble_eq_true rfl) (Nat.le_of_ble_eq_true rfl) ?_
            exact ⟨_, rfl, hB14, kp13⟩
          · refine vc_aload_n dX12_corner_49 rfl ?_
            refine vc_getR dX12_corner_50 flX12_7 (s_54 hQ44.1.1) rfl (r_54_0 hQ44.1.1) ?_
            refine vc_iload_n dX12_corner_53 rfl ?_
            refine vc_iconst dX12_corner_54 rfl ?_
            refine vc_iaddE dX12_corner_55 (by omega) (by omega) ?_
            refine vc_iload_n dX12_corner_56 rfl ?_
            refine vc_iaddE dX12_corner_57 (by omega) (by omega) ?_
            refine vc_iconst dX12_corner_58 rfl ?_
            refine vc_iastore dX12_corner_59 (s_55 hQ44.1.1) (by omega) (by omega) ?_
            have kp15 : mI (sI Mq44 55 (((x8 + 1) + v3).toNat) (-1)) 57 = mI M 57 := (kp_sI kp44_57 rfl)
            have hB16 : BF fR M (sI Mq44 55 (((x8 + 1) + v3).toNat) (-1)) := BF.aS (x := (x8 + 1) + v3) hQ44 (by omega) (by omega) ⟨by omega, by omega⟩ (by omega) (by omega) (by omega)
            refine vc_aload_n dX12_corner_60 rfl ?_
            refine vc_getR dX12_corner_61 flX12_7 (s_54 hB16.1.1) rfl (r_54_0 hB16.1.1) ?_
            refine vc_iload_n dX12_corner_64 rfl ?_
            refine vc_iconst dX12_corner_65 rfl ?_
            refine vc_iaddE dX12_corner_66 (by omega) (by omega) ?_
            refine vc_iload_n dX12_corner_67 rfl ?_
            refine vc_iaddE dX12_corner_68 (by omega) (by omega) ?_
            refine vc_iconst dX12_corner_69 rfl ?_
            refine vc_iastore dX12_corner_70 (s_55 hB16.1.1) (by omega) (by omega) ?_
            have kp17 : mI (sI (sI Mq44 55 (((x8 + 1) + v3).toNat) (-1)) 55 (((x8 + 5) + v3).toNat) (-1)) 57 = mI M 57 := (kp_sI kp15 rfl)
            have hB18 : BF fR M (sI (sI Mq44 55 (((x8 + 1) + v3).toNat) (-1)) 55 (((x8 + 5) + v3).toNat) (-1)) := BF.a (x := (x8 + 5) + v3) hB16 (by omega) (by omega) (by unfold aB; refine ⟨?_, ?_, ?_, ?_, ?_, ?_, ?_, ?_, ?_, ?_, ?_, ?_, ?_, ?_, ?_, ?_, ?_, ?_⟩ <;> intros <;> omega) (by omega) (by omega) (by omega) (by omega) (by omega) (by omega) fR_55
            refine vc_iincE dX12_corner_71 rfl (by omega) (by omega) (by decide) rfl (show _ = [some (aR 54), none, some (aI x8), some (aI (v3 + 1))] from rfl) ?_
            refine vc_goto dX12_corner_74 ?_
            exact ih44 (sI (sI Mq44 55 (((x8 + 1) + v3).toNat) (-1)) 55 (((x8 + 5) + v3).toNat) (-1)) (v3 + 1) hB18 kp17 (by omega) (by omega) (by (repeat rw [mI_sI, if_neg (by omega)]); try omega) (by first | (intro q hq; exfalso; omega) | (intro q hq; rw [mI_sI, if_neg (by omega), mI_sI]; by_cases hq2 : q = v3.toNat; (rw [if_pos (by omega)]); (rw [if_neg (by omega)]; exact g44i1 q (by omega)))) (by omega)
      refine vc_less [some (aR 54), none, some (aI x8), some (aI 0)] (lessL_keep (lessL_drop (lessL_keep (lessL_keep (lessL_nil))))) ?_
      exact lp44 _ (sI M 55 x8.toNat s) 0 hB10 kp9 (by omega) (by omega) (by (repeat rw [mI_sI, if_neg (by omega)]); try omega) (by first | (intro q hq; exfalso; omega) | (intro q hq; rw [mI_sI, if_neg (by omega), mI_sI]; by_cases hq2 : q = v3.toNat; (rw [if_pos (by omega)]); (rw [if_neg (by omega)]; exact g44i1 q (by omega)))) (Nat.lt_succ_self _)
    · refine vc_iconst dX12_corner_20 rfl ?_
      refine vc_iret dX12_corner_21 rfl (Nat.le_of_ble_eq_true rfl) (Nat.le_of_ble_eq_true rfl) ?_
      exact ⟨_, rfl, hB0, rfl⟩

set_option maxRecDepth 4000 in
theorem sfX12_street {l : Launch} {M : Mem} (hB : Box M)  (f : Int) (d : Int) (t : Int) (la : Int)  : Call l mdX12_street [aR 54, aI f, aI d, aI t, aI la] M (fun q N => ∃ r : Int, q = some (aI r) ∧ BF fR M N ∧ mI N 57 = mI M 57 ∧ 0 ≤ r ∧ r ≤ 1) := by
  have hB0 : BF fR M M := BF.start hB
  refine Call.of [some (aR 54), some (aI f), some (aI d), some (aI t), some (aI la), none] rfl (Nat.le_of_ble_eq_true rfl) rfl ?_
  refine vc_ok (fun hoM hoS hoL => ?_)
  have hr1 : -2147483648 ≤ f ∧ f < 2147483648 := hoL 1 _ rfl
  have hr2 : -2147483648 ≤ d ∧ d < 2147483648 := hoL 2 _ rfl
  have hr3 : -2147483648 ≤ t ∧ t < 2147483648 := hoL 3 _ rfl
  have hr4 : -2147483648 ≤ la ∧ la < 2147483648 := hoL 4 _ rfl
  refine vc_aload_n dX12_street_0 rfl ?_
  refine vc_iload_n dX12_street_1 rfl ?_
  refine vc_cVI dX12_street_2 (sfX12_isCorner (M := M) hB0.1  f ) rfl okX12_isCorner viX12_isCorner lkX12_87 (s_54 hB0.1.1) cl_12 rfl (Nat.le_of_ble_eq_true rfl) ⟨rfl, rfl⟩ (Nat.le_of_ble_eq_true rfl) (Nat.le_of_ble_eq_true rfl) (Nat.le_of_ble_eq_true rfl) ?_
  rintro x1 _ ⟨rfl, h2, h3, h4⟩
  refine vc_if_eq dX12_street_5 (fun h5 => ?_) (fun h5 => ?_)
  · refine vc_iconst dX12_street_30 rfl ?_
    refine vc_zret dX12_street_31 rfl (by first | decide | omega) (Nat.le_of_ble_eq_true rfl) (Nat.le_of_ble_eq_true rfl) ?_
    exact ⟨_, rfl, hB0, rfl, by omega, by omega⟩
  · refine vc_aload_n dX12_street_8 rfl ?_
    refine vc_iload_n dX12_street_9 rfl ?_
    refine vc_cVI dX12_street_10 (sfX12_isCorner (M := M) hB0.1  t ) rfl okX12_isCorner viX12_isCorner lkX12_87 (s_54 hB0.1.1) cl_12 rfl (Nat.le_of_ble_eq_true rfl) ⟨rfl, rfl⟩ (Nat.le_of_ble_eq_true rfl) (Nat.le_of_ble_eq_true rfl) (Nat.le_of_ble_eq_true rfl) ?_
    rintro x6 _ ⟨rfl, h7, h8, h9⟩
    refine vc_if_eq dX12_street_13 (fun h10 => ?_) (fun h10 => ?_)
    · refine vc_iconst dX12_street_30 rfl ?_
      refine vc_zret dX12_street_31 rfl (by first | decide | omega) (Nat.le_of_ble_eq_true rfl) (Nat.le_of_ble_eq_true rfl) ?_
      exact ⟨_, rfl, hB0, rfl, by omega, by omega⟩
    · refine vc_iload_n dX12_street_16 rfl ?_
      refine vc_iload_n dX12_street_17 rfl ?_
      refine vc_icmp_eq dX12_street_18 (fun h11 => ?_) (fun h11 => ?_)
      · refine vc_iconst dX12_street_30 rfl ?_
        refine vc_zret dX12_street_31 rfl (by first | decide | omega) (Nat.le_of_ble_eq_true rfl) (Nat.le_of_ble_eq_true rfl) ?_
        exact ⟨_, rfl, hB0, rfl, by omega, by omega⟩
      · refine vc_iload_n dX12_street_21 rfl ?_
        refine vc_iconst dX12_street_22 rfl ?_
        refine vc_iconst dX12_street_23 rfl ?_
        refine vc_cSI dX12_street_24 (sfX12_isIn (M := M) hB0.1  d 0 3 ) rfl okX12_isIn stX12_isIn lkX12_83 rfl (Nat.le_of_ble_eq_true rfl) ⟨rfl, rfl⟩ (Nat.le_of_ble_eq_true rfl) (Nat.le_of_ble_eq_true rfl) (Nat.le_of_ble_eq_true rfl) ?_
        rintro x12 _ ⟨rfl, h13, h14, h15⟩
        refine vc_if_ne dX12_street_27 (fun h16 => ?_) (fun h16 => ?_)
        · refine vc_iload_n dX12_street_32 rfl ?_
          refine vc_iconst dX12_street_33 rfl ?_
          refine vc_iaddE dX12_street_34 (by omega) (by omega) ?_
          refine vc_iconst dX12_street_35 rfl ?_
          refine vc_iremE dX12_street_36 (by omega) (by omega) ?_
          refine vc_nameI (fun x17 ex17 => ?_)
          refine vc_istore dX12_street_37 (by decide) rfl (show _ = [some (aR 54), some (aI f), some (aI d), some (aI t), some (aI la), some (aI x17)] from rfl) ?_
          refine vc_aload_n dX12_street_39 rfl ?_
          refine vc_iload_n dX12_street_40 rfl ?_
          refine vc_iload_n dX12_street_41 rfl ?_
          refine vc_cVI dX12_street_42 (sfX12_streetOf (M := M) hB0.1  f d (by omega) (by omega) (by omega) (by omega)) rfl okX12_streetOf viX12_streetOf lkX12_91 (s_54 hB0.1.1) cl_12 rfl (Nat.le_of_ble_eq_true rfl) ⟨rfl, rfl⟩ (Nat.le_of_ble_eq_true rfl) (Nat.le_of_ble_eq_true rfl) (Nat.le_of_ble_eq_true rfl) ?_
          rintro x18 _ ⟨rfl, h19, h20, h21⟩
          refine vc_if_ge dX12_street_45 (fun h22 => ?_) (fun h22 => ?_)
          · refine vc_iconst dX12_street_58 rfl ?_
            refine vc_zret dX12_street_59 rfl (by first | decide | omega) (Nat.le_of_ble_eq_true rfl) (Nat.le_of_ble_eq_true rfl) ?_
            exact ⟨_, rfl, hB0, rfl, by omega, by omega⟩
          · refine vc_aload_n dX12_street_48 rfl ?_
            refine vc_iload_n dX12_street_49 rfl ?_
            refine vc_iload dX12_street_50 rfl ?_
            refine vc_cVI dX12_street_52 (sfX12_streetOf (M := M) hB0.1  t x17 (by omega) (by omega) (by omega) (by omega)) rfl okX12_streetOf viX12_streetOf lkX12_91 (s_54 hB0.1.1) cl_12 rfl (Nat.le_of_ble_eq_true rfl) ⟨rfl, rfl⟩ (Nat.le_of_ble_eq_true rfl) (Nat.le_of_ble_eq_true rfl) (Nat.le_of_ble_eq_true rfl) ?_
            rintro x23 _ ⟨rfl, h24, h25, h26⟩
            refine vc_if_lt dX12_street_55 (fun h27 => ?_) (fun h27 => ?_)
            · refine vc_aload_n dX12_street_60 rfl ?_
              refine vc_getR dX12_street_61 flX12_7 (s_54 hB0.1.1) rfl (r_54_0 hB0.1.1) ?_
              refine vc_bipush dX12_street_64 rfl ?_
              refine vc_bipush dX12_street_66 rfl ?_
              refine vc_iload_n dX12_street_68 rfl ?_
              refine vc_imulE dX12_street_69 (by omega) (by omega) ?_
              refine vc_iaddE dX12_street_70 (by omega) (by omega) ?_
              refine vc_iconst dX12_street_71 rfl ?_
              refine vc_iaddE dX12_street_72 (by omega) (by omega) ?_
              refine vc_iload_n dX12_street_73 rfl ?_
              refine vc_iaddE dX12_street_74 (by omega) (by omega) ?_
              refine vc_iload_n dX12_street_75 rfl ?_
              refine vc_iastore dX12_street_76 (s_55 hB0.1.1) (by omega) (by omega) ?_
              have kp28 : mI (sI M 55 ((((10 + (9 * f)) + 1) + d).toNat) t) 57 = mI M 57 := (kp_sI rfl rfl)
              have hB29 : BF fR M (sI M 55 ((((10 + (9 * f)) + 1) + d).toNat) t) := BF.aS (x := ((10 + (9 * f)) + 1) + d) hB0 (by omega) (by omega) ⟨by omega, by omega⟩ (by omega) (by omega) (by ((repeat rw [mI_sI, if_neg (by omega)]); try omega))
              refine vc_aload_n dX12_street_77 rfl ?_
              refine vc_getR dX12_street_78 flX12_7 (s_54 hB29.1.1) rfl (r_54_0 hB29.1.1) ?_
              refine vc_bipush dX12_street_81 rfl ?_
              refine vc_bipush dX12_street_83 rfl ?_
              refine vc_iload_n dX12_street_85 rfl ?_
              refine vc_imulE dX12_street_86 (by omega) (by omega) ?_
              refine vc_iaddE dX12_street_87 (by omega) (by omega) ?_
              refine vc_iconst dX12_street_88 rfl ?_
              refine vc_iaddE dX12_street_89 (by omega) (by omega) ?_
              refine vc_iload dX12_street_90 rfl ?_
              refine vc_iaddE dX12_street_92 (by omega) (by omega) ?_
              refine vc_iload_n dX12_street_93 rfl ?_
              refine vc_iastore dX12_street_94 (s_55 hB29.1.1) (by omega) (by omega) ?_
              have kp30 : mI (sI (sI M 55 ((((10 + (9 * f)) + 1) + d).toNat) t) 55 ((((10 + (9 * t)) + 1) + x17).toNat) f) 57 = mI M 57 := (kp_sI kp28 rfl)
              have hB31 : BF fR M (sI (sI M 55 ((((10 + (9 * f)) + 1) + d).toNat) t) 55 ((((10 + (9 * t)) + 1) + x17).toNat) f) := BF.aS (x := ((10 + (9 * t)) + 1) + x17) hB29 (by omega) (by omega) ⟨by omega, by omega⟩ (by omega) (by omega) (by ((repeat rw [mI_sI, if_neg (by omega)]); try omega))
              refine vc_aload_n dX12_street_95 rfl ?_
              refine vc_getR dX12_street_96 flX12_7 (s_54 hB31.1.1) rfl (r_54_0 hB31.1.1) ?_
              refine vc_bipush dX12_street_99 rfl ?_
              refine vc_bipush dX12_street_101 rfl ?_
              refine vc_iload_n dX12_street_103 rfl ?_
              refine vc_imulE dX12_street_104 (by omega) (by omega) ?_
              refine vc_iaddE dX12_street_105 (by omega) (by omega) ?_
              refine vc_iconst dX12_street_106 rfl ?_
              refine vc_iaddE dX12_street_107 (by omega) (by omega) ?_
              refine vc_iload_n dX12_street_108 rfl ?_
              refine vc_iaddE dX12_street_109 (by omega) (by omega) ?_
              refine vc_iload dX12_street_110 rfl ?_
              refine vc_if_eq dX12_street_112 (fun h32 => ?_) (fun h32 => ?_)
              · refine vc_iconst dX12_street_119 rfl ?_
                refine vc_iastore dX12_street_120 (s_55 hB31.1.1) (by omega) (by omega) ?_
                have kp33 : mI (sI (sI (sI M 55 ((((10 + (9 * f)) + 1) + d).toNat) t) 55 ((((10 + (9 * t)) + 1) + x17).toNat) f) 55 ((((10 + (9 * f)) + 5) + d).toNat) 0) 57 = mI M 57 := (kp_sI kp30 rfl)
                have hB34 : BF fR M (sI (sI (sI M 55 ((((10 + (9 * f)) + 1) + d).toNat) t) 55 ((((10 + (9 * t)) + 1) + x17).toNat) f) 55 ((((10 + (9 * f)) + 5) + d).toNat) 0) := BF.a (x := ((10 + (9 * f)) + 5) + d) hB31 (by omega) (by omega) (by unfold aB; refine ⟨?_, ?_, ?_, ?_, ?_, ?_, ?_, ?_, ?_, ?_, ?_, ?_, ?_, ?_, ?_, ?_, ?_, ?_⟩ <;> intros <;> omega) (by omega) (by omega) (by omega) (by omega) (by omega) (by omega) fR_55
                refine vc_aload_n dX12_street_121 rfl ?_
                refine vc_getR dX12_street_122 flX12_7 (s_54 hB34.1.1) rfl (r_54_0 hB34.1.1) ?_
                refine vc_bipush dX12_street_125 rfl ?_
                refine vc_bipush dX12_street_127 rfl ?_
                refine vc_iload_n dX12_street_129 rfl ?_
                refine vc_imulE dX12_street_130 (by omega) (by omega) ?_
                refine vc_iaddE dX12_street_131 (by omega) (by omega) ?_
                refine vc_iconst dX12_street_132 rfl ?_
                refine vc_iaddE dX12_street_133 (by omega) (by omega) ?_
                refine vc_iload dX12_street_134 rfl ?_
                refine vc_iaddE dX12_street_136 (by omega) (by omega) ?_
                refine vc_iload dX12_street_137 rfl ?_
                refine vc_if_eq dX12_street_139 (fun h35 => ?_) (fun h35 => by exfalso; omega)
                refine vc_iconst dX12_street_146 rfl ?_
                refine vc_iastore dX12_street_147 (s_55 hB34.1.1) (by omega) (by omega) ?_
                have kp36 : mI (sI (sI (sI (sI M 55 ((((10 + (9 * f)) + 1) + d).toNat) t) 55 ((((10 + (9 * t)) + 1) + x17).toNat) f) 55 ((((10 + (9 * f)) + 5) + d).toNat) 0) 55 ((((10 + (9 * t)) + 5) + x17).toNat) 0) 57 = mI M 57 := (kp_sI kp33 rfl)
                have hB37 : BF fR M (sI (sI (sI (sI M 55 ((((10 + (9 * f)) + 1) + d).toNat) t) 55 ((((10 + (9 * t)) + 1) + x17).toNat) f) 55 ((((10 + (9 * f)) + 5) + d).toNat) 0) 55 ((((10 + (9 * t)) + 5) + x17).toNat) 0) := BF.a (x := ((10 + (9 * t)) + 5) + x17) hB34 (by omega) (by omega) (by unfold aB; refine ⟨?_, ?_, ?_, ?_, ?_, ?_, ?_, ?_, ?_, ?_, ?_, ?_, ?_, ?_, ?_, ?_, ?_, ?_⟩ <;> intros <;> omega) (by omega) (by omega) (by omega) (by omega) (by omega) (by omega) fR_55
                refine vc_iconst dX12_street_148 rfl ?_
                refine vc_zret dX12_street_149 rfl (by first | decide | omega) (Nat.le_of_ble_eq_true rfl) (Nat.le_of_ble_eq_true rfl) ?_
                exact ⟨_, rfl, hB37, kp36, by omega, by omega⟩
              · refine vc_iconst dX12_street_115 rfl ?_
                refine vc_goto dX12_street_116 ?_
                refine vc_iastore dX12_street_120 (s_55 hB31.1.1) (by omega) (by omega) ?_
                have kp38 : mI (sI (sI (sI M 55 ((((10 + (9 * f)) + 1) + d).toNat) t) 55 ((((10 + (9 * t)) + 1) + x17).toNat) f) 55 ((((10 + (9 * f)) + 5) + d).toNat) 1) 57 = mI M 57 := (kp_sI kp30 rfl)
                have hB39 : BF fR M (sI (sI (sI M 55 ((((10 + (9 * f)) + 1) + d).toNat) t) 55 ((((10 + (9 * t)) + 1) + x17).toNat) f) 55 ((((10 + (9 * f)) + 5) + d).toNat) 1) := BF.a (x := ((10 + (9 * f)) + 5) + d) hB31 (by omega) (by omega) (by unfold aB; refine ⟨?_, ?_, ?_, ?_, ?_, ?_, ?_, ?_, ?_, ?_, ?_, ?_, ?_, ?_, ?_, ?_, ?_, ?_⟩ <;> intros <;> omega) (by omega) (by omega) (by omega) (by omega) (by omega) (by omega) fR_55
                refine vc_aload_n dX12_street_121 rfl ?_
                refine vc_getR dX12_street_122 flX12_7 (s_54 hB39.1.1) rfl (r_54_0 hB39.1.1) ?_
                refine vc_bipush dX12_street_125 rfl ?_
                refine vc_bipush dX12_street_127 rfl ?_
                refine vc_iload_n dX12_street_129 rfl ?_
                refine vc_imulE dX12_street_130 (by omega) (by omega) ?_
                refine vc_iaddE dX12_street_131 (by omega) (by omega) ?_
                refine vc_iconst dX12_street_132 rfl ?_
                refine vc_iaddE dX12_street_133 (by omega) (by omega) ?_
                refine vc_iload dX12_street_134 rfl ?_
                refine vc_iaddE dX12_street_136 (by omega) (by omega) ?_
                refine vc_iload dX12_street_137 rfl ?_
                refine vc_if_eq dX12_street_139 (fun h40 => ?_) (fun h40 => ?_)
                · refine vc_iconst dX12_street_146 rfl ?_
                  refine vc_iastore dX12_street_147 (s_55 hB39.1.1) (by omega) (by omega) ?_
                  have kp41 : mI (sI (sI (sI (sI M 55 ((((10 + (9 * f)) + 1) + d).toNat) t) 55 ((((10 + (9 * t)) + 1) + x17).toNat) f) 55 ((((10 + (9 * f)) + 5) + d).toNat) 1) 55 ((((10 + (9 * t)) + 5) + x17).toNat) 0) 57 = mI M 57 := (kp_sI kp38 rfl)
                  have hB42 : BF fR M (sI (sI (sI (sI M 55 ((((10 + (9 * f)) + 1) + d).toNat) t) 55 ((((10 + (9 * t)) + 1) + x17).toNat) f) 55 ((((10 + (9 * f)) + 5) + d).toNat) 1) 55 ((((10 + (9 * t)) + 5) + x17).toNat) 0) := BF.a (x := ((10 + (9 * t)) + 5) + x17) hB39 (by omega) (by omega) (by unfold aB; refine ⟨?_, ?_, ?_, ?_, ?_, ?_, ?_, ?_, ?_, ?_, ?_, ?_, ?_, ?_, ?_, ?_, ?_, ?_⟩ <;> intros <;> omega) (by omega) (by omega) (by omega) (by omega) (by omega) (by omega) fR_55
                  refine vc_iconst dX12_street_148 rfl ?_
                  refine vc_zret dX12_street_149 rfl (by first | decide | omega) (Nat.le_of_ble_eq_true rfl) (Nat.le_of_ble_eq_true rfl) ?_
                  exact ⟨_, rfl, hB42, kp41, by omega, by omega⟩
                · refine vc_iconst dX12_street_142 rfl ?_
                  refine vc_goto dX12_street_143 ?_
                  refine vc_iastore dX12_street_147 (s_55 hB39.1.1) (by omega) (by omega) ?_
                  have kp43 : mI (sI (sI (sI (sI M 55 ((((10 + (9 * f)) + 1) + d).toNat) t) 55 ((((10 + (9 * t)) + 1) + x17).toNat) f) 55 ((((10 + (9 * f)) + 5) + d).toNat) 1) 55 ((((10 + (9 * t)) + 5) + x17).toNat) 1) 57 = mI M 57 := (kp_sI kp38 rfl)
                  have hB44 : BF fR M (sI (sI (sI (sI M 55 ((((10 + (9 * f)) + 1) + d).toNat) t) 55 ((((10 + (9 * t)) + 1) + x17).toNat) f) 55 ((((10 + (9 * f)) + 5) + d).toNat) 1) 55 ((((10 + (9 * t)) + 5) + x17).toNat) 1) := BF.a (x := ((10 + (9 * t)) + 5) + x17) hB39 (by omega) (by omega) (by unfold aB; refine ⟨?_, ?_, ?_, ?_, ?_, ?_, ?_, ?_, ?_, ?_, ?_, ?_, ?_, ?_, ?_, ?_, ?_, ?_⟩ <;> intros <;> omega) (by omega) (by omega) (by omega) (by omega) (by omega) (by omega) fR_55
                  refine vc_iconst dX12_street_148 rfl ?_
                  refine vc_zret dX12_street_149 rfl (by first | decide | omega) (Nat.le_of_ble_eq_true rfl) (Nat.le_of_ble_eq_true rfl) ?_
                  exact ⟨_, rfl, hB44, kp43, by omega, by omega⟩
            · refine vc_iconst dX12_street_58 rfl ?_
              refine vc_zret dX12_street_59 rfl (by first | decide | omega) (Nat.le_of_ble_eq_true rfl) (Nat.le_of_ble_eq_true rfl) ?_
              exact ⟨_, rfl, hB0, rfl, by omega, by omega⟩
        · refine vc_iconst dX12_street_30 rfl ?_
          refine vc_zret dX12_street_31 rfl (by first | decide | omega) (Nat.le_of_ble_eq_true rfl) (Nat.le_of_ble_eq_true rfl) ?_
          exact ⟨_, rfl, hB0, rfl, by omega, by omega⟩

set_option maxRecDepth 4000 in
theorem sfX12_goal {l : Launch} {M : Mem} (hB : Box M)  (c : Int)  : Call l mdX12_goal [aR 54, aI c] M (fun q N => ∃ r : Int, q = some (aI r) ∧ BF fR M N ∧ mI N 57 = mI M 57 ∧ 0 ≤ r ∧ r ≤ 1) := by
  have hB0 : BF fR M M := BF.start hB
  refine Call.of [some (aR 54), some (aI c)] rfl (Nat.le_of_ble_eq_true rfl) rfl ?_
  refine vc_ok (fun hoM hoS hoL => ?_)
  have hr1 : -2147483648 ≤ c ∧ c < 2147483648 := hoL 1 _ rfl
  refine vc_iload_n dX12_goal_0 rfl ?_
  refine vc_iconst dX12_goal_1 rfl ?_
  refine vc_icmp_eq dX12_goal_2 (fun h1 => ?_) (fun h1 => ?_)
  · refine vc_aload_n dX12_goal_15 rfl ?_
    refine vc_getR dX12_goal_16 flX12_7 (s_54 hB0.1.1) rfl (r_54_0 hB0.1.1) ?_
    refine vc_iconst dX12_goal_19 rfl ?_
    refine vc_iload_n dX12_goal_20 rfl ?_
    refine vc_iastore dX12_goal_21 (s_55 hB0.1.1) (by omega) (by omega) ?_
    refine vc_mem (sI M 55 1 c) rfl ?_
    have kp2 : mI (sI M 55 1 c) 57 = mI M 57 := (kp_sI rfl rfl)
    have hB3 : BF fR M (sI M 55 1 c) := BF.a (x := 1) hB0 (by omega) (by omega) (by unfold aB; refine ⟨?_, ?_, ?_, ?_, ?_, ?_, ?_, ?_, ?_, ?_, ?_, ?_, ?_, ?_, ?_, ?_, ?_, ?_⟩ <;> intros <;> omega) (by omega) (by omega) (by omega) (by omega) (by omega) (by omega) fR_55
    refine vc_iconst dX12_goal_22 rfl ?_
    refine vc_zret dX12_goal_23 rfl (by first | decide | omega) (Nat.le_of_ble_eq_true rfl) (Nat.le_of_ble_eq_true rfl) ?_
    exact ⟨_, rfl, hB3, kp2, by omega, by omega⟩
  · refine vc_aload_n dX12_goal_5 rfl ?_
    refine vc_iload_n dX12_goal_6 rfl ?_
    refine vc_cVI dX12_goal_7 (sfX12_isCorner (M := M) hB0.1  c ) rfl okX12_isCorner viX12_isCorner lkX12_87 (s_54 hB0.1.1) cl_12 rfl (Nat.le_of_ble_eq_true rfl) ⟨rfl, rfl⟩ (Nat.le_of_ble_eq_true rfl) (Nat.le_of_ble_eq_true rfl) (Nat.le_of_ble_eq_true rfl) ?_
    rintro x4 _ ⟨rfl, h5, h6, h7⟩
    refine vc_if_ne dX12_goal_10 (fun h8 => ?_) (fun h8 => ?_)
    · refine vc_aload_n dX12_goal_15 rfl ?_
      refine vc_getR dX12_goal_16 flX12_7 (s_54 hB0.1.1) rfl (r_54_0 hB0.1.1) ?_
      refine vc_iconst dX12_goal_19 rfl ?_
      refine vc_iload_n dX12_goal_20 rfl ?_
      refine vc_iastore dX12_goal_21 (s_55 hB0.1.1) (by omega) (by omega) ?_
      refine vc_mem (sI M 55 1 c) rfl ?_
      have kp9 : mI (sI M 55 1 c) 57 = mI M 57 := (kp_sI rfl rfl)
      have hB10 : BF fR M (sI M 55 1 c) := BF.a (x := 1) hB0 (by omega) (by omega) (by unfold aB; refine ⟨?_, ?_, ?_, ?_, ?_, ?_, ?_, ?_, ?_, ?_, ?_, ?_, ?_, ?_, ?_, ?_, ?_, ?_⟩ <;> intros <;> omega) (by omega) (by omega) (by omega) (by omega) (by omega) (by omega) fR_55
      refine vc_iconst dX12_goal_22 rfl ?_
      refine vc_zret dX12_goal_23 rfl (by first | decide | omega) (Nat.le_of_ble_eq_true rfl) (Nat.le_of_ble_eq_true rfl) ?_
      exact ⟨_, rfl, hB10, kp9, by omega, by omega⟩
    · refine vc_iconst dX12_goal_13 rfl ?_
      refine vc_zret dX12_goal_14 rfl (by first | decide | omega) (Nat.le_of_ble_eq_true rfl) (Nat.le_of_ble_eq_true rfl) ?_
      exact ⟨_, rfl, hB0, rfl, by omega, by omega⟩

set_option maxRecDepth 4000 in
theorem sfX12_teller {l : Launch} {M : Mem} (hB : Box M)  (c : Int) (s : Int) (e : Int) (m : Int)  : Call l mdX12_teller [aR 54, aI c, aI s, aI e, aI m] M (fun q N => ∃ r : Int, q = some (aI r) ∧ BF fR M N ∧ mI N 57 = mI M 57) := by
  have hB0 : BF fR M M := BF.start hB
  refine Call.of [some (aR 54), some (aI c), some (aI s), some (aI e), some (aI m), none] rfl (Nat.le_of_ble_eq_true rfl) rfl ?_
  refine vc_ok (fun hoM hoS hoL => ?_)
  have hr1 : -2147483648 ≤ c ∧ c < 2147483648 := hoL 1 _ rfl
  have hr2 : -2147483648 ≤ s ∧ s < 2147483648 := hoL 2 _ rfl
  have hr3 : -2147483648 ≤ e ∧ e < 2147483648 := hoL 3 _ rfl
  have hr4 : -2147483648 ≤ m ∧ m < 2147483648 := hoL 4 _ rfl
  refine vc_aload_n dX12_teller_0 rfl ?_
  refine vc_iload_n dX12_teller_1 rfl ?_
  refine vc_cVI dX12_teller_2 (sfX12_isCorner (M := M) hB0.1  c ) rfl okX12_isCorner viX12_isCorner lkX12_87 (s_54 hB0.1.1) cl_12 rfl (Nat.le_of_ble_eq_true rfl) ⟨rfl, rfl⟩ (Nat.le_of_ble_eq_true rfl) (Nat.le_of_ble_eq_true rfl) (Nat.le_of_ble_eq_true rfl) ?_
  rintro x1 _ ⟨rfl, h2, h3, h4⟩
  refine vc_if_eq dX12_teller_5 (fun h5 => ?_) (fun h5 => ?_)
  · refine vc_iconst dX12_teller_50 rfl ?_
    refine vc_iret dX12_teller_51 rfl (Nat.le_of_ble_eq_true rfl) (Nat.le_of_ble_eq_true rfl) ?_
    exact ⟨_, rfl, hB0, rfl⟩
  · refine vc_iload_n dX12_teller_8 rfl ?_
    refine vc_iconst dX12_teller_9 rfl ?_
    refine vc_bipush dX12_teller_10 rfl ?_
    refine vc_cSI dX12_teller_12 (sfX12_isIn (M := M) hB0.1  s 0 10 ) rfl okX12_isIn stX12_isIn lkX12_83 rfl (Nat.le_of_ble_eq_true rfl) ⟨rfl, rfl⟩ (Nat.le_of_ble_eq_true rfl) (Nat.le_of_ble_eq_true rfl) (Nat.le_of_ble_eq_true rfl) ?_
    rintro x6 _ ⟨rfl, h7, h8, h9⟩
    refine vc_if_eq dX12_teller_15 (fun h10 => ?_) (fun h10 => ?_)
    · refine vc_iconst dX12_teller_50 rfl ?_
      refine vc_iret dX12_teller_51 rfl (Nat.le_of_ble_eq_true rfl) (Nat.le_of_ble_eq_true rfl) ?_
      exact ⟨_, rfl, hB0, rfl⟩
    · refine vc_iload_n dX12_teller_18 rfl ?_
      refine vc_iconst dX12_teller_19 rfl ?_
      refine vc_bipush dX12_teller_20 rfl ?_
      refine vc_cSI dX12_teller_22 (sfX12_isIn (M := M) hB0.1  e 0 10 ) rfl okX12_isIn stX12_isIn lkX12_83 rfl (Nat.le_of_ble_eq_true rfl) ⟨rfl, rfl⟩ (Nat.le_of_ble_eq_true rfl) (Nat.le_of_ble_eq_true rfl) (Nat.le_of_ble_eq_true rfl) ?_
      rintro x11 _ ⟨rfl, h12, h13, h14⟩
      refine vc_if_eq dX12_teller_25 (fun h15 => ?_) (fun h15 => ?_)
      · refine vc_iconst dX12_teller_50 rfl ?_
        refine vc_iret dX12_teller_51 rfl (Nat.le_of_ble_eq_true rfl) (Nat.le_of_ble_eq_true rfl) ?_
        exact ⟨_, rfl, hB0, rfl⟩
      · refine vc_iload dX12_teller_28 rfl ?_
        refine vc_iconst dX12_teller_30 rfl ?_
        refine vc_bipush dX12_teller_31 rfl ?_
        refine vc_cSI dX12_teller_33 (sfX12_isIn (M := M) hB0.1  m 0 10 ) rfl okX12_isIn stX12_isIn lkX12_83 rfl (Nat.le_of_ble_eq_true rfl) ⟨rfl, rfl⟩ (Nat.le_of_ble_eq_true rfl) (Nat.le_of_ble_eq_true rfl) (Nat.le_of_ble_eq_true rfl) ?_
        rintro x16 _ ⟨rfl, h17, h18, h19⟩
        refine vc_if_eq dX12_teller_36 (fun h20 => ?_) (fun h20 => ?_)
        · refine vc_iconst dX12_teller_50 rfl ?_
          refine vc_iret dX12_teller_51 rfl (Nat.le_of_ble_eq_true rfl) (Nat.le_of_ble_eq_true rfl) ?_
          exact ⟨_, rfl, hB0, rfl⟩
        · refine vc_aload_n dX12_teller_39 rfl ?_
          refine vc_getR dX12_teller_40 flX12_7 (s_54 hB0.1.1) rfl (r_54_0 hB0.1.1) ?_
          refine vc_iconst dX12_teller_43 rfl ?_
          refine vc_iaload dX12_teller_44 (s_55 hB0.1.1) (by omega) (by omega) ?_
          refine vc_topI (mI M 55 2) rfl ?_
          have k21 : 0 ≤ mI M 55 2 ∧ mI M 55 2 ≤ 6 := b55_2 (M := M) hB0.1
          refine vc_bipush dX12_teller_45 rfl ?_
          refine vc_icmp_ne dX12_teller_47 (fun h22 => ?_) (fun h22 => ?_)
          · refine vc_sipush dX12_teller_52 rfl ?_
            refine vc_iconst dX12_teller_55 rfl ?_
            refine vc_aload_n dX12_teller_56 rfl ?_
            refine vc_getR dX12_teller_57 flX12_7 (s_54 hB0.1.1) rfl (r_54_0 hB0.1.1) ?_
            refine vc_iconst dX12_teller_60 rfl ?_
            refine vc_iaload dX12_teller_61 (s_55 hB0.1.1) (by omega) (by omega) ?_
            refine vc_topI (mI M 55 2) rfl ?_
            refine vc_imulE dX12_teller_62 (by omega) (by omega) ?_
            refine vc_iaddE dX12_teller_63 (by omega) (by omega) ?_
            refine vc_nameI (fun x23 ex23 => ?_)
            refine vc_istore dX12_teller_64 (by decide) rfl (show _ = [some (aR 54), some (aI c), some (aI s), some (aI e), some (aI m), some (aI x23)] from rfl) ?_
            refine vc_aload_n dX12_teller_66 rfl ?_
            refine vc_getR dX12_teller_67 flX12_7 (s_54 hB0.1.1) rfl (r_54_0 hB0.1.1) ?_
            refine vc_iload dX12_teller_70 rfl ?_
            refine vc_iload_n dX12_teller_72 rfl ?_
            refine vc_iastore dX12_teller_73 (s_55 hB0.1.1) (by omega) (by omega) ?_
            have kp24 : mI (sI M 55 x23.toNat c) 57 = mI M 57 := (kp_sI rfl rfl)
            have hB25 : BF fR M (sI M 55 x23.toNat c) := BF.a (x := x23) hB0 (by omega) (by omega) (by unfold aB; refine ⟨?_, ?_, ?_, ?_, ?_, ?_, ?_, ?_, ?_, ?_, ?_, ?_, ?_, ?_, ?_, ?_, ?_, ?_⟩ <;> intros <;> omega) (by omega) (by omega) (by omega) (by omega) (by omega) (by omega) fR_55
            refine vc_aload_n dX12_teller_74 rfl ?_
            refine vc_getR dX12_teller_75 flX12_7 (s_54 hB25.1.1) rfl (r_54_0 hB25.1.1) ?_
            refine vc_iload dX12_teller_78 rfl ?_
            refine vc_iconst dX12_teller_80 rfl ?_
            refine vc_iaddE dX12_teller_81 (by omega) (by omega) ?_
            refine vc_iload_n dX12_teller_82 rfl ?_
            refine vc_iastore dX12_teller_83 (s_55 hB25.1.1) (by omega) (by omega) ?_
            have kp26 : mI (sI (sI M 55 x23.toNat c) 55 ((x23 + 1).toNat) s) 57 = mI M 57 := (kp_sI kp24 rfl)
            have hB27 : BF fR M (sI (sI M 55 x23.toNat c) 55 ((x23 + 1).toNat) s) := BF.a (x := x23 + 1) hB25 (by omega) (by omega) (by unfold aB; refine ⟨?_, ?_, ?_, ?_, ?_, ?_, ?_, ?_, ?_, ?_, ?_, ?_, ?_, ?_, ?_, ?_, ?_, ?_⟩ <;> intros <;> omega) (by omega) (by omega) (by omega) (by omega) (by omega) (by omega) fR_55
            refine vc_aload_n dX12_teller_84 rfl ?_
            refine vc_getR dX12_teller_85 flX12_7 (s_54 hB27.1.1) rfl (r_54_0 hB27.1.1) ?_
            refine vc_iload dX12_teller_88 rfl ?_
            refine vc_iconst dX12_teller_90 rfl ?_
            refine vc_iaddE dX12_teller_91 (by omega) (by omega) ?_
            refine vc_iload_n dX12_teller_92 rfl ?_
            refine vc_iastore dX12_teller_93 (s_55 hB27.1.1) (by omega) (by omega) ?_
            have kp28 : mI (sI (sI (sI M 55 x23.toNat c) 55 ((x23 + 1).toNat) s) 55 ((x23 + 2).toNat) e) 57 = mI M 57 := (kp_sI kp26 rfl)
            have hB29 : BF fR M (sI (sI (sI M 55 x23.toNat c) 55 ((x23 + 1).toNat) s) 55 ((x23 + 2).toNat) e) := BF.a (x := x23 + 2) hB27 (by omega) (by omega) (by unfold aB; refine ⟨?_, ?_, ?_, ?_, ?_, ?_, ?_, ?_, ?_, ?_, ?_, ?_, ?_, ?_, ?_, ?_, ?_, ?_⟩ <;> intros <;> omega) (by omega) (by omega) (by omega) (by omega) (by omega) (by omega) fR_55
            refine vc_aload_n dX12_teller_94 rfl ?_
            refine vc_getR dX12_teller_95 flX12_7 (s_54 hB29.1.1) rfl (r_54_0 hB29.1.1) ?_
            refine vc_iload dX12_teller_98 rfl ?_
            refine vc_iconst dX12_teller_100 rfl ?_
            refine vc_iaddE dX12_teller_101 (by omega) (by omega) ?_
            refine vc_iload dX12_teller_102 rfl ?_
            refine vc_iastore dX12_teller_104 (s_55 hB29.1.1) (by omega) (by omega) ?_
            have kp30 : mI (sI (sI (sI (sI M 55 x23.toNat c) 55 ((x23 + 1).toNat) s) 55 ((x23 + 2).toNat) e) 55 ((x23 + 3).toNat) m) 57 = mI M 57 := (kp_sI kp28 rfl)
            have hB31 : BF fR M (sI (sI (sI (sI M 55 x23.toNat c) 55 ((x23 + 1).toNat) s) 55 ((x23 + 2).toNat) e) 55 ((x23 + 3).toNat) m) := BF.a (x := x23 + 3) hB29 (by omega) (by omega) (by unfold aB; refine ⟨?_, ?_, ?_, ?_, ?_, ?_, ?_, ?_, ?_, ?_, ?_, ?_, ?_, ?_, ?_, ?_, ?_, ?_⟩ <;> intros <;> omega) (by omega) (by omega) (by omega) (by omega) (by omega) (by omega) fR_55
            refine vc_aload_n dX12_teller_105 rfl ?_
            refine vc_getR dX12_teller_106 flX12_7 (s_54 hB31.1.1) rfl (r_54_0 hB31.1.1) ?_
            refine vc_iload dX12_teller_109 rfl ?_
            refine vc_iconst dX12_teller_111 rfl ?_
            refine vc_iaddE dX12_teller_112 (by omega) (by omega) ?_
            refine vc_iconst dX12_teller_113 rfl ?_
            refine vc_iastore dX12_teller_114 (s_55 hB31.1.1) (by omega) (by omega) ?_
            have kp32 : mI (sI (sI (sI (sI (sI M 55 x23.toNat c) 55 ((x23 + 1).toNat) s) 55 ((x23 + 2).toNat) e) 55 ((x23 + 3).toNat) m) 55 ((x23 + 4).toNat) 0) 57 = mI M 57 := (kp_sI kp30 rfl)
            have hB33 : BF fR M (sI (sI (sI (sI (sI M 55 x23.toNat c) 55 ((x23 + 1).toNat) s) 55 ((x23 + 2).toNat) e) 55 ((x23 + 3).toNat) m) 55 ((x23 + 4).toNat) 0) := BF.a (x := x23 + 4) hB31 (by omega) (by omega) (by unfold aB; refine ⟨?_, ?_, ?_, ?_, ?_, ?_, ?_, ?_, ?_, ?_, ?_, ?_, ?_, ?_, ?_, ?_, ?_, ?_⟩ <;> intros <;> omega) (by omega) (by omega) (by omega) (by omega) (by omega) (by omega) fR_55
            refine vc_aload_n dX12_teller_115 rfl ?_
            refine vc_getR dX12_teller_116 flX12_7 (s_54 hB33.1.1) rfl (r_54_0 hB33.1.1) ?_
            refine vc_iconst dX12_teller_119 rfl ?_
            refine vc_dup2 dX12_teller_120 rfl rfl ?_
            refine vc_iaload dX12_teller_121 (s_55 hB33.1.1) (by omega) (by omega) ?_
            refine vc_topI (mI (sI (sI (sI (sI (sI M 55 x23.toNat c) 55 ((x23 + 1).toNat) s) 55 ((x23 + 2).toNat) e) 55 ((x23 + 3).toNat) m) 55 ((x23 + 4).toNat) 0) 55 2) rfl ?_
            have k34 : mI (sI (sI (sI (sI (sI M 55 x23.toNat c) 55 ((x23 + 1).toNat) s) 55 ((x23 + 2).toNat) e) 55 ((x23 + 3).toNat) m) 55 ((x23 + 4).toNat) 0) 55 2 = mI M 55 2 := by repeat rw [mI_sI, if_neg (by omega)]
            have k35 : 0 ≤ mI (sI (sI (sI (sI (sI M 55 x23.toNat c) 55 ((x23 + 1).toNat) s) 55 ((x23 + 2).toNat) e) 55 ((x23 + 3).toNat) m) 55 ((x23 + 4).toNat) 0) 55 2 ∧ mI (sI (sI (sI (sI (sI M 55 x23.toNat c) 55 ((x23 + 1).toNat) s) 55 ((x23 + 2).toNat) e) 55 ((x23 + 3).toNat) m) 55 ((x23 + 4).toNat) 0) 55 2 ≤ 6 := b55_2 (M := (sI (sI (sI (sI (sI M 55 x23.toNat c) 55 ((x23 + 1).toNat) s) 55 ((x23 + 2).toNat) e) 55 ((x23 + 3).toNat) m) 55 ((x23 + 4).toNat) 0)) hB33.1
            refine vc_iconst dX12_teller_122 rfl ?_
            refine vc_iaddE dX12_teller_123 (by omega) (by omega) ?_
            refine vc_iastore dX12_teller_124 (s_55 hB33.1.1) (by omega) (by omega) ?_
            refine vc_mem (sI (sI (sI (sI (sI (sI M 55 x23.toNat c) 55 ((x23 + 1).toNat) s) 55 ((x23 + 2).toNat) e) 55 ((x23 + 3).toNat) m) 55 ((x23 + 4).toNat) 0) 55 2 ((mI (sI (sI (sI (sI (sI M 55 x23.toNat c) 55 ((x23 + 1).toNat) s) 55 ((x23 + 2).toNat) e) 55 ((x23 + 3).toNat) m) 55 ((x23 + 4).toNat) 0) 55 2) + 1)) rfl ?_
            have kp36 : mI (sI (sI (sI (sI (sI (sI M 55 x23.toNat c) 55 ((x23 + 1).toNat) s) 55 ((x23 + 2).toNat) e) 55 ((x23 + 3).toNat) m) 55 ((x23 + 4).toNat) 0) 55 2 ((mI (sI (sI (sI (sI (sI M 55 x23.toNat c) 55 ((x23 + 1).toNat) s) 55 ((x23 + 2).toNat) e) 55 ((x23 + 3).toNat) m) 55 ((x23 + 4).toNat) 0) 55 2) + 1)) 57 = mI M 57 := (kp_sI kp32 rfl)
            have hB37 : BF fR M (sI (sI (sI (sI (sI (sI M 55 x23.toNat c) 55 ((x23 + 1).toNat) s) 55 ((x23 + 2).toNat) e) 55 ((x23 + 3).toNat) m) 55 ((x23 + 4).toNat) 0) 55 2 ((mI (sI (sI (sI (sI (sI M 55 x23.toNat c) 55 ((x23 + 1).toNat) s) 55 ((x23 + 2).toNat) e) 55 ((x23 + 3).toNat) m) 55 ((x23 + 4).toNat) 0) 55 2) + 1)) := BF.a (x := 2) hB33 (by omega) (by omega) (by unfold aB; refine ⟨?_, ?_, ?_, ?_, ?_, ?_, ?_, ?_, ?_, ?_, ?_, ?_, ?_, ?_, ?_, ?_, ?_, ?_⟩ <;> intros <;> omega) (by omega) (by omega) (by omega) (by omega) (by omega) (by omega) fR_55
            refine vc_aload_n dX12_teller_125 rfl ?_
            refine vc_getR dX12_teller_126 flX12_7 (s_54 hB37.1.1) rfl (r_54_0 hB37.1.1) ?_
            refine vc_iconst dX12_teller_129 rfl ?_
            refine vc_iaload dX12_teller_130 (s_55 hB37.1.1) (by omega) (by omega) ?_
            refine vc_topI ((mI (sI (sI (sI (sI (sI M 55 x23.toNat c) 55 ((x23 + 1).toNat) s) 55 ((x23 + 2).toNat) e) 55 ((x23 + 3).toNat) m) 55 ((x23 + 4).toNat) 0) 55 2) + 1) rfl ?_
            refine vc_iconst dX12_teller_131 rfl ?_
            refine vc_isubE dX12_teller_132 (by omega) (by omega) ?_
            refine vc_iret dX12_teller_133 rfl (Nat.le_of_ble_eq_true rfl) (Nat.le_of_ble_eq_true rfl) ?_
            exact ⟨_, rfl, hB37, kp36⟩
          · refine vc_iconst dX12_teller_50 rfl ?_
            refine vc_iret dX12_teller_51 rfl (Nat.le_of_ble_eq_true rfl) (Nat.le_of_ble_eq_true rfl) ?_
            exact ⟨_, rfl, hB0, rfl⟩

set_option maxRecDepth 4000 in
theorem sfX12_isTurn {l : Launch} {M : Mem} (hB : Box M)  (v : Int)  : Call l mdX12_isTurn [aI v] M (fun q N => ∃ r : Int, q = some (aI r) ∧ M = N ∧ 0 ≤ r ∧ r ≤ 1) := by
  have hB0 : BF fQ M M := BF.start hB
  refine Call.of [some (aI v)] rfl (Nat.le_of_ble_eq_true rfl) rfl ?_
  refine vc_ok (fun hoM hoS hoL => ?_)
  have hr0 : -2147483648 ≤ v ∧ v < 2147483648 := hoL 0 _ rfl
  refine vc_iload_n dX12_isTurn_0 rfl ?_
  refine vc_bipush dX12_isTurn_1 rfl ?_
  refine vc_idiv dX12_isTurn_3 (by omega) ?_
  refine vc_iconst dX12_isTurn_4 rfl ?_
  refine vc_iconst dX12_isTurn_5 rfl ?_
  refine vc_cSI dX12_isTurn_6 (sfX12_isIn (M := M) hB0.1  (dvI v 100) 1 3 ) rfl okX12_isIn stX12_isIn lkX12_83 rfl (Nat.le_of_ble_eq_true rfl) ⟨rfl, rfl⟩ (Nat.le_of_ble_eq_true rfl) (Nat.le_of_ble_eq_true rfl) (Nat.le_of_ble_eq_true rfl) ?_
  rintro x1 _ ⟨rfl, h2, h3, h4⟩
  refine vc_if_eq dX12_isTurn_9 (fun h5 => ?_) (fun h5 => ?_)
  · refine vc_iconst dX12_isTurn_64 rfl ?_
    refine vc_zret dX12_isTurn_65 rfl (by first | decide | omega) (Nat.le_of_ble_eq_true rfl) (Nat.le_of_ble_eq_true rfl) ?_
    exact ⟨_, rfl, rfl, by omega, by omega⟩
  · refine vc_iload_n dX12_isTurn_12 rfl ?_
    refine vc_bipush dX12_isTurn_13 rfl ?_
    refine vc_idiv dX12_isTurn_15 (by omega) ?_
    refine vc_bipush dX12_isTurn_16 rfl ?_
    refine vc_irem dX12_isTurn_18 (by omega) ?_
    refine vc_if_ne dX12_isTurn_19 (fun h6 => ?_) (fun h6 => ?_)
    · refine vc_iload_n dX12_isTurn_37 rfl ?_
      refine vc_bipush dX12_isTurn_38 rfl ?_
      refine vc_idiv dX12_isTurn_40 (by omega) ?_
      refine vc_bipush dX12_isTurn_41 rfl ?_
      refine vc_irem dX12_isTurn_43 (by omega) ?_
      refine vc_iconst dX12_isTurn_44 rfl ?_
      refine vc_icmp_ne dX12_isTurn_45 (fun h7 => ?_) (fun h7 => ?_)
      · refine vc_iconst dX12_isTurn_64 rfl ?_
        refine vc_zret dX12_isTurn_65 rfl (by first | decide | omega) (Nat.le_of_ble_eq_true rfl) (Nat.le_of_ble_eq_true rfl) ?_
        exact ⟨_, rfl, rfl, by omega, by omega⟩
      · refine vc_iload_n dX12_isTurn_48 rfl ?_
        refine vc_bipush dX12_isTurn_49 rfl ?_
        refine vc_irem dX12_isTurn_51 (by omega) ?_
        refine vc_iconst dX12_isTurn_52 rfl ?_
        refine vc_iconst dX12_isTurn_53 rfl ?_
        refine vc_cSI dX12_isTurn_54 (sfX12_isIn (M := M) hB0.1  (rmI v 10) 1 5 ) rfl okX12_isIn stX12_isIn lkX12_83 rfl (Nat.le_of_ble_eq_true rfl) ⟨rfl, rfl⟩ (Nat.le_of_ble_eq_true rfl) (Nat.le_of_ble_eq_true rfl) (Nat.le_of_ble_eq_true rfl) ?_
        rintro x8 _ ⟨rfl, h9, h10, h11⟩
        refine vc_if_eq dX12_isTurn_57 (fun h12 => ?_) (fun h12 => ?_)
        · refine vc_iconst dX12_isTurn_64 rfl ?_
          refine vc_zret dX12_isTurn_65 rfl (by first | decide | omega) (Nat.le_of_ble_eq_true rfl) (Nat.le_of_ble_eq_true rfl) ?_
          exact ⟨_, rfl, rfl, by omega, by omega⟩
        · refine vc_iconst dX12_isTurn_60 rfl ?_
          refine vc_goto dX12_isTurn_61 ?_
          refine vc_zret dX12_isTurn_65 rfl (by first | decide | omega) (Nat.le_of_ble_eq_true rfl) (Nat.le_of_ble_eq_true rfl) ?_
          exact ⟨_, rfl, rfl, by omega, by omega⟩
    · refine vc_iload_n dX12_isTurn_22 rfl ?_
      refine vc_bipush dX12_isTurn_23 rfl ?_
      refine vc_irem dX12_isTurn_25 (by omega) ?_
      refine vc_iconst dX12_isTurn_26 rfl ?_
      refine vc_iconst dX12_isTurn_27 rfl ?_
      refine vc_cSI dX12_isTurn_28 (sfX12_isIn (M := M) hB0.1  (rmI v 10) 1 4 ) rfl okX12_isIn stX12_isIn lkX12_83 rfl (Nat.le_of_ble_eq_true rfl) ⟨rfl, rfl⟩ (Nat.le_of_ble_eq_true rfl) (Nat.le_of_ble_eq_true rfl) (Nat.le_of_ble_eq_true rfl) ?_
      rintro x13 _ ⟨rfl, h14, h15, h16⟩
      refine vc_if_eq dX12_isTurn_31 (fun h17 => ?_) (fun h17 => ?_)
      · refine vc_iconst dX12_isTurn_64 rfl ?_
        refine vc_zret dX12_isTurn_65 rfl (by first | decide | omega) (Nat.le_of_ble_eq_true rfl) (Nat.le_of_ble_eq_true rfl) ?_
        exact ⟨_, rfl, rfl, by omega, by omega⟩
      · refine vc_goto dX12_isTurn_34 ?_
        refine vc_iconst dX12_isTurn_60 rfl ?_
        refine vc_goto dX12_isTurn_61 ?_
        refine vc_zret dX12_isTurn_65 rfl (by first | decide | omega) (Nat.le_of_ble_eq_true rfl) (Nat.le_of_ble_eq_true rfl) ?_
        exact ⟨_, rfl, rfl, by omega, by omega⟩

set_option maxRecDepth 4000 in
theorem sfX12_take {l : Launch} {M : Mem} (hB : Box M)  (v : Int) (p0 : mI M 54 4 ≤ 3) : Call l mdX12_take [aR 54, aI v] M (fun q N => ∃ r : Int, q = some (aI r) ∧ BF fQ M N ∧ mI N 55 = mI M 55 ∧ 0 ≤ r ∧ r ≤ 1 ∧ mI N 54 4 ≤ mI M 54 4 + 3 ∧ mI M 54 4 ≤ mI N 54 4) := by
  have hB0 : BF fQ M M := BF.start hB
  refine Call.of [some (aR 54), some (aI v), none, none, none] rfl (Nat.le_of_ble_eq_true rfl) rfl ?_
  refine vc_ok (fun hoM hoS hoL => ?_)
  have hr1 : -2147483648 ≤ v ∧ v < 2147483648 := hoL 1 _ rfl
  refine vc_iload_n dX12_take_0 rfl ?_
  refine vc_iconst dX12_take_1 rfl ?_
  refine vc_ldc dX12_take_2 rfl kcX12_95 ?_
  refine vc_cSI dX12_take_4 (sfX12_isIn (M := M) hB0.1  v 0 999999999 ) rfl okX12_isIn stX12_isIn lkX12_83 rfl (Nat.le_of_ble_eq_true rfl) ⟨rfl, rfl⟩ (Nat.le_of_ble_eq_true rfl) (Nat.le_of_ble_eq_true rfl) (Nat.le_of_ble_eq_true rfl) ?_
  rintro x1 _ ⟨rfl, h2, h3, h4⟩
  refine vc_if_ne dX12_take_7 (fun h5 => ?_) (fun h5 => ?_)
  · refine vc_iload_n dX12_take_12 rfl ?_
    refine vc_ldc dX12_take_13 rfl kcX12_96 ?_
    refine vc_icmp_le dX12_take_15 (fun h6 => ?_) (fun h6 => ?_)
    · refine vc_iload_n dX12_take_22 rfl ?_
      refine vc_sipush dX12_take_23 rfl ?_
      refine vc_icmp_le dX12_take_26 (fun h7 => ?_) (fun h7 => ?_)
      · refine vc_iload_n dX12_take_33 rfl ?_
        refine vc_if_le dX12_take_34 (fun h8 => ?_) (fun h8 => ?_)
        · refine vc_iconst dX12_take_41 rfl ?_
          refine vc_istore_n dX12_take_42 (by decide) rfl (show _ = [some (aR 54), some (aI v), some (aI 0), none, none] from rfl) ?_
          refine vc_iload_n dX12_take_43 rfl ?_
          refine vc_istore_n dX12_take_44 (by decide) rfl (show _ = [some (aR 54), some (aI v), some (aI 0), some (aI v), none] from rfl) ?_
          refine vc_iload_n dX12_take_45 rfl ?_
          refine vc_iconst dX12_take_46 rfl ?_
          refine vc_isubE dX12_take_47 (by omega) (by omega) ?_
          refine vc_topI (-1) rfl ?_
          refine vc_istore dX12_take_48 (by decide) rfl (show _ = [some (aR 54), some (aI v), some (aI 0), some (aI v), some (aI (-1))] from rfl) ?_
          have lp50 : ∀ (n50 : Nat) (Mq50 : Mem) (v3 : Int) (v4 : Int), (BF fQ M Mq50) → (mI Mq50 54 = mI M 54) → (mI Mq50 55 = mI M 55) → (0 ≤ v3) → (v3 ≤ 999999999) → ((-1) ≤ v4) → (v4 ≤ 2) → (v4 + 1).toNat < n50 → VC l mdX12_take 50 [some (aR 54), none, some (aI 0), some (aI v3), some (aI v4)] [] Mq50 0 0 (fun q N => ∃ r : Int, q = some (aI r) ∧ BF fQ M N ∧ mI N 55 = mI M 55 ∧ 0 ≤ r ∧ r ≤ 1 ∧ mI N 54 4 ≤ mI M 54 4 + 3 ∧ mI M 54 4 ≤ mI N 54 4) := by
            intro n50
            induction n50 with
            | zero => intro Mq50 v3 v4 hQ50 kp50_54 kp50_55 g50_3a g50_3b g50_4a g50_4b hm50; exact absurd hm50 (Nat.not_lt_zero _)
            | succ n50 ih50 =>
              intro Mq50 v3 v4 hQ50 kp50_54 kp50_55 g50_3a g50_3b g50_4a g50_4b hm50
              refine vc_iload dX12_take_50 rfl ?_
              refine vc_if_lt dX12_take_52 (fun h9 => ?_) (fun h9 => ?_)
              · refine vc_iconst dX12_take_84 rfl ?_
                refine vc_istore dX12_take_85 (by decide) rfl (show _ = [some (aR 54), none, some (aI 0), some (aI v3), some (aI 0)] from rfl) ?_
                have lp87 : ∀ (n87 : Nat) (v4i : Int), (0 ≤ v4i) → (0 - v4i).toNat < n87 → VC l mdX12_take 87 [some (aR 54), none, some (aI 0), none, some (aI v4i)] [] Mq50 0 0 (fun q N => ∃ r : Int, q = some (aI r) ∧ BF fQ M N ∧ mI N 55 = mI M 55 ∧ 0 ≤ r ∧ r ≤ 1 ∧ mI N 54 4 ≤ mI M 54 4 + 3 ∧ mI M 54 4 ≤ mI N 54 4) := by
                  intro n87
                  induction n87 with
                  | zero => intro v4i g87_4a hm87; exact absurd hm87 (Nat.not_lt_zero _)
                  | succ n87 ih87 =>
                    intro v4i g87_4a hm87
                    refine vc_iload dX12_take_87 rfl ?_
                    refine vc_iload_n dX12_take_89 rfl ?_
                    refine vc_icmp_ge dX12_take_90 (fun h10 => ?_) (fun h10 => by exfalso; omega)
                    refine vc_aload_n dX12_take_119 rfl ?_
                    refine vc_dup dX12_take_120 rfl ?_
                    refine vc_getI dX12_take_121 flX12_97 (s_54 hQ50.1.1) rfl ?_
                    have k11 : 0 ≤ mI Mq50 54 4 ∧ mI Mq50 54 4 ≤ 6 := b54_4 (M := Mq50) hQ50.1
                    have k12 : mI Mq50 54 4 = mI M 54 4 := congrFun kp50_54 4
                    refine vc_iload_n dX12_take_124 rfl ?_
                    refine vc_iaddE dX12_take_125 (by omega) (by omega) ?_
                    refine vc_putI dX12_take_126 (plX12_97 _ rfl) (s_54 hQ50.1.1) rfl ?_
                    have kp13 : mI (sI Mq50 54 4 ((mI Mq50 54 4) + 0)) 55 = mI M 55 := (kp_sI kp50_55 rfl)
                    have hB14 : BF fQ M (sI Mq50 54 4 ((mI Mq50 54 4) + 0)) := BF.w54_4 hQ50 rfl (by omega) (by omega)
                    refine vc_iconst dX12_take_129 rfl ?_
                    refine vc_zret dX12_take_130 rfl (by first | decide | omega) (Nat.le_of_ble_eq_true rfl) (Nat.le_of_ble_eq_true rfl) ?_
                    have k15 : mI (sI Mq50 54 4 ((mI Mq50 54 4) + 0)) 54 4 = (mI Mq50 54 4) + 0 := rfl
                    exact ⟨_, rfl, hB14, kp13, by omega, by omega, by omega, by omega⟩
                refine vc_less [some (aR 54), none, some (aI 0), none, some (aI 0)] (lessL_keep (lessL_keep (lessL_keep (lessL_drop (lessL_keep (lessL_nil)))))) ?_
                exact lp87 _ 0 (by omega) (Nat.lt_succ_self _)
              · refine vc_aload_n dX12_take_55 rfl ?_
                refine vc_getR dX12_take_56 flX12_19 (s_54 hQ50.1.1) rfl (r_54_3 hQ50.1.1) ?_
                refine vc_aload_n dX12_take_59 rfl ?_
                refine vc_getI dX12_take_60 flX12_97 (s_54 hQ50.1.1) rfl ?_
                have k16 : 0 ≤ mI Mq50 54 4 ∧ mI Mq50 54 4 ≤ 6 := b54_4 (M := Mq50) hQ50.1
                have k17 : mI Mq50 54 4 = mI M 54 4 := congrFun kp50_54 4
                refine vc_iload dX12_take_63 rfl ?_
                refine vc_iaddE dX12_take_65 (by omega) (by omega) ?_
                refine vc_iload_n dX12_take_66 rfl ?_
                refine vc_sipush dX12_take_67 rfl ?_
                refine vc_iremE dX12_take_70 (by omega) (by omega) ?_
                refine vc_iastore dX12_take_71 (s_58 hQ50.1.1) (by omega) (by omega) ?_
                have kp18 : mI (sI Mq50 58 (((mI Mq50 54 4) + v4).toNat) (v3 % 1000)) 54 = mI M 54 := (kp_sI kp50_54 rfl)
                have kp19 : mI (sI Mq50 58 (((mI Mq50 54 4) + v4).toNat) (v3 % 1000)) 55 = mI M 55 := (kp_sI kp50_55 rfl)
                have hB20 : BF fQ M (sI Mq50 58 (((mI Mq50 54 4) + v4).toNat) (v3 % 1000)) := BF.w58 hQ50 (fun _ => rfl) _
                refine vc_iload_n dX12_take_72 rfl ?_
                refine vc_sipush dX12_take_73 rfl ?_
                refine vc_idivE dX12_take_76 (by omega) (by omega) ?_
                refine vc_nameI (fun x21 ex21 => ?_)
                refine vc_istore_n dX12_take_77 (by decide) rfl (show _ = [some (aR 54), none, some (aI 0), some (aI x21), some (aI v4)] from rfl) ?_
                refine vc_iincE dX12_take_78 rfl (by omega) (by omega) (by decide) rfl (show _ = [some (aR 54), none, some (aI 0), some (aI x21), some (aI (v4 + (-1)))] from rfl) ?_
                refine vc_goto dX12_take_81 ?_
                have k22 : mI (sI Mq50 58 (((mI Mq50 54 4) + v4).toNat) (v3 % 1000)) 54 4 = mI Mq50 54 4 := rfl
                exact ih50 (sI Mq50 58 (((mI Mq50 54 4) + v4).toNat) (v3 % 1000)) x21 (v4 + (-1)) hB20 kp18 kp19 (by omega) (by omega) (by omega) (by omega) (by omega)
          refine vc_less [some (aR 54), none, some (aI 0), some (aI v), some (aI (-1))] (lessL_keep (lessL_drop (lessL_keep (lessL_keep (lessL_keep (lessL_nil)))))) ?_
          exact lp50 _ M v (-1) hB0 rfl rfl (by omega) (by omega) (by omega) (by omega) (Nat.lt_succ_self _)
        · refine vc_iconst dX12_take_37 rfl ?_
          refine vc_goto dX12_take_38 ?_
          refine vc_istore_n dX12_take_42 (by decide) rfl (show _ = [some (aR 54), some (aI v), some (aI 1), none, none] from rfl) ?_
          refine vc_iload_n dX12_take_43 rfl ?_
          refine vc_istore_n dX12_take_44 (by decide) rfl (show _ = [some (aR 54), some (aI v), some (aI 1), some (aI v), none] from rfl) ?_
          refine vc_iload_n dX12_take_45 rfl ?_
          refine vc_iconst dX12_take_46 rfl ?_
          refine vc_isubE dX12_take_47 (by omega) (by omega) ?_
          refine vc_topI 0 rfl ?_
          refine vc_istore dX12_take_48 (by decide) rfl (show _ = [some (aR 54), some (aI v), some (aI 1), some (aI v), some (aI 0)] from rfl) ?_
          have lp50 : ∀ (n50 : Nat) (Mq50 : Mem) (v3 : Int) (v4 : Int), (BF fQ M Mq50) → (mI Mq50 54 = mI M 54) → (mI Mq50 55 = mI M 55) → (0 ≤ v3) → (v3 ≤ 999999999) → ((-1) ≤ v4) → (v4 ≤ 2) → (v4 + 1).toNat < n50 → VC l mdX12_take 50 [some (aR 54), none, some (aI 1), some (aI v3), some (aI v4)] [] Mq50 0 0 (fun q N => ∃ r : Int, q = some (aI r) ∧ BF fQ M N ∧ mI N 55 = mI M 55 ∧ 0 ≤ r ∧ r ≤ 1 ∧ mI N 54 4 ≤ mI M 54 4 + 3 ∧ mI M 54 4 ≤ mI N 54 4) := by
            intro n50
            induction n50 with
            | zero => intro Mq50 v3 v4 hQ50 kp50_54 kp50_55 g50_3a g50_3b g50_4a g50_4b hm50; exact absurd hm50 (Nat.not_lt_zero _)
            | succ n50 ih50 =>
              intro Mq50 v3 v4 hQ50 kp50_54 kp50_55 g50_3a g50_3b g50_4a g50_4b hm50
              refine vc_iload dX12_take_50 rfl ?_
              refine vc_if_lt dX12_take_52 (fun h23 => ?_) (fun h23 => ?_)
              · refine vc_iconst dX12_take_84 rfl ?_
                refine vc_istore dX12_take_85 (by decide) rfl (show _ = [some (aR 54), none, some (aI 1), some (aI v3), some (aI 0)] from rfl) ?_
                have lp87 : ∀ (n87 : Nat) (v4i : Int), (0 ≤ v4i) → (1 - v4i).toNat < n87 → VC l mdX12_take 87 [some (aR 54), none, some (aI 1), none, some (aI v4i)] [] Mq50 0 0 (fun q N => ∃ r : Int, q = some (aI r) ∧ BF fQ M N ∧ mI N 55 = mI M 55 ∧ 0 ≤ r ∧ r ≤ 1 ∧ mI N 54 4 ≤ mI M 54 4 + 3 ∧ mI M 54 4 ≤ mI N 54 4) := by
                  intro n87
                  induction n87 with
                  | zero => intro v4i g87_4a hm87; exact absurd hm87 (Nat.not_lt_zero _)
                  | succ n87 ih87 =>
                    intro v4i g87_4a hm87
                    refine vc_iload dX12_take_87 rfl ?_
                    refine vc_iload_n dX12_take_89 rfl ?_
                    refine vc_icmp_ge dX12_take_90 (fun h24 => ?_) (fun h24 => ?_)
                    · refine vc_aload_n dX12_take_119 rfl ?_
                      refine vc_dup dX12_take_120 rfl ?_
                      refine vc_getI dX12_take_121 flX12_97 (s_54 hQ50.1.1) rfl ?_
                      have k25 : 0 ≤ mI Mq50 54 4 ∧ mI Mq50 54 4 ≤ 6 := b54_4 (M := Mq50) hQ50.1
                      have k26 : mI Mq50 54 4 = mI M 54 4 := congrFun kp50_54 4
                      refine vc_iload_n dX12_take_124 rfl ?_
                      refine vc_iaddE dX12_take_125 (by omega) (by omega) ?_
                      refine vc_putI dX12_take_126 (plX12_97 _ rfl) (s_54 hQ50.1.1) rfl ?_
                      have kp27 : mI (sI Mq50 54 4 ((mI Mq50 54 4) + 1)) 55 = mI M 55 := (kp_sI kp50_55 rfl)
                      have hB28 : BF fQ M (sI Mq50 54 4 ((mI Mq50 54 4) + 1)) := BF.w54_4 hQ50 rfl (by omega) (by omega)
                      refine vc_iconst dX12_take_129 rfl ?_
                      refine vc_zret dX12_take_130 rfl (by first | decide | omega) (Nat.le_of_ble_eq_true rfl) (Nat.le_of_ble_eq_true rfl) ?_
                      have k29 : mI (sI Mq50 54 4 ((mI Mq50 54 4) + 1)) 54 4 = (mI Mq50 54 4) + 1 := rfl
                      exact ⟨_, rfl, hB28, kp27, by omega, by omega, by omega, by omega⟩
                    · refine vc_aload_n dX12_take_93 rfl ?_
                      refine vc_getR dX12_take_94 flX12_19 (s_54 hQ50.1.1) rfl (r_54_3 hQ50.1.1) ?_
                      refine vc_aload_n dX12_take_97 rfl ?_
                      refine vc_getI dX12_take_98 flX12_97 (s_54 hQ50.1.1) rfl ?_
                      have k30 : 0 ≤ mI Mq50 54 4 ∧ mI Mq50 54 4 ≤ 6 := b54_4 (M := Mq50) hQ50.1
                      have k31 : mI Mq50 54 4 = mI M 54 4 := congrFun kp50_54 4
                      refine vc_iload dX12_take_101 rfl ?_
                      refine vc_iaddE dX12_take_103 (by omega) (by omega) ?_
                      refine vc_iaload dX12_take_104 (s_58 hQ50.1.1) (by omega) (by omega) ?_
                      refine vc_cSI dX12_take_105 (sfX12_isTurn (M := Mq50) hQ50.1  (mI Mq50 58 (((mI Mq50 54 4) + v4i).toNat)) ) rfl okX12_isTurn stX12_isTurn lkX12_100 rfl (Nat.le_of_ble_eq_true rfl) ⟨rfl, rfl⟩ (Nat.le_of_ble_eq_true rfl) (Nat.le_of_ble_eq_true rfl) (Nat.le_of_ble_eq_true rfl) ?_
                      rintro x32 _ ⟨rfl, h33, h34⟩
                      refine vc_if_ne dX12_take_108 (fun h35 => ?_) (fun h35 => ?_)
                      · refine vc_iincE dX12_take_113 rfl (by omega) (by omega) (by decide) rfl (show _ = [some (aR 54), none, some (aI 1), none, some (aI (v4i + 1))] from rfl) ?_
                        refine vc_goto dX12_take_116 ?_
                        exact ih87 (v4i + 1) (by omega) (by omega)
                      · refine vc_iconst dX12_take_111 rfl ?_
                        refine vc_zret dX12_take_112 rfl (by first | decide | omega) (Nat.le_of_ble_eq_true rfl) (Nat.le_of_ble_eq_true rfl) ?_
                        exact ⟨_, rfl, hQ50, kp50_55, by omega, by omega, by omega, by omega⟩
                refine vc_less [some (aR 54), none, some (aI 1), none, some (aI 0)] (lessL_keep (lessL_keep (lessL_keep (lessL_drop (lessL_keep (lessL_nil)))))) ?_
                exact lp87 _ 0 (by omega) (Nat.lt_succ_self _)
              · refine vc_aload_n dX12_take_55 rfl ?_
                refine vc_getR dX12_take_56 flX12_19 (s_54 hQ50.1.1) rfl (r_54_3 hQ50.1.1) ?_
                refine vc_aload_n dX12_take_59 rfl ?_
                refine vc_getI dX12_take_60 flX12_97 (s_54 hQ50.1.1) rfl ?_
                have k36 : 0 ≤ mI Mq50 54 4 ∧ mI Mq50 54 4 ≤ 6 := b54_4 (M := Mq50) hQ50.1
                have k37 : mI Mq50 54 4 = mI M 54 4 := congrFun kp50_54 4
                refine vc_iload dX12_take_63 rfl ?_
                refine vc_iaddE dX12_take_65 (by omega) (by omega) ?_
                refine vc_iload_n dX12_take_66 rfl ?_
                refine vc_sipush dX12_take_67 rfl ?_
                refine vc_iremE dX12_take_70 (by omega) (by omega) ?_
                refine vc_iastore dX12_take_71 (s_58 hQ50.1.1) (by omega) (by omega) ?_
                have kp38 : mI (sI Mq50 58 (((mI Mq50 54 4) + v4).toNat) (v3 % 1000)) 54 = mI M 54 := (kp_sI kp50_54 rfl)
                have kp39 : mI (sI Mq50 58 (((mI Mq50 54 4) + v4).toNat) (v3 % 1000)) 55 = mI M 55 := (kp_sI kp50_55 rfl)
                have hB40 : BF fQ M (sI Mq50 58 (((mI Mq50 54 4) + v4).toNat) (v3 % 1000)) := BF.w58 hQ50 (fun _ => rfl) _
                refine vc_iload_n dX12_take_72 rfl ?_
                refine vc_sipush dX12_take_73 rfl ?_
                refine vc_idivE dX12_take_76 (by omega) (by omega) ?_
                refine vc_nameI (fun x41 ex41 => ?_)
                refine vc_istore_n dX12_take_77 (by decide) rfl (show _ = [some (aR 54), none, some (aI 1), some (aI x41), some (aI v4)] from rfl) ?_
                refine vc_iincE dX12_take_78 rfl (by omega) (by omega) (by decide) rfl (show _ = [some (aR 54), none, some (aI 1), some (aI x41), some (aI (v4 + (-1)))] from rfl) ?_
                refine vc_goto dX12_take_81 ?_
                have k42 : mI (sI Mq50 58 (((mI Mq50 54 4) + v4).toNat) (v3 % 1000)) 54 4 = mI Mq50 54 4 := rfl
                exact ih50 (sI Mq50 58 (((mI Mq50 54 4) + v4).toNat) (v3 % 1000)) x41 (v4 + (-1)) hB40 kp38 kp39 (by omega) (by omega) (by omega) (by omega) (by omega)
          refine vc_less [some (aR 54), none, some (aI 1), some (aI v), some (aI 0)] (lessL_keep (lessL_drop (lessL_keep (lessL_keep (lessL_keep (lessL_nil)))))) ?_
          exact lp50 _ M v 0 hB0 rfl rfl (by omega) (by omega) (by omega) (by omega) (Nat.lt_succ_self _)
      · refine vc_iconst dX12_take_29 rfl ?_
        refine vc_goto dX12_take_30 ?_
        refine vc_istore_n dX12_take_42 (by decide) rfl (show _ = [some (aR 54), some (aI v), some (aI 2), none, none] from rfl) ?_
        refine vc_iload_n dX12_take_43 rfl ?_
        refine vc_istore_n dX12_take_44 (by decide) rfl (show _ = [some (aR 54), some (aI v), some (aI 2), some (aI v), none] from rfl) ?_
        refine vc_iload_n dX12_take_45 rfl ?_
        refine vc_iconst dX12_take_46 rfl ?_
        refine vc_isubE dX12_take_47 (by omega) (by omega) ?_
        refine vc_topI 1 rfl ?_
        refine vc_istore dX12_take_48 (by decide) rfl (show _ = [some (aR 54), some (aI v), some (aI 2), some (aI v), some (aI 1)] from rfl) ?_
        have lp50 : ∀ (n50 : Nat) (Mq50 : Mem) (v3 : Int) (v4 : Int), (BF fQ M Mq50) → (mI Mq50 54 = mI M 54) → (mI Mq50 55 = mI M 55) → (0 ≤ v3) → (v3 ≤ 999999999) → ((-1) ≤ v4) → (v4 ≤ 2) → (v4 + 1).toNat < n50 → VC l mdX12_take 50 [some (aR 54), none, some (aI 2), some (aI v3), some (aI v4)] [] Mq50 0 0 (fun q N => ∃ r : Int, q = some (aI r) ∧ BF fQ M N ∧ mI N 55 = mI M 55 ∧ 0 ≤ r ∧ r ≤ 1 ∧ mI N 54 4 ≤ mI M 54 4 + 3 ∧ mI M 54 4 ≤ mI N 54 4) := by
          intro n50
          induction n50 with
          | zero => intro Mq50 v3 v4 hQ50 kp50_54 kp50_55 g50_3a g50_3b g50_4a g50_4b hm50; exact absurd hm50 (Nat.not_lt_zero _)
          | succ n50 ih50 =>
            intro Mq50 v3 v4 hQ50 kp50_54 kp50_55 g50_3a g50_3b g50_4a g50_4b hm50
            refine vc_iload dX12_take_50 rfl ?_
            refine vc_if_lt dX12_take_52 (fun h43 => ?_) (fun h43 => ?_)
            · refine vc_iconst dX12_take_84 rfl ?_
              refine vc_istore dX12_take_85 (by decide) rfl (show _ = [some (aR 54), none, some (aI 2), some (aI v3), some (aI 0)] from rfl) ?_
              have lp87 : ∀ (n87 : Nat) (v4i : Int), (0 ≤ v4i) → (2 - v4i).toNat < n87 → VC l mdX12_take 87 [some (aR 54), none, some (aI 2), none, some (aI v4i)] [] Mq50 0 0 (fun q N => ∃ r : Int, q = some (aI r) ∧ BF fQ M N ∧ mI N 55 = mI M 55 ∧ 0 ≤ r ∧ r ≤ 1 ∧ mI N 54 4 ≤ mI M 54 4 + 3 ∧ mI M 54 4 ≤ mI N 54 4) := by
                intro n87
                induction n87 with
                | zero => intro v4i g87_4a hm87; exact absurd hm87 (Nat.not_lt_zero _)
                | succ n87 ih87 =>
                  intro v4i g87_4a hm87
                  refine vc_iload dX12_take_87 rfl ?_
                  refine vc_iload_n dX12_take_89 rfl ?_
                  refine vc_icmp_ge dX12_take_90 (fun h44 => ?_) (fun h44 => ?_)
                  · refine vc_aload_n dX12_take_119 rfl ?_
                    refine vc_dup dX12_take_120 rfl ?_
                    refine vc_getI dX12_take_121 flX12_97 (s_54 hQ50.1.1) rfl ?_
                    have k45 : 0 ≤ mI Mq50 54 4 ∧ mI Mq50 54 4 ≤ 6 := b54_4 (M := Mq50) hQ50.1
                    have k46 : mI Mq50 54 4 = mI M 54 4 := congrFun kp50_54 4
                    refine vc_iload_n dX12_take_124 rfl ?_
                    refine vc_iaddE dX12_take_125 (by omega) (by omega) ?_
                    refine vc_putI dX12_take_126 (plX12_97 _ rfl) (s_54 hQ50.1.1) rfl ?_
                    have kp47 : mI (sI Mq50 54 4 ((mI Mq50 54 4) + 2)) 55 = mI M 55 := (kp_sI kp50_55 rfl)
                    have hB48 : BF fQ M (sI Mq50 54 4 ((mI Mq50 54 4) + 2)) := BF.w54_4 hQ50 rfl (by omega) (by omega)
                    refine vc_iconst dX12_take_129 rfl ?_
                    refine vc_zret dX12_take_130 rfl (by first | decide | omega) (Nat.le_of_ble_eq_true rfl) (Nat.le_of_ble_eq_true rfl) ?_
                    have k49 : mI (sI Mq50 54 4 ((mI Mq50 54 4) + 2)) 54 4 = (mI Mq50 54 4) + 2 := rfl
                    exact ⟨_, rfl, hB48, kp47, by omega, by omega, by omega, by omega⟩
                  · refine vc_aload_n dX12_take_93 rfl ?_
                    refine vc_getR dX12_take_94 flX12_19 (s_54 hQ50.1.1) rfl (r_54_3 hQ50.1.1) ?_
                    refine vc_aload_n dX12_take_97 rfl ?_
                    refine vc_getI dX12_take_98 flX12_97 (s_54 hQ50.1.1) rfl ?_
                    have k50 : 0 ≤ mI Mq50 54 4 ∧ mI Mq50 54 4 ≤ 6 := b54_4 (M := Mq50) hQ50.1
                    have k51 : mI Mq50 54 4 = mI M 54 4 := congrFun kp50_54 4
                    refine vc_iload dX12_take_101 rfl ?_
                    refine vc_iaddE dX12_take_103 (by omega) (by omega) ?_
                    refine vc_iaload dX12_take_104 (s_58 hQ50.1.1) (by omega) (by omega) ?_
                    refine vc_cSI dX12_take_105 (sfX12_isTurn (M := Mq50) hQ50.1  (mI Mq50 58 (((mI Mq50 54 4) + v4i).toNat)) ) rfl okX12_isTurn stX12_isTurn lkX12_100 rfl (Nat.le_of_ble_eq_true rfl) ⟨rfl, rfl⟩ (Nat.le_of_ble_eq_true rfl) (Nat.le_of_ble_eq_true rfl) (Nat.le_of_ble_eq_true rfl) ?_
                    rintro x52 _ ⟨rfl, h53, h54⟩
                    refine vc_if_ne dX12_take_108 (fun h55 => ?_) (fun h55 => ?_)
                    · refine vc_iincE dX12_take_113 rfl (by omega) (by omega) (by decide) rfl (show _ = [some (aR 54), none, some (aI 2), none, some (aI (v4i + 1))] from rfl) ?_
                      refine vc_goto dX12_take_116 ?_
                      exact ih87 (v4i + 1) (by omega) (by omega)
                    · refine vc_iconst dX12_take_111 rfl ?_
                      refine vc_zret dX12_take_112 rfl (by first | decide | omega) (Nat.le_of_ble_eq_true rfl) (Nat.le_of_ble_eq_true rfl) ?_
                      exact ⟨_, rfl, hQ50, kp50_55, by omega, by omega, by omega, by omega⟩
              refine vc_less [some (aR 54), none, some (aI 2), none, some (aI 0)] (lessL_keep (lessL_keep (lessL_keep (lessL_drop (lessL_keep (lessL_nil)))))) ?_
              exact lp87 _ 0 (by omega) (Nat.lt_succ_self _)
            · refine vc_aload_n dX12_take_55 rfl ?_
              refine vc_getR dX12_take_56 flX12_19 (s_54 hQ50.1.1) rfl (r_54_3 hQ50.1.1) ?_
              refine vc_aload_n dX12_take_59 rfl ?_
              refine vc_getI dX12_take_60 flX12_97 (s_54 hQ50.1.1) rfl ?_
              have k56 : 0 ≤ mI Mq50 54 4 ∧ mI Mq50 54 4 ≤ 6 := b54_4 (M := Mq50) hQ50.1
              have k57 : mI Mq50 54 4 = mI M 54 4 := congrFun kp50_54 4
              refine vc_iload dX12_take_63 rfl ?_
              refine vc_iaddE dX12_take_65 (by omega) (by omega) ?_
              refine vc_iload_n dX12_take_66 rfl ?_
              refine vc_sipush dX12_take_67 rfl ?_
              refine vc_iremE dX12_take_70 (by omega) (by omega) ?_
              refine vc_iastore dX12_take_71 (s_58 hQ50.1.1) (by omega) (by omega) ?_
              have kp58 : mI (sI Mq50 58 (((mI Mq50 54 4) + v4).toNat) (v3 % 1000)) 54 = mI M 54 := (kp_sI kp50_54 rfl)
              have kp59 : mI (sI Mq50 58 (((mI Mq50 54 4) + v4).toNat) (v3 % 1000)) 55 = mI M 55 := (kp_sI kp50_55 rfl)
              have hB60 : BF fQ M (sI Mq50 58 (((mI Mq50 54 4) + v4).toNat) (v3 % 1000)) := BF.w58 hQ50 (fun _ => rfl) _
              refine vc_iload_n dX12_take_72 rfl ?_
              refine vc_sipush dX12_take_73 rfl ?_
              refine vc_idivE dX12_take_76 (by omega) (by omega) ?_
              refine vc_nameI (fun x61 ex61 => ?_)
              refine vc_istore_n dX12_take_77 (by decide) rfl (show _ = [some (aR 54), none, some (aI 2), some (aI x61), some (aI v4)] from rfl) ?_
              refine vc_iincE dX12_take_78 rfl (by omega) (by omega) (by decide) rfl (show _ = [some (aR 54), none, some (aI 2), some (aI x61), some (aI (v4 + (-1)))] from rfl) ?_
              refine vc_goto dX12_take_81 ?_
              have k62 : mI (sI Mq50 58 (((mI Mq50 54 4) + v4).toNat) (v3 % 1000)) 54 4 = mI Mq50 54 4 := rfl
              exact ih50 (sI Mq50 58 (((mI Mq50 54 4) + v4).toNat) (v3 % 1000)) x61 (v4 + (-1)) hB60 kp58 kp59 (by omega) (by omega) (by omega) (by omega) (by omega)
        refine vc_less [some (aR 54), none, some (aI 2), some (aI v), some (aI 1)] (lessL_keep (lessL_drop (lessL_keep (lessL_keep (lessL_keep (lessL_nil)))))) ?_
        exact lp50 _ M v 1 hB0 rfl rfl (by omega) (by omega) (by omega) (by omega) (Nat.lt_succ_self _)
    · refine vc_iconst dX12_take_18 rfl ?_
      refine vc_goto dX12_take_19 ?_
      refine vc_istore_n dX12_take_42 (by decide) rfl (show _ = [some (aR 54), some (aI v), some (aI 3), none, none] from rfl) ?_
      refine vc_iload_n dX12_take_43 rfl ?_
      refine vc_istore_n dX12_take_44 (by decide) rfl (show _ = [some (aR 54), some (aI v), some (aI 3), some (aI v), none] from rfl) ?_
      refine vc_iload_n dX12_take_45 rfl ?_
      refine vc_iconst dX12_take_46 rfl ?_
      refine vc_isubE dX12_take_47 (by omega) (by omega) ?_
      refine vc_topI 2 rfl ?_
      refine vc_istore dX12_take_48 (by decide) rfl (show _ = [some (aR 54), some (aI v), some (aI 3), some (aI v), some (aI 2)] from rfl) ?_
      have lp50 : ∀ (n50 : Nat) (Mq50 : Mem) (v3 : Int) (v4 : Int), (BF fQ M Mq50) → (mI Mq50 54 = mI M 54) → (mI Mq50 55 = mI M 55) → (0 ≤ v3) → (v3 ≤ 999999999) → ((-1) ≤ v4) → (v4 ≤ 2) → (v4 + 1).toNat < n50 → VC l mdX12_take 50 [some (aR 54), none, some (aI 3), some (aI v3), some (aI v4)] [] Mq50 0 0 (fun q N => ∃ r : Int, q = some (aI r) ∧ BF fQ M N ∧ mI N 55 = mI M 55 ∧ 0 ≤ r ∧ r ≤ 1 ∧ mI N 54 4 ≤ mI M 54 4 + 3 ∧ mI M 54 4 ≤ mI N 54 4) := by
        intro n50
        induction n50 with
        | zero => intro Mq50 v3 v4 hQ50 kp50_54 kp50_55 g50_3a g50_3b g50_4a g50_4b hm50; exact absurd hm50 (Nat.not_lt_zero _)
        | succ n50 ih50 =>
          intro Mq50 v3 v4 hQ50 kp50_54 kp50_55 g50_3a g50_3b g50_4a g50_4b hm50
          refine vc_iload dX12_take_50 rfl ?_
          refine vc_if_lt dX12_take_52 (fun h63 => ?_) (fun h63 => ?_)
          · refine vc_iconst dX12_take_84 rfl ?_
            refine vc_istore dX12_take_85 (by decide) rfl (show _ = [some (aR 54), none, some (aI 3), some (aI v3), some (aI 0)] from rfl) ?_
            have lp87 : ∀ (n87 : Nat) (v4i : Int), (0 ≤ v4i) → (3 - v4i).toNat < n87 → VC l mdX12_take 87 [some (aR 54), none, some (aI 3), none, some (aI v4i)] [] Mq50 0 0 (fun q N => ∃ r : Int, q = some (aI r) ∧ BF fQ M N ∧ mI N 55 = mI M 55 ∧ 0 ≤ r ∧ r ≤ 1 ∧ mI N 54 4 ≤ mI M 54 4 + 3 ∧ mI M 54 4 ≤ mI N 54 4) := by
              intro n87
              induction n87 with
              | zero => intro v4i g87_4a hm87; exact absurd hm87 (Nat.not_lt_zero _)
              | succ n87 ih87 =>
                intro v4i g87_4a hm87
                refine vc_iload dX12_take_87 rfl ?_
                refine vc_iload_n dX12_take_89 rfl ?_
                refine vc_icmp_ge dX12_take_90 (fun h64 => ?_) (fun h64 => ?_)
                · refine vc_aload_n dX12_take_119 rfl ?_
                  refine vc_dup dX12_take_120 rfl ?_
                  refine vc_getI dX12_take_121 flX12_97 (s_54 hQ50.1.1) rfl ?_
                  have k65 : 0 ≤ mI Mq50 54 4 ∧ mI Mq50 54 4 ≤ 6 := b54_4 (M := Mq50) hQ50.1
                  have k66 : mI Mq50 54 4 = mI M 54 4 := congrFun kp50_54 4
                  refine vc_iload_n dX12_take_124 rfl ?_
                  refine vc_iaddE dX12_take_125 (by omega) (by omega) ?_
                  refine vc_putI dX12_take_126 (plX12_97 _ rfl) (s_54 hQ50.1.1) rfl ?_
                  have kp67 : mI (sI Mq50 54 4 ((mI Mq50 54 4) + 3)) 55 = mI M 55 := (kp_sI kp50_55 rfl)
                  have hB68 : BF fQ M (sI Mq50 54 4 ((mI Mq50 54 4) + 3)) := BF.w54_4 hQ50 rfl (by omega) (by omega)
                  refine vc_iconst dX12_take_129 rfl ?_
                  refine vc_zret dX12_take_130 rfl (by first | decide | omega) (Nat.le_of_ble_eq_true rfl) (Nat.le_of_ble_eq_true rfl) ?_
                  have k69 : mI (sI Mq50 54 4 ((mI Mq50 54 4) + 3)) 54 4 = (mI Mq50 54 4) + 3 := rfl
                  exact ⟨_, rfl, hB68, kp67, by omega, by omega, by omega, by omega⟩
                · refine vc_aload_n dX12_take_93 rfl ?_
                  refine vc_getR dX12_take_94 flX12_19 (s_54 hQ50.1.1) rfl (r_54_3 hQ50.1.1) ?_
                  refine vc_aload_n dX12_take_97 rfl ?_
                  refine vc_getI dX12_take_98 flX12_97 (s_54 hQ50.1.1) rfl ?_
                  have k70 : 0 ≤ mI Mq50 54 4 ∧ mI Mq50 54 4 ≤ 6 := b54_4 (M := Mq50) hQ50.1
                  have k71 : mI Mq50 54 4 = mI M 54 4 := congrFun kp50_54 4
                  refine vc_iload dX12_take_101 rfl ?_
                  refine vc_iaddE dX12_take_103 (by omega) (by omega) ?_
                  refine vc_iaload dX12_take_104 (s_58 hQ50.1.1) (by omega) (by omega) ?_
                  refine vc_cSI dX12_take_105 (sfX12_isTurn (M := Mq50) hQ50.1  (mI Mq50 58 (((mI Mq50 54 4) + v4i).toNat)) ) rfl okX12_isTurn stX12_isTurn lkX12_100 rfl (Nat.le_of_ble_eq_true rfl) ⟨rfl, rfl⟩ (Nat.le_of_ble_eq_true rfl) (Nat.le_of_ble_eq_true rfl) (Nat.le_of_ble_eq_true rfl) ?_
                  rintro x72 _ ⟨rfl, h73, h74⟩
                  refine vc_if_ne dX12_take_108 (fun h75 => ?_) (fun h75 => ?_)
                  · refine vc_iincE dX12_take_113 rfl (by omega) (by omega) (by decide) rfl (show _ = [some (aR 54), none, some (aI 3), none, some (aI (v4i + 1))] from rfl) ?_
                    refine vc_goto dX12_take_116 ?_
                    exact ih87 (v4i + 1) (by omega) (by omega)
                  · refine vc_iconst dX12_take_111 rfl ?_
                    refine vc_zret dX12_take_112 rfl (by first | decide | omega) (Nat.le_of_ble_eq_true rfl) (Nat.le_of_ble_eq_true rfl) ?_
                    exact ⟨_, rfl, hQ50, kp50_55, by omega, by omega, by omega, by omega⟩
            refine vc_less [some (aR 54), none, some (aI 3), none, some (aI 0)] (lessL_keep (lessL_keep (lessL_keep (lessL_drop (lessL_keep (lessL_nil)))))) ?_
            exact lp87 _ 0 (by omega) (Nat.lt_succ_self _)
          · refine vc_aload_n dX12_take_55 rfl ?_
            refine vc_getR dX12_take_56 flX12_19 (s_54 hQ50.1.1) rfl (r_54_3 hQ50.1.1) ?_
            refine vc_aload_n dX12_take_59 rfl ?_
            refine vc_getI dX12_take_60 flX12_97 (s_54 hQ50.1.1) rfl ?_
            have k76 : 0 ≤ mI Mq50 54 4 ∧ mI Mq50 54 4 ≤ 6 := b54_4 (M := Mq50) hQ50.1
            have k77 : mI Mq50 54 4 = mI M 54 4 := congrFun kp50_54 4
            refine vc_iload dX12_take_63 rfl ?_
            refine vc_iaddE dX12_take_65 (by omega) (by omega) ?_
            refine vc_iload_n dX12_take_66 rfl ?_
            refine vc_sipush dX12_take_67 rfl ?_
            refine vc_iremE dX12_take_70 (by omega) (by omega) ?_
            refine vc_iastore dX12_take_71 (s_58 hQ50.1.1) (by omega) (by omega) ?_
            have kp78 : mI (sI Mq50 58 (((mI Mq50 54 4) + v4).toNat) (v3 % 1000)) 54 = mI M 54 := (kp_sI kp50_54 rfl)
            have kp79 : mI (sI Mq50 58 (((mI Mq50 54 4) + v4).toNat) (v3 % 1000)) 55 = mI M 55 := (kp_sI kp50_55 rfl)
            have hB80 : BF fQ M (sI Mq50 58 (((mI Mq50 54 4) + v4).toNat) (v3 % 1000)) := BF.w58 hQ50 (fun _ => rfl) _
            refine vc_iload_n dX12_take_72 rfl ?_
            refine vc_sipush dX12_take_73 rfl ?_
            refine vc_idivE dX12_take_76 (by omega) (by omega) ?_
            refine vc_nameI (fun x81 ex81 => ?_)
            refine vc_istore_n dX12_take_77 (by decide) rfl (show _ = [some (aR 54), none, some (aI 3), some (aI x81), some (aI v4)] from rfl) ?_
            refine vc_iincE dX12_take_78 rfl (by omega) (by omega) (by decide) rfl (show _ = [some (aR 54), none, some (aI 3), some (aI x81), some (aI (v4 + (-1)))] from rfl) ?_
            refine vc_goto dX12_take_81 ?_
            have k82 : mI (sI Mq50 58 (((mI Mq50 54 4) + v4).toNat) (v3 % 1000)) 54 4 = mI Mq50 54 4 := rfl
            exact ih50 (sI Mq50 58 (((mI Mq50 54 4) + v4).toNat) (v3 % 1000)) x81 (v4 + (-1)) hB80 kp78 kp79 (by omega) (by omega) (by omega) (by omega) (by omega)
      refine vc_less [some (aR 54), none, some (aI 3), some (aI v), some (aI 2)] (lessL_keep (lessL_drop (lessL_keep (lessL_keep (lessL_keep (lessL_nil)))))) ?_
      exact lp50 _ M v 2 hB0 rfl rfl (by omega) (by omega) (by omega) (by omega) (Nat.lt_succ_self _)
  · refine vc_iconst dX12_take_10 rfl ?_
    refine vc_zret dX12_take_11 rfl (by first | decide | omega) (Nat.le_of_ble_eq_true rfl) (Nat.le_of_ble_eq_true rfl) ?_
    exact ⟨_, rfl, hB0, rfl, by omega, by omega, by omega, by omega⟩

set_option maxRecDepth 4000 in
theorem sfX12_tellNow {l : Launch} {M : Mem} (hB : Box M)  (t : Int) (f : Int) (p0 : 0 ≤ t) (p1 : t ≤ 5) (p2 : 0 ≤ f) (p3 : f ≤ 3) (p4 : 1 ≤ mI M 54 4) : Call l mdX12_tellNow [aR 54, aI t, aI f] M (fun q N => ∃ r : Int, q = some (aI r) ∧ BF fR M N ∧ mI N 57 = mI M 57) := by
  have hB0 : BF fR M M := BF.start hB
  refine Call.of [some (aR 54), some (aI t), some (aI f), none, none] rfl (Nat.le_of_ble_eq_true rfl) rfl ?_
  refine vc_aload_n dX12_tellNow_0 rfl ?_
  refine vc_getR dX12_tellNow_1 flX12_7 (s_54 hB0.1.1) rfl (r_54_0 hB0.1.1) ?_
  refine vc_iconst dX12_tellNow_4 rfl ?_
  refine vc_iaload dX12_tellNow_5 (s_55 hB0.1.1) (by omega) (by omega) ?_
  refine vc_topI (mI M 55 3) rfl ?_
  have k1 : 0 ≤ mI M 55 3 ∧ mI M 55 3 ≤ 8 := b55_3 (M := M) hB0.1
  refine vc_bipush dX12_tellNow_6 rfl ?_
  refine vc_icmp_ne dX12_tellNow_8 (fun h2 => ?_) (fun h2 => ?_)
  · refine vc_sipush dX12_tellNow_13 rfl ?_
    refine vc_bipush dX12_tellNow_16 rfl ?_
    refine vc_aload_n dX12_tellNow_18 rfl ?_
    refine vc_getR dX12_tellNow_19 flX12_7 (s_54 hB0.1.1) rfl (r_54_0 hB0.1.1) ?_
    refine vc_iconst dX12_tellNow_22 rfl ?_
    refine vc_iaload dX12_tellNow_23 (s_55 hB0.1.1) (by omega) (by omega) ?_
    refine vc_topI (mI M 55 3) rfl ?_
    refine vc_imulE dX12_tellNow_24 (by omega) (by omega) ?_
    refine vc_iaddE dX12_tellNow_25 (by omega) (by omega) ?_
    refine vc_nameI (fun x3 ex3 => ?_)
    refine vc_istore_n dX12_tellNow_26 (by decide) rfl (show _ = [some (aR 54), some (aI t), some (aI f), some (aI x3), none] from rfl) ?_
    refine vc_aload_n dX12_tellNow_27 rfl ?_
    refine vc_getR dX12_tellNow_28 flX12_7 (s_54 hB0.1.1) rfl (r_54_0 hB0.1.1) ?_
    refine vc_iload_n dX12_tellNow_31 rfl ?_
    refine vc_iload_n dX12_tellNow_32 rfl ?_
    refine vc_iastore dX12_tellNow_33 (s_55 hB0.1.1) (by omega) (by omega) ?_
    have kp4 : mI (sI M 55 x3.toNat t) 57 = mI M 57 := (kp_sI rfl rfl)
    have hB5 : BF fR M (sI M 55 x3.toNat t) := BF.a (x := x3) hB0 (by omega) (by omega) (by unfold aB; refine ⟨?_, ?_, ?_, ?_, ?_, ?_, ?_, ?_, ?_, ?_, ?_, ?_, ?_, ?_, ?_, ?_, ?_, ?_⟩ <;> intros <;> omega) (by omega) (by omega) (by omega) (by omega) (by omega) (by omega) fR_55
    refine vc_aload_n dX12_tellNow_34 rfl ?_
    refine vc_getR dX12_tellNow_35 flX12_7 (s_54 hB5.1.1) rfl (r_54_0 hB5.1.1) ?_
    refine vc_iload_n dX12_tellNow_38 rfl ?_
    refine vc_iconst dX12_tellNow_39 rfl ?_
    refine vc_iaddE dX12_tellNow_40 (by omega) (by omega) ?_
    refine vc_iload_n dX12_tellNow_41 rfl ?_
    refine vc_iastore dX12_tellNow_42 (s_55 hB5.1.1) (by omega) (by omega) ?_
    have kp6 : mI (sI (sI M 55 x3.toNat t) 55 ((x3 + 1).toNat) f) 57 = mI M 57 := (kp_sI kp4 rfl)
    have hB7 : BF fR M (sI (sI M 55 x3.toNat t) 55 ((x3 + 1).toNat) f) := BF.a (x := x3 + 1) hB5 (by omega) (by omega) (by unfold aB; refine ⟨?_, ?_, ?_, ?_, ?_, ?_, ?_, ?_, ?_, ?_, ?_, ?_, ?_, ?_, ?_, ?_, ?_, ?_⟩ <;> intros <;> omega) (by omega) (by omega) (by omega) (by omega) (by omega) (by omega) fR_55
    refine vc_aload_n dX12_tellNow_43 rfl ?_
    refine vc_getR dX12_tellNow_44 flX12_7 (s_54 hB7.1.1) rfl (r_54_0 hB7.1.1) ?_
    refine vc_iload_n dX12_tellNow_47 rfl ?_
    refine vc_iconst dX12_tellNow_48 rfl ?_
    refine vc_iaddE dX12_tellNow_49 (by omega) (by omega) ?_
    refine vc_aload_n dX12_tellNow_50 rfl ?_
    refine vc_getI dX12_tellNow_51 flX12_97 (s_54 hB7.1.1) rfl ?_
    refine vc_topI (mI M 54 4) rfl ?_
    have k8 : 0 ≤ mI M 54 4 ∧ mI M 54 4 ≤ 6 := b54_4 (M := (sI (sI M 55 x3.toNat t) 55 ((x3 + 1).toNat) f)) hB7.1
    refine vc_iastore dX12_tellNow_54 (s_55 hB7.1.1) (by omega) (by omega) ?_
    have kp9 : mI (sI (sI (sI M 55 x3.toNat t) 55 ((x3 + 1).toNat) f) 55 ((x3 + 2).toNat) (mI M 54 4)) 57 = mI M 57 := (kp_sI kp6 rfl)
    have hB10 : BF fR M (sI (sI (sI M 55 x3.toNat t) 55 ((x3 + 1).toNat) f) 55 ((x3 + 2).toNat) (mI M 54 4)) := BF.aC (x := x3 + 2) hB7 (by omega) (by omega) (by omega) (by omega) (by omega) (by ((repeat rw [mI_sI, if_neg (by omega)]); try omega))
    refine vc_iconst dX12_tellNow_55 rfl ?_
    refine vc_istore dX12_tellNow_56 (by decide) rfl (show _ = [some (aR 54), some (aI t), some (aI f), some (aI x3), some (aI 0)] from rfl) ?_
    have lp58 : ∀ (n58 : Nat) (Mq58 : Mem) (v4 : Int), (BF fR M Mq58) → (mI Mq58 57 = mI M 57) → (0 ≤ v4) → (v4 ≤ 6) → (mI Mq58 55 3 = mI M 55 3) → (1 ≤ mI Mq58 55 (184 + 9 * (mI M 55 3).toNat + 2)) → (6 - v4).toNat < n58 → VC l mdX12_tellNow 58 [some (aR 54), none, none, some (aI x3), some (aI v4)] [] Mq58 0 0 (fun q N => ∃ r : Int, q = some (aI r) ∧ BF fR M N ∧ mI N 57 = mI M 57) := by
      intro n58
      induction n58 with
      | zero => intro Mq58 v4 hQ58 kp58_57 g58_4a g58_4b g58i0 g58i1 hm58; exact absurd hm58 (Nat.not_lt_zero _)
      | succ n58 ih58 =>
        intro Mq58 v4 hQ58 kp58_57 g58_4a g58_4b g58i0 g58i1 hm58
        refine vc_iload dX12_tellNow_58 rfl ?_
        refine vc_bipush dX12_tellNow_60 rfl ?_
        refine vc_icmp_ge dX12_tellNow_62 (fun h11 => ?_) (fun h11 => ?_)
        · refine vc_aload_n dX12_tellNow_102 rfl ?_
          refine vc_getR dX12_tellNow_103 flX12_7 (s_54 hQ58.1.1) rfl (r_54_0 hQ58.1.1) ?_
          refine vc_iconst dX12_tellNow_106 rfl ?_
          refine vc_dup2 dX12_tellNow_107 rfl rfl ?_
          refine vc_iaload dX12_tellNow_108 (s_55 hQ58.1.1) (by omega) (by omega) ?_
          refine vc_topI (mI Mq58 55 3) rfl ?_
          have k12 : 0 ≤ mI Mq58 55 3 ∧ mI Mq58 55 3 ≤ 8 := b55_3 (M := Mq58) hQ58.1
          refine vc_iconst dX12_tellNow_109 rfl ?_
          refine vc_iaddE dX12_tellNow_110 (by omega) (by omega) ?_
          refine vc_iastore dX12_tellNow_111 (s_55 hQ58.1.1) (by omega) (by omega) ?_
          refine vc_mem (sI Mq58 55 3 ((mI Mq58 55 3) + 1)) rfl ?_
          have kp13 : mI (sI Mq58 55 3 ((mI Mq58 55 3) + 1)) 57 = mI M 57 := (kp_sI kp58_57 rfl)
          have hB14 : BF fR M (sI Mq58 55 3 ((mI Mq58 55 3) + 1)) := BF.a3 hQ58 (by omega) (by omega) (by rw [g58i0]; exact g58i1)
          refine vc_aload_n dX12_tellNow_112 rfl ?_
          refine vc_getR dX12_tellNow_113 flX12_7 (s_54 hB14.1.1) rfl (r_54_0 hB14.1.1) ?_
          refine vc_iconst dX12_tellNow_116 rfl ?_
          refine vc_iaload dX12_tellNow_117 (s_55 hB14.1.1) (by omega) (by omega) ?_
          refine vc_topI ((mI Mq58 55 3) + 1) rfl ?_
          refine vc_iconst dX12_tellNow_118 rfl ?_
          refine vc_isubE dX12_tellNow_119 (by omega) (by omega) ?_
          refine vc_iret dX12_tellNow_120 rfl (Nat.le_of_ble_eq_true rfl) (Nat.le_of_ble_eq_true rfl) ?_
          have k15 : mI (sI Mq58 55 3 ((mI Mq58 55 3) + 1)) 54 4 = mI Mq58 54 4 := rfl
          exact ⟨_, rfl, hB14, kp13⟩
        · refine vc_aload_n dX12_tellNow_65 rfl ?_
          refine vc_getR dX12_tellNow_66 flX12_7 (s_54 hQ58.1.1) rfl (r_54_0 hQ58.1.1) ?_
          refine vc_iload_n dX12_tellNow_69 rfl ?_
          refine vc_iconst dX12_tellNow_70 rfl ?_
          refine vc_iaddE dX12_tellNow_71 (by omega) (by omega) ?_
          refine vc_iload dX12_tellNow_72 rfl ?_
          refine vc_iaddE dX12_tellNow_74 (by omega) (by omega) ?_
          refine vc_iload dX12_tellNow_75 rfl ?_
          refine vc_aload_n dX12_tellNow_77 rfl ?_
          refine vc_getI dX12_tellNow_78 flX12_97 (s_54 hQ58.1.1) rfl ?_
          have k16 : 0 ≤ mI Mq58 54 4 ∧ mI Mq58 54 4 ≤ 6 := b54_4 (M := Mq58) hQ58.1
          refine vc_icmp_ge dX12_tellNow_81 (fun h17 => ?_) (fun h17 => ?_)
          · refine vc_iconst dX12_tellNow_94 rfl ?_
            refine vc_iastore dX12_tellNow_95 (s_55 hQ58.1.1) (by omega) (by omega) ?_
            have kp18 : mI (sI Mq58 55 (((x3 + 3) + v4).toNat) 0) 57 = mI M 57 := (kp_sI kp58_57 rfl)
            have hB19 : BF fR M (sI Mq58 55 (((x3 + 3) + v4).toNat) 0) := BF.a (x := (x3 + 3) + v4) hQ58 (by omega) (by omega) (by unfold aB; refine ⟨?_, ?_, ?_, ?_, ?_, ?_, ?_, ?_, ?_, ?_, ?_, ?_, ?_, ?_, ?_, ?_, ?_, ?_⟩ <;> intros <;> omega) (by omega) (by omega) (by omega) (by omega) (by omega) (by omega) fR_55
            refine vc_iincE dX12_tellNow_96 rfl (by omega) (by omega) (by decide) rfl (show _ = [some (aR 54), none, none, some (aI x3), some (aI (v4 + 1))] from rfl) ?_
            refine vc_goto dX12_tellNow_99 ?_
            have k20 : mI (sI Mq58 55 (((x3 + 3) + v4).toNat) 0) 54 4 = mI Mq58 54 4 := rfl
            exact ih58 (sI Mq58 55 (((x3 + 3) + v4).toNat) 0) (v4 + 1) hB19 kp18 (by omega) (by omega) (by ((repeat rw [mI_sI, if_neg (by omega)]); try omega)) (by first | (rw [mI_sI, if_neg (by omega)]; exact g58i1) | (rw [mI_sI, if_pos (by omega)]; omega)) (by omega)
          · refine vc_aload_n dX12_tellNow_84 rfl ?_
            refine vc_getR dX12_tellNow_85 flX12_19 (s_54 hQ58.1.1) rfl (r_54_3 hQ58.1.1) ?_
            refine vc_iload dX12_tellNow_88 rfl ?_
            refine vc_iaload dX12_tellNow_90 (s_58 hQ58.1.1) (by omega) (by omega) ?_
            refine vc_goto dX12_tellNow_91 ?_
            refine vc_iastore dX12_tellNow_95 (s_55 hQ58.1.1) (by omega) (by omega) ?_
            have kp21 : mI (sI Mq58 55 (((x3 + 3) + v4).toNat) (mI Mq58 58 v4.toNat)) 57 = mI M 57 := (kp_sI kp58_57 rfl)
            have hB22 : BF fR M (sI Mq58 55 (((x3 + 3) + v4).toNat) (mI Mq58 58 v4.toNat)) := BF.a (x := (x3 + 3) + v4) hQ58 (by omega) (by omega) (by unfold aB; refine ⟨?_, ?_, ?_, ?_, ?_, ?_, ?_, ?_, ?_, ?_, ?_, ?_, ?_, ?_, ?_, ?_, ?_, ?_⟩ <;> intros <;> omega) (by omega) (by omega) (by omega) (by omega) (by omega) (by omega) fR_55
            refine vc_iincE dX12_tellNow_96 rfl (by omega) (by omega) (by decide) rfl (show _ = [some (aR 54), none, none, some (aI x3), some (aI (v4 + 1))] from rfl) ?_
            refine vc_goto dX12_tellNow_99 ?_
            have k23 : mI (sI Mq58 55 (((x3 + 3) + v4).toNat) (mI Mq58 58 v4.toNat)) 54 4 = mI Mq58 54 4 := rfl
            exact ih58 (sI Mq58 55 (((x3 + 3) + v4).toNat) (mI Mq58 58 v4.toNat)) (v4 + 1) hB22 kp21 (by omega) (by omega) (by ((repeat rw [mI_sI, if_neg (by omega)]); try omega)) (by first | (rw [mI_sI, if_neg (by omega)]; exact g58i1) | (rw [mI_sI, if_pos (by omega)]; omega)) (by omega)
    refine vc_less [some (aR 54), none, none, some (aI x3), some (aI 0)] (lessL_keep (lessL_drop (lessL_drop (lessL_keep (lessL_keep (lessL_nil)))))) ?_
    have k24 : mI (sI (sI (sI M 55 x3.toNat t) 55 ((x3 + 1).toNat) f) 55 ((x3 + 2).toNat) (mI M 54 4)) 54 4 = mI M 54 4 := rfl
    exact lp58 _ (sI (sI (sI M 55 x3.toNat t) 55 ((x3 + 1).toNat) f) 55 ((x3 + 2).toNat) (mI M 54 4)) 0 hB10 kp9 (by omega) (by omega) (by ((repeat rw [mI_sI, if_neg (by omega)]); try omega)) (by first | (rw [mI_sI, if_neg (by omega)]; exact g58i1) | (rw [mI_sI, if_pos (by omega)]; omega)) (Nat.lt_succ_self _)
  · refine vc_iconst dX12_tellNow_11 rfl ?_
    refine vc_iret dX12_tellNow_12 rfl (Nat.le_of_ble_eq_true rfl) (Nat.le_of_ble_eq_true rfl) ?_
    exact ⟨_, rfl, hB0, rfl⟩

set_option maxRecDepth 4000 in
theorem sfX12_telling {l : Launch} {M : Mem} (hB : Box M)  (t : Int) (f : Int) (a : Int) (b : Int)  : Call l mdX12_telling [aR 54, aI t, aI f, aI a, aI b] M (fun q N => ∃ r : Int, q = some (aI r) ∧ BF fR M N) := by
  have hB0 : BF fR M M := BF.start hB
  refine Call.of [some (aR 54), some (aI t), some (aI f), some (aI a), some (aI b)] rfl (Nat.le_of_ble_eq_true rfl) rfl ?_
  refine vc_ok (fun hoM hoS hoL => ?_)
  have hr1 : -2147483648 ≤ t ∧ t < 2147483648 := hoL 1 _ rfl
  have hr2 : -2147483648 ≤ f ∧ f < 2147483648 := hoL 2 _ rfl
  have hr3 : -2147483648 ≤ a ∧ a < 2147483648 := hoL 3 _ rfl
  have hr4 : -2147483648 ≤ b ∧ b < 2147483648 := hoL 4 _ rfl
  refine vc_aload_n dX12_telling_0 rfl ?_
  refine vc_iconst dX12_telling_1 rfl ?_
  refine vc_putI dX12_telling_2 (plX12_97 _ rfl) (s_54 hB0.1.1) rfl ?_
  have hB1 : BF fR M (sI M 54 4 0) := BF.w54_4 hB0 rfl (by omega) (by omega)
  refine vc_aload_n dX12_telling_5 rfl ?_
  refine vc_iload_n dX12_telling_6 rfl ?_
  have k2 : mI (sI M 54 4 0) 54 4 = 0 := rfl
  refine vc_cVI dX12_telling_7 (sfX12_isTeller (M := (sI M 54 4 0)) hB1.1  t ) rfl okX12_isTeller viX12_isTeller lkX12_103 (s_54 hB1.1.1) cl_12 rfl (Nat.le_of_ble_eq_true rfl) ⟨rfl, rfl⟩ (Nat.le_of_ble_eq_true rfl) (Nat.le_of_ble_eq_true rfl) (Nat.le_of_ble_eq_true rfl) ?_
  rintro x3 _ ⟨rfl, h4, h5, h6⟩
  refine vc_if_eq dX12_telling_10 (fun h7 => ?_) (fun h7 => ?_)
  · refine vc_iconst dX12_telling_59 rfl ?_
    refine vc_iret dX12_telling_60 rfl (Nat.le_of_ble_eq_true rfl) (Nat.le_of_ble_eq_true rfl) ?_
    exact ⟨_, rfl, hB1⟩
  · refine vc_iload_n dX12_telling_13 rfl ?_
    refine vc_iconst dX12_telling_14 rfl ?_
    refine vc_iconst dX12_telling_15 rfl ?_
    refine vc_cSI dX12_telling_16 (sfX12_isIn (M := (sI M 54 4 0)) hB1.1  f 0 3 ) rfl okX12_isIn stX12_isIn lkX12_83 rfl (Nat.le_of_ble_eq_true rfl) ⟨rfl, rfl⟩ (Nat.le_of_ble_eq_true rfl) (Nat.le_of_ble_eq_true rfl) (Nat.le_of_ble_eq_true rfl) ?_
    rintro x8 _ ⟨rfl, h9, h10, h11⟩
    refine vc_if_eq dX12_telling_19 (fun h12 => ?_) (fun h12 => ?_)
    · refine vc_iconst dX12_telling_59 rfl ?_
      refine vc_iret dX12_telling_60 rfl (Nat.le_of_ble_eq_true rfl) (Nat.le_of_ble_eq_true rfl) ?_
      exact ⟨_, rfl, hB1⟩
    · refine vc_aload_n dX12_telling_22 rfl ?_
      refine vc_iload_n dX12_telling_23 rfl ?_
      refine vc_cVI dX12_telling_24 (sfX12_take (M := (sI M 54 4 0)) hB1.1  a (by omega)) rfl okX12_take viX12_take lkX12_106 (s_54 hB1.1.1) cl_12 rfl (Nat.le_of_ble_eq_true rfl) ⟨rfl, rfl⟩ (Nat.le_of_ble_eq_true rfl) (Nat.le_of_ble_eq_true rfl) (Nat.le_of_ble_eq_true rfl) ?_
      rintro x13 M14 ⟨hB15, kp16, h17, h18, h19, h20⟩
      have hB21 : BF fR M M14 := BF.go hB1 hB15.r
      refine vc_if_eq dX12_telling_27 (fun h22 => ?_) (fun h22 => ?_)
      · refine vc_iconst dX12_telling_59 rfl ?_
        refine vc_iret dX12_telling_60 rfl (Nat.le_of_ble_eq_true rfl) (Nat.le_of_ble_eq_true rfl) ?_
        exact ⟨_, rfl, hB21⟩
      · refine vc_aload_n dX12_telling_30 rfl ?_
        refine vc_getI dX12_telling_31 flX12_97 (s_54 hB21.1.1) rfl ?_
        have k23 : 0 ≤ mI M14 54 4 ∧ mI M14 54 4 ≤ 6 := b54_4 (M := M14) hB21.1
        refine vc_if_eq dX12_telling_34 (fun h24 => ?_) (fun h24 => ?_)
        · refine vc_iconst dX12_telling_59 rfl ?_
          refine vc_iret dX12_telling_60 rfl (Nat.le_of_ble_eq_true rfl) (Nat.le_of_ble_eq_true rfl) ?_
          exact ⟨_, rfl, hB21⟩
        · refine vc_iload dX12_telling_37 rfl ?_
          refine vc_if_eq dX12_telling_39 (fun h25 => ?_) (fun h25 => ?_)
          · refine vc_aload_n dX12_telling_50 rfl ?_
            refine vc_iload dX12_telling_51 rfl ?_
            refine vc_cVI dX12_telling_53 (sfX12_take (M := M14) hB21.1  b (by omega)) rfl okX12_take viX12_take lkX12_106 (s_54 hB21.1.1) cl_12 rfl (Nat.le_of_ble_eq_true rfl) ⟨rfl, rfl⟩ (Nat.le_of_ble_eq_true rfl) (Nat.le_of_ble_eq_true rfl) (Nat.le_of_ble_eq_true rfl) ?_
            rintro x26 M27 ⟨hB28, kp29, h30, h31, h32, h33⟩
            have hB34 : BF fR M M27 := BF.go hB21 hB28.r
            refine vc_if_ne dX12_telling_56 (fun h35 => ?_) (fun h35 => ?_)
            · refine vc_aload_n dX12_telling_61 rfl ?_
              refine vc_iload_n dX12_telling_62 rfl ?_
              refine vc_iload_n dX12_telling_63 rfl ?_
              refine vc_cVI dX12_telling_64 (sfX12_tellNow (M := M27) hB34.1  t f (by omega) (by omega) (by omega) (by omega) (by omega)) rfl okX12_tellNow viX12_tellNow lkX12_109 (s_54 hB34.1.1) cl_12 rfl (Nat.le_of_ble_eq_true rfl) ⟨rfl, rfl⟩ (Nat.le_of_ble_eq_true rfl) (Nat.le_of_ble_eq_true rfl) (Nat.le_of_ble_eq_true rfl) ?_
              rintro x36 M37 ⟨hB38, kp39⟩
              have hB40 : BF fR M M37 := BF.go hB34 hB38
              refine vc_iret dX12_telling_67 rfl (Nat.le_of_ble_eq_true rfl) (Nat.le_of_ble_eq_true rfl) ?_
              exact ⟨_, rfl, hB40⟩
            · refine vc_iconst dX12_telling_59 rfl ?_
              refine vc_iret dX12_telling_60 rfl (Nat.le_of_ble_eq_true rfl) (Nat.le_of_ble_eq_true rfl) ?_
              exact ⟨_, rfl, hB34⟩
          · refine vc_aload_n dX12_telling_42 rfl ?_
            refine vc_getI dX12_telling_43 flX12_97 (s_54 hB21.1.1) rfl ?_
            refine vc_iconst dX12_telling_46 rfl ?_
            refine vc_icmp_lt dX12_telling_47 (fun h41 => ?_) (fun h41 => ?_)
            · refine vc_iconst dX12_telling_59 rfl ?_
              refine vc_iret dX12_telling_60 rfl (Nat.le_of_ble_eq_true rfl) (Nat.le_of_ble_eq_true rfl) ?_
              exact ⟨_, rfl, hB21⟩
            · refine vc_aload_n dX12_telling_50 rfl ?_
              refine vc_iload dX12_telling_51 rfl ?_
              refine vc_cVI dX12_telling_53 (sfX12_take (M := M14) hB21.1  b (by omega)) rfl okX12_take viX12_take lkX12_106 (s_54 hB21.1.1) cl_12 rfl (Nat.le_of_ble_eq_true rfl) ⟨rfl, rfl⟩ (Nat.le_of_ble_eq_true rfl) (Nat.le_of_ble_eq_true rfl) (Nat.le_of_ble_eq_true rfl) ?_
              rintro x42 M43 ⟨hB44, kp45, h46, h47, h48, h49⟩
              have hB50 : BF fR M M43 := BF.go hB21 hB44.r
              refine vc_if_ne dX12_telling_56 (fun h51 => ?_) (fun h51 => ?_)
              · refine vc_aload_n dX12_telling_61 rfl ?_
                refine vc_iload_n dX12_telling_62 rfl ?_
                refine vc_iload_n dX12_telling_63 rfl ?_
                refine vc_cVI dX12_telling_64 (sfX12_tellNow (M := M43) hB50.1  t f (by omega) (by omega) (by omega) (by omega) (by omega)) rfl okX12_tellNow viX12_tellNow lkX12_109 (s_54 hB50.1.1) cl_12 rfl (Nat.le_of_ble_eq_true rfl) ⟨rfl, rfl⟩ (Nat.le_of_ble_eq_true rfl) (Nat.le_of_ble_eq_true rfl) (Nat.le_of_ble_eq_true rfl) ?_
                rintro x52 M53 ⟨hB54, kp55⟩
                have hB56 : BF fR M M53 := BF.go hB50 hB54
                refine vc_iret dX12_telling_67 rfl (Nat.le_of_ble_eq_true rfl) (Nat.le_of_ble_eq_true rfl) ?_
                exact ⟨_, rfl, hB56⟩
              · refine vc_iconst dX12_telling_59 rfl ?_
                refine vc_iret dX12_telling_60 rfl (Nat.le_of_ble_eq_true rfl) (Nat.le_of_ble_eq_true rfl) ?_
                exact ⟨_, rfl, hB50⟩

set_option maxRecDepth 4000 in
theorem sfX12_four {l : Launch} {M : Mem} (hB : Box M)  (v : Int) (p0 : mI M 54 6 ≤ 296) : Call l mdX12_four [aR 54, aI v] M (fun q N => q = none ∧ BX M N ∧ mI N 54 6 = mI M 54 6 + 4) := by
  have hB0 : BX M M := BX.start hB
  refine Call.of [some (aR 54), some (aI v), none] rfl (Nat.le_of_ble_eq_true rfl) rfl ?_
  refine vc_ok (fun hoM hoS hoL => ?_)
  have hr1 : -2147483648 ≤ v ∧ v < 2147483648 := hoL 1 _ rfl
  refine vc_bipush dX12_four_0 rfl ?_
  refine vc_istore_n dX12_four_2 (by decide) rfl (show _ = [some (aR 54), some (aI v), some (aI 24)] from rfl) ?_
  have lp3 : ∀ (n3 : Nat) (Mq3 : Mem) (v2 : Int), (BX M Mq3) → ((-8) ≤ v2) → (v2 ≤ 24) → (mI Mq3 54 6 = mI M 54 6 + (24 - v2) / 8) → (v2 % 8 = 0) → (v2 + 8).toNat < n3 → VC l mdX12_four 3 [some (aR 54), some (aI v), some (aI v2)] [] Mq3 0 0 (fun q N => q = none ∧ BX M N ∧ mI N 54 6 = mI M 54 6 + 4) := by
    intro n3
    induction n3 with
    | zero => intro Mq3 v2 hQ3 g3_2a g3_2b g3i0 g3i1 hm3; exact absurd hm3 (Nat.not_lt_zero _)
    | succ n3 ih3 =>
      intro Mq3 v2 hQ3 g3_2a g3_2b g3i0 g3i1 hm3
      refine vc_iload_n dX12_four_3 rfl ?_
      refine vc_if_lt dX12_four_4 (fun h1 => ?_) (fun h1 => ?_)
      · refine vc_vret dX12_four_39 rfl (Nat.le_of_ble_eq_true rfl) (Nat.le_of_ble_eq_true rfl) ?_
        exact ⟨rfl, hQ3, by omega⟩
      · refine vc_aload_n dX12_four_7 rfl ?_
        refine vc_getR dX12_four_8 flX12_22 (s_54 hQ3.1.1) rfl (r_54_5 hQ3.1.1) ?_
        refine vc_aload_n dX12_four_11 rfl ?_
        refine vc_getI dX12_four_12 flX12_112 (s_54 hQ3.1.1) rfl ?_
        have k2 : 0 ≤ mI Mq3 54 6 ∧ mI Mq3 54 6 ≤ 300 := b54_6 (M := Mq3) hQ3.1
        refine vc_iload_n dX12_four_15 rfl ?_
        refine vc_iload_n dX12_four_16 rfl ?_
        refine vc_ishr dX12_four_17 ?_
        refine vc_sipush dX12_four_18 rfl ?_
        refine vc_iandM dX12_four_21 256 8 rfl (by decide) rfl ?_
        refine vc_iastore dX12_four_22 (s_59 hQ3.1.1) (by omega) (by omega) ?_
        have hB3 : BX M (sI Mq3 59 ((mI Mq3 54 6).toNat) ((shrI v v2) % 256)) := BX.w59 hQ3 _
        refine vc_aload_n dX12_four_23 rfl ?_
        refine vc_dup dX12_four_24 rfl ?_
        refine vc_getI dX12_four_25 flX12_112 (s_54 hB3.1.1) rfl ?_
        refine vc_topI (mI Mq3 54 6) rfl ?_
        have k4 : 0 ≤ mI Mq3 54 6 ∧ mI Mq3 54 6 ≤ 300 := b54_6 (M := (sI Mq3 59 ((mI Mq3 54 6).toNat) ((shrI v v2) % 256))) hB3.1
        refine vc_iconst dX12_four_28 rfl ?_
        refine vc_iaddE dX12_four_29 (by omega) (by omega) ?_
        refine vc_putI dX12_four_30 (plX12_112 _ rfl) (s_54 hB3.1.1) rfl ?_
        have hB5 : BX M (sI (sI Mq3 59 ((mI Mq3 54 6).toNat) ((shrI v v2) % 256)) 54 6 ((mI Mq3 54 6) + 1)) := BX.w54_6 hB3 (by omega) (by omega)
        refine vc_iincE dX12_four_33 rfl (by omega) (by omega) (by decide) rfl (show _ = [some (aR 54), some (aI v), some (aI (v2 + (-8)))] from rfl) ?_
        refine vc_goto dX12_four_36 ?_
        have k6 : mI (sI (sI Mq3 59 ((mI Mq3 54 6).toNat) ((shrI v v2) % 256)) 54 6 ((mI Mq3 54 6) + 1)) 54 6 = (mI Mq3 54 6) + 1 := rfl
        exact ih3 (sI (sI Mq3 59 ((mI Mq3 54 6).toNat) ((shrI v v2) % 256)) 54 6 ((mI Mq3 54 6) + 1)) (v2 + (-8)) hB5 (by omega) (by omega) (by omega) (by omega) (by omega)
  exact lp3 _ M 24 hB0 (by omega) (by omega) (by omega) (by omega) (Nat.lt_succ_self _)

set_option maxRecDepth 4000 in
theorem sfX12_feed {l : Launch} {M : Mem} (hB : Box M)  (a : Int) (b : Int) (c : Int) (d : Int) (e : Int)  : Call l mdX12_feed [aR 54, aI a, aI b, aI c, aI d, aI e] M (fun q N => ∃ r : Int, q = some (aI r) ∧ BX M N) := by
  have hB0 : BX M M := BX.start hB
  refine Call.of [some (aR 54), some (aI a), some (aI b), some (aI c), some (aI d), some (aI e)] rfl (Nat.le_of_ble_eq_true rfl) rfl ?_
  refine vc_ok (fun hoM hoS hoL => ?_)
  have hr1 : -2147483648 ≤ a ∧ a < 2147483648 := hoL 1 _ rfl
  have hr2 : -2147483648 ≤ b ∧ b < 2147483648 := hoL 2 _ rfl
  have hr3 : -2147483648 ≤ c ∧ c < 2147483648 := hoL 3 _ rfl
  have hr4 : -2147483648 ≤ d ∧ d < 2147483648 := hoL 4 _ rfl
  have hr5 : -2147483648 ≤ e ∧ e < 2147483648 := hoL 5 _ rfl
  refine vc_aload_n dX12_feed_0 rfl ?_
  refine vc_getI dX12_feed_1 flX12_112 (s_54 hB0.1.1) rfl ?_
  have k1 : 0 ≤ mI M 54 6 ∧ mI M 54 6 ≤ 300 := b54_6 (M := M) hB0.1
  refine vc_bipush dX12_feed_4 rfl ?_
  refine vc_iaddE dX12_feed_6 (by omega) (by omega) ?_
  refine vc_sipush dX12_feed_7 rfl ?_
  refine vc_icmp_le dX12_feed_10 (fun h2 => ?_) (fun h2 => ?_)
  · refine vc_aload_n dX12_feed_15 rfl ?_
    refine vc_iload_n dX12_feed_16 rfl ?_
    refine vc_cVU dX12_feed_17 (sfX12_four (M := M) hB0.1  a (by omega)) rfl okX12_four viX12_four lkX12_115 (s_54 hB0.1.1) cl_12 rfl (Nat.le_of_ble_eq_true rfl) ⟨rfl, rfl⟩ (Nat.le_of_ble_eq_true rfl) (Nat.le_of_ble_eq_true rfl) (Nat.le_of_ble_eq_true rfl) ?_
    rintro M3 ⟨hB4, h5⟩
    have hB6 : BX M M3 := BX.go hB0 hB4
    refine vc_aload_n dX12_feed_20 rfl ?_
    refine vc_iload_n dX12_feed_21 rfl ?_
    refine vc_cVU dX12_feed_22 (sfX12_four (M := M3) hB6.1  b (by omega)) rfl okX12_four viX12_four lkX12_115 (s_54 hB6.1.1) cl_12 rfl (Nat.le_of_ble_eq_true rfl) ⟨rfl, rfl⟩ (Nat.le_of_ble_eq_true rfl) (Nat.le_of_ble_eq_true rfl) (Nat.le_of_ble_eq_true rfl) ?_
    rintro M7 ⟨hB8, h9⟩
    have hB10 : BX M M7 := BX.go hB6 hB8
    refine vc_aload_n dX12_feed_25 rfl ?_
    refine vc_iload_n dX12_feed_26 rfl ?_
    refine vc_cVU dX12_feed_27 (sfX12_four (M := M7) hB10.1  c (by omega)) rfl okX12_four viX12_four lkX12_115 (s_54 hB10.1.1) cl_12 rfl (Nat.le_of_ble_eq_true rfl) ⟨rfl, rfl⟩ (Nat.le_of_ble_eq_true rfl) (Nat.le_of_ble_eq_true rfl) (Nat.le_of_ble_eq_true rfl) ?_
    rintro M11 ⟨hB12, h13⟩
    have hB14 : BX M M11 := BX.go hB10 hB12
    refine vc_aload_n dX12_feed_30 rfl ?_
    refine vc_iload dX12_feed_31 rfl ?_
    refine vc_cVU dX12_feed_33 (sfX12_four (M := M11) hB14.1  d (by omega)) rfl okX12_four viX12_four lkX12_115 (s_54 hB14.1.1) cl_12 rfl (Nat.le_of_ble_eq_true rfl) ⟨rfl, rfl⟩ (Nat.le_of_ble_eq_true rfl) (Nat.le_of_ble_eq_true rfl) (Nat.le_of_ble_eq_true rfl) ?_
    rintro M15 ⟨hB16, h17⟩
    have hB18 : BX M M15 := BX.go hB14 hB16
    refine vc_aload_n dX12_feed_36 rfl ?_
    refine vc_iload dX12_feed_37 rfl ?_
    refine vc_cVU dX12_feed_39 (sfX12_four (M := M15) hB18.1  e (by omega)) rfl okX12_four viX12_four lkX12_115 (s_54 hB18.1.1) cl_12 rfl (Nat.le_of_ble_eq_true rfl) ⟨rfl, rfl⟩ (Nat.le_of_ble_eq_true rfl) (Nat.le_of_ble_eq_true rfl) (Nat.le_of_ble_eq_true rfl) ?_
    rintro M19 ⟨hB20, h21⟩
    have hB22 : BX M M19 := BX.go hB18 hB20
    refine vc_aload_n dX12_feed_42 rfl ?_
    refine vc_getI dX12_feed_43 flX12_112 (s_54 hB22.1.1) rfl ?_
    have k23 : 0 ≤ mI M19 54 6 ∧ mI M19 54 6 ≤ 300 := b54_6 (M := M19) hB22.1
    refine vc_iret dX12_feed_46 rfl (Nat.le_of_ble_eq_true rfl) (Nat.le_of_ble_eq_true rfl) ?_
    exact ⟨_, rfl, hB22⟩
  · refine vc_iconst dX12_feed_13 rfl ?_
    refine vc_iret dX12_feed_14 rfl (Nat.le_of_ble_eq_true rfl) (Nat.le_of_ble_eq_true rfl) ?_
    exact ⟨_, rfl, hB0⟩

set_option maxRecDepth 4000 in
theorem sfX12_end {l : Launch} {M : Mem} (hB : Box M)  (n : Int)  : Call l mdX12_end [aR 54, aI n] M (fun q N => ∃ r : Int, q = some (aI r) ∧ BX M N) := by
  have hB0 : BX M M := BX.start hB
  refine Call.of [some (aR 54), some (aI n)] rfl (Nat.le_of_ble_eq_true rfl) rfl ?_
  refine vc_ok (fun hoM hoS hoL => ?_)
  have hr1 : -2147483648 ≤ n ∧ n < 2147483648 := hoL 1 _ rfl
  refine vc_iload_n dX12_end_0 rfl ?_
  refine vc_iconst dX12_end_1 rfl ?_
  refine vc_aload_n dX12_end_2 rfl ?_
  refine vc_getI dX12_end_3 flX12_112 (s_54 hB0.1.1) rfl ?_
  have k1 : 0 ≤ mI M 54 6 ∧ mI M 54 6 ≤ 300 := b54_6 (M := M) hB0.1
  refine vc_cSI dX12_end_6 (sfX12_isIn (M := M) hB0.1  n 0 (mI M 54 6) ) rfl okX12_isIn stX12_isIn lkX12_83 rfl (Nat.le_of_ble_eq_true rfl) ⟨rfl, rfl⟩ (Nat.le_of_ble_eq_true rfl) (Nat.le_of_ble_eq_true rfl) (Nat.le_of_ble_eq_true rfl) ?_
  rintro x2 _ ⟨rfl, h3, h4, h5⟩
  refine vc_if_ne dX12_end_9 (fun h6 => ?_) (fun h6 => ?_)
  · refine vc_aload_n dX12_end_14 rfl ?_
    refine vc_iload_n dX12_end_15 rfl ?_
    refine vc_putI dX12_end_16 (plX12_112 _ rfl) (s_54 hB0.1.1) rfl ?_
    have hB7 : BX M (sI M 54 6 n) := BX.w54_6 hB0 (by omega) (by omega)
    refine vc_iload_n dX12_end_19 rfl ?_
    refine vc_iret dX12_end_20 rfl (Nat.le_of_ble_eq_true rfl) (Nat.le_of_ble_eq_true rfl) ?_
    exact ⟨_, rfl, hB7⟩
  · refine vc_iconst dX12_end_12 rfl ?_
    refine vc_iret dX12_end_13 rfl (Nat.le_of_ble_eq_true rfl) (Nat.le_of_ble_eq_true rfl) ?_
    exact ⟨_, rfl, hB0⟩

set_option maxRecDepth 4000 in
theorem sfX12_fault {l : Launch} {M : Mem} (hB : Box M)  (w : Int)  : Call l mdX12_fault [aR 54, aI w] M (fun q N => ∃ r : Int, q = some (aI r) ∧ M = N) := by
  have hB0 : BF fQ M M := BF.start hB
  refine Call.of [some (aR 54), some (aI w)] rfl (Nat.le_of_ble_eq_true rfl) rfl ?_
  refine vc_ok (fun hoM hoS hoL => ?_)
  have hr1 : -2147483648 ≤ w ∧ w < 2147483648 := hoL 1 _ rfl
  refine vc_iload_n dX12_fault_0 rfl ?_
  refine vc_if_ne dX12_fault_1 (fun h1 => ?_) (fun h1 => ?_)
  · refine vc_iload_n dX12_fault_11 rfl ?_
    refine vc_iconst dX12_fault_12 rfl ?_
    refine vc_icmp_ne dX12_fault_13 (fun h2 => ?_) (fun h2 => ?_)
    · refine vc_iconst dX12_fault_23 rfl ?_
      refine vc_iret dX12_fault_24 rfl (Nat.le_of_ble_eq_true rfl) (Nat.le_of_ble_eq_true rfl) ?_
      exact ⟨_, rfl, rfl⟩
    · refine vc_aload_n dX12_fault_16 rfl ?_
      refine vc_getI dX12_fault_17 flX12_29 (s_54 hB0.1.1) rfl ?_
      refine vc_goto dX12_fault_20 ?_
      refine vc_iret dX12_fault_24 rfl (Nat.le_of_ble_eq_true rfl) (Nat.le_of_ble_eq_true rfl) ?_
      exact ⟨_, rfl, rfl⟩
  · refine vc_aload_n dX12_fault_4 rfl ?_
    refine vc_getI dX12_fault_5 flX12_25 (s_54 hB0.1.1) rfl ?_
    refine vc_goto dX12_fault_8 ?_
    refine vc_iret dX12_fault_24 rfl (Nat.le_of_ble_eq_true rfl) (Nat.le_of_ble_eq_true rfl) ?_
    exact ⟨_, rfl, rfl⟩

set_option maxRecDepth 4000 in
theorem sfX12_by {l : Launch} {M : Mem} (hB : Box M)  (t : Int)  : Call l mdX12_by [aR 54, aI t] M (fun q N => ∃ r : Int, q = some (aI r) ∧ BF fR M N ∧ 0 ≤ r ∧ r ≤ 1) := by
  have hB0 : BF fR M M := BF.start hB
  refine Call.of [some (aR 54), some (aI t)] rfl (Nat.le_of_ble_eq_true rfl) rfl ?_
  refine vc_ok (fun hoM hoS hoL => ?_)
  have hr1 : -2147483648 ≤ t ∧ t < 2147483648 := hoL 1 _ rfl
  refine vc_iload_n dX12_by_0 rfl ?_
  refine vc_iconst dX12_by_1 rfl ?_
  refine vc_aload_n dX12_by_2 rfl ?_
  refine vc_getR dX12_by_3 flX12_7 (s_54 hB0.1.1) rfl (r_54_0 hB0.1.1) ?_
  refine vc_iconst dX12_by_6 rfl ?_
  refine vc_iaload dX12_by_7 (s_55 hB0.1.1) (by omega) (by omega) ?_
  refine vc_topI (mI M 55 5) rfl ?_
  have k1 : 0 ≤ mI M 55 5 ∧ mI M 55 5 ≤ 4 := b55_5 (M := M) hB0.1
  refine vc_iconst dX12_by_8 rfl ?_
  refine vc_isubE dX12_by_9 (by omega) (by omega) ?_
  refine vc_cSI dX12_by_10 (sfX12_isIn (M := M) hB0.1  t (-1) ((mI M 55 5) - 1) ) rfl okX12_isIn stX12_isIn lkX12_83 rfl (Nat.le_of_ble_eq_true rfl) ⟨rfl, rfl⟩ (Nat.le_of_ble_eq_true rfl) (Nat.le_of_ble_eq_true rfl) (Nat.le_of_ble_eq_true rfl) ?_
  rintro x2 _ ⟨rfl, h3, h4, h5⟩
  refine vc_if_ne dX12_by_13 (fun h6 => ?_) (fun h6 => ?_)
  · refine vc_aload_n dX12_by_18 rfl ?_
    refine vc_getR dX12_by_19 flX12_7 (s_54 hB0.1.1) rfl (r_54_0 hB0.1.1) ?_
    refine vc_bipush dX12_by_22 rfl ?_
    refine vc_iload_n dX12_by_24 rfl ?_
    refine vc_iastore dX12_by_25 (s_55 hB0.1.1) (by omega) (by omega) ?_
    refine vc_mem (sI M 55 6 t) rfl ?_
    have hB7 : BF fR M (sI M 55 6 t) := BF.a6 hB0 (by omega) (by omega)
    refine vc_iconst dX12_by_26 rfl ?_
    refine vc_zret dX12_by_27 rfl (by first | decide | omega) (Nat.le_of_ble_eq_true rfl) (Nat.le_of_ble_eq_true rfl) ?_
    exact ⟨_, rfl, hB7, by omega, by omega⟩
  · refine vc_iconst dX12_by_16 rfl ?_
    refine vc_zret dX12_by_17 rfl (by first | decide | omega) (Nat.le_of_ble_eq_true rfl) (Nat.le_of_ble_eq_true rfl) ?_
    exact ⟨_, rfl, hB0, by omega, by omega⟩

set_option maxRecDepth 4000 in
theorem sfX12_isWalker {l : Launch} {M : Mem} (hB : Box M)    : Call l mdX12_isWalker [aR 54] M (fun q N => ∃ r : Int, q = some (aI r) ∧ M = N ∧ 0 ≤ r ∧ r ≤ 1 ∧ (r = 0 ∨ 0 ≤ mI M 55 256)) := by
  have hB0 : BF fQ M M := BF.start hB
  refine Call.of [some (aR 54)] rfl (Nat.le_of_ble_eq_true rfl) rfl ?_
  refine vc_aload_n dX12_isWalker_0 rfl ?_
  refine vc_getR dX12_isWalker_1 flX12_7 (s_54 hB0.1.1) rfl (r_54_0 hB0.1.1) ?_
  refine vc_sipush dX12_isWalker_4 rfl ?_
  refine vc_iaload dX12_isWalker_7 (s_55 hB0.1.1) (by omega) (by omega) ?_
  refine vc_topI (mI M 55 256) rfl ?_
  have k1 : (-1) ≤ mI M 55 256 ∧ mI M 55 256 ≤ 15 := b55_256 (M := M) hB0.1
  refine vc_iconst dX12_isWalker_8 rfl ?_
  refine vc_icmp_eq dX12_isWalker_9 (fun h2 => ?_) (fun h2 => ?_)
  · refine vc_iconst dX12_isWalker_16 rfl ?_
    refine vc_zret dX12_isWalker_17 rfl (by first | decide | omega) (Nat.le_of_ble_eq_true rfl) (Nat.le_of_ble_eq_true rfl) ?_
    exact ⟨_, rfl, rfl, by omega, by omega, by omega⟩
  · refine vc_iconst dX12_isWalker_12 rfl ?_
    refine vc_goto dX12_isWalker_13 ?_
    refine vc_zret dX12_isWalker_17 rfl (by first | decide | omega) (Nat.le_of_ble_eq_true rfl) (Nat.le_of_ble_eq_true rfl) ?_
    exact ⟨_, rfl, rfl, by omega, by omega, by omega⟩

set_option maxRecDepth 4000 in
theorem sfX12_about {l : Launch} {M : Mem} (hB : Box M)  (w : Int)  : Call l mdX12_about [aR 54, aI w] M (fun q N => ∃ r : Int, q = some (aI r) ∧ M = N) := by
  have hB0 : BF fQ M M := BF.start hB
  refine Call.of [some (aR 54), some (aI w)] rfl (Nat.le_of_ble_eq_true rfl) rfl ?_
  refine vc_ok (fun hoM hoS hoL => ?_)
  have hr1 : -2147483648 ≤ w ∧ w < 2147483648 := hoL 1 _ rfl
  refine vc_iload_n dX12_about_0 rfl ?_
  refine vc_iconst dX12_about_1 rfl ?_
  refine vc_bipush dX12_about_2 rfl ?_
  refine vc_cSI dX12_about_4 (sfX12_isIn (M := M) hB0.1  w 0 7 ) rfl okX12_isIn stX12_isIn lkX12_83 rfl (Nat.le_of_ble_eq_true rfl) ⟨rfl, rfl⟩ (Nat.le_of_ble_eq_true rfl) (Nat.le_of_ble_eq_true rfl) (Nat.le_of_ble_eq_true rfl) ?_
  rintro x1 _ ⟨rfl, h2, h3, h4⟩
  refine vc_if_eq dX12_about_7 (fun h5 => ?_) (fun h5 => ?_)
  · refine vc_iload_n dX12_about_19 rfl ?_
    refine vc_bipush dX12_about_20 rfl ?_
    refine vc_icmp_ne dX12_about_22 (fun h6 => ?_) (fun h6 => ?_)
    · refine vc_bipush dX12_about_32 rfl ?_
      refine vc_iret dX12_about_34 rfl (Nat.le_of_ble_eq_true rfl) (Nat.le_of_ble_eq_true rfl) ?_
      exact ⟨_, rfl, rfl⟩
    · refine vc_aload_n dX12_about_25 rfl ?_
      refine vc_getI dX12_about_26 flX12_112 (s_54 hB0.1.1) rfl ?_
      have k7 : 0 ≤ mI M 54 6 ∧ mI M 54 6 ≤ 300 := b54_6 (M := M) hB0.1
      refine vc_goto dX12_about_29 ?_
      refine vc_iret dX12_about_34 rfl (Nat.le_of_ble_eq_true rfl) (Nat.le_of_ble_eq_true rfl) ?_
      exact ⟨_, rfl, rfl⟩
  · refine vc_aload_n dX12_about_10 rfl ?_
    refine vc_getR dX12_about_11 flX12_7 (s_54 hB0.1.1) rfl (r_54_0 hB0.1.1) ?_
    refine vc_iload_n dX12_about_14 rfl ?_
    refine vc_iaload dX12_about_15 (s_55 hB0.1.1) (by omega) (by omega) ?_
    refine vc_goto dX12_about_16 ?_
    refine vc_iret dX12_about_34 rfl (Nat.le_of_ble_eq_true rfl) (Nat.le_of_ble_eq_true rfl) ?_
    exact ⟨_, rfl, rfl⟩

set_option maxRecDepth 4000 in
theorem sfX12_walker {l : Launch} {M : Mem} (hB : Box M)  (w : Int)  : Call l mdX12_walker [aR 54, aI w] M (fun q N => ∃ r : Int, q = some (aI r) ∧ M = N) := by
  have hB0 : BF fQ M M := BF.start hB
  refine Call.of [some (aR 54), some (aI w)] rfl (Nat.le_of_ble_eq_true rfl) rfl ?_
  refine vc_ok (fun hoM hoS hoL => ?_)
  have hr1 : -2147483648 ≤ w ∧ w < 2147483648 := hoL 1 _ rfl
  refine vc_aload_n dX12_walker_0 rfl ?_
  refine vc_cVI dX12_walker_1 (sfX12_isWalker (M := M) hB0.1   ) rfl okX12_isWalker viX12_isWalker lkX12_379 (s_54 hB0.1.1) cl_12 rfl (Nat.le_of_ble_eq_true rfl) ⟨rfl, rfl⟩ (Nat.le_of_ble_eq_true rfl) (Nat.le_of_ble_eq_true rfl) (Nat.le_of_ble_eq_true rfl) ?_
  rintro x1 _ ⟨rfl, h2, h3, h4⟩
  refine vc_if_eq dX12_walker_4 (fun h5 => ?_) (fun h5 => ?_)
  · refine vc_iconst dX12_walker_29 rfl ?_
    refine vc_iret dX12_walker_30 rfl (Nat.le_of_ble_eq_true rfl) (Nat.le_of_ble_eq_true rfl) ?_
    exact ⟨_, rfl, rfl⟩
  · refine vc_iload_n dX12_walker_7 rfl ?_
    refine vc_iconst dX12_walker_8 rfl ?_
    refine vc_iconst dX12_walker_9 rfl ?_
    refine vc_cSI dX12_walker_10 (sfX12_isIn (M := M) hB0.1  w 0 2 ) rfl okX12_isIn stX12_isIn lkX12_83 rfl (Nat.le_of_ble_eq_true rfl) ⟨rfl, rfl⟩ (Nat.le_of_ble_eq_true rfl) (Nat.le_of_ble_eq_true rfl) (Nat.le_of_ble_eq_true rfl) ?_
    rintro x6 _ ⟨rfl, h7, h8, h9⟩
    refine vc_if_eq dX12_walker_13 (fun h10 => ?_) (fun h10 => ?_)
    · refine vc_iconst dX12_walker_29 rfl ?_
      refine vc_iret dX12_walker_30 rfl (Nat.le_of_ble_eq_true rfl) (Nat.le_of_ble_eq_true rfl) ?_
      exact ⟨_, rfl, rfl⟩
    · refine vc_aload_n dX12_walker_16 rfl ?_
      refine vc_getR dX12_walker_17 flX12_7 (s_54 hB0.1.1) rfl (r_54_0 hB0.1.1) ?_
      refine vc_sipush dX12_walker_20 rfl ?_
      refine vc_iload_n dX12_walker_23 rfl ?_
      refine vc_iaddE dX12_walker_24 (by omega) (by omega) ?_
      refine vc_iaload dX12_walker_25 (s_55 hB0.1.1) (by omega) (by omega) ?_
      refine vc_goto dX12_walker_26 ?_
      refine vc_iret dX12_walker_30 rfl (Nat.le_of_ble_eq_true rfl) (Nat.le_of_ble_eq_true rfl) ?_
      exact ⟨_, rfl, rfl⟩

set_option maxRecDepth 4000 in
theorem sfX12_ofCorner {l : Launch} {M : Mem} (hB : Box M)  (c : Int) (w : Int)  : Call l mdX12_ofCorner [aR 54, aI c, aI w] M (fun q N => ∃ r : Int, q = some (aI r) ∧ M = N) := by
  have hB0 : BF fQ M M := BF.start hB
  refine Call.of [some (aR 54), some (aI c), some (aI w)] rfl (Nat.le_of_ble_eq_true rfl) rfl ?_
  refine vc_ok (fun hoM hoS hoL => ?_)
  have hr1 : -2147483648 ≤ c ∧ c < 2147483648 := hoL 1 _ rfl
  have hr2 : -2147483648 ≤ w ∧ w < 2147483648 := hoL 2 _ rfl
  refine vc_aload_n dX12_ofCorner_0 rfl ?_
  refine vc_iload_n dX12_ofCorner_1 rfl ?_
  refine vc_cVI dX12_ofCorner_2 (sfX12_isCorner (M := M) hB0.1  c ) rfl okX12_isCorner viX12_isCorner lkX12_87 (s_54 hB0.1.1) cl_12 rfl (Nat.le_of_ble_eq_true rfl) ⟨rfl, rfl⟩ (Nat.le_of_ble_eq_true rfl) (Nat.le_of_ble_eq_true rfl) (Nat.le_of_ble_eq_true rfl) ?_
  rintro x1 _ ⟨rfl, h2, h3, h4⟩
  refine vc_if_eq dX12_ofCorner_5 (fun h5 => ?_) (fun h5 => ?_)
  · refine vc_bipush dX12_ofCorner_35 rfl ?_
    refine vc_iret dX12_ofCorner_37 rfl (Nat.le_of_ble_eq_true rfl) (Nat.le_of_ble_eq_true rfl) ?_
    exact ⟨_, rfl, rfl⟩
  · refine vc_iload_n dX12_ofCorner_8 rfl ?_
    refine vc_iconst dX12_ofCorner_9 rfl ?_
    refine vc_bipush dX12_ofCorner_10 rfl ?_
    refine vc_cSI dX12_ofCorner_12 (sfX12_isIn (M := M) hB0.1  w 0 8 ) rfl okX12_isIn stX12_isIn lkX12_83 rfl (Nat.le_of_ble_eq_true rfl) ⟨rfl, rfl⟩ (Nat.le_of_ble_eq_true rfl) (Nat.le_of_ble_eq_true rfl) (Nat.le_of_ble_eq_true rfl) ?_
    rintro x6 _ ⟨rfl, h7, h8, h9⟩
    refine vc_if_eq dX12_ofCorner_15 (fun h10 => ?_) (fun h10 => ?_)
    · refine vc_bipush dX12_ofCorner_35 rfl ?_
      refine vc_iret dX12_ofCorner_37 rfl (Nat.le_of_ble_eq_true rfl) (Nat.le_of_ble_eq_true rfl) ?_
      exact ⟨_, rfl, rfl⟩
    · refine vc_aload_n dX12_ofCorner_18 rfl ?_
      refine vc_getR dX12_ofCorner_19 flX12_7 (s_54 hB0.1.1) rfl (r_54_0 hB0.1.1) ?_
      refine vc_bipush dX12_ofCorner_22 rfl ?_
      refine vc_bipush dX12_ofCorner_24 rfl ?_
      refine vc_iload_n dX12_ofCorner_26 rfl ?_
      refine vc_imulE dX12_ofCorner_27 (by omega) (by omega) ?_
      refine vc_iaddE dX12_ofCorner_28 (by omega) (by omega) ?_
      refine vc_iload_n dX12_ofCorner_29 rfl ?_
      refine vc_iaddE dX12_ofCorner_30 (by omega) (by omega) ?_
      refine vc_iaload dX12_ofCorner_31 (s_55 hB0.1.1) (by omega) (by omega) ?_
      refine vc_goto dX12_ofCorner_32 ?_
      refine vc_iret dX12_ofCorner_37 rfl (Nat.le_of_ble_eq_true rfl) (Nat.le_of_ble_eq_true rfl) ?_
      exact ⟨_, rfl, rfl⟩

set_option maxRecDepth 4000 in
theorem sfX12_ofTeller {l : Launch} {M : Mem} (hB : Box M)  (t : Int) (w : Int)  : Call l mdX12_ofTeller [aR 54, aI t, aI w] M (fun q N => ∃ r : Int, q = some (aI r) ∧ M = N) := by
  have hB0 : BF fQ M M := BF.start hB
  refine Call.of [some (aR 54), some (aI t), some (aI w)] rfl (Nat.le_of_ble_eq_true rfl) rfl ?_
  refine vc_ok (fun hoM hoS hoL => ?_)
  have hr1 : -2147483648 ≤ t ∧ t < 2147483648 := hoL 1 _ rfl
  have hr2 : -2147483648 ≤ w ∧ w < 2147483648 := hoL 2 _ rfl
  refine vc_aload_n dX12_ofTeller_0 rfl ?_
  refine vc_iload_n dX12_ofTeller_1 rfl ?_
  refine vc_cVI dX12_ofTeller_2 (sfX12_isTeller (M := M) hB0.1  t ) rfl okX12_isTeller viX12_isTeller lkX12_103 (s_54 hB0.1.1) cl_12 rfl (Nat.le_of_ble_eq_true rfl) ⟨rfl, rfl⟩ (Nat.le_of_ble_eq_true rfl) (Nat.le_of_ble_eq_true rfl) (Nat.le_of_ble_eq_true rfl) ?_
  rintro x1 _ ⟨rfl, h2, h3, h4⟩
  refine vc_if_eq dX12_ofTeller_5 (fun h5 => ?_) (fun h5 => ?_)
  · refine vc_iconst dX12_ofTeller_34 rfl ?_
    refine vc_iret dX12_ofTeller_35 rfl (Nat.le_of_ble_eq_true rfl) (Nat.le_of_ble_eq_true rfl) ?_
    exact ⟨_, rfl, rfl⟩
  · refine vc_iload_n dX12_ofTeller_8 rfl ?_
    refine vc_iconst dX12_ofTeller_9 rfl ?_
    refine vc_iconst dX12_ofTeller_10 rfl ?_
    refine vc_cSI dX12_ofTeller_11 (sfX12_isIn (M := M) hB0.1  w 0 4 ) rfl okX12_isIn stX12_isIn lkX12_83 rfl (Nat.le_of_ble_eq_true rfl) ⟨rfl, rfl⟩ (Nat.le_of_ble_eq_true rfl) (Nat.le_of_ble_eq_true rfl) (Nat.le_of_ble_eq_true rfl) ?_
    rintro x6 _ ⟨rfl, h7, h8, h9⟩
    refine vc_if_eq dX12_ofTeller_14 (fun h10 => ?_) (fun h10 => ?_)
    · refine vc_iconst dX12_ofTeller_34 rfl ?_
      refine vc_iret dX12_ofTeller_35 rfl (Nat.le_of_ble_eq_true rfl) (Nat.le_of_ble_eq_true rfl) ?_
      exact ⟨_, rfl, rfl⟩
    · refine vc_aload_n dX12_ofTeller_17 rfl ?_
      refine vc_getR dX12_ofTeller_18 flX12_7 (s_54 hB0.1.1) rfl (r_54_0 hB0.1.1) ?_
      refine vc_sipush dX12_ofTeller_21 rfl ?_
      refine vc_iconst dX12_ofTeller_24 rfl ?_
      refine vc_iload_n dX12_ofTeller_25 rfl ?_
      refine vc_imulE dX12_ofTeller_26 (by omega) (by omega) ?_
      refine vc_iaddE dX12_ofTeller_27 (by omega) (by omega) ?_
      refine vc_iload_n dX12_ofTeller_28 rfl ?_
      refine vc_iaddE dX12_ofTeller_29 (by omega) (by omega) ?_
      refine vc_iaload dX12_ofTeller_30 (s_55 hB0.1.1) (by omega) (by omega) ?_
      refine vc_goto dX12_ofTeller_31 ?_
      refine vc_iret dX12_ofTeller_35 rfl (Nat.le_of_ble_eq_true rfl) (Nat.le_of_ble_eq_true rfl) ?_
      exact ⟨_, rfl, rfl⟩

set_option maxRecDepth 4000 in
theorem sfX12_turned {l : Launch} {M : Mem} (hB : Box M)  (f : Int) (s : Int) (p0 : 0 ≤ f) (p1 : f ≤ 3) : Call l mdX12_turned [aI f, aI s] M (fun q N => ∃ r : Int, q = some (aI r) ∧ M = N ∧ 0 ≤ r ∧ r ≤ 3) := by
  have hB0 : BF fQ M M := BF.start hB
  refine Call.of [some (aI f), some (aI s)] rfl (Nat.le_of_ble_eq_true rfl) rfl ?_
  refine vc_ok (fun hoM hoS hoL => ?_)
  have hr1 : -2147483648 ≤ s ∧ s < 2147483648 := hoL 1 _ rfl
  refine vc_iload_n dX12_turned_0 rfl ?_
  refine vc_iload_n dX12_turned_1 rfl ?_
  refine vc_iconst dX12_turned_2 rfl ?_
  refine vc_icmp_ne dX12_turned_3 (fun h1 => ?_) (fun h1 => ?_)
  · refine vc_iload_n dX12_turned_10 rfl ?_
    refine vc_iconst dX12_turned_11 rfl ?_
    refine vc_icmp_ne dX12_turned_12 (fun h2 => ?_) (fun h2 => ?_)
    · refine vc_iconst dX12_turned_19 rfl ?_
      refine vc_iaddE dX12_turned_20 (by omega) (by omega) ?_
      refine vc_iconst dX12_turned_21 rfl ?_
      refine vc_iremE dX12_turned_22 (by omega) (by omega) ?_
      refine vc_iret dX12_turned_23 rfl (Nat.le_of_ble_eq_true rfl) (Nat.le_of_ble_eq_true rfl) ?_
      exact ⟨_, rfl, rfl, by omega, by omega⟩
    · refine vc_iconst dX12_turned_15 rfl ?_
      refine vc_goto dX12_turned_16 ?_
      refine vc_iaddE dX12_turned_20 (by omega) (by omega) ?_
      refine vc_iconst dX12_turned_21 rfl ?_
      refine vc_iremE dX12_turned_22 (by omega) (by omega) ?_
      refine vc_iret dX12_turned_23 rfl (Nat.le_of_ble_eq_true rfl) (Nat.le_of_ble_eq_true rfl) ?_
      exact ⟨_, rfl, rfl, by omega, by omega⟩
  · refine vc_iconst dX12_turned_6 rfl ?_
    refine vc_goto dX12_turned_7 ?_
    refine vc_iaddE dX12_turned_20 (by omega) (by omega) ?_
    refine vc_iconst dX12_turned_21 rfl ?_
    refine vc_iremE dX12_turned_22 (by omega) (by omega) ?_
    refine vc_iret dX12_turned_23 rfl (Nat.le_of_ble_eq_true rfl) (Nat.le_of_ble_eq_true rfl) ?_
    exact ⟨_, rfl, rfl, by omega, by omega⟩

set_option maxRecDepth 4000 in
theorem sfX12_anew {l : Launch} {M : Mem} (hB : Box M)    : Call l mdX12_anew [aR 54] M (fun q N => q = none ∧ BF fR M N) := by
  have hB0 : BF fR M M := BF.start hB
  refine Call.of [some (aR 54)] rfl (Nat.le_of_ble_eq_true rfl) rfl ?_
  refine vc_aload_n dX12_anew_0 rfl ?_
  refine vc_getR dX12_anew_1 flX12_7 (s_54 hB0.1.1) rfl (r_54_0 hB0.1.1) ?_
  refine vc_iconst dX12_anew_4 rfl ?_
  refine vc_aload_n dX12_anew_5 rfl ?_
  refine vc_getR dX12_anew_6 flX12_7 (s_54 hB0.1.1) rfl (r_54_0 hB0.1.1) ?_
  refine vc_iconst dX12_anew_9 rfl ?_
  refine vc_iaload dX12_anew_10 (s_55 hB0.1.1) (by omega) (by omega) ?_
  refine vc_topI (mI M 55 4) rfl ?_
  have k1 : 0 ≤ mI M 55 4 ∧ mI M 55 4 ≤ 40025 := b55_4 (M := M) hB0.1
  refine vc_sipush dX12_anew_11 rfl ?_
  refine vc_imulE dX12_anew_14 (by omega) (by omega) ?_
  refine vc_bipush dX12_anew_15 rfl ?_
  refine vc_iaddE dX12_anew_17 (by omega) (by omega) ?_
  refine vc_sipush dX12_anew_18 rfl ?_
  refine vc_iremE dX12_anew_21 (by omega) (by omega) ?_
  refine vc_iastore dX12_anew_22 (s_55 hB0.1.1) (by omega) (by omega) ?_
  refine vc_mem (sI M 55 4 ((((mI M 55 4) * 229) + 127) % 30181)) rfl ?_
  have hB2 : BF fR M (sI M 55 4 ((((mI M 55 4) * 229) + 127) % 30181)) := BF.a (x := 4) hB0 (by omega) (by omega) (by unfold aB; refine ⟨?_, ?_, ?_, ?_, ?_, ?_, ?_, ?_, ?_, ?_, ?_, ?_, ?_, ?_, ?_, ?_, ?_, ?_⟩ <;> intros <;> omega) (by omega) (by omega) (by omega) (by omega) (by omega) (by omega) fR_55
  refine vc_vret dX12_anew_23 rfl (Nat.le_of_ble_eq_true rfl) (Nat.le_of_ble_eq_true rfl) ?_
  exact ⟨rfl, hB2⟩
