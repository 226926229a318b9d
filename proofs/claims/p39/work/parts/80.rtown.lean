/-! CONTRACTS of the reference: the town (written by wip/p35/c80.py) -/
theorem aB_cnt {M : Mem} (h : Box M) {t : Int} (h0 : 0 ≤ t) (h1 : t < mI M 55 3) : 1 ≤ mI M 55 (((184 + (9 * t)) + 2)).toNat := by
  have q := h.2.2.2.1.2.1 t.toNat (by omega)
  rw [show (184 + 9 * t.toNat + 2) = (((184 + (9 * t)) + 2)).toNat by omega] at q
  exact q
/-- a write of a street -/
theorem BX.aS {M0 M : Mem} (h : BX M0 M) {x v : Int} (h0 : 10 ≤ x) (h9 : x < 154) (hc : 1 ≤ (x - 10) % 9 ∧ (x - 10) % 9 ≤ 4) (v0 : -1 ≤ v) (v1 : v ≤ 15) (hv : v < mI M 55 0) : BX M0 (sI M 55 x.toNat v) := by
  obtain ⟨⟨h1, h2, h3, h4, h5, h6, h7⟩, hd⟩ := h
  have eo : ∀ b, b ≠ x.toNat → mI (sI M 55 x.toNat v) 55 b = mI M 55 b := fun b hb => by rw [mI_sI, if_neg (fun e => hb e.2)]
  have e6 : mI (sI M 55 x.toNat v) 56 = mI M 56 := funext fun b => by rw [mI_sI, if_neg (fun e => by omega)]
  have e7 : mI (sI M 55 x.toNat v) 57 = mI M 57 := funext fun b => by rw [mI_sI, if_neg (fun e => by omega)]
  have z0 := eo 0 (by omega)
  have z3 := eo 3 (by omega)
  have z5 := eo 5 (by omega)
  have z6 := eo 6 (by omega)
  refine ⟨⟨h1, bx_sI h2 (by show aB _ _; unfold aB; refine ⟨?_, ?_, ?_, ?_, ?_, ?_, ?_, ?_, ?_, ?_, ?_, ?_, ?_, ?_, ?_, ?_, ?_, ?_⟩ <;> intros <;> omega), h3.same ((Dz.refl M).sI (by decide)) (fun _ _ _ => rfl), ?_⟩, hd.sI (by decide)⟩
  refine ⟨⟨fun c d hc2 hd2 => ?_, fun t ht => ?_, ?_⟩, by rw [e6]; exact h5, by rw [e6, z5]; exact h6, by rw [e7, z5]; exact h7⟩
  · rw [z0] at hc2 ⊢
    by_cases hb : 10 + 9 * c + 1 + d = x.toNat
    · rw [hb, mI_sI, if_pos ⟨rfl, rfl⟩]
      exact hv
    · rw [eo _ hb]
      exact h4.1 c d hc2 hd2
  · have hb := (h2 55 3).2.2.2.1 rfl
    rw [z3] at ht
    rw [eo _ (by omega)]
    exact h4.2.1 t ht
  · rw [z6, z5]
    exact h4.2.2
/-- one corner more -/
theorem BX.a0 {M0 M : Mem} (h : BX M0 M) {v : Int} (hv : v = mI M 55 0 + 1) (h16 : v ≤ 16) (hs : ∀ d : Nat, d < 4 → mI M 55 (10 + 9 * (mI M 55 0).toNat + 1 + d) < v) : BX M0 (sI M 55 0 v) := by
  obtain ⟨⟨h1, h2, h3, h4, h5, h6, h7⟩, hd⟩ := h
  have eo : ∀ b, b ≠ 0 → mI (sI M 55 0 v) 55 b = mI M 55 b := fun b hb => by rw [mI_sI, if_neg (fun e => hb e.2)]
  have e0 : mI (sI M 55 0 v) 55 0 = v := by rw [mI_sI, if_pos ⟨rfl, rfl⟩]
  have e6 : mI (sI M 55 0 v) 56 = mI M 56 := funext fun b => by rw [mI_sI, if_neg (fun e => by omega)]
  have e7 : mI (sI M 55 0 v) 57 = mI M 57 := funext fun b => by rw [mI_sI, if_neg (fun e => by omega)]
  have hb := (h2 55 0).1 rfl
  refine ⟨⟨h1, bx_sI h2 (by show aB _ _; unfold aB; refine ⟨?_, ?_, ?_, ?_, ?_, ?_, ?_, ?_, ?_, ?_, ?_, ?_, ?_, ?_, ?_, ?_, ?_, ?_⟩ <;> intros <;> omega), h3.same ((Dz.refl M).sI (by decide)) (fun _ _ _ => rfl), ?_⟩, hd.sI (by decide)⟩
  refine ⟨⟨fun c d hc2 hd2 => ?_, fun t ht => ?_, ?_⟩, by rw [e6]; exact h5, by rw [e6, eo 5 (by decide)]; exact h6, by rw [e7, eo 5 (by decide)]; exact h7⟩
  · rw [e0] at hc2 ⊢
    rw [eo _ (by omega)]
    by_cases hcn : (c : Int) = mI M 55 0
    · have q := hs d hd2
      rw [show (mI M 55 0).toNat = c by omega] at q
      exact q
    · have q := h4.1 c d (by omega) hd2
      omega
  · rw [eo 3 (by decide)] at ht
    rw [eo _ (by omega)]
    exact h4.2.1 t ht
  · rw [eo 6 (by decide), eo 5 (by decide)]
    exact h4.2.2
/-- the count of a telling that isn't told yet -/
theorem BX.aC {M0 M : Mem} (h : BX M0 M) {x v : Int} (h0 : 184 ≤ x) (h9 : x < 256) (hc : (x - 184) % 9 = 2) (v0 : 0 ≤ v) (v1 : v ≤ 6) (hv : mI M 55 3 ≤ (x - 184) / 9) : BX M0 (sI M 55 x.toNat v) := by
  obtain ⟨⟨h1, h2, h3, h4, h5, h6, h7⟩, hd⟩ := h
  have eo : ∀ b, b ≠ x.toNat → mI (sI M 55 x.toNat v) 55 b = mI M 55 b := fun b hb => by rw [mI_sI, if_neg (fun e => hb e.2)]
  have e6 : mI (sI M 55 x.toNat v) 56 = mI M 56 := funext fun b => by rw [mI_sI, if_neg (fun e => by omega)]
  have e7 : mI (sI M 55 x.toNat v) 57 = mI M 57 := funext fun b => by rw [mI_sI, if_neg (fun e => by omega)]
  have z0 := eo 0 (by omega)
  have z3 := eo 3 (by omega)
  have z5 := eo 5 (by omega)
  have z6 := eo 6 (by omega)
  refine ⟨⟨h1, bx_sI h2 (by show aB _ _; unfold aB; refine ⟨?_, ?_, ?_, ?_, ?_, ?_, ?_, ?_, ?_, ?_, ?_, ?_, ?_, ?_, ?_, ?_, ?_, ?_⟩ <;> intros <;> omega), h3.same ((Dz.refl M).sI (by decide)) (fun _ _ _ => rfl), ?_⟩, hd.sI (by decide)⟩
  refine ⟨⟨fun c d hc2 hd2 => ?_, fun t ht => ?_, ?_⟩, by rw [e6]; exact h5, by rw [e6, z5]; exact h6, by rw [e7, z5]; exact h7⟩
  · have hb := (h2 55 0).1 rfl
    rw [z0] at hc2 ⊢
    rw [eo _ (by omega)]
    exact h4.1 c d hc2 hd2
  · rw [z3] at ht
    rw [eo _ (by omega)]
    exact h4.2.1 t ht
  · rw [z6, z5]
    exact h4.2.2
/-- one telling more -/
theorem BX.a3 {M0 M : Mem} (h : BX M0 M) {v : Int} (hv : v = mI M 55 3 + 1) (h8 : v ≤ 8) (hs : 1 ≤ mI M 55 (184 + 9 * (mI M 55 3).toNat + 2)) : BX M0 (sI M 55 3 v) := by
  obtain ⟨⟨h1, h2, h3, h4, h5, h6, h7⟩, hd⟩ := h
  have eo : ∀ b, b ≠ 3 → mI (sI M 55 3 v) 55 b = mI M 55 b := fun b hb => by rw [mI_sI, if_neg (fun e => hb e.2)]
  have e0 : mI (sI M 55 3 v) 55 3 = v := by rw [mI_sI, if_pos ⟨rfl, rfl⟩]
  have e6 : mI (sI M 55 3 v) 56 = mI M 56 := funext fun b => by rw [mI_sI, if_neg (fun e => by omega)]
  have e7 : mI (sI M 55 3 v) 57 = mI M 57 := funext fun b => by rw [mI_sI, if_neg (fun e => by omega)]
  have hb := (h2 55 3).2.2.2.1 rfl
  refine ⟨⟨h1, bx_sI h2 (by show aB _ _; unfold aB; refine ⟨?_, ?_, ?_, ?_, ?_, ?_, ?_, ?_, ?_, ?_, ?_, ?_, ?_, ?_, ?_, ?_, ?_, ?_⟩ <;> intros <;> omega), h3.same ((Dz.refl M).sI (by decide)) (fun _ _ _ => rfl), ?_⟩, hd.sI (by decide)⟩
  refine ⟨⟨fun c d hc2 hd2 => ?_, fun t ht => ?_, ?_⟩, by rw [e6]; exact h5, by rw [e6, eo 5 (by decide)]; exact h6, by rw [e7, eo 5 (by decide)]; exact h7⟩
  · rw [eo 0 (by decide)] at hc2 ⊢
    rw [eo _ (by omega)]
    exact h4.1 c d hc2 hd2
  · rw [e0] at ht
    rw [eo _ (by omega)]
    by_cases hcn : (t : Int) = mI M 55 3
    · rw [show (mI M 55 3).toNat = t by omega] at hs
      exact hs
    · exact h4.2.1 t (by omega)
  · rw [eo 6 (by decide), eo 5 (by decide)]
    exact h4.2.2
/-- the text that rules -/
theorem BX.a6 {M0 M : Mem} (h : BX M0 M) {v : Int} (v0 : -1 ≤ v) (hv : v < mI M 55 5) : BX M0 (sI M 55 6 v) := by
  obtain ⟨⟨h1, h2, h3, h4, h5, h6, h7⟩, hd⟩ := h
  have eo : ∀ b, b ≠ 6 → mI (sI M 55 6 v) 55 b = mI M 55 b := fun b hb => by rw [mI_sI, if_neg (fun e => hb e.2)]
  have e0 : mI (sI M 55 6 v) 55 6 = v := by rw [mI_sI, if_pos ⟨rfl, rfl⟩]
  have e6 : mI (sI M 55 6 v) 56 = mI M 56 := funext fun b => by rw [mI_sI, if_neg (fun e => by omega)]
  have e7 : mI (sI M 55 6 v) 57 = mI M 57 := funext fun b => by rw [mI_sI, if_neg (fun e => by omega)]
  have hb := (h2 55 5).2.2.2.2.2.1 rfl
  refine ⟨⟨h1, bx_sI h2 (by show aB _ _; unfold aB; refine ⟨?_, ?_, ?_, ?_, ?_, ?_, ?_, ?_, ?_, ?_, ?_, ?_, ?_, ?_, ?_, ?_, ?_, ?_⟩ <;> intros <;> omega), h3.same ((Dz.refl M).sI (by decide)) (fun _ _ _ => rfl), ?_⟩, hd.sI (by decide)⟩
  refine ⟨⟨fun c d hc2 hd2 => ?_, fun t ht => ?_, ?_⟩, by rw [e6]; exact h5, by rw [e6, eo 5 (by decide)]; exact h6, by rw [e7, eo 5 (by decide)]; exact h7⟩
  · rw [eo 0 (by decide)] at hc2 ⊢
    rw [eo _ (by omega)]
    exact h4.1 c d hc2 hd2
  · rw [eo 3 (by decide)] at ht
    rw [eo _ (by omega)]
    exact h4.2.1 t ht
  · rw [e0, eo 5 (by decide)]
    exact hv
theorem BF.aS {f : Nat → Nat → Bool} {A M : Mem} (h : BF f A M) {x v : Int} (h0 : 10 ≤ x) (h9 : x < 154) (hc : 1 ≤ (x - 10) % 9 ∧ (x - 10) % 9 ≤ 4) (v0 : -1 ≤ v) (v1 : v ≤ 15) (hv : v < mI M 55 0) (hf : ∀ i, i ≠ 5 → f 55 i = false := by exact fR_55) : BF f A (sI M 55 x.toNat v) := h.of ((BX.start h.1).aS h0 h9 hc v0 v1 hv) (FzF.sI (hf _ (by omega))) (fun _ _ => rfl)
theorem BF.a0 {f : Nat → Nat → Bool} {A M : Mem} (h : BF f A M) {v : Int} (hv : v = mI M 55 0 + 1) (h16 : v ≤ 16) (hs : ∀ d : Nat, d < 4 → mI M 55 (10 + 9 * (mI M 55 0).toNat + 1 + d) < v) (hf : ∀ i, i ≠ 5 → f 55 i = false := by exact fR_55) : BF f A (sI M 55 0 v) := h.of ((BX.start h.1).a0 hv h16 hs) (FzF.sI (hf _ (by omega))) (fun _ _ => rfl)
theorem BF.aC {f : Nat → Nat → Bool} {A M : Mem} (h : BF f A M) {x v : Int} (h0 : 184 ≤ x) (h9 : x < 256) (hc : (x - 184) % 9 = 2) (v0 : 0 ≤ v) (v1 : v ≤ 6) (hv : mI M 55 3 ≤ (x - 184) / 9) (hf : ∀ i, i ≠ 5 → f 55 i = false := by exact fR_55) : BF f A (sI M 55 x.toNat v) := h.of ((BX.start h.1).aC h0 h9 hc v0 v1 hv) (FzF.sI (hf _ (by omega))) (fun _ _ => rfl)
theorem BF.a3 {f : Nat → Nat → Bool} {A M : Mem} (h : BF f A M) {v : Int} (hv : v = mI M 55 3 + 1) (h8 : v ≤ 8) (hs : 1 ≤ mI M 55 (184 + 9 * (mI M 55 3).toNat + 2)) (hf : ∀ i, i ≠ 5 → f 55 i = false := by exact fR_55) : BF f A (sI M 55 3 v) := h.of ((BX.start h.1).a3 hv h8 hs) (FzF.sI (hf _ (by omega))) (fun _ _ => rfl)
theorem BF.a6 {f : Nat → Nat → Bool} {A M : Mem} (h : BF f A M) {v : Int} (v0 : -1 ≤ v) (hv : v < mI M 55 5) (hf : ∀ i, i ≠ 5 → f 55 i = false := by exact fR_55) : BF f A (sI M 55 6 v) := h.of ((BX.start h.1).a6 v0 hv) (FzF.sI (hf _ (by omega))) (fun _ _ => rfl)

set_option maxRecDepth 4000 in
theorem sfX12_isIn {l : Launch} {M : Mem} (hB : Box M)  (v : Int) (lo : Int) (hi : Int)  : Call l mdX12_isIn [aI v, aI lo, aI hi] M (fun q N => ∃ r : Int, q = some (aI r) ∧ M = N ∧ 0 ≤ r ∧ r ≤ 1 ∧ (r = 0 ∨ (lo ≤ v ∧ v ≤ hi))) := by
  have hB0 : BF fQ M M := BF.start hB
  refine Call.of [some (aI v), some (aI lo), some (aI hi)] rfl (Nat.le_of_ble_eq_true rfl) rfl ?_
  refine vc_ok (fun hoM hoS hoL => ?_)
  have hr0 : -2147483648 ≤ v ∧ v < 2147483648 := hoL 0 _ rfl
  have hr1 : -2147483648 ≤ lo ∧ lo < 2147483648 := hoL 1 _ rfl
  have hr2 : -2147483648 ≤ hi ∧ hi < 2147483648 := hoL 2 _ rfl
  refine vc_iload_n dX12_isIn_0 rfl ?_
  refine vc_iload_n dX12_isIn_1 rfl ?_
  refine vc_icmp_lt dX12_isIn_2 (fun h1 => ?_) (fun h1 => ?_)
  · refine vc_iconst dX12_isIn_14 rfl ?_
    refine vc_zret dX12_isIn_15 rfl (by first | decide | omega) (Nat.le_of_ble_eq_true rfl) (Nat.le_of_ble_eq_true rfl) ?_
    exact ⟨_, rfl, rfl, by omega, by omega, by omega⟩
  · refine vc_iload_n dX12_isIn_5 rfl ?_
    refine vc_iload_n dX12_isIn_6 rfl ?_
    refine vc_icmp_gt dX12_isIn_7 (fun h2 => ?_) (fun h2 => ?_)
    · refine vc_iconst dX12_isIn_14 rfl ?_
      refine vc_zret dX12_isIn_15 rfl (by first | decide | omega) (Nat.le_of_ble_eq_true rfl) (Nat.le_of_ble_eq_true rfl) ?_
      exact ⟨_, rfl, rfl, by omega, by omega, by omega⟩
    · refine vc_iconst dX12_isIn_10 rfl ?_
      refine vc_goto dX12_isIn_11 ?_
      refine vc_zret dX12_isIn_15 rfl (by first | decide | omega) (Nat.le_of_ble_eq_true rfl) (Nat.le_of_ble_eq_true rfl) ?_
      exact ⟨_, rfl, rfl, by omega, by omega, by omega⟩

set_option maxRecDepth 4000 in
theorem sfX12_has {l : Launch} {M : Mem} (hB : Box M)  (s : Int) (k : Int)  : Call l mdX12_has [aI s, aI k] M (fun q N => ∃ r : Int, q = some (aI r) ∧ M = N ∧ 0 ≤ r ∧ r ≤ 1) := by
  have hB0 : BF fQ M M := BF.start hB
  refine Call.of [some (aI s), some (aI k)] rfl (Nat.le_of_ble_eq_true rfl) rfl ?_
  refine vc_ok (fun hoM hoS hoL => ?_)
  have hr0 : -2147483648 ≤ s ∧ s < 2147483648 := hoL 0 _ rfl
  have hr1 : -2147483648 ≤ k ∧ k < 2147483648 := hoL 1 _ rfl
  refine vc_iload_n dX12_has_0 rfl ?_
  refine vc_iload_n dX12_has_1 rfl ?_
  refine vc_ishr dX12_has_2 ?_
  refine vc_iconst dX12_has_3 rfl ?_
  refine vc_iandM dX12_has_4 2 1 rfl (by decide) rfl ?_
  refine vc_iconst dX12_has_5 rfl ?_
  refine vc_icmp_ne dX12_has_6 (fun h1 => ?_) (fun h1 => ?_)
  · refine vc_iconst dX12_has_13 rfl ?_
    refine vc_zret dX12_has_14 rfl (by first | decide | omega) (Nat.le_of_ble_eq_true rfl) (Nat.le_of_ble_eq_true rfl) ?_
    exact ⟨_, rfl, rfl, by omega, by omega⟩
  · refine vc_iconst dX12_has_9 rfl ?_
    refine vc_goto dX12_has_10 ?_
    refine vc_zret dX12_has_14 rfl (by first | decide | omega) (Nat.le_of_ble_eq_true rfl) (Nat.le_of_ble_eq_true rfl) ?_
    exact ⟨_, rfl, rfl, by omega, by omega⟩

set_option maxRecDepth 4000 in
theorem sfX12_bits {l : Launch} {M : Mem} (hB : Box M)  (s : Int)  : Call l mdX12_bits [aI s] M (fun q N => ∃ r : Int, q = some (aI r) ∧ M = N) := by
  have hB0 : BF fQ M M := BF.start hB
  refine Call.of [some (aI s), none, none] rfl (Nat.le_of_ble_eq_true rfl) rfl ?_
  refine vc_ok (fun hoM hoS hoL => ?_)
  have hr0 : -2147483648 ≤ s ∧ s < 2147483648 := hoL 0 _ rfl
  refine vc_iconst dX12_bits_0 rfl ?_
  refine vc_istore_n dX12_bits_1 (by decide) rfl (show _ = [some (aI s), some (aI 0), none] from rfl) ?_
  refine vc_iconst dX12_bits_2 rfl ?_
  refine vc_istore_n dX12_bits_3 (by decide) rfl (show _ = [some (aI s), some (aI 0), some (aI 0)] from rfl) ?_
  have lp4 : ∀ (n4 : Nat) (v1 : Int) (v2 : Int), (0 ≤ v2) → (v2 ≤ 16) → (16 - v2).toNat < n4 → VC l mdX12_bits 4 [some (aI s), some (aI v1), some (aI v2)] [] M 0 0 (fun q N => ∃ r : Int, q = some (aI r) ∧ M = N) := by
    intro n4
    induction n4 with
    | zero => intro v1 v2 g4_2a g4_2b hm4; exact absurd hm4 (Nat.not_lt_zero _)
    | succ n4 ih4 =>
      intro v1 v2 g4_2a g4_2b hm4
      refine vc_iload_n dX12_bits_4 rfl ?_
      refine vc_bipush dX12_bits_5 rfl ?_
      refine vc_icmp_ge dX12_bits_7 (fun h1 => ?_) (fun h1 => ?_)
      · refine vc_iload_n dX12_bits_24 rfl ?_
        refine vc_iret dX12_bits_25 rfl (Nat.le_of_ble_eq_true rfl) (Nat.le_of_ble_eq_true rfl) ?_
        exact ⟨_, rfl, rfl⟩
      · refine vc_iload_n dX12_bits_10 rfl ?_
        refine vc_iload_n dX12_bits_11 rfl ?_
        refine vc_iload_n dX12_bits_12 rfl ?_
        refine vc_ishr dX12_bits_13 ?_
        refine vc_iconst dX12_bits_14 rfl ?_
        refine vc_iandM dX12_bits_15 2 1 rfl (by decide) rfl ?_
        refine vc_iadd dX12_bits_16 ?_
        refine vc_nameI (fun x2 ex2 => ?_)
        refine vc_istore_n dX12_bits_17 (by decide) rfl (show _ = [some (aI s), some (aI x2), some (aI v2)] from rfl) ?_
        refine vc_iincE dX12_bits_18 rfl (by omega) (by omega) (by decide) rfl (show _ = [some (aI s), some (aI x2), some (aI (v2 + 1))] from rfl) ?_
        refine vc_goto dX12_bits_21 ?_
        exact ih4 x2 (v2 + 1) (by omega) (by omega) (by omega)
  exact lp4 _ 0 0 (by omega) (by omega) (Nat.lt_succ_self _)

set_option maxRecDepth 4000 in
theorem sfX12_isCorner {l : Launch} {M : Mem} (hB : Box M)  (c : Int)  : Call l mdX12_isCorner [aR 54, aI c] M (fun q N => ∃ r : Int, q = some (aI r) ∧ M = N ∧ 0 ≤ r ∧ r ≤ 1 ∧ (r = 0 ∨ (0 ≤ c ∧ c < mI M 55 0 ∧ c ≤ 15))) := by
  have hB0 : BF fQ M M := BF.start hB
  refine Call.of [some (aR 54), some (aI c)] rfl (Nat.le_of_ble_eq_true rfl) rfl ?_
  refine vc_ok (fun hoM hoS hoL => ?_)
  have hr1 : -2147483648 ≤ c ∧ c < 2147483648 := hoL 1 _ rfl
  refine vc_iload_n dX12_isCorner_0 rfl ?_
  refine vc_iconst dX12_isCorner_1 rfl ?_
  refine vc_aload_n dX12_isCorner_2 rfl ?_
  refine vc_getR dX12_isCorner_3 flX12_7 (s_54 hB0.1.1) rfl (r_54_0 hB0.1.1) ?_
  refine vc_iconst dX12_isCorner_6 rfl ?_
  refine vc_iaload dX12_isCorner_7 (s_55 hB0.1.1) (by omega) (by omega) ?_
  refine vc_topI (mI M 55 0) rfl ?_
  have k1 : 0 ≤ mI M 55 0 ∧ mI M 55 0 ≤ 16 := b55_0 (M := M) hB0.1
  refine vc_iconst dX12_isCorner_8 rfl ?_
  refine vc_isubE dX12_isCorner_9 (by omega) (by omega) ?_
  refine vc_cSI dX12_isCorner_10 (sfX12_isIn (M := M) hB0.1  c 0 ((mI M 55 0) - 1) ) rfl okX12_isIn stX12_isIn lkX12_83 rfl (Nat.le_of_ble_eq_true rfl) ⟨rfl, rfl⟩ (Nat.le_of_ble_eq_true rfl) (Nat.le_of_ble_eq_true rfl) (Nat.le_of_ble_eq_true rfl) ?_
  rintro x2 _ ⟨rfl, h3, h4, h5⟩
  refine vc_zret dX12_isCorner_13 rfl (by first | decide | omega) (Nat.le_of_ble_eq_true rfl) (Nat.le_of_ble_eq_true rfl) ?_
  exact ⟨_, rfl, rfl, by omega, by omega, by omega⟩

set_option maxRecDepth 4000 in
theorem sfX12_isTelling {l : Launch} {M : Mem} (hB : Box M)  (c : Int)  : Call l mdX12_isTelling [aR 54, aI c] M (fun q N => ∃ r : Int, q = some (aI r) ∧ M = N ∧ 0 ≤ r ∧ r ≤ 1 ∧ (r = 0 ∨ (0 ≤ c ∧ c < mI M 55 3 ∧ c ≤ 7))) := by
  have hB0 : BF fQ M M := BF.start hB
  refine Call.of [some (aR 54), some (aI c)] rfl (Nat.le_of_ble_eq_true rfl) rfl ?_
  refine vc_ok (fun hoM hoS hoL => ?_)
  have hr1 : -2147483648 ≤ c ∧ c < 2147483648 := hoL 1 _ rfl
  refine vc_iload_n dX12_isTelling_0 rfl ?_
  refine vc_iconst dX12_isTelling_1 rfl ?_
  refine vc_aload_n dX12_isTelling_2 rfl ?_
  refine vc_getR dX12_isTelling_3 flX12_7 (s_54 hB0.1.1) rfl (r_54_0 hB0.1.1) ?_
  refine vc_iconst dX12_isTelling_6 rfl ?_
  refine vc_iaload dX12_isTelling_7 (s_55 hB0.1.1) (by omega) (by omega) ?_
  refine vc_topI (mI M 55 3) rfl ?_
  have k1 : 0 ≤ mI M 55 3 ∧ mI M 55 3 ≤ 8 := b55_3 (M := M) hB0.1
  refine vc_iconst dX12_isTelling_8 rfl ?_
  refine vc_isubE dX12_isTelling_9 (by omega) (by omega) ?_
  refine vc_cSI dX12_isTelling_10 (sfX12_isIn (M := M) hB0.1  c 0 ((mI M 55 3) - 1) ) rfl okX12_isIn stX12_isIn lkX12_83 rfl (Nat.le_of_ble_eq_true rfl) ⟨rfl, rfl⟩ (Nat.le_of_ble_eq_true rfl) (Nat.le_of_ble_eq_true rfl) (Nat.le_of_ble_eq_true rfl) ?_
  rintro x2 _ ⟨rfl, h3, h4, h5⟩
  refine vc_zret dX12_isTelling_13 rfl (by first | decide | omega) (Nat.le_of_ble_eq_true rfl) (Nat.le_of_ble_eq_true rfl) ?_
  exact ⟨_, rfl, rfl, by omega, by omega, by omega⟩

set_option maxRecDepth 4000 in
theorem sfX12_sightOf {l : Launch} {M : Mem} (hB : Box M)  (c : Int) (p0 : (-1) ≤ c) (p1 : c ≤ 15) : Call l mdX12_sightOf [aR 54, aI c] M (fun q N => ∃ r : Int, q = some (aI r) ∧ M = N) := by
  have hB0 : BF fQ M M := BF.start hB
  refine Call.of [some (aR 54), some (aI c)] rfl (Nat.le_of_ble_eq_true rfl) rfl ?_
  refine vc_aload_n dX12_sightOf_0 rfl ?_
  refine vc_getR dX12_sightOf_1 flX12_7 (s_54 hB0.1.1) rfl (r_54_0 hB0.1.1) ?_
  refine vc_bipush dX12_sightOf_4 rfl ?_
  refine vc_bipush dX12_sightOf_6 rfl ?_
  refine vc_iload_n dX12_sightOf_8 rfl ?_
  refine vc_imulE dX12_sightOf_9 (by omega) (by omega) ?_
  refine vc_iaddE dX12_sightOf_10 (by omega) (by omega) ?_
  refine vc_iaload dX12_sightOf_11 (s_55 hB0.1.1) (by omega) (by omega) ?_
  refine vc_iret dX12_sightOf_12 rfl (Nat.le_of_ble_eq_true rfl) (Nat.le_of_ble_eq_true rfl) ?_
  exact ⟨_, rfl, rfl⟩

set_option maxRecDepth 4000 in
theorem sfX12_streetOf {l : Launch} {M : Mem} (hB : Box M)  (c : Int) (d : Int) (p0 : 0 ≤ c) (p1 : c ≤ 15) (p2 : 0 ≤ d) (p3 : d ≤ 3) : Call l mdX12_streetOf [aR 54, aI c, aI d] M (fun q N => ∃ r : Int, q = some (aI r) ∧ M = N ∧ (-1) ≤ r ∧ r ≤ 15 ∧ r = mI M 55 (((10 + (9 * c)) + 1) + d).toNat) := by
  have hB0 : BF fQ M M := BF.start hB
  refine Call.of [some (aR 54), some (aI c), some (aI d)] rfl (Nat.le_of_ble_eq_true rfl) rfl ?_
  refine vc_aload_n dX12_streetOf_0 rfl ?_
  refine vc_getR dX12_streetOf_1 flX12_7 (s_54 hB0.1.1) rfl (r_54_0 hB0.1.1) ?_
  refine vc_bipush dX12_streetOf_4 rfl ?_
  refine vc_bipush dX12_streetOf_6 rfl ?_
  refine vc_iload_n dX12_streetOf_8 rfl ?_
  refine vc_imulE dX12_streetOf_9 (by omega) (by omega) ?_
  refine vc_iaddE dX12_streetOf_10 (by omega) (by omega) ?_
  refine vc_iconst dX12_streetOf_11 rfl ?_
  refine vc_iaddE dX12_streetOf_12 (by omega) (by omega) ?_
  refine vc_iload_n dX12_streetOf_13 rfl ?_
  refine vc_iaddE dX12_streetOf_14 (by omega) (by omega) ?_
  refine vc_iaload dX12_streetOf_15 (s_55 hB0.1.1) (by omega) (by omega) ?_
  have k1 : (-1) ≤ mI M 55 ((((10 + (9 * c)) + 1) + d).toNat) ∧ mI M 55 ((((10 + (9 * c)) + 1) + d).toNat) ≤ 15 := ba_st (M := M) hB0.1 (x := ((10 + (9 * c)) + 1) + d) (by omega) (by omega) ⟨by omega, by omega⟩
  refine vc_iret dX12_streetOf_16 rfl (Nat.le_of_ble_eq_true rfl) (Nat.le_of_ble_eq_true rfl) ?_
  exact ⟨_, rfl, rfl, by omega, by omega, by rfl⟩

set_option maxRecDepth 4000 in
theorem sfX12_isLane {l : Launch} {M : Mem} (hB : Box M)  (c : Int) (d : Int) (p0 : 0 ≤ c) (p1 : c ≤ 15) (p2 : 0 ≤ d) (p3 : d ≤ 3) : Call l mdX12_isLane [aR 54, aI c, aI d] M (fun q N => ∃ r : Int, q = some (aI r) ∧ M = N ∧ 0 ≤ r ∧ r ≤ 1) := by
  have hB0 : BF fQ M M := BF.start hB
  refine Call.of [some (aR 54), some (aI c), some (aI d)] rfl (Nat.le_of_ble_eq_true rfl) rfl ?_
  refine vc_aload_n dX12_isLane_0 rfl ?_
  refine vc_getR dX12_isLane_1 flX12_7 (s_54 hB0.1.1) rfl (r_54_0 hB0.1.1) ?_
  refine vc_bipush dX12_isLane_4 rfl ?_
  refine vc_bipush dX12_isLane_6 rfl ?_
  refine vc_iload_n dX12_isLane_8 rfl ?_
  refine vc_imulE dX12_isLane_9 (by omega) (by omega) ?_
  refine vc_iaddE dX12_isLane_10 (by omega) (by omega) ?_
  refine vc_iconst dX12_isLane_11 rfl ?_
  refine vc_iaddE dX12_isLane_12 (by omega) (by omega) ?_
  refine vc_iload_n dX12_isLane_13 rfl ?_
  refine vc_iaddE dX12_isLane_14 (by omega) (by omega) ?_
  refine vc_iaload dX12_isLane_15 (s_55 hB0.1.1) (by omega) (by omega) ?_
  refine vc_iconst dX12_isLane_16 rfl ?_
  refine vc_icmp_ne dX12_isLane_17 (fun h1 => ?_) (fun h1 => ?_)
  · refine vc_iconst dX12_isLane_24 rfl ?_
    refine vc_zret dX12_isLane_25 rfl (by first | decide | omega) (Nat.le_of_ble_eq_true rfl) (Nat.le_of_ble_eq_true rfl) ?_
    exact ⟨_, rfl, rfl, by omega, by omega⟩
  · refine vc_iconst dX12_isLane_20 rfl ?_
    refine vc_goto dX12_isLane_21 ?_
    refine vc_zret dX12_isLane_25 rfl (by first | decide | omega) (Nat.le_of_ble_eq_true rfl) (Nat.le_of_ble_eq_true rfl) ?_
    exact ⟨_, rfl, rfl, by omega, by omega⟩

set_option maxRecDepth 4000 in
theorem sfX12_tellerOf {l : Launch} {M : Mem} (hB : Box M)  (t : Int) (p0 : 0 ≤ t) (p1 : t ≤ 7) : Call l mdX12_tellerOf [aR 54, aI t] M (fun q N => ∃ r : Int, q = some (aI r) ∧ M = N ∧ 0 ≤ r ∧ r ≤ 5) := by
  have hB0 : BF fQ M M := BF.start hB
  refine Call.of [some (aR 54), some (aI t)] rfl (Nat.le_of_ble_eq_true rfl) rfl ?_
  refine vc_aload_n dX12_tellerOf_0 rfl ?_
  refine vc_getR dX12_tellerOf_1 flX12_7 (s_54 hB0.1.1) rfl (r_54_0 hB0.1.1) ?_
  refine vc_sipush dX12_tellerOf_4 rfl ?_
  refine vc_bipush dX12_tellerOf_7 rfl ?_
  refine vc_iload_n dX12_tellerOf_9 rfl ?_
  refine vc_imulE dX12_tellerOf_10 (by omega) (by omega) ?_
  refine vc_iaddE dX12_tellerOf_11 (by omega) (by omega) ?_
  refine vc_iaload dX12_tellerOf_12 (s_55 hB0.1.1) (by omega) (by omega) ?_
  have k1 : 0 ≤ mI M 55 ((184 + (9 * t)).toNat) ∧ mI M 55 ((184 + (9 * t)).toNat) ≤ 5 := ba_t0 (M := M) hB0.1 (x := 184 + (9 * t)) (by omega) (by omega) (by omega)
  refine vc_iret dX12_tellerOf_13 rfl (Nat.le_of_ble_eq_true rfl) (Nat.le_of_ble_eq_true rfl) ?_
  exact ⟨_, rfl, rfl, by omega, by omega⟩

set_option maxRecDepth 4000 in
theorem sfX12_facingOf {l : Launch} {M : Mem} (hB : Box M)  (t : Int) (p0 : 0 ≤ t) (p1 : t ≤ 7) : Call l mdX12_facingOf [aR 54, aI t] M (fun q N => ∃ r : Int, q = some (aI r) ∧ M = N ∧ 0 ≤ r ∧ r ≤ 3) := by
  have hB0 : BF fQ M M := BF.start hB
  refine Call.of [some (aR 54), some (aI t)] rfl (Nat.le_of_ble_eq_true rfl) rfl ?_
  refine vc_aload_n dX12_facingOf_0 rfl ?_
  refine vc_getR dX12_facingOf_1 flX12_7 (s_54 hB0.1.1) rfl (r_54_0 hB0.1.1) ?_
  refine vc_sipush dX12_facingOf_4 rfl ?_
  refine vc_bipush dX12_facingOf_7 rfl ?_
  refine vc_iload_n dX12_facingOf_9 rfl ?_
  refine vc_imulE dX12_facingOf_10 (by omega) (by omega) ?_
  refine vc_iaddE dX12_facingOf_11 (by omega) (by omega) ?_
  refine vc_iconst dX12_facingOf_12 rfl ?_
  refine vc_iaddE dX12_facingOf_13 (by omega) (by omega) ?_
  refine vc_iaload dX12_facingOf_14 (s_55 hB0.1.1) (by omega) (by omega) ?_
  have k1 : 0 ≤ mI M 55 (((184 + (9 * t)) + 1).toNat) ∧ mI M 55 (((184 + (9 * t)) + 1).toNat) ≤ 3 := ba_t1 (M := M) hB0.1 (x := (184 + (9 * t)) + 1) (by omega) (by omega) (by omega)
  refine vc_iret dX12_facingOf_15 rfl (Nat.le_of_ble_eq_true rfl) (Nat.le_of_ble_eq_true rfl) ?_
  exact ⟨_, rfl, rfl, by omega, by omega⟩

set_option maxRecDepth 4000 in
theorem sfX12_turnsOf {l : Launch} {M : Mem} (hB : Box M)  (t : Int) (p0 : 0 ≤ t) (p1 : t ≤ 7) : Call l mdX12_turnsOf [aR 54, aI t] M (fun q N => ∃ r : Int, q = some (aI r) ∧ M = N ∧ 0 ≤ r ∧ r ≤ 6 ∧ r = mI M 55 (((184 + (9 * t)) + 2)).toNat) := by
  have hB0 : BF fQ M M := BF.start hB
  refine Call.of [some (aR 54), some (aI t)] rfl (Nat.le_of_ble_eq_true rfl) rfl ?_
  refine vc_aload_n dX12_turnsOf_0 rfl ?_
  refine vc_getR dX12_turnsOf_1 flX12_7 (s_54 hB0.1.1) rfl (r_54_0 hB0.1.1) ?_
  refine vc_sipush dX12_turnsOf_4 rfl ?_
  refine vc_bipush dX12_turnsOf_7 rfl ?_
  refine vc_iload_n dX12_turnsOf_9 rfl ?_
  refine vc_imulE dX12_turnsOf_10 (by omega) (by omega) ?_
  refine vc_iaddE dX12_turnsOf_11 (by omega) (by omega) ?_
  refine vc_iconst dX12_turnsOf_12 rfl ?_
  refine vc_iaddE dX12_turnsOf_13 (by omega) (by omega) ?_
  refine vc_iaload dX12_turnsOf_14 (s_55 hB0.1.1) (by omega) (by omega) ?_
  have k1 : 0 ≤ mI M 55 (((184 + (9 * t)) + 2).toNat) ∧ mI M 55 (((184 + (9 * t)) + 2).toNat) ≤ 6 := ba_t2 (M := M) hB0.1 (x := (184 + (9 * t)) + 2) (by omega) (by omega) (by omega)
  refine vc_iret dX12_turnsOf_15 rfl (Nat.le_of_ble_eq_true rfl) (Nat.le_of_ble_eq_true rfl) ?_
  exact ⟨_, rfl, rfl, by omega, by omega, by rfl⟩

set_option maxRecDepth 4000 in
theorem sfX12_turnAt {l : Launch} {M : Mem} (hB : Box M)  (t : Int) (k : Int) (p0 : 0 ≤ t) (p1 : t ≤ 7) (p2 : 0 ≤ k) (p3 : k ≤ 5) : Call l mdX12_turnAt [aR 54, aI t, aI k] M (fun q N => ∃ r : Int, q = some (aI r) ∧ M = N) := by
  have hB0 : BF fQ M M := BF.start hB
  refine Call.of [some (aR 54), some (aI t), some (aI k)] rfl (Nat.le_of_ble_eq_true rfl) rfl ?_
  refine vc_aload_n dX12_turnAt_0 rfl ?_
  refine vc_getR dX12_turnAt_1 flX12_7 (s_54 hB0.1.1) rfl (r_54_0 hB0.1.1) ?_
  refine vc_sipush dX12_turnAt_4 rfl ?_
  refine vc_bipush dX12_turnAt_7 rfl ?_
  refine vc_iload_n dX12_turnAt_9 rfl ?_
  refine vc_imulE dX12_turnAt_10 (by omega) (by omega) ?_
  refine vc_iaddE dX12_turnAt_11 (by omega) (by omega) ?_
  refine vc_iconst dX12_turnAt_12 rfl ?_
  refine vc_iaddE dX12_turnAt_13 (by omega) (by omega) ?_
  refine vc_iload_n dX12_turnAt_14 rfl ?_
  refine vc_iaddE dX12_turnAt_15 (by omega) (by omega) ?_
  refine vc_iaload dX12_turnAt_16 (s_55 hB0.1.1) (by omega) (by omega) ?_
  refine vc_iret dX12_turnAt_17 rfl (Nat.le_of_ble_eq_true rfl) (Nat.le_of_ble_eq_true rfl) ?_
  exact ⟨_, rfl, rfl⟩

set_option maxRecDepth 4000 in
theorem sfX12_cornerOf {l : Launch} {M : Mem} (hB : Box M)  (t : Int) (p0 : 0 ≤ t) (p1 : t ≤ 5) : Call l mdX12_cornerOf [aR 54, aI t] M (fun q N => ∃ r : Int, q = some (aI r) ∧ M = N ∧ 0 ≤ r ∧ r ≤ 15) := by
  have hB0 : BF fQ M M := BF.start hB
  refine Call.of [some (aR 54), some (aI t)] rfl (Nat.le_of_ble_eq_true rfl) rfl ?_
  refine vc_aload_n dX12_cornerOf_0 rfl ?_
  refine vc_getR dX12_cornerOf_1 flX12_7 (s_54 hB0.1.1) rfl (r_54_0 hB0.1.1) ?_
  refine vc_sipush dX12_cornerOf_4 rfl ?_
  refine vc_iconst dX12_cornerOf_7 rfl ?_
  refine vc_iload_n dX12_cornerOf_8 rfl ?_
  refine vc_imulE dX12_cornerOf_9 (by omega) (by omega) ?_
  refine vc_iaddE dX12_cornerOf_10 (by omega) (by omega) ?_
  refine vc_iaload dX12_cornerOf_11 (s_55 hB0.1.1) (by omega) (by omega) ?_
  have k1 : 0 ≤ mI M 55 ((154 + (5 * t)).toNat) ∧ mI M 55 ((154 + (5 * t)).toNat) ≤ 15 := ba_tc (M := M) hB0.1 (x := 154 + (5 * t)) (by omega) (by omega) (by omega)
  refine vc_iret dX12_cornerOf_12 rfl (Nat.le_of_ble_eq_true rfl) (Nat.le_of_ble_eq_true rfl) ?_
  exact ⟨_, rfl, rfl, by omega, by omega⟩

set_option maxRecDepth 4000 in
theorem sfX12_isWalker {l : Launch} {M : Mem} (hB : Box M)    : Call l mdX12_isWalker [aR 54] M (fun q N => ∃ r : Int, q = some (aI r) ∧ M = N ∧ 0 ≤ r ∧ r ≤ 1 ∧ (r = 0 ∨ 0 ≤ mI M 55 256)) := by
  have hB0 : BF fQ M M := BF.start hB
  refine Call.of [some (aR 54)] rfl (Nat.le_of_ble_eq_true rfl) rfl ?_
  refine vc_aload_n dX12_isWalker_0 rfl ?_
  refine vc_getR dX12_isWalker_1 flX12_7 (s_54 hB0.1.1) rfl (r_54_0 hB0.1.1) ?_
  refine vc_sipush dX12_isWalker_4 rfl ?_
  refine vc_iaload dX12_isWalker_7 (s_55 hB0.1.1) (by omega) (by omega) ?_
  refine vc_topI (mI M 55 256) rfl ?_
  have k1 : (-1) ≤ mI M 55 256 ∧ mI M 55 256 ≤ 15 := b55_256 (M := M) hB0.1
  refine vc_iconst dX12_isWalker_8 rfl ?_
  refine vc_icmp_eq dX12_isWalker_9 (fun h2 => ?_) (fun h2 => ?_)
  · refine vc_iconst dX12_isWalker_16 rfl ?_
    refine vc_zret dX12_isWalker_17 rfl (by first | decide | omega) (Nat.le_of_ble_eq_true rfl) (Nat.le_of_ble_eq_true rfl) ?_
    exact ⟨_, rfl, rfl, by omega, by omega, by omega⟩
  · refine vc_iconst dX12_isWalker_12 rfl ?_
    refine vc_goto dX12_isWalker_13 ?_
    refine vc_zret dX12_isWalker_17 rfl (by first | decide | omega) (Nat.le_of_ble_eq_true rfl) (Nat.le_of_ble_eq_true rfl) ?_
    exact ⟨_, rfl, rfl, by omega, by omega, by omega⟩

