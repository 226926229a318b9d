/-! CONTRACTS: small methods (written by wip/whole/p30.py) -/
def fX12_isIn (v : Int) (lo : Int) (hi : Int) : Int := if v < lo then 0 else if hi < v then 0 else 1
set_option maxRecDepth 4000 in
theorem qX12_isIn {l : Launch} {M : Mem}  (v : Int) (lo : Int) (hi : Int) : Fn l mdX12_isIn [aI v, aI lo, aI hi] M (some (aI (fX12_isIn v lo hi))) M := by
  refine Call.of [some (aI v), some (aI lo), some (aI hi)] rfl (Nat.le_of_ble_eq_true rfl) rfl ?_
  refine vc_iload_n dX12_isIn_0 rfl ?_
  refine vc_iload_n dX12_isIn_1 rfl ?_
  refine vc_icmp_lt dX12_isIn_2 (fun h1 => ?_) (fun h1 => ?_)
  · refine vc_iconst dX12_isIn_14 rfl ?_
    refine vc_zret dX12_isIn_15 rfl (by first | decide | omega) (Nat.le_of_ble_eq_true rfl) (Nat.le_of_ble_eq_true rfl) ?_
    exact ⟨by show some (aI _) = some (aI (fX12_isIn v lo hi)); rw [fX12_isIn, if_pos h1], rfl⟩
  · refine vc_iload_n dX12_isIn_5 rfl ?_
    refine vc_iload_n dX12_isIn_6 rfl ?_
    refine vc_icmp_gt dX12_isIn_7 (fun h2 => ?_) (fun h2 => ?_)
    · refine vc_iconst dX12_isIn_14 rfl ?_
      refine vc_zret dX12_isIn_15 rfl (by first | decide | omega) (Nat.le_of_ble_eq_true rfl) (Nat.le_of_ble_eq_true rfl) ?_
      exact ⟨by show some (aI _) = some (aI (fX12_isIn v lo hi)); rw [fX12_isIn, if_neg h1, if_pos h2], rfl⟩
    · refine vc_iconst dX12_isIn_10 rfl ?_
      refine vc_goto dX12_isIn_11 ?_
      refine vc_zret dX12_isIn_15 rfl (by first | decide | omega) (Nat.le_of_ble_eq_true rfl) (Nat.le_of_ble_eq_true rfl) ?_
      exact ⟨by show some (aI _) = some (aI (fX12_isIn v lo hi)); rw [fX12_isIn, if_neg h1, if_neg h2], rfl⟩
theorem bX12_isIn (v : Int) (lo : Int) (hi : Int) : fX12_isIn v lo hi = 0 ∨ fX12_isIn v lo hi = 1 := by
  unfold fX12_isIn
  repeat' split
  all_goals first | exact Or.inl rfl | exact Or.inr rfl | assumption | omega

def fX11_isDirection (d : Int) : Int := if d < 0 then 0 else if 4 ≤ d then 0 else 1
set_option maxRecDepth 4000 in
theorem qX11_isDirection {l : Launch} {M : Mem}  (d : Int) : Fn l mdX11_isDirection [aI d] M (some (aI (fX11_isDirection d))) M := by
  refine Call.of [some (aI d)] rfl (Nat.le_of_ble_eq_true rfl) rfl ?_
  refine vc_iload_n dX11_isDirection_0 rfl ?_
  refine vc_if_lt dX11_isDirection_1 (fun h1 => ?_) (fun h1 => ?_)
  · refine vc_iconst dX11_isDirection_13 rfl ?_
    refine vc_zret dX11_isDirection_14 rfl (by first | decide | omega) (Nat.le_of_ble_eq_true rfl) (Nat.le_of_ble_eq_true rfl) ?_
    exact ⟨by show some (aI _) = some (aI (fX11_isDirection d)); rw [fX11_isDirection, if_pos h1], rfl⟩
  · refine vc_iload_n dX11_isDirection_4 rfl ?_
    refine vc_iconst dX11_isDirection_5 rfl ?_
    refine vc_icmp_ge dX11_isDirection_6 (fun h2 => ?_) (fun h2 => ?_)
    · refine vc_iconst dX11_isDirection_13 rfl ?_
      refine vc_zret dX11_isDirection_14 rfl (by first | decide | omega) (Nat.le_of_ble_eq_true rfl) (Nat.le_of_ble_eq_true rfl) ?_
      exact ⟨by show some (aI _) = some (aI (fX11_isDirection d)); rw [fX11_isDirection, if_neg h1, if_pos h2], rfl⟩
    · refine vc_iconst dX11_isDirection_9 rfl ?_
      refine vc_goto dX11_isDirection_10 ?_
      refine vc_zret dX11_isDirection_14 rfl (by first | decide | omega) (Nat.le_of_ble_eq_true rfl) (Nat.le_of_ble_eq_true rfl) ?_
      exact ⟨by show some (aI _) = some (aI (fX11_isDirection d)); rw [fX11_isDirection, if_neg h1, if_neg h2], rfl⟩
theorem bX11_isDirection (d : Int) : fX11_isDirection d = 0 ∨ fX11_isDirection d = 1 := by
  unfold fX11_isDirection
  repeat' split
  all_goals first | exact Or.inl rfl | exact Or.inr rfl | assumption | omega

def fX11_isSlip (d : Int) : Int := if d < 0 then 0 else if 10 < d then 0 else 1
set_option maxRecDepth 4000 in
theorem qX11_isSlip {l : Launch} {M : Mem}  (d : Int) : Fn l mdX11_isSlip [aI d] M (some (aI (fX11_isSlip d))) M := by
  refine Call.of [some (aI d)] rfl (Nat.le_of_ble_eq_true rfl) rfl ?_
  refine vc_iload_n dX11_isSlip_0 rfl ?_
  refine vc_if_lt dX11_isSlip_1 (fun h1 => ?_) (fun h1 => ?_)
  · refine vc_iconst dX11_isSlip_14 rfl ?_
    refine vc_zret dX11_isSlip_15 rfl (by first | decide | omega) (Nat.le_of_ble_eq_true rfl) (Nat.le_of_ble_eq_true rfl) ?_
    exact ⟨by show some (aI _) = some (aI (fX11_isSlip d)); rw [fX11_isSlip, if_pos h1], rfl⟩
  · refine vc_iload_n dX11_isSlip_4 rfl ?_
    refine vc_bipush dX11_isSlip_5 rfl ?_
    refine vc_icmp_gt dX11_isSlip_7 (fun h2 => ?_) (fun h2 => ?_)
    · refine vc_iconst dX11_isSlip_14 rfl ?_
      refine vc_zret dX11_isSlip_15 rfl (by first | decide | omega) (Nat.le_of_ble_eq_true rfl) (Nat.le_of_ble_eq_true rfl) ?_
      exact ⟨by show some (aI _) = some (aI (fX11_isSlip d)); rw [fX11_isSlip, if_neg h1, if_pos h2], rfl⟩
    · refine vc_iconst dX11_isSlip_10 rfl ?_
      refine vc_goto dX11_isSlip_11 ?_
      refine vc_zret dX11_isSlip_15 rfl (by first | decide | omega) (Nat.le_of_ble_eq_true rfl) (Nat.le_of_ble_eq_true rfl) ?_
      exact ⟨by show some (aI _) = some (aI (fX11_isSlip d)); rw [fX11_isSlip, if_neg h1, if_neg h2], rfl⟩
theorem bX11_isSlip (d : Int) : fX11_isSlip d = 0 ∨ fX11_isSlip d = 1 := by
  unfold fX11_isSlip
  repeat' split
  all_goals first | exact Or.inl rfl | exact Or.inr rfl | assumption | omega

def fX1_sideOf (fa : Int) (wh : Int) : Int := if wh = 1 then (fa + 3) % 4 else if wh = 2 then (fa + 1) % 4 else fa
set_option maxRecDepth 4000 in
theorem qX1_sideOf {l : Launch} {M : Mem}  (fa : Int) (wh : Int) : Fn l mdX1_sideOf [aI fa, aI wh] M (some (aI (fX1_sideOf fa wh))) M := by
  refine Call.of [some (aI fa), some (aI wh)] rfl (Nat.le_of_ble_eq_true rfl) rfl ?_
  refine vc_iload_n dX1_sideOf_0 rfl ?_
  refine vc_iconst dX1_sideOf_1 rfl ?_
  refine vc_icmp_ne dX1_sideOf_2 (fun h1 => ?_) (fun h1 => ?_)
  · refine vc_iload_n dX1_sideOf_13 rfl ?_
    refine vc_iconst dX1_sideOf_14 rfl ?_
    refine vc_icmp_ne dX1_sideOf_15 (fun h2 => ?_) (fun h2 => ?_)
    · refine vc_iload_n dX1_sideOf_26 rfl ?_
      refine vc_iret dX1_sideOf_27 rfl (Nat.le_of_ble_eq_true rfl) (Nat.le_of_ble_eq_true rfl) ?_
      exact ⟨by show some (aI _) = some (aI (fX1_sideOf fa wh)); rw [fX1_sideOf, if_neg h1, if_neg h2], rfl⟩
    · refine vc_iload_n dX1_sideOf_18 rfl ?_
      refine vc_iconst dX1_sideOf_19 rfl ?_
      refine vc_iadd dX1_sideOf_20 ?_
      refine vc_iconst dX1_sideOf_21 rfl ?_
      refine vc_iandW dX1_sideOf_22 4 2 rfl (by decide) rfl ?_
      refine vc_goto dX1_sideOf_23 ?_
      refine vc_iret dX1_sideOf_27 rfl (Nat.le_of_ble_eq_true rfl) (Nat.le_of_ble_eq_true rfl) ?_
      exact ⟨by show some (aI _) = some (aI (fX1_sideOf fa wh)); rw [fX1_sideOf, if_neg h1, if_pos h2], rfl⟩
  · refine vc_iload_n dX1_sideOf_5 rfl ?_
    refine vc_iconst dX1_sideOf_6 rfl ?_
    refine vc_iadd dX1_sideOf_7 ?_
    refine vc_iconst dX1_sideOf_8 rfl ?_
    refine vc_iandW dX1_sideOf_9 4 2 rfl (by decide) rfl ?_
    refine vc_goto dX1_sideOf_10 ?_
    refine vc_iret dX1_sideOf_27 rfl (Nat.le_of_ble_eq_true rfl) (Nat.le_of_ble_eq_true rfl) ?_
    exact ⟨by show some (aI _) = some (aI (fX1_sideOf fa wh)); rw [fX1_sideOf, if_pos h1], rfl⟩

def fX6_hasCorner (M : Mem) (c : Int) : Int := if c < 0 then 0 else if mI M 1 6 ≤ c then 0 else 1
set_option maxRecDepth 4000 in
theorem qX6_hasCorner {l : Launch} {M : Mem} (hS : St M)  (c : Int) : Fn l mdX6_hasCorner [aR 1, aI c] M (some (aI (fX6_hasCorner M c))) M := by
  refine Call.of [some (aR 1), some (aI c)] rfl (Nat.le_of_ble_eq_true rfl) rfl ?_
  refine vc_iload_n dX6_hasCorner_0 rfl ?_
  refine vc_if_lt dX6_hasCorner_1 (fun h1 => ?_) (fun h1 => ?_)
  · refine vc_iconst dX6_hasCorner_16 rfl ?_
    refine vc_zret dX6_hasCorner_17 rfl (by first | decide | omega) (Nat.le_of_ble_eq_true rfl) (Nat.le_of_ble_eq_true rfl) ?_
    exact ⟨by show some (aI _) = some (aI (fX6_hasCorner M c)); rw [fX6_hasCorner, if_pos h1], rfl⟩
  · refine vc_iload_n dX6_hasCorner_4 rfl ?_
    refine vc_aload_n dX6_hasCorner_5 rfl ?_
    refine vc_getI dX6_hasCorner_6 flX6_52 (s_1 hS) rfl ?_
    refine vc_icmp_ge dX6_hasCorner_9 (fun h2 => ?_) (fun h2 => ?_)
    · refine vc_iconst dX6_hasCorner_16 rfl ?_
      refine vc_zret dX6_hasCorner_17 rfl (by first | decide | omega) (Nat.le_of_ble_eq_true rfl) (Nat.le_of_ble_eq_true rfl) ?_
      exact ⟨by show some (aI _) = some (aI (fX6_hasCorner M c)); rw [fX6_hasCorner, if_neg h1, if_pos h2], rfl⟩
    · refine vc_iconst dX6_hasCorner_12 rfl ?_
      refine vc_goto dX6_hasCorner_13 ?_
      refine vc_zret dX6_hasCorner_17 rfl (by first | decide | omega) (Nat.le_of_ble_eq_true rfl) (Nat.le_of_ble_eq_true rfl) ?_
      exact ⟨by show some (aI _) = some (aI (fX6_hasCorner M c)); rw [fX6_hasCorner, if_neg h1, if_neg h2], rfl⟩
theorem bX6_hasCorner (M : Mem) (c : Int) : fX6_hasCorner M c = 0 ∨ fX6_hasCorner M c = 1 := by
  unfold fX6_hasCorner
  repeat' split
  all_goals first | exact Or.inl rfl | exact Or.inr rfl | assumption | omega

def fX6_hasTeller (M : Mem) (c : Int) : Int := if c < 0 then 0 else if mI M 1 8 ≤ c then 0 else 1
set_option maxRecDepth 4000 in
theorem qX6_hasTeller {l : Launch} {M : Mem} (hS : St M)  (c : Int) : Fn l mdX6_hasTeller [aR 1, aI c] M (some (aI (fX6_hasTeller M c))) M := by
  refine Call.of [some (aR 1), some (aI c)] rfl (Nat.le_of_ble_eq_true rfl) rfl ?_
  refine vc_iload_n dX6_hasTeller_0 rfl ?_
  refine vc_if_lt dX6_hasTeller_1 (fun h1 => ?_) (fun h1 => ?_)
  · refine vc_iconst dX6_hasTeller_16 rfl ?_
    refine vc_zret dX6_hasTeller_17 rfl (by first | decide | omega) (Nat.le_of_ble_eq_true rfl) (Nat.le_of_ble_eq_true rfl) ?_
    exact ⟨by show some (aI _) = some (aI (fX6_hasTeller M c)); rw [fX6_hasTeller, if_pos h1], rfl⟩
  · refine vc_iload_n dX6_hasTeller_4 rfl ?_
    refine vc_aload_n dX6_hasTeller_5 rfl ?_
    refine vc_getI dX6_hasTeller_6 flX6_55 (s_1 hS) rfl ?_
    refine vc_icmp_ge dX6_hasTeller_9 (fun h2 => ?_) (fun h2 => ?_)
    · refine vc_iconst dX6_hasTeller_16 rfl ?_
      refine vc_zret dX6_hasTeller_17 rfl (by first | decide | omega) (Nat.le_of_ble_eq_true rfl) (Nat.le_of_ble_eq_true rfl) ?_
      exact ⟨by show some (aI _) = some (aI (fX6_hasTeller M c)); rw [fX6_hasTeller, if_neg h1, if_pos h2], rfl⟩
    · refine vc_iconst dX6_hasTeller_12 rfl ?_
      refine vc_goto dX6_hasTeller_13 ?_
      refine vc_zret dX6_hasTeller_17 rfl (by first | decide | omega) (Nat.le_of_ble_eq_true rfl) (Nat.le_of_ble_eq_true rfl) ?_
      exact ⟨by show some (aI _) = some (aI (fX6_hasTeller M c)); rw [fX6_hasTeller, if_neg h1, if_neg h2], rfl⟩
theorem bX6_hasTeller (M : Mem) (c : Int) : fX6_hasTeller M c = 0 ∨ fX6_hasTeller M c = 1 := by
  unfold fX6_hasTeller
  repeat' split
  all_goals first | exact Or.inl rfl | exact Or.inr rfl | assumption | omega

def fX6_hasTelling (M : Mem) (c : Int) : Int := if c < 0 then 0 else if mI M 1 9 ≤ c then 0 else 1
set_option maxRecDepth 4000 in
theorem qX6_hasTelling {l : Launch} {M : Mem} (hS : St M)  (c : Int) : Fn l mdX6_hasTelling [aR 1, aI c] M (some (aI (fX6_hasTelling M c))) M := by
  refine Call.of [some (aR 1), some (aI c)] rfl (Nat.le_of_ble_eq_true rfl) rfl ?_
  refine vc_iload_n dX6_hasTelling_0 rfl ?_
  refine vc_if_lt dX6_hasTelling_1 (fun h1 => ?_) (fun h1 => ?_)
  · refine vc_iconst dX6_hasTelling_16 rfl ?_
    refine vc_zret dX6_hasTelling_17 rfl (by first | decide | omega) (Nat.le_of_ble_eq_true rfl) (Nat.le_of_ble_eq_true rfl) ?_
    exact ⟨by show some (aI _) = some (aI (fX6_hasTelling M c)); rw [fX6_hasTelling, if_pos h1], rfl⟩
  · refine vc_iload_n dX6_hasTelling_4 rfl ?_
    refine vc_aload_n dX6_hasTelling_5 rfl ?_
    refine vc_getI dX6_hasTelling_6 flX6_58 (s_1 hS) rfl ?_
    refine vc_icmp_ge dX6_hasTelling_9 (fun h2 => ?_) (fun h2 => ?_)
    · refine vc_iconst dX6_hasTelling_16 rfl ?_
      refine vc_zret dX6_hasTelling_17 rfl (by first | decide | omega) (Nat.le_of_ble_eq_true rfl) (Nat.le_of_ble_eq_true rfl) ?_
      exact ⟨by show some (aI _) = some (aI (fX6_hasTelling M c)); rw [fX6_hasTelling, if_neg h1, if_pos h2], rfl⟩
    · refine vc_iconst dX6_hasTelling_12 rfl ?_
      refine vc_goto dX6_hasTelling_13 ?_
      refine vc_zret dX6_hasTelling_17 rfl (by first | decide | omega) (Nat.le_of_ble_eq_true rfl) (Nat.le_of_ble_eq_true rfl) ?_
      exact ⟨by show some (aI _) = some (aI (fX6_hasTelling M c)); rw [fX6_hasTelling, if_neg h1, if_neg h2], rfl⟩
theorem bX6_hasTelling (M : Mem) (c : Int) : fX6_hasTelling M c = 0 ∨ fX6_hasTelling M c = 1 := by
  unfold fX6_hasTelling
  repeat' split
  all_goals first | exact Or.inl rfl | exact Or.inr rfl | assumption | omega

def fX6_sightOf (M : Mem) (c : Int) : Int := if c < 0 then (-1) else if mI M 1 6 ≤ c then (-1) else mI M 2 c.toNat
set_option maxRecDepth 4000 in
theorem qX6_sightOf {l : Launch} {M : Mem} (hS : St M) (hn : 0 ≤ mI M 1 6 ∧ mI M 1 6 ≤ 16) (c : Int) : Fn l mdX6_sightOf [aR 1, aI c] M (some (aI (fX6_sightOf M c))) M := by
  refine Call.of [some (aR 1), some (aI c)] rfl (Nat.le_of_ble_eq_true rfl) rfl ?_
  refine vc_iload_n dX6_sightOf_0 rfl ?_
  refine vc_if_lt dX6_sightOf_1 (fun h1 => ?_) (fun h1 => ?_)
  · refine vc_iconst dX6_sightOf_21 rfl ?_
    refine vc_iret dX6_sightOf_22 rfl (Nat.le_of_ble_eq_true rfl) (Nat.le_of_ble_eq_true rfl) ?_
    exact ⟨by show some (aI _) = some (aI (fX6_sightOf M c)); rw [fX6_sightOf, if_pos h1], rfl⟩
  · refine vc_iload_n dX6_sightOf_4 rfl ?_
    refine vc_aload_n dX6_sightOf_5 rfl ?_
    refine vc_getI dX6_sightOf_6 flX6_52 (s_1 hS) rfl ?_
    refine vc_icmp_ge dX6_sightOf_9 (fun h2 => ?_) (fun h2 => ?_)
    · refine vc_iconst dX6_sightOf_21 rfl ?_
      refine vc_iret dX6_sightOf_22 rfl (Nat.le_of_ble_eq_true rfl) (Nat.le_of_ble_eq_true rfl) ?_
      exact ⟨by show some (aI _) = some (aI (fX6_sightOf M c)); rw [fX6_sightOf, if_neg h1, if_pos h2], rfl⟩
    · refine vc_aload_n dX6_sightOf_12 rfl ?_
      refine vc_getR dX6_sightOf_13 flX6_9 (s_1 hS) rfl (r_1_0 hS) ?_
      refine vc_iload_n dX6_sightOf_16 rfl ?_
      refine vc_iaload dX6_sightOf_17 (s_2 hS) (by omega) (by omega) ?_
      refine vc_goto dX6_sightOf_18 ?_
      refine vc_iret dX6_sightOf_22 rfl (Nat.le_of_ble_eq_true rfl) (Nat.le_of_ble_eq_true rfl) ?_
      exact ⟨by show some (aI _) = some (aI (fX6_sightOf M c)); rw [fX6_sightOf, if_neg h1, if_neg h2], rfl⟩

def fX6_ahead (M : Mem) (c : Int) (d : Int) : Int := if c < 0 then (-1) else if mI M 1 6 ≤ c then (-1) else mI M 3 (((4 * c) + (d % 4)).toNat)
set_option maxRecDepth 4000 in
theorem qX6_ahead {l : Launch} {M : Mem} (hS : St M) (hn : 0 ≤ mI M 1 6 ∧ mI M 1 6 ≤ 16) (c : Int) (d : Int) : Fn l mdX6_ahead [aR 1, aI c, aI d] M (some (aI (fX6_ahead M c d))) M := by
  refine Call.of [some (aR 1), some (aI c), some (aI d)] rfl (Nat.le_of_ble_eq_true rfl) rfl ?_
  refine vc_iload_n dX6_ahead_0 rfl ?_
  refine vc_if_lt dX6_ahead_1 (fun h1 => ?_) (fun h1 => ?_)
  · refine vc_iconst dX6_ahead_27 rfl ?_
    refine vc_iret dX6_ahead_28 rfl (Nat.le_of_ble_eq_true rfl) (Nat.le_of_ble_eq_true rfl) ?_
    exact ⟨by show some (aI _) = some (aI (fX6_ahead M c d)); rw [fX6_ahead, if_pos h1], rfl⟩
  · refine vc_iload_n dX6_ahead_4 rfl ?_
    refine vc_aload_n dX6_ahead_5 rfl ?_
    refine vc_getI dX6_ahead_6 flX6_52 (s_1 hS) rfl ?_
    refine vc_icmp_ge dX6_ahead_9 (fun h2 => ?_) (fun h2 => ?_)
    · refine vc_iconst dX6_ahead_27 rfl ?_
      refine vc_iret dX6_ahead_28 rfl (Nat.le_of_ble_eq_true rfl) (Nat.le_of_ble_eq_true rfl) ?_
      exact ⟨by show some (aI _) = some (aI (fX6_ahead M c d)); rw [fX6_ahead, if_neg h1, if_pos h2], rfl⟩
    · refine vc_aload_n dX6_ahead_12 rfl ?_
      refine vc_getR dX6_ahead_13 flX6_15 (s_1 hS) rfl (r_1_1 hS) ?_
      refine vc_iconst dX6_ahead_16 rfl ?_
      refine vc_iload_n dX6_ahead_17 rfl ?_
      refine vc_imulE dX6_ahead_18 (by omega) (by omega) ?_
      refine vc_iload_n dX6_ahead_19 rfl ?_
      refine vc_iconst dX6_ahead_20 rfl ?_
      refine vc_iandM dX6_ahead_21 4 2 rfl (by decide) rfl ?_
      refine vc_iaddE dX6_ahead_22 (by omega) (by omega) ?_
      refine vc_iaload dX6_ahead_23 (s_3 hS) (by omega) (by omega) ?_
      refine vc_goto dX6_ahead_24 ?_
      refine vc_iret dX6_ahead_28 rfl (Nat.le_of_ble_eq_true rfl) (Nat.le_of_ble_eq_true rfl) ?_
      exact ⟨by show some (aI _) = some (aI (fX6_ahead M c d)); rw [fX6_ahead, if_neg h1, if_neg h2], rfl⟩

def fX6_laneAt (M : Mem) (c : Int) (d : Int) : Int := if c < 0 then 0 else if mI M 1 6 ≤ c then 0 else mI M 4 (((4 * c) + (d % 4)).toNat)
set_option maxRecDepth 4000 in
theorem qX6_laneAt {l : Launch} {M : Mem} (hS : St M) (hn : 0 ≤ mI M 1 6 ∧ mI M 1 6 ≤ 16) (c : Int) (d : Int) : Fn l mdX6_laneAt [aR 1, aI c, aI d] M (some (aI (fX6_laneAt M c d))) M := by
  refine Call.of [some (aR 1), some (aI c), some (aI d)] rfl (Nat.le_of_ble_eq_true rfl) rfl ?_
  refine vc_iload_n dX6_laneAt_0 rfl ?_
  refine vc_if_lt dX6_laneAt_1 (fun h1 => ?_) (fun h1 => ?_)
  · refine vc_iconst dX6_laneAt_27 rfl ?_
    refine vc_iret dX6_laneAt_28 rfl (Nat.le_of_ble_eq_true rfl) (Nat.le_of_ble_eq_true rfl) ?_
    exact ⟨by show some (aI _) = some (aI (fX6_laneAt M c d)); rw [fX6_laneAt, if_pos h1], rfl⟩
  · refine vc_iload_n dX6_laneAt_4 rfl ?_
    refine vc_aload_n dX6_laneAt_5 rfl ?_
    refine vc_getI dX6_laneAt_6 flX6_52 (s_1 hS) rfl ?_
    refine vc_icmp_ge dX6_laneAt_9 (fun h2 => ?_) (fun h2 => ?_)
    · refine vc_iconst dX6_laneAt_27 rfl ?_
      refine vc_iret dX6_laneAt_28 rfl (Nat.le_of_ble_eq_true rfl) (Nat.le_of_ble_eq_true rfl) ?_
      exact ⟨by show some (aI _) = some (aI (fX6_laneAt M c d)); rw [fX6_laneAt, if_neg h1, if_pos h2], rfl⟩
    · refine vc_aload_n dX6_laneAt_12 rfl ?_
      refine vc_getR dX6_laneAt_13 flX6_18 (s_1 hS) rfl (r_1_2 hS) ?_
      refine vc_iconst dX6_laneAt_16 rfl ?_
      refine vc_iload_n dX6_laneAt_17 rfl ?_
      refine vc_imulE dX6_laneAt_18 (by omega) (by omega) ?_
      refine vc_iload_n dX6_laneAt_19 rfl ?_
      refine vc_iconst dX6_laneAt_20 rfl ?_
      refine vc_iandM dX6_laneAt_21 4 2 rfl (by decide) rfl ?_
      refine vc_iaddE dX6_laneAt_22 (by omega) (by omega) ?_
      refine vc_iaload dX6_laneAt_23 (s_4 hS) (by omega) (by omega) ?_
      refine vc_goto dX6_laneAt_24 ?_
      refine vc_iret dX6_laneAt_28 rfl (Nat.le_of_ble_eq_true rfl) (Nat.le_of_ble_eq_true rfl) ?_
      exact ⟨by show some (aI _) = some (aI (fX6_laneAt M c d)); rw [fX6_laneAt, if_neg h1, if_neg h2], rfl⟩
