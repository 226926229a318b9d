/-! THE FIRST STATE: contracts of calls on it (written by wip/whole/p40.py) -/
/-- the class: nothing told -/
def Zc (M : Mem) : Prop := mI M 1 6 = 0 ∧ mI M 1 7 = (-1) ∧ mI M 1 8 = 0 ∧ mI M 1 9 = 0 ∧ mI M 1 10 = 0 ∧ mI M 1 11 = (-1) ∧ mI M 16 0 = (-1) ∧ mI M 16 3 = 29 ∧ mI M 15 2 = 0 ∧ mI M 0 13 = 0 ∧ mI M 0 14 = (-1) ∧ mI M 0 15 = (-1) ∧ mI M 8 6 = 0
/-- the reference: nothing told -/
def Zm (M : Mem) : Prop := mI M 55 0 = 0 ∧ mI M 55 1 = (-1) ∧ mI M 55 2 = 0 ∧ mI M 55 3 = 0 ∧ mI M 55 4 = 29 ∧ mI M 55 5 = 0 ∧ mI M 55 6 = (-1) ∧ mI M 55 7 = 0 ∧ mI M 55 256 = (-1) ∧ mI M 54 6 = 0 ∧ mI M 54 7 = (-1) ∧ mI M 54 8 = (-1) ∧ mI M 56 0 = 0
theorem qX12_isIn_e {l : Launch} {M : Mem} (v lo hi : Int) (h : hi < lo) : Fn l mdX12_isIn [aI v, aI lo, aI hi] M (some (aI 0)) M := by
  have e : fX12_isIn v lo hi = 0 := by unfold fX12_isIn; split; rfl; split; rfl; omega
  have := qX12_isIn (l := l) (M := M) v lo hi
  rw [e] at this
  exact this
theorem isIn_iff (v lo hi : Int) : fX12_isIn v lo hi = 0 ↔ ¬ (lo ≤ v ∧ v ≤ hi) := by unfold fX12_isIn; split; (constructor <;> intro _ <;> first | rfl | omega); split <;> (constructor <;> intro _ <;> first | rfl | omega)
set_option maxRecDepth 4000 in
theorem qX6_hasCorner_0 {l : Launch} {M : Mem} (hS : St M) (zc : Zc M) (c : Int) : Fn l mdX6_hasCorner [aR 1, aI c] M (some (aI (0))) M := by
  obtain ⟨z1_6, z1_7, z1_8, z1_9, z1_10, z1_11, z16_0, z16_3, z15_2, z0_13, z0_14, z0_15, z8_6⟩ := id zc
  refine Call.of [some (aR 1), some (aI c)] rfl (Nat.le_of_ble_eq_true rfl) rfl ?_
  refine vc_iload_n dX6_hasCorner_0 rfl ?_
  refine vc_if_lt dX6_hasCorner_1 (fun h1 => ?_) (fun h1 => ?_)
  · refine vc_iconst dX6_hasCorner_16 rfl ?_
    refine vc_zret dX6_hasCorner_17 rfl (by first | decide | omega) (Nat.le_of_ble_eq_true rfl) (Nat.le_of_ble_eq_true rfl) ?_
    exact ⟨rfl, rfl⟩
  · refine vc_iload_n dX6_hasCorner_4 rfl ?_
    refine vc_aload_n dX6_hasCorner_5 rfl ?_
    refine vc_getI dX6_hasCorner_6 flX6_52 (s_1 hS) rfl ?_
    refine vc_topI 0 z1_6 ?_
    refine vc_icmp_ge dX6_hasCorner_9 (fun h2 => ?_) (fun h2 => by exfalso; omega)
    refine vc_iconst dX6_hasCorner_16 rfl ?_
    refine vc_zret dX6_hasCorner_17 rfl (by first | decide | omega) (Nat.le_of_ble_eq_true rfl) (Nat.le_of_ble_eq_true rfl) ?_
    exact ⟨rfl, rfl⟩

set_option maxRecDepth 4000 in
theorem qX6_hasTeller_0 {l : Launch} {M : Mem} (hS : St M) (zc : Zc M) (c : Int) : Fn l mdX6_hasTeller [aR 1, aI c] M (some (aI (0))) M := by
  obtain ⟨z1_6, z1_7, z1_8, z1_9, z1_10, z1_11, z16_0, z16_3, z15_2, z0_13, z0_14, z0_15, z8_6⟩ := id zc
  refine Call.of [some (aR 1), some (aI c)] rfl (Nat.le_of_ble_eq_true rfl) rfl ?_
  refine vc_iload_n dX6_hasTeller_0 rfl ?_
  refine vc_if_lt dX6_hasTeller_1 (fun h1 => ?_) (fun h1 => ?_)
  · refine vc_iconst dX6_hasTeller_16 rfl ?_
    refine vc_zret dX6_hasTeller_17 rfl (by first | decide | omega) (Nat.le_of_ble_eq_true rfl) (Nat.le_of_ble_eq_true rfl) ?_
    exact ⟨rfl, rfl⟩
  · refine vc_iload_n dX6_hasTeller_4 rfl ?_
    refine vc_aload_n dX6_hasTeller_5 rfl ?_
    refine vc_getI dX6_hasTeller_6 flX6_55 (s_1 hS) rfl ?_
    refine vc_topI 0 z1_8 ?_
    refine vc_icmp_ge dX6_hasTeller_9 (fun h2 => ?_) (fun h2 => by exfalso; omega)
    refine vc_iconst dX6_hasTeller_16 rfl ?_
    refine vc_zret dX6_hasTeller_17 rfl (by first | decide | omega) (Nat.le_of_ble_eq_true rfl) (Nat.le_of_ble_eq_true rfl) ?_
    exact ⟨rfl, rfl⟩

set_option maxRecDepth 4000 in
theorem qX6_hasTelling_0 {l : Launch} {M : Mem} (hS : St M) (zc : Zc M) (c : Int) : Fn l mdX6_hasTelling [aR 1, aI c] M (some (aI (0))) M := by
  obtain ⟨z1_6, z1_7, z1_8, z1_9, z1_10, z1_11, z16_0, z16_3, z15_2, z0_13, z0_14, z0_15, z8_6⟩ := id zc
  refine Call.of [some (aR 1), some (aI c)] rfl (Nat.le_of_ble_eq_true rfl) rfl ?_
  refine vc_iload_n dX6_hasTelling_0 rfl ?_
  refine vc_if_lt dX6_hasTelling_1 (fun h1 => ?_) (fun h1 => ?_)
  · refine vc_iconst dX6_hasTelling_16 rfl ?_
    refine vc_zret dX6_hasTelling_17 rfl (by first | decide | omega) (Nat.le_of_ble_eq_true rfl) (Nat.le_of_ble_eq_true rfl) ?_
    exact ⟨rfl, rfl⟩
  · refine vc_iload_n dX6_hasTelling_4 rfl ?_
    refine vc_aload_n dX6_hasTelling_5 rfl ?_
    refine vc_getI dX6_hasTelling_6 flX6_58 (s_1 hS) rfl ?_
    refine vc_topI 0 z1_9 ?_
    refine vc_icmp_ge dX6_hasTelling_9 (fun h2 => ?_) (fun h2 => by exfalso; omega)
    refine vc_iconst dX6_hasTelling_16 rfl ?_
    refine vc_zret dX6_hasTelling_17 rfl (by first | decide | omega) (Nat.le_of_ble_eq_true rfl) (Nat.le_of_ble_eq_true rfl) ?_
    exact ⟨rfl, rfl⟩

def fX6_addCorner_0 (si : Int) : Int := if si < 0 then (-1) else if 5 < si then (-1) else 0
def gX6_addCorner_0 (M : Mem) (si : Int) : Mem := if si < 0 then M else if 5 < si then M else (sI (sI M 2 0 si) 1 6 1)
set_option maxRecDepth 4000 in
theorem qX6_addCorner_0 {l : Launch} {M : Mem} (hS : St M) (zc : Zc M) (si : Int) : Fn l mdX6_addCorner [aR 1, aI si] M (some (aI (fX6_addCorner_0 si))) (gX6_addCorner_0 M si) := by
  obtain ⟨z1_6, z1_7, z1_8, z1_9, z1_10, z1_11, z16_0, z16_3, z15_2, z0_13, z0_14, z0_15, z8_6⟩ := id zc
  refine Call.of [some (aR 1), some (aI si)] rfl (Nat.le_of_ble_eq_true rfl) rfl ?_
  refine vc_iload_n dX6_addCorner_0 rfl ?_
  refine vc_if_lt dX6_addCorner_1 (fun h1 => ?_) (fun h1 => ?_)
  · refine vc_iconst dX6_addCorner_18 rfl ?_
    refine vc_iret dX6_addCorner_19 rfl (Nat.le_of_ble_eq_true rfl) (Nat.le_of_ble_eq_true rfl) ?_
    exact ⟨by show some (aI _) = some (aI (fX6_addCorner_0 si)); rw [fX6_addCorner_0, if_pos h1], by show _ = gX6_addCorner_0 M si; rw [gX6_addCorner_0, if_pos h1]⟩
  · refine vc_iload_n dX6_addCorner_4 rfl ?_
    refine vc_iconst dX6_addCorner_5 rfl ?_
    refine vc_icmp_gt dX6_addCorner_6 (fun h2 => ?_) (fun h2 => ?_)
    · refine vc_iconst dX6_addCorner_18 rfl ?_
      refine vc_iret dX6_addCorner_19 rfl (Nat.le_of_ble_eq_true rfl) (Nat.le_of_ble_eq_true rfl) ?_
      exact ⟨by show some (aI _) = some (aI (fX6_addCorner_0 si)); rw [fX6_addCorner_0, if_neg h1, if_pos h2], by show _ = gX6_addCorner_0 M si; rw [gX6_addCorner_0, if_neg h1, if_pos h2]⟩
    · refine vc_aload_n dX6_addCorner_9 rfl ?_
      refine vc_getI dX6_addCorner_10 flX6_52 (s_1 hS) rfl ?_
      refine vc_topI 0 z1_6 ?_
      refine vc_bipush dX6_addCorner_13 rfl ?_
      refine vc_icmp_lt dX6_addCorner_15 (fun h3 => ?_) (fun h3 => by exfalso; omega)
      refine vc_aload_n dX6_addCorner_20 rfl ?_
      refine vc_getR dX6_addCorner_21 flX6_9 (s_1 hS) rfl (r_1_0 hS) ?_
      refine vc_aload_n dX6_addCorner_24 rfl ?_
      refine vc_getI dX6_addCorner_25 flX6_52 (s_1 hS) rfl ?_
      refine vc_topI 0 z1_6 ?_
      refine vc_iload_n dX6_addCorner_28 rfl ?_
      refine vc_iastore dX6_addCorner_29 (s_2 hS) (by omega) (by omega) ?_
      refine vc_mem (sI M 2 0 si) rfl ?_
      refine vc_aload_n dX6_addCorner_30 rfl ?_
      refine vc_dup dX6_addCorner_31 rfl ?_
      refine vc_getI dX6_addCorner_32 flX6_52 (s_1 (St.I hS _ _ _)) rfl ?_
      refine vc_topI (mI M 1 6) rfl ?_
      refine vc_topI 0 z1_6 ?_
      refine vc_iconst dX6_addCorner_35 rfl ?_
      refine vc_iaddE dX6_addCorner_36 (by omega) (by omega) ?_
      refine vc_topI 1 rfl ?_
      refine vc_putI dX6_addCorner_37 (plX6_52 _ rfl) (s_1 (St.I hS _ _ _)) rfl ?_
      refine vc_aload_n dX6_addCorner_40 rfl ?_
      refine vc_getI dX6_addCorner_41 flX6_52 (s_1 (St.I (St.I hS _ _ _) _ _ _)) rfl ?_
      refine vc_topI (1) rfl ?_
      refine vc_iconst dX6_addCorner_44 rfl ?_
      refine vc_isubE dX6_addCorner_45 (by omega) (by omega) ?_
      refine vc_topI 0 rfl ?_
      refine vc_iret dX6_addCorner_46 rfl (Nat.le_of_ble_eq_true rfl) (Nat.le_of_ble_eq_true rfl) ?_
      exact ⟨by show some (aI _) = some (aI (fX6_addCorner_0 si)); rw [fX6_addCorner_0, if_neg h1, if_neg h2], by show _ = gX6_addCorner_0 M si; rw [gX6_addCorner_0, if_neg h1, if_neg h2]⟩
theorem tX6_addCorner_0 {M : Mem} (hS : St M) (si : Int) : St (gX6_addCorner_0 M si) := by
  unfold gX6_addCorner_0
  repeat' split
  all_goals first | exact hS | exact (St.I (St.I hS _ _ _) _ _ _)

set_option maxRecDepth 4000 in
theorem qX6_addStreet_0 {l : Launch} {M : Mem} (hS : St M) (zc : Zc M) (fr : Int) (di : Int) (to : Int) (la : Int) : Fn l mdX6_addStreet [aR 1, aI fr, aI di, aI to, aI la] M (some (aI (0))) M := by
  obtain ⟨z1_6, z1_7, z1_8, z1_9, z1_10, z1_11, z16_0, z16_3, z15_2, z0_13, z0_14, z0_15, z8_6⟩ := id zc
  refine Call.of [some (aR 1), some (aI fr), some (aI di), some (aI to), some (aI la), none, none] rfl (Nat.le_of_ble_eq_true rfl) rfl ?_
  refine vc_aload_n dX6_addStreet_0 rfl ?_
  refine vc_iload_n dX6_addStreet_1 rfl ?_
  refine vc_callVF dX6_addStreet_2 (qX6_hasCorner_0 (M := M) hS zc fr) rfl okX6_hasCorner viX6_hasCorner lkX6_77 (s_1 hS) cl_6 rfl (Nat.le_of_ble_eq_true rfl) ⟨rfl, rfl⟩ (Nat.le_of_ble_eq_true rfl) (Nat.le_of_ble_eq_true rfl) (Nat.le_of_ble_eq_true rfl) ?_
  refine vc_if_eq dX6_addStreet_5 (fun h1 => ?_) (fun h1 => by exfalso; omega)
  refine vc_iconst dX6_addStreet_28 rfl ?_
  refine vc_zret dX6_addStreet_29 rfl (by first | decide | omega) (Nat.le_of_ble_eq_true rfl) (Nat.le_of_ble_eq_true rfl) ?_
  exact ⟨rfl, rfl⟩

def fX6_setGoal_0 (c : Int) : Int := if c = (-1) then 1 else 0
def gX6_setGoal_0 (M : Mem) (c : Int) : Mem := if c = (-1) then (sI M 1 7 c) else M
set_option maxRecDepth 4000 in
theorem qX6_setGoal_0 {l : Launch} {M : Mem} (hS : St M) (zc : Zc M) (c : Int) : Fn l mdX6_setGoal [aR 1, aI c] M (some (aI (fX6_setGoal_0 c))) (gX6_setGoal_0 M c) := by
  obtain ⟨z1_6, z1_7, z1_8, z1_9, z1_10, z1_11, z16_0, z16_3, z15_2, z0_13, z0_14, z0_15, z8_6⟩ := id zc
  refine Call.of [some (aR 1), some (aI c)] rfl (Nat.le_of_ble_eq_true rfl) rfl ?_
  refine vc_iload_n dX6_setGoal_0 rfl ?_
  refine vc_iconst dX6_setGoal_1 rfl ?_
  refine vc_icmp_eq dX6_setGoal_2 (fun h1 => ?_) (fun h1 => ?_)
  · refine vc_aload_n dX6_setGoal_15 rfl ?_
    refine vc_iload_n dX6_setGoal_16 rfl ?_
    refine vc_putI dX6_setGoal_17 (plX6_39 _ rfl) (s_1 hS) rfl ?_
    refine vc_iconst dX6_setGoal_20 rfl ?_
    refine vc_zret dX6_setGoal_21 rfl (by first | decide | omega) (Nat.le_of_ble_eq_true rfl) (Nat.le_of_ble_eq_true rfl) ?_
    exact ⟨by show some (aI _) = some (aI (fX6_setGoal_0 c)); rw [fX6_setGoal_0, if_pos h1], by show _ = gX6_setGoal_0 M c; rw [gX6_setGoal_0, if_pos h1]⟩
  · refine vc_aload_n dX6_setGoal_5 rfl ?_
    refine vc_iload_n dX6_setGoal_6 rfl ?_
    refine vc_callVF dX6_setGoal_7 (qX6_hasCorner_0 (M := M) hS zc c) rfl okX6_hasCorner viX6_hasCorner lkX6_77 (s_1 hS) cl_6 rfl (Nat.le_of_ble_eq_true rfl) ⟨rfl, rfl⟩ (Nat.le_of_ble_eq_true rfl) (Nat.le_of_ble_eq_true rfl) (Nat.le_of_ble_eq_true rfl) ?_
    refine vc_if_ne dX6_setGoal_10 (fun h2 => by exfalso; omega) (fun h2 => ?_)
    refine vc_iconst dX6_setGoal_13 rfl ?_
    refine vc_zret dX6_setGoal_14 rfl (by first | decide | omega) (Nat.le_of_ble_eq_true rfl) (Nat.le_of_ble_eq_true rfl) ?_
    exact ⟨by show some (aI _) = some (aI (fX6_setGoal_0 c)); rw [fX6_setGoal_0, if_neg h1], by show _ = gX6_setGoal_0 M c; rw [gX6_setGoal_0, if_neg h1]⟩
theorem tX6_setGoal_0 {M : Mem} (hS : St M) (c : Int) : St (gX6_setGoal_0 M c) := by
  unfold gX6_setGoal_0
  repeat' split
  all_goals first | exact (St.I hS _ _ _) | exact hS
theorem bX6_setGoal_0 (c : Int) : fX6_setGoal_0 c = 0 ∨ fX6_setGoal_0 c = 1 := by
  unfold fX6_setGoal_0
  repeat' split
  all_goals first | exact Or.inl rfl | exact Or.inr rfl | assumption | omega

set_option maxRecDepth 4000 in
theorem qX6_addTeller_0 {l : Launch} {M : Mem} (hS : St M) (zc : Zc M) (c : Int) (sw : Int) (le : Int) (mi : Int) : Fn l mdX6_addTeller [aR 1, aI c, aI sw, aI le, aI mi] M (some (aI ((-1)))) M := by
  obtain ⟨z1_6, z1_7, z1_8, z1_9, z1_10, z1_11, z16_0, z16_3, z15_2, z0_13, z0_14, z0_15, z8_6⟩ := id zc
  refine Call.of [some (aR 1), some (aI c), some (aI sw), some (aI le), some (aI mi), none] rfl (Nat.le_of_ble_eq_true rfl) rfl ?_
  refine vc_aload_n dX6_addTeller_0 rfl ?_
  refine vc_iload_n dX6_addTeller_1 rfl ?_
  refine vc_callVF dX6_addTeller_2 (qX6_hasCorner_0 (M := M) hS zc c) rfl okX6_hasCorner viX6_hasCorner lkX6_77 (s_1 hS) cl_6 rfl (Nat.le_of_ble_eq_true rfl) ⟨rfl, rfl⟩ (Nat.le_of_ble_eq_true rfl) (Nat.le_of_ble_eq_true rfl) (Nat.le_of_ble_eq_true rfl) ?_
  refine vc_if_eq dX6_addTeller_5 (fun h1 => ?_) (fun h1 => by exfalso; omega)
  refine vc_iconst dX6_addTeller_30 rfl ?_
  refine vc_iret dX6_addTeller_31 rfl (Nat.le_of_ble_eq_true rfl) (Nat.le_of_ble_eq_true rfl) ?_
  exact ⟨rfl, rfl⟩

set_option maxRecDepth 4000 in
theorem qX6_addTelling_0 {l : Launch} {M : Mem} (hS : St M) (zc : Zc M) (te : Int) (fa : Int) (fi : Int) (mo : Int) : Fn l mdX6_addTelling [aR 1, aI te, aI fa, aI fi, aI mo] M (some (aI ((-1)))) M := by
  obtain ⟨z1_6, z1_7, z1_8, z1_9, z1_10, z1_11, z16_0, z16_3, z15_2, z0_13, z0_14, z0_15, z8_6⟩ := id zc
  refine Call.of [some (aR 1), some (aI te), some (aI fa), some (aI fi), some (aI mo), none, none, none] rfl (Nat.le_of_ble_eq_true rfl) rfl ?_
  refine vc_aload_n dX6_addTelling_0 rfl ?_
  refine vc_iload_n dX6_addTelling_1 rfl ?_
  refine vc_callVF dX6_addTelling_2 (qX6_hasTeller_0 (M := M) hS zc te) rfl okX6_hasTeller viX6_hasTeller lkX6_87 (s_1 hS) cl_6 rfl (Nat.le_of_ble_eq_true rfl) ⟨rfl, rfl⟩ (Nat.le_of_ble_eq_true rfl) (Nat.le_of_ble_eq_true rfl) (Nat.le_of_ble_eq_true rfl) ?_
  refine vc_if_eq dX6_addTelling_5 (fun h1 => ?_) (fun h1 => by exfalso; omega)
  refine vc_iconst dX6_addTelling_24 rfl ?_
  refine vc_iret dX6_addTelling_25 rfl (Nat.le_of_ble_eq_true rfl) (Nat.le_of_ble_eq_true rfl) ?_
  exact ⟨rfl, rfl⟩

set_option maxRecDepth 4000 in
theorem qX6_isSet_0 {l : Launch} {M : Mem} (hS : St M) (zc : Zc M) (se : Int) (mo : Int) : Fn l mdX6_isSet [aR 1, aI se, aI mo] M (some (aI (0))) M := by
  obtain ⟨z1_6, z1_7, z1_8, z1_9, z1_10, z1_11, z16_0, z16_3, z15_2, z0_13, z0_14, z0_15, z8_6⟩ := id zc
  refine Call.of [some (aR 1), some (aI se), some (aI mo)] rfl (Nat.le_of_ble_eq_true rfl) rfl ?_
  refine vc_iload_n dX6_isSet_0 rfl ?_
  refine vc_if_le dX6_isSet_1 (fun h1 => ?_) (fun h1 => ?_)
  · refine vc_iconst dX6_isSet_26 rfl ?_
    refine vc_zret dX6_isSet_27 rfl (by first | decide | omega) (Nat.le_of_ble_eq_true rfl) (Nat.le_of_ble_eq_true rfl) ?_
    exact ⟨rfl, rfl⟩
  · refine vc_iload_n dX6_isSet_4 rfl ?_
    refine vc_iconst dX6_isSet_5 rfl ?_
    refine vc_aload_n dX6_isSet_6 rfl ?_
    refine vc_getI dX6_isSet_7 flX6_58 (s_1 hS) rfl ?_
    refine vc_topI 0 z1_9 ?_
    refine vc_ishlC dX6_isSet_10 1 0 rfl (by decide) rfl (by omega) (by omega) ?_
    refine vc_topI 1 rfl ?_
    refine vc_icmp_ge dX6_isSet_11 (fun h2 => ?_) (fun h2 => by exfalso; omega)
    refine vc_iconst dX6_isSet_26 rfl ?_
    refine vc_zret dX6_isSet_27 rfl (by first | decide | omega) (Nat.le_of_ble_eq_true rfl) (Nat.le_of_ble_eq_true rfl) ?_
    exact ⟨rfl, rfl⟩

set_option maxRecDepth 4000 in
theorem qX6_textOf_0 {l : Launch} {M : Mem} (hS : St M) (zc : Zc M) (te : Int) : Fn l mdX6_textOf [aR 1, aI te] M (some aN) M := by
  obtain ⟨z1_6, z1_7, z1_8, z1_9, z1_10, z1_11, z16_0, z16_3, z15_2, z0_13, z0_14, z0_15, z8_6⟩ := id zc
  refine Call.of [some (aR 1), some (aI te)] rfl (Nat.le_of_ble_eq_true rfl) rfl ?_
  refine vc_iload_n dX6_textOf_0 rfl ?_
  refine vc_if_lt dX6_textOf_1 (fun h1 => ?_) (fun h1 => ?_)
  · refine vc_null dX6_textOf_21 ?_
    refine vc_aret dX6_textOf_22 rfl (Nat.le_of_ble_eq_true rfl) (Nat.le_of_ble_eq_true rfl) ?_
    exact ⟨rfl, rfl⟩
  · refine vc_iload_n dX6_textOf_4 rfl ?_
    refine vc_aload_n dX6_textOf_5 rfl ?_
    refine vc_getI dX6_textOf_6 flX6_61 (s_1 hS) rfl ?_
    refine vc_topI 0 z1_10 ?_
    refine vc_icmp_ge dX6_textOf_9 (fun h2 => ?_) (fun h2 => by exfalso; omega)
    refine vc_null dX6_textOf_21 ?_
    refine vc_aret dX6_textOf_22 rfl (Nat.le_of_ble_eq_true rfl) (Nat.le_of_ble_eq_true rfl) ?_
    exact ⟨rfl, rfl⟩

set_option maxRecDepth 4000 in
theorem qX10_listCorners_0 {l : Launch} {M : Mem} (hS : St M) (zc : Zc M)  : Fn l mdX10_listCorners [aR 35] M none M := by
  obtain ⟨z1_6, z1_7, z1_8, z1_9, z1_10, z1_11, z16_0, z16_3, z15_2, z0_13, z0_14, z0_15, z8_6⟩ := id zc
  refine Call.of [some (aR 35), none, none] rfl (Nat.le_of_ble_eq_true rfl) rfl ?_
  refine vc_iconst dX10_listCorners_0 rfl ?_
  refine vc_istore_n dX10_listCorners_1 (by decide) rfl (show _ = [some (aR 35), some (aI 0), none] from rfl) ?_
  refine vc_iload_n dX10_listCorners_2 rfl ?_
  refine vc_aload_n dX10_listCorners_3 rfl ?_
  refine vc_getR dX10_listCorners_4 flX10_9 (s_35 hS) rfl (r_35_0 hS) ?_
  refine vc_getI dX10_listCorners_7 flX10_70 (s_1 hS) rfl ?_
  refine vc_topI 0 z1_9 ?_
  refine vc_icmp_ge dX10_listCorners_10 (fun h1 => ?_) (fun h1 => by exfalso; omega)
  refine vc_vret dX10_listCorners_72 rfl (Nat.le_of_ble_eq_true rfl) (Nat.le_of_ble_eq_true rfl) ?_
  exact ⟨rfl, rfl⟩

set_option maxRecDepth 4000 in
theorem qX9_isThere_0 {l : Launch} {M : Mem} (hS : St M) (zc : Zc M)  : Fn l mdX9_isThere [aR 34] M (some (aI (0))) M := by
  obtain ⟨z1_6, z1_7, z1_8, z1_9, z1_10, z1_11, z16_0, z16_3, z15_2, z0_13, z0_14, z0_15, z8_6⟩ := id zc
  refine Call.of [some (aR 34)] rfl (Nat.le_of_ble_eq_true rfl) rfl ?_
  refine vc_aload_n dX9_isThere_0 rfl ?_
  refine vc_getR dX9_isThere_1 flX9_15 (s_34 hS) rfl (r_34_1 hS) ?_
  refine vc_getR dX9_isThere_4 flX9_27 (s_15 hS) rfl (r_15_0 hS) ?_
  refine vc_iconst dX9_isThere_7 rfl ?_
  refine vc_iaload dX9_isThere_8 (s_16 hS) (by omega) (by omega) ?_
  refine vc_topI (mI M 16 0) rfl ?_
  refine vc_topI (-1) z16_0 ?_
  refine vc_iconst dX9_isThere_9 rfl ?_
  refine vc_icmp_eq dX9_isThere_10 (fun h1 => ?_) (fun h1 => by exfalso; omega)
  refine vc_iconst dX9_isThere_17 rfl ?_
  refine vc_zret dX9_isThere_18 rfl (by first | decide | omega) (Nat.le_of_ble_eq_true rfl) (Nat.le_of_ble_eq_true rfl) ?_
  exact ⟨rfl, rfl⟩

set_option maxRecDepth 4000 in
theorem qX9_canGo_0 {l : Launch} {M : Mem} (hS : St M) (zc : Zc M) (n : Int) : Fn l mdX9_canGo [aR 34, aI n] M (some (aI (0))) M := by
  obtain ⟨z1_6, z1_7, z1_8, z1_9, z1_10, z1_11, z16_0, z16_3, z15_2, z0_13, z0_14, z0_15, z8_6⟩ := id zc
  refine Call.of [some (aR 34), some (aI n), none, none] rfl (Nat.le_of_ble_eq_true rfl) rfl ?_
  refine vc_aload_n dX9_canGo_0 rfl ?_
  refine vc_getR dX9_canGo_1 flX9_15 (s_34 hS) rfl (r_34_1 hS) ?_
  refine vc_getR dX9_canGo_4 flX9_27 (s_15 hS) rfl (r_15_0 hS) ?_
  refine vc_iconst dX9_canGo_7 rfl ?_
  refine vc_iaload dX9_canGo_8 (s_16 hS) (by omega) (by omega) ?_
  refine vc_topI (mI M 16 0) rfl ?_
  refine vc_topI (-1) z16_0 ?_
  refine vc_istore_n dX9_canGo_9 (by decide) rfl (show _ = [some (aR 34), some (aI n), some (aI (-1)), none] from rfl) ?_
  refine vc_iconst dX9_canGo_10 rfl ?_
  refine vc_istore_n dX9_canGo_11 (by decide) rfl (show _ = [some (aR 34), some (aI n), some (aI (-1)), some (aI 0)] from rfl) ?_
  refine vc_iload_n dX9_canGo_12 rfl ?_
  refine vc_iload_n dX9_canGo_13 rfl ?_
  refine vc_icmp_ge dX9_canGo_14 (fun h1 => ?_) (fun h1 => ?_)
  · refine vc_iload_n dX9_canGo_46 rfl ?_
    refine vc_iconst dX9_canGo_47 rfl ?_
    refine vc_icmp_eq dX9_canGo_48 (fun h2 => ?_) (fun h2 => by exfalso; omega)
    refine vc_iconst dX9_canGo_55 rfl ?_
    refine vc_zret dX9_canGo_56 rfl (by first | decide | omega) (Nat.le_of_ble_eq_true rfl) (Nat.le_of_ble_eq_true rfl) ?_
    exact ⟨rfl, rfl⟩
  · refine vc_iload_n dX9_canGo_17 rfl ?_
    refine vc_iconst dX9_canGo_18 rfl ?_
    refine vc_icmp_eq dX9_canGo_19 (fun h3 => ?_) (fun h3 => by exfalso; omega)
    refine vc_iload_n dX9_canGo_46 rfl ?_
    refine vc_iconst dX9_canGo_47 rfl ?_
    refine vc_icmp_eq dX9_canGo_48 (fun h4 => ?_) (fun h4 => by exfalso; omega)
    refine vc_iconst dX9_canGo_55 rfl ?_
    refine vc_zret dX9_canGo_56 rfl (by first | decide | omega) (Nat.le_of_ble_eq_true rfl) (Nat.le_of_ble_eq_true rfl) ?_
    exact ⟨rfl, rfl⟩

set_option maxRecDepth 4000 in
theorem qX9_begins_0 {l : Launch} {M : Mem} (hS : St M) (zc : Zc M) (c : Int) (fa : Int) : Fn l mdX9_begins [aR 34, aI c, aI fa] M (some (aI (0))) M := by
  obtain ⟨z1_6, z1_7, z1_8, z1_9, z1_10, z1_11, z16_0, z16_3, z15_2, z0_13, z0_14, z0_15, z8_6⟩ := id zc
  refine Call.of [some (aR 34), some (aI c), some (aI fa)] rfl (Nat.le_of_ble_eq_true rfl) rfl ?_
  refine vc_aload_n dX9_begins_0 rfl ?_
  refine vc_getR dX9_begins_1 flX9_9 (s_34 hS) rfl (r_34_0 hS) ?_
  refine vc_iload_n dX9_begins_4 rfl ?_
  refine vc_callVF dX9_begins_5 (qX6_hasCorner_0 (M := M) hS zc c) rfl okX6_hasCorner viX6_hasCorner lkX9_33 (s_1 hS) cl_6 rfl (Nat.le_of_ble_eq_true rfl) ⟨rfl, rfl⟩ (Nat.le_of_ble_eq_true rfl) (Nat.le_of_ble_eq_true rfl) (Nat.le_of_ble_eq_true rfl) ?_
  refine vc_if_eq dX9_begins_8 (fun h1 => ?_) (fun h1 => by exfalso; omega)
  refine vc_iconst dX9_begins_18 rfl ?_
  refine vc_zret dX9_begins_19 rfl (by first | decide | omega) (Nat.le_of_ble_eq_true rfl) (Nat.le_of_ble_eq_true rfl) ?_
  exact ⟨rfl, rfl⟩

set_option maxRecDepth 4000 in
theorem qX9_turns_0 {l : Launch} {M : Mem} (hS : St M) (zc : Zc M) (si : Int) : Fn l mdX9_turns [aR 34, aI si] M (some (aI ((-1)))) M := by
  obtain ⟨z1_6, z1_7, z1_8, z1_9, z1_10, z1_11, z16_0, z16_3, z15_2, z0_13, z0_14, z0_15, z8_6⟩ := id zc
  refine Call.of [some (aR 34), some (aI si)] rfl (Nat.le_of_ble_eq_true rfl) rfl ?_
  refine vc_aload_n dX9_turns_0 rfl ?_
  refine vc_callVF dX9_turns_1 (qX9_isThere_0 (M := M) hS zc ) rfl okX9_isThere viX9_isThere lkX9_64 (s_34 hS) cl_9 rfl (Nat.le_of_ble_eq_true rfl) ⟨rfl, rfl⟩ (Nat.le_of_ble_eq_true rfl) (Nat.le_of_ble_eq_true rfl) (Nat.le_of_ble_eq_true rfl) ?_
  refine vc_if_eq dX9_turns_4 (fun h1 => ?_) (fun h1 => by exfalso; omega)
  refine vc_iconst dX9_turns_17 rfl ?_
  refine vc_iret dX9_turns_18 rfl (Nat.le_of_ble_eq_true rfl) (Nat.le_of_ble_eq_true rfl) ?_
  exact ⟨rfl, rfl⟩

set_option maxRecDepth 4000 in
theorem qX9_asks_0 {l : Launch} {M : Mem} (hS : St M) (zc : Zc M) (te : Int) : Fn l mdX9_asks [aR 34, aI te] M (some (aI ((-1)))) M := by
  obtain ⟨z1_6, z1_7, z1_8, z1_9, z1_10, z1_11, z16_0, z16_3, z15_2, z0_13, z0_14, z0_15, z8_6⟩ := id zc
  refine Call.of [some (aR 34), some (aI te)] rfl (Nat.le_of_ble_eq_true rfl) rfl ?_
  refine vc_aload_n dX9_asks_0 rfl ?_
  refine vc_callVF dX9_asks_1 (qX9_isThere_0 (M := M) hS zc ) rfl okX9_isThere viX9_isThere lkX9_64 (s_34 hS) cl_9 rfl (Nat.le_of_ble_eq_true rfl) ⟨rfl, rfl⟩ (Nat.le_of_ble_eq_true rfl) (Nat.le_of_ble_eq_true rfl) (Nat.le_of_ble_eq_true rfl) ?_
  refine vc_if_eq dX9_asks_4 (fun h1 => ?_) (fun h1 => by exfalso; omega)
  refine vc_iconst dX9_asks_39 rfl ?_
  refine vc_iret dX9_asks_40 rfl (Nat.le_of_ble_eq_true rfl) (Nat.le_of_ble_eq_true rfl) ?_
  exact ⟨rfl, rfl⟩

set_option maxRecDepth 4000 in
theorem qX9_follows_0 {l : Launch} {M : Mem} (hS : St M) (zc : Zc M) (te : Int) : Fn l mdX9_follows [aR 34, aI te] M (some (aI ((-1)))) M := by
  obtain ⟨z1_6, z1_7, z1_8, z1_9, z1_10, z1_11, z16_0, z16_3, z15_2, z0_13, z0_14, z0_15, z8_6⟩ := id zc
  refine Call.of [some (aR 34), some (aI te), none, none, none] rfl (Nat.le_of_ble_eq_true rfl) rfl ?_
  refine vc_aload_n dX9_follows_0 rfl ?_
  refine vc_callVF dX9_follows_1 (qX9_isThere_0 (M := M) hS zc ) rfl okX9_isThere viX9_isThere lkX9_64 (s_34 hS) cl_9 rfl (Nat.le_of_ble_eq_true rfl) ⟨rfl, rfl⟩ (Nat.le_of_ble_eq_true rfl) (Nat.le_of_ble_eq_true rfl) (Nat.le_of_ble_eq_true rfl) ?_
  refine vc_if_eq dX9_follows_4 (fun h1 => ?_) (fun h1 => by exfalso; omega)
  refine vc_iconst dX9_follows_18 rfl ?_
  refine vc_iret dX9_follows_19 rfl (Nat.le_of_ble_eq_true rfl) (Nat.le_of_ble_eq_true rfl) ?_
  exact ⟨rfl, rfl⟩

set_option maxRecDepth 4000 in
theorem qX9_spendsDay_0 {l : Launch} {M : Mem} (hS : St M) (zc : Zc M) (se : Int) (n : Int) : Fn l mdX9_spendsDay [aR 34, aI se, aI n] M (some (aI ((-1)))) M := by
  obtain ⟨z1_6, z1_7, z1_8, z1_9, z1_10, z1_11, z16_0, z16_3, z15_2, z0_13, z0_14, z0_15, z8_6⟩ := id zc
  refine Call.of [some (aR 34), some (aI se), some (aI n), none, none] rfl (Nat.le_of_ble_eq_true rfl) rfl ?_
  refine vc_iload_n dX9_spendsDay_0 rfl ?_
  refine vc_if_lt dX9_spendsDay_1 (fun h1 => ?_) (fun h1 => ?_)
  · refine vc_iconst dX9_spendsDay_32 rfl ?_
    refine vc_iret dX9_spendsDay_33 rfl (Nat.le_of_ble_eq_true rfl) (Nat.le_of_ble_eq_true rfl) ?_
    exact ⟨rfl, rfl⟩
  · refine vc_iload_n dX9_spendsDay_4 rfl ?_
    refine vc_sipush dX9_spendsDay_5 rfl ?_
    refine vc_icmp_gt dX9_spendsDay_8 (fun h2 => ?_) (fun h2 => ?_)
    · refine vc_iconst dX9_spendsDay_32 rfl ?_
      refine vc_iret dX9_spendsDay_33 rfl (Nat.le_of_ble_eq_true rfl) (Nat.le_of_ble_eq_true rfl) ?_
      exact ⟨rfl, rfl⟩
    · refine vc_iload_n dX9_spendsDay_11 rfl ?_
      refine vc_iconst dX9_spendsDay_12 rfl ?_
      refine vc_icmp_lt dX9_spendsDay_13 (fun h3 => ?_) (fun h3 => ?_)
      · refine vc_iconst dX9_spendsDay_32 rfl ?_
        refine vc_iret dX9_spendsDay_33 rfl (Nat.le_of_ble_eq_true rfl) (Nat.le_of_ble_eq_true rfl) ?_
        exact ⟨rfl, rfl⟩
      · refine vc_iload_n dX9_spendsDay_16 rfl ?_
        refine vc_bipush dX9_spendsDay_17 rfl ?_
        refine vc_icmp_gt dX9_spendsDay_19 (fun h4 => ?_) (fun h4 => ?_)
        · refine vc_iconst dX9_spendsDay_32 rfl ?_
          refine vc_iret dX9_spendsDay_33 rfl (Nat.le_of_ble_eq_true rfl) (Nat.le_of_ble_eq_true rfl) ?_
          exact ⟨rfl, rfl⟩
        · refine vc_aload_n dX9_spendsDay_22 rfl ?_
          refine vc_getR dX9_spendsDay_23 flX9_9 (s_34 hS) rfl (r_34_0 hS) ?_
          refine vc_getI dX9_spendsDay_26 flX9_114 (s_1 hS) rfl ?_
          refine vc_topI 0 z1_6 ?_
          refine vc_if_ne dX9_spendsDay_29 (fun h5 => by exfalso; omega) (fun h5 => ?_)
          refine vc_iconst dX9_spendsDay_32 rfl ?_
          refine vc_iret dX9_spendsDay_33 rfl (Nat.le_of_ble_eq_true rfl) (Nat.le_of_ble_eq_true rfl) ?_
          exact ⟨rfl, rfl⟩

set_option maxRecDepth 4000 in
theorem qX8_takeBack_0 {l : Launch} {M : Mem} (hS : St M) (zc : Zc M)  : Fn l mdX8_takeBack [aR 15] M (some (aI ((-1)))) M := by
  obtain ⟨z1_6, z1_7, z1_8, z1_9, z1_10, z1_11, z16_0, z16_3, z15_2, z0_13, z0_14, z0_15, z8_6⟩ := id zc
  refine Call.of [some (aR 15)] rfl (Nat.le_of_ble_eq_true rfl) rfl ?_
  refine vc_aload_n dX8_takeBack_0 rfl ?_
  refine vc_getI dX8_takeBack_1 flX8_24 (s_15 hS) rfl ?_
  refine vc_topI 0 z15_2 ?_
  refine vc_if_ne dX8_takeBack_4 (fun h1 => by exfalso; omega) (fun h1 => ?_)
  refine vc_iconst dX8_takeBack_7 rfl ?_
  refine vc_iret dX8_takeBack_8 rfl (Nat.le_of_ble_eq_true rfl) (Nat.le_of_ble_eq_true rfl) ?_
  exact ⟨rfl, rfl⟩

def fX11_corner_0 (si : Int) : Int := fX6_addCorner_0 si
def gX11_corner_0 (M : Mem) (si : Int) : Mem := (gX6_addCorner_0 M si)
set_option maxRecDepth 4000 in
theorem qX11_corner_0 {l : Launch} {M : Mem} (hS : St M) (zc : Zc M) (si : Int) : Fn l mdX11_corner [aR 0, aI si] M (some (aI (fX11_corner_0 si))) (gX11_corner_0 M si) := by
  obtain ⟨z1_6, z1_7, z1_8, z1_9, z1_10, z1_11, z16_0, z16_3, z15_2, z0_13, z0_14, z0_15, z8_6⟩ := id zc
  refine Call.of [some (aR 0), some (aI si)] rfl (Nat.le_of_ble_eq_true rfl) rfl ?_
  refine vc_aload_n dX11_corner_0 rfl ?_
  refine vc_getR dX11_corner_1 flX11_10 (s_0 hS) rfl (r_0_0 hS) ?_
  refine vc_iload_n dX11_corner_4 rfl ?_
  refine vc_callVF dX11_corner_5 (qX6_addCorner_0 (M := M) hS zc si) rfl okX6_addCorner viX6_addCorner lkX11_113 (s_1 hS) cl_6 rfl (Nat.le_of_ble_eq_true rfl) ⟨rfl, rfl⟩ (Nat.le_of_ble_eq_true rfl) (Nat.le_of_ble_eq_true rfl) (Nat.le_of_ble_eq_true rfl) ?_
  refine vc_iret dX11_corner_8 rfl (Nat.le_of_ble_eq_true rfl) (Nat.le_of_ble_eq_true rfl) ?_
  exact ⟨rfl, rfl⟩
theorem tX11_corner_0 {M : Mem} (hS : St M) (si : Int) : St (gX11_corner_0 M si) := by
  unfold gX11_corner_0
  all_goals first | exact (tX6_addCorner_0 hS si)

set_option maxRecDepth 4000 in
theorem qX11_street_0 {l : Launch} {M : Mem} (hS : St M) (zc : Zc M) (fr : Int) (di : Int) (to : Int) (la : Int) : Fn l mdX11_street [aR 0, aI fr, aI di, aI to, aI la] M (some (aI (0))) M := by
  obtain ⟨z1_6, z1_7, z1_8, z1_9, z1_10, z1_11, z16_0, z16_3, z15_2, z0_13, z0_14, z0_15, z8_6⟩ := id zc
  refine Call.of [some (aR 0), some (aI fr), some (aI di), some (aI to), some (aI la)] rfl (Nat.le_of_ble_eq_true rfl) rfl ?_
  refine vc_aload_n dX11_street_0 rfl ?_
  refine vc_getR dX11_street_1 flX11_10 (s_0 hS) rfl (r_0_0 hS) ?_
  refine vc_iload_n dX11_street_4 rfl ?_
  refine vc_iload_n dX11_street_5 rfl ?_
  refine vc_iload_n dX11_street_6 rfl ?_
  refine vc_iload dX11_street_7 rfl ?_
  refine vc_if_eq dX11_street_9 (fun h1 => ?_) (fun h1 => ?_)
  · refine vc_iconst dX11_street_16 rfl ?_
    refine vc_callVF dX11_street_17 (qX6_addStreet_0 (M := M) hS zc fr di to 0) rfl okX6_addStreet viX6_addStreet lkX11_117 (s_1 hS) cl_6 rfl (Nat.le_of_ble_eq_true rfl) ⟨rfl, rfl⟩ (Nat.le_of_ble_eq_true rfl) (Nat.le_of_ble_eq_true rfl) (Nat.le_of_ble_eq_true rfl) ?_
    refine vc_zret dX11_street_20 rfl (by first | decide | omega) (Nat.le_of_ble_eq_true rfl) (Nat.le_of_ble_eq_true rfl) ?_
    exact ⟨rfl, rfl⟩
  · refine vc_iconst dX11_street_12 rfl ?_
    refine vc_goto dX11_street_13 ?_
    refine vc_callVF dX11_street_17 (qX6_addStreet_0 (M := M) hS zc fr di to 1) rfl okX6_addStreet viX6_addStreet lkX11_117 (s_1 hS) cl_6 rfl (Nat.le_of_ble_eq_true rfl) ⟨rfl, rfl⟩ (Nat.le_of_ble_eq_true rfl) (Nat.le_of_ble_eq_true rfl) (Nat.le_of_ble_eq_true rfl) ?_
    refine vc_zret dX11_street_20 rfl (by first | decide | omega) (Nat.le_of_ble_eq_true rfl) (Nat.le_of_ble_eq_true rfl) ?_
    exact ⟨rfl, rfl⟩

def fX11_goal_0 (c : Int) : Int := fX6_setGoal_0 c
def gX11_goal_0 (M : Mem) (c : Int) : Mem := (gX6_setGoal_0 M c)
set_option maxRecDepth 4000 in
theorem qX11_goal_0 {l : Launch} {M : Mem} (hS : St M) (zc : Zc M) (c : Int) : Fn l mdX11_goal [aR 0, aI c] M (some (aI (fX11_goal_0 c))) (gX11_goal_0 M c) := by
  obtain ⟨z1_6, z1_7, z1_8, z1_9, z1_10, z1_11, z16_0, z16_3, z15_2, z0_13, z0_14, z0_15, z8_6⟩ := id zc
  refine Call.of [some (aR 0), some (aI c)] rfl (Nat.le_of_ble_eq_true rfl) rfl ?_
  refine vc_aload_n dX11_goal_0 rfl ?_
  refine vc_getR dX11_goal_1 flX11_10 (s_0 hS) rfl (r_0_0 hS) ?_
  refine vc_iload_n dX11_goal_4 rfl ?_
  refine vc_callVF dX11_goal_5 (qX6_setGoal_0 (M := M) hS zc c) rfl okX6_setGoal viX6_setGoal lkX11_121 (s_1 hS) cl_6 rfl (Nat.le_of_ble_eq_true rfl) ⟨rfl, rfl⟩ (Nat.le_of_ble_eq_true rfl) (Nat.le_of_ble_eq_true rfl) (Nat.le_of_ble_eq_true rfl) ?_
  refine vc_zret dX11_goal_8 rfl (bX6_setGoal_0 c) (Nat.le_of_ble_eq_true rfl) (Nat.le_of_ble_eq_true rfl) ?_
  exact ⟨rfl, rfl⟩
theorem tX11_goal_0 {M : Mem} (hS : St M) (c : Int) : St (gX11_goal_0 M c) := by
  unfold gX11_goal_0
  all_goals first | exact (tX6_setGoal_0 hS c)
theorem bX11_goal_0 (c : Int) : fX11_goal_0 c = 0 ∨ fX11_goal_0 c = 1 := by
  unfold fX11_goal_0
  all_goals first | exact Or.inl rfl | exact Or.inr rfl | assumption | exact (bX6_setGoal_0 c) | omega

set_option maxRecDepth 4000 in
theorem qX11_teller_0 {l : Launch} {M : Mem} (hS : St M) (zc : Zc M) (c : Int) (sw : Int) (le : Int) (mi : Int) : Fn l mdX11_teller [aR 0, aI c, aI sw, aI le, aI mi] M (some (aI ((-1)))) M := by
  obtain ⟨z1_6, z1_7, z1_8, z1_9, z1_10, z1_11, z16_0, z16_3, z15_2, z0_13, z0_14, z0_15, z8_6⟩ := id zc
  refine Call.of [some (aR 0), some (aI c), some (aI sw), some (aI le), some (aI mi)] rfl (Nat.le_of_ble_eq_true rfl) rfl ?_
  refine vc_aload_n dX11_teller_0 rfl ?_
  refine vc_getR dX11_teller_1 flX11_10 (s_0 hS) rfl (r_0_0 hS) ?_
  refine vc_iload_n dX11_teller_4 rfl ?_
  refine vc_iload_n dX11_teller_5 rfl ?_
  refine vc_iload_n dX11_teller_6 rfl ?_
  refine vc_iload dX11_teller_7 rfl ?_
  refine vc_callVF dX11_teller_9 (qX6_addTeller_0 (M := M) hS zc c sw le mi) rfl okX6_addTeller viX6_addTeller lkX11_125 (s_1 hS) cl_6 rfl (Nat.le_of_ble_eq_true rfl) ⟨rfl, rfl⟩ (Nat.le_of_ble_eq_true rfl) (Nat.le_of_ble_eq_true rfl) (Nat.le_of_ble_eq_true rfl) ?_
  refine vc_iret dX11_teller_12 rfl (Nat.le_of_ble_eq_true rfl) (Nat.le_of_ble_eq_true rfl) ?_
  exact ⟨rfl, rfl⟩

set_option maxRecDepth 4000 in
theorem qX11_telling_0 {l : Launch} {M : Mem} (hS : St M) (zc : Zc M) (te : Int) (fa : Int) (fi : Int) (mo : Int) : Fn l mdX11_telling [aR 0, aI te, aI fa, aI fi, aI mo] M (some (aI ((-1)))) M := by
  obtain ⟨z1_6, z1_7, z1_8, z1_9, z1_10, z1_11, z16_0, z16_3, z15_2, z0_13, z0_14, z0_15, z8_6⟩ := id zc
  refine Call.of [some (aR 0), some (aI te), some (aI fa), some (aI fi), some (aI mo)] rfl (Nat.le_of_ble_eq_true rfl) rfl ?_
  refine vc_aload_n dX11_telling_0 rfl ?_
  refine vc_getR dX11_telling_1 flX11_10 (s_0 hS) rfl (r_0_0 hS) ?_
  refine vc_iload_n dX11_telling_4 rfl ?_
  refine vc_iload_n dX11_telling_5 rfl ?_
  refine vc_iload_n dX11_telling_6 rfl ?_
  refine vc_iload dX11_telling_7 rfl ?_
  refine vc_callVF dX11_telling_9 (qX6_addTelling_0 (M := M) hS zc te fa fi mo) rfl okX6_addTelling viX6_addTelling lkX11_129 (s_1 hS) cl_6 rfl (Nat.le_of_ble_eq_true rfl) ⟨rfl, rfl⟩ (Nat.le_of_ble_eq_true rfl) (Nat.le_of_ble_eq_true rfl) (Nat.le_of_ble_eq_true rfl) ?_
  refine vc_iret dX11_telling_12 rfl (Nat.le_of_ble_eq_true rfl) (Nat.le_of_ble_eq_true rfl) ?_
  exact ⟨rfl, rfl⟩

def fX11_end_0 (n : Int) : Int := if n < 0 then (-1) else if n ≤ 0 then n else (-1)
def gX11_end_0 (M : Mem) (n : Int) : Mem := if n < 0 then M else if n ≤ 0 then (sI M 0 13 n) else M
set_option maxRecDepth 4000 in
theorem qX11_end_0 {l : Launch} {M : Mem} (hS : St M) (zc : Zc M) (n : Int) : Fn l mdX11_end [aR 0, aI n] M (some (aI (fX11_end_0 n))) (gX11_end_0 M n) := by
  obtain ⟨z1_6, z1_7, z1_8, z1_9, z1_10, z1_11, z16_0, z16_3, z15_2, z0_13, z0_14, z0_15, z8_6⟩ := id zc
  refine Call.of [some (aR 0), some (aI n)] rfl (Nat.le_of_ble_eq_true rfl) rfl ?_
  refine vc_iload_n dX11_end_0 rfl ?_
  refine vc_if_lt dX11_end_1 (fun h1 => ?_) (fun h1 => ?_)
  · refine vc_iconst dX11_end_12 rfl ?_
    refine vc_iret dX11_end_13 rfl (Nat.le_of_ble_eq_true rfl) (Nat.le_of_ble_eq_true rfl) ?_
    exact ⟨by show some (aI _) = some (aI (fX11_end_0 n)); rw [fX11_end_0, if_pos h1], by show _ = gX11_end_0 M n; rw [gX11_end_0, if_pos h1]⟩
  · refine vc_iload_n dX11_end_4 rfl ?_
    refine vc_aload_n dX11_end_5 rfl ?_
    refine vc_getI dX11_end_6 flX11_103 (s_0 hS) rfl ?_
    refine vc_topI 0 z0_13 ?_
    refine vc_icmp_le dX11_end_9 (fun h2 => ?_) (fun h2 => ?_)
    · refine vc_aload_n dX11_end_14 rfl ?_
      refine vc_iload_n dX11_end_15 rfl ?_
      refine vc_putI dX11_end_16 (plX11_103 _ rfl) (s_0 hS) rfl ?_
      refine vc_iload_n dX11_end_19 rfl ?_
      refine vc_iret dX11_end_20 rfl (Nat.le_of_ble_eq_true rfl) (Nat.le_of_ble_eq_true rfl) ?_
      exact ⟨by show some (aI _) = some (aI (fX11_end_0 n)); rw [fX11_end_0, if_neg h1, if_pos h2], by show _ = gX11_end_0 M n; rw [gX11_end_0, if_neg h1, if_pos h2]⟩
    · refine vc_iconst dX11_end_12 rfl ?_
      refine vc_iret dX11_end_13 rfl (Nat.le_of_ble_eq_true rfl) (Nat.le_of_ble_eq_true rfl) ?_
      exact ⟨by show some (aI _) = some (aI (fX11_end_0 n)); rw [fX11_end_0, if_neg h1, if_neg h2], by show _ = gX11_end_0 M n; rw [gX11_end_0, if_neg h1, if_neg h2]⟩
theorem tX11_end_0 {M : Mem} (hS : St M) (n : Int) : St (gX11_end_0 M n) := by
  unfold gX11_end_0
  repeat' split
  all_goals first | exact hS | exact (St.I hS _ _ _)

set_option maxRecDepth 4000 in
theorem qX11_fault_0 {l : Launch} {M : Mem} (hS : St M) (zc : Zc M) (wh : Int) : Fn l mdX11_fault [aR 0, aI wh] M (some (aI ((-1)))) M := by
  obtain ⟨z1_6, z1_7, z1_8, z1_9, z1_10, z1_11, z16_0, z16_3, z15_2, z0_13, z0_14, z0_15, z8_6⟩ := id zc
  refine Call.of [some (aR 0), some (aI wh)] rfl (Nat.le_of_ble_eq_true rfl) rfl ?_
  refine vc_iload_n dX11_fault_0 rfl ?_
  refine vc_if_ne dX11_fault_1 (fun h1 => ?_) (fun h1 => ?_)
  · refine vc_iload_n dX11_fault_9 rfl ?_
    refine vc_iconst dX11_fault_10 rfl ?_
    refine vc_icmp_ne dX11_fault_11 (fun h2 => ?_) (fun h2 => ?_)
    · refine vc_iconst dX11_fault_21 rfl ?_
      refine vc_iret dX11_fault_22 rfl (Nat.le_of_ble_eq_true rfl) (Nat.le_of_ble_eq_true rfl) ?_
      exact ⟨rfl, rfl⟩
    · refine vc_aload_n dX11_fault_14 rfl ?_
      refine vc_getI dX11_fault_15 flX11_110 (s_0 hS) rfl ?_
      refine vc_topI (-1) z0_15 ?_
      refine vc_goto dX11_fault_18 ?_
      refine vc_iret dX11_fault_22 rfl (Nat.le_of_ble_eq_true rfl) (Nat.le_of_ble_eq_true rfl) ?_
      exact ⟨rfl, rfl⟩
  · refine vc_aload_n dX11_fault_4 rfl ?_
    refine vc_getI dX11_fault_5 flX11_107 (s_0 hS) rfl ?_
    refine vc_topI (-1) z0_14 ?_
    refine vc_iret dX11_fault_8 rfl (Nat.le_of_ble_eq_true rfl) (Nat.le_of_ble_eq_true rfl) ?_
    exact ⟨rfl, rfl⟩

def fX11_by_0 (te : Int) : Int := if te < (-1) then 0 else if te < 0 then 1 else 0
def gX11_by_0 (M : Mem) (te : Int) : Mem := if te < (-1) then M else if te < 0 then (sI M 1 11 te) else M
set_option maxRecDepth 4000 in
theorem qX11_by_0 {l : Launch} {M : Mem} (hS : St M) (zc : Zc M) (te : Int) : Fn l mdX11_by [aR 0, aI te] M (some (aI (fX11_by_0 te))) (gX11_by_0 M te) := by
  obtain ⟨z1_6, z1_7, z1_8, z1_9, z1_10, z1_11, z16_0, z16_3, z15_2, z0_13, z0_14, z0_15, z8_6⟩ := id zc
  refine Call.of [some (aR 0), some (aI te)] rfl (Nat.le_of_ble_eq_true rfl) rfl ?_
  refine vc_iload_n dX11_by_0 rfl ?_
  refine vc_iconst dX11_by_1 rfl ?_
  refine vc_icmp_lt dX11_by_2 (fun h1 => ?_) (fun h1 => ?_)
  · refine vc_iconst dX11_by_16 rfl ?_
    refine vc_zret dX11_by_17 rfl (by first | decide | omega) (Nat.le_of_ble_eq_true rfl) (Nat.le_of_ble_eq_true rfl) ?_
    exact ⟨by show some (aI _) = some (aI (fX11_by_0 te)); rw [fX11_by_0, if_pos h1], by show _ = gX11_by_0 M te; rw [gX11_by_0, if_pos h1]⟩
  · refine vc_iload_n dX11_by_5 rfl ?_
    refine vc_aload_n dX11_by_6 rfl ?_
    refine vc_getR dX11_by_7 flX11_10 (s_0 hS) rfl (r_0_0 hS) ?_
    refine vc_getI dX11_by_10 flX11_136 (s_1 hS) rfl ?_
    refine vc_topI 0 z1_10 ?_
    refine vc_icmp_lt dX11_by_13 (fun h2 => ?_) (fun h2 => ?_)
    · refine vc_aload_n dX11_by_18 rfl ?_
      refine vc_getR dX11_by_19 flX11_10 (s_0 hS) rfl (r_0_0 hS) ?_
      refine vc_iload_n dX11_by_22 rfl ?_
      refine vc_putI dX11_by_23 (plX11_156 _ rfl) (s_1 hS) rfl ?_
      refine vc_iconst dX11_by_26 rfl ?_
      refine vc_zret dX11_by_27 rfl (by first | decide | omega) (Nat.le_of_ble_eq_true rfl) (Nat.le_of_ble_eq_true rfl) ?_
      exact ⟨by show some (aI _) = some (aI (fX11_by_0 te)); rw [fX11_by_0, if_neg h1, if_pos h2], by show _ = gX11_by_0 M te; rw [gX11_by_0, if_neg h1, if_pos h2]⟩
    · refine vc_iconst dX11_by_16 rfl ?_
      refine vc_zret dX11_by_17 rfl (by first | decide | omega) (Nat.le_of_ble_eq_true rfl) (Nat.le_of_ble_eq_true rfl) ?_
      exact ⟨by show some (aI _) = some (aI (fX11_by_0 te)); rw [fX11_by_0, if_neg h1, if_neg h2], by show _ = gX11_by_0 M te; rw [gX11_by_0, if_neg h1, if_neg h2]⟩
theorem tX11_by_0 {M : Mem} (hS : St M) (te : Int) : St (gX11_by_0 M te) := by
  unfold gX11_by_0
  repeat' split
  all_goals first | exact hS | exact (St.I hS _ _ _)
theorem bX11_by_0 (te : Int) : fX11_by_0 te = 0 ∨ fX11_by_0 te = 1 := by
  unfold fX11_by_0
  repeat' split
  all_goals first | exact Or.inl rfl | exact Or.inr rfl | assumption | omega

set_option maxRecDepth 4000 in
theorem qX11_start_0 {l : Launch} {M : Mem} (hS : St M) (zc : Zc M) (c : Int) (fa : Int) : Fn l mdX11_start [aR 0, aI c, aI fa] M (some (aI (0))) M := by
  obtain ⟨z1_6, z1_7, z1_8, z1_9, z1_10, z1_11, z16_0, z16_3, z15_2, z0_13, z0_14, z0_15, z8_6⟩ := id zc
  refine Call.of [some (aR 0), some (aI c), some (aI fa)] rfl (Nat.le_of_ble_eq_true rfl) rfl ?_
  refine vc_aload_n dX11_start_0 rfl ?_
  refine vc_getR dX11_start_1 flX11_65 (s_0 hS) rfl (r_0_8 hS) ?_
  refine vc_iload_n dX11_start_4 rfl ?_
  refine vc_iload_n dX11_start_5 rfl ?_
  refine vc_callVF dX11_start_6 (qX9_begins_0 (M := M) hS zc c fa) rfl okX9_begins viX9_begins lkX11_159 (s_34 hS) cl_9 rfl (Nat.le_of_ble_eq_true rfl) ⟨rfl, rfl⟩ (Nat.le_of_ble_eq_true rfl) (Nat.le_of_ble_eq_true rfl) (Nat.le_of_ble_eq_true rfl) ?_
  refine vc_zret dX11_start_9 rfl (by first | decide | omega) (Nat.le_of_ble_eq_true rfl) (Nat.le_of_ble_eq_true rfl) ?_
  exact ⟨rfl, rfl⟩

set_option maxRecDepth 4000 in
theorem qX11_walk_0 {l : Launch} {M : Mem} (hS : St M) (zc : Zc M) (n : Int) : Fn l mdX11_walk [aR 0, aI n] M (some (aI ((-1)))) M := by
  obtain ⟨z1_6, z1_7, z1_8, z1_9, z1_10, z1_11, z16_0, z16_3, z15_2, z0_13, z0_14, z0_15, z8_6⟩ := id zc
  refine Call.of [some (aR 0), some (aI n)] rfl (Nat.le_of_ble_eq_true rfl) rfl ?_
  refine vc_iload_n dX11_walk_0 rfl ?_
  refine vc_iconst dX11_walk_1 rfl ?_
  refine vc_icmp_lt dX11_walk_2 (fun h1 => ?_) (fun h1 => ?_)
  · refine vc_iconst dX11_walk_22 rfl ?_
    refine vc_iret dX11_walk_23 rfl (Nat.le_of_ble_eq_true rfl) (Nat.le_of_ble_eq_true rfl) ?_
    exact ⟨rfl, rfl⟩
  · refine vc_iload_n dX11_walk_5 rfl ?_
    refine vc_bipush dX11_walk_6 rfl ?_
    refine vc_icmp_gt dX11_walk_8 (fun h2 => ?_) (fun h2 => ?_)
    · refine vc_iconst dX11_walk_22 rfl ?_
      refine vc_iret dX11_walk_23 rfl (Nat.le_of_ble_eq_true rfl) (Nat.le_of_ble_eq_true rfl) ?_
      exact ⟨rfl, rfl⟩
    · refine vc_aload_n dX11_walk_11 rfl ?_
      refine vc_getR dX11_walk_12 flX11_65 (s_0 hS) rfl (r_0_8 hS) ?_
      refine vc_iload_n dX11_walk_15 rfl ?_
      refine vc_callVF dX11_walk_16 (qX9_canGo_0 (M := M) hS zc n) rfl okX9_canGo viX9_canGo lkX11_163 (s_34 hS) cl_9 rfl (Nat.le_of_ble_eq_true rfl) ⟨rfl, rfl⟩ (Nat.le_of_ble_eq_true rfl) (Nat.le_of_ble_eq_true rfl) (Nat.le_of_ble_eq_true rfl) ?_
      refine vc_if_ne dX11_walk_19 (fun h3 => by exfalso; omega) (fun h3 => ?_)
      refine vc_iconst dX11_walk_22 rfl ?_
      refine vc_iret dX11_walk_23 rfl (Nat.le_of_ble_eq_true rfl) (Nat.le_of_ble_eq_true rfl) ?_
      exact ⟨rfl, rfl⟩

set_option maxRecDepth 4000 in
theorem qX11_turn_0 {l : Launch} {M : Mem} (hS : St M) (zc : Zc M) (si : Int) : Fn l mdX11_turn [aR 0, aI si] M (some (aI ((-1)))) M := by
  obtain ⟨z1_6, z1_7, z1_8, z1_9, z1_10, z1_11, z16_0, z16_3, z15_2, z0_13, z0_14, z0_15, z8_6⟩ := id zc
  refine Call.of [some (aR 0), some (aI si)] rfl (Nat.le_of_ble_eq_true rfl) rfl ?_
  refine vc_aload_n dX11_turn_0 rfl ?_
  refine vc_getR dX11_turn_1 flX11_65 (s_0 hS) rfl (r_0_8 hS) ?_
  refine vc_iload_n dX11_turn_4 rfl ?_
  refine vc_callVF dX11_turn_5 (qX9_turns_0 (M := M) hS zc si) rfl okX9_turns viX9_turns lkX11_172 (s_34 hS) cl_9 rfl (Nat.le_of_ble_eq_true rfl) ⟨rfl, rfl⟩ (Nat.le_of_ble_eq_true rfl) (Nat.le_of_ble_eq_true rfl) (Nat.le_of_ble_eq_true rfl) ?_
  refine vc_iret dX11_turn_8 rfl (Nat.le_of_ble_eq_true rfl) (Nat.le_of_ble_eq_true rfl) ?_
  exact ⟨rfl, rfl⟩

set_option maxRecDepth 4000 in
theorem qX11_ask_0 {l : Launch} {M : Mem} (hS : St M) (zc : Zc M) (te : Int) : Fn l mdX11_ask [aR 0, aI te] M (some (aI ((-1)))) M := by
  obtain ⟨z1_6, z1_7, z1_8, z1_9, z1_10, z1_11, z16_0, z16_3, z15_2, z0_13, z0_14, z0_15, z8_6⟩ := id zc
  refine Call.of [some (aR 0), some (aI te)] rfl (Nat.le_of_ble_eq_true rfl) rfl ?_
  refine vc_aload_n dX11_ask_0 rfl ?_
  refine vc_getR dX11_ask_1 flX11_65 (s_0 hS) rfl (r_0_8 hS) ?_
  refine vc_iload_n dX11_ask_4 rfl ?_
  refine vc_callVF dX11_ask_5 (qX9_asks_0 (M := M) hS zc te) rfl okX9_asks viX9_asks lkX11_175 (s_34 hS) cl_9 rfl (Nat.le_of_ble_eq_true rfl) ⟨rfl, rfl⟩ (Nat.le_of_ble_eq_true rfl) (Nat.le_of_ble_eq_true rfl) (Nat.le_of_ble_eq_true rfl) ?_
  refine vc_iret dX11_ask_8 rfl (Nat.le_of_ble_eq_true rfl) (Nat.le_of_ble_eq_true rfl) ?_
  exact ⟨rfl, rfl⟩

set_option maxRecDepth 4000 in
theorem qX11_follow_0 {l : Launch} {M : Mem} (hS : St M) (zc : Zc M) (te : Int) : Fn l mdX11_follow [aR 0, aI te] M (some (aI ((-1)))) M := by
  obtain ⟨z1_6, z1_7, z1_8, z1_9, z1_10, z1_11, z16_0, z16_3, z15_2, z0_13, z0_14, z0_15, z8_6⟩ := id zc
  refine Call.of [some (aR 0), some (aI te)] rfl (Nat.le_of_ble_eq_true rfl) rfl ?_
  refine vc_aload_n dX11_follow_0 rfl ?_
  refine vc_getR dX11_follow_1 flX11_65 (s_0 hS) rfl (r_0_8 hS) ?_
  refine vc_iload_n dX11_follow_4 rfl ?_
  refine vc_callVF dX11_follow_5 (qX9_follows_0 (M := M) hS zc te) rfl okX9_follows viX9_follows lkX11_178 (s_34 hS) cl_9 rfl (Nat.le_of_ble_eq_true rfl) ⟨rfl, rfl⟩ (Nat.le_of_ble_eq_true rfl) (Nat.le_of_ble_eq_true rfl) (Nat.le_of_ble_eq_true rfl) ?_
  refine vc_iret dX11_follow_8 rfl (Nat.le_of_ble_eq_true rfl) (Nat.le_of_ble_eq_true rfl) ?_
  exact ⟨rfl, rfl⟩

set_option maxRecDepth 4000 in
theorem qX11_played_0 {l : Launch} {M : Mem} (hS : St M) (zc : Zc M) (te : Int) : Fn l mdX11_played [aR 0, aI te] M (some (aI ((-2)))) M := by
  obtain ⟨z1_6, z1_7, z1_8, z1_9, z1_10, z1_11, z16_0, z16_3, z15_2, z0_13, z0_14, z0_15, z8_6⟩ := id zc
  refine Call.of [some (aR 0), some (aI te), none] rfl (Nat.le_of_ble_eq_true rfl) rfl ?_
  refine vc_aload_n dX11_played_0 rfl ?_
  refine vc_getR dX11_played_1 flX11_10 (s_0 hS) rfl (r_0_0 hS) ?_
  refine vc_iload_n dX11_played_4 rfl ?_
  refine vc_callVF dX11_played_5 (qX6_textOf_0 (M := M) hS zc te) rfl okX6_textOf viX6_textOf lkX11_181 (s_1 hS) cl_6 rfl (Nat.le_of_ble_eq_true rfl) ⟨rfl, rfl⟩ (Nat.le_of_ble_eq_true rfl) (Nat.le_of_ble_eq_true rfl) (Nat.le_of_ble_eq_true rfl) ?_
  refine vc_astore_n dX11_played_8 (by decide) rfl (show _ = [some (aR 0), some (aI te), some (aN)] from rfl) ?_
  refine vc_aload_n dX11_played_9 rfl ?_
  refine vc_ifnonnull dX11_played_10 (fun h1 => by exfalso; simp at h1) (fun h1 => ?_)
  refine vc_bipush dX11_played_13 rfl ?_
  refine vc_goto dX11_played_15 ?_
  refine vc_iret dX11_played_26 rfl (Nat.le_of_ble_eq_true rfl) (Nat.le_of_ble_eq_true rfl) ?_
  exact ⟨rfl, rfl⟩

def fX11_clash_0 (i : Int) : Int := if (-1) ≤ i then if i = (-1) then 0 else (-1) else (-1)
set_option maxRecDepth 4000 in
theorem qX11_clash_0 {l : Launch} {M : Mem} (hS : St M) (zc : Zc M) (i : Int) : Fn l mdX11_clash [aR 0, aI i] M (some (aI (fX11_clash_0 i))) M := by
  obtain ⟨z1_6, z1_7, z1_8, z1_9, z1_10, z1_11, z16_0, z16_3, z15_2, z0_13, z0_14, z0_15, z8_6⟩ := id zc
  refine Call.of [some (aR 0), some (aI i), none, none, none] rfl (Nat.le_of_ble_eq_true rfl) rfl ?_
  refine vc_iload_n dX11_clash_0 rfl ?_
  refine vc_iconst dX11_clash_1 rfl ?_
  refine vc_icmp_ge dX11_clash_2 (fun h1 => ?_) (fun h1 => ?_)
  · refine vc_aload_n dX11_clash_7 rfl ?_
    refine vc_getR dX11_clash_8 flX11_74 (s_0 hS) rfl (r_0_9 hS) ?_
    refine vc_callVU dX11_clash_11 (qX10_listCorners_0 (M := M) hS zc ) rfl okX10_listCorners viX10_listCorners lkX11_256 (s_35 hS) cl_10 rfl (Nat.le_of_ble_eq_true rfl) ⟨rfl, rfl⟩ (Nat.le_of_ble_eq_true rfl) (Nat.le_of_ble_eq_true rfl) (Nat.le_of_ble_eq_true rfl) ?_
    refine vc_iconst dX11_clash_14 rfl ?_
    refine vc_istore_n dX11_clash_15 (by decide) rfl (show _ = [some (aR 0), some (aI i), some (aI 0), none, none] from rfl) ?_
    refine vc_iconst dX11_clash_16 rfl ?_
    refine vc_istore_n dX11_clash_17 (by decide) rfl (show _ = [some (aR 0), some (aI i), some (aI 0), some (aI 0), none] from rfl) ?_
    refine vc_iload_n dX11_clash_18 rfl ?_
    refine vc_aload_n dX11_clash_19 rfl ?_
    refine vc_getR dX11_clash_20 flX11_10 (s_0 hS) rfl (r_0_0 hS) ?_
    refine vc_getI dX11_clash_23 flX11_259 (s_1 hS) rfl ?_
    refine vc_topI 0 z1_9 ?_
    refine vc_icmp_ge dX11_clash_26 (fun h2 => ?_) (fun h2 => by exfalso; omega)
    refine vc_iload_n dX11_clash_97 rfl ?_
    refine vc_iconst dX11_clash_98 rfl ?_
    refine vc_icmp_ne dX11_clash_99 (fun h3 => ?_) (fun h3 => ?_)
    · refine vc_iconst dX11_clash_106 rfl ?_
      refine vc_iret dX11_clash_107 rfl (Nat.le_of_ble_eq_true rfl) (Nat.le_of_ble_eq_true rfl) ?_
      exact ⟨by show some (aI _) = some (aI (fX11_clash_0 i)); rw [fX11_clash_0, if_pos h1, if_neg h3], rfl⟩
    · refine vc_iload_n dX11_clash_102 rfl ?_
      refine vc_goto dX11_clash_103 ?_
      refine vc_iret dX11_clash_107 rfl (Nat.le_of_ble_eq_true rfl) (Nat.le_of_ble_eq_true rfl) ?_
      exact ⟨by show some (aI _) = some (aI (fX11_clash_0 i)); rw [fX11_clash_0, if_pos h1, if_pos h3], rfl⟩
  · refine vc_iconst dX11_clash_5 rfl ?_
    refine vc_iret dX11_clash_6 rfl (Nat.le_of_ble_eq_true rfl) (Nat.le_of_ble_eq_true rfl) ?_
    exact ⟨by show some (aI _) = some (aI (fX11_clash_0 i)); rw [fX11_clash_0, if_neg h1], rfl⟩

set_option maxRecDepth 4000 in
theorem qX11_day_0 {l : Launch} {M : Mem} (hS : St M) (zc : Zc M) (se : Int) (n : Int) : Fn l mdX11_day [aR 0, aI se, aI n] M (some (aI ((-1)))) M := by
  obtain ⟨z1_6, z1_7, z1_8, z1_9, z1_10, z1_11, z16_0, z16_3, z15_2, z0_13, z0_14, z0_15, z8_6⟩ := id zc
  refine Call.of [some (aR 0), some (aI se), some (aI n)] rfl (Nat.le_of_ble_eq_true rfl) rfl ?_
  refine vc_aload_n dX11_day_0 rfl ?_
  refine vc_getR dX11_day_1 flX11_65 (s_0 hS) rfl (r_0_8 hS) ?_
  refine vc_iload_n dX11_day_4 rfl ?_
  refine vc_iload_n dX11_day_5 rfl ?_
  refine vc_callVF dX11_day_6 (qX9_spendsDay_0 (M := M) hS zc se n) rfl okX9_spendsDay viX9_spendsDay lkX11_188 (s_34 hS) cl_9 rfl (Nat.le_of_ble_eq_true rfl) ⟨rfl, rfl⟩ (Nat.le_of_ble_eq_true rfl) (Nat.le_of_ble_eq_true rfl) (Nat.le_of_ble_eq_true rfl) ?_
  refine vc_iret dX11_day_9 rfl (Nat.le_of_ble_eq_true rfl) (Nat.le_of_ble_eq_true rfl) ?_
  exact ⟨rfl, rfl⟩

set_option maxRecDepth 4000 in
theorem qX11_undo_0 {l : Launch} {M : Mem} (hS : St M) (zc : Zc M)  : Fn l mdX11_undo [aR 0] M (some (aI ((-1)))) M := by
  obtain ⟨z1_6, z1_7, z1_8, z1_9, z1_10, z1_11, z16_0, z16_3, z15_2, z0_13, z0_14, z0_15, z8_6⟩ := id zc
  refine Call.of [some (aR 0)] rfl (Nat.le_of_ble_eq_true rfl) rfl ?_
  refine vc_aload_n dX11_undo_0 rfl ?_
  refine vc_getR dX11_undo_1 flX11_22 (s_0 hS) rfl (r_0_2 hS) ?_
  refine vc_callVF dX11_undo_4 (qX8_takeBack_0 (M := M) hS zc ) rfl okX8_takeBack viX8_takeBack lkX11_192 (s_15 hS) cl_8 rfl (Nat.le_of_ble_eq_true rfl) ⟨rfl, rfl⟩ (Nat.le_of_ble_eq_true rfl) (Nat.le_of_ble_eq_true rfl) (Nat.le_of_ble_eq_true rfl) ?_
  refine vc_iret dX11_undo_7 rfl (Nat.le_of_ble_eq_true rfl) (Nat.le_of_ble_eq_true rfl) ?_
  exact ⟨rfl, rfl⟩

set_option maxRecDepth 4000 in
theorem qX11_walker_0 {l : Launch} {M : Mem} (hS : St M) (zc : Zc M) (wh : Int) : Fn l mdX11_walker [aR 0, aI wh] M (some (aI ((-1)))) M := by
  obtain ⟨z1_6, z1_7, z1_8, z1_9, z1_10, z1_11, z16_0, z16_3, z15_2, z0_13, z0_14, z0_15, z8_6⟩ := id zc
  refine Call.of [some (aR 0), some (aI wh)] rfl (Nat.le_of_ble_eq_true rfl) rfl ?_
  refine vc_aload_n dX11_walker_0 rfl ?_
  refine vc_getR dX11_walker_1 flX11_22 (s_0 hS) rfl (r_0_2 hS) ?_
  refine vc_getR dX11_walker_4 flX11_169 (s_15 hS) rfl (r_15_0 hS) ?_
  refine vc_iconst dX11_walker_7 rfl ?_
  refine vc_iaload dX11_walker_8 (s_16 hS) (by omega) (by omega) ?_
  refine vc_topI (mI M 16 0) rfl ?_
  refine vc_topI (-1) z16_0 ?_
  refine vc_iconst dX11_walker_9 rfl ?_
  refine vc_icmp_eq dX11_walker_10 (fun h1 => ?_) (fun h1 => by exfalso; omega)
  refine vc_iconst dX11_walker_22 rfl ?_
  refine vc_iret dX11_walker_23 rfl (Nat.le_of_ble_eq_true rfl) (Nat.le_of_ble_eq_true rfl) ?_
  exact ⟨rfl, rfl⟩

set_option maxRecDepth 4000 in
theorem qX11_ofCorner_0 {l : Launch} {M : Mem} (hS : St M) (zc : Zc M) (c : Int) (wh : Int) : Fn l mdX11_ofCorner [aR 0, aI c, aI wh] M (some (aI ((-2)))) M := by
  obtain ⟨z1_6, z1_7, z1_8, z1_9, z1_10, z1_11, z16_0, z16_3, z15_2, z0_13, z0_14, z0_15, z8_6⟩ := id zc
  refine Call.of [some (aR 0), some (aI c), some (aI wh)] rfl (Nat.le_of_ble_eq_true rfl) rfl ?_
  refine vc_aload_n dX11_ofCorner_0 rfl ?_
  refine vc_getR dX11_ofCorner_1 flX11_10 (s_0 hS) rfl (r_0_0 hS) ?_
  refine vc_iload_n dX11_ofCorner_4 rfl ?_
  refine vc_callVF dX11_ofCorner_5 (qX6_hasCorner_0 (M := M) hS zc c) rfl okX6_hasCorner viX6_hasCorner lkX11_196 (s_1 hS) cl_6 rfl (Nat.le_of_ble_eq_true rfl) ⟨rfl, rfl⟩ (Nat.le_of_ble_eq_true rfl) (Nat.le_of_ble_eq_true rfl) (Nat.le_of_ble_eq_true rfl) ?_
  refine vc_if_eq dX11_ofCorner_8 (fun h1 => ?_) (fun h1 => by exfalso; omega)
  refine vc_bipush dX11_ofCorner_21 rfl ?_
  refine vc_iret dX11_ofCorner_23 rfl (Nat.le_of_ble_eq_true rfl) (Nat.le_of_ble_eq_true rfl) ?_
  exact ⟨rfl, rfl⟩

set_option maxRecDepth 4000 in
theorem qX11_ofTeller_0 {l : Launch} {M : Mem} (hS : St M) (zc : Zc M) (te : Int) (wh : Int) : Fn l mdX11_ofTeller [aR 0, aI te, aI wh] M (some (aI ((-1)))) M := by
  obtain ⟨z1_6, z1_7, z1_8, z1_9, z1_10, z1_11, z16_0, z16_3, z15_2, z0_13, z0_14, z0_15, z8_6⟩ := id zc
  refine Call.of [some (aR 0), some (aI te), some (aI wh)] rfl (Nat.le_of_ble_eq_true rfl) rfl ?_
  refine vc_aload_n dX11_ofTeller_0 rfl ?_
  refine vc_getR dX11_ofTeller_1 flX11_10 (s_0 hS) rfl (r_0_0 hS) ?_
  refine vc_iload_n dX11_ofTeller_4 rfl ?_
  refine vc_callVF dX11_ofTeller_5 (qX6_hasTeller_0 (M := M) hS zc te) rfl okX6_hasTeller viX6_hasTeller lkX11_208 (s_1 hS) cl_6 rfl (Nat.le_of_ble_eq_true rfl) ⟨rfl, rfl⟩ (Nat.le_of_ble_eq_true rfl) (Nat.le_of_ble_eq_true rfl) (Nat.le_of_ble_eq_true rfl) ?_
  refine vc_if_eq dX11_ofTeller_8 (fun h1 => ?_) (fun h1 => by exfalso; omega)
  refine vc_iconst dX11_ofTeller_20 rfl ?_
  refine vc_iret dX11_ofTeller_21 rfl (Nat.le_of_ble_eq_true rfl) (Nat.le_of_ble_eq_true rfl) ?_
  exact ⟨rfl, rfl⟩

set_option maxRecDepth 4000 in
theorem qX11_ofTelling_0 {l : Launch} {M : Mem} (hS : St M) (zc : Zc M) (te : Int) (wh : Int) : Fn l mdX11_ofTelling [aR 0, aI te, aI wh] M (some (aI ((-1)))) M := by
  obtain ⟨z1_6, z1_7, z1_8, z1_9, z1_10, z1_11, z16_0, z16_3, z15_2, z0_13, z0_14, z0_15, z8_6⟩ := id zc
  refine Call.of [some (aR 0), some (aI te), some (aI wh)] rfl (Nat.le_of_ble_eq_true rfl) rfl ?_
  refine vc_aload_n dX11_ofTelling_0 rfl ?_
  refine vc_getR dX11_ofTelling_1 flX11_10 (s_0 hS) rfl (r_0_0 hS) ?_
  refine vc_iload_n dX11_ofTelling_4 rfl ?_
  refine vc_callVF dX11_ofTelling_5 (qX6_hasTelling_0 (M := M) hS zc te) rfl okX6_hasTelling viX6_hasTelling lkX11_214 (s_1 hS) cl_6 rfl (Nat.le_of_ble_eq_true rfl) ⟨rfl, rfl⟩ (Nat.le_of_ble_eq_true rfl) (Nat.le_of_ble_eq_true rfl) (Nat.le_of_ble_eq_true rfl) ?_
  refine vc_if_eq dX11_ofTelling_8 (fun h1 => ?_) (fun h1 => by exfalso; omega)
  refine vc_iconst dX11_ofTelling_15 rfl ?_
  refine vc_iret dX11_ofTelling_16 rfl (Nat.le_of_ble_eq_true rfl) (Nat.le_of_ble_eq_true rfl) ?_
  exact ⟨rfl, rfl⟩

set_option maxRecDepth 4000 in
theorem qX11_leads_0 {l : Launch} {M : Mem} (hS : St M) (zc : Zc M) (te : Int) (sl : Int) : Fn l mdX11_leads [aR 0, aI te, aI sl] M (some (aI ((-1)))) M := by
  obtain ⟨z1_6, z1_7, z1_8, z1_9, z1_10, z1_11, z16_0, z16_3, z15_2, z0_13, z0_14, z0_15, z8_6⟩ := id zc
  refine Call.of [some (aR 0), some (aI te), some (aI sl)] rfl (Nat.le_of_ble_eq_true rfl) rfl ?_
  refine vc_aload_n dX11_leads_0 rfl ?_
  refine vc_getR dX11_leads_1 flX11_10 (s_0 hS) rfl (r_0_0 hS) ?_
  refine vc_iload_n dX11_leads_4 rfl ?_
  refine vc_callVF dX11_leads_5 (qX6_hasTelling_0 (M := M) hS zc te) rfl okX6_hasTelling viX6_hasTelling lkX11_214 (s_1 hS) cl_6 rfl (Nat.le_of_ble_eq_true rfl) ⟨rfl, rfl⟩ (Nat.le_of_ble_eq_true rfl) (Nat.le_of_ble_eq_true rfl) (Nat.le_of_ble_eq_true rfl) ?_
  refine vc_if_eq dX11_leads_8 (fun h1 => ?_) (fun h1 => by exfalso; omega)
  refine vc_iconst dX11_leads_21 rfl ?_
  refine vc_iret dX11_leads_22 rfl (Nat.le_of_ble_eq_true rfl) (Nat.le_of_ble_eq_true rfl) ?_
  exact ⟨rfl, rfl⟩

set_option maxRecDepth 4000 in
theorem qX11_likely_0 {l : Launch} {M : Mem} (hS : St M) (zc : Zc M) (te : Int) (c : Int) : Fn l mdX11_likely [aR 0, aI te, aI c] M (some (aI ((-1)))) M := by
  obtain ⟨z1_6, z1_7, z1_8, z1_9, z1_10, z1_11, z16_0, z16_3, z15_2, z0_13, z0_14, z0_15, z8_6⟩ := id zc
  refine Call.of [some (aR 0), some (aI te), some (aI c)] rfl (Nat.le_of_ble_eq_true rfl) rfl ?_
  refine vc_aload_n dX11_likely_0 rfl ?_
  refine vc_getR dX11_likely_1 flX11_10 (s_0 hS) rfl (r_0_0 hS) ?_
  refine vc_iload_n dX11_likely_4 rfl ?_
  refine vc_callVF dX11_likely_5 (qX6_hasTelling_0 (M := M) hS zc te) rfl okX6_hasTelling viX6_hasTelling lkX11_214 (s_1 hS) cl_6 rfl (Nat.le_of_ble_eq_true rfl) ⟨rfl, rfl⟩ (Nat.le_of_ble_eq_true rfl) (Nat.le_of_ble_eq_true rfl) (Nat.le_of_ble_eq_true rfl) ?_
  refine vc_if_eq dX11_likely_8 (fun h1 => ?_) (fun h1 => by exfalso; omega)
  refine vc_iconst dX11_likely_27 rfl ?_
  refine vc_iret dX11_likely_28 rfl (Nat.le_of_ble_eq_true rfl) (Nat.le_of_ble_eq_true rfl) ?_
  exact ⟨rfl, rfl⟩

set_option maxRecDepth 4000 in
theorem qX11_byAll_0 {l : Launch} {M : Mem} (hS : St M) (zc : Zc M) (se : Int) (c : Int) (lo : Int) : Fn l mdX11_byAll [aR 0, aI se, aI c, aI lo] M (some (aL ((-1)))) M := by
  obtain ⟨z1_6, z1_7, z1_8, z1_9, z1_10, z1_11, z16_0, z16_3, z15_2, z0_13, z0_14, z0_15, z8_6⟩ := id zc
  refine Call.of [some (aR 0), some (aI se), some (aI c), some (aI lo)] rfl (Nat.le_of_ble_eq_true rfl) rfl ?_
  refine vc_aload_n dX11_byAll_0 rfl ?_
  refine vc_getR dX11_byAll_1 flX11_10 (s_0 hS) rfl (r_0_0 hS) ?_
  refine vc_iload_n dX11_byAll_4 rfl ?_
  refine vc_iconst dX11_byAll_5 rfl ?_
  refine vc_callVF dX11_byAll_6 (qX6_isSet_0 (M := M) hS zc se 4) rfl okX6_isSet viX6_isSet lkX11_236 (s_1 hS) cl_6 rfl (Nat.le_of_ble_eq_true rfl) ⟨rfl, rfl⟩ (Nat.le_of_ble_eq_true rfl) (Nat.le_of_ble_eq_true rfl) (Nat.le_of_ble_eq_true rfl) ?_
  refine vc_if_eq dX11_byAll_9 (fun h1 => ?_) (fun h1 => by exfalso; omega)
  refine vc_ldc2 dX11_byAll_23 rfl klX11_239 ?_
  refine vc_lret dX11_byAll_26 rfl (Nat.le_of_ble_eq_true rfl) (Nat.le_of_ble_eq_true rfl) ?_
  exact ⟨rfl, rfl⟩

set_option maxRecDepth 4000 in
theorem qX11_wrong_0 {l : Launch} {M : Mem} (hS : St M) (zc : Zc M) (se : Int) (co : Int) : Fn l mdX11_wrong [aR 0, aI se, aI co] M (some (aI ((-1)))) M := by
  obtain ⟨z1_6, z1_7, z1_8, z1_9, z1_10, z1_11, z16_0, z16_3, z15_2, z0_13, z0_14, z0_15, z8_6⟩ := id zc
  refine Call.of [some (aR 0), some (aI se), some (aI co), none, none, none, none] rfl (Nat.le_of_ble_eq_true rfl) rfl ?_
  refine vc_aload_n dX11_wrong_0 rfl ?_
  refine vc_getR dX11_wrong_1 flX11_10 (s_0 hS) rfl (r_0_0 hS) ?_
  refine vc_iload_n dX11_wrong_4 rfl ?_
  refine vc_bipush dX11_wrong_5 rfl ?_
  refine vc_callVF dX11_wrong_7 (qX6_isSet_0 (M := M) hS zc se 8) rfl okX6_isSet viX6_isSet lkX11_236 (s_1 hS) cl_6 rfl (Nat.le_of_ble_eq_true rfl) ⟨rfl, rfl⟩ (Nat.le_of_ble_eq_true rfl) (Nat.le_of_ble_eq_true rfl) (Nat.le_of_ble_eq_true rfl) ?_
  refine vc_if_ne dX11_wrong_10 (fun h1 => by exfalso; omega) (fun h1 => ?_)
  refine vc_iconst dX11_wrong_13 rfl ?_
  refine vc_iret dX11_wrong_14 rfl (Nat.le_of_ble_eq_true rfl) (Nat.le_of_ble_eq_true rfl) ?_
  exact ⟨rfl, rfl⟩

set_option maxRecDepth 4000 in
theorem qX11_far_0 {l : Launch} {M : Mem} (hS : St M) (zc : Zc M) (fr : Int) (to : Int) : Fn l mdX11_far [aR 0, aI fr, aI to] M (some (aI ((-1)))) M := by
  obtain ⟨z1_6, z1_7, z1_8, z1_9, z1_10, z1_11, z16_0, z16_3, z15_2, z0_13, z0_14, z0_15, z8_6⟩ := id zc
  refine Call.of [some (aR 0), some (aI fr), some (aI to)] rfl (Nat.le_of_ble_eq_true rfl) rfl ?_
  refine vc_aload_n dX11_far_0 rfl ?_
  refine vc_getR dX11_far_1 flX11_10 (s_0 hS) rfl (r_0_0 hS) ?_
  refine vc_iload_n dX11_far_4 rfl ?_
  refine vc_callVF dX11_far_5 (qX6_hasCorner_0 (M := M) hS zc fr) rfl okX6_hasCorner viX6_hasCorner lkX11_196 (s_1 hS) cl_6 rfl (Nat.le_of_ble_eq_true rfl) ⟨rfl, rfl⟩ (Nat.le_of_ble_eq_true rfl) (Nat.le_of_ble_eq_true rfl) (Nat.le_of_ble_eq_true rfl) ?_
  refine vc_if_eq dX11_far_8 (fun h1 => ?_) (fun h1 => by exfalso; omega)
  refine vc_iconst dX11_far_22 rfl ?_
  refine vc_iret dX11_far_23 rfl (Nat.le_of_ble_eq_true rfl) (Nat.le_of_ble_eq_true rfl) ?_
  exact ⟨rfl, rfl⟩

set_option maxRecDepth 4000 in
theorem qX11_see_0 {l : Launch} {M : Mem} (hS : St M) (zc : Zc M) (se : Int) (i : Int) : Fn l mdX11_see [aR 0, aI se, aI i] M (some (aL ((-1)))) M := by
  obtain ⟨z1_6, z1_7, z1_8, z1_9, z1_10, z1_11, z16_0, z16_3, z15_2, z0_13, z0_14, z0_15, z8_6⟩ := id zc
  refine Call.of [some (aR 0), some (aI se), some (aI i)] rfl (Nat.le_of_ble_eq_true rfl) rfl ?_
  refine vc_iload_n dX11_see_0 rfl ?_
  refine vc_bipush dX11_see_1 rfl ?_
  refine vc_icmp_lt dX11_see_3 (fun h1 => ?_) (fun h1 => ?_)
  · refine vc_ldc2 dX11_see_29 rfl klX11_239 ?_
    refine vc_lret dX11_see_32 rfl (Nat.le_of_ble_eq_true rfl) (Nat.le_of_ble_eq_true rfl) ?_
    exact ⟨rfl, rfl⟩
  · refine vc_aload_n dX11_see_6 rfl ?_
    refine vc_getR dX11_see_7 flX11_10 (s_0 hS) rfl (r_0_0 hS) ?_
    refine vc_iload_n dX11_see_10 rfl ?_
    refine vc_iconst dX11_see_11 rfl ?_
    refine vc_callVF dX11_see_12 (qX6_isSet_0 (M := M) hS zc se 4) rfl okX6_isSet viX6_isSet lkX11_236 (s_1 hS) cl_6 rfl (Nat.le_of_ble_eq_true rfl) ⟨rfl, rfl⟩ (Nat.le_of_ble_eq_true rfl) (Nat.le_of_ble_eq_true rfl) (Nat.le_of_ble_eq_true rfl) ?_
    refine vc_if_eq dX11_see_15 (fun h2 => ?_) (fun h2 => by exfalso; omega)
    refine vc_ldc2 dX11_see_29 rfl klX11_239 ?_
    refine vc_lret dX11_see_32 rfl (Nat.le_of_ble_eq_true rfl) (Nat.le_of_ble_eq_true rfl) ?_
    exact ⟨rfl, rfl⟩

set_option maxRecDepth 4000 in
theorem qX11_orAsk_0 {l : Launch} {M : Mem} (hS : St M) (zc : Zc M) (se : Int) : Fn l mdX11_orAsk [aR 0, aI se] M (some (aI ((-1)))) M := by
  obtain ⟨z1_6, z1_7, z1_8, z1_9, z1_10, z1_11, z16_0, z16_3, z15_2, z0_13, z0_14, z0_15, z8_6⟩ := id zc
  refine Call.of [some (aR 0), some (aI se)] rfl (Nat.le_of_ble_eq_true rfl) rfl ?_
  refine vc_aload_n dX11_orAsk_0 rfl ?_
  refine vc_getR dX11_orAsk_1 flX11_10 (s_0 hS) rfl (r_0_0 hS) ?_
  refine vc_iload_n dX11_orAsk_4 rfl ?_
  refine vc_iconst dX11_orAsk_5 rfl ?_
  refine vc_callVF dX11_orAsk_6 (qX6_isSet_0 (M := M) hS zc se 4) rfl okX6_isSet viX6_isSet lkX11_236 (s_1 hS) cl_6 rfl (Nat.le_of_ble_eq_true rfl) ⟨rfl, rfl⟩ (Nat.le_of_ble_eq_true rfl) (Nat.le_of_ble_eq_true rfl) (Nat.le_of_ble_eq_true rfl) ?_
  refine vc_if_eq dX11_orAsk_9 (fun h1 => ?_) (fun h1 => by exfalso; omega)
  refine vc_iconst dX11_orAsk_23 rfl ?_
  refine vc_iret dX11_orAsk_24 rfl (Nat.le_of_ble_eq_true rfl) (Nat.le_of_ble_eq_true rfl) ?_
  exact ⟨rfl, rfl⟩

set_option maxRecDepth 4000 in
theorem qX11_safeSoFar_0 {l : Launch} {M : Mem} (hS : St M) (zc : Zc M) (te : Int) (k : Int) (lo : Int) : Fn l mdX11_safeSoFar [aR 0, aI te, aI k, aI lo] M (some (aI ((-1)))) M := by
  obtain ⟨z1_6, z1_7, z1_8, z1_9, z1_10, z1_11, z16_0, z16_3, z15_2, z0_13, z0_14, z0_15, z8_6⟩ := id zc
  refine Call.of [some (aR 0), some (aI te), some (aI k), some (aI lo)] rfl (Nat.le_of_ble_eq_true rfl) rfl ?_
  refine vc_aload_n dX11_safeSoFar_0 rfl ?_
  refine vc_getR dX11_safeSoFar_1 flX11_10 (s_0 hS) rfl (r_0_0 hS) ?_
  refine vc_iload_n dX11_safeSoFar_4 rfl ?_
  refine vc_callVF dX11_safeSoFar_5 (qX6_hasTelling_0 (M := M) hS zc te) rfl okX6_hasTelling viX6_hasTelling lkX11_214 (s_1 hS) cl_6 rfl (Nat.le_of_ble_eq_true rfl) ⟨rfl, rfl⟩ (Nat.le_of_ble_eq_true rfl) (Nat.le_of_ble_eq_true rfl) (Nat.le_of_ble_eq_true rfl) ?_
  refine vc_if_eq dX11_safeSoFar_8 (fun h1 => ?_) (fun h1 => by exfalso; omega)
  refine vc_iconst dX11_safeSoFar_28 rfl ?_
  refine vc_iret dX11_safeSoFar_29 rfl (Nat.le_of_ble_eq_true rfl) (Nat.le_of_ble_eq_true rfl) ?_
  exact ⟨rfl, rfl⟩

set_option maxRecDepth 4000 in
theorem qX11_howFar_0 {l : Launch} {M : Mem} (hS : St M) (zc : Zc M) (te : Int) (q : Int) : Fn l mdX11_howFar [aR 0, aI te, aI q] M (some (aI ((-1)))) M := by
  obtain ⟨z1_6, z1_7, z1_8, z1_9, z1_10, z1_11, z16_0, z16_3, z15_2, z0_13, z0_14, z0_15, z8_6⟩ := id zc
  refine Call.of [some (aR 0), some (aI te), some (aI q), none, none] rfl (Nat.le_of_ble_eq_true rfl) rfl ?_
  refine vc_aload_n dX11_howFar_0 rfl ?_
  refine vc_getR dX11_howFar_1 flX11_10 (s_0 hS) rfl (r_0_0 hS) ?_
  refine vc_iload_n dX11_howFar_4 rfl ?_
  refine vc_callVF dX11_howFar_5 (qX6_hasTelling_0 (M := M) hS zc te) rfl okX6_hasTelling viX6_hasTelling lkX11_214 (s_1 hS) cl_6 rfl (Nat.le_of_ble_eq_true rfl) ⟨rfl, rfl⟩ (Nat.le_of_ble_eq_true rfl) (Nat.le_of_ble_eq_true rfl) (Nat.le_of_ble_eq_true rfl) ?_
  refine vc_if_eq dX11_howFar_8 (fun h1 => ?_) (fun h1 => by exfalso; omega)
  refine vc_iconst dX11_howFar_22 rfl ?_
  refine vc_iret dX11_howFar_23 rfl (Nat.le_of_ble_eq_true rfl) (Nat.le_of_ble_eq_true rfl) ?_
  exact ⟨rfl, rfl⟩

set_option maxRecDepth 4000 in
theorem qX11_lost_0 {l : Launch} {M : Mem} (hS : St M) (zc : Zc M) (te : Int) (c : Int) : Fn l mdX11_lost [aR 0, aI te, aI c] M (some (aI ((-1)))) M := by
  obtain ⟨z1_6, z1_7, z1_8, z1_9, z1_10, z1_11, z16_0, z16_3, z15_2, z0_13, z0_14, z0_15, z8_6⟩ := id zc
  refine Call.of [some (aR 0), some (aI te), some (aI c), none, none] rfl (Nat.le_of_ble_eq_true rfl) rfl ?_
  refine vc_aload_n dX11_lost_0 rfl ?_
  refine vc_getR dX11_lost_1 flX11_10 (s_0 hS) rfl (r_0_0 hS) ?_
  refine vc_iload_n dX11_lost_4 rfl ?_
  refine vc_callVF dX11_lost_5 (qX6_hasTelling_0 (M := M) hS zc te) rfl okX6_hasTelling viX6_hasTelling lkX11_214 (s_1 hS) cl_6 rfl (Nat.le_of_ble_eq_true rfl) ⟨rfl, rfl⟩ (Nat.le_of_ble_eq_true rfl) (Nat.le_of_ble_eq_true rfl) (Nat.le_of_ble_eq_true rfl) ?_
  refine vc_if_eq dX11_lost_8 (fun h1 => ?_) (fun h1 => by exfalso; omega)
  refine vc_iconst dX11_lost_22 rfl ?_
  refine vc_iret dX11_lost_23 rfl (Nat.le_of_ble_eq_true rfl) (Nat.le_of_ble_eq_true rfl) ?_
  exact ⟨rfl, rfl⟩

set_option maxRecDepth 4000 in
theorem qX11_tell_0 {l : Launch} {M : Mem} (hS : St M) (zc : Zc M) (c : Int) (fa : Int) (sl : Int) (i : Int) : Fn l mdX11_tell [aR 0, aI c, aI fa, aI sl, aI i] M (some (aI ((-1)))) M := by
  obtain ⟨z1_6, z1_7, z1_8, z1_9, z1_10, z1_11, z16_0, z16_3, z15_2, z0_13, z0_14, z0_15, z8_6⟩ := id zc
  refine Call.of [some (aR 0), some (aI c), some (aI fa), some (aI sl), some (aI i), none] rfl (Nat.le_of_ble_eq_true rfl) rfl ?_
  refine vc_aload_n dX11_tell_0 rfl ?_
  refine vc_getR dX11_tell_1 flX11_10 (s_0 hS) rfl (r_0_0 hS) ?_
  refine vc_iload_n dX11_tell_4 rfl ?_
  refine vc_callVF dX11_tell_5 (qX6_hasCorner_0 (M := M) hS zc c) rfl okX6_hasCorner viX6_hasCorner lkX11_196 (s_1 hS) cl_6 rfl (Nat.le_of_ble_eq_true rfl) ⟨rfl, rfl⟩ (Nat.le_of_ble_eq_true rfl) (Nat.le_of_ble_eq_true rfl) (Nat.le_of_ble_eq_true rfl) ?_
  refine vc_if_eq dX11_tell_8 (fun h1 => ?_) (fun h1 => by exfalso; omega)
  refine vc_iconst dX11_tell_34 rfl ?_
  refine vc_iret dX11_tell_35 rfl (Nat.le_of_ble_eq_true rfl) (Nat.le_of_ble_eq_true rfl) ?_
  exact ⟨rfl, rfl⟩

set_option maxRecDepth 4000 in
theorem qX11_where_0 {l : Launch} {M : Mem} (hS : St M) (zc : Zc M) (te : Int) (co : Int) : Fn l mdX11_where [aR 0, aI te, aI co] M (some (aI ((-1)))) M := by
  obtain ⟨z1_6, z1_7, z1_8, z1_9, z1_10, z1_11, z16_0, z16_3, z15_2, z0_13, z0_14, z0_15, z8_6⟩ := id zc
  refine Call.of [some (aR 0), some (aI te), some (aI co), none, none, none, none, none, none] rfl (Nat.le_of_ble_eq_true rfl) rfl ?_
  refine vc_aload_n dX11_where_0 rfl ?_
  refine vc_getR dX11_where_1 flX11_10 (s_0 hS) rfl (r_0_0 hS) ?_
  refine vc_iload_n dX11_where_4 rfl ?_
  refine vc_callVF dX11_where_5 (qX6_hasTelling_0 (M := M) hS zc te) rfl okX6_hasTelling viX6_hasTelling lkX11_214 (s_1 hS) cl_6 rfl (Nat.le_of_ble_eq_true rfl) ⟨rfl, rfl⟩ (Nat.le_of_ble_eq_true rfl) (Nat.le_of_ble_eq_true rfl) (Nat.le_of_ble_eq_true rfl) ?_
  refine vc_if_eq dX11_where_8 (fun h1 => ?_) (fun h1 => by exfalso; omega)
  refine vc_iconst dX11_where_25 rfl ?_
  refine vc_iret dX11_where_26 rfl (Nat.le_of_ble_eq_true rfl) (Nat.le_of_ble_eq_true rfl) ?_
  exact ⟨rfl, rfl⟩

set_option maxRecDepth 4000 in
theorem qX11_map_0 {l : Launch} {M : Mem} (hS : St M) (zc : Zc M) (c : Int) (n : Int) (di : Int) : Fn l mdX11_map [aR 0, aI c, aI n, aI di] M (some (aI ((-1)))) M := by
  obtain ⟨z1_6, z1_7, z1_8, z1_9, z1_10, z1_11, z16_0, z16_3, z15_2, z0_13, z0_14, z0_15, z8_6⟩ := id zc
  refine Call.of [some (aR 0), some (aI c), some (aI n), some (aI di), none, none, none, none] rfl (Nat.le_of_ble_eq_true rfl) rfl ?_
  refine vc_aload_n dX11_map_0 rfl ?_
  refine vc_getR dX11_map_1 flX11_10 (s_0 hS) rfl (r_0_0 hS) ?_
  refine vc_iload_n dX11_map_4 rfl ?_
  refine vc_callVF dX11_map_5 (qX6_hasCorner_0 (M := M) hS zc c) rfl okX6_hasCorner viX6_hasCorner lkX11_196 (s_1 hS) cl_6 rfl (Nat.le_of_ble_eq_true rfl) ⟨rfl, rfl⟩ (Nat.le_of_ble_eq_true rfl) (Nat.le_of_ble_eq_true rfl) (Nat.le_of_ble_eq_true rfl) ?_
  refine vc_if_eq dX11_map_8 (fun h1 => ?_) (fun h1 => by exfalso; omega)
  refine vc_iconst dX11_map_22 rfl ?_
  refine vc_iret dX11_map_23 rfl (Nat.le_of_ble_eq_true rfl) (Nat.le_of_ble_eq_true rfl) ?_
  exact ⟨rfl, rfl⟩

set_option maxRecDepth 4000 in
theorem qX11_signs_0 {l : Launch} {M : Mem} (hS : St M) (zc : Zc M)  : Fn l mdX11_signs [aR 0] M (some (aI ((-1)))) M := by
  obtain ⟨z1_6, z1_7, z1_8, z1_9, z1_10, z1_11, z16_0, z16_3, z15_2, z0_13, z0_14, z0_15, z8_6⟩ := id zc
  refine Call.of [some (aR 0)] rfl (Nat.le_of_ble_eq_true rfl) rfl ?_
  refine vc_aload_n dX11_signs_0 rfl ?_
  refine vc_getR dX11_signs_1 flX11_10 (s_0 hS) rfl (r_0_0 hS) ?_
  refine vc_getI dX11_signs_4 flX11_325 (s_1 hS) rfl ?_
  refine vc_topI (-1) z1_7 ?_
  refine vc_iconst dX11_signs_7 rfl ?_
  refine vc_icmp_ne dX11_signs_8 (fun h1 => by exfalso; omega) (fun h1 => ?_)
  refine vc_iconst dX11_signs_11 rfl ?_
  refine vc_goto dX11_signs_12 ?_
  refine vc_iret dX11_signs_22 rfl (Nat.le_of_ble_eq_true rfl) (Nat.le_of_ble_eq_true rfl) ?_
  exact ⟨rfl, rfl⟩

set_option maxRecDepth 4000 in
theorem qX11_whose_0 {l : Launch} {M : Mem} (hS : St M) (zc : Zc M) (te : Int) (c : Int) (sl : Int) (lo : Int) : Fn l mdX11_whose [aR 0, aI te, aI c, aI sl, aI lo] M (some (aI ((-1)))) M := by
  obtain ⟨z1_6, z1_7, z1_8, z1_9, z1_10, z1_11, z16_0, z16_3, z15_2, z0_13, z0_14, z0_15, z8_6⟩ := id zc
  refine Call.of [some (aR 0), some (aI te), some (aI c), some (aI sl), some (aI lo), none] rfl (Nat.le_of_ble_eq_true rfl) rfl ?_
  refine vc_aload_n dX11_whose_0 rfl ?_
  refine vc_getR dX11_whose_1 flX11_10 (s_0 hS) rfl (r_0_0 hS) ?_
  refine vc_iload_n dX11_whose_4 rfl ?_
  refine vc_callVF dX11_whose_5 (qX6_hasTelling_0 (M := M) hS zc te) rfl okX6_hasTelling viX6_hasTelling lkX11_214 (s_1 hS) cl_6 rfl (Nat.le_of_ble_eq_true rfl) ⟨rfl, rfl⟩ (Nat.le_of_ble_eq_true rfl) (Nat.le_of_ble_eq_true rfl) (Nat.le_of_ble_eq_true rfl) ?_
  refine vc_if_eq dX11_whose_8 (fun h1 => ?_) (fun h1 => by exfalso; omega)
  refine vc_iconst dX11_whose_22 rfl ?_
  refine vc_iret dX11_whose_23 rfl (Nat.le_of_ble_eq_true rfl) (Nat.le_of_ble_eq_true rfl) ?_
  exact ⟨rfl, rfl⟩

set_option maxRecDepth 4000 in
theorem qX11_heard_0 {l : Launch} {M : Mem} (hS : St M) (zc : Zc M) (c : Int) : Fn l mdX11_heard [aR 0, aI c] M (some (aI ((-1)))) M := by
  obtain ⟨z1_6, z1_7, z1_8, z1_9, z1_10, z1_11, z16_0, z16_3, z15_2, z0_13, z0_14, z0_15, z8_6⟩ := id zc
  refine Call.of [some (aR 0), some (aI c)] rfl (Nat.le_of_ble_eq_true rfl) rfl ?_
  refine vc_aload_n dX11_heard_0 rfl ?_
  refine vc_getR dX11_heard_1 flX11_10 (s_0 hS) rfl (r_0_0 hS) ?_
  refine vc_iload_n dX11_heard_4 rfl ?_
  refine vc_callVF dX11_heard_5 (qX6_hasCorner_0 (M := M) hS zc c) rfl okX6_hasCorner viX6_hasCorner lkX11_196 (s_1 hS) cl_6 rfl (Nat.le_of_ble_eq_true rfl) ⟨rfl, rfl⟩ (Nat.le_of_ble_eq_true rfl) (Nat.le_of_ble_eq_true rfl) (Nat.le_of_ble_eq_true rfl) ?_
  refine vc_if_ne dX11_heard_8 (fun h1 => by exfalso; omega) (fun h1 => ?_)
  refine vc_iconst dX11_heard_11 rfl ?_
  refine vc_iret dX11_heard_12 rfl (Nat.le_of_ble_eq_true rfl) (Nat.le_of_ble_eq_true rfl) ?_
  exact ⟨rfl, rfl⟩

def fX11_about_0 (wh : Int) : Int := if wh = 0 then 0 else if wh = 1 then (-1) else if wh = 2 then 0 else if wh = 3 then 0 else if wh = 4 then 29 else if wh = 5 then 0 else if wh = 6 then (-1) else if wh = 7 then 0 else if wh = 8 then 0 else (-2)
set_option maxRecDepth 4000 in
theorem qX11_about_0 {l : Launch} {M : Mem} (hS : St M) (zc : Zc M) (wh : Int) : Fn l mdX11_about [aR 0, aI wh] M (some (aI (fX11_about_0 wh))) M := by
  obtain ⟨z1_6, z1_7, z1_8, z1_9, z1_10, z1_11, z16_0, z16_3, z15_2, z0_13, z0_14, z0_15, z8_6⟩ := id zc
  refine Call.of [some (aR 0), some (aI wh)] rfl (Nat.le_of_ble_eq_true rfl) rfl ?_
  refine vc_iload_n dX11_about_0 rfl ?_
  by_cases h1 : wh = 0
  · refine vc_tabIn dX11_about_1 0 52 h1 rfl rfl rfl ?_
    refine vc_aload_n dX11_about_52 rfl ?_
    refine vc_getR dX11_about_53 flX11_10 (s_0 hS) rfl (r_0_0 hS) ?_
    refine vc_getI dX11_about_56 flX11_265 (s_1 hS) rfl ?_
    refine vc_topI 0 z1_6 ?_
    refine vc_iret dX11_about_59 rfl (Nat.le_of_ble_eq_true rfl) (Nat.le_of_ble_eq_true rfl) ?_
    exact ⟨by show some (aI _) = some (aI (fX11_about_0 wh)); rw [fX11_about_0, if_pos h1], rfl⟩
  by_cases h2 : wh = 1
  · refine vc_tabIn dX11_about_1 1 60 h2 rfl rfl rfl ?_
    refine vc_aload_n dX11_about_60 rfl ?_
    refine vc_getR dX11_about_61 flX11_10 (s_0 hS) rfl (r_0_0 hS) ?_
    refine vc_getI dX11_about_64 flX11_325 (s_1 hS) rfl ?_
    refine vc_topI (-1) z1_7 ?_
    refine vc_iret dX11_about_67 rfl (Nat.le_of_ble_eq_true rfl) (Nat.le_of_ble_eq_true rfl) ?_
    exact ⟨by show some (aI _) = some (aI (fX11_about_0 wh)); rw [fX11_about_0, if_neg h1, if_pos h2], rfl⟩
  by_cases h3 : wh = 2
  · refine vc_tabIn dX11_about_1 2 68 h3 rfl rfl rfl ?_
    refine vc_aload_n dX11_about_68 rfl ?_
    refine vc_getR dX11_about_69 flX11_10 (s_0 hS) rfl (r_0_0 hS) ?_
    refine vc_getI dX11_about_72 flX11_353 (s_1 hS) rfl ?_
    refine vc_topI 0 z1_8 ?_
    refine vc_iret dX11_about_75 rfl (Nat.le_of_ble_eq_true rfl) (Nat.le_of_ble_eq_true rfl) ?_
    exact ⟨by show some (aI _) = some (aI (fX11_about_0 wh)); rw [fX11_about_0, if_neg h1, if_neg h2, if_pos h3], rfl⟩
  by_cases h4 : wh = 3
  · refine vc_tabIn dX11_about_1 3 76 h4 rfl rfl rfl ?_
    refine vc_aload_n dX11_about_76 rfl ?_
    refine vc_getR dX11_about_77 flX11_10 (s_0 hS) rfl (r_0_0 hS) ?_
    refine vc_getI dX11_about_80 flX11_259 (s_1 hS) rfl ?_
    refine vc_topI 0 z1_9 ?_
    refine vc_iret dX11_about_83 rfl (Nat.le_of_ble_eq_true rfl) (Nat.le_of_ble_eq_true rfl) ?_
    exact ⟨by show some (aI _) = some (aI (fX11_about_0 wh)); rw [fX11_about_0, if_neg h1, if_neg h2, if_neg h3, if_pos h4], rfl⟩
  by_cases h5 : wh = 4
  · refine vc_tabIn dX11_about_1 4 84 h5 rfl rfl rfl ?_
    refine vc_aload_n dX11_about_84 rfl ?_
    refine vc_getR dX11_about_85 flX11_22 (s_0 hS) rfl (r_0_2 hS) ?_
    refine vc_getR dX11_about_88 flX11_169 (s_15 hS) rfl (r_15_0 hS) ?_
    refine vc_iconst dX11_about_91 rfl ?_
    refine vc_iaload dX11_about_92 (s_16 hS) (by omega) (by omega) ?_
    refine vc_topI (mI M 16 3) rfl ?_
    refine vc_topI 29 z16_3 ?_
    refine vc_iret dX11_about_93 rfl (Nat.le_of_ble_eq_true rfl) (Nat.le_of_ble_eq_true rfl) ?_
    exact ⟨by show some (aI _) = some (aI (fX11_about_0 wh)); rw [fX11_about_0, if_neg h1, if_neg h2, if_neg h3, if_neg h4, if_pos h5], rfl⟩
  by_cases h6 : wh = 5
  · refine vc_tabIn dX11_about_1 5 94 h6 rfl rfl rfl ?_
    refine vc_aload_n dX11_about_94 rfl ?_
    refine vc_getR dX11_about_95 flX11_10 (s_0 hS) rfl (r_0_0 hS) ?_
    refine vc_getI dX11_about_98 flX11_136 (s_1 hS) rfl ?_
    refine vc_topI 0 z1_10 ?_
    refine vc_iret dX11_about_101 rfl (Nat.le_of_ble_eq_true rfl) (Nat.le_of_ble_eq_true rfl) ?_
    exact ⟨by show some (aI _) = some (aI (fX11_about_0 wh)); rw [fX11_about_0, if_neg h1, if_neg h2, if_neg h3, if_neg h4, if_neg h5, if_pos h6], rfl⟩
  by_cases h7 : wh = 6
  · refine vc_tabIn dX11_about_1 6 102 h7 rfl rfl rfl ?_
    refine vc_aload_n dX11_about_102 rfl ?_
    refine vc_getR dX11_about_103 flX11_10 (s_0 hS) rfl (r_0_0 hS) ?_
    refine vc_getI dX11_about_106 flX11_156 (s_1 hS) rfl ?_
    refine vc_topI (-1) z1_11 ?_
    refine vc_iret dX11_about_109 rfl (Nat.le_of_ble_eq_true rfl) (Nat.le_of_ble_eq_true rfl) ?_
    exact ⟨by show some (aI _) = some (aI (fX11_about_0 wh)); rw [fX11_about_0, if_neg h1, if_neg h2, if_neg h3, if_neg h4, if_neg h5, if_neg h6, if_pos h7], rfl⟩
  by_cases h8 : wh = 7
  · refine vc_tabIn dX11_about_1 7 110 h8 rfl rfl rfl ?_
    refine vc_aload_n dX11_about_110 rfl ?_
    refine vc_getR dX11_about_111 flX11_22 (s_0 hS) rfl (r_0_2 hS) ?_
    refine vc_getI dX11_about_114 flX11_356 (s_15 hS) rfl ?_
    refine vc_topI 0 z15_2 ?_
    refine vc_iret dX11_about_117 rfl (Nat.le_of_ble_eq_true rfl) (Nat.le_of_ble_eq_true rfl) ?_
    exact ⟨by show some (aI _) = some (aI (fX11_about_0 wh)); rw [fX11_about_0, if_neg h1, if_neg h2, if_neg h3, if_neg h4, if_neg h5, if_neg h6, if_neg h7, if_pos h8], rfl⟩
  by_cases h9 : wh = 8
  · refine vc_tabIn dX11_about_1 8 118 h9 rfl rfl rfl ?_
    refine vc_aload_n dX11_about_118 rfl ?_
    refine vc_getI dX11_about_119 flX11_103 (s_0 hS) rfl ?_
    refine vc_topI 0 z0_13 ?_
    refine vc_iret dX11_about_122 rfl (Nat.le_of_ble_eq_true rfl) (Nat.le_of_ble_eq_true rfl) ?_
    exact ⟨by show some (aI _) = some (aI (fX11_about_0 wh)); rw [fX11_about_0, if_neg h1, if_neg h2, if_neg h3, if_neg h4, if_neg h5, if_neg h6, if_neg h7, if_neg h8, if_pos h9], rfl⟩
  refine vc_tabOut dX11_about_1 123 (by omega) rfl ?_
  refine vc_bipush dX11_about_123 rfl ?_
  refine vc_iret dX11_about_125 rfl (Nat.le_of_ble_eq_true rfl) (Nat.le_of_ble_eq_true rfl) ?_
  exact ⟨by show some (aI _) = some (aI (fX11_about_0 wh)); rw [fX11_about_0, if_neg h1, if_neg h2, if_neg h3, if_neg h4, if_neg h5, if_neg h6, if_neg h7, if_neg h8, if_neg h9], rfl⟩

set_option maxRecDepth 4000 in
theorem qX12_isCorner_0 {l : Launch} {M : Mem} (hS : St M) (zm : Zm M) (c : Int) : Fn l mdX12_isCorner [aR 54, aI c] M (some (aI (0))) M := by
  obtain ⟨z55_0, z55_1, z55_2, z55_3, z55_4, z55_5, z55_6, z55_7, z55_256, z54_6, z54_7, z54_8, z56_0⟩ := id zm
  refine Call.of [some (aR 54), some (aI c)] rfl (Nat.le_of_ble_eq_true rfl) rfl ?_
  refine vc_iload_n dX12_isCorner_0 rfl ?_
  refine vc_iconst dX12_isCorner_1 rfl ?_
  refine vc_aload_n dX12_isCorner_2 rfl ?_
  refine vc_getR dX12_isCorner_3 flX12_7 (s_54 hS) rfl (r_54_0 hS) ?_
  refine vc_iconst dX12_isCorner_6 rfl ?_
  refine vc_iaload dX12_isCorner_7 (s_55 hS) (by omega) (by omega) ?_
  refine vc_topI (mI M 55 0) rfl ?_
  refine vc_topI 0 z55_0 ?_
  refine vc_iconst dX12_isCorner_8 rfl ?_
  refine vc_isubE dX12_isCorner_9 (by omega) (by omega) ?_
  refine vc_topI (-1) rfl ?_
  refine vc_callSF dX12_isCorner_10 (qX12_isIn_e (M := M) c 0 (-1) (by decide)) rfl okX12_isIn stX12_isIn lkX12_83 rfl (Nat.le_of_ble_eq_true rfl) ⟨rfl, rfl⟩ (Nat.le_of_ble_eq_true rfl) (Nat.le_of_ble_eq_true rfl) (Nat.le_of_ble_eq_true rfl) ?_
  refine vc_zret dX12_isCorner_13 rfl (by first | decide | omega) (Nat.le_of_ble_eq_true rfl) (Nat.le_of_ble_eq_true rfl) ?_
  exact ⟨rfl, rfl⟩

set_option maxRecDepth 4000 in
theorem qX12_isTeller_0 {l : Launch} {M : Mem} (hS : St M) (zm : Zm M) (c : Int) : Fn l mdX12_isTeller [aR 54, aI c] M (some (aI (0))) M := by
  obtain ⟨z55_0, z55_1, z55_2, z55_3, z55_4, z55_5, z55_6, z55_7, z55_256, z54_6, z54_7, z54_8, z56_0⟩ := id zm
  refine Call.of [some (aR 54), some (aI c)] rfl (Nat.le_of_ble_eq_true rfl) rfl ?_
  refine vc_iload_n dX12_isTeller_0 rfl ?_
  refine vc_iconst dX12_isTeller_1 rfl ?_
  refine vc_aload_n dX12_isTeller_2 rfl ?_
  refine vc_getR dX12_isTeller_3 flX12_7 (s_54 hS) rfl (r_54_0 hS) ?_
  refine vc_iconst dX12_isTeller_6 rfl ?_
  refine vc_iaload dX12_isTeller_7 (s_55 hS) (by omega) (by omega) ?_
  refine vc_topI (mI M 55 2) rfl ?_
  refine vc_topI 0 z55_2 ?_
  refine vc_iconst dX12_isTeller_8 rfl ?_
  refine vc_isubE dX12_isTeller_9 (by omega) (by omega) ?_
  refine vc_topI (-1) rfl ?_
  refine vc_callSF dX12_isTeller_10 (qX12_isIn_e (M := M) c 0 (-1) (by decide)) rfl okX12_isIn stX12_isIn lkX12_83 rfl (Nat.le_of_ble_eq_true rfl) ⟨rfl, rfl⟩ (Nat.le_of_ble_eq_true rfl) (Nat.le_of_ble_eq_true rfl) (Nat.le_of_ble_eq_true rfl) ?_
  refine vc_zret dX12_isTeller_13 rfl (by first | decide | omega) (Nat.le_of_ble_eq_true rfl) (Nat.le_of_ble_eq_true rfl) ?_
  exact ⟨rfl, rfl⟩

set_option maxRecDepth 4000 in
theorem qX12_isTelling_0 {l : Launch} {M : Mem} (hS : St M) (zm : Zm M) (c : Int) : Fn l mdX12_isTelling [aR 54, aI c] M (some (aI (0))) M := by
  obtain ⟨z55_0, z55_1, z55_2, z55_3, z55_4, z55_5, z55_6, z55_7, z55_256, z54_6, z54_7, z54_8, z56_0⟩ := id zm
  refine Call.of [some (aR 54), some (aI c)] rfl (Nat.le_of_ble_eq_true rfl) rfl ?_
  refine vc_iload_n dX12_isTelling_0 rfl ?_
  refine vc_iconst dX12_isTelling_1 rfl ?_
  refine vc_aload_n dX12_isTelling_2 rfl ?_
  refine vc_getR dX12_isTelling_3 flX12_7 (s_54 hS) rfl (r_54_0 hS) ?_
  refine vc_iconst dX12_isTelling_6 rfl ?_
  refine vc_iaload dX12_isTelling_7 (s_55 hS) (by omega) (by omega) ?_
  refine vc_topI (mI M 55 3) rfl ?_
  refine vc_topI 0 z55_3 ?_
  refine vc_iconst dX12_isTelling_8 rfl ?_
  refine vc_isubE dX12_isTelling_9 (by omega) (by omega) ?_
  refine vc_topI (-1) rfl ?_
  refine vc_callSF dX12_isTelling_10 (qX12_isIn_e (M := M) c 0 (-1) (by decide)) rfl okX12_isIn stX12_isIn lkX12_83 rfl (Nat.le_of_ble_eq_true rfl) ⟨rfl, rfl⟩ (Nat.le_of_ble_eq_true rfl) (Nat.le_of_ble_eq_true rfl) (Nat.le_of_ble_eq_true rfl) ?_
  refine vc_zret dX12_isTelling_13 rfl (by first | decide | omega) (Nat.le_of_ble_eq_true rfl) (Nat.le_of_ble_eq_true rfl) ?_
  exact ⟨rfl, rfl⟩

set_option maxRecDepth 4000 in
theorem qX12_findLeads_0 {l : Launch} {M : Mem} (hS : St M) (zm : Zm M)  : Fn l mdX12_findLeads [aR 54] M none M := by
  obtain ⟨z55_0, z55_1, z55_2, z55_3, z55_4, z55_5, z55_6, z55_7, z55_256, z54_6, z54_7, z54_8, z56_0⟩ := id zm
  refine Call.of [some (aR 54), none, none] rfl (Nat.le_of_ble_eq_true rfl) rfl ?_
  refine vc_iconst dX12_findLeads_0 rfl ?_
  refine vc_istore_n dX12_findLeads_1 (by decide) rfl (show _ = [some (aR 54), some (aI 0), none] from rfl) ?_
  refine vc_iload_n dX12_findLeads_2 rfl ?_
  refine vc_aload_n dX12_findLeads_3 rfl ?_
  refine vc_getR dX12_findLeads_4 flX12_7 (s_54 hS) rfl (r_54_0 hS) ?_
  refine vc_iconst dX12_findLeads_7 rfl ?_
  refine vc_iaload dX12_findLeads_8 (s_55 hS) (by omega) (by omega) ?_
  refine vc_topI (mI M 55 3) rfl ?_
  refine vc_topI 0 z55_3 ?_
  refine vc_icmp_ge dX12_findLeads_9 (fun h1 => ?_) (fun h1 => by exfalso; omega)
  refine vc_vret dX12_findLeads_84 rfl (Nat.le_of_ble_eq_true rfl) (Nat.le_of_ble_eq_true rfl) ?_
  exact ⟨rfl, rfl⟩

set_option maxRecDepth 4000 in
theorem qX12_isWalker_0 {l : Launch} {M : Mem} (hS : St M) (zm : Zm M)  : Fn l mdX12_isWalker [aR 54] M (some (aI (0))) M := by
  obtain ⟨z55_0, z55_1, z55_2, z55_3, z55_4, z55_5, z55_6, z55_7, z55_256, z54_6, z54_7, z54_8, z56_0⟩ := id zm
  refine Call.of [some (aR 54)] rfl (Nat.le_of_ble_eq_true rfl) rfl ?_
  refine vc_aload_n dX12_isWalker_0 rfl ?_
  refine vc_getR dX12_isWalker_1 flX12_7 (s_54 hS) rfl (r_54_0 hS) ?_
  refine vc_sipush dX12_isWalker_4 rfl ?_
  refine vc_iaload dX12_isWalker_7 (s_55 hS) (by omega) (by omega) ?_
  refine vc_topI (mI M 55 256) rfl ?_
  refine vc_topI (-1) z55_256 ?_
  refine vc_iconst dX12_isWalker_8 rfl ?_
  refine vc_icmp_eq dX12_isWalker_9 (fun h1 => ?_) (fun h1 => by exfalso; omega)
  refine vc_iconst dX12_isWalker_16 rfl ?_
  refine vc_zret dX12_isWalker_17 rfl (by first | decide | omega) (Nat.le_of_ble_eq_true rfl) (Nat.le_of_ble_eq_true rfl) ?_
  exact ⟨rfl, rfl⟩

def fX12_corner_0 (si : Int) : Int := if fX12_isIn si 0 5 = 0 then (-1) else 1 - 1
def gX12_corner_0 (M : Mem) (si : Int) : Mem := if fX12_isIn si 0 5 = 0 then M else (sI (sI (sI (sI (sI (sI (sI (sI (sI (sI M 55 10 si) 55 11 (-1)) 55 15 (-1)) 55 12 (-1)) 55 16 (-1)) 55 13 (-1)) 55 17 (-1)) 55 14 (-1)) 55 18 (-1)) 55 0 1)
set_option maxRecDepth 4000 in
theorem qX12_corner_0 {l : Launch} {M : Mem} (hS : St M) (zm : Zm M) (si : Int) : Fn l mdX12_corner [aR 54, aI si] M (some (aI (fX12_corner_0 si))) (gX12_corner_0 M si) := by
  obtain ⟨z55_0, z55_1, z55_2, z55_3, z55_4, z55_5, z55_6, z55_7, z55_256, z54_6, z54_7, z54_8, z56_0⟩ := id zm
  refine Call.of [some (aR 54), some (aI si), none, none] rfl (Nat.le_of_ble_eq_true rfl) rfl ?_
  refine vc_iload_n dX12_corner_0 rfl ?_
  refine vc_iconst dX12_corner_1 rfl ?_
  refine vc_iconst dX12_corner_2 rfl ?_
  refine vc_callSF dX12_corner_3 (qX12_isIn (M := M) si 0 5) rfl okX12_isIn stX12_isIn lkX12_83 rfl (Nat.le_of_ble_eq_true rfl) ⟨rfl, rfl⟩ (Nat.le_of_ble_eq_true rfl) (Nat.le_of_ble_eq_true rfl) (Nat.le_of_ble_eq_true rfl) ?_
  refine vc_if_eq dX12_corner_6 (fun h1 => ?_) (fun h1 => ?_)
  · refine vc_iconst dX12_corner_20 rfl ?_
    refine vc_iret dX12_corner_21 rfl (Nat.le_of_ble_eq_true rfl) (Nat.le_of_ble_eq_true rfl) ?_
    exact ⟨by show some (aI _) = some (aI (fX12_corner_0 si)); rw [fX12_corner_0, if_pos h1], by show _ = gX12_corner_0 M si; rw [gX12_corner_0, if_pos h1]⟩
  · refine vc_aload_n dX12_corner_9 rfl ?_
    refine vc_getR dX12_corner_10 flX12_7 (s_54 hS) rfl (r_54_0 hS) ?_
    refine vc_iconst dX12_corner_13 rfl ?_
    refine vc_iaload dX12_corner_14 (s_55 hS) (by omega) (by omega) ?_
    refine vc_topI (mI M 55 0) rfl ?_
    refine vc_topI 0 z55_0 ?_
    refine vc_bipush dX12_corner_15 rfl ?_
    refine vc_icmp_ne dX12_corner_17 (fun h2 => ?_) (fun h2 => by exfalso; omega)
    refine vc_bipush dX12_corner_22 rfl ?_
    refine vc_bipush dX12_corner_24 rfl ?_
    refine vc_aload_n dX12_corner_26 rfl ?_
    refine vc_getR dX12_corner_27 flX12_7 (s_54 hS) rfl (r_54_0 hS) ?_
    refine vc_iconst dX12_corner_30 rfl ?_
    refine vc_iaload dX12_corner_31 (s_55 hS) (by omega) (by omega) ?_
    refine vc_topI (mI M 55 0) rfl ?_
    refine vc_topI 0 z55_0 ?_
    refine vc_imulE dX12_corner_32 (by omega) (by omega) ?_
    refine vc_topI 0 rfl ?_
    refine vc_iaddE dX12_corner_33 (by omega) (by omega) ?_
    refine vc_topI 10 rfl ?_
    refine vc_istore_n dX12_corner_34 (by decide) rfl (show _ = [some (aR 54), some (aI si), some (aI 10), none] from rfl) ?_
    refine vc_aload_n dX12_corner_35 rfl ?_
    refine vc_getR dX12_corner_36 flX12_7 (s_54 hS) rfl (r_54_0 hS) ?_
    refine vc_iload_n dX12_corner_39 rfl ?_
    refine vc_iload_n dX12_corner_40 rfl ?_
    refine vc_iastore dX12_corner_41 (s_55 hS) (by omega) (by omega) ?_
    refine vc_mem (sI M 55 10 si) rfl ?_
    refine vc_iconst dX12_corner_42 rfl ?_
    refine vc_istore_n dX12_corner_43 (by decide) rfl (show _ = [some (aR 54), some (aI si), some (aI 10), some (aI 0)] from rfl) ?_
    refine vc_iload_n dX12_corner_44 rfl ?_
    refine vc_iconst dX12_corner_45 rfl ?_
    refine vc_icmp_ge dX12_corner_46 (fun h3 => by exfalso; omega) (fun h3 => ?_)
    refine vc_aload_n dX12_corner_49 rfl ?_
    refine vc_getR dX12_corner_50 flX12_7 (s_54 (St.I hS _ _ _)) rfl (r_54_0 (St.I hS _ _ _)) ?_
    refine vc_iload_n dX12_corner_53 rfl ?_
    refine vc_iconst dX12_corner_54 rfl ?_
    refine vc_iaddE dX12_corner_55 (by omega) (by omega) ?_
    refine vc_topI 11 rfl ?_
    refine vc_iload_n dX12_corner_56 rfl ?_
    refine vc_iaddE dX12_corner_57 (by omega) (by omega) ?_
    refine vc_topI 11 rfl ?_
    refine vc_iconst dX12_corner_58 rfl ?_
    refine vc_iastore dX12_corner_59 (s_55 (St.I hS _ _ _)) (by omega) (by omega) ?_
    refine vc_mem (sI (sI M 55 10 si) 55 11 (-1)) rfl ?_
    refine vc_aload_n dX12_corner_60 rfl ?_
    refine vc_getR dX12_corner_61 flX12_7 (s_54 (St.I (St.I hS _ _ _) _ _ _)) rfl (r_54_0 (St.I (St.I hS _ _ _) _ _ _)) ?_
    refine vc_iload_n dX12_corner_64 rfl ?_
    refine vc_iconst dX12_corner_65 rfl ?_
    refine vc_iaddE dX12_corner_66 (by omega) (by omega) ?_
    refine vc_topI 15 rfl ?_
    refine vc_iload_n dX12_corner_67 rfl ?_
    refine vc_iaddE dX12_corner_68 (by omega) (by omega) ?_
    refine vc_topI 15 rfl ?_
    refine vc_iconst dX12_corner_69 rfl ?_
    refine vc_iastore dX12_corner_70 (s_55 (St.I (St.I hS _ _ _) _ _ _)) (by omega) (by omega) ?_
    refine vc_mem (sI (sI (sI M 55 10 si) 55 11 (-1)) 55 15 (-1)) rfl ?_
    refine vc_iincE dX12_corner_71 rfl (by omega) (by omega) (by decide) rfl (show _ = [some (aR 54), some (aI si), some (aI 10), some (aI 1)] from rfl) ?_
    refine vc_goto dX12_corner_74 ?_
    refine vc_iload_n dX12_corner_44 rfl ?_
    refine vc_iconst dX12_corner_45 rfl ?_
    refine vc_icmp_ge dX12_corner_46 (fun h4 => by exfalso; omega) (fun h4 => ?_)
    refine vc_aload_n dX12_corner_49 rfl ?_
    refine vc_getR dX12_corner_50 flX12_7 (s_54 (St.I (St.I (St.I hS _ _ _) _ _ _) _ _ _)) rfl (r_54_0 (St.I (St.I (St.I hS _ _ _) _ _ _) _ _ _)) ?_
    refine vc_iload_n dX12_corner_53 rfl ?_
    refine vc_iconst dX12_corner_54 rfl ?_
    refine vc_iaddE dX12_corner_55 (by omega) (by omega) ?_
    refine vc_topI 11 rfl ?_
    refine vc_iload_n dX12_corner_56 rfl ?_
    refine vc_iaddE dX12_corner_57 (by omega) (by omega) ?_
    refine vc_topI 12 rfl ?_
    refine vc_iconst dX12_corner_58 rfl ?_
    refine vc_iastore dX12_corner_59 (s_55 (St.I (St.I (St.I hS _ _ _) _ _ _) _ _ _)) (by omega) (by omega) ?_
    refine vc_mem (sI (sI (sI (sI M 55 10 si) 55 11 (-1)) 55 15 (-1)) 55 12 (-1)) rfl ?_
    refine vc_aload_n dX12_corner_60 rfl ?_
    refine vc_getR dX12_corner_61 flX12_7 (s_54 (St.I (St.I (St.I (St.I hS _ _ _) _ _ _) _ _ _) _ _ _)) rfl (r_54_0 (St.I (St.I (St.I (St.I hS _ _ _) _ _ _) _ _ _) _ _ _)) ?_
    refine vc_iload_n dX12_corner_64 rfl ?_
    refine vc_iconst dX12_corner_65 rfl ?_
    refine vc_iaddE dX12_corner_66 (by omega) (by omega) ?_
    refine vc_topI 15 rfl ?_
    refine vc_iload_n dX12_corner_67 rfl ?_
    refine vc_iaddE dX12_corner_68 (by omega) (by omega) ?_
    refine vc_topI 16 rfl ?_
    refine vc_iconst dX12_corner_69 rfl ?_
    refine vc_iastore dX12_corner_70 (s_55 (St.I (St.I (St.I (St.I hS _ _ _) _ _ _) _ _ _) _ _ _)) (by omega) (by omega) ?_
    refine vc_mem (sI (sI (sI (sI (sI M 55 10 si) 55 11 (-1)) 55 15 (-1)) 55 12 (-1)) 55 16 (-1)) rfl ?_
    refine vc_iincE dX12_corner_71 rfl (by omega) (by omega) (by decide) rfl (show _ = [some (aR 54), some (aI si), some (aI 10), some (aI 2)] from rfl) ?_
    refine vc_goto dX12_corner_74 ?_
    refine vc_iload_n dX12_corner_44 rfl ?_
    refine vc_iconst dX12_corner_45 rfl ?_
    refine vc_icmp_ge dX12_corner_46 (fun h5 => by exfalso; omega) (fun h5 => ?_)
    refine vc_aload_n dX12_corner_49 rfl ?_
    refine vc_getR dX12_corner_50 flX12_7 (s_54 (St.I (St.I (St.I (St.I (St.I hS _ _ _) _ _ _) _ _ _) _ _ _) _ _ _)) rfl (r_54_0 (St.I (St.I (St.I (St.I (St.I hS _ _ _) _ _ _) _ _ _) _ _ _) _ _ _)) ?_
    refine vc_iload_n dX12_corner_53 rfl ?_
    refine vc_iconst dX12_corner_54 rfl ?_
    refine vc_iaddE dX12_corner_55 (by omega) (by omega) ?_
    refine vc_topI 11 rfl ?_
    refine vc_iload_n dX12_corner_56 rfl ?_
    refine vc_iaddE dX12_corner_57 (by omega) (by omega) ?_
    refine vc_topI 13 rfl ?_
    refine vc_iconst dX12_corner_58 rfl ?_
    refine vc_iastore dX12_corner_59 (s_55 (St.I (St.I (St.I (St.I (St.I hS _ _ _) _ _ _) _ _ _) _ _ _) _ _ _)) (by omega) (by omega) ?_
    refine vc_mem (sI (sI (sI (sI (sI (sI M 55 10 si) 55 11 (-1)) 55 15 (-1)) 55 12 (-1)) 55 16 (-1)) 55 13 (-1)) rfl ?_
    refine vc_aload_n dX12_corner_60 rfl ?_
    refine vc_getR dX12_corner_61 flX12_7 (s_54 (St.I (St.I (St.I (St.I (St.I (St.I hS _ _ _) _ _ _) _ _ _) _ _ _) _ _ _) _ _ _)) rfl (r_54_0 (St.I (St.I (St.I (St.I (St.I (St.I hS _ _ _) _ _ _) _ _ _) _ _ _) _ _ _) _ _ _)) ?_
    refine vc_iload_n dX12_corner_64 rfl ?_
    refine vc_iconst dX12_corner_65 rfl ?_
    refine vc_iaddE dX12_corner_66 (by omega) (by omega) ?_
    refine vc_topI 15 rfl ?_
    refine vc_iload_n dX12_corner_67 rfl ?_
    refine vc_iaddE dX12_corner_68 (by omega) (by omega) ?_
    refine vc_topI 17 rfl ?_
    refine vc_iconst dX12_corner_69 rfl ?_
    refine vc_iastore dX12_corner_70 (s_55 (St.I (St.I (St.I (St.I (St.I (St.I hS _ _ _) _ _ _) _ _ _) _ _ _) _ _ _) _ _ _)) (by omega) (by omega) ?_
    refine vc_mem (sI (sI (sI (sI (sI (sI (sI M 55 10 si) 55 11 (-1)) 55 15 (-1)) 55 12 (-1)) 55 16 (-1)) 55 13 (-1)) 55 17 (-1)) rfl ?_
    refine vc_iincE dX12_corner_71 rfl (by omega) (by omega) (by decide) rfl (show _ = [some (aR 54), some (aI si), some (aI 10), some (aI 3)] from rfl) ?_
    refine vc_goto dX12_corner_74 ?_
    refine vc_iload_n dX12_corner_44 rfl ?_
    refine vc_iconst dX12_corner_45 rfl ?_
    refine vc_icmp_ge dX12_corner_46 (fun h6 => by exfalso; omega) (fun h6 => ?_)
    refine vc_aload_n dX12_corner_49 rfl ?_
    refine vc_getR dX12_corner_50 flX12_7 (s_54 (St.I (St.I (St.I (St.I (St.I (St.I (St.I hS _ _ _) _ _ _) _ _ _) _ _ _) _ _ _) _ _ _) _ _ _)) rfl (r_54_0 (St.I (St.I (St.I (St.I (St.I (St.I (St.I hS _ _ _) _ _ _) _ _ _) _ _ _) _ _ _) _ _ _) _ _ _)) ?_
    refine vc_iload_n dX12_corner_53 rfl ?_
    refine vc_iconst dX12_corner_54 rfl ?_
    refine vc_iaddE dX12_corner_55 (by omega) (by omega) ?_
    refine vc_topI 11 rfl ?_
    refine vc_iload_n dX12_corner_56 rfl ?_
    refine vc_iaddE dX12_corner_57 (by omega) (by omega) ?_
    refine vc_topI 14 rfl ?_
    refine vc_iconst dX12_corner_58 rfl ?_
    refine vc_iastore dX12_corner_59 (s_55 (St.I (St.I (St.I (St.I (St.I (St.I (St.I hS _ _ _) _ _ _) _ _ _) _ _ _) _ _ _) _ _ _) _ _ _)) (by omega) (by omega) ?_
    refine vc_mem (sI (sI (sI (sI (sI (sI (sI (sI M 55 10 si) 55 11 (-1)) 55 15 (-1)) 55 12 (-1)) 55 16 (-1)) 55 13 (-1)) 55 17 (-1)) 55 14 (-1)) rfl ?_
    refine vc_aload_n dX12_corner_60 rfl ?_
    refine vc_getR dX12_corner_61 flX12_7 (s_54 (St.I (St.I (St.I (St.I (St.I (St.I (St.I (St.I hS _ _ _) _ _ _) _ _ _) _ _ _) _ _ _) _ _ _) _ _ _) _ _ _)) rfl (r_54_0 (St.I (St.I (St.I (St.I (St.I (St.I (St.I (St.I hS _ _ _) _ _ _) _ _ _) _ _ _) _ _ _) _ _ _) _ _ _) _ _ _)) ?_
    refine vc_iload_n dX12_corner_64 rfl ?_
    refine vc_iconst dX12_corner_65 rfl ?_
    refine vc_iaddE dX12_corner_66 (by omega) (by omega) ?_
    refine vc_topI 15 rfl ?_
    refine vc_iload_n dX12_corner_67 rfl ?_
    refine vc_iaddE dX12_corner_68 (by omega) (by omega) ?_
    refine vc_topI 18 rfl ?_
    refine vc_iconst dX12_corner_69 rfl ?_
    refine vc_iastore dX12_corner_70 (s_55 (St.I (St.I (St.I (St.I (St.I (St.I (St.I (St.I hS _ _ _) _ _ _) _ _ _) _ _ _) _ _ _) _ _ _) _ _ _) _ _ _)) (by omega) (by omega) ?_
    refine vc_mem (sI (sI (sI (sI (sI (sI (sI (sI (sI M 55 10 si) 55 11 (-1)) 55 15 (-1)) 55 12 (-1)) 55 16 (-1)) 55 13 (-1)) 55 17 (-1)) 55 14 (-1)) 55 18 (-1)) rfl ?_
    refine vc_iincE dX12_corner_71 rfl (by omega) (by omega) (by decide) rfl (show _ = [some (aR 54), some (aI si), some (aI 10), some (aI 4)] from rfl) ?_
    refine vc_goto dX12_corner_74 ?_
    refine vc_iload_n dX12_corner_44 rfl ?_
    refine vc_iconst dX12_corner_45 rfl ?_
    refine vc_icmp_ge dX12_corner_46 (fun h7 => ?_) (fun h7 => by exfalso; omega)
    refine vc_aload_n dX12_corner_77 rfl ?_
    refine vc_getR dX12_corner_78 flX12_7 (s_54 (St.I (St.I (St.I (St.I (St.I (St.I (St.I (St.I (St.I hS _ _ _) _ _ _) _ _ _) _ _ _) _ _ _) _ _ _) _ _ _) _ _ _) _ _ _)) rfl (r_54_0 (St.I (St.I (St.I (St.I (St.I (St.I (St.I (St.I (St.I hS _ _ _) _ _ _) _ _ _) _ _ _) _ _ _) _ _ _) _ _ _) _ _ _) _ _ _)) ?_
    refine vc_iconst dX12_corner_81 rfl ?_
    refine vc_dup2 dX12_corner_82 rfl rfl ?_
    refine vc_iaload dX12_corner_83 (s_55 (St.I (St.I (St.I (St.I (St.I (St.I (St.I (St.I (St.I hS _ _ _) _ _ _) _ _ _) _ _ _) _ _ _) _ _ _) _ _ _) _ _ _) _ _ _)) (by omega) (by omega) ?_
    refine vc_topI (mI M 55 0) rfl ?_
    refine vc_topI 0 z55_0 ?_
    refine vc_iconst dX12_corner_84 rfl ?_
    refine vc_iaddE dX12_corner_85 (by omega) (by omega) ?_
    refine vc_topI 1 rfl ?_
    refine vc_iastore dX12_corner_86 (s_55 (St.I (St.I (St.I (St.I (St.I (St.I (St.I (St.I (St.I hS _ _ _) _ _ _) _ _ _) _ _ _) _ _ _) _ _ _) _ _ _) _ _ _) _ _ _)) (by omega) (by omega) ?_
    refine vc_mem (sI (sI (sI (sI (sI (sI (sI (sI (sI (sI M 55 10 si) 55 11 (-1)) 55 15 (-1)) 55 12 (-1)) 55 16 (-1)) 55 13 (-1)) 55 17 (-1)) 55 14 (-1)) 55 18 (-1)) 55 0 1) rfl ?_
    refine vc_aload_n dX12_corner_87 rfl ?_
    refine vc_getR dX12_corner_88 flX12_7 (s_54 (St.I (St.I (St.I (St.I (St.I (St.I (St.I (St.I (St.I (St.I hS _ _ _) _ _ _) _ _ _) _ _ _) _ _ _) _ _ _) _ _ _) _ _ _) _ _ _) _ _ _)) rfl (r_54_0 (St.I (St.I (St.I (St.I (St.I (St.I (St.I (St.I (St.I (St.I hS _ _ _) _ _ _) _ _ _) _ _ _) _ _ _) _ _ _) _ _ _) _ _ _) _ _ _) _ _ _)) ?_
    refine vc_iconst dX12_corner_91 rfl ?_
    refine vc_iaload dX12_corner_92 (s_55 (St.I (St.I (St.I (St.I (St.I (St.I (St.I (St.I (St.I (St.I hS _ _ _) _ _ _) _ _ _) _ _ _) _ _ _) _ _ _) _ _ _) _ _ _) _ _ _) _ _ _)) (by omega) (by omega) ?_
    refine vc_topI (1) rfl ?_
    refine vc_iconst dX12_corner_93 rfl ?_
    refine vc_isubE dX12_corner_94 (by omega) (by omega) ?_
    refine vc_iret dX12_corner_95 rfl (Nat.le_of_ble_eq_true rfl) (Nat.le_of_ble_eq_true rfl) ?_
    exact ⟨by show some (aI _) = some (aI (fX12_corner_0 si)); rw [fX12_corner_0, if_neg h1], by show _ = gX12_corner_0 M si; rw [gX12_corner_0, if_neg h1]⟩
theorem tX12_corner_0 {M : Mem} (hS : St M) (si : Int) : St (gX12_corner_0 M si) := by
  unfold gX12_corner_0
  repeat' split
  all_goals first | exact hS | exact (St.I (St.I (St.I (St.I (St.I (St.I (St.I (St.I (St.I (St.I hS _ _ _) _ _ _) _ _ _) _ _ _) _ _ _) _ _ _) _ _ _) _ _ _) _ _ _) _ _ _)

set_option maxRecDepth 4000 in
theorem qX12_street_0 {l : Launch} {M : Mem} (hS : St M) (zm : Zm M) (fr : Int) (di : Int) (to : Int) (la : Int) : Fn l mdX12_street [aR 54, aI fr, aI di, aI to, aI la] M (some (aI (0))) M := by
  obtain ⟨z55_0, z55_1, z55_2, z55_3, z55_4, z55_5, z55_6, z55_7, z55_256, z54_6, z54_7, z54_8, z56_0⟩ := id zm
  refine Call.of [some (aR 54), some (aI fr), some (aI di), some (aI to), some (aI la), none] rfl (Nat.le_of_ble_eq_true rfl) rfl ?_
  refine vc_aload_n dX12_street_0 rfl ?_
  refine vc_iload_n dX12_street_1 rfl ?_
  refine vc_callVF dX12_street_2 (qX12_isCorner_0 (M := M) hS zm fr) rfl okX12_isCorner viX12_isCorner lkX12_87 (s_54 hS) cl_12 rfl (Nat.le_of_ble_eq_true rfl) ⟨rfl, rfl⟩ (Nat.le_of_ble_eq_true rfl) (Nat.le_of_ble_eq_true rfl) (Nat.le_of_ble_eq_true rfl) ?_
  refine vc_if_eq dX12_street_5 (fun h1 => ?_) (fun h1 => by exfalso; omega)
  refine vc_iconst dX12_street_30 rfl ?_
  refine vc_zret dX12_street_31 rfl (by first | decide | omega) (Nat.le_of_ble_eq_true rfl) (Nat.le_of_ble_eq_true rfl) ?_
  exact ⟨rfl, rfl⟩

def fX12_goal_0 (c : Int) : Int := if c = (-1) then 1 else 0
def gX12_goal_0 (M : Mem) (c : Int) : Mem := if c = (-1) then (sI M 55 1 c) else M
set_option maxRecDepth 4000 in
theorem qX12_goal_0 {l : Launch} {M : Mem} (hS : St M) (zm : Zm M) (c : Int) : Fn l mdX12_goal [aR 54, aI c] M (some (aI (fX12_goal_0 c))) (gX12_goal_0 M c) := by
  obtain ⟨z55_0, z55_1, z55_2, z55_3, z55_4, z55_5, z55_6, z55_7, z55_256, z54_6, z54_7, z54_8, z56_0⟩ := id zm
  refine Call.of [some (aR 54), some (aI c)] rfl (Nat.le_of_ble_eq_true rfl) rfl ?_
  refine vc_iload_n dX12_goal_0 rfl ?_
  refine vc_iconst dX12_goal_1 rfl ?_
  refine vc_icmp_eq dX12_goal_2 (fun h1 => ?_) (fun h1 => ?_)
  · refine vc_aload_n dX12_goal_15 rfl ?_
    refine vc_getR dX12_goal_16 flX12_7 (s_54 hS) rfl (r_54_0 hS) ?_
    refine vc_iconst dX12_goal_19 rfl ?_
    refine vc_iload_n dX12_goal_20 rfl ?_
    refine vc_iastore dX12_goal_21 (s_55 hS) (by omega) (by omega) ?_
    refine vc_mem (sI M 55 1 c) rfl ?_
    refine vc_iconst dX12_goal_22 rfl ?_
    refine vc_zret dX12_goal_23 rfl (by first | decide | omega) (Nat.le_of_ble_eq_true rfl) (Nat.le_of_ble_eq_true rfl) ?_
    exact ⟨by show some (aI _) = some (aI (fX12_goal_0 c)); rw [fX12_goal_0, if_pos h1], by show _ = gX12_goal_0 M c; rw [gX12_goal_0, if_pos h1]⟩
  · refine vc_aload_n dX12_goal_5 rfl ?_
    refine vc_iload_n dX12_goal_6 rfl ?_
    refine vc_callVF dX12_goal_7 (qX12_isCorner_0 (M := M) hS zm c) rfl okX12_isCorner viX12_isCorner lkX12_87 (s_54 hS) cl_12 rfl (Nat.le_of_ble_eq_true rfl) ⟨rfl, rfl⟩ (Nat.le_of_ble_eq_true rfl) (Nat.le_of_ble_eq_true rfl) (Nat.le_of_ble_eq_true rfl) ?_
    refine vc_if_ne dX12_goal_10 (fun h2 => by exfalso; omega) (fun h2 => ?_)
    refine vc_iconst dX12_goal_13 rfl ?_
    refine vc_zret dX12_goal_14 rfl (by first | decide | omega) (Nat.le_of_ble_eq_true rfl) (Nat.le_of_ble_eq_true rfl) ?_
    exact ⟨by show some (aI _) = some (aI (fX12_goal_0 c)); rw [fX12_goal_0, if_neg h1], by show _ = gX12_goal_0 M c; rw [gX12_goal_0, if_neg h1]⟩
theorem tX12_goal_0 {M : Mem} (hS : St M) (c : Int) : St (gX12_goal_0 M c) := by
  unfold gX12_goal_0
  repeat' split
  all_goals first | exact (St.I hS _ _ _) | exact hS
theorem bX12_goal_0 (c : Int) : fX12_goal_0 c = 0 ∨ fX12_goal_0 c = 1 := by
  unfold fX12_goal_0
  repeat' split
  all_goals first | exact Or.inl rfl | exact Or.inr rfl | assumption | omega

set_option maxRecDepth 4000 in
theorem qX12_teller_0 {l : Launch} {M : Mem} (hS : St M) (zm : Zm M) (c : Int) (sw : Int) (le : Int) (mi : Int) : Fn l mdX12_teller [aR 54, aI c, aI sw, aI le, aI mi] M (some (aI ((-1)))) M := by
  obtain ⟨z55_0, z55_1, z55_2, z55_3, z55_4, z55_5, z55_6, z55_7, z55_256, z54_6, z54_7, z54_8, z56_0⟩ := id zm
  refine Call.of [some (aR 54), some (aI c), some (aI sw), some (aI le), some (aI mi), none] rfl (Nat.le_of_ble_eq_true rfl) rfl ?_
  refine vc_aload_n dX12_teller_0 rfl ?_
  refine vc_iload_n dX12_teller_1 rfl ?_
  refine vc_callVF dX12_teller_2 (qX12_isCorner_0 (M := M) hS zm c) rfl okX12_isCorner viX12_isCorner lkX12_87 (s_54 hS) cl_12 rfl (Nat.le_of_ble_eq_true rfl) ⟨rfl, rfl⟩ (Nat.le_of_ble_eq_true rfl) (Nat.le_of_ble_eq_true rfl) (Nat.le_of_ble_eq_true rfl) ?_
  refine vc_if_eq dX12_teller_5 (fun h1 => ?_) (fun h1 => by exfalso; omega)
  refine vc_iconst dX12_teller_50 rfl ?_
  refine vc_iret dX12_teller_51 rfl (Nat.le_of_ble_eq_true rfl) (Nat.le_of_ble_eq_true rfl) ?_
  exact ⟨rfl, rfl⟩

def gX12_telling_0 (M : Mem) (te : Int) (fa : Int) (fi : Int) (mo : Int) : Mem := (sI M 54 4 0)
set_option maxRecDepth 4000 in
theorem qX12_telling_0 {l : Launch} {M : Mem} (hS : St M) (zm : Zm M) (te : Int) (fa : Int) (fi : Int) (mo : Int) : Fn l mdX12_telling [aR 54, aI te, aI fa, aI fi, aI mo] M (some (aI ((-1)))) (gX12_telling_0 M te fa fi mo) := by
  obtain ⟨z55_0, z55_1, z55_2, z55_3, z55_4, z55_5, z55_6, z55_7, z55_256, z54_6, z54_7, z54_8, z56_0⟩ := id zm
  refine Call.of [some (aR 54), some (aI te), some (aI fa), some (aI fi), some (aI mo)] rfl (Nat.le_of_ble_eq_true rfl) rfl ?_
  refine vc_aload_n dX12_telling_0 rfl ?_
  refine vc_iconst dX12_telling_1 rfl ?_
  refine vc_putI dX12_telling_2 (plX12_97 _ rfl) (s_54 hS) rfl ?_
  refine vc_aload_n dX12_telling_5 rfl ?_
  refine vc_iload_n dX12_telling_6 rfl ?_
  refine vc_callVF dX12_telling_7 (qX12_isTeller_0 (M := (sI M 54 4 0)) (St.I hS _ _ _) zm te) rfl okX12_isTeller viX12_isTeller lkX12_103 (s_54 (St.I hS _ _ _)) cl_12 rfl (Nat.le_of_ble_eq_true rfl) ⟨rfl, rfl⟩ (Nat.le_of_ble_eq_true rfl) (Nat.le_of_ble_eq_true rfl) (Nat.le_of_ble_eq_true rfl) ?_
  refine vc_if_eq dX12_telling_10 (fun h1 => ?_) (fun h1 => by exfalso; omega)
  refine vc_iconst dX12_telling_59 rfl ?_
  refine vc_iret dX12_telling_60 rfl (Nat.le_of_ble_eq_true rfl) (Nat.le_of_ble_eq_true rfl) ?_
  exact ⟨rfl, rfl⟩
theorem tX12_telling_0 {M : Mem} (hS : St M) (te : Int) (fa : Int) (fi : Int) (mo : Int) : St (gX12_telling_0 M te fa fi mo) := by
  unfold gX12_telling_0
  all_goals first | exact (St.I hS _ _ _)

def fX12_end_0 (n : Int) : Int := if fX12_isIn n 0 0 = 0 then (-1) else n
def gX12_end_0 (M : Mem) (n : Int) : Mem := if fX12_isIn n 0 0 = 0 then M else (sI M 54 6 n)
set_option maxRecDepth 4000 in
theorem qX12_end_0 {l : Launch} {M : Mem} (hS : St M) (zm : Zm M) (n : Int) : Fn l mdX12_end [aR 54, aI n] M (some (aI (fX12_end_0 n))) (gX12_end_0 M n) := by
  obtain ⟨z55_0, z55_1, z55_2, z55_3, z55_4, z55_5, z55_6, z55_7, z55_256, z54_6, z54_7, z54_8, z56_0⟩ := id zm
  refine Call.of [some (aR 54), some (aI n)] rfl (Nat.le_of_ble_eq_true rfl) rfl ?_
  refine vc_iload_n dX12_end_0 rfl ?_
  refine vc_iconst dX12_end_1 rfl ?_
  refine vc_aload_n dX12_end_2 rfl ?_
  refine vc_getI dX12_end_3 flX12_112 (s_54 hS) rfl ?_
  refine vc_topI 0 z54_6 ?_
  refine vc_callSF dX12_end_6 (qX12_isIn (M := M) n 0 0) rfl okX12_isIn stX12_isIn lkX12_83 rfl (Nat.le_of_ble_eq_true rfl) ⟨rfl, rfl⟩ (Nat.le_of_ble_eq_true rfl) (Nat.le_of_ble_eq_true rfl) (Nat.le_of_ble_eq_true rfl) ?_
  refine vc_if_ne dX12_end_9 (fun h1 => ?_) (fun h1 => ?_)
  · refine vc_aload_n dX12_end_14 rfl ?_
    refine vc_iload_n dX12_end_15 rfl ?_
    refine vc_putI dX12_end_16 (plX12_112 _ rfl) (s_54 hS) rfl ?_
    refine vc_iload_n dX12_end_19 rfl ?_
    refine vc_iret dX12_end_20 rfl (Nat.le_of_ble_eq_true rfl) (Nat.le_of_ble_eq_true rfl) ?_
    exact ⟨by show some (aI _) = some (aI (fX12_end_0 n)); rw [fX12_end_0, if_neg h1], by show _ = gX12_end_0 M n; rw [gX12_end_0, if_neg h1]⟩
  · refine vc_iconst dX12_end_12 rfl ?_
    refine vc_iret dX12_end_13 rfl (Nat.le_of_ble_eq_true rfl) (Nat.le_of_ble_eq_true rfl) ?_
    exact ⟨by show some (aI _) = some (aI (fX12_end_0 n)); rw [fX12_end_0, if_pos h1], by show _ = gX12_end_0 M n; rw [gX12_end_0, if_pos h1]⟩
theorem tX12_end_0 {M : Mem} (hS : St M) (n : Int) : St (gX12_end_0 M n) := by
  unfold gX12_end_0
  repeat' split
  all_goals first | exact (St.I hS _ _ _) | exact hS

set_option maxRecDepth 4000 in
theorem qX12_fault_0 {l : Launch} {M : Mem} (hS : St M) (zm : Zm M) (wh : Int) : Fn l mdX12_fault [aR 54, aI wh] M (some (aI ((-1)))) M := by
  obtain ⟨z55_0, z55_1, z55_2, z55_3, z55_4, z55_5, z55_6, z55_7, z55_256, z54_6, z54_7, z54_8, z56_0⟩ := id zm
  refine Call.of [some (aR 54), some (aI wh)] rfl (Nat.le_of_ble_eq_true rfl) rfl ?_
  refine vc_iload_n dX12_fault_0 rfl ?_
  refine vc_if_ne dX12_fault_1 (fun h1 => ?_) (fun h1 => ?_)
  · refine vc_iload_n dX12_fault_11 rfl ?_
    refine vc_iconst dX12_fault_12 rfl ?_
    refine vc_icmp_ne dX12_fault_13 (fun h2 => ?_) (fun h2 => ?_)
    · refine vc_iconst dX12_fault_23 rfl ?_
      refine vc_iret dX12_fault_24 rfl (Nat.le_of_ble_eq_true rfl) (Nat.le_of_ble_eq_true rfl) ?_
      exact ⟨rfl, rfl⟩
    · refine vc_aload_n dX12_fault_16 rfl ?_
      refine vc_getI dX12_fault_17 flX12_29 (s_54 hS) rfl ?_
      refine vc_topI (-1) z54_8 ?_
      refine vc_goto dX12_fault_20 ?_
      refine vc_iret dX12_fault_24 rfl (Nat.le_of_ble_eq_true rfl) (Nat.le_of_ble_eq_true rfl) ?_
      exact ⟨rfl, rfl⟩
  · refine vc_aload_n dX12_fault_4 rfl ?_
    refine vc_getI dX12_fault_5 flX12_25 (s_54 hS) rfl ?_
    refine vc_topI (-1) z54_7 ?_
    refine vc_goto dX12_fault_8 ?_
    refine vc_iret dX12_fault_24 rfl (Nat.le_of_ble_eq_true rfl) (Nat.le_of_ble_eq_true rfl) ?_
    exact ⟨rfl, rfl⟩

def fX12_by_0 (te : Int) : Int := if fX12_isIn te (-1) (-1) = 0 then 0 else 1
def gX12_by_0 (M : Mem) (te : Int) : Mem := if fX12_isIn te (-1) (-1) = 0 then M else (sI M 55 6 te)
set_option maxRecDepth 4000 in
theorem qX12_by_0 {l : Launch} {M : Mem} (hS : St M) (zm : Zm M) (te : Int) : Fn l mdX12_by [aR 54, aI te] M (some (aI (fX12_by_0 te))) (gX12_by_0 M te) := by
  obtain ⟨z55_0, z55_1, z55_2, z55_3, z55_4, z55_5, z55_6, z55_7, z55_256, z54_6, z54_7, z54_8, z56_0⟩ := id zm
  refine Call.of [some (aR 54), some (aI te)] rfl (Nat.le_of_ble_eq_true rfl) rfl ?_
  refine vc_iload_n dX12_by_0 rfl ?_
  refine vc_iconst dX12_by_1 rfl ?_
  refine vc_aload_n dX12_by_2 rfl ?_
  refine vc_getR dX12_by_3 flX12_7 (s_54 hS) rfl (r_54_0 hS) ?_
  refine vc_iconst dX12_by_6 rfl ?_
  refine vc_iaload dX12_by_7 (s_55 hS) (by omega) (by omega) ?_
  refine vc_topI (mI M 55 5) rfl ?_
  refine vc_topI 0 z55_5 ?_
  refine vc_iconst dX12_by_8 rfl ?_
  refine vc_isubE dX12_by_9 (by omega) (by omega) ?_
  refine vc_topI (-1) rfl ?_
  refine vc_callSF dX12_by_10 (qX12_isIn (M := M) te (-1) (-1)) rfl okX12_isIn stX12_isIn lkX12_83 rfl (Nat.le_of_ble_eq_true rfl) ⟨rfl, rfl⟩ (Nat.le_of_ble_eq_true rfl) (Nat.le_of_ble_eq_true rfl) (Nat.le_of_ble_eq_true rfl) ?_
  refine vc_if_ne dX12_by_13 (fun h1 => ?_) (fun h1 => ?_)
  · refine vc_aload_n dX12_by_18 rfl ?_
    refine vc_getR dX12_by_19 flX12_7 (s_54 hS) rfl (r_54_0 hS) ?_
    refine vc_bipush dX12_by_22 rfl ?_
    refine vc_iload_n dX12_by_24 rfl ?_
    refine vc_iastore dX12_by_25 (s_55 hS) (by omega) (by omega) ?_
    refine vc_mem (sI M 55 6 te) rfl ?_
    refine vc_iconst dX12_by_26 rfl ?_
    refine vc_zret dX12_by_27 rfl (by first | decide | omega) (Nat.le_of_ble_eq_true rfl) (Nat.le_of_ble_eq_true rfl) ?_
    exact ⟨by show some (aI _) = some (aI (fX12_by_0 te)); rw [fX12_by_0, if_neg h1], by show _ = gX12_by_0 M te; rw [gX12_by_0, if_neg h1]⟩
  · refine vc_iconst dX12_by_16 rfl ?_
    refine vc_zret dX12_by_17 rfl (by first | decide | omega) (Nat.le_of_ble_eq_true rfl) (Nat.le_of_ble_eq_true rfl) ?_
    exact ⟨by show some (aI _) = some (aI (fX12_by_0 te)); rw [fX12_by_0, if_pos h1], by show _ = gX12_by_0 M te; rw [gX12_by_0, if_pos h1]⟩
theorem tX12_by_0 {M : Mem} (hS : St M) (te : Int) : St (gX12_by_0 M te) := by
  unfold gX12_by_0
  repeat' split
  all_goals first | exact (St.I hS _ _ _) | exact hS
theorem bX12_by_0 (te : Int) : fX12_by_0 te = 0 ∨ fX12_by_0 te = 1 := by
  unfold fX12_by_0
  repeat' split
  all_goals first | exact Or.inl rfl | exact Or.inr rfl | assumption | omega

set_option maxRecDepth 4000 in
theorem qX12_start_0 {l : Launch} {M : Mem} (hS : St M) (zm : Zm M) (c : Int) (fa : Int) : Fn l mdX12_start [aR 54, aI c, aI fa] M (some (aI (0))) M := by
  obtain ⟨z55_0, z55_1, z55_2, z55_3, z55_4, z55_5, z55_6, z55_7, z55_256, z54_6, z54_7, z54_8, z56_0⟩ := id zm
  refine Call.of [some (aR 54), some (aI c), some (aI fa)] rfl (Nat.le_of_ble_eq_true rfl) rfl ?_
  refine vc_aload_n dX12_start_0 rfl ?_
  refine vc_iload_n dX12_start_1 rfl ?_
  refine vc_callVF dX12_start_2 (qX12_isCorner_0 (M := M) hS zm c) rfl okX12_isCorner viX12_isCorner lkX12_87 (s_54 hS) cl_12 rfl (Nat.le_of_ble_eq_true rfl) ⟨rfl, rfl⟩ (Nat.le_of_ble_eq_true rfl) (Nat.le_of_ble_eq_true rfl) (Nat.le_of_ble_eq_true rfl) ?_
  refine vc_if_eq dX12_start_5 (fun h1 => ?_) (fun h1 => by exfalso; omega)
  refine vc_iconst dX12_start_17 rfl ?_
  refine vc_zret dX12_start_18 rfl (by first | decide | omega) (Nat.le_of_ble_eq_true rfl) (Nat.le_of_ble_eq_true rfl) ?_
  exact ⟨rfl, rfl⟩

set_option maxRecDepth 4000 in
theorem qX12_walk_0 {l : Launch} {M : Mem} (hS : St M) (zm : Zm M) (n : Int) : Fn l mdX12_walk [aR 54, aI n] M (some (aI ((-1)))) M := by
  obtain ⟨z55_0, z55_1, z55_2, z55_3, z55_4, z55_5, z55_6, z55_7, z55_256, z54_6, z54_7, z54_8, z56_0⟩ := id zm
  refine Call.of [some (aR 54), some (aI n)] rfl (Nat.le_of_ble_eq_true rfl) rfl ?_
  refine vc_aload_n dX12_walk_0 rfl ?_
  refine vc_callVF dX12_walk_1 (qX12_isWalker_0 (M := M) hS zm ) rfl okX12_isWalker viX12_isWalker lkX12_379 (s_54 hS) cl_12 rfl (Nat.le_of_ble_eq_true rfl) ⟨rfl, rfl⟩ (Nat.le_of_ble_eq_true rfl) (Nat.le_of_ble_eq_true rfl) (Nat.le_of_ble_eq_true rfl) ?_
  refine vc_if_eq dX12_walk_4 (fun h1 => ?_) (fun h1 => by exfalso; omega)
  refine vc_iconst dX12_walk_26 rfl ?_
  refine vc_iret dX12_walk_27 rfl (Nat.le_of_ble_eq_true rfl) (Nat.le_of_ble_eq_true rfl) ?_
  exact ⟨rfl, rfl⟩

set_option maxRecDepth 4000 in
theorem qX12_turn_0 {l : Launch} {M : Mem} (hS : St M) (zm : Zm M) (si : Int) : Fn l mdX12_turn [aR 54, aI si] M (some (aI ((-1)))) M := by
  obtain ⟨z55_0, z55_1, z55_2, z55_3, z55_4, z55_5, z55_6, z55_7, z55_256, z54_6, z54_7, z54_8, z56_0⟩ := id zm
  refine Call.of [some (aR 54), some (aI si)] rfl (Nat.le_of_ble_eq_true rfl) rfl ?_
  refine vc_aload_n dX12_turn_0 rfl ?_
  refine vc_callVF dX12_turn_1 (qX12_isWalker_0 (M := M) hS zm ) rfl okX12_isWalker viX12_isWalker lkX12_379 (s_54 hS) cl_12 rfl (Nat.le_of_ble_eq_true rfl) ⟨rfl, rfl⟩ (Nat.le_of_ble_eq_true rfl) (Nat.le_of_ble_eq_true rfl) (Nat.le_of_ble_eq_true rfl) ?_
  refine vc_if_eq dX12_turn_4 (fun h1 => ?_) (fun h1 => by exfalso; omega)
  refine vc_iconst dX12_turn_16 rfl ?_
  refine vc_iret dX12_turn_17 rfl (Nat.le_of_ble_eq_true rfl) (Nat.le_of_ble_eq_true rfl) ?_
  exact ⟨rfl, rfl⟩

set_option maxRecDepth 4000 in
theorem qX12_ask_0 {l : Launch} {M : Mem} (hS : St M) (zm : Zm M) (te : Int) : Fn l mdX12_ask [aR 54, aI te] M (some (aI ((-1)))) M := by
  obtain ⟨z55_0, z55_1, z55_2, z55_3, z55_4, z55_5, z55_6, z55_7, z55_256, z54_6, z54_7, z54_8, z56_0⟩ := id zm
  refine Call.of [some (aR 54), some (aI te)] rfl (Nat.le_of_ble_eq_true rfl) rfl ?_
  refine vc_aload_n dX12_ask_0 rfl ?_
  refine vc_iload_n dX12_ask_1 rfl ?_
  refine vc_callVF dX12_ask_2 (qX12_isTeller_0 (M := M) hS zm te) rfl okX12_isTeller viX12_isTeller lkX12_103 (s_54 hS) cl_12 rfl (Nat.le_of_ble_eq_true rfl) ⟨rfl, rfl⟩ (Nat.le_of_ble_eq_true rfl) (Nat.le_of_ble_eq_true rfl) (Nat.le_of_ble_eq_true rfl) ?_
  refine vc_if_eq dX12_ask_5 (fun h1 => ?_) (fun h1 => by exfalso; omega)
  refine vc_iconst dX12_ask_31 rfl ?_
  refine vc_iret dX12_ask_32 rfl (Nat.le_of_ble_eq_true rfl) (Nat.le_of_ble_eq_true rfl) ?_
  exact ⟨rfl, rfl⟩

set_option maxRecDepth 4000 in
theorem qX12_follow_0 {l : Launch} {M : Mem} (hS : St M) (zm : Zm M) (te : Int) : Fn l mdX12_follow [aR 54, aI te] M (some (aI ((-1)))) M := by
  obtain ⟨z55_0, z55_1, z55_2, z55_3, z55_4, z55_5, z55_6, z55_7, z55_256, z54_6, z54_7, z54_8, z56_0⟩ := id zm
  refine Call.of [some (aR 54), some (aI te), none] rfl (Nat.le_of_ble_eq_true rfl) rfl ?_
  refine vc_aload_n dX12_follow_0 rfl ?_
  refine vc_iload_n dX12_follow_1 rfl ?_
  refine vc_callVF dX12_follow_2 (qX12_isTelling_0 (M := M) hS zm te) rfl okX12_isTelling viX12_isTelling lkX12_400 (s_54 hS) cl_12 rfl (Nat.le_of_ble_eq_true rfl) ⟨rfl, rfl⟩ (Nat.le_of_ble_eq_true rfl) (Nat.le_of_ble_eq_true rfl) (Nat.le_of_ble_eq_true rfl) ?_
  refine vc_if_eq dX12_follow_5 (fun h1 => ?_) (fun h1 => by exfalso; omega)
  refine vc_iconst dX12_follow_15 rfl ?_
  refine vc_iret dX12_follow_16 rfl (Nat.le_of_ble_eq_true rfl) (Nat.le_of_ble_eq_true rfl) ?_
  exact ⟨rfl, rfl⟩

set_option maxRecDepth 4000 in
theorem qX12_played_0 {l : Launch} {M : Mem} (hS : St M) (zm : Zm M) (te : Int) : Fn l mdX12_played [aR 54, aI te] M (some (aI ((-2)))) M := by
  obtain ⟨z55_0, z55_1, z55_2, z55_3, z55_4, z55_5, z55_6, z55_7, z55_256, z54_6, z54_7, z54_8, z56_0⟩ := id zm
  refine Call.of [some (aR 54), some (aI te), none] rfl (Nat.le_of_ble_eq_true rfl) rfl ?_
  refine vc_iload_n dX12_played_0 rfl ?_
  refine vc_iconst dX12_played_1 rfl ?_
  refine vc_aload_n dX12_played_2 rfl ?_
  refine vc_getR dX12_played_3 flX12_7 (s_54 hS) rfl (r_54_0 hS) ?_
  refine vc_iconst dX12_played_6 rfl ?_
  refine vc_iaload dX12_played_7 (s_55 hS) (by omega) (by omega) ?_
  refine vc_topI (mI M 55 5) rfl ?_
  refine vc_topI 0 z55_5 ?_
  refine vc_iconst dX12_played_8 rfl ?_
  refine vc_isubE dX12_played_9 (by omega) (by omega) ?_
  refine vc_topI (-1) rfl ?_
  refine vc_callSF dX12_played_10 (qX12_isIn_e (M := M) te 0 (-1) (by decide)) rfl okX12_isIn stX12_isIn lkX12_83 rfl (Nat.le_of_ble_eq_true rfl) ⟨rfl, rfl⟩ (Nat.le_of_ble_eq_true rfl) (Nat.le_of_ble_eq_true rfl) (Nat.le_of_ble_eq_true rfl) ?_
  refine vc_if_ne dX12_played_13 (fun h1 => by exfalso; omega) (fun h1 => ?_)
  refine vc_bipush dX12_played_16 rfl ?_
  refine vc_iret dX12_played_18 rfl (Nat.le_of_ble_eq_true rfl) (Nat.le_of_ble_eq_true rfl) ?_
  exact ⟨rfl, rfl⟩

def fX12_clash_0 (i : Int) : Int := if (-1) ≤ i then if i = (-1) then 0 else (-1) else (-1)
set_option maxRecDepth 4000 in
theorem qX12_clash_0 {l : Launch} {M : Mem} (hS : St M) (zm : Zm M) (i : Int) : Fn l mdX12_clash [aR 54, aI i] M (some (aI (fX12_clash_0 i))) M := by
  obtain ⟨z55_0, z55_1, z55_2, z55_3, z55_4, z55_5, z55_6, z55_7, z55_256, z54_6, z54_7, z54_8, z56_0⟩ := id zm
  refine Call.of [some (aR 54), some (aI i), none, none, none] rfl (Nat.le_of_ble_eq_true rfl) rfl ?_
  refine vc_iload_n dX12_clash_0 rfl ?_
  refine vc_iconst dX12_clash_1 rfl ?_
  refine vc_icmp_ge dX12_clash_2 (fun h1 => ?_) (fun h1 => ?_)
  · refine vc_aload_n dX12_clash_7 rfl ?_
    refine vc_callVU dX12_clash_8 (qX12_findLeads_0 (M := M) hS zm ) rfl okX12_findLeads viX12_findLeads lkX12_480 (s_54 hS) cl_12 rfl (Nat.le_of_ble_eq_true rfl) ⟨rfl, rfl⟩ (Nat.le_of_ble_eq_true rfl) (Nat.le_of_ble_eq_true rfl) (Nat.le_of_ble_eq_true rfl) ?_
    refine vc_iconst dX12_clash_11 rfl ?_
    refine vc_istore_n dX12_clash_12 (by decide) rfl (show _ = [some (aR 54), some (aI i), some (aI 0), none, none] from rfl) ?_
    refine vc_iconst dX12_clash_13 rfl ?_
    refine vc_istore_n dX12_clash_14 (by decide) rfl (show _ = [some (aR 54), some (aI i), some (aI 0), some (aI 0), none] from rfl) ?_
    refine vc_iload_n dX12_clash_15 rfl ?_
    refine vc_aload_n dX12_clash_16 rfl ?_
    refine vc_getR dX12_clash_17 flX12_7 (s_54 hS) rfl (r_54_0 hS) ?_
    refine vc_iconst dX12_clash_20 rfl ?_
    refine vc_iaload dX12_clash_21 (s_55 hS) (by omega) (by omega) ?_
    refine vc_topI (mI M 55 3) rfl ?_
    refine vc_topI 0 z55_3 ?_
    refine vc_icmp_ge dX12_clash_22 (fun h2 => ?_) (fun h2 => by exfalso; omega)
    refine vc_iload_n dX12_clash_89 rfl ?_
    refine vc_iconst dX12_clash_90 rfl ?_
    refine vc_icmp_ne dX12_clash_91 (fun h3 => ?_) (fun h3 => ?_)
    · refine vc_iconst dX12_clash_98 rfl ?_
      refine vc_iret dX12_clash_99 rfl (Nat.le_of_ble_eq_true rfl) (Nat.le_of_ble_eq_true rfl) ?_
      exact ⟨by show some (aI _) = some (aI (fX12_clash_0 i)); rw [fX12_clash_0, if_pos h1, if_neg h3], rfl⟩
    · refine vc_iload_n dX12_clash_94 rfl ?_
      refine vc_goto dX12_clash_95 ?_
      refine vc_iret dX12_clash_99 rfl (Nat.le_of_ble_eq_true rfl) (Nat.le_of_ble_eq_true rfl) ?_
      exact ⟨by show some (aI _) = some (aI (fX12_clash_0 i)); rw [fX12_clash_0, if_pos h1, if_pos h3], rfl⟩
  · refine vc_iconst dX12_clash_5 rfl ?_
    refine vc_iret dX12_clash_6 rfl (Nat.le_of_ble_eq_true rfl) (Nat.le_of_ble_eq_true rfl) ?_
    exact ⟨by show some (aI _) = some (aI (fX12_clash_0 i)); rw [fX12_clash_0, if_neg h1], rfl⟩

set_option maxRecDepth 4000 in
theorem qX12_day_0 {l : Launch} {M : Mem} (hS : St M) (zm : Zm M) (se : Int) (n : Int) : Fn l mdX12_day [aR 54, aI se, aI n] M (some (aI ((-1)))) M := by
  obtain ⟨z55_0, z55_1, z55_2, z55_3, z55_4, z55_5, z55_6, z55_7, z55_256, z54_6, z54_7, z54_8, z56_0⟩ := id zm
  refine Call.of [some (aR 54), some (aI se), some (aI n), none] rfl (Nat.le_of_ble_eq_true rfl) rfl ?_
  refine vc_iload_n dX12_day_0 rfl ?_
  refine vc_iconst dX12_day_1 rfl ?_
  refine vc_sipush dX12_day_2 rfl ?_
  refine vc_callSF dX12_day_5 (qX12_isIn (M := M) se 0 9999) rfl okX12_isIn stX12_isIn lkX12_83 rfl (Nat.le_of_ble_eq_true rfl) ⟨rfl, rfl⟩ (Nat.le_of_ble_eq_true rfl) (Nat.le_of_ble_eq_true rfl) (Nat.le_of_ble_eq_true rfl) ?_
  refine vc_if_eq dX12_day_8 (fun h1 => ?_) (fun h1 => ?_)
  · refine vc_iconst dX12_day_30 rfl ?_
    refine vc_iret dX12_day_31 rfl (Nat.le_of_ble_eq_true rfl) (Nat.le_of_ble_eq_true rfl) ?_
    exact ⟨rfl, rfl⟩
  · refine vc_iload_n dX12_day_11 rfl ?_
    refine vc_iconst dX12_day_12 rfl ?_
    refine vc_bipush dX12_day_13 rfl ?_
    refine vc_callSF dX12_day_15 (qX12_isIn (M := M) n 1 30) rfl okX12_isIn stX12_isIn lkX12_83 rfl (Nat.le_of_ble_eq_true rfl) ⟨rfl, rfl⟩ (Nat.le_of_ble_eq_true rfl) (Nat.le_of_ble_eq_true rfl) (Nat.le_of_ble_eq_true rfl) ?_
    refine vc_if_eq dX12_day_18 (fun h2 => ?_) (fun h2 => ?_)
    · refine vc_iconst dX12_day_30 rfl ?_
      refine vc_iret dX12_day_31 rfl (Nat.le_of_ble_eq_true rfl) (Nat.le_of_ble_eq_true rfl) ?_
      exact ⟨rfl, rfl⟩
    · refine vc_aload_n dX12_day_21 rfl ?_
      refine vc_getR dX12_day_22 flX12_7 (s_54 hS) rfl (r_54_0 hS) ?_
      refine vc_iconst dX12_day_25 rfl ?_
      refine vc_iaload dX12_day_26 (s_55 hS) (by omega) (by omega) ?_
      refine vc_topI (mI M 55 0) rfl ?_
      refine vc_topI 0 z55_0 ?_
      refine vc_if_ne dX12_day_27 (fun h3 => by exfalso; omega) (fun h3 => ?_)
      refine vc_iconst dX12_day_30 rfl ?_
      refine vc_iret dX12_day_31 rfl (Nat.le_of_ble_eq_true rfl) (Nat.le_of_ble_eq_true rfl) ?_
      exact ⟨rfl, rfl⟩

set_option maxRecDepth 4000 in
theorem qX12_undo_0 {l : Launch} {M : Mem} (hS : St M) (zm : Zm M)  : Fn l mdX12_undo [aR 54] M (some (aI ((-1)))) M := by
  obtain ⟨z55_0, z55_1, z55_2, z55_3, z55_4, z55_5, z55_6, z55_7, z55_256, z54_6, z54_7, z54_8, z56_0⟩ := id zm
  refine Call.of [some (aR 54), none, none] rfl (Nat.le_of_ble_eq_true rfl) rfl ?_
  refine vc_aload_n dX12_undo_0 rfl ?_
  refine vc_getR dX12_undo_1 flX12_7 (s_54 hS) rfl (r_54_0 hS) ?_
  refine vc_bipush dX12_undo_4 rfl ?_
  refine vc_iaload dX12_undo_6 (s_55 hS) (by omega) (by omega) ?_
  refine vc_topI (mI M 55 7) rfl ?_
  refine vc_topI 0 z55_7 ?_
  refine vc_if_ne dX12_undo_7 (fun h1 => by exfalso; omega) (fun h1 => ?_)
  refine vc_iconst dX12_undo_10 rfl ?_
  refine vc_iret dX12_undo_11 rfl (Nat.le_of_ble_eq_true rfl) (Nat.le_of_ble_eq_true rfl) ?_
  exact ⟨rfl, rfl⟩

set_option maxRecDepth 4000 in
theorem qX12_walker_0 {l : Launch} {M : Mem} (hS : St M) (zm : Zm M) (wh : Int) : Fn l mdX12_walker [aR 54, aI wh] M (some (aI ((-1)))) M := by
  obtain ⟨z55_0, z55_1, z55_2, z55_3, z55_4, z55_5, z55_6, z55_7, z55_256, z54_6, z54_7, z54_8, z56_0⟩ := id zm
  refine Call.of [some (aR 54), some (aI wh)] rfl (Nat.le_of_ble_eq_true rfl) rfl ?_
  refine vc_aload_n dX12_walker_0 rfl ?_
  refine vc_callVF dX12_walker_1 (qX12_isWalker_0 (M := M) hS zm ) rfl okX12_isWalker viX12_isWalker lkX12_379 (s_54 hS) cl_12 rfl (Nat.le_of_ble_eq_true rfl) ⟨rfl, rfl⟩ (Nat.le_of_ble_eq_true rfl) (Nat.le_of_ble_eq_true rfl) (Nat.le_of_ble_eq_true rfl) ?_
  refine vc_if_eq dX12_walker_4 (fun h1 => ?_) (fun h1 => by exfalso; omega)
  refine vc_iconst dX12_walker_29 rfl ?_
  refine vc_iret dX12_walker_30 rfl (Nat.le_of_ble_eq_true rfl) (Nat.le_of_ble_eq_true rfl) ?_
  exact ⟨rfl, rfl⟩

set_option maxRecDepth 4000 in
theorem qX12_ofCorner_0 {l : Launch} {M : Mem} (hS : St M) (zm : Zm M) (c : Int) (wh : Int) : Fn l mdX12_ofCorner [aR 54, aI c, aI wh] M (some (aI ((-2)))) M := by
  obtain ⟨z55_0, z55_1, z55_2, z55_3, z55_4, z55_5, z55_6, z55_7, z55_256, z54_6, z54_7, z54_8, z56_0⟩ := id zm
  refine Call.of [some (aR 54), some (aI c), some (aI wh)] rfl (Nat.le_of_ble_eq_true rfl) rfl ?_
  refine vc_aload_n dX12_ofCorner_0 rfl ?_
  refine vc_iload_n dX12_ofCorner_1 rfl ?_
  refine vc_callVF dX12_ofCorner_2 (qX12_isCorner_0 (M := M) hS zm c) rfl okX12_isCorner viX12_isCorner lkX12_87 (s_54 hS) cl_12 rfl (Nat.le_of_ble_eq_true rfl) ⟨rfl, rfl⟩ (Nat.le_of_ble_eq_true rfl) (Nat.le_of_ble_eq_true rfl) (Nat.le_of_ble_eq_true rfl) ?_
  refine vc_if_eq dX12_ofCorner_5 (fun h1 => ?_) (fun h1 => by exfalso; omega)
  refine vc_bipush dX12_ofCorner_35 rfl ?_
  refine vc_iret dX12_ofCorner_37 rfl (Nat.le_of_ble_eq_true rfl) (Nat.le_of_ble_eq_true rfl) ?_
  exact ⟨rfl, rfl⟩

set_option maxRecDepth 4000 in
theorem qX12_ofTeller_0 {l : Launch} {M : Mem} (hS : St M) (zm : Zm M) (te : Int) (wh : Int) : Fn l mdX12_ofTeller [aR 54, aI te, aI wh] M (some (aI ((-1)))) M := by
  obtain ⟨z55_0, z55_1, z55_2, z55_3, z55_4, z55_5, z55_6, z55_7, z55_256, z54_6, z54_7, z54_8, z56_0⟩ := id zm
  refine Call.of [some (aR 54), some (aI te), some (aI wh)] rfl (Nat.le_of_ble_eq_true rfl) rfl ?_
  refine vc_aload_n dX12_ofTeller_0 rfl ?_
  refine vc_iload_n dX12_ofTeller_1 rfl ?_
  refine vc_callVF dX12_ofTeller_2 (qX12_isTeller_0 (M := M) hS zm te) rfl okX12_isTeller viX12_isTeller lkX12_103 (s_54 hS) cl_12 rfl (Nat.le_of_ble_eq_true rfl) ⟨rfl, rfl⟩ (Nat.le_of_ble_eq_true rfl) (Nat.le_of_ble_eq_true rfl) (Nat.le_of_ble_eq_true rfl) ?_
  refine vc_if_eq dX12_ofTeller_5 (fun h1 => ?_) (fun h1 => by exfalso; omega)
  refine vc_iconst dX12_ofTeller_34 rfl ?_
  refine vc_iret dX12_ofTeller_35 rfl (Nat.le_of_ble_eq_true rfl) (Nat.le_of_ble_eq_true rfl) ?_
  exact ⟨rfl, rfl⟩

set_option maxRecDepth 4000 in
theorem qX12_ofTelling_0 {l : Launch} {M : Mem} (hS : St M) (zm : Zm M) (te : Int) (wh : Int) : Fn l mdX12_ofTelling [aR 54, aI te, aI wh] M (some (aI ((-1)))) M := by
  obtain ⟨z55_0, z55_1, z55_2, z55_3, z55_4, z55_5, z55_6, z55_7, z55_256, z54_6, z54_7, z54_8, z56_0⟩ := id zm
  refine Call.of [some (aR 54), some (aI te), some (aI wh)] rfl (Nat.le_of_ble_eq_true rfl) rfl ?_
  refine vc_aload_n dX12_ofTelling_0 rfl ?_
  refine vc_iload_n dX12_ofTelling_1 rfl ?_
  refine vc_callVF dX12_ofTelling_2 (qX12_isTelling_0 (M := M) hS zm te) rfl okX12_isTelling viX12_isTelling lkX12_400 (s_54 hS) cl_12 rfl (Nat.le_of_ble_eq_true rfl) ⟨rfl, rfl⟩ (Nat.le_of_ble_eq_true rfl) (Nat.le_of_ble_eq_true rfl) (Nat.le_of_ble_eq_true rfl) ?_
  refine vc_if_ne dX12_ofTelling_5 (fun h1 => by exfalso; omega) (fun h1 => ?_)
  refine vc_iconst dX12_ofTelling_8 rfl ?_
  refine vc_iret dX12_ofTelling_9 rfl (Nat.le_of_ble_eq_true rfl) (Nat.le_of_ble_eq_true rfl) ?_
  exact ⟨rfl, rfl⟩

set_option maxRecDepth 4000 in
theorem qX12_leads_0 {l : Launch} {M : Mem} (hS : St M) (zm : Zm M) (te : Int) (sl : Int) : Fn l mdX12_leads [aR 54, aI te, aI sl] M (some (aI ((-1)))) M := by
  obtain ⟨z55_0, z55_1, z55_2, z55_3, z55_4, z55_5, z55_6, z55_7, z55_256, z54_6, z54_7, z54_8, z56_0⟩ := id zm
  refine Call.of [some (aR 54), some (aI te), some (aI sl)] rfl (Nat.le_of_ble_eq_true rfl) rfl ?_
  refine vc_aload_n dX12_leads_0 rfl ?_
  refine vc_iload_n dX12_leads_1 rfl ?_
  refine vc_callVF dX12_leads_2 (qX12_isTelling_0 (M := M) hS zm te) rfl okX12_isTelling viX12_isTelling lkX12_400 (s_54 hS) cl_12 rfl (Nat.le_of_ble_eq_true rfl) ⟨rfl, rfl⟩ (Nat.le_of_ble_eq_true rfl) (Nat.le_of_ble_eq_true rfl) (Nat.le_of_ble_eq_true rfl) ?_
  refine vc_if_eq dX12_leads_5 (fun h1 => ?_) (fun h1 => by exfalso; omega)
  refine vc_iconst dX12_leads_27 rfl ?_
  refine vc_iret dX12_leads_28 rfl (Nat.le_of_ble_eq_true rfl) (Nat.le_of_ble_eq_true rfl) ?_
  exact ⟨rfl, rfl⟩

set_option maxRecDepth 4000 in
theorem qX12_likely_0 {l : Launch} {M : Mem} (hS : St M) (zm : Zm M) (te : Int) (c : Int) : Fn l mdX12_likely [aR 54, aI te, aI c] M (some (aI ((-1)))) M := by
  obtain ⟨z55_0, z55_1, z55_2, z55_3, z55_4, z55_5, z55_6, z55_7, z55_256, z54_6, z54_7, z54_8, z56_0⟩ := id zm
  refine Call.of [some (aR 54), some (aI te), some (aI c)] rfl (Nat.le_of_ble_eq_true rfl) rfl ?_
  refine vc_aload_n dX12_likely_0 rfl ?_
  refine vc_iload_n dX12_likely_1 rfl ?_
  refine vc_callVF dX12_likely_2 (qX12_isTelling_0 (M := M) hS zm te) rfl okX12_isTelling viX12_isTelling lkX12_400 (s_54 hS) cl_12 rfl (Nat.le_of_ble_eq_true rfl) ⟨rfl, rfl⟩ (Nat.le_of_ble_eq_true rfl) (Nat.le_of_ble_eq_true rfl) (Nat.le_of_ble_eq_true rfl) ?_
  refine vc_if_eq dX12_likely_5 (fun h1 => ?_) (fun h1 => by exfalso; omega)
  refine vc_iconst dX12_likely_21 rfl ?_
  refine vc_iret dX12_likely_22 rfl (Nat.le_of_ble_eq_true rfl) (Nat.le_of_ble_eq_true rfl) ?_
  exact ⟨rfl, rfl⟩

set_option maxRecDepth 4000 in
theorem qX12_findProducts_0 {l : Launch} {M : Mem} (hS : St M) (zm : Zm M) (se : Int) : Fn l mdX12_findProducts [aR 54, aI se] M (some (aI (0))) M := by
  obtain ⟨z55_0, z55_1, z55_2, z55_3, z55_4, z55_5, z55_6, z55_7, z55_256, z54_6, z54_7, z54_8, z56_0⟩ := id zm
  refine Call.of [some (aR 54), some (aI se), none, none] rfl (Nat.le_of_ble_eq_true rfl) rfl ?_
  refine vc_iload_n dX12_findProducts_0 rfl ?_
  refine vc_iconst dX12_findProducts_1 rfl ?_
  refine vc_iconst dX12_findProducts_2 rfl ?_
  refine vc_aload_n dX12_findProducts_3 rfl ?_
  refine vc_getR dX12_findProducts_4 flX12_7 (s_54 hS) rfl (r_54_0 hS) ?_
  refine vc_iconst dX12_findProducts_7 rfl ?_
  refine vc_iaload dX12_findProducts_8 (s_55 hS) (by omega) (by omega) ?_
  refine vc_topI (mI M 55 3) rfl ?_
  refine vc_topI 0 z55_3 ?_
  refine vc_ishlC dX12_findProducts_9 1 0 rfl (by decide) rfl (by omega) (by omega) ?_
  refine vc_topI 1 rfl ?_
  refine vc_iconst dX12_findProducts_10 rfl ?_
  refine vc_isubE dX12_findProducts_11 (by omega) (by omega) ?_
  refine vc_topI 0 rfl ?_
  refine vc_callSF dX12_findProducts_12 (qX12_isIn_e (M := M) se 1 0 (by decide)) rfl okX12_isIn stX12_isIn lkX12_83 rfl (Nat.le_of_ble_eq_true rfl) ⟨rfl, rfl⟩ (Nat.le_of_ble_eq_true rfl) (Nat.le_of_ble_eq_true rfl) (Nat.le_of_ble_eq_true rfl) ?_
  refine vc_if_eq dX12_findProducts_15 (fun h1 => ?_) (fun h1 => by exfalso; omega)
  refine vc_iconst dX12_findProducts_26 rfl ?_
  refine vc_zret dX12_findProducts_27 rfl (by first | decide | omega) (Nat.le_of_ble_eq_true rfl) (Nat.le_of_ble_eq_true rfl) ?_
  exact ⟨rfl, rfl⟩

set_option maxRecDepth 4000 in
theorem qX12_byAll_0 {l : Launch} {M : Mem} (hS : St M) (zm : Zm M) (se : Int) (c : Int) (lo : Int) : Fn l mdX12_byAll [aR 54, aI se, aI c, aI lo] M (some (aL ((-1)))) M := by
  obtain ⟨z55_0, z55_1, z55_2, z55_3, z55_4, z55_5, z55_6, z55_7, z55_256, z54_6, z54_7, z54_8, z56_0⟩ := id zm
  refine Call.of [some (aR 54), some (aI se), some (aI c), some (aI lo)] rfl (Nat.le_of_ble_eq_true rfl) rfl ?_
  refine vc_aload_n dX12_byAll_0 rfl ?_
  refine vc_iload_n dX12_byAll_1 rfl ?_
  refine vc_callVF dX12_byAll_2 (qX12_isCorner_0 (M := M) hS zm c) rfl okX12_isCorner viX12_isCorner lkX12_87 (s_54 hS) cl_12 rfl (Nat.le_of_ble_eq_true rfl) ⟨rfl, rfl⟩ (Nat.le_of_ble_eq_true rfl) (Nat.le_of_ble_eq_true rfl) (Nat.le_of_ble_eq_true rfl) ?_
  refine vc_if_eq dX12_byAll_5 (fun h1 => ?_) (fun h1 => by exfalso; omega)
  refine vc_ldc2 dX12_byAll_16 rfl klX12_474 ?_
  refine vc_lret dX12_byAll_19 rfl (Nat.le_of_ble_eq_true rfl) (Nat.le_of_ble_eq_true rfl) ?_
  exact ⟨rfl, rfl⟩

set_option maxRecDepth 4000 in
theorem qX12_wrong_0 {l : Launch} {M : Mem} (hS : St M) (zm : Zm M) (se : Int) (co : Int) : Fn l mdX12_wrong [aR 54, aI se, aI co] M (some (aI ((-1)))) M := by
  obtain ⟨z55_0, z55_1, z55_2, z55_3, z55_4, z55_5, z55_6, z55_7, z55_256, z54_6, z54_7, z54_8, z56_0⟩ := id zm
  refine Call.of [some (aR 54), some (aI se), some (aI co), none, none, none, none, none] rfl (Nat.le_of_ble_eq_true rfl) rfl ?_
  refine vc_iload_n dX12_wrong_0 rfl ?_
  refine vc_iconst dX12_wrong_1 rfl ?_
  refine vc_iconst dX12_wrong_2 rfl ?_
  refine vc_aload_n dX12_wrong_3 rfl ?_
  refine vc_getR dX12_wrong_4 flX12_7 (s_54 hS) rfl (r_54_0 hS) ?_
  refine vc_iconst dX12_wrong_7 rfl ?_
  refine vc_iaload dX12_wrong_8 (s_55 hS) (by omega) (by omega) ?_
  refine vc_topI (mI M 55 3) rfl ?_
  refine vc_topI 0 z55_3 ?_
  refine vc_ishlC dX12_wrong_9 1 0 rfl (by decide) rfl (by omega) (by omega) ?_
  refine vc_topI 1 rfl ?_
  refine vc_iconst dX12_wrong_10 rfl ?_
  refine vc_isubE dX12_wrong_11 (by omega) (by omega) ?_
  refine vc_topI 0 rfl ?_
  refine vc_callSF dX12_wrong_12 (qX12_isIn_e (M := M) se 1 0 (by decide)) rfl okX12_isIn stX12_isIn lkX12_83 rfl (Nat.le_of_ble_eq_true rfl) ⟨rfl, rfl⟩ (Nat.le_of_ble_eq_true rfl) (Nat.le_of_ble_eq_true rfl) (Nat.le_of_ble_eq_true rfl) ?_
  refine vc_if_ne dX12_wrong_15 (fun h1 => by exfalso; omega) (fun h1 => ?_)
  refine vc_iconst dX12_wrong_18 rfl ?_
  refine vc_iret dX12_wrong_19 rfl (Nat.le_of_ble_eq_true rfl) (Nat.le_of_ble_eq_true rfl) ?_
  exact ⟨rfl, rfl⟩

set_option maxRecDepth 4000 in
theorem qX12_far_0 {l : Launch} {M : Mem} (hS : St M) (zm : Zm M) (fr : Int) (to : Int) : Fn l mdX12_far [aR 54, aI fr, aI to] M (some (aI ((-1)))) M := by
  obtain ⟨z55_0, z55_1, z55_2, z55_3, z55_4, z55_5, z55_6, z55_7, z55_256, z54_6, z54_7, z54_8, z56_0⟩ := id zm
  refine Call.of [some (aR 54), some (aI fr), some (aI to)] rfl (Nat.le_of_ble_eq_true rfl) rfl ?_
  refine vc_aload_n dX12_far_0 rfl ?_
  refine vc_iload_n dX12_far_1 rfl ?_
  refine vc_callVF dX12_far_2 (qX12_isCorner_0 (M := M) hS zm fr) rfl okX12_isCorner viX12_isCorner lkX12_87 (s_54 hS) cl_12 rfl (Nat.le_of_ble_eq_true rfl) ⟨rfl, rfl⟩ (Nat.le_of_ble_eq_true rfl) (Nat.le_of_ble_eq_true rfl) (Nat.le_of_ble_eq_true rfl) ?_
  refine vc_if_eq dX12_far_5 (fun h1 => ?_) (fun h1 => by exfalso; omega)
  refine vc_iconst dX12_far_16 rfl ?_
  refine vc_iret dX12_far_17 rfl (Nat.le_of_ble_eq_true rfl) (Nat.le_of_ble_eq_true rfl) ?_
  exact ⟨rfl, rfl⟩

set_option maxRecDepth 4000 in
theorem qX12_findOrder_0 {l : Launch} {M : Mem} (hS : St M) (zm : Zm M) (se : Int) : Fn l mdX12_findOrder [aR 54, aI se] M (some (aI (0))) M := by
  obtain ⟨z55_0, z55_1, z55_2, z55_3, z55_4, z55_5, z55_6, z55_7, z55_256, z54_6, z54_7, z54_8, z56_0⟩ := id zm
  refine Call.of [some (aR 54), some (aI se), none, none, none, none] rfl (Nat.le_of_ble_eq_true rfl) rfl ?_
  refine vc_aload_n dX12_findOrder_0 rfl ?_
  refine vc_callVF dX12_findOrder_1 (qX12_isWalker_0 (M := M) hS zm ) rfl okX12_isWalker viX12_isWalker lkX12_379 (s_54 hS) cl_12 rfl (Nat.le_of_ble_eq_true rfl) ⟨rfl, rfl⟩ (Nat.le_of_ble_eq_true rfl) (Nat.le_of_ble_eq_true rfl) (Nat.le_of_ble_eq_true rfl) ?_
  refine vc_if_eq dX12_findOrder_4 (fun h1 => ?_) (fun h1 => by exfalso; omega)
  refine vc_iconst dX12_findOrder_15 rfl ?_
  refine vc_zret dX12_findOrder_16 rfl (by first | decide | omega) (Nat.le_of_ble_eq_true rfl) (Nat.le_of_ble_eq_true rfl) ?_
  exact ⟨rfl, rfl⟩

set_option maxRecDepth 4000 in
theorem qX12_see_0 {l : Launch} {M : Mem} (hS : St M) (zm : Zm M) (se : Int) (i : Int) : Fn l mdX12_see [aR 54, aI se, aI i] M (some (aL ((-1)))) M := by
  obtain ⟨z55_0, z55_1, z55_2, z55_3, z55_4, z55_5, z55_6, z55_7, z55_256, z54_6, z54_7, z54_8, z56_0⟩ := id zm
  refine Call.of [some (aR 54), some (aI se), some (aI i)] rfl (Nat.le_of_ble_eq_true rfl) rfl ?_
  refine vc_iload_n dX12_see_0 rfl ?_
  refine vc_bipush dX12_see_1 rfl ?_
  refine vc_icmp_lt dX12_see_3 (fun h1 => ?_) (fun h1 => ?_)
  · refine vc_ldc2 dX12_see_14 rfl klX12_474 ?_
    refine vc_lret dX12_see_17 rfl (Nat.le_of_ble_eq_true rfl) (Nat.le_of_ble_eq_true rfl) ?_
    exact ⟨rfl, rfl⟩
  · refine vc_aload_n dX12_see_6 rfl ?_
    refine vc_iload_n dX12_see_7 rfl ?_
    refine vc_callVF dX12_see_8 (qX12_findOrder_0 (M := M) hS zm se) rfl okX12_findOrder viX12_findOrder lkX12_503 (s_54 hS) cl_12 rfl (Nat.le_of_ble_eq_true rfl) ⟨rfl, rfl⟩ (Nat.le_of_ble_eq_true rfl) (Nat.le_of_ble_eq_true rfl) (Nat.le_of_ble_eq_true rfl) ?_
    refine vc_if_ne dX12_see_11 (fun h2 => by exfalso; omega) (fun h2 => ?_)
    refine vc_ldc2 dX12_see_14 rfl klX12_474 ?_
    refine vc_lret dX12_see_17 rfl (Nat.le_of_ble_eq_true rfl) (Nat.le_of_ble_eq_true rfl) ?_
    exact ⟨rfl, rfl⟩

set_option maxRecDepth 4000 in
theorem qX12_orAsk_0 {l : Launch} {M : Mem} (hS : St M) (zm : Zm M) (se : Int) : Fn l mdX12_orAsk [aR 54, aI se] M (some (aI ((-1)))) M := by
  obtain ⟨z55_0, z55_1, z55_2, z55_3, z55_4, z55_5, z55_6, z55_7, z55_256, z54_6, z54_7, z54_8, z56_0⟩ := id zm
  refine Call.of [some (aR 54), some (aI se), none, none, none, none, none, none] rfl (Nat.le_of_ble_eq_true rfl) rfl ?_
  refine vc_aload_n dX12_orAsk_0 rfl ?_
  refine vc_iload_n dX12_orAsk_1 rfl ?_
  refine vc_callVF dX12_orAsk_2 (qX12_findOrder_0 (M := M) hS zm se) rfl okX12_findOrder viX12_findOrder lkX12_503 (s_54 hS) cl_12 rfl (Nat.le_of_ble_eq_true rfl) ⟨rfl, rfl⟩ (Nat.le_of_ble_eq_true rfl) (Nat.le_of_ble_eq_true rfl) (Nat.le_of_ble_eq_true rfl) ?_
  refine vc_if_ne dX12_orAsk_5 (fun h1 => by exfalso; omega) (fun h1 => ?_)
  refine vc_iconst dX12_orAsk_8 rfl ?_
  refine vc_iret dX12_orAsk_9 rfl (Nat.le_of_ble_eq_true rfl) (Nat.le_of_ble_eq_true rfl) ?_
  exact ⟨rfl, rfl⟩

set_option maxRecDepth 4000 in
theorem qX12_safeSoFar_0 {l : Launch} {M : Mem} (hS : St M) (zm : Zm M) (te : Int) (k : Int) (lo : Int) : Fn l mdX12_safeSoFar [aR 54, aI te, aI k, aI lo] M (some (aI ((-1)))) M := by
  obtain ⟨z55_0, z55_1, z55_2, z55_3, z55_4, z55_5, z55_6, z55_7, z55_256, z54_6, z54_7, z54_8, z56_0⟩ := id zm
  refine Call.of [some (aR 54), some (aI te), some (aI k), some (aI lo)] rfl (Nat.le_of_ble_eq_true rfl) rfl ?_
  refine vc_aload_n dX12_safeSoFar_0 rfl ?_
  refine vc_iload_n dX12_safeSoFar_1 rfl ?_
  refine vc_callVF dX12_safeSoFar_2 (qX12_isTelling_0 (M := M) hS zm te) rfl okX12_isTelling viX12_isTelling lkX12_400 (s_54 hS) cl_12 rfl (Nat.le_of_ble_eq_true rfl) ⟨rfl, rfl⟩ (Nat.le_of_ble_eq_true rfl) (Nat.le_of_ble_eq_true rfl) (Nat.le_of_ble_eq_true rfl) ?_
  refine vc_if_eq dX12_safeSoFar_5 (fun h1 => ?_) (fun h1 => by exfalso; omega)
  refine vc_iconst dX12_safeSoFar_21 rfl ?_
  refine vc_iret dX12_safeSoFar_22 rfl (Nat.le_of_ble_eq_true rfl) (Nat.le_of_ble_eq_true rfl) ?_
  exact ⟨rfl, rfl⟩

set_option maxRecDepth 4000 in
theorem qX12_howFar_0 {l : Launch} {M : Mem} (hS : St M) (zm : Zm M) (te : Int) (q : Int) : Fn l mdX12_howFar [aR 54, aI te, aI q] M (some (aI ((-1)))) M := by
  obtain ⟨z55_0, z55_1, z55_2, z55_3, z55_4, z55_5, z55_6, z55_7, z55_256, z54_6, z54_7, z54_8, z56_0⟩ := id zm
  refine Call.of [some (aR 54), some (aI te), some (aI q), none] rfl (Nat.le_of_ble_eq_true rfl) rfl ?_
  refine vc_aload_n dX12_howFar_0 rfl ?_
  refine vc_iload_n dX12_howFar_1 rfl ?_
  refine vc_callVF dX12_howFar_2 (qX12_isTelling_0 (M := M) hS zm te) rfl okX12_isTelling viX12_isTelling lkX12_400 (s_54 hS) cl_12 rfl (Nat.le_of_ble_eq_true rfl) ⟨rfl, rfl⟩ (Nat.le_of_ble_eq_true rfl) (Nat.le_of_ble_eq_true rfl) (Nat.le_of_ble_eq_true rfl) ?_
  refine vc_if_eq dX12_howFar_5 (fun h1 => ?_) (fun h1 => by exfalso; omega)
  refine vc_iconst dX12_howFar_18 rfl ?_
  refine vc_iret dX12_howFar_19 rfl (Nat.le_of_ble_eq_true rfl) (Nat.le_of_ble_eq_true rfl) ?_
  exact ⟨rfl, rfl⟩

set_option maxRecDepth 4000 in
theorem qX12_lost_0 {l : Launch} {M : Mem} (hS : St M) (zm : Zm M) (te : Int) (c : Int) : Fn l mdX12_lost [aR 54, aI te, aI c] M (some (aI ((-1)))) M := by
  obtain ⟨z55_0, z55_1, z55_2, z55_3, z55_4, z55_5, z55_6, z55_7, z55_256, z54_6, z54_7, z54_8, z56_0⟩ := id zm
  refine Call.of [some (aR 54), some (aI te), some (aI c), none] rfl (Nat.le_of_ble_eq_true rfl) rfl ?_
  refine vc_aload_n dX12_lost_0 rfl ?_
  refine vc_iload_n dX12_lost_1 rfl ?_
  refine vc_callVF dX12_lost_2 (qX12_isTelling_0 (M := M) hS zm te) rfl okX12_isTelling viX12_isTelling lkX12_400 (s_54 hS) cl_12 rfl (Nat.le_of_ble_eq_true rfl) ⟨rfl, rfl⟩ (Nat.le_of_ble_eq_true rfl) (Nat.le_of_ble_eq_true rfl) (Nat.le_of_ble_eq_true rfl) ?_
  refine vc_if_eq dX12_lost_5 (fun h1 => ?_) (fun h1 => by exfalso; omega)
  refine vc_iconst dX12_lost_25 rfl ?_
  refine vc_iret dX12_lost_26 rfl (Nat.le_of_ble_eq_true rfl) (Nat.le_of_ble_eq_true rfl) ?_
  exact ⟨rfl, rfl⟩

set_option maxRecDepth 4000 in
theorem qX12_tell_0 {l : Launch} {M : Mem} (hS : St M) (zm : Zm M) (c : Int) (fa : Int) (sl : Int) (i : Int) : Fn l mdX12_tell [aR 54, aI c, aI fa, aI sl, aI i] M (some (aI ((-1)))) M := by
  obtain ⟨z55_0, z55_1, z55_2, z55_3, z55_4, z55_5, z55_6, z55_7, z55_256, z54_6, z54_7, z54_8, z56_0⟩ := id zm
  refine Call.of [some (aR 54), some (aI c), some (aI fa), some (aI sl), some (aI i)] rfl (Nat.le_of_ble_eq_true rfl) rfl ?_
  refine vc_aload_n dX12_tell_0 rfl ?_
  refine vc_iload_n dX12_tell_1 rfl ?_
  refine vc_callVF dX12_tell_2 (qX12_isCorner_0 (M := M) hS zm c) rfl okX12_isCorner viX12_isCorner lkX12_87 (s_54 hS) cl_12 rfl (Nat.le_of_ble_eq_true rfl) ⟨rfl, rfl⟩ (Nat.le_of_ble_eq_true rfl) (Nat.le_of_ble_eq_true rfl) (Nat.le_of_ble_eq_true rfl) ?_
  refine vc_if_eq dX12_tell_5 (fun h1 => ?_) (fun h1 => by exfalso; omega)
  refine vc_iconst dX12_tell_53 rfl ?_
  refine vc_iret dX12_tell_54 rfl (Nat.le_of_ble_eq_true rfl) (Nat.le_of_ble_eq_true rfl) ?_
  exact ⟨rfl, rfl⟩

set_option maxRecDepth 4000 in
theorem qX12_where_0 {l : Launch} {M : Mem} (hS : St M) (zm : Zm M) (te : Int) (co : Int) : Fn l mdX12_where [aR 54, aI te, aI co] M (some (aI ((-1)))) M := by
  obtain ⟨z55_0, z55_1, z55_2, z55_3, z55_4, z55_5, z55_6, z55_7, z55_256, z54_6, z54_7, z54_8, z56_0⟩ := id zm
  refine Call.of [some (aR 54), some (aI te), some (aI co)] rfl (Nat.le_of_ble_eq_true rfl) rfl ?_
  refine vc_aload_n dX12_where_0 rfl ?_
  refine vc_iload_n dX12_where_1 rfl ?_
  refine vc_callVF dX12_where_2 (qX12_isTelling_0 (M := M) hS zm te) rfl okX12_isTelling viX12_isTelling lkX12_400 (s_54 hS) cl_12 rfl (Nat.le_of_ble_eq_true rfl) ⟨rfl, rfl⟩ (Nat.le_of_ble_eq_true rfl) (Nat.le_of_ble_eq_true rfl) (Nat.le_of_ble_eq_true rfl) ?_
  refine vc_if_eq dX12_where_5 (fun h1 => ?_) (fun h1 => by exfalso; omega)
  refine vc_iconst dX12_where_18 rfl ?_
  refine vc_iret dX12_where_19 rfl (Nat.le_of_ble_eq_true rfl) (Nat.le_of_ble_eq_true rfl) ?_
  exact ⟨rfl, rfl⟩

set_option maxRecDepth 4000 in
theorem qX12_map_0 {l : Launch} {M : Mem} (hS : St M) (zm : Zm M) (c : Int) (n : Int) (di : Int) : Fn l mdX12_map [aR 54, aI c, aI n, aI di] M (some (aI ((-1)))) M := by
  obtain ⟨z55_0, z55_1, z55_2, z55_3, z55_4, z55_5, z55_6, z55_7, z55_256, z54_6, z54_7, z54_8, z56_0⟩ := id zm
  refine Call.of [some (aR 54), some (aI c), some (aI n), some (aI di), none, none, none, none] rfl (Nat.le_of_ble_eq_true rfl) rfl ?_
  refine vc_aload_n dX12_map_0 rfl ?_
  refine vc_iload_n dX12_map_1 rfl ?_
  refine vc_callVF dX12_map_2 (qX12_isCorner_0 (M := M) hS zm c) rfl okX12_isCorner viX12_isCorner lkX12_87 (s_54 hS) cl_12 rfl (Nat.le_of_ble_eq_true rfl) ⟨rfl, rfl⟩ (Nat.le_of_ble_eq_true rfl) (Nat.le_of_ble_eq_true rfl) (Nat.le_of_ble_eq_true rfl) ?_
  refine vc_if_eq dX12_map_5 (fun h1 => ?_) (fun h1 => by exfalso; omega)
  refine vc_iconst dX12_map_33 rfl ?_
  refine vc_iret dX12_map_34 rfl (Nat.le_of_ble_eq_true rfl) (Nat.le_of_ble_eq_true rfl) ?_
  exact ⟨rfl, rfl⟩

set_option maxRecDepth 4000 in
theorem qX12_signs_0 {l : Launch} {M : Mem} (hS : St M) (zm : Zm M)  : Fn l mdX12_signs [aR 54] M (some (aI ((-1)))) M := by
  obtain ⟨z55_0, z55_1, z55_2, z55_3, z55_4, z55_5, z55_6, z55_7, z55_256, z54_6, z54_7, z54_8, z56_0⟩ := id zm
  refine Call.of [some (aR 54), none, none] rfl (Nat.le_of_ble_eq_true rfl) rfl ?_
  refine vc_aload_n dX12_signs_0 rfl ?_
  refine vc_getR dX12_signs_1 flX12_7 (s_54 hS) rfl (r_54_0 hS) ?_
  refine vc_iconst dX12_signs_4 rfl ?_
  refine vc_iaload dX12_signs_5 (s_55 hS) (by omega) (by omega) ?_
  refine vc_topI (mI M 55 1) rfl ?_
  refine vc_topI (-1) z55_1 ?_
  refine vc_iconst dX12_signs_6 rfl ?_
  refine vc_icmp_ne dX12_signs_7 (fun h1 => by exfalso; omega) (fun h1 => ?_)
  refine vc_iconst dX12_signs_10 rfl ?_
  refine vc_iret dX12_signs_11 rfl (Nat.le_of_ble_eq_true rfl) (Nat.le_of_ble_eq_true rfl) ?_
  exact ⟨rfl, rfl⟩

set_option maxRecDepth 4000 in
theorem qX12_whose_0 {l : Launch} {M : Mem} (hS : St M) (zm : Zm M) (te : Int) (c : Int) (sl : Int) (lo : Int) : Fn l mdX12_whose [aR 54, aI te, aI c, aI sl, aI lo] M (some (aI ((-1)))) M := by
  obtain ⟨z55_0, z55_1, z55_2, z55_3, z55_4, z55_5, z55_6, z55_7, z55_256, z54_6, z54_7, z54_8, z56_0⟩ := id zm
  refine Call.of [some (aR 54), some (aI te), some (aI c), some (aI sl), some (aI lo), none, none, none] rfl (Nat.le_of_ble_eq_true rfl) rfl ?_
  refine vc_aload_n dX12_whose_0 rfl ?_
  refine vc_iload_n dX12_whose_1 rfl ?_
  refine vc_callVF dX12_whose_2 (qX12_isTelling_0 (M := M) hS zm te) rfl okX12_isTelling viX12_isTelling lkX12_400 (s_54 hS) cl_12 rfl (Nat.le_of_ble_eq_true rfl) ⟨rfl, rfl⟩ (Nat.le_of_ble_eq_true rfl) (Nat.le_of_ble_eq_true rfl) (Nat.le_of_ble_eq_true rfl) ?_
  refine vc_if_eq dX12_whose_5 (fun h1 => ?_) (fun h1 => by exfalso; omega)
  refine vc_iconst dX12_whose_31 rfl ?_
  refine vc_iret dX12_whose_32 rfl (Nat.le_of_ble_eq_true rfl) (Nat.le_of_ble_eq_true rfl) ?_
  exact ⟨rfl, rfl⟩

set_option maxRecDepth 4000 in
theorem qX12_heard_0 {l : Launch} {M : Mem} (hS : St M) (zm : Zm M) (c : Int) : Fn l mdX12_heard [aR 54, aI c] M (some (aI ((-1)))) M := by
  obtain ⟨z55_0, z55_1, z55_2, z55_3, z55_4, z55_5, z55_6, z55_7, z55_256, z54_6, z54_7, z54_8, z56_0⟩ := id zm
  refine Call.of [some (aR 54), some (aI c), none, none] rfl (Nat.le_of_ble_eq_true rfl) rfl ?_
  refine vc_aload_n dX12_heard_0 rfl ?_
  refine vc_iload_n dX12_heard_1 rfl ?_
  refine vc_callVF dX12_heard_2 (qX12_isCorner_0 (M := M) hS zm c) rfl okX12_isCorner viX12_isCorner lkX12_87 (s_54 hS) cl_12 rfl (Nat.le_of_ble_eq_true rfl) ⟨rfl, rfl⟩ (Nat.le_of_ble_eq_true rfl) (Nat.le_of_ble_eq_true rfl) (Nat.le_of_ble_eq_true rfl) ?_
  refine vc_if_ne dX12_heard_5 (fun h1 => by exfalso; omega) (fun h1 => ?_)
  refine vc_iconst dX12_heard_8 rfl ?_
  refine vc_iret dX12_heard_9 rfl (Nat.le_of_ble_eq_true rfl) (Nat.le_of_ble_eq_true rfl) ?_
  exact ⟨rfl, rfl⟩

def fX12_about_0 (M : Mem) (wh : Int) : Int := if fX12_isIn wh 0 7 = 0 then if wh = 8 then 0 else (-2) else mI M 55 wh.toNat
set_option maxRecDepth 4000 in
theorem qX12_about_0 {l : Launch} {M : Mem} (hS : St M) (zm : Zm M) (wh : Int) : Fn l mdX12_about [aR 54, aI wh] M (some (aI (fX12_about_0 M wh))) M := by
  obtain ⟨z55_0, z55_1, z55_2, z55_3, z55_4, z55_5, z55_6, z55_7, z55_256, z54_6, z54_7, z54_8, z56_0⟩ := id zm
  refine Call.of [some (aR 54), some (aI wh)] rfl (Nat.le_of_ble_eq_true rfl) rfl ?_
  refine vc_iload_n dX12_about_0 rfl ?_
  refine vc_iconst dX12_about_1 rfl ?_
  refine vc_bipush dX12_about_2 rfl ?_
  refine vc_callSF dX12_about_4 (qX12_isIn (M := M) wh 0 7) rfl okX12_isIn stX12_isIn lkX12_83 rfl (Nat.le_of_ble_eq_true rfl) ⟨rfl, rfl⟩ (Nat.le_of_ble_eq_true rfl) (Nat.le_of_ble_eq_true rfl) (Nat.le_of_ble_eq_true rfl) ?_
  refine vc_if_eq dX12_about_7 (fun h1 => ?_) (fun h1 => ?_)
  · refine vc_iload_n dX12_about_19 rfl ?_
    refine vc_bipush dX12_about_20 rfl ?_
    refine vc_icmp_ne dX12_about_22 (fun h2 => ?_) (fun h2 => ?_)
    · refine vc_bipush dX12_about_32 rfl ?_
      refine vc_iret dX12_about_34 rfl (Nat.le_of_ble_eq_true rfl) (Nat.le_of_ble_eq_true rfl) ?_
      exact ⟨by show some (aI _) = some (aI (fX12_about_0 M wh)); rw [fX12_about_0, if_pos h1, if_neg h2], rfl⟩
    · refine vc_aload_n dX12_about_25 rfl ?_
      refine vc_getI dX12_about_26 flX12_112 (s_54 hS) rfl ?_
      refine vc_topI 0 z54_6 ?_
      refine vc_goto dX12_about_29 ?_
      refine vc_iret dX12_about_34 rfl (Nat.le_of_ble_eq_true rfl) (Nat.le_of_ble_eq_true rfl) ?_
      exact ⟨by show some (aI _) = some (aI (fX12_about_0 M wh)); rw [fX12_about_0, if_pos h1, if_pos h2], rfl⟩
  · refine vc_aload_n dX12_about_10 rfl ?_
    refine vc_getR dX12_about_11 flX12_7 (s_54 hS) rfl (r_54_0 hS) ?_
    refine vc_iload_n dX12_about_14 rfl ?_
    refine vc_iaload dX12_about_15 (s_55 hS) (by first | omega | (simp only [isIn_iff] at *; omega)) (by first | omega | (simp only [isIn_iff] at *; omega)) ?_
    refine vc_goto dX12_about_16 ?_
    refine vc_iret dX12_about_34 rfl (Nat.le_of_ble_eq_true rfl) (Nat.le_of_ble_eq_true rfl) ?_
    exact ⟨by show some (aI _) = some (aI (fX12_about_0 M wh)); rw [fX12_about_0, if_neg h1], rfl⟩
