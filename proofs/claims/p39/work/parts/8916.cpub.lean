/-! THE DEEDS of the class: its own methods (written by wip/laws2/c10a.py) -/
set_option maxRecDepth 4000 in
theorem sfX11_cornerF {l : Launch} {M : Mem} (hB : Box M)  (s : Int)  : Call l mdX11_corner [aR 0, aI s] M (fun q N => ∃ r : Int, q = some (aI r) ∧ BF fC M N ∧ CornerS s (cS M) (cS N) r) := by
  have hB0 : BF fC M M := BF.start hB
  refine Call.of [some (aR 0), some (aI s)] rfl (Nat.le_of_ble_eq_true rfl) rfl ?_
  refine vc_ok (fun hoM hoS hoL => ?_)
  have hr1 : -2147483648 ≤ s ∧ s < 2147483648 := hoL 1 _ rfl
  refine vc_aload_n dX11_corner_0 rfl ?_
  refine vc_getR dX11_corner_1 flX11_10 (s_0 hB0.1.1) rfl (r_0_0 hB0.1.1) ?_
  refine vc_iload_n dX11_corner_4 rfl ?_
  refine vc_cVI dX11_corner_5 (sfX6_addCornerF (M := M) hB0.1  s ) rfl okX6_addCorner viX6_addCorner lkX11_113 (s_1 hB0.1.1) cl_6 rfl (Nat.le_of_ble_eq_true rfl) ⟨rfl, rfl⟩ (Nat.le_of_ble_eq_true rfl) (Nat.le_of_ble_eq_true rfl) (Nat.le_of_ble_eq_true rfl) ?_
  rintro x1 M2 ⟨hB3, h4⟩
  have hB5 : BF fC M M2 := BF.go hB0 hB3
  refine vc_iret dX11_corner_8 rfl (Nat.le_of_ble_eq_true rfl) (Nat.le_of_ble_eq_true rfl) ?_
  exact ⟨_, rfl, hB5, h4⟩

def bl (a : Int) : Int := if a = 0 then 0 else 1
set_option maxRecDepth 4000 in
theorem sfX11_streetF {l : Launch} {M : Mem} (hB : Box M)  (f : Int) (d : Int) (t : Int) (la : Int)  : Call l mdX11_street [aR 0, aI f, aI d, aI t, aI la] M (fun q N => ∃ r : Int, q = some (aI r) ∧ BF fC M N ∧ 0 ≤ r ∧ r ≤ 1 ∧ StreetS f d t (bl la) (cS M) (cS N) r) := by
  have hB0 : BF fC M M := BF.start hB
  refine Call.of [some (aR 0), some (aI f), some (aI d), some (aI t), some (aI la)] rfl (Nat.le_of_ble_eq_true rfl) rfl ?_
  refine vc_ok (fun hoM hoS hoL => ?_)
  have hr1 : -2147483648 ≤ f ∧ f < 2147483648 := hoL 1 _ rfl
  have hr2 : -2147483648 ≤ d ∧ d < 2147483648 := hoL 2 _ rfl
  have hr3 : -2147483648 ≤ t ∧ t < 2147483648 := hoL 3 _ rfl
  have hr4 : -2147483648 ≤ la ∧ la < 2147483648 := hoL 4 _ rfl
  refine vc_aload_n dX11_street_0 rfl ?_
  refine vc_getR dX11_street_1 flX11_10 (s_0 hB0.1.1) rfl (r_0_0 hB0.1.1) ?_
  refine vc_iload_n dX11_street_4 rfl ?_
  refine vc_iload_n dX11_street_5 rfl ?_
  refine vc_iload_n dX11_street_6 rfl ?_
  refine vc_iload dX11_street_7 rfl ?_
  refine vc_if_eq dX11_street_9 (fun h1 => ?_) (fun h1 => ?_)
  · refine vc_iconst dX11_street_16 rfl ?_
    refine vc_cVI dX11_street_17 (sfX6_addStreetF (M := M) hB0.1  f d t 0 ) rfl okX6_addStreet viX6_addStreet lkX11_117 (s_1 hB0.1.1) cl_6 rfl (Nat.le_of_ble_eq_true rfl) ⟨rfl, rfl⟩ (Nat.le_of_ble_eq_true rfl) (Nat.le_of_ble_eq_true rfl) (Nat.le_of_ble_eq_true rfl) ?_
    rintro x2 M3 ⟨hB4, h5, h6, h7⟩
    have hB8 : BF fC M M3 := BF.go hB0 hB4
    refine vc_zret dX11_street_20 rfl (by first | decide | omega) (Nat.le_of_ble_eq_true rfl) (Nat.le_of_ble_eq_true rfl) ?_
    exact ⟨_, rfl, hB8, by omega, by omega, by first | (rw [show bl la = 0 from if_pos (by omega)]; exact h7) | (rw [show bl la = 1 from if_neg (by omega)]; exact h7)⟩
  · refine vc_iconst dX11_street_12 rfl ?_
    refine vc_goto dX11_street_13 ?_
    refine vc_cVI dX11_street_17 (sfX6_addStreetF (M := M) hB0.1  f d t 1 ) rfl okX6_addStreet viX6_addStreet lkX11_117 (s_1 hB0.1.1) cl_6 rfl (Nat.le_of_ble_eq_true rfl) ⟨rfl, rfl⟩ (Nat.le_of_ble_eq_true rfl) (Nat.le_of_ble_eq_true rfl) (Nat.le_of_ble_eq_true rfl) ?_
    rintro x9 M10 ⟨hB11, h12, h13, h14⟩
    have hB15 : BF fC M M10 := BF.go hB0 hB11
    refine vc_zret dX11_street_20 rfl (by first | decide | omega) (Nat.le_of_ble_eq_true rfl) (Nat.le_of_ble_eq_true rfl) ?_
    exact ⟨_, rfl, hB15, by omega, by omega, by first | (rw [show bl la = 0 from if_pos (by omega)]; exact h14) | (rw [show bl la = 1 from if_neg (by omega)]; exact h14)⟩

set_option maxRecDepth 4000 in
theorem sfX11_goalF {l : Launch} {M : Mem} (hB : Box M)  (c : Int)  : Call l mdX11_goal [aR 0, aI c] M (fun q N => ∃ r : Int, q = some (aI r) ∧ BF fC M N ∧ 0 ≤ r ∧ r ≤ 1 ∧ GoalS c (cS M) (cS N) r) := by
  have hB0 : BF fC M M := BF.start hB
  refine Call.of [some (aR 0), some (aI c)] rfl (Nat.le_of_ble_eq_true rfl) rfl ?_
  refine vc_ok (fun hoM hoS hoL => ?_)
  have hr1 : -2147483648 ≤ c ∧ c < 2147483648 := hoL 1 _ rfl
  refine vc_aload_n dX11_goal_0 rfl ?_
  refine vc_getR dX11_goal_1 flX11_10 (s_0 hB0.1.1) rfl (r_0_0 hB0.1.1) ?_
  refine vc_iload_n dX11_goal_4 rfl ?_
  refine vc_cVI dX11_goal_5 (sfX6_setGoalF (M := M) hB0.1  c ) rfl okX6_setGoal viX6_setGoal lkX11_121 (s_1 hB0.1.1) cl_6 rfl (Nat.le_of_ble_eq_true rfl) ⟨rfl, rfl⟩ (Nat.le_of_ble_eq_true rfl) (Nat.le_of_ble_eq_true rfl) (Nat.le_of_ble_eq_true rfl) ?_
  rintro x1 M2 ⟨hB3, h4, h5, h6⟩
  have hB7 : BF fC M M2 := BF.go hB0 hB3
  refine vc_zret dX11_goal_8 rfl (by first | decide | omega) (Nat.le_of_ble_eq_true rfl) (Nat.le_of_ble_eq_true rfl) ?_
  exact ⟨_, rfl, hB7, by omega, by omega, h6⟩

set_option maxRecDepth 4000 in
theorem sfX11_tellerF {l : Launch} {M : Mem} (hB : Box M)  (c : Int) (s : Int) (e : Int) (m : Int)  : Call l mdX11_teller [aR 0, aI c, aI s, aI e, aI m] M (fun q N => ∃ r : Int, q = some (aI r) ∧ BF fC M N ∧ TellerS c s e m (cS M) (cS N) r) := by
  have hB0 : BF fC M M := BF.start hB
  refine Call.of [some (aR 0), some (aI c), some (aI s), some (aI e), some (aI m)] rfl (Nat.le_of_ble_eq_true rfl) rfl ?_
  refine vc_ok (fun hoM hoS hoL => ?_)
  have hr1 : -2147483648 ≤ c ∧ c < 2147483648 := hoL 1 _ rfl
  have hr2 : -2147483648 ≤ s ∧ s < 2147483648 := hoL 2 _ rfl
  have hr3 : -2147483648 ≤ e ∧ e < 2147483648 := hoL 3 _ rfl
  have hr4 : -2147483648 ≤ m ∧ m < 2147483648 := hoL 4 _ rfl
  refine vc_aload_n dX11_teller_0 rfl ?_
  refine vc_getR dX11_teller_1 flX11_10 (s_0 hB0.1.1) rfl (r_0_0 hB0.1.1) ?_
  refine vc_iload_n dX11_teller_4 rfl ?_
  refine vc_iload_n dX11_teller_5 rfl ?_
  refine vc_iload_n dX11_teller_6 rfl ?_
  refine vc_iload dX11_teller_7 rfl ?_
  refine vc_cVI dX11_teller_9 (sfX6_addTellerF (M := M) hB0.1  c s e m ) rfl okX6_addTeller viX6_addTeller lkX11_125 (s_1 hB0.1.1) cl_6 rfl (Nat.le_of_ble_eq_true rfl) ⟨rfl, rfl⟩ (Nat.le_of_ble_eq_true rfl) (Nat.le_of_ble_eq_true rfl) (Nat.le_of_ble_eq_true rfl) ?_
  rintro x1 M2 ⟨hB3, h4⟩
  have hB5 : BF fC M M2 := BF.go hB0 hB3
  refine vc_iret dX11_teller_12 rfl (Nat.le_of_ble_eq_true rfl) (Nat.le_of_ble_eq_true rfl) ?_
  exact ⟨_, rfl, hB5, h4⟩

set_option maxRecDepth 4000 in
theorem sfX11_tellingF {l : Launch} {M : Mem} (hB : Box M)  (t : Int) (f : Int) (a : Int) (b : Int)  : Call l mdX11_telling [aR 0, aI t, aI f, aI a, aI b] M (fun q N => ∃ r : Int, q = some (aI r) ∧ BF fC M N ∧ TellingS t f a b (cS M) (cS N) r) := by
  have hB0 : BF fC M M := BF.start hB
  refine Call.of [some (aR 0), some (aI t), some (aI f), some (aI a), some (aI b)] rfl (Nat.le_of_ble_eq_true rfl) rfl ?_
  refine vc_ok (fun hoM hoS hoL => ?_)
  have hr1 : -2147483648 ≤ t ∧ t < 2147483648 := hoL 1 _ rfl
  have hr2 : -2147483648 ≤ f ∧ f < 2147483648 := hoL 2 _ rfl
  have hr3 : -2147483648 ≤ a ∧ a < 2147483648 := hoL 3 _ rfl
  have hr4 : -2147483648 ≤ b ∧ b < 2147483648 := hoL 4 _ rfl
  refine vc_aload_n dX11_telling_0 rfl ?_
  refine vc_getR dX11_telling_1 flX11_10 (s_0 hB0.1.1) rfl (r_0_0 hB0.1.1) ?_
  refine vc_iload_n dX11_telling_4 rfl ?_
  refine vc_iload_n dX11_telling_5 rfl ?_
  refine vc_iload_n dX11_telling_6 rfl ?_
  refine vc_iload dX11_telling_7 rfl ?_
  refine vc_cVI dX11_telling_9 (sfX6_addTellingF (M := M) hB0.1  t f a b ) rfl okX6_addTelling viX6_addTelling lkX11_129 (s_1 hB0.1.1) cl_6 rfl (Nat.le_of_ble_eq_true rfl) ⟨rfl, rfl⟩ (Nat.le_of_ble_eq_true rfl) (Nat.le_of_ble_eq_true rfl) (Nat.le_of_ble_eq_true rfl) ?_
  rintro x1 M2 ⟨hB3, h4⟩
  have hB5 : BF fC M M2 := BF.go hB0 hB3
  refine vc_iret dX11_telling_12 rfl (Nat.le_of_ble_eq_true rfl) (Nat.le_of_ble_eq_true rfl) ?_
  exact ⟨_, rfl, hB5, h4⟩

set_option maxRecDepth 4000 in
theorem sfX11_byF {l : Launch} {M : Mem} (hB : Box M)  (t : Int)  : Call l mdX11_by [aR 0, aI t] M (fun q N => ∃ r : Int, q = some (aI r) ∧ BF fC M N ∧ 0 ≤ r ∧ r ≤ 1 ∧ ByS t (cS M) (cS N) r) := by
  have hB0 : BF fC M M := BF.start hB
  refine Call.of [some (aR 0), some (aI t)] rfl (Nat.le_of_ble_eq_true rfl) rfl ?_
  refine vc_ok (fun hoM hoS hoL => ?_)
  have hr1 : -2147483648 ≤ t ∧ t < 2147483648 := hoL 1 _ rfl
  have e110 : cS M 1 10 = mI M 1 10 := rfl
  refine vc_iload_n dX11_by_0 rfl ?_
  refine vc_iconst dX11_by_1 rfl ?_
  refine vc_icmp_lt dX11_by_2 (fun h1 => ?_) (fun h1 => ?_)
  · refine vc_iconst dX11_by_16 rfl ?_
    refine vc_zret dX11_by_17 rfl (by first | decide | omega) (Nat.le_of_ble_eq_true rfl) (Nat.le_of_ble_eq_true rfl) ?_
    exact ⟨_, rfl, hB0, by omega, by omega, Or.inr ⟨by omega, rfl, rfl⟩⟩
  · refine vc_iload_n dX11_by_5 rfl ?_
    refine vc_aload_n dX11_by_6 rfl ?_
    refine vc_getR dX11_by_7 flX11_10 (s_0 hB0.1.1) rfl (r_0_0 hB0.1.1) ?_
    refine vc_getI dX11_by_10 flX11_136 (s_1 hB0.1.1) rfl ?_
    have k2 : 0 ≤ mI M 1 10 ∧ mI M 1 10 ≤ 4 := b1_10 (M := M) hB0.1
    refine vc_icmp_lt dX11_by_13 (fun h3 => ?_) (fun h3 => ?_)
    · refine vc_aload_n dX11_by_18 rfl ?_
      refine vc_getR dX11_by_19 flX11_10 (s_0 hB0.1.1) rfl (r_0_0 hB0.1.1) ?_
      refine vc_iload_n dX11_by_22 rfl ?_
      refine vc_putI dX11_by_23 (plX11_156 _ rfl) (s_1 hB0.1.1) rfl ?_
      have hB4 : BF fC M (sI M 1 11 t) := BF.w1_11 hB0 rfl
      refine vc_iconst dX11_by_26 rfl ?_
      refine vc_zret dX11_by_27 rfl (by first | decide | omega) (Nat.le_of_ble_eq_true rfl) (Nat.le_of_ble_eq_true rfl) ?_
      exact ⟨_, rfl, hB4, by omega, by omega, Or.inl ⟨by omega, rfl, by rw [cS_w rfl]⟩⟩
    · refine vc_iconst dX11_by_16 rfl ?_
      refine vc_zret dX11_by_17 rfl (by first | decide | omega) (Nat.le_of_ble_eq_true rfl) (Nat.le_of_ble_eq_true rfl) ?_
      exact ⟨_, rfl, hB0, by omega, by omega, Or.inr ⟨by omega, rfl, rfl⟩⟩

set_option maxRecDepth 4000 in
theorem sfX11_startF {l : Launch} {M : Mem} (hB : Box M)  (c : Int) (f : Int)  : Call l mdX11_start [aR 0, aI c, aI f] M (fun q N => ∃ r : Int, q = some (aI r) ∧ BF fC M N ∧ 0 ≤ r ∧ r ≤ 1 ∧ StartS c f (cS M) (cS N) r) := by
  have hB0 : BF fC M M := BF.start hB
  refine Call.of [some (aR 0), some (aI c), some (aI f)] rfl (Nat.le_of_ble_eq_true rfl) rfl ?_
  refine vc_ok (fun hoM hoS hoL => ?_)
  have hr1 : -2147483648 ≤ c ∧ c < 2147483648 := hoL 1 _ rfl
  have hr2 : -2147483648 ≤ f ∧ f < 2147483648 := hoL 2 _ rfl
  refine vc_aload_n dX11_start_0 rfl ?_
  refine vc_getR dX11_start_1 flX11_65 (s_0 hB0.1.1) rfl (r_0_8 hB0.1.1) ?_
  refine vc_iload_n dX11_start_4 rfl ?_
  refine vc_iload_n dX11_start_5 rfl ?_
  refine vc_cVI dX11_start_6 (sfX9_beginsF (M := M) hB0.1  c f ) rfl okX9_begins viX9_begins lkX11_159 (s_34 hB0.1.1) cl_9 rfl (Nat.le_of_ble_eq_true rfl) ⟨rfl, rfl⟩ (Nat.le_of_ble_eq_true rfl) (Nat.le_of_ble_eq_true rfl) (Nat.le_of_ble_eq_true rfl) ?_
  rintro x1 M2 ⟨hB3, h4, h5, h6⟩
  have hB7 : BF fC M M2 := BF.go hB0 hB3
  refine vc_zret dX11_start_9 rfl (by first | decide | omega) (Nat.le_of_ble_eq_true rfl) (Nat.le_of_ble_eq_true rfl) ?_
  exact ⟨_, rfl, hB7, by omega, by omega, h6⟩

set_option maxRecDepth 4000 in
theorem sfX11_walkF {l : Launch} {M : Mem} (hB : Box M)  (n : Int) (p0 : wfL (cS M)) : Call l mdX11_walk [aR 0, aI n] M (fun q N => ∃ r : Int, q = some (aI r) ∧ BF fC M N ∧ WalkS n (cS M) (cS N) r) := by
  have hB0 : BF fC M M := BF.start hB
  refine Call.of [some (aR 0), some (aI n)] rfl (Nat.le_of_ble_eq_true rfl) rfl ?_
  refine vc_ok (fun hoM hoS hoL => ?_)
  have hr1 : -2147483648 ≤ n ∧ n < 2147483648 := hoL 1 _ rfl
  refine vc_iload_n dX11_walk_0 rfl ?_
  refine vc_iconst dX11_walk_1 rfl ?_
  refine vc_icmp_lt dX11_walk_2 (fun h1 => ?_) (fun h1 => ?_)
  · refine vc_iconst dX11_walk_22 rfl ?_
    refine vc_iret dX11_walk_23 rfl (Nat.le_of_ble_eq_true rfl) (Nat.le_of_ble_eq_true rfl) ?_
    exact ⟨_, rfl, hB0, Or.inr ⟨fun e => by first | omega | (rcases hcn with h | h; (exfalso; omega); (exact e.2.2 h.2)), rfl, rfl⟩⟩
  · refine vc_iload_n dX11_walk_5 rfl ?_
    refine vc_bipush dX11_walk_6 rfl ?_
    refine vc_icmp_gt dX11_walk_8 (fun h2 => ?_) (fun h2 => ?_)
    · refine vc_iconst dX11_walk_22 rfl ?_
      refine vc_iret dX11_walk_23 rfl (Nat.le_of_ble_eq_true rfl) (Nat.le_of_ble_eq_true rfl) ?_
      exact ⟨_, rfl, hB0, Or.inr ⟨fun e => by first | omega | (rcases hcn with h | h; (exfalso; omega); (exact e.2.2 h.2)), rfl, rfl⟩⟩
    · refine vc_aload_n dX11_walk_11 rfl ?_
      refine vc_getR dX11_walk_12 flX11_65 (s_0 hB0.1.1) rfl (r_0_8 hB0.1.1) ?_
      refine vc_iload_n dX11_walk_15 rfl ?_
      refine vc_cVI dX11_walk_16 (sfX9_canGoF (M := M) hB0.1  n ) rfl okX9_canGo viX9_canGo lkX11_163 (s_34 hB0.1.1) cl_9 rfl (Nat.le_of_ble_eq_true rfl) ⟨rfl, rfl⟩ (Nat.le_of_ble_eq_true rfl) (Nat.le_of_ble_eq_true rfl) (Nat.le_of_ble_eq_true rfl) ?_
      rintro x3 _ ⟨rfl, h4, h5, h6⟩
      have hcn := h6
      refine vc_if_ne dX11_walk_19 (fun h7 => ?_) (fun h7 => ?_)
      · refine vc_aload_n dX11_walk_24 rfl ?_
        refine vc_getR dX11_walk_25 flX11_65 (s_0 hB0.1.1) rfl (r_0_8 hB0.1.1) ?_
        refine vc_iload_n dX11_walk_28 rfl ?_
        refine vc_cVI dX11_walk_29 (sfX9_goesF (M := M) hB0.1  n (by exact p0)) rfl okX9_goes viX9_goes lkX11_166 (s_34 hB0.1.1) cl_9 rfl (Nat.le_of_ble_eq_true rfl) ⟨rfl, rfl⟩ (Nat.le_of_ble_eq_true rfl) (Nat.le_of_ble_eq_true rfl) (Nat.le_of_ble_eq_true rfl) ?_
        rintro x8 M9 ⟨hB10, h11, h12, h13, h14⟩
        have hB15 : BF fC M M9 := BF.go hB0 hB10
        have hgo := h13
        refine vc_pop dX11_walk_32 rfl ?_
        refine vc_aload_n dX11_walk_33 rfl ?_
        refine vc_getR dX11_walk_34 flX11_22 (s_0 hB15.1.1) rfl (r_0_2 hB15.1.1) ?_
        refine vc_getR dX11_walk_37 flX11_169 (s_15 hB15.1.1) rfl (r_15_0 hB15.1.1) ?_
        refine vc_iconst dX11_walk_40 rfl ?_
        refine vc_iaload dX11_walk_41 (s_16 hB15.1.1) (by omega) (by omega) ?_
        refine vc_topI (mI M9 16 0) rfl ?_
        refine vc_iret dX11_walk_42 rfl (Nat.le_of_ble_eq_true rfl) (Nat.le_of_ble_eq_true rfl) ?_
        exact ⟨_, rfl, hB15, Or.inl ⟨⟨by omega, by omega, by rcases hcn with h | h; (exact h.2); (exfalso; omega)⟩, hgo, rfl⟩⟩
      · refine vc_iconst dX11_walk_22 rfl ?_
        refine vc_iret dX11_walk_23 rfl (Nat.le_of_ble_eq_true rfl) (Nat.le_of_ble_eq_true rfl) ?_
        exact ⟨_, rfl, hB0, Or.inr ⟨fun e => by first | omega | (rcases hcn with h | h; (exfalso; omega); (exact e.2.2 h.2)), rfl, rfl⟩⟩

set_option maxRecDepth 4000 in
theorem sfX11_turnF {l : Launch} {M : Mem} (hB : Box M)  (s : Int)  : Call l mdX11_turn [aR 0, aI s] M (fun q N => ∃ r : Int, q = some (aI r) ∧ BF fC M N ∧ TurnS s (cS M) (cS N) r) := by
  have hB0 : BF fC M M := BF.start hB
  refine Call.of [some (aR 0), some (aI s)] rfl (Nat.le_of_ble_eq_true rfl) rfl ?_
  refine vc_ok (fun hoM hoS hoL => ?_)
  have hr1 : -2147483648 ≤ s ∧ s < 2147483648 := hoL 1 _ rfl
  refine vc_aload_n dX11_turn_0 rfl ?_
  refine vc_getR dX11_turn_1 flX11_65 (s_0 hB0.1.1) rfl (r_0_8 hB0.1.1) ?_
  refine vc_iload_n dX11_turn_4 rfl ?_
  refine vc_cVI dX11_turn_5 (sfX9_turnsF (M := M) hB0.1  s ) rfl okX9_turns viX9_turns lkX11_172 (s_34 hB0.1.1) cl_9 rfl (Nat.le_of_ble_eq_true rfl) ⟨rfl, rfl⟩ (Nat.le_of_ble_eq_true rfl) (Nat.le_of_ble_eq_true rfl) (Nat.le_of_ble_eq_true rfl) ?_
  rintro x1 M2 ⟨hB3, h4⟩
  have hB5 : BF fC M M2 := BF.go hB0 hB3
  refine vc_iret dX11_turn_8 rfl (Nat.le_of_ble_eq_true rfl) (Nat.le_of_ble_eq_true rfl) ?_
  exact ⟨_, rfl, hB5, h4⟩

set_option maxRecDepth 4000 in
theorem sfX11_askF {l : Launch} {M : Mem} (hB : Box M)  (t : Int) (p0 : wfL (cS M)) : Call l mdX11_ask [aR 0, aI t] M (fun q N => ∃ r : Int, q = some (aI r) ∧ BF fC M N ∧ AskS t (cS M) (cS N) r) := by
  have hB0 : BF fC M M := BF.start hB
  refine Call.of [some (aR 0), some (aI t)] rfl (Nat.le_of_ble_eq_true rfl) rfl ?_
  refine vc_ok (fun hoM hoS hoL => ?_)
  have hr1 : -2147483648 ≤ t ∧ t < 2147483648 := hoL 1 _ rfl
  refine vc_aload_n dX11_ask_0 rfl ?_
  refine vc_getR dX11_ask_1 flX11_65 (s_0 hB0.1.1) rfl (r_0_8 hB0.1.1) ?_
  refine vc_iload_n dX11_ask_4 rfl ?_
  refine vc_cVI dX11_ask_5 (sfX9_asksF (M := M) hB0.1  t (by exact p0)) rfl okX9_asks viX9_asks lkX11_175 (s_34 hB0.1.1) cl_9 rfl (Nat.le_of_ble_eq_true rfl) ⟨rfl, rfl⟩ (Nat.le_of_ble_eq_true rfl) (Nat.le_of_ble_eq_true rfl) (Nat.le_of_ble_eq_true rfl) ?_
  rintro x1 M2 ⟨hB3, h4⟩
  have hB5 : BF fC M M2 := BF.go hB0 hB3
  refine vc_iret dX11_ask_8 rfl (Nat.le_of_ble_eq_true rfl) (Nat.le_of_ble_eq_true rfl) ?_
  exact ⟨_, rfl, hB5, h4⟩

set_option maxRecDepth 4000 in
theorem sfX11_followF {l : Launch} {M : Mem} (hB : Box M)  (t : Int) (p0 : wfA (cS M)) (p1 : wfL (cS M)) : Call l mdX11_follow [aR 0, aI t] M (fun q N => ∃ r : Int, q = some (aI r) ∧ BF fC M N ∧ FollowS t (cS M) (cS N) r) := by
  have hB0 : BF fC M M := BF.start hB
  refine Call.of [some (aR 0), some (aI t)] rfl (Nat.le_of_ble_eq_true rfl) rfl ?_
  refine vc_ok (fun hoM hoS hoL => ?_)
  have hr1 : -2147483648 ≤ t ∧ t < 2147483648 := hoL 1 _ rfl
  refine vc_aload_n dX11_follow_0 rfl ?_
  refine vc_getR dX11_follow_1 flX11_65 (s_0 hB0.1.1) rfl (r_0_8 hB0.1.1) ?_
  refine vc_iload_n dX11_follow_4 rfl ?_
  refine vc_cVI dX11_follow_5 (sfX9_followsF (M := M) hB0.1  t (by exact p0) (by exact p1)) rfl okX9_follows viX9_follows lkX11_178 (s_34 hB0.1.1) cl_9 rfl (Nat.le_of_ble_eq_true rfl) ⟨rfl, rfl⟩ (Nat.le_of_ble_eq_true rfl) (Nat.le_of_ble_eq_true rfl) (Nat.le_of_ble_eq_true rfl) ?_
  rintro x1 M2 ⟨hB3, h4⟩
  have hB5 : BF fC M M2 := BF.go hB0 hB3
  refine vc_iret dX11_follow_8 rfl (Nat.le_of_ble_eq_true rfl) (Nat.le_of_ble_eq_true rfl) ?_
  exact ⟨_, rfl, hB5, h4⟩

set_option maxRecDepth 4000 in
theorem sfX11_dayF {l : Launch} {M : Mem} (hB : Box M)  (s : Int) (n : Int) (p0 : wfL (cS M)) : Call l mdX11_day [aR 0, aI s, aI n] M (fun q N => ∃ r : Int, q = some (aI r) ∧ BF fC M N ∧ DayS s n (cS M) (cS N) r) := by
  have hB0 : BF fC M M := BF.start hB
  refine Call.of [some (aR 0), some (aI s), some (aI n)] rfl (Nat.le_of_ble_eq_true rfl) rfl ?_
  refine vc_ok (fun hoM hoS hoL => ?_)
  have hr1 : -2147483648 ≤ s ∧ s < 2147483648 := hoL 1 _ rfl
  have hr2 : -2147483648 ≤ n ∧ n < 2147483648 := hoL 2 _ rfl
  refine vc_aload_n dX11_day_0 rfl ?_
  refine vc_getR dX11_day_1 flX11_65 (s_0 hB0.1.1) rfl (r_0_8 hB0.1.1) ?_
  refine vc_iload_n dX11_day_4 rfl ?_
  refine vc_iload_n dX11_day_5 rfl ?_
  refine vc_cVI dX11_day_6 (sfX9_spendsDayF (M := M) hB0.1  s n (by exact p0)) rfl okX9_spendsDay viX9_spendsDay lkX11_188 (s_34 hB0.1.1) cl_9 rfl (Nat.le_of_ble_eq_true rfl) ⟨rfl, rfl⟩ (Nat.le_of_ble_eq_true rfl) (Nat.le_of_ble_eq_true rfl) (Nat.le_of_ble_eq_true rfl) ?_
  rintro x1 M2 ⟨hB3, h4⟩
  have hB5 : BF fC M M2 := BF.go hB0 hB3
  refine vc_iret dX11_day_9 rfl (Nat.le_of_ble_eq_true rfl) (Nat.le_of_ble_eq_true rfl) ?_
  exact ⟨_, rfl, hB5, h4⟩

set_option maxRecDepth 4000 in
theorem sfX11_undoF {l : Launch} {M : Mem} (hB : Box M)    : Call l mdX11_undo [aR 0] M (fun q N => ∃ r : Int, q = some (aI r) ∧ BF fC M N ∧ UndoS (cS M) (cS N) r) := by
  have hB0 : BF fC M M := BF.start hB
  refine Call.of [some (aR 0)] rfl (Nat.le_of_ble_eq_true rfl) rfl ?_
  refine vc_aload_n dX11_undo_0 rfl ?_
  refine vc_getR dX11_undo_1 flX11_22 (s_0 hB0.1.1) rfl (r_0_2 hB0.1.1) ?_
  refine vc_cVI dX11_undo_4 (sfX8_takeBackF (M := M) hB0.1   ) rfl okX8_takeBack viX8_takeBack lkX11_192 (s_15 hB0.1.1) cl_8 rfl (Nat.le_of_ble_eq_true rfl) ⟨rfl, rfl⟩ (Nat.le_of_ble_eq_true rfl) (Nat.le_of_ble_eq_true rfl) (Nat.le_of_ble_eq_true rfl) ?_
  rintro x1 M2 ⟨hB3, h4⟩
  have hB5 : BF fC M M2 := BF.go hB0 hB3
  refine vc_iret dX11_undo_7 rfl (Nat.le_of_ble_eq_true rfl) (Nat.le_of_ble_eq_true rfl) ?_
  exact ⟨_, rfl, hB5, h4⟩

set_option maxRecDepth 4000 in
theorem sfX11_playedF {l : Launch} {M : Mem} (hB : Box M)  (t : Int) (p0 : wfA (cS M)) (p1 : ∀ t : Nat, (t : Int) < mI M 1 10 → ∃ y z : Nat, mR M 7 t = some y ∧ mR M y 2 = some z ∧ M.1[z]? = some (.inr (0, (5 * mI M y 3).toNat))) (p2 : wfL (cS M)) : Call l mdX11_played [aR 0, aI t] M (fun q N => ∃ r : Int, q = some (aI r) ∧ BF fC M N ∧ (((0 ≤ t ∧ t < mI M 1 10) ∧ ∃ y z : Nat, mR M 7 t.toNat = some y ∧ mR M y 2 = some z ∧ PlS (mI M z) (mI M y 3).toNat 0 (cS M) (cS N) r) ∨ (¬ (0 ≤ t ∧ t < mI M 1 10) ∧ r = -2 ∧ cS N = cS M))) := by
  have hB0 : BF fC M M := BF.start hB
  refine Call.of [some (aR 0), some (aI t), none] rfl (Nat.le_of_ble_eq_true rfl) rfl ?_
  refine vc_ok (fun hoM hoS hoL => ?_)
  have hr1 : -2147483648 ≤ t ∧ t < 2147483648 := hoL 1 _ rfl
  refine vc_aload_n dX11_played_0 rfl ?_
  refine vc_getR dX11_played_1 flX11_10 (s_0 hB0.1.1) rfl (r_0_0 hB0.1.1) ?_
  refine vc_iload_n dX11_played_4 rfl ?_
  refine vc_cVO dX11_played_5 (sfX6_textOfF (M := M) hB0.1  t ) rfl okX6_textOf viX6_textOf lkX11_181 (s_1 hB0.1.1) cl_6 rfl (Nat.le_of_ble_eq_true rfl) ⟨rfl, rfl⟩ (Nat.le_of_ble_eq_true rfl) (Nat.le_of_ble_eq_true rfl) (Nat.le_of_ble_eq_true rfl) ?_
  rintro o1 _ ⟨rfl, h2, h3⟩
  have hto := h3
  refine vc_astore_n dX11_played_8 (by decide) rfl (show _ = [some (aR 0), some (aI t), some (.inr (.inr o1))] from rfl) ?_
  refine vc_aload_n dX11_played_9 rfl ?_
  refine vc_ifnonnull dX11_played_10 (fun h4 => ?_) (fun h4 => ?_)
  · obtain ⟨y5, h4⟩ := Option.ne_none_iff_exists'.mp h4
    subst h4
    have t6 : TxO M y5 := h2 y5 rfl
    obtain ⟨q12, q13, q26, ta7, tb8, tc9, tn10, tm11, q14, q15, q16, q17, q18, q19, q20, q21, q22, q23, q24, q25⟩ := id t6
    refine vc_aload_n dX11_played_18 rfl ?_
    refine vc_getR dX11_played_19 flX11_65 (s_0 hB0.1.1) rfl (r_0_8 hB0.1.1) ?_
    refine vc_aload_n dX11_played_22 rfl ?_
    have hyz : ∃ z : Nat, mR M y5 2 = some z ∧ M.1[z]? = some (.inr (0, (5 * mI M y5 3).toNat)) := by rcases hto with h | h; (obtain ⟨y9, z9, h1, h2, h3⟩ := p1 t.toNat (by omega); rw [h1] at h; have e9 : y5 = y9 := Option.some.inj h.2; rw [e9]; exact ⟨z9, h2, h3⟩); (exact absurd h.2 (by simp))
    obtain ⟨z9, hz9, hl9⟩ := hyz
    have hlen : ∀ z, mR M y5 2 = some z → M.1[z]? = some (.inr (0, (5 * mI M y5 3).toNat)) := fun z hz => by have e9 : z9 = z := Option.some.inj (hz9.symm.trans hz); rw [← e9]; exact hl9
    refine vc_cVI dX11_played_23 (sfX9_playsF (M := M) hB0.1  y5 ((t6).dy hB0.2) (by exact p0) (by exact hlen) (by exact p2)) rfl okX9_plays viX9_plays lkX11_185 (s_34 hB0.1.1) cl_9 rfl (Nat.le_of_ble_eq_true rfl) ⟨rfl, rfl⟩ (Nat.le_of_ble_eq_true rfl) (Nat.le_of_ble_eq_true rfl) (Nat.le_of_ble_eq_true rfl) ?_
    rintro x27 M28 ⟨hB29, h30⟩
    have hB31 : BF fC M M28 := BF.go hB0 hB29
    have hpp := h30 z9 hz9
    refine vc_iret dX11_played_26 rfl (Nat.le_of_ble_eq_true rfl) (Nat.le_of_ble_eq_true rfl) ?_
    exact ⟨_, rfl, hB31, Or.inl ⟨by rcases hto with h | h; (exact h.1); (exact absurd h.2 (by simp)), y5, z9, by rcases hto with h | h; (exact h.2.symm); (exact absurd h.2 (by simp)), hz9, hpp⟩⟩
  · have h4 := Decidable.not_not.mp h4
    subst h4
    refine vc_bipush dX11_played_13 rfl ?_
    refine vc_goto dX11_played_15 ?_
    refine vc_iret dX11_played_26 rfl (Nat.le_of_ble_eq_true rfl) (Nat.le_of_ble_eq_true rfl) ?_
    exact ⟨_, rfl, hB0, Or.inr ⟨by rcases hto with h | h; (exfalso; obtain ⟨y9, z9, h1, h2, h3⟩ := p1 t.toNat (by omega); rw [h1] at h; exact absurd h.2 (by simp)); (exact h.1), rfl, rfl⟩⟩

set_option maxRecDepth 4000 in
theorem sfX11_ofCornerF {l : Launch} {M : Mem} (hB : Box M)  (c : Int) (w : Int)  : Call l mdX11_ofCorner [aR 0, aI c, aI w] M (fun q N => ∃ r : Int, q = some (aI r) ∧ M = N ∧ (((0 ≤ c ∧ c < mI M 1 6 ∧ 0 ≤ w ∧ w ≤ 8) ∧ ((w = 0 ∧ r = siS (cS M) c) ∨ (1 ≤ w ∧ w ≤ 4 ∧ r = ahS (cS M) c (w - 1)) ∨ (5 ≤ w ∧ ((ahS (cS M) c (w - 5) = -1 ∧ r = -1) ∨ (ahS (cS M) c (w - 5) ≠ -1 ∧ r = mI M 4 (4 * c + (w - 5) % 4).toNat))))) ∨ (¬ (0 ≤ c ∧ c < mI M 1 6 ∧ 0 ≤ w ∧ w ≤ 8) ∧ r = -2))) := by
  have hB0 : BF fQ M M := BF.start hB
  refine Call.of [some (aR 0), some (aI c), some (aI w)] rfl (Nat.le_of_ble_eq_true rfl) rfl ?_
  refine vc_ok (fun hoM hoS hoL => ?_)
  have hr1 : -2147483648 ≤ c ∧ c < 2147483648 := hoL 1 _ rfl
  have hr2 : -2147483648 ≤ w ∧ w < 2147483648 := hoL 2 _ rfl
  refine vc_aload_n dX11_ofCorner_0 rfl ?_
  refine vc_getR dX11_ofCorner_1 flX11_10 (s_0 hB0.1.1) rfl (r_0_0 hB0.1.1) ?_
  refine vc_iload_n dX11_ofCorner_4 rfl ?_
  refine vc_cVI dX11_ofCorner_5 (sfX6_hasCornerF (M := M) hB0.1  c ) rfl okX6_hasCorner viX6_hasCorner lkX11_196 (s_1 hB0.1.1) cl_6 rfl (Nat.le_of_ble_eq_true rfl) ⟨rfl, rfl⟩ (Nat.le_of_ble_eq_true rfl) (Nat.le_of_ble_eq_true rfl) (Nat.le_of_ble_eq_true rfl) ?_
  rintro x1 _ ⟨rfl, h2, h3, h4, h5⟩
  refine vc_if_eq dX11_ofCorner_8 (fun h6 => ?_) (fun h6 => ?_)
  · refine vc_bipush dX11_ofCorner_21 rfl ?_
    refine vc_iret dX11_ofCorner_23 rfl (Nat.le_of_ble_eq_true rfl) (Nat.le_of_ble_eq_true rfl) ?_
    exact ⟨_, rfl, rfl, by omega⟩
  · refine vc_iload_n dX11_ofCorner_11 rfl ?_
    refine vc_if_lt dX11_ofCorner_12 (fun h7 => ?_) (fun h7 => ?_)
    · refine vc_bipush dX11_ofCorner_21 rfl ?_
      refine vc_iret dX11_ofCorner_23 rfl (Nat.le_of_ble_eq_true rfl) (Nat.le_of_ble_eq_true rfl) ?_
      exact ⟨_, rfl, rfl, by omega⟩
    · refine vc_iload_n dX11_ofCorner_15 rfl ?_
      refine vc_bipush dX11_ofCorner_16 rfl ?_
      refine vc_icmp_le dX11_ofCorner_18 (fun h8 => ?_) (fun h8 => ?_)
      · refine vc_iload_n dX11_ofCorner_24 rfl ?_
        refine vc_if_ne dX11_ofCorner_25 (fun h9 => ?_) (fun h9 => ?_)
        · refine vc_iload_n dX11_ofCorner_37 rfl ?_
          refine vc_iconst dX11_ofCorner_38 rfl ?_
          refine vc_icmp_gt dX11_ofCorner_39 (fun h10 => ?_) (fun h10 => ?_)
          · refine vc_aload_n dX11_ofCorner_54 rfl ?_
            refine vc_getR dX11_ofCorner_55 flX11_10 (s_0 hB0.1.1) rfl (r_0_0 hB0.1.1) ?_
            refine vc_iload_n dX11_ofCorner_58 rfl ?_
            refine vc_iload_n dX11_ofCorner_59 rfl ?_
            refine vc_iconst dX11_ofCorner_60 rfl ?_
            refine vc_isubE dX11_ofCorner_61 (by omega) (by omega) ?_
            refine vc_cVI dX11_ofCorner_62 (sfX6_aheadF (M := M) hB0.1  c (w - 5) ) rfl okX6_ahead viX6_ahead lkX11_202 (s_1 hB0.1.1) cl_6 rfl (Nat.le_of_ble_eq_true rfl) ⟨rfl, rfl⟩ (Nat.le_of_ble_eq_true rfl) (Nat.le_of_ble_eq_true rfl) (Nat.le_of_ble_eq_true rfl) ?_
            rintro x11 _ ⟨rfl, h12, h13, h14⟩
            refine vc_iconst dX11_ofCorner_65 rfl ?_
            refine vc_icmp_ne dX11_ofCorner_66 (fun h15 => ?_) (fun h15 => ?_)
            · refine vc_aload_n dX11_ofCorner_73 rfl ?_
              refine vc_getR dX11_ofCorner_74 flX11_10 (s_0 hB0.1.1) rfl (r_0_0 hB0.1.1) ?_
              refine vc_iload_n dX11_ofCorner_77 rfl ?_
              refine vc_iload_n dX11_ofCorner_78 rfl ?_
              refine vc_iconst dX11_ofCorner_79 rfl ?_
              refine vc_isubE dX11_ofCorner_80 (by omega) (by omega) ?_
              refine vc_cVI dX11_ofCorner_81 (sfX6_laneAtF (M := M) hB0.1  c (w - 5) ) rfl okX6_laneAt viX6_laneAt lkX11_205 (s_1 hB0.1.1) cl_6 rfl (Nat.le_of_ble_eq_true rfl) ⟨rfl, rfl⟩ (Nat.le_of_ble_eq_true rfl) (Nat.le_of_ble_eq_true rfl) (Nat.le_of_ble_eq_true rfl) ?_
              rintro x16 _ ⟨rfl, h17⟩
              have hlA : x16 = mI M 4 (4 * c + (w - 5) % 4).toNat := h17.trans (by unfold laI; exact if_pos (show 0 ≤ c ∧ c < mI M 1 6 by omega))
              refine vc_iret dX11_ofCorner_84 rfl (Nat.le_of_ble_eq_true rfl) (Nat.le_of_ble_eq_true rfl) ?_
              exact ⟨_, rfl, rfl, by omega⟩
            · refine vc_iconst dX11_ofCorner_69 rfl ?_
              refine vc_goto dX11_ofCorner_70 ?_
              refine vc_iret dX11_ofCorner_84 rfl (Nat.le_of_ble_eq_true rfl) (Nat.le_of_ble_eq_true rfl) ?_
              exact ⟨_, rfl, rfl, by omega⟩
          · refine vc_aload_n dX11_ofCorner_42 rfl ?_
            refine vc_getR dX11_ofCorner_43 flX11_10 (s_0 hB0.1.1) rfl (r_0_0 hB0.1.1) ?_
            refine vc_iload_n dX11_ofCorner_46 rfl ?_
            refine vc_iload_n dX11_ofCorner_47 rfl ?_
            refine vc_iconst dX11_ofCorner_48 rfl ?_
            refine vc_isubE dX11_ofCorner_49 (by omega) (by omega) ?_
            refine vc_cVI dX11_ofCorner_50 (sfX6_aheadF (M := M) hB0.1  c (w - 1) ) rfl okX6_ahead viX6_ahead lkX11_202 (s_1 hB0.1.1) cl_6 rfl (Nat.le_of_ble_eq_true rfl) ⟨rfl, rfl⟩ (Nat.le_of_ble_eq_true rfl) (Nat.le_of_ble_eq_true rfl) (Nat.le_of_ble_eq_true rfl) ?_
            rintro x18 _ ⟨rfl, h19, h20, h21⟩
            refine vc_iret dX11_ofCorner_53 rfl (Nat.le_of_ble_eq_true rfl) (Nat.le_of_ble_eq_true rfl) ?_
            exact ⟨_, rfl, rfl, by omega⟩
        · refine vc_aload_n dX11_ofCorner_28 rfl ?_
          refine vc_getR dX11_ofCorner_29 flX11_10 (s_0 hB0.1.1) rfl (r_0_0 hB0.1.1) ?_
          refine vc_iload_n dX11_ofCorner_32 rfl ?_
          refine vc_cVI dX11_ofCorner_33 (sfX6_sightOfF (M := M) hB0.1  c ) rfl okX6_sightOf viX6_sightOf lkX11_199 (s_1 hB0.1.1) cl_6 rfl (Nat.le_of_ble_eq_true rfl) ⟨rfl, rfl⟩ (Nat.le_of_ble_eq_true rfl) (Nat.le_of_ble_eq_true rfl) (Nat.le_of_ble_eq_true rfl) ?_
          rintro x22 _ ⟨rfl, h23⟩
          refine vc_iret dX11_ofCorner_36 rfl (Nat.le_of_ble_eq_true rfl) (Nat.le_of_ble_eq_true rfl) ?_
          exact ⟨_, rfl, rfl, by omega⟩
      · refine vc_bipush dX11_ofCorner_21 rfl ?_
        refine vc_iret dX11_ofCorner_23 rfl (Nat.le_of_ble_eq_true rfl) (Nat.le_of_ble_eq_true rfl) ?_
        exact ⟨_, rfl, rfl, by omega⟩

set_option maxRecDepth 4000 in
theorem sfX11_ofTellerF {l : Launch} {M : Mem} (hB : Box M)  (t : Int) (w : Int)  : Call l mdX11_ofTeller [aR 0, aI t, aI w] M (fun q N => ∃ r : Int, q = some (aI r) ∧ M = N ∧ (((0 ≤ t ∧ t < mI M 1 8 ∧ 0 ≤ w ∧ w ≤ 4) ∧ ((w < 4 ∧ r = mI M 5 (4 * t + w).toNat) ∨ (w = 4 ∧ r = mI M 16 (4 + t).toNat))) ∨ (¬ (0 ≤ t ∧ t < mI M 1 8 ∧ 0 ≤ w ∧ w ≤ 4) ∧ r = -1))) := by
  have hB0 : BF fQ M M := BF.start hB
  refine Call.of [some (aR 0), some (aI t), some (aI w)] rfl (Nat.le_of_ble_eq_true rfl) rfl ?_
  refine vc_ok (fun hoM hoS hoL => ?_)
  have hr1 : -2147483648 ≤ t ∧ t < 2147483648 := hoL 1 _ rfl
  have hr2 : -2147483648 ≤ w ∧ w < 2147483648 := hoL 2 _ rfl
  refine vc_aload_n dX11_ofTeller_0 rfl ?_
  refine vc_getR dX11_ofTeller_1 flX11_10 (s_0 hB0.1.1) rfl (r_0_0 hB0.1.1) ?_
  refine vc_iload_n dX11_ofTeller_4 rfl ?_
  refine vc_cVI dX11_ofTeller_5 (sfX6_hasTellerF (M := M) hB0.1  t ) rfl okX6_hasTeller viX6_hasTeller lkX11_208 (s_1 hB0.1.1) cl_6 rfl (Nat.le_of_ble_eq_true rfl) ⟨rfl, rfl⟩ (Nat.le_of_ble_eq_true rfl) (Nat.le_of_ble_eq_true rfl) (Nat.le_of_ble_eq_true rfl) ?_
  rintro x1 _ ⟨rfl, h2, h3, h4, h5⟩
  refine vc_if_eq dX11_ofTeller_8 (fun h6 => ?_) (fun h6 => ?_)
  · refine vc_iconst dX11_ofTeller_20 rfl ?_
    refine vc_iret dX11_ofTeller_21 rfl (Nat.le_of_ble_eq_true rfl) (Nat.le_of_ble_eq_true rfl) ?_
    exact ⟨_, rfl, rfl, by omega⟩
  · refine vc_iload_n dX11_ofTeller_11 rfl ?_
    refine vc_if_lt dX11_ofTeller_12 (fun h7 => ?_) (fun h7 => ?_)
    · refine vc_iconst dX11_ofTeller_20 rfl ?_
      refine vc_iret dX11_ofTeller_21 rfl (Nat.le_of_ble_eq_true rfl) (Nat.le_of_ble_eq_true rfl) ?_
      exact ⟨_, rfl, rfl, by omega⟩
    · refine vc_iload_n dX11_ofTeller_15 rfl ?_
      refine vc_iconst dX11_ofTeller_16 rfl ?_
      refine vc_icmp_le dX11_ofTeller_17 (fun h8 => ?_) (fun h8 => ?_)
      · refine vc_iload_n dX11_ofTeller_22 rfl ?_
        refine vc_iconst dX11_ofTeller_23 rfl ?_
        refine vc_icmp_ge dX11_ofTeller_24 (fun h9 => ?_) (fun h9 => ?_)
        · refine vc_aload_n dX11_ofTeller_39 rfl ?_
          refine vc_getR dX11_ofTeller_40 flX11_22 (s_0 hB0.1.1) rfl (r_0_2 hB0.1.1) ?_
          refine vc_getR dX11_ofTeller_43 flX11_169 (s_15 hB0.1.1) rfl (r_15_0 hB0.1.1) ?_
          refine vc_iconst dX11_ofTeller_46 rfl ?_
          refine vc_iload_n dX11_ofTeller_47 rfl ?_
          refine vc_iaddE dX11_ofTeller_48 (by omega) (by omega) ?_
          refine vc_iaload dX11_ofTeller_49 (s_16 hB0.1.1) (by omega) (by omega) ?_
          refine vc_iret dX11_ofTeller_50 rfl (Nat.le_of_ble_eq_true rfl) (Nat.le_of_ble_eq_true rfl) ?_
          exact ⟨_, rfl, rfl, by omega⟩
        · refine vc_aload_n dX11_ofTeller_27 rfl ?_
          refine vc_getR dX11_ofTeller_28 flX11_10 (s_0 hB0.1.1) rfl (r_0_0 hB0.1.1) ?_
          refine vc_iload_n dX11_ofTeller_31 rfl ?_
          refine vc_iload_n dX11_ofTeller_32 rfl ?_
          refine vc_cVI dX11_ofTeller_33 (sfX6_tellerCellF (M := M) hB0.1  t w ) rfl okX6_tellerCell viX6_tellerCell lkX11_211 (s_1 hB0.1.1) cl_6 rfl (Nat.le_of_ble_eq_true rfl) ⟨rfl, rfl⟩ (Nat.le_of_ble_eq_true rfl) (Nat.le_of_ble_eq_true rfl) (Nat.le_of_ble_eq_true rfl) ?_
          rintro x10 _ ⟨rfl, h11⟩
          refine vc_goto dX11_ofTeller_36 ?_
          refine vc_iret dX11_ofTeller_50 rfl (Nat.le_of_ble_eq_true rfl) (Nat.le_of_ble_eq_true rfl) ?_
          exact ⟨_, rfl, rfl, by omega⟩
      · refine vc_iconst dX11_ofTeller_20 rfl ?_
        refine vc_iret dX11_ofTeller_21 rfl (Nat.le_of_ble_eq_true rfl) (Nat.le_of_ble_eq_true rfl) ?_
        exact ⟨_, rfl, rfl, by omega⟩

def abV (w a b c d e f g h i : Int) : Int := if w = 0 then a else if w = 1 then b else if w = 2 then c else if w = 3 then d else if w = 4 then e else if w = 5 then f else if w = 6 then g else if w = 7 then h else if w = 8 then i else -2
set_option maxRecDepth 4000 in
theorem sfX11_aboutF {l : Launch} {M : Mem} (hB : Box M)  (w : Int)  : Call l mdX11_about [aR 0, aI w] M (fun q N => ∃ r : Int, q = some (aI r) ∧ M = N ∧ r = abV w (mI M 1 6) (mI M 1 7) (mI M 1 8) (mI M 1 9) (mI M 16 3) (mI M 1 10) (mI M 1 11) (mI M 15 2) (mI M 0 13)) := by
  have hB0 : BF fQ M M := BF.start hB
  refine Call.of [some (aR 0), some (aI w)] rfl (Nat.le_of_ble_eq_true rfl) rfl ?_
  refine vc_ok (fun hoM hoS hoL => ?_)
  have hr1 : -2147483648 ≤ w ∧ w < 2147483648 := hoL 1 _ rfl
  refine vc_iload_n dX11_about_0 rfl ?_
  by_cases h1 : w = 0
  · refine vc_tabIn dX11_about_1 0 52 h1 rfl rfl rfl ?_
    refine vc_aload_n dX11_about_52 rfl ?_
    refine vc_getR dX11_about_53 flX11_10 (s_0 hB0.1.1) rfl (r_0_0 hB0.1.1) ?_
    refine vc_getI dX11_about_56 flX11_265 (s_1 hB0.1.1) rfl ?_
    have k2 : 0 ≤ mI M 1 6 ∧ mI M 1 6 ≤ 16 := b1_6 (M := M) hB0.1
    refine vc_iret dX11_about_59 rfl (Nat.le_of_ble_eq_true rfl) (Nat.le_of_ble_eq_true rfl) ?_
    exact ⟨_, rfl, rfl, by unfold abV; (repeat rw [if_neg (by omega)]); first | done | rw [if_pos (by omega)]⟩
  by_cases h3 : w = 1
  · refine vc_tabIn dX11_about_1 1 60 h3 rfl rfl rfl ?_
    refine vc_aload_n dX11_about_60 rfl ?_
    refine vc_getR dX11_about_61 flX11_10 (s_0 hB0.1.1) rfl (r_0_0 hB0.1.1) ?_
    refine vc_getI dX11_about_64 flX11_325 (s_1 hB0.1.1) rfl ?_
    have k4 : (-1) ≤ mI M 1 7 ∧ mI M 1 7 ≤ 15 := b1_7 (M := M) hB0.1
    refine vc_iret dX11_about_67 rfl (Nat.le_of_ble_eq_true rfl) (Nat.le_of_ble_eq_true rfl) ?_
    exact ⟨_, rfl, rfl, by unfold abV; (repeat rw [if_neg (by omega)]); first | done | rw [if_pos (by omega)]⟩
  by_cases h5 : w = 2
  · refine vc_tabIn dX11_about_1 2 68 h5 rfl rfl rfl ?_
    refine vc_aload_n dX11_about_68 rfl ?_
    refine vc_getR dX11_about_69 flX11_10 (s_0 hB0.1.1) rfl (r_0_0 hB0.1.1) ?_
    refine vc_getI dX11_about_72 flX11_353 (s_1 hB0.1.1) rfl ?_
    have k6 : 0 ≤ mI M 1 8 ∧ mI M 1 8 ≤ 6 := b1_8 (M := M) hB0.1
    refine vc_iret dX11_about_75 rfl (Nat.le_of_ble_eq_true rfl) (Nat.le_of_ble_eq_true rfl) ?_
    exact ⟨_, rfl, rfl, by unfold abV; (repeat rw [if_neg (by omega)]); first | done | rw [if_pos (by omega)]⟩
  by_cases h7 : w = 3
  · refine vc_tabIn dX11_about_1 3 76 h7 rfl rfl rfl ?_
    refine vc_aload_n dX11_about_76 rfl ?_
    refine vc_getR dX11_about_77 flX11_10 (s_0 hB0.1.1) rfl (r_0_0 hB0.1.1) ?_
    refine vc_getI dX11_about_80 flX11_259 (s_1 hB0.1.1) rfl ?_
    have k8 : 0 ≤ mI M 1 9 ∧ mI M 1 9 ≤ 8 := b1_9 (M := M) hB0.1
    refine vc_iret dX11_about_83 rfl (Nat.le_of_ble_eq_true rfl) (Nat.le_of_ble_eq_true rfl) ?_
    exact ⟨_, rfl, rfl, by unfold abV; (repeat rw [if_neg (by omega)]); first | done | rw [if_pos (by omega)]⟩
  by_cases h9 : w = 4
  · refine vc_tabIn dX11_about_1 4 84 h9 rfl rfl rfl ?_
    refine vc_aload_n dX11_about_84 rfl ?_
    refine vc_getR dX11_about_85 flX11_22 (s_0 hB0.1.1) rfl (r_0_2 hB0.1.1) ?_
    refine vc_getR dX11_about_88 flX11_169 (s_15 hB0.1.1) rfl (r_15_0 hB0.1.1) ?_
    refine vc_iconst dX11_about_91 rfl ?_
    refine vc_iaload dX11_about_92 (s_16 hB0.1.1) (by omega) (by omega) ?_
    refine vc_topI (mI M 16 3) rfl ?_
    refine vc_iret dX11_about_93 rfl (Nat.le_of_ble_eq_true rfl) (Nat.le_of_ble_eq_true rfl) ?_
    exact ⟨_, rfl, rfl, by unfold abV; (repeat rw [if_neg (by omega)]); first | done | rw [if_pos (by omega)]⟩
  by_cases h10 : w = 5
  · refine vc_tabIn dX11_about_1 5 94 h10 rfl rfl rfl ?_
    refine vc_aload_n dX11_about_94 rfl ?_
    refine vc_getR dX11_about_95 flX11_10 (s_0 hB0.1.1) rfl (r_0_0 hB0.1.1) ?_
    refine vc_getI dX11_about_98 flX11_136 (s_1 hB0.1.1) rfl ?_
    have k11 : 0 ≤ mI M 1 10 ∧ mI M 1 10 ≤ 4 := b1_10 (M := M) hB0.1
    refine vc_iret dX11_about_101 rfl (Nat.le_of_ble_eq_true rfl) (Nat.le_of_ble_eq_true rfl) ?_
    exact ⟨_, rfl, rfl, by unfold abV; (repeat rw [if_neg (by omega)]); first | done | rw [if_pos (by omega)]⟩
  by_cases h12 : w = 6
  · refine vc_tabIn dX11_about_1 6 102 h12 rfl rfl rfl ?_
    refine vc_aload_n dX11_about_102 rfl ?_
    refine vc_getR dX11_about_103 flX11_10 (s_0 hB0.1.1) rfl (r_0_0 hB0.1.1) ?_
    refine vc_getI dX11_about_106 flX11_156 (s_1 hB0.1.1) rfl ?_
    refine vc_iret dX11_about_109 rfl (Nat.le_of_ble_eq_true rfl) (Nat.le_of_ble_eq_true rfl) ?_
    exact ⟨_, rfl, rfl, by unfold abV; (repeat rw [if_neg (by omega)]); first | done | rw [if_pos (by omega)]⟩
  by_cases h13 : w = 7
  · refine vc_tabIn dX11_about_1 7 110 h13 rfl rfl rfl ?_
    refine vc_aload_n dX11_about_110 rfl ?_
    refine vc_getR dX11_about_111 flX11_22 (s_0 hB0.1.1) rfl (r_0_2 hB0.1.1) ?_
    refine vc_getI dX11_about_114 flX11_356 (s_15 hB0.1.1) rfl ?_
    have k14 : 0 ≤ mI M 15 2 ∧ mI M 15 2 ≤ 30 := b15_2 (M := M) hB0.1
    refine vc_iret dX11_about_117 rfl (Nat.le_of_ble_eq_true rfl) (Nat.le_of_ble_eq_true rfl) ?_
    exact ⟨_, rfl, rfl, by unfold abV; (repeat rw [if_neg (by omega)]); first | done | rw [if_pos (by omega)]⟩
  by_cases h15 : w = 8
  · refine vc_tabIn dX11_about_1 8 118 h15 rfl rfl rfl ?_
    refine vc_aload_n dX11_about_118 rfl ?_
    refine vc_getI dX11_about_119 flX11_103 (s_0 hB0.1.1) rfl ?_
    have k16 : 0 ≤ mI M 0 13 ∧ mI M 0 13 ≤ 300 := b0_13 (M := M) hB0.1
    refine vc_iret dX11_about_122 rfl (Nat.le_of_ble_eq_true rfl) (Nat.le_of_ble_eq_true rfl) ?_
    exact ⟨_, rfl, rfl, by unfold abV; (repeat rw [if_neg (by omega)]); first | done | rw [if_pos (by omega)]⟩
  refine vc_tabOut dX11_about_1 123 (by omega) rfl ?_
  refine vc_bipush dX11_about_123 rfl ?_
  refine vc_iret dX11_about_125 rfl (Nat.le_of_ble_eq_true rfl) (Nat.le_of_ble_eq_true rfl) ?_
  exact ⟨_, rfl, rfl, by unfold abV; (repeat rw [if_neg (by omega)]); first | done | rw [if_pos (by omega)]⟩

set_option maxRecDepth 4000 in
theorem sfX11_walkerF {l : Launch} {M : Mem} (hB : Box M)  (w : Int)  : Call l mdX11_walker [aR 0, aI w] M (fun q N => ∃ r : Int, q = some (aI r) ∧ M = N ∧ (((mI M 16 0 ≠ -1 ∧ 0 ≤ w ∧ w ≤ 2) ∧ r = mI M 16 w.toNat) ∨ (¬ (mI M 16 0 ≠ -1 ∧ 0 ≤ w ∧ w ≤ 2) ∧ r = -1))) := by
  have hB0 : BF fQ M M := BF.start hB
  refine Call.of [some (aR 0), some (aI w)] rfl (Nat.le_of_ble_eq_true rfl) rfl ?_
  refine vc_ok (fun hoM hoS hoL => ?_)
  have hr1 : -2147483648 ≤ w ∧ w < 2147483648 := hoL 1 _ rfl
  refine vc_aload_n dX11_walker_0 rfl ?_
  refine vc_getR dX11_walker_1 flX11_22 (s_0 hB0.1.1) rfl (r_0_2 hB0.1.1) ?_
  refine vc_getR dX11_walker_4 flX11_169 (s_15 hB0.1.1) rfl (r_15_0 hB0.1.1) ?_
  refine vc_iconst dX11_walker_7 rfl ?_
  refine vc_iaload dX11_walker_8 (s_16 hB0.1.1) (by omega) (by omega) ?_
  refine vc_topI (mI M 16 0) rfl ?_
  refine vc_iconst dX11_walker_9 rfl ?_
  refine vc_icmp_eq dX11_walker_10 (fun h1 => ?_) (fun h1 => ?_)
  · refine vc_iconst dX11_walker_22 rfl ?_
    refine vc_iret dX11_walker_23 rfl (Nat.le_of_ble_eq_true rfl) (Nat.le_of_ble_eq_true rfl) ?_
    exact ⟨_, rfl, rfl, by omega⟩
  · refine vc_iload_n dX11_walker_13 rfl ?_
    refine vc_if_lt dX11_walker_14 (fun h2 => ?_) (fun h2 => ?_)
    · refine vc_iconst dX11_walker_22 rfl ?_
      refine vc_iret dX11_walker_23 rfl (Nat.le_of_ble_eq_true rfl) (Nat.le_of_ble_eq_true rfl) ?_
      exact ⟨_, rfl, rfl, by omega⟩
    · refine vc_iload_n dX11_walker_17 rfl ?_
      refine vc_iconst dX11_walker_18 rfl ?_
      refine vc_icmp_le dX11_walker_19 (fun h3 => ?_) (fun h3 => ?_)
      · refine vc_aload_n dX11_walker_24 rfl ?_
        refine vc_getR dX11_walker_25 flX11_22 (s_0 hB0.1.1) rfl (r_0_2 hB0.1.1) ?_
        refine vc_getR dX11_walker_28 flX11_169 (s_15 hB0.1.1) rfl (r_15_0 hB0.1.1) ?_
        refine vc_iload_n dX11_walker_31 rfl ?_
        refine vc_iaload dX11_walker_32 (s_16 hB0.1.1) (by omega) (by omega) ?_
        refine vc_iret dX11_walker_33 rfl (Nat.le_of_ble_eq_true rfl) (Nat.le_of_ble_eq_true rfl) ?_
        exact ⟨_, rfl, rfl, by omega⟩
      · refine vc_iconst dX11_walker_22 rfl ?_
        refine vc_iret dX11_walker_23 rfl (Nat.le_of_ble_eq_true rfl) (Nat.le_of_ble_eq_true rfl) ?_
        exact ⟨_, rfl, rfl, by omega⟩

set_option maxRecDepth 4000 in
theorem sfX11_leadsF {l : Launch} {M : Mem} (hB : Box M)  (t : Int) (s : Int) (p0 : wfA (cS M)) (p1 : ∀ t : Int, 0 ≤ t → t < mI M 1 9 → 0 ≤ mI M 6 (9 * t).toNat ∧ mI M 6 (9 * t).toNat < mI M 1 8) : Call l mdX11_leads [aR 0, aI t, aI s] M (fun q N => ∃ r : Int, q = some (aI r) ∧ BF fQ M N ∧ (((0 ≤ t ∧ t < mI M 1 9 ∧ 0 ≤ s ∧ s ≤ 7) ∧ r = leS (cS M) t s (-1)) ∨ (¬ (0 ≤ t ∧ t < mI M 1 9 ∧ 0 ≤ s ∧ s ≤ 7) ∧ r = -1))) := by
  have hB0 : BF fQ M M := BF.start hB
  refine Call.of [some (aR 0), some (aI t), some (aI s)] rfl (Nat.le_of_ble_eq_true rfl) rfl ?_
  refine vc_ok (fun hoM hoS hoL => ?_)
  have hr1 : -2147483648 ≤ t ∧ t < 2147483648 := hoL 1 _ rfl
  have hr2 : -2147483648 ≤ s ∧ s < 2147483648 := hoL 2 _ rfl
  refine vc_aload_n dX11_leads_0 rfl ?_
  refine vc_getR dX11_leads_1 flX11_10 (s_0 hB0.1.1) rfl (r_0_0 hB0.1.1) ?_
  refine vc_iload_n dX11_leads_4 rfl ?_
  refine vc_cVI dX11_leads_5 (sfX6_hasTellingF (M := M) hB0.1  t ) rfl okX6_hasTelling viX6_hasTelling lkX11_214 (s_1 hB0.1.1) cl_6 rfl (Nat.le_of_ble_eq_true rfl) ⟨rfl, rfl⟩ (Nat.le_of_ble_eq_true rfl) (Nat.le_of_ble_eq_true rfl) (Nat.le_of_ble_eq_true rfl) ?_
  rintro x1 _ ⟨rfl, h2, h3, h4, h5⟩
  refine vc_if_eq dX11_leads_8 (fun h6 => ?_) (fun h6 => ?_)
  · refine vc_iconst dX11_leads_21 rfl ?_
    refine vc_iret dX11_leads_22 rfl (Nat.le_of_ble_eq_true rfl) (Nat.le_of_ble_eq_true rfl) ?_
    exact ⟨_, rfl, hB0, Or.inr ⟨by omega, rfl⟩⟩
  · refine vc_iload_n dX11_leads_11 rfl ?_
    refine vc_if_lt dX11_leads_12 (fun h7 => ?_) (fun h7 => ?_)
    · refine vc_iconst dX11_leads_21 rfl ?_
      refine vc_iret dX11_leads_22 rfl (Nat.le_of_ble_eq_true rfl) (Nat.le_of_ble_eq_true rfl) ?_
      exact ⟨_, rfl, hB0, Or.inr ⟨by omega, rfl⟩⟩
    · refine vc_iload_n dX11_leads_15 rfl ?_
      refine vc_bipush dX11_leads_16 rfl ?_
      refine vc_icmp_lt dX11_leads_18 (fun h8 => ?_) (fun h8 => ?_)
      · refine vc_aload_n dX11_leads_23 rfl ?_
        refine vc_getR dX11_leads_24 flX11_56 (s_0 hB0.1.1) rfl (r_0_7 hB0.1.1) ?_
        refine vc_iload_n dX11_leads_27 rfl ?_
        refine vc_iload_n dX11_leads_28 rfl ?_
        refine vc_iconst dX11_leads_29 rfl ?_
        have hw1 := p0 t (by omega) (by show t < mI M 1 9; omega)
        have hw2 := p1 t (by omega) (by omega)
        refine vc_cVI dX11_leads_30 (sfX1_comesToF (M := M) hB0.1  t s (-1) (by omega) (by omega) (by exact hw1) (by omega) (by omega)) rfl okX1_comesTo viX1_comesTo lkX11_226 (s_32 hB0.1.1) cl_1 rfl (Nat.le_of_ble_eq_true rfl) ⟨rfl, rfl⟩ (Nat.le_of_ble_eq_true rfl) (Nat.le_of_ble_eq_true rfl) (Nat.le_of_ble_eq_true rfl) ?_
        rintro x9 M10 ⟨hB11, h12⟩
        have hB13 : BF fQ M M10 := BF.go hB0 hB11.sq
        refine vc_iret dX11_leads_33 rfl (Nat.le_of_ble_eq_true rfl) (Nat.le_of_ble_eq_true rfl) ?_
        exact ⟨_, rfl, hB13, Or.inl ⟨by omega, h12⟩⟩
      · refine vc_iconst dX11_leads_21 rfl ?_
        refine vc_iret dX11_leads_22 rfl (Nat.le_of_ble_eq_true rfl) (Nat.le_of_ble_eq_true rfl) ?_
        exact ⟨_, rfl, hB0, Or.inr ⟨by omega, rfl⟩⟩

