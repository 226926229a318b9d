/-! CONTRACTS of the class itself (written by wip/p35/c76.py) -/
set_option maxRecDepth 4000 in
theorem sfX11_ofTelling {l : Launch} {M : Mem} (hB : Box M)  (t : Int) (w : Int)  : Call l mdX11_ofTelling [aR 0, aI t, aI w] M (fun q N => ∃ r : Int, q = some (aI r) ∧ BF fQ M N) := by
  have hB0 : BF fQ M M := BF.start hB
  refine Call.of [some (aR 0), some (aI t), some (aI w)] rfl (Nat.le_of_ble_eq_true rfl) rfl ?_
  refine vc_ok (fun hoM hoS hoL => ?_)
  have hr1 : -2147483648 ≤ t ∧ t < 2147483648 := hoL 1 _ rfl
  have hr2 : -2147483648 ≤ w ∧ w < 2147483648 := hoL 2 _ rfl
  refine vc_aload_n dX11_ofTelling_0 rfl ?_
  refine vc_getR dX11_ofTelling_1 flX11_10 (s_0 hB0.1.1) rfl (r_0_0 hB0.1.1) ?_
  refine vc_iload_n dX11_ofTelling_4 rfl ?_
  refine vc_cVI dX11_ofTelling_5 (sfX6_hasTelling (M := M) hB0.1  t ) rfl okX6_hasTelling viX6_hasTelling lkX11_214 (s_1 hB0.1.1) cl_6 rfl (Nat.le_of_ble_eq_true rfl) ⟨rfl, rfl⟩ (Nat.le_of_ble_eq_true rfl) (Nat.le_of_ble_eq_true rfl) (Nat.le_of_ble_eq_true rfl) ?_
  rintro x1 _ ⟨rfl, h2, h3, h4⟩
  refine vc_if_eq dX11_ofTelling_8 (fun h5 => ?_) (fun h5 => ?_)
  · refine vc_iconst dX11_ofTelling_15 rfl ?_
    refine vc_iret dX11_ofTelling_16 rfl (Nat.le_of_ble_eq_true rfl) (Nat.le_of_ble_eq_true rfl) ?_
    exact ⟨_, rfl, hB0⟩
  · refine vc_iload_n dX11_ofTelling_11 rfl ?_
    refine vc_if_ge dX11_ofTelling_12 (fun h6 => ?_) (fun h6 => ?_)
    · refine vc_iload_n dX11_ofTelling_17 rfl ?_
      refine vc_iconst dX11_ofTelling_18 rfl ?_
      refine vc_icmp_gt dX11_ofTelling_19 (fun h7 => ?_) (fun h7 => ?_)
      · refine vc_iload_n dX11_ofTelling_32 rfl ?_
        refine vc_iconst dX11_ofTelling_33 rfl ?_
        refine vc_icmp_gt dX11_ofTelling_34 (fun h8 => ?_) (fun h8 => ?_)
        · refine vc_iload_n dX11_ofTelling_49 rfl ?_
          refine vc_bipush dX11_ofTelling_50 rfl ?_
          refine vc_icmp_ge dX11_ofTelling_52 (fun h9 => ?_) (fun h9 => ?_)
          · refine vc_aload_n dX11_ofTelling_59 rfl ?_
            refine vc_getR dX11_ofTelling_60 flX11_10 (s_0 hB0.1.1) rfl (r_0_0 hB0.1.1) ?_
            refine vc_iload_n dX11_ofTelling_63 rfl ?_
            refine vc_iload_n dX11_ofTelling_64 rfl ?_
            refine vc_bipush dX11_ofTelling_65 rfl ?_
            refine vc_isubE dX11_ofTelling_67 (by omega) (by omega) ?_
            refine vc_cVI dX11_ofTelling_68 (sfX6_turnOf (M := M) hB0.1  t (w - 10) ) rfl okX6_turnOf viX6_turnOf lkX11_223 (s_1 hB0.1.1) cl_6 rfl (Nat.le_of_ble_eq_true rfl) ⟨rfl, rfl⟩ (Nat.le_of_ble_eq_true rfl) (Nat.le_of_ble_eq_true rfl) (Nat.le_of_ble_eq_true rfl) ?_
            rintro x10 _ rfl
            refine vc_iret dX11_ofTelling_71 rfl (Nat.le_of_ble_eq_true rfl) (Nat.le_of_ble_eq_true rfl) ?_
            exact ⟨_, rfl, hB0⟩
          · refine vc_iconst dX11_ofTelling_55 rfl ?_
            refine vc_goto dX11_ofTelling_56 ?_
            refine vc_iret dX11_ofTelling_71 rfl (Nat.le_of_ble_eq_true rfl) (Nat.le_of_ble_eq_true rfl) ?_
            exact ⟨_, rfl, hB0⟩
        · refine vc_aload_n dX11_ofTelling_37 rfl ?_
          refine vc_getR dX11_ofTelling_38 flX11_47 (s_0 hB0.1.1) rfl (r_0_6 hB0.1.1) ?_
          refine vc_iload_n dX11_ofTelling_41 rfl ?_
          refine vc_iload_n dX11_ofTelling_42 rfl ?_
          refine vc_iconst dX11_ofTelling_43 rfl ?_
          refine vc_isubE dX11_ofTelling_44 (by omega) (by omega) ?_
          refine vc_cVI dX11_ofTelling_45 (sfX2_slip (M := M) hB0.1  t (w - 3) (by omega) (by omega)) rfl okX2_slip viX2_slip lkX11_220 (s_29 hB0.1.1) cl_2 rfl (Nat.le_of_ble_eq_true rfl) ⟨rfl, rfl⟩ (Nat.le_of_ble_eq_true rfl) (Nat.le_of_ble_eq_true rfl) (Nat.le_of_ble_eq_true rfl) ?_
          rintro x11 M12 hB13
          have hB14 : BF fQ M M12 := BF.go hB0 hB13.sq
          refine vc_iret dX11_ofTelling_48 rfl (Nat.le_of_ble_eq_true rfl) (Nat.le_of_ble_eq_true rfl) ?_
          exact ⟨_, rfl, hB14⟩
      · refine vc_aload_n dX11_ofTelling_22 rfl ?_
        refine vc_getR dX11_ofTelling_23 flX11_10 (s_0 hB0.1.1) rfl (r_0_0 hB0.1.1) ?_
        refine vc_iload_n dX11_ofTelling_26 rfl ?_
        refine vc_iload_n dX11_ofTelling_27 rfl ?_
        refine vc_cVI dX11_ofTelling_28 (sfX6_tellingCell (M := M) hB0.1  t w ) rfl okX6_tellingCell viX6_tellingCell lkX11_217 (s_1 hB0.1.1) cl_6 rfl (Nat.le_of_ble_eq_true rfl) ⟨rfl, rfl⟩ (Nat.le_of_ble_eq_true rfl) (Nat.le_of_ble_eq_true rfl) (Nat.le_of_ble_eq_true rfl) ?_
        rintro x15 _ rfl
        refine vc_iret dX11_ofTelling_31 rfl (Nat.le_of_ble_eq_true rfl) (Nat.le_of_ble_eq_true rfl) ?_
        exact ⟨_, rfl, hB0⟩
    · refine vc_iconst dX11_ofTelling_15 rfl ?_
      refine vc_iret dX11_ofTelling_16 rfl (Nat.le_of_ble_eq_true rfl) (Nat.le_of_ble_eq_true rfl) ?_
      exact ⟨_, rfl, hB0⟩

set_option maxRecDepth 4000 in
theorem sfX11_likely {l : Launch} {M : Mem} (hB : Box M)  (t : Int) (c : Int)  : Call l mdX11_likely [aR 0, aI t, aI c] M (fun q N => ∃ r : Int, q = some (aI r) ∧ BF fQ M N) := by
  have hB0 : BF fQ M M := BF.start hB
  refine Call.of [some (aR 0), some (aI t), some (aI c)] rfl (Nat.le_of_ble_eq_true rfl) rfl ?_
  refine vc_ok (fun hoM hoS hoL => ?_)
  have hr1 : -2147483648 ≤ t ∧ t < 2147483648 := hoL 1 _ rfl
  have hr2 : -2147483648 ≤ c ∧ c < 2147483648 := hoL 2 _ rfl
  refine vc_aload_n dX11_likely_0 rfl ?_
  refine vc_getR dX11_likely_1 flX11_10 (s_0 hB0.1.1) rfl (r_0_0 hB0.1.1) ?_
  refine vc_iload_n dX11_likely_4 rfl ?_
  refine vc_cVI dX11_likely_5 (sfX6_hasTelling (M := M) hB0.1  t ) rfl okX6_hasTelling viX6_hasTelling lkX11_214 (s_1 hB0.1.1) cl_6 rfl (Nat.le_of_ble_eq_true rfl) ⟨rfl, rfl⟩ (Nat.le_of_ble_eq_true rfl) (Nat.le_of_ble_eq_true rfl) (Nat.le_of_ble_eq_true rfl) ?_
  rintro x1 _ ⟨rfl, h2, h3, h4⟩
  refine vc_if_eq dX11_likely_8 (fun h5 => ?_) (fun h5 => ?_)
  · refine vc_iconst dX11_likely_27 rfl ?_
    refine vc_iret dX11_likely_28 rfl (Nat.le_of_ble_eq_true rfl) (Nat.le_of_ble_eq_true rfl) ?_
    exact ⟨_, rfl, hB0⟩
  · refine vc_iload_n dX11_likely_11 rfl ?_
    refine vc_iconst dX11_likely_12 rfl ?_
    refine vc_icmp_eq dX11_likely_13 (fun h6 => ?_) (fun h6 => ?_)
    · refine vc_aload_n dX11_likely_29 rfl ?_
      refine vc_getR dX11_likely_30 flX11_74 (s_0 hB0.1.1) rfl (r_0_9 hB0.1.1) ?_
      refine vc_iload_n dX11_likely_33 rfl ?_
      refine vc_cVU dX11_likely_34 (sfX10_weigh (M := M) hB0.1  t ) rfl okX10_weigh viX10_weigh lkX11_230 (s_35 hB0.1.1) cl_10 rfl (Nat.le_of_ble_eq_true rfl) ⟨rfl, rfl⟩ (Nat.le_of_ble_eq_true rfl) (Nat.le_of_ble_eq_true rfl) (Nat.le_of_ble_eq_true rfl) ?_
      rintro M7 hB8
      have hB9 : BF fQ M M7 := BF.go hB0 hB8.wq
      refine vc_aload_n dX11_likely_37 rfl ?_
      refine vc_getR dX11_likely_38 flX11_74 (s_0 hB9.1.1) rfl (r_0_9 hB9.1.1) ?_
      refine vc_iload_n dX11_likely_41 rfl ?_
      refine vc_iconst dX11_likely_42 rfl ?_
      refine vc_cVI dX11_likely_43 (sfX10_weightTo (M := M7) hB9.1  c 0 ) rfl okX10_weightTo viX10_weightTo lkX11_233 (s_35 hB9.1.1) cl_10 rfl (Nat.le_of_ble_eq_true rfl) ⟨rfl, rfl⟩ (Nat.le_of_ble_eq_true rfl) (Nat.le_of_ble_eq_true rfl) (Nat.le_of_ble_eq_true rfl) ?_
      rintro x10 _ rfl
      refine vc_iret dX11_likely_46 rfl (Nat.le_of_ble_eq_true rfl) (Nat.le_of_ble_eq_true rfl) ?_
      exact ⟨_, rfl, hB9⟩
    · refine vc_aload_n dX11_likely_16 rfl ?_
      refine vc_getR dX11_likely_17 flX11_10 (s_0 hB0.1.1) rfl (r_0_0 hB0.1.1) ?_
      refine vc_iload_n dX11_likely_20 rfl ?_
      refine vc_cVI dX11_likely_21 (sfX6_hasCorner (M := M) hB0.1  c ) rfl okX6_hasCorner viX6_hasCorner lkX11_196 (s_1 hB0.1.1) cl_6 rfl (Nat.le_of_ble_eq_true rfl) ⟨rfl, rfl⟩ (Nat.le_of_ble_eq_true rfl) (Nat.le_of_ble_eq_true rfl) (Nat.le_of_ble_eq_true rfl) ?_
      rintro x11 _ ⟨rfl, h12, h13, h14⟩
      refine vc_if_ne dX11_likely_24 (fun h15 => ?_) (fun h15 => ?_)
      · refine vc_aload_n dX11_likely_29 rfl ?_
        refine vc_getR dX11_likely_30 flX11_74 (s_0 hB0.1.1) rfl (r_0_9 hB0.1.1) ?_
        refine vc_iload_n dX11_likely_33 rfl ?_
        refine vc_cVU dX11_likely_34 (sfX10_weigh (M := M) hB0.1  t ) rfl okX10_weigh viX10_weigh lkX11_230 (s_35 hB0.1.1) cl_10 rfl (Nat.le_of_ble_eq_true rfl) ⟨rfl, rfl⟩ (Nat.le_of_ble_eq_true rfl) (Nat.le_of_ble_eq_true rfl) (Nat.le_of_ble_eq_true rfl) ?_
        rintro M16 hB17
        have hB18 : BF fQ M M16 := BF.go hB0 hB17.wq
        refine vc_aload_n dX11_likely_37 rfl ?_
        refine vc_getR dX11_likely_38 flX11_74 (s_0 hB18.1.1) rfl (r_0_9 hB18.1.1) ?_
        refine vc_iload_n dX11_likely_41 rfl ?_
        refine vc_iconst dX11_likely_42 rfl ?_
        refine vc_cVI dX11_likely_43 (sfX10_weightTo (M := M16) hB18.1  c 0 ) rfl okX10_weightTo viX10_weightTo lkX11_233 (s_35 hB18.1.1) cl_10 rfl (Nat.le_of_ble_eq_true rfl) ⟨rfl, rfl⟩ (Nat.le_of_ble_eq_true rfl) (Nat.le_of_ble_eq_true rfl) (Nat.le_of_ble_eq_true rfl) ?_
        rintro x19 _ rfl
        refine vc_iret dX11_likely_46 rfl (Nat.le_of_ble_eq_true rfl) (Nat.le_of_ble_eq_true rfl) ?_
        exact ⟨_, rfl, hB18⟩
      · refine vc_iconst dX11_likely_27 rfl ?_
        refine vc_iret dX11_likely_28 rfl (Nat.le_of_ble_eq_true rfl) (Nat.le_of_ble_eq_true rfl) ?_
        exact ⟨_, rfl, hB0⟩

set_option maxRecDepth 4000 in
theorem sfX11_inLowestTerms {l : Launch} {M : Mem} (hB : Box M)  (u : Int) (w : Int) (low : Int)  : Call l mdX11_inLowestTerms [aL u, aL w, aI low] M (fun q N => ∃ r : Int, q = some (aL r) ∧ M = N) := by
  have hB0 : BF fQ M M := BF.start hB
  refine Call.of [some (aL u), none, some (aL w), none, some (aI low), none, none, none, none, none, none, none] rfl (Nat.le_of_ble_eq_true rfl) rfl ?_
  refine vc_ok (fun hoM hoS hoL => ?_)
  have hr4 : -2147483648 ≤ low ∧ low < 2147483648 := hoL 4 _ rfl
  refine vc_lload_n dX11_inLowestTerms_0 rfl ?_
  refine vc_lstore dX11_inLowestTerms_1 (by decide) rfl rfl (show _ = [some (aL u), none, some (aL w), none, some (aI low), some (aL u), none, none, none, none, none, none] from rfl) ?_
  refine vc_lload_n dX11_inLowestTerms_3 rfl ?_
  refine vc_lstore dX11_inLowestTerms_4 (by decide) rfl rfl (show _ = [some (aL u), none, some (aL w), none, some (aI low), some (aL u), none, some (aL w), none, none, none, none] from rfl) ?_
  refine vc_iconst dX11_inLowestTerms_6 rfl ?_
  refine vc_istore dX11_inLowestTerms_7 (by decide) rfl (show _ = [some (aL u), none, some (aL w), none, some (aI low), some (aL u), none, some (aL w), none, some (aI 0), none, none] from rfl) ?_
  have lp9 : ∀ (n9 : Nat) (v5 : Int) (v7 : Int) (v9 : Int), (0 ≤ v9) → (v9 ≤ 1000) → (1000 - v9).toNat < n9 → VC l mdX11_inLowestTerms 9 [some (aL u), none, some (aL w), none, some (aI low), some (aL v5), none, some (aL v7), none, some (aI v9), none, none] [] M 0 0 (fun q N => ∃ r : Int, q = some (aL r) ∧ M = N) := by
    intro n9
    induction n9 with
    | zero => intro v5 v7 v9 g9_9a g9_9b hm9; exact absurd hm9 (Nat.not_lt_zero _)
    | succ n9 ih9 =>
      intro v5 v7 v9 g9_9a g9_9b hm9
      refine vc_iload dX11_inLowestTerms_9 rfl ?_
      refine vc_sipush dX11_inLowestTerms_11 rfl ?_
      refine vc_icmp_ge dX11_inLowestTerms_14 (fun h1 => ?_) (fun h1 => ?_)
      · refine vc_lload_n dX11_inLowestTerms_45 rfl ?_
        refine vc_lconst dX11_inLowestTerms_46 ?_
        refine vc_topL 0 rfl ?_
        refine vc_lif_eq dX11_inLowestTerms_47 dX11_inLowestTerms_48 (fun h2 => ?_) (fun h2 => ?_)
        · refine vc_iload dX11_inLowestTerms_58 rfl ?_
          refine vc_if_eq dX11_inLowestTerms_60 (fun h3 => ?_) (fun h3 => ?_)
          · refine vc_lconst dX11_inLowestTerms_67 ?_
            refine vc_topL 0 rfl ?_
            refine vc_lret dX11_inLowestTerms_68 rfl (Nat.le_of_ble_eq_true rfl) (Nat.le_of_ble_eq_true rfl) ?_
            exact ⟨_, rfl, rfl⟩
          · refine vc_lconst dX11_inLowestTerms_63 ?_
            refine vc_topL 1 rfl ?_
            refine vc_goto dX11_inLowestTerms_64 ?_
            refine vc_lret dX11_inLowestTerms_68 rfl (Nat.le_of_ble_eq_true rfl) (Nat.le_of_ble_eq_true rfl) ?_
            exact ⟨_, rfl, rfl⟩
        · refine vc_lload dX11_inLowestTerms_51 rfl ?_
          refine vc_lconst dX11_inLowestTerms_53 ?_
          refine vc_topL 0 rfl ?_
          refine vc_lif_ne dX11_inLowestTerms_54 dX11_inLowestTerms_55 (fun h4 => ?_) (fun h4 => ?_)
          · refine vc_iload dX11_inLowestTerms_69 rfl ?_
            refine vc_if_eq dX11_inLowestTerms_71 (fun h5 => ?_) (fun h5 => ?_)
            · refine vc_lload_n dX11_inLowestTerms_81 rfl ?_
              refine vc_lload dX11_inLowestTerms_82 rfl ?_
              refine vc_ldiv dX11_inLowestTerms_84 (by omega) ?_
              refine vc_lret dX11_inLowestTerms_85 rfl (Nat.le_of_ble_eq_true rfl) (Nat.le_of_ble_eq_true rfl) ?_
              exact ⟨_, rfl, rfl⟩
            · refine vc_lload_n dX11_inLowestTerms_74 rfl ?_
              refine vc_lload dX11_inLowestTerms_75 rfl ?_
              refine vc_ldiv dX11_inLowestTerms_77 (by omega) ?_
              refine vc_goto dX11_inLowestTerms_78 ?_
              refine vc_lret dX11_inLowestTerms_85 rfl (Nat.le_of_ble_eq_true rfl) (Nat.le_of_ble_eq_true rfl) ?_
              exact ⟨_, rfl, rfl⟩
          · refine vc_iload dX11_inLowestTerms_58 rfl ?_
            refine vc_if_eq dX11_inLowestTerms_60 (fun h6 => ?_) (fun h6 => ?_)
            · refine vc_lconst dX11_inLowestTerms_67 ?_
              refine vc_topL 0 rfl ?_
              refine vc_lret dX11_inLowestTerms_68 rfl (Nat.le_of_ble_eq_true rfl) (Nat.le_of_ble_eq_true rfl) ?_
              exact ⟨_, rfl, rfl⟩
            · refine vc_lconst dX11_inLowestTerms_63 ?_
              refine vc_topL 1 rfl ?_
              refine vc_goto dX11_inLowestTerms_64 ?_
              refine vc_lret dX11_inLowestTerms_68 rfl (Nat.le_of_ble_eq_true rfl) (Nat.le_of_ble_eq_true rfl) ?_
              exact ⟨_, rfl, rfl⟩
      · refine vc_lload dX11_inLowestTerms_17 rfl ?_
        refine vc_lconst dX11_inLowestTerms_19 ?_
        refine vc_topL 0 rfl ?_
        refine vc_lif_eq dX11_inLowestTerms_20 dX11_inLowestTerms_21 (fun h7 => ?_) (fun h7 => ?_)
        · refine vc_lload_n dX11_inLowestTerms_45 rfl ?_
          refine vc_lconst dX11_inLowestTerms_46 ?_
          refine vc_topL 0 rfl ?_
          refine vc_lif_eq dX11_inLowestTerms_47 dX11_inLowestTerms_48 (fun h8 => ?_) (fun h8 => ?_)
          · refine vc_iload dX11_inLowestTerms_58 rfl ?_
            refine vc_if_eq dX11_inLowestTerms_60 (fun h9 => ?_) (fun h9 => ?_)
            · refine vc_lconst dX11_inLowestTerms_67 ?_
              refine vc_topL 0 rfl ?_
              refine vc_lret dX11_inLowestTerms_68 rfl (Nat.le_of_ble_eq_true rfl) (Nat.le_of_ble_eq_true rfl) ?_
              exact ⟨_, rfl, rfl⟩
            · refine vc_lconst dX11_inLowestTerms_63 ?_
              refine vc_topL 1 rfl ?_
              refine vc_goto dX11_inLowestTerms_64 ?_
              refine vc_lret dX11_inLowestTerms_68 rfl (Nat.le_of_ble_eq_true rfl) (Nat.le_of_ble_eq_true rfl) ?_
              exact ⟨_, rfl, rfl⟩
          · refine vc_lload dX11_inLowestTerms_51 rfl ?_
            refine vc_lconst dX11_inLowestTerms_53 ?_
            refine vc_topL 0 rfl ?_
            refine vc_lif_ne dX11_inLowestTerms_54 dX11_inLowestTerms_55 (fun h10 => ?_) (fun h10 => ?_)
            · refine vc_iload dX11_inLowestTerms_69 rfl ?_
              refine vc_if_eq dX11_inLowestTerms_71 (fun h11 => ?_) (fun h11 => ?_)
              · refine vc_lload_n dX11_inLowestTerms_81 rfl ?_
                refine vc_lload dX11_inLowestTerms_82 rfl ?_
                refine vc_ldiv dX11_inLowestTerms_84 (by omega) ?_
                refine vc_lret dX11_inLowestTerms_85 rfl (Nat.le_of_ble_eq_true rfl) (Nat.le_of_ble_eq_true rfl) ?_
                exact ⟨_, rfl, rfl⟩
              · refine vc_lload_n dX11_inLowestTerms_74 rfl ?_
                refine vc_lload dX11_inLowestTerms_75 rfl ?_
                refine vc_ldiv dX11_inLowestTerms_77 (by omega) ?_
                refine vc_goto dX11_inLowestTerms_78 ?_
                refine vc_lret dX11_inLowestTerms_85 rfl (Nat.le_of_ble_eq_true rfl) (Nat.le_of_ble_eq_true rfl) ?_
                exact ⟨_, rfl, rfl⟩
            · refine vc_iload dX11_inLowestTerms_58 rfl ?_
              refine vc_if_eq dX11_inLowestTerms_60 (fun h12 => ?_) (fun h12 => ?_)
              · refine vc_lconst dX11_inLowestTerms_67 ?_
                refine vc_topL 0 rfl ?_
                refine vc_lret dX11_inLowestTerms_68 rfl (Nat.le_of_ble_eq_true rfl) (Nat.le_of_ble_eq_true rfl) ?_
                exact ⟨_, rfl, rfl⟩
              · refine vc_lconst dX11_inLowestTerms_63 ?_
                refine vc_topL 1 rfl ?_
                refine vc_goto dX11_inLowestTerms_64 ?_
                refine vc_lret dX11_inLowestTerms_68 rfl (Nat.le_of_ble_eq_true rfl) (Nat.le_of_ble_eq_true rfl) ?_
                exact ⟨_, rfl, rfl⟩
        · refine vc_lload dX11_inLowestTerms_24 rfl ?_
          refine vc_lload dX11_inLowestTerms_26 rfl ?_
          refine vc_lrem dX11_inLowestTerms_28 (by omega) ?_
          refine vc_nameL (fun x13 ex13 => ?_)
          refine vc_lstore dX11_inLowestTerms_29 (by decide) rfl rfl (show _ = [some (aL u), none, some (aL w), none, some (aI low), some (aL v5), none, some (aL v7), none, some (aI v9), some (aL x13), none] from rfl) ?_
          refine vc_lload dX11_inLowestTerms_31 rfl ?_
          refine vc_lstore dX11_inLowestTerms_33 (by decide) rfl rfl (show _ = [some (aL u), none, some (aL w), none, some (aI low), some (aL v7), none, some (aL v7), none, some (aI v9), some (aL x13), none] from rfl) ?_
          refine vc_lload dX11_inLowestTerms_35 rfl ?_
          refine vc_lstore dX11_inLowestTerms_37 (by decide) rfl rfl (show _ = [some (aL u), none, some (aL w), none, some (aI low), some (aL v7), none, some (aL x13), none, some (aI v9), some (aL x13), none] from rfl) ?_
          refine vc_iincE dX11_inLowestTerms_39 rfl (by omega) (by omega) (by decide) rfl (show _ = [some (aL u), none, some (aL w), none, some (aI low), some (aL v7), none, some (aL x13), none, some (aI (v9 + 1)), some (aL x13), none] from rfl) ?_
          refine vc_goto dX11_inLowestTerms_42 ?_
          refine vc_less [some (aL u), none, some (aL w), none, some (aI low), some (aL v7), none, some (aL x13), none, some (aI (v9 + 1)), none, none] (lessL_keep (lessL_keep (lessL_keep (lessL_keep (lessL_keep (lessL_keep (lessL_keep (lessL_keep (lessL_keep (lessL_keep (lessL_drop (lessL_keep (lessL_nil))))))))))))) ?_
          exact ih9 v7 x13 (v9 + 1) (by omega) (by omega) (by omega)
  exact lp9 _ u w 0 (by omega) (by omega) (Nat.lt_succ_self _)

set_option maxRecDepth 4000 in
theorem sfX11_byAll {l : Launch} {M : Mem} (hB : Box M)  (t : Int) (c : Int) (low : Int)  : Call l mdX11_byAll [aR 0, aI t, aI c, aI low] M (fun q N => ∃ r : Int, q = some (aL r) ∧ BF fQ M N) := by
  have hB0 : BF fQ M M := BF.start hB
  refine Call.of [some (aR 0), some (aI t), some (aI c), some (aI low)] rfl (Nat.le_of_ble_eq_true rfl) rfl ?_
  refine vc_ok (fun hoM hoS hoL => ?_)
  have hr1 : -2147483648 ≤ t ∧ t < 2147483648 := hoL 1 _ rfl
  have hr2 : -2147483648 ≤ c ∧ c < 2147483648 := hoL 2 _ rfl
  have hr3 : -2147483648 ≤ low ∧ low < 2147483648 := hoL 3 _ rfl
  refine vc_aload_n dX11_byAll_0 rfl ?_
  refine vc_getR dX11_byAll_1 flX11_10 (s_0 hB0.1.1) rfl (r_0_0 hB0.1.1) ?_
  refine vc_iload_n dX11_byAll_4 rfl ?_
  refine vc_iconst dX11_byAll_5 rfl ?_
  refine vc_cVI dX11_byAll_6 (sfX6_isSet (M := M) hB0.1  t 4 ) rfl okX6_isSet viX6_isSet lkX11_236 (s_1 hB0.1.1) cl_6 rfl (Nat.le_of_ble_eq_true rfl) ⟨rfl, rfl⟩ (Nat.le_of_ble_eq_true rfl) (Nat.le_of_ble_eq_true rfl) (Nat.le_of_ble_eq_true rfl) ?_
  rintro x1 _ ⟨rfl, h2, h3⟩
  refine vc_if_eq dX11_byAll_9 (fun h4 => ?_) (fun h4 => ?_)
  · refine vc_ldc2 dX11_byAll_23 rfl klX11_239 ?_
    refine vc_lret dX11_byAll_26 rfl (Nat.le_of_ble_eq_true rfl) (Nat.le_of_ble_eq_true rfl) ?_
    exact ⟨_, rfl, hB0⟩
  · refine vc_aload_n dX11_byAll_12 rfl ?_
    refine vc_getR dX11_byAll_13 flX11_10 (s_0 hB0.1.1) rfl (r_0_0 hB0.1.1) ?_
    refine vc_iload_n dX11_byAll_16 rfl ?_
    refine vc_cVI dX11_byAll_17 (sfX6_hasCorner (M := M) hB0.1  c ) rfl okX6_hasCorner viX6_hasCorner lkX11_196 (s_1 hB0.1.1) cl_6 rfl (Nat.le_of_ble_eq_true rfl) ⟨rfl, rfl⟩ (Nat.le_of_ble_eq_true rfl) (Nat.le_of_ble_eq_true rfl) (Nat.le_of_ble_eq_true rfl) ?_
    rintro x5 _ ⟨rfl, h6, h7, h8⟩
    refine vc_if_ne dX11_byAll_20 (fun h9 => ?_) (fun h9 => ?_)
    · refine vc_aload_n dX11_byAll_27 rfl ?_
      refine vc_getR dX11_byAll_28 flX11_74 (s_0 hB0.1.1) rfl (r_0_9 hB0.1.1) ?_
      refine vc_iload_n dX11_byAll_31 rfl ?_
      refine vc_cVU dX11_byAll_32 (sfX10_multiply (M := M) hB0.1  t ) rfl okX10_multiply viX10_multiply lkX11_241 (s_35 hB0.1.1) cl_10 rfl (Nat.le_of_ble_eq_true rfl) ⟨rfl, rfl⟩ (Nat.le_of_ble_eq_true rfl) (Nat.le_of_ble_eq_true rfl) (Nat.le_of_ble_eq_true rfl) ?_
      rintro M10 hB11
      have hB12 : BF fQ M M10 := BF.go hB0 hB11
      refine vc_aload_n dX11_byAll_35 rfl ?_
      refine vc_getR dX11_byAll_36 flX11_74 (s_0 hB12.1.1) rfl (r_0_9 hB12.1.1) ?_
      refine vc_getR dX11_byAll_39 flX11_244 (s_35 hB12.1.1) rfl (r_35_6 hB12.1.1) ?_
      refine vc_iload_n dX11_byAll_42 rfl ?_
      refine vc_laload dX11_byAll_43 (s_39 hB12.1.1) (by omega) (by omega) ?_
      refine vc_aload_n dX11_byAll_44 rfl ?_
      refine vc_getR dX11_byAll_45 flX11_74 (s_0 hB12.1.1) rfl (r_0_9 hB12.1.1) ?_
      refine vc_getJ dX11_byAll_48 flX11_248 (s_35 hB12.1.1) rfl ?_
      refine vc_iload_n dX11_byAll_51 rfl ?_
      refine vc_cSL dX11_byAll_52 (sfX11_inLowestTerms (M := M10) hB12.1  (mJ M10 39 c.toNat) (mJ M10 35 7) low ) rfl okX11_inLowestTerms stX11_inLowestTerms lkX11_252 rfl (Nat.le_of_ble_eq_true rfl) ⟨rfl, rfl⟩ (Nat.le_of_ble_eq_true rfl) (Nat.le_of_ble_eq_true rfl) (Nat.le_of_ble_eq_true rfl) ?_
      rintro x13 _ rfl
      refine vc_lret dX11_byAll_55 rfl (Nat.le_of_ble_eq_true rfl) (Nat.le_of_ble_eq_true rfl) ?_
      exact ⟨_, rfl, hB12⟩
    · refine vc_ldc2 dX11_byAll_23 rfl klX11_239 ?_
      refine vc_lret dX11_byAll_26 rfl (Nat.le_of_ble_eq_true rfl) (Nat.le_of_ble_eq_true rfl) ?_
      exact ⟨_, rfl, hB0⟩

set_option maxRecDepth 4000 in
theorem sfX11_clash {l : Launch} {M : Mem} (hB : Box M)  (i : Int)  : Call l mdX11_clash [aR 0, aI i] M (fun q N => ∃ r : Int, q = some (aI r) ∧ BF fQ M N) := by
  have hB0 : BF fQ M M := BF.start hB
  refine Call.of [some (aR 0), some (aI i), none, none, none] rfl (Nat.le_of_ble_eq_true rfl) rfl ?_
  refine vc_ok (fun hoM hoS hoL => ?_)
  have hr1 : -2147483648 ≤ i ∧ i < 2147483648 := hoL 1 _ rfl
  refine vc_iload_n dX11_clash_0 rfl ?_
  refine vc_iconst dX11_clash_1 rfl ?_
  refine vc_icmp_ge dX11_clash_2 (fun h1 => ?_) (fun h1 => ?_)
  · refine vc_aload_n dX11_clash_7 rfl ?_
    refine vc_getR dX11_clash_8 flX11_74 (s_0 hB0.1.1) rfl (r_0_9 hB0.1.1) ?_
    refine vc_cVU dX11_clash_11 (sfX10_listCorners (M := M) hB0.1   ) rfl okX10_listCorners viX10_listCorners lkX11_256 (s_35 hB0.1.1) cl_10 rfl (Nat.le_of_ble_eq_true rfl) ⟨rfl, rfl⟩ (Nat.le_of_ble_eq_true rfl) (Nat.le_of_ble_eq_true rfl) (Nat.le_of_ble_eq_true rfl) ?_
    rintro M2 hB3
    have hB4 : BF fQ M M2 := BF.go hB0 hB3
    refine vc_iconst dX11_clash_14 rfl ?_
    refine vc_istore_n dX11_clash_15 (by decide) rfl (show _ = [some (aR 0), some (aI i), some (aI 0), none, none] from rfl) ?_
    refine vc_iconst dX11_clash_16 rfl ?_
    refine vc_istore_n dX11_clash_17 (by decide) rfl (show _ = [some (aR 0), some (aI i), some (aI 0), some (aI 0), none] from rfl) ?_
    have lp18 : ∀ (n18 : Nat) (v2 : Int) (v3 : Int), (0 ≤ v3) → (v3 ≤ 8) → (8 - v3).toNat < n18 → VC l mdX11_clash 18 [some (aR 0), some (aI i), some (aI v2), some (aI v3), none] [] M2 0 0 (fun q N => ∃ r : Int, q = some (aI r) ∧ BF fQ M N) := by
      intro n18
      induction n18 with
      | zero => intro v2 v3 g18_3a g18_3b hm18; exact absurd hm18 (Nat.not_lt_zero _)
      | succ n18 ih18 =>
        intro v2 v3 g18_3a g18_3b hm18
        refine vc_iload_n dX11_clash_18 rfl ?_
        refine vc_aload_n dX11_clash_19 rfl ?_
        refine vc_getR dX11_clash_20 flX11_10 (s_0 hB4.1.1) rfl (r_0_0 hB4.1.1) ?_
        refine vc_getI dX11_clash_23 flX11_259 (s_1 hB4.1.1) rfl ?_
        have k5 : 0 ≤ mI M2 1 9 ∧ mI M2 1 9 ≤ 8 := b1_9 (M := M2) hB4.1
        refine vc_icmp_ge dX11_clash_26 (fun h6 => ?_) (fun h6 => ?_)
        · refine vc_iload_n dX11_clash_97 rfl ?_
          refine vc_iconst dX11_clash_98 rfl ?_
          refine vc_icmp_ne dX11_clash_99 (fun h7 => ?_) (fun h7 => ?_)
          · refine vc_iconst dX11_clash_106 rfl ?_
            refine vc_iret dX11_clash_107 rfl (Nat.le_of_ble_eq_true rfl) (Nat.le_of_ble_eq_true rfl) ?_
            exact ⟨_, rfl, hB4⟩
          · refine vc_iload_n dX11_clash_102 rfl ?_
            refine vc_goto dX11_clash_103 ?_
            refine vc_iret dX11_clash_107 rfl (Nat.le_of_ble_eq_true rfl) (Nat.le_of_ble_eq_true rfl) ?_
            exact ⟨_, rfl, hB4⟩
        · refine vc_iload_n dX11_clash_29 rfl ?_
          refine vc_iconst dX11_clash_30 rfl ?_
          refine vc_iaddE dX11_clash_31 (by omega) (by omega) ?_
          refine vc_nameI (fun x8 ex8 => ?_)
          refine vc_istore dX11_clash_32 (by decide) rfl (show _ = [some (aR 0), some (aI i), some (aI v2), some (aI v3), some (aI x8)] from rfl) ?_
          have lp34 : ∀ (n34 : Nat) (v2i : Int) (v4 : Int), (1 ≤ v4) → (v4 ≤ 8) → (8 - v4).toNat < n34 → VC l mdX11_clash 34 [some (aR 0), some (aI i), some (aI v2i), some (aI v3), some (aI v4)] [] M2 0 0 (fun q N => ∃ r : Int, q = some (aI r) ∧ BF fQ M N) := by
            intro n34
            induction n34 with
            | zero => intro v2i v4 g34_4a g34_4b hm34; exact absurd hm34 (Nat.not_lt_zero _)
            | succ n34 ih34 =>
              intro v2i v4 g34_4a g34_4b hm34
              refine vc_iload dX11_clash_34 rfl ?_
              refine vc_aload_n dX11_clash_36 rfl ?_
              refine vc_getR dX11_clash_37 flX11_10 (s_0 hB4.1.1) rfl (r_0_0 hB4.1.1) ?_
              refine vc_getI dX11_clash_40 flX11_259 (s_1 hB4.1.1) rfl ?_
              refine vc_icmp_ge dX11_clash_43 (fun h9 => ?_) (fun h9 => ?_)
              · refine vc_iincE dX11_clash_91 rfl (by omega) (by omega) (by decide) rfl (show _ = [some (aR 0), some (aI i), some (aI v2i), some (aI (v3 + 1)), some (aI v4)] from rfl) ?_
                refine vc_goto dX11_clash_94 ?_
                refine vc_less [some (aR 0), some (aI i), some (aI v2i), some (aI (v3 + 1)), none] (lessL_keep (lessL_keep (lessL_keep (lessL_keep (lessL_drop (lessL_nil)))))) ?_
                exact ih18 v2i (v3 + 1) (by omega) (by omega) (by omega)
              · refine vc_aload_n dX11_clash_46 rfl ?_
                refine vc_getR dX11_clash_47 flX11_74 (s_0 hB4.1.1) rfl (r_0_9 hB4.1.1) ?_
                refine vc_getR dX11_clash_50 flX11_262 (s_35 hB4.1.1) rfl (r_35_5 hB4.1.1) ?_
                refine vc_iload_n dX11_clash_53 rfl ?_
                refine vc_iaload dX11_clash_54 (s_38 hB4.1.1) (by omega) (by omega) ?_
                refine vc_aload_n dX11_clash_55 rfl ?_
                refine vc_getR dX11_clash_56 flX11_74 (s_0 hB4.1.1) rfl (r_0_9 hB4.1.1) ?_
                refine vc_getR dX11_clash_59 flX11_262 (s_35 hB4.1.1) rfl (r_35_5 hB4.1.1) ?_
                refine vc_iload dX11_clash_62 rfl ?_
                refine vc_iaload dX11_clash_64 (s_38 hB4.1.1) (by omega) (by omega) ?_
                refine vc_iand dX11_clash_65 ?_
                refine vc_if_ne dX11_clash_66 (fun h10 => ?_) (fun h10 => ?_)
                · refine vc_iincE dX11_clash_85 rfl (by omega) (by omega) (by decide) rfl (show _ = [some (aR 0), some (aI i), some (aI v2i), some (aI v3), some (aI (v4 + 1))] from rfl) ?_
                  refine vc_goto dX11_clash_88 ?_
                  exact ih34 v2i (v4 + 1) (by omega) (by omega) (by omega)
                · refine vc_iload_n dX11_clash_69 rfl ?_
                  refine vc_iload_n dX11_clash_70 rfl ?_
                  refine vc_icmp_ne dX11_clash_71 (fun h11 => ?_) (fun h11 => ?_)
                  · refine vc_iinc dX11_clash_82 rfl (by decide) rfl (show _ = [some (aR 0), some (aI i), some (aI (wI (v2i + 1))), some (aI v3), some (aI v4)] from rfl) ?_
                    refine vc_iincE dX11_clash_85 rfl (by omega) (by omega) (by decide) rfl (show _ = [some (aR 0), some (aI i), some (aI (wI (v2i + 1))), some (aI v3), some (aI (v4 + 1))] from rfl) ?_
                    refine vc_goto dX11_clash_88 ?_
                    exact ih34 (wI (v2i + 1)) (v4 + 1) (by omega) (by omega) (by omega)
                  · refine vc_bipush dX11_clash_74 rfl ?_
                    refine vc_iload_n dX11_clash_76 rfl ?_
                    refine vc_imulE dX11_clash_77 (by omega) (by omega) ?_
                    refine vc_iload dX11_clash_78 rfl ?_
                    refine vc_iaddE dX11_clash_80 (by omega) (by omega) ?_
                    refine vc_iret dX11_clash_81 rfl (Nat.le_of_ble_eq_true rfl) (Nat.le_of_ble_eq_true rfl) ?_
                    exact ⟨_, rfl, hB4⟩
          exact lp34 _ v2 x8 (by omega) (by omega) (Nat.lt_succ_self _)
    exact lp18 _ 0 0 (by omega) (by omega) (Nat.lt_succ_self _)
  · refine vc_iconst dX11_clash_5 rfl ?_
    refine vc_iret dX11_clash_6 rfl (Nat.le_of_ble_eq_true rfl) (Nat.le_of_ble_eq_true rfl) ?_
    exact ⟨_, rfl, hB0⟩

set_option maxRecDepth 4000 in
theorem sfX11_isLess {l : Launch} {M : Mem} (hB : Box M)  (s : Int) (t : Int)  : Call l mdX11_isLess [aI s, aI t] M (fun q N => ∃ r : Int, q = some (aI r) ∧ M = N ∧ 0 ≤ r ∧ r ≤ 1) := by
  have hB0 : BF fQ M M := BF.start hB
  refine Call.of [some (aI s), some (aI t), none] rfl (Nat.le_of_ble_eq_true rfl) rfl ?_
  refine vc_ok (fun hoM hoS hoL => ?_)
  have hr0 : -2147483648 ≤ s ∧ s < 2147483648 := hoL 0 _ rfl
  have hr1 : -2147483648 ≤ t ∧ t < 2147483648 := hoL 1 _ rfl
  refine vc_iload_n dX11_isLess_0 rfl ?_
  refine vc_cSI dX11_isLess_1 (sfJ6_bitCount_0f7a4 (M := M) hB0.1  s ) rfl okJ6_bitCount_0f7a4 stJ6_bitCount_0f7a4 lkX11_273 rfl (Nat.le_of_ble_eq_true rfl) ⟨rfl, rfl⟩ (Nat.le_of_ble_eq_true rfl) (Nat.le_of_ble_eq_true rfl) (Nat.le_of_ble_eq_true rfl) ?_
  rintro x1 _ rfl
  refine vc_iload_n dX11_isLess_4 rfl ?_
  refine vc_cSI dX11_isLess_5 (sfJ6_bitCount_0f7a4 (M := M) hB0.1  t ) rfl okJ6_bitCount_0f7a4 stJ6_bitCount_0f7a4 lkX11_273 rfl (Nat.le_of_ble_eq_true rfl) ⟨rfl, rfl⟩ (Nat.le_of_ble_eq_true rfl) (Nat.le_of_ble_eq_true rfl) (Nat.le_of_ble_eq_true rfl) ?_
  rintro x2 _ rfl
  refine vc_isub dX11_isLess_8 ?_
  refine vc_nameI (fun x3 ex3 => ?_)
  refine vc_istore_n dX11_isLess_9 (by decide) rfl (show _ = [some (aI s), some (aI t), some (aI x3)] from rfl) ?_
  refine vc_iload_n dX11_isLess_10 rfl ?_
  refine vc_if_lt dX11_isLess_11 (fun h4 => ?_) (fun h4 => ?_)
  · refine vc_iconst dX11_isLess_23 rfl ?_
    refine vc_goto dX11_isLess_24 ?_
    refine vc_zret dX11_isLess_28 rfl (by first | decide | omega) (Nat.le_of_ble_eq_true rfl) (Nat.le_of_ble_eq_true rfl) ?_
    exact ⟨_, rfl, rfl, by omega, by omega⟩
  · refine vc_iload_n dX11_isLess_14 rfl ?_
    refine vc_if_ne dX11_isLess_15 (fun h5 => ?_) (fun h5 => ?_)
    · refine vc_iconst dX11_isLess_27 rfl ?_
      refine vc_zret dX11_isLess_28 rfl (by first | decide | omega) (Nat.le_of_ble_eq_true rfl) (Nat.le_of_ble_eq_true rfl) ?_
      exact ⟨_, rfl, rfl, by omega, by omega⟩
    · refine vc_iload_n dX11_isLess_18 rfl ?_
      refine vc_iload_n dX11_isLess_19 rfl ?_
      refine vc_icmp_ge dX11_isLess_20 (fun h6 => ?_) (fun h6 => ?_)
      · refine vc_iconst dX11_isLess_27 rfl ?_
        refine vc_zret dX11_isLess_28 rfl (by first | decide | omega) (Nat.le_of_ble_eq_true rfl) (Nat.le_of_ble_eq_true rfl) ?_
        exact ⟨_, rfl, rfl, by omega, by omega⟩
      · refine vc_iconst dX11_isLess_23 rfl ?_
        refine vc_goto dX11_isLess_24 ?_
        refine vc_zret dX11_isLess_28 rfl (by first | decide | omega) (Nat.le_of_ble_eq_true rfl) (Nat.le_of_ble_eq_true rfl) ?_
        exact ⟨_, rfl, rfl, by omega, by omega⟩

set_option maxRecDepth 4000 in
theorem sfX11_wrong {l : Launch} {M : Mem} (hB : Box M)  (t : Int) (c : Int)  : Call l mdX11_wrong [aR 0, aI t, aI c] M (fun q N => ∃ r : Int, q = some (aI r) ∧ BF fQ M N) := by
  have hB0 : BF fQ M M := BF.start hB
  refine Call.of [some (aR 0), some (aI t), some (aI c), none, none, none, none] rfl (Nat.le_of_ble_eq_true rfl) rfl ?_
  refine vc_ok (fun hoM hoS hoL => ?_)
  have hr1 : -2147483648 ≤ t ∧ t < 2147483648 := hoL 1 _ rfl
  have hr2 : -2147483648 ≤ c ∧ c < 2147483648 := hoL 2 _ rfl
  refine vc_aload_n dX11_wrong_0 rfl ?_
  refine vc_getR dX11_wrong_1 flX11_10 (s_0 hB0.1.1) rfl (r_0_0 hB0.1.1) ?_
  refine vc_iload_n dX11_wrong_4 rfl ?_
  refine vc_bipush dX11_wrong_5 rfl ?_
  refine vc_cVI dX11_wrong_7 (sfX6_isSet (M := M) hB0.1  t 8 ) rfl okX6_isSet viX6_isSet lkX11_236 (s_1 hB0.1.1) cl_6 rfl (Nat.le_of_ble_eq_true rfl) ⟨rfl, rfl⟩ (Nat.le_of_ble_eq_true rfl) (Nat.le_of_ble_eq_true rfl) (Nat.le_of_ble_eq_true rfl) ?_
  rintro x1 _ ⟨rfl, h2, h3⟩
  refine vc_if_ne dX11_wrong_10 (fun h4 => ?_) (fun h4 => ?_)
  · refine vc_aload_n dX11_wrong_15 rfl ?_
    refine vc_getR dX11_wrong_16 flX11_74 (s_0 hB0.1.1) rfl (r_0_9 hB0.1.1) ?_
    refine vc_cVU dX11_wrong_19 (sfX10_listCorners (M := M) hB0.1   ) rfl okX10_listCorners viX10_listCorners lkX11_256 (s_35 hB0.1.1) cl_10 rfl (Nat.le_of_ble_eq_true rfl) ⟨rfl, rfl⟩ (Nat.le_of_ble_eq_true rfl) (Nat.le_of_ble_eq_true rfl) (Nat.le_of_ble_eq_true rfl) ?_
    rintro M5 hB6
    have hB7 : BF fQ M M5 := BF.go hB0 hB6
    refine vc_iconst dX11_wrong_22 rfl ?_
    refine vc_istore_n dX11_wrong_23 (by decide) rfl (show _ = [some (aR 0), some (aI t), some (aI c), some (aI (-1)), none, none, none] from rfl) ?_
    refine vc_iconst dX11_wrong_24 rfl ?_
    refine vc_istore dX11_wrong_25 (by decide) rfl (show _ = [some (aR 0), some (aI t), some (aI c), some (aI (-1)), some (aI (-1)), none, none] from rfl) ?_
    refine vc_iconst dX11_wrong_27 rfl ?_
    refine vc_istore dX11_wrong_28 (by decide) rfl (show _ = [some (aR 0), some (aI t), some (aI c), some (aI (-1)), some (aI (-1)), some (aI 0), none] from rfl) ?_
    have lp30 : ∀ (n30 : Nat) (v3 : Int) (v4 : Int) (v5 : Int), (0 ≤ v5) → (v5 ≤ 16) → (16 - v5).toNat < n30 → VC l mdX11_wrong 30 [some (aR 0), some (aI t), some (aI c), some (aI v3), some (aI v4), some (aI v5), none] [] M5 0 0 (fun q N => ∃ r : Int, q = some (aI r) ∧ BF fQ M N) := by
      intro n30
      induction n30 with
      | zero => intro v3 v4 v5 g30_5a g30_5b hm30; exact absurd hm30 (Nat.not_lt_zero _)
      | succ n30 ih30 =>
        intro v3 v4 v5 g30_5a g30_5b hm30
        refine vc_iload dX11_wrong_30 rfl ?_
        refine vc_aload_n dX11_wrong_32 rfl ?_
        refine vc_getR dX11_wrong_33 flX11_10 (s_0 hB7.1.1) rfl (r_0_0 hB7.1.1) ?_
        refine vc_getI dX11_wrong_36 flX11_265 (s_1 hB7.1.1) rfl ?_
        have k8 : 0 ≤ mI M5 1 6 ∧ mI M5 1 6 ≤ 16 := b1_6 (M := M5) hB7.1
        refine vc_icmp_ge dX11_wrong_39 (fun h9 => ?_) (fun h9 => ?_)
        · refine vc_iload_n dX11_wrong_84 rfl ?_
          refine vc_if_eq dX11_wrong_85 (fun h10 => ?_) (fun h10 => ?_)
          · refine vc_iload_n dX11_wrong_93 rfl ?_
            refine vc_iret dX11_wrong_94 rfl (Nat.le_of_ble_eq_true rfl) (Nat.le_of_ble_eq_true rfl) ?_
            exact ⟨_, rfl, hB7⟩
          · refine vc_iload dX11_wrong_88 rfl ?_
            refine vc_goto dX11_wrong_90 ?_
            refine vc_iret dX11_wrong_94 rfl (Nat.le_of_ble_eq_true rfl) (Nat.le_of_ble_eq_true rfl) ?_
            exact ⟨_, rfl, hB7⟩
        · refine vc_iload_n dX11_wrong_42 rfl ?_
          refine vc_aload_n dX11_wrong_43 rfl ?_
          refine vc_getR dX11_wrong_44 flX11_74 (s_0 hB7.1.1) rfl (r_0_9 hB7.1.1) ?_
          refine vc_iload dX11_wrong_47 rfl ?_
          refine vc_cVI dX11_wrong_49 (sfX10_thatReach (M := M5) hB7.1  v5 ) rfl okX10_thatReach viX10_thatReach lkX11_267 (s_35 hB7.1.1) cl_10 rfl (Nat.le_of_ble_eq_true rfl) ⟨rfl, rfl⟩ (Nat.le_of_ble_eq_true rfl) (Nat.le_of_ble_eq_true rfl) (Nat.le_of_ble_eq_true rfl) ?_
          rintro x11 _ rfl
          refine vc_iconst dX11_wrong_52 rfl ?_
          refine vc_ixor dX11_wrong_53 ?_
          refine vc_iand dX11_wrong_54 ?_
          refine vc_nameI (fun x12 ex12 => ?_)
          refine vc_istore dX11_wrong_55 (by decide) rfl (show _ = [some (aR 0), some (aI t), some (aI c), some (aI v3), some (aI v4), some (aI v5), some (aI x12)] from rfl) ?_
          refine vc_iload_n dX11_wrong_57 rfl ?_
          refine vc_iconst dX11_wrong_58 rfl ?_
          refine vc_icmp_eq dX11_wrong_59 (fun h13 => ?_) (fun h13 => ?_)
          · refine vc_iload dX11_wrong_71 rfl ?_
            refine vc_istore_n dX11_wrong_73 (by decide) rfl (show _ = [some (aR 0), some (aI t), some (aI c), some (aI x12), some (aI v4), some (aI v5), some (aI x12)] from rfl) ?_
            refine vc_iload dX11_wrong_74 rfl ?_
            refine vc_istore dX11_wrong_76 (by decide) rfl (show _ = [some (aR 0), some (aI t), some (aI c), some (aI x12), some (aI v5), some (aI v5), some (aI x12)] from rfl) ?_
            refine vc_iincE dX11_wrong_78 rfl (by omega) (by omega) (by decide) rfl (show _ = [some (aR 0), some (aI t), some (aI c), some (aI x12), some (aI v5), some (aI (v5 + 1)), some (aI x12)] from rfl) ?_
            refine vc_goto dX11_wrong_81 ?_
            refine vc_less [some (aR 0), some (aI t), some (aI c), some (aI x12), some (aI v5), some (aI (v5 + 1)), none] (lessL_keep (lessL_keep (lessL_keep (lessL_keep (lessL_keep (lessL_keep (lessL_drop (lessL_nil)))))))) ?_
            exact ih30 x12 v5 (v5 + 1) (by omega) (by omega) (by omega)
          · refine vc_iload dX11_wrong_62 rfl ?_
            refine vc_iload_n dX11_wrong_64 rfl ?_
            refine vc_cSI dX11_wrong_65 (sfX11_isLess (M := M5) hB7.1  x12 v3 ) rfl okX11_isLess stX11_isLess lkX11_270 rfl (Nat.le_of_ble_eq_true rfl) ⟨rfl, rfl⟩ (Nat.le_of_ble_eq_true rfl) (Nat.le_of_ble_eq_true rfl) (Nat.le_of_ble_eq_true rfl) ?_
            rintro x14 _ ⟨rfl, h15, h16⟩
            refine vc_if_eq dX11_wrong_68 (fun h17 => ?_) (fun h17 => ?_)
            · refine vc_iincE dX11_wrong_78 rfl (by omega) (by omega) (by decide) rfl (show _ = [some (aR 0), some (aI t), some (aI c), some (aI v3), some (aI v4), some (aI (v5 + 1)), some (aI x12)] from rfl) ?_
              refine vc_goto dX11_wrong_81 ?_
              refine vc_less [some (aR 0), some (aI t), some (aI c), some (aI v3), some (aI v4), some (aI (v5 + 1)), none] (lessL_keep (lessL_keep (lessL_keep (lessL_keep (lessL_keep (lessL_keep (lessL_drop (lessL_nil)))))))) ?_
              exact ih30 v3 v4 (v5 + 1) (by omega) (by omega) (by omega)
            · refine vc_iload dX11_wrong_71 rfl ?_
              refine vc_istore_n dX11_wrong_73 (by decide) rfl (show _ = [some (aR 0), some (aI t), some (aI c), some (aI x12), some (aI v4), some (aI v5), some (aI x12)] from rfl) ?_
              refine vc_iload dX11_wrong_74 rfl ?_
              refine vc_istore dX11_wrong_76 (by decide) rfl (show _ = [some (aR 0), some (aI t), some (aI c), some (aI x12), some (aI v5), some (aI v5), some (aI x12)] from rfl) ?_
              refine vc_iincE dX11_wrong_78 rfl (by omega) (by omega) (by decide) rfl (show _ = [some (aR 0), some (aI t), some (aI c), some (aI x12), some (aI v5), some (aI (v5 + 1)), some (aI x12)] from rfl) ?_
              refine vc_goto dX11_wrong_81 ?_
              refine vc_less [some (aR 0), some (aI t), some (aI c), some (aI x12), some (aI v5), some (aI (v5 + 1)), none] (lessL_keep (lessL_keep (lessL_keep (lessL_keep (lessL_keep (lessL_keep (lessL_drop (lessL_nil)))))))) ?_
              exact ih30 x12 v5 (v5 + 1) (by omega) (by omega) (by omega)
    exact lp30 _ (-1) (-1) 0 (by omega) (by omega) (Nat.lt_succ_self _)
  · refine vc_iconst dX11_wrong_13 rfl ?_
    refine vc_iret dX11_wrong_14 rfl (Nat.le_of_ble_eq_true rfl) (Nat.le_of_ble_eq_true rfl) ?_
    exact ⟨_, rfl, hB0⟩

set_option maxRecDepth 4000 in
theorem sfX11_far {l : Launch} {M : Mem} (hB : Box M)  (f : Int) (t : Int)  : Call l mdX11_far [aR 0, aI f, aI t] M (fun q N => ∃ r : Int, q = some (aI r) ∧ BF fQ M N) := by
  have hB0 : BF fQ M M := BF.start hB
  refine Call.of [some (aR 0), some (aI f), some (aI t)] rfl (Nat.le_of_ble_eq_true rfl) rfl ?_
  refine vc_ok (fun hoM hoS hoL => ?_)
  have hr1 : -2147483648 ≤ f ∧ f < 2147483648 := hoL 1 _ rfl
  have hr2 : -2147483648 ≤ t ∧ t < 2147483648 := hoL 2 _ rfl
  refine vc_aload_n dX11_far_0 rfl ?_
  refine vc_getR dX11_far_1 flX11_10 (s_0 hB0.1.1) rfl (r_0_0 hB0.1.1) ?_
  refine vc_iload_n dX11_far_4 rfl ?_
  refine vc_cVI dX11_far_5 (sfX6_hasCorner (M := M) hB0.1  f ) rfl okX6_hasCorner viX6_hasCorner lkX11_196 (s_1 hB0.1.1) cl_6 rfl (Nat.le_of_ble_eq_true rfl) ⟨rfl, rfl⟩ (Nat.le_of_ble_eq_true rfl) (Nat.le_of_ble_eq_true rfl) (Nat.le_of_ble_eq_true rfl) ?_
  rintro x1 _ ⟨rfl, h2, h3, h4⟩
  refine vc_if_eq dX11_far_8 (fun h5 => ?_) (fun h5 => ?_)
  · refine vc_iconst dX11_far_22 rfl ?_
    refine vc_iret dX11_far_23 rfl (Nat.le_of_ble_eq_true rfl) (Nat.le_of_ble_eq_true rfl) ?_
    exact ⟨_, rfl, hB0⟩
  · refine vc_aload_n dX11_far_11 rfl ?_
    refine vc_getR dX11_far_12 flX11_10 (s_0 hB0.1.1) rfl (r_0_0 hB0.1.1) ?_
    refine vc_iload_n dX11_far_15 rfl ?_
    refine vc_cVI dX11_far_16 (sfX6_hasCorner (M := M) hB0.1  t ) rfl okX6_hasCorner viX6_hasCorner lkX11_196 (s_1 hB0.1.1) cl_6 rfl (Nat.le_of_ble_eq_true rfl) ⟨rfl, rfl⟩ (Nat.le_of_ble_eq_true rfl) (Nat.le_of_ble_eq_true rfl) (Nat.le_of_ble_eq_true rfl) ?_
    rintro x6 _ ⟨rfl, h7, h8, h9⟩
    refine vc_if_ne dX11_far_19 (fun h10 => ?_) (fun h10 => ?_)
    · refine vc_aload_n dX11_far_24 rfl ?_
      refine vc_getR dX11_far_25 flX11_83 (s_0 hB0.1.1) rfl (r_0_10 hB0.1.1) ?_
      refine vc_cVU dX11_far_28 (sfX7_setPaces (M := M) hB0.1   ) rfl okX7_setPaces viX7_setPaces lkX11_278 (s_40 hB0.1.1) cl_7 rfl (Nat.le_of_ble_eq_true rfl) ⟨rfl, rfl⟩ (Nat.le_of_ble_eq_true rfl) (Nat.le_of_ble_eq_true rfl) (Nat.le_of_ble_eq_true rfl) ?_
      rintro M11 hB12
      have hB13 : BF fQ M M11 := BF.go hB0 hB12.vq
      refine vc_aload_n dX11_far_31 rfl ?_
      refine vc_getR dX11_far_32 flX11_83 (s_0 hB13.1.1) rfl (r_0_10 hB13.1.1) ?_
      refine vc_iload_n dX11_far_35 rfl ?_
      refine vc_cVU dX11_far_36 (sfX7_measure (M := M11) hB13.1  f ) rfl okX7_measure viX7_measure lkX11_281 (s_40 hB13.1.1) cl_7 rfl (Nat.le_of_ble_eq_true rfl) ⟨rfl, rfl⟩ (Nat.le_of_ble_eq_true rfl) (Nat.le_of_ble_eq_true rfl) (Nat.le_of_ble_eq_true rfl) ?_
      rintro M14 hB15
      have hB16 : BF fQ M M14 := BF.go hB13 hB15.vq
      refine vc_aload_n dX11_far_39 rfl ?_
      refine vc_getR dX11_far_40 flX11_83 (s_0 hB16.1.1) rfl (r_0_10 hB16.1.1) ?_
      refine vc_iload_n dX11_far_43 rfl ?_
      refine vc_iload_n dX11_far_44 rfl ?_
      refine vc_cVI dX11_far_45 (sfX7_secondsTo (M := M14) hB16.1  f t ) rfl okX7_secondsTo viX7_secondsTo lkX11_284 (s_40 hB16.1.1) cl_7 rfl (Nat.le_of_ble_eq_true rfl) ⟨rfl, rfl⟩ (Nat.le_of_ble_eq_true rfl) (Nat.le_of_ble_eq_true rfl) (Nat.le_of_ble_eq_true rfl) ?_
      rintro x17 _ rfl
      refine vc_iret dX11_far_48 rfl (Nat.le_of_ble_eq_true rfl) (Nat.le_of_ble_eq_true rfl) ?_
      exact ⟨_, rfl, hB16⟩
    · refine vc_iconst dX11_far_22 rfl ?_
      refine vc_iret dX11_far_23 rfl (Nat.le_of_ble_eq_true rfl) (Nat.le_of_ble_eq_true rfl) ?_
      exact ⟨_, rfl, hB0⟩

set_option maxRecDepth 4000 in
theorem sfX11_see {l : Launch} {M : Mem} (hB : Box M)  (t : Int) (i : Int)  : Call l mdX11_see [aR 0, aI t, aI i] M (fun q N => ∃ r : Int, q = some (aL r) ∧ BF fQ M N) := by
  have hB0 : BF fQ M M := BF.start hB
  refine Call.of [some (aR 0), some (aI t), some (aI i)] rfl (Nat.le_of_ble_eq_true rfl) rfl ?_
  refine vc_ok (fun hoM hoS hoL => ?_)
  have hr1 : -2147483648 ≤ t ∧ t < 2147483648 := hoL 1 _ rfl
  have hr2 : -2147483648 ≤ i ∧ i < 2147483648 := hoL 2 _ rfl
  refine vc_iload_n dX11_see_0 rfl ?_
  refine vc_bipush dX11_see_1 rfl ?_
  refine vc_icmp_lt dX11_see_3 (fun h1 => ?_) (fun h1 => ?_)
  · refine vc_ldc2 dX11_see_29 rfl klX11_239 ?_
    refine vc_lret dX11_see_32 rfl (Nat.le_of_ble_eq_true rfl) (Nat.le_of_ble_eq_true rfl) ?_
    exact ⟨_, rfl, hB0⟩
  · refine vc_aload_n dX11_see_6 rfl ?_
    refine vc_getR dX11_see_7 flX11_10 (s_0 hB0.1.1) rfl (r_0_0 hB0.1.1) ?_
    refine vc_iload_n dX11_see_10 rfl ?_
    refine vc_iconst dX11_see_11 rfl ?_
    refine vc_cVI dX11_see_12 (sfX6_isSet (M := M) hB0.1  t 4 ) rfl okX6_isSet viX6_isSet lkX11_236 (s_1 hB0.1.1) cl_6 rfl (Nat.le_of_ble_eq_true rfl) ⟨rfl, rfl⟩ (Nat.le_of_ble_eq_true rfl) (Nat.le_of_ble_eq_true rfl) (Nat.le_of_ble_eq_true rfl) ?_
    rintro x2 _ ⟨rfl, h3, h4⟩
    refine vc_if_eq dX11_see_15 (fun h5 => ?_) (fun h5 => ?_)
    · refine vc_ldc2 dX11_see_29 rfl klX11_239 ?_
      refine vc_lret dX11_see_32 rfl (Nat.le_of_ble_eq_true rfl) (Nat.le_of_ble_eq_true rfl) ?_
      exact ⟨_, rfl, hB0⟩
    · refine vc_aload_n dX11_see_18 rfl ?_
      refine vc_getR dX11_see_19 flX11_83 (s_0 hB0.1.1) rfl (r_0_10 hB0.1.1) ?_
      refine vc_iload_n dX11_see_22 rfl ?_
      refine vc_cVI dX11_see_23 (sfX7_plan (M := M) hB0.1  t ) rfl okX7_plan viX7_plan lkX11_287 (s_40 hB0.1.1) cl_7 rfl (Nat.le_of_ble_eq_true rfl) ⟨rfl, rfl⟩ (Nat.le_of_ble_eq_true rfl) (Nat.le_of_ble_eq_true rfl) (Nat.le_of_ble_eq_true rfl) ?_
      rintro x6 M7 ⟨hB8, h9, h10⟩
      have hB11 : BF fQ M M7 := BF.go hB0 hB8
      refine vc_if_ne dX11_see_26 (fun h12 => ?_) (fun h12 => ?_)
      · refine vc_iload_n dX11_see_33 rfl ?_
        refine vc_if_ge dX11_see_34 (fun h13 => ?_) (fun h13 => ?_)
        · refine vc_iload_n dX11_see_66 rfl ?_
          refine vc_aload_n dX11_see_67 rfl ?_
          refine vc_getR dX11_see_68 flX11_83 (s_0 hB11.1.1) rfl (r_0_10 hB11.1.1) ?_
          refine vc_getI dX11_see_71 flX11_293 (s_40 hB11.1.1) rfl ?_
          have k14 : 0 ≤ mI M7 40 9 ∧ mI M7 40 9 ≤ 5 := b40_9 (M := M7) hB11.1
          refine vc_icmp_ge dX11_see_74 (fun h15 => ?_) (fun h15 => ?_)
          · refine vc_ldc2 dX11_see_90 rfl klX11_239 ?_
            refine vc_lret dX11_see_93 rfl (Nat.le_of_ble_eq_true rfl) (Nat.le_of_ble_eq_true rfl) ?_
            exact ⟨_, rfl, hB11⟩
          · refine vc_aload_n dX11_see_77 rfl ?_
            refine vc_getR dX11_see_78 flX11_83 (s_0 hB11.1.1) rfl (r_0_10 hB11.1.1) ?_
            refine vc_getR dX11_see_81 flX11_296 (s_40 hB11.1.1) rfl (r_40_8 hB11.1.1) ?_
            refine vc_iload_n dX11_see_84 rfl ?_
            refine vc_iaload dX11_see_85 (s_45 hB11.1.1) (by omega) (by omega) ?_
            refine vc_i2l dX11_see_86 ?_
            refine vc_goto dX11_see_87 ?_
            refine vc_lret dX11_see_93 rfl (Nat.le_of_ble_eq_true rfl) (Nat.le_of_ble_eq_true rfl) ?_
            exact ⟨_, rfl, hB11⟩
        · refine vc_aload_n dX11_see_37 rfl ?_
          refine vc_getR dX11_see_38 flX11_83 (s_0 hB11.1.1) rfl (r_0_10 hB11.1.1) ?_
          refine vc_getJ dX11_see_41 flX11_290 (s_40 hB11.1.1) rfl ?_
          refine vc_aload_n dX11_see_44 rfl ?_
          refine vc_getR dX11_see_45 flX11_74 (s_0 hB11.1.1) rfl (r_0_9 hB11.1.1) ?_
          refine vc_getJ dX11_see_48 flX11_248 (s_35 hB11.1.1) rfl ?_
          refine vc_iload_n dX11_see_51 rfl ?_
          refine vc_bipush dX11_see_52 rfl ?_
          refine vc_icmp_ne dX11_see_54 (fun h16 => ?_) (fun h16 => ?_)
          · refine vc_iconst dX11_see_61 rfl ?_
            refine vc_cSL dX11_see_62 (sfX11_inLowestTerms (M := M7) hB11.1  (mJ M7 40 10) (mJ M7 35 7) 0 ) rfl okX11_inLowestTerms stX11_inLowestTerms lkX11_252 rfl (Nat.le_of_ble_eq_true rfl) ⟨rfl, rfl⟩ (Nat.le_of_ble_eq_true rfl) (Nat.le_of_ble_eq_true rfl) (Nat.le_of_ble_eq_true rfl) ?_
            rintro x17 _ rfl
            refine vc_lret dX11_see_65 rfl (Nat.le_of_ble_eq_true rfl) (Nat.le_of_ble_eq_true rfl) ?_
            exact ⟨_, rfl, hB11⟩
          · refine vc_iconst dX11_see_57 rfl ?_
            refine vc_goto dX11_see_58 ?_
            refine vc_cSL dX11_see_62 (sfX11_inLowestTerms (M := M7) hB11.1  (mJ M7 40 10) (mJ M7 35 7) 1 ) rfl okX11_inLowestTerms stX11_inLowestTerms lkX11_252 rfl (Nat.le_of_ble_eq_true rfl) ⟨rfl, rfl⟩ (Nat.le_of_ble_eq_true rfl) (Nat.le_of_ble_eq_true rfl) (Nat.le_of_ble_eq_true rfl) ?_
            rintro x18 _ rfl
            refine vc_lret dX11_see_65 rfl (Nat.le_of_ble_eq_true rfl) (Nat.le_of_ble_eq_true rfl) ?_
            exact ⟨_, rfl, hB11⟩
      · refine vc_ldc2 dX11_see_29 rfl klX11_239 ?_
        refine vc_lret dX11_see_32 rfl (Nat.le_of_ble_eq_true rfl) (Nat.le_of_ble_eq_true rfl) ?_
        exact ⟨_, rfl, hB11⟩

set_option maxRecDepth 4000 in
theorem sfX11_orAsk {l : Launch} {M : Mem} (hB : Box M)  (t : Int)  : Call l mdX11_orAsk [aR 0, aI t] M (fun q N => ∃ r : Int, q = some (aI r) ∧ BF fQ M N) := by
  have hB0 : BF fQ M M := BF.start hB
  refine Call.of [some (aR 0), some (aI t)] rfl (Nat.le_of_ble_eq_true rfl) rfl ?_
  refine vc_ok (fun hoM hoS hoL => ?_)
  have hr1 : -2147483648 ≤ t ∧ t < 2147483648 := hoL 1 _ rfl
  refine vc_aload_n dX11_orAsk_0 rfl ?_
  refine vc_getR dX11_orAsk_1 flX11_10 (s_0 hB0.1.1) rfl (r_0_0 hB0.1.1) ?_
  refine vc_iload_n dX11_orAsk_4 rfl ?_
  refine vc_iconst dX11_orAsk_5 rfl ?_
  refine vc_cVI dX11_orAsk_6 (sfX6_isSet (M := M) hB0.1  t 4 ) rfl okX6_isSet viX6_isSet lkX11_236 (s_1 hB0.1.1) cl_6 rfl (Nat.le_of_ble_eq_true rfl) ⟨rfl, rfl⟩ (Nat.le_of_ble_eq_true rfl) (Nat.le_of_ble_eq_true rfl) (Nat.le_of_ble_eq_true rfl) ?_
  rintro x1 _ ⟨rfl, h2, h3⟩
  refine vc_if_eq dX11_orAsk_9 (fun h4 => ?_) (fun h4 => ?_)
  · refine vc_iconst dX11_orAsk_23 rfl ?_
    refine vc_iret dX11_orAsk_24 rfl (Nat.le_of_ble_eq_true rfl) (Nat.le_of_ble_eq_true rfl) ?_
    exact ⟨_, rfl, hB0⟩
  · refine vc_aload_n dX11_orAsk_12 rfl ?_
    refine vc_getR dX11_orAsk_13 flX11_83 (s_0 hB0.1.1) rfl (r_0_10 hB0.1.1) ?_
    refine vc_iload_n dX11_orAsk_16 rfl ?_
    refine vc_cVI dX11_orAsk_17 (sfX7_plan (M := M) hB0.1  t ) rfl okX7_plan viX7_plan lkX11_287 (s_40 hB0.1.1) cl_7 rfl (Nat.le_of_ble_eq_true rfl) ⟨rfl, rfl⟩ (Nat.le_of_ble_eq_true rfl) (Nat.le_of_ble_eq_true rfl) (Nat.le_of_ble_eq_true rfl) ?_
    rintro x5 M6 ⟨hB7, h8, h9⟩
    have hB10 : BF fQ M M6 := BF.go hB0 hB7
    refine vc_if_ne dX11_orAsk_20 (fun h11 => ?_) (fun h11 => ?_)
    · refine vc_aload_n dX11_orAsk_25 rfl ?_
      refine vc_getR dX11_orAsk_26 flX11_83 (s_0 hB10.1.1) rfl (r_0_10 hB10.1.1) ?_
      refine vc_cVI dX11_orAsk_29 (sfX7_soonestTeller (M := M6) hB10.1   ) rfl okX7_soonestTeller viX7_soonestTeller lkX11_299 (s_40 hB10.1.1) cl_7 rfl (Nat.le_of_ble_eq_true rfl) ⟨rfl, rfl⟩ (Nat.le_of_ble_eq_true rfl) (Nat.le_of_ble_eq_true rfl) (Nat.le_of_ble_eq_true rfl) ?_
      rintro x12 M13 hB14
      have hB15 : BF fQ M M13 := BF.go hB10 hB14
      refine vc_iret dX11_orAsk_32 rfl (Nat.le_of_ble_eq_true rfl) (Nat.le_of_ble_eq_true rfl) ?_
      exact ⟨_, rfl, hB15⟩
    · refine vc_iconst dX11_orAsk_23 rfl ?_
      refine vc_iret dX11_orAsk_24 rfl (Nat.le_of_ble_eq_true rfl) (Nat.le_of_ble_eq_true rfl) ?_
      exact ⟨_, rfl, hB10⟩

set_option maxRecDepth 4000 in
theorem sfX11_safeSoFar {l : Launch} {M : Mem} (hB : Box M)  (t : Int) (k : Int) (low : Int)  : Call l mdX11_safeSoFar [aR 0, aI t, aI k, aI low] M (fun q N => ∃ r : Int, q = some (aI r) ∧ BF fQ M N) := by
  have hB0 : BF fQ M M := BF.start hB
  refine Call.of [some (aR 0), some (aI t), some (aI k), some (aI low)] rfl (Nat.le_of_ble_eq_true rfl) rfl ?_
  refine vc_ok (fun hoM hoS hoL => ?_)
  have hr1 : -2147483648 ≤ t ∧ t < 2147483648 := hoL 1 _ rfl
  have hr2 : -2147483648 ≤ k ∧ k < 2147483648 := hoL 2 _ rfl
  have hr3 : -2147483648 ≤ low ∧ low < 2147483648 := hoL 3 _ rfl
  refine vc_aload_n dX11_safeSoFar_0 rfl ?_
  refine vc_getR dX11_safeSoFar_1 flX11_10 (s_0 hB0.1.1) rfl (r_0_0 hB0.1.1) ?_
  refine vc_iload_n dX11_safeSoFar_4 rfl ?_
  refine vc_cVI dX11_safeSoFar_5 (sfX6_hasTelling (M := M) hB0.1  t ) rfl okX6_hasTelling viX6_hasTelling lkX11_214 (s_1 hB0.1.1) cl_6 rfl (Nat.le_of_ble_eq_true rfl) ⟨rfl, rfl⟩ (Nat.le_of_ble_eq_true rfl) (Nat.le_of_ble_eq_true rfl) (Nat.le_of_ble_eq_true rfl) ?_
  rintro x1 _ ⟨rfl, h2, h3, h4⟩
  refine vc_if_eq dX11_safeSoFar_8 (fun h5 => ?_) (fun h5 => ?_)
  · refine vc_iconst dX11_safeSoFar_28 rfl ?_
    refine vc_iret dX11_safeSoFar_29 rfl (Nat.le_of_ble_eq_true rfl) (Nat.le_of_ble_eq_true rfl) ?_
    exact ⟨_, rfl, hB0⟩
  · refine vc_iload_n dX11_safeSoFar_11 rfl ?_
    refine vc_if_lt dX11_safeSoFar_12 (fun h6 => ?_) (fun h6 => ?_)
    · refine vc_iconst dX11_safeSoFar_28 rfl ?_
      refine vc_iret dX11_safeSoFar_29 rfl (Nat.le_of_ble_eq_true rfl) (Nat.le_of_ble_eq_true rfl) ?_
      exact ⟨_, rfl, hB0⟩
    · refine vc_iload_n dX11_safeSoFar_15 rfl ?_
      refine vc_aload_n dX11_safeSoFar_16 rfl ?_
      refine vc_getR dX11_safeSoFar_17 flX11_10 (s_0 hB0.1.1) rfl (r_0_0 hB0.1.1) ?_
      refine vc_iload_n dX11_safeSoFar_20 rfl ?_
      refine vc_iconst dX11_safeSoFar_21 rfl ?_
      refine vc_cVI dX11_safeSoFar_22 (sfX6_tellingCell (M := M) hB0.1  t 2 ) rfl okX6_tellingCell viX6_tellingCell lkX11_217 (s_1 hB0.1.1) cl_6 rfl (Nat.le_of_ble_eq_true rfl) ⟨rfl, rfl⟩ (Nat.le_of_ble_eq_true rfl) (Nat.le_of_ble_eq_true rfl) (Nat.le_of_ble_eq_true rfl) ?_
      rintro x7 _ rfl
      refine vc_icmp_le dX11_safeSoFar_25 (fun h8 => ?_) (fun h8 => ?_)
      · refine vc_aload_n dX11_safeSoFar_30 rfl ?_
        refine vc_getR dX11_safeSoFar_31 flX11_74 (s_0 hB0.1.1) rfl (r_0_9 hB0.1.1) ?_
        refine vc_iload_n dX11_safeSoFar_34 rfl ?_
        refine vc_iload_n dX11_safeSoFar_35 rfl ?_
        refine vc_cVI dX11_safeSoFar_36 (sfX10_safeWeight (M := M) hB0.1  t k ) rfl okX10_safeWeight viX10_safeWeight lkX11_302 (s_35 hB0.1.1) cl_10 rfl (Nat.le_of_ble_eq_true rfl) ⟨rfl, rfl⟩ (Nat.le_of_ble_eq_true rfl) (Nat.le_of_ble_eq_true rfl) (Nat.le_of_ble_eq_true rfl) ?_
        rintro x9 M10 hB11
        have hB12 : BF fQ M M10 := BF.go hB0 hB11
        refine vc_i2l dX11_safeSoFar_39 ?_
        refine vc_ldc2 dX11_safeSoFar_40 rfl klX11_305 ?_
        refine vc_iload_n dX11_safeSoFar_43 rfl ?_
        refine vc_cSL dX11_safeSoFar_44 (sfX11_inLowestTerms (M := M10) hB12.1  x9 1000 low ) rfl okX11_inLowestTerms stX11_inLowestTerms lkX11_252 rfl (Nat.le_of_ble_eq_true rfl) ⟨rfl, rfl⟩ (Nat.le_of_ble_eq_true rfl) (Nat.le_of_ble_eq_true rfl) (Nat.le_of_ble_eq_true rfl) ?_
        rintro x13 _ rfl
        refine vc_l2i dX11_safeSoFar_47 ?_
        refine vc_iret dX11_safeSoFar_48 rfl (Nat.le_of_ble_eq_true rfl) (Nat.le_of_ble_eq_true rfl) ?_
        exact ⟨_, rfl, hB12⟩
      · refine vc_iconst dX11_safeSoFar_28 rfl ?_
        refine vc_iret dX11_safeSoFar_29 rfl (Nat.le_of_ble_eq_true rfl) (Nat.le_of_ble_eq_true rfl) ?_
        exact ⟨_, rfl, hB0⟩

set_option maxRecDepth 4000 in
theorem sfX11_howFar {l : Launch} {M : Mem} (hB : Box M)  (t : Int) (q : Int)  : Call l mdX11_howFar [aR 0, aI t, aI q] M (fun q N => ∃ r : Int, q = some (aI r) ∧ BF fQ M N) := by
  have hB0 : BF fQ M M := BF.start hB
  refine Call.of [some (aR 0), some (aI t), some (aI q), none, none] rfl (Nat.le_of_ble_eq_true rfl) rfl ?_
  refine vc_ok (fun hoM hoS hoL => ?_)
  have hr1 : -2147483648 ≤ t ∧ t < 2147483648 := hoL 1 _ rfl
  have hr2 : -2147483648 ≤ q ∧ q < 2147483648 := hoL 2 _ rfl
  refine vc_aload_n dX11_howFar_0 rfl ?_
  refine vc_getR dX11_howFar_1 flX11_10 (s_0 hB0.1.1) rfl (r_0_0 hB0.1.1) ?_
  refine vc_iload_n dX11_howFar_4 rfl ?_
  refine vc_cVI dX11_howFar_5 (sfX6_hasTelling (M := M) hB0.1  t ) rfl okX6_hasTelling viX6_hasTelling lkX11_214 (s_1 hB0.1.1) cl_6 rfl (Nat.le_of_ble_eq_true rfl) ⟨rfl, rfl⟩ (Nat.le_of_ble_eq_true rfl) (Nat.le_of_ble_eq_true rfl) (Nat.le_of_ble_eq_true rfl) ?_
  rintro x1 _ ⟨rfl, h2, h3, h4⟩
  refine vc_if_eq dX11_howFar_8 (fun h5 => ?_) (fun h5 => ?_)
  · refine vc_iconst dX11_howFar_22 rfl ?_
    refine vc_iret dX11_howFar_23 rfl (Nat.le_of_ble_eq_true rfl) (Nat.le_of_ble_eq_true rfl) ?_
    exact ⟨_, rfl, hB0⟩
  · refine vc_iload_n dX11_howFar_11 rfl ?_
    refine vc_iconst dX11_howFar_12 rfl ?_
    refine vc_icmp_lt dX11_howFar_13 (fun h6 => ?_) (fun h6 => ?_)
    · refine vc_iconst dX11_howFar_22 rfl ?_
      refine vc_iret dX11_howFar_23 rfl (Nat.le_of_ble_eq_true rfl) (Nat.le_of_ble_eq_true rfl) ?_
      exact ⟨_, rfl, hB0⟩
    · refine vc_iload_n dX11_howFar_16 rfl ?_
      refine vc_bipush dX11_howFar_17 rfl ?_
      refine vc_icmp_le dX11_howFar_19 (fun h7 => ?_) (fun h7 => ?_)
      · refine vc_aload_n dX11_howFar_24 rfl ?_
        refine vc_getR dX11_howFar_25 flX11_10 (s_0 hB0.1.1) rfl (r_0_0 hB0.1.1) ?_
        refine vc_iload_n dX11_howFar_28 rfl ?_
        refine vc_iconst dX11_howFar_29 rfl ?_
        refine vc_cVI dX11_howFar_30 (sfX6_tellingCell (M := M) hB0.1  t 2 ) rfl okX6_tellingCell viX6_tellingCell lkX11_217 (s_1 hB0.1.1) cl_6 rfl (Nat.le_of_ble_eq_true rfl) ⟨rfl, rfl⟩ (Nat.le_of_ble_eq_true rfl) (Nat.le_of_ble_eq_true rfl) (Nat.le_of_ble_eq_true rfl) ?_
        rintro x8 _ rfl
        refine vc_istore_n dX11_howFar_33 (by decide) rfl (show _ = [some (aR 0), some (aI t), some (aI q), some (aI x8), none] from rfl) ?_
        refine vc_iconst dX11_howFar_34 rfl ?_
        refine vc_istore dX11_howFar_35 (by decide) rfl (show _ = [some (aR 0), some (aI t), some (aI q), some (aI x8), some (aI 0)] from rfl) ?_
        refine vc_ok (fun hoM37 hoS37 hoL37 => ?_)
        have k9 : -2147483648 ≤ x8 ∧ x8 < 2147483648 := hoL37 3 _ rfl
        have lp37 : ∀ (n37 : Nat) (Mq37 : Mem) (v4 : Int), (BF fQ M Mq37) → (0 ≤ v4) → (x8 - v4).toNat < n37 → VC l mdX11_howFar 37 [some (aR 0), some (aI t), some (aI q), some (aI x8), some (aI v4)] [] Mq37 0 0 (fun q N => ∃ r : Int, q = some (aI r) ∧ BF fQ M N) := by
          intro n37
          induction n37 with
          | zero => intro Mq37 v4 hQ37 g37_4a hm37; exact absurd hm37 (Nat.not_lt_zero _)
          | succ n37 ih37 =>
            intro Mq37 v4 hQ37 g37_4a hm37
            refine vc_iload dX11_howFar_37 rfl ?_
            refine vc_iload_n dX11_howFar_39 rfl ?_
            refine vc_icmp_ge dX11_howFar_40 (fun h10 => ?_) (fun h10 => ?_)
            · refine vc_iload dX11_howFar_72 rfl ?_
              refine vc_iret dX11_howFar_74 rfl (Nat.le_of_ble_eq_true rfl) (Nat.le_of_ble_eq_true rfl) ?_
              exact ⟨_, rfl, hQ37⟩
            · refine vc_aload_n dX11_howFar_43 rfl ?_
              refine vc_getR dX11_howFar_44 flX11_74 (s_0 hQ37.1.1) rfl (r_0_9 hQ37.1.1) ?_
              refine vc_iload_n dX11_howFar_47 rfl ?_
              refine vc_iload dX11_howFar_48 rfl ?_
              refine vc_iconst dX11_howFar_50 rfl ?_
              refine vc_iaddE dX11_howFar_51 (by omega) (by omega) ?_
              refine vc_cVI dX11_howFar_52 (sfX10_safeWeight (M := Mq37) hQ37.1  t (v4 + 1) ) rfl okX10_safeWeight viX10_safeWeight lkX11_302 (s_35 hQ37.1.1) cl_10 rfl (Nat.le_of_ble_eq_true rfl) ⟨rfl, rfl⟩ (Nat.le_of_ble_eq_true rfl) (Nat.le_of_ble_eq_true rfl) (Nat.le_of_ble_eq_true rfl) ?_
              rintro x11 M12 hB13
              have hB14 : BF fQ M M12 := BF.go hQ37 hB13
              refine vc_bipush dX11_howFar_55 rfl ?_
              refine vc_imul dX11_howFar_57 ?_
              refine vc_iload_n dX11_howFar_58 rfl ?_
              refine vc_sipush dX11_howFar_59 rfl ?_
              refine vc_imulE dX11_howFar_62 (by omega) (by omega) ?_
              refine vc_icmp_lt dX11_howFar_63 (fun h15 => ?_) (fun h15 => ?_)
              · refine vc_iload dX11_howFar_72 rfl ?_
                refine vc_iret dX11_howFar_74 rfl (Nat.le_of_ble_eq_true rfl) (Nat.le_of_ble_eq_true rfl) ?_
                exact ⟨_, rfl, hB14⟩
              · refine vc_iincE dX11_howFar_66 rfl (by omega) (by omega) (by decide) rfl (show _ = [some (aR 0), some (aI t), some (aI q), some (aI x8), some (aI (v4 + 1))] from rfl) ?_
                refine vc_goto dX11_howFar_69 ?_
                exact ih37 M12 (v4 + 1) hB14 (by omega) (by omega)
        exact lp37 _ M 0 hB0 (by omega) (Nat.lt_succ_self _)
      · refine vc_iconst dX11_howFar_22 rfl ?_
        refine vc_iret dX11_howFar_23 rfl (Nat.le_of_ble_eq_true rfl) (Nat.le_of_ble_eq_true rfl) ?_
        exact ⟨_, rfl, hB0⟩

set_option maxRecDepth 4000 in
theorem sfX11_lost {l : Launch} {M : Mem} (hB : Box M)  (t : Int) (c : Int)  : Call l mdX11_lost [aR 0, aI t, aI c] M (fun q N => ∃ r : Int, q = some (aI r) ∧ BF fQ M N) := by
  have hB0 : BF fQ M M := BF.start hB
  refine Call.of [some (aR 0), some (aI t), some (aI c), none, none] rfl (Nat.le_of_ble_eq_true rfl) rfl ?_
  refine vc_ok (fun hoM hoS hoL => ?_)
  have hr1 : -2147483648 ≤ t ∧ t < 2147483648 := hoL 1 _ rfl
  have hr2 : -2147483648 ≤ c ∧ c < 2147483648 := hoL 2 _ rfl
  refine vc_aload_n dX11_lost_0 rfl ?_
  refine vc_getR dX11_lost_1 flX11_10 (s_0 hB0.1.1) rfl (r_0_0 hB0.1.1) ?_
  refine vc_iload_n dX11_lost_4 rfl ?_
  refine vc_cVI dX11_lost_5 (sfX6_hasTelling (M := M) hB0.1  t ) rfl okX6_hasTelling viX6_hasTelling lkX11_214 (s_1 hB0.1.1) cl_6 rfl (Nat.le_of_ble_eq_true rfl) ⟨rfl, rfl⟩ (Nat.le_of_ble_eq_true rfl) (Nat.le_of_ble_eq_true rfl) (Nat.le_of_ble_eq_true rfl) ?_
  rintro x1 _ ⟨rfl, h2, h3, h4⟩
  refine vc_if_eq dX11_lost_8 (fun h5 => ?_) (fun h5 => ?_)
  · refine vc_iconst dX11_lost_22 rfl ?_
    refine vc_iret dX11_lost_23 rfl (Nat.le_of_ble_eq_true rfl) (Nat.le_of_ble_eq_true rfl) ?_
    exact ⟨_, rfl, hB0⟩
  · refine vc_aload_n dX11_lost_11 rfl ?_
    refine vc_getR dX11_lost_12 flX11_10 (s_0 hB0.1.1) rfl (r_0_0 hB0.1.1) ?_
    refine vc_iload_n dX11_lost_15 rfl ?_
    refine vc_cVI dX11_lost_16 (sfX6_hasCorner (M := M) hB0.1  c ) rfl okX6_hasCorner viX6_hasCorner lkX11_196 (s_1 hB0.1.1) cl_6 rfl (Nat.le_of_ble_eq_true rfl) ⟨rfl, rfl⟩ (Nat.le_of_ble_eq_true rfl) (Nat.le_of_ble_eq_true rfl) (Nat.le_of_ble_eq_true rfl) ?_
    rintro x6 _ ⟨rfl, h7, h8, h9⟩
    refine vc_if_ne dX11_lost_19 (fun h10 => ?_) (fun h10 => ?_)
    · refine vc_aload_n dX11_lost_24 rfl ?_
      refine vc_getR dX11_lost_25 flX11_10 (s_0 hB0.1.1) rfl (r_0_0 hB0.1.1) ?_
      refine vc_iload_n dX11_lost_28 rfl ?_
      refine vc_iconst dX11_lost_29 rfl ?_
      refine vc_cVI dX11_lost_30 (sfX6_tellingCell (M := M) hB0.1  t 2 ) rfl okX6_tellingCell viX6_tellingCell lkX11_217 (s_1 hB0.1.1) cl_6 rfl (Nat.le_of_ble_eq_true rfl) ⟨rfl, rfl⟩ (Nat.le_of_ble_eq_true rfl) (Nat.le_of_ble_eq_true rfl) (Nat.le_of_ble_eq_true rfl) ?_
      rintro x11 _ rfl
      refine vc_istore_n dX11_lost_33 (by decide) rfl (show _ = [some (aR 0), some (aI t), some (aI c), some (aI x11), none] from rfl) ?_
      refine vc_iconst dX11_lost_34 rfl ?_
      refine vc_istore dX11_lost_35 (by decide) rfl (show _ = [some (aR 0), some (aI t), some (aI c), some (aI x11), some (aI 0)] from rfl) ?_
      refine vc_ok (fun hoM37 hoS37 hoL37 => ?_)
      have k12 : -2147483648 ≤ x11 ∧ x11 < 2147483648 := hoL37 3 _ rfl
      have lp37 : ∀ (n37 : Nat) (Mq37 : Mem) (v4 : Int), (BF fQ M Mq37) → (0 ≤ v4) → (x11 - v4).toNat < n37 → VC l mdX11_lost 37 [some (aR 0), some (aI t), some (aI c), some (aI x11), some (aI v4)] [] Mq37 0 0 (fun q N => ∃ r : Int, q = some (aI r) ∧ BF fQ M N) := by
        intro n37
        induction n37 with
        | zero => intro Mq37 v4 hQ37 g37_4a hm37; exact absurd hm37 (Nat.not_lt_zero _)
        | succ n37 ih37 =>
          intro Mq37 v4 hQ37 g37_4a hm37
          refine vc_iload dX11_lost_37 rfl ?_
          refine vc_iload_n dX11_lost_39 rfl ?_
          refine vc_icmp_ge dX11_lost_40 (fun h13 => ?_) (fun h13 => ?_)
          · refine vc_iconst dX11_lost_72 rfl ?_
            refine vc_iret dX11_lost_73 rfl (Nat.le_of_ble_eq_true rfl) (Nat.le_of_ble_eq_true rfl) ?_
            exact ⟨_, rfl, hQ37⟩
          · refine vc_iload_n dX11_lost_43 rfl ?_
            refine vc_iconst dX11_lost_44 rfl ?_
            refine vc_icmp_lt dX11_lost_45 (fun h14 => ?_) (fun h14 => ?_)
            · refine vc_iconst dX11_lost_72 rfl ?_
              refine vc_iret dX11_lost_73 rfl (Nat.le_of_ble_eq_true rfl) (Nat.le_of_ble_eq_true rfl) ?_
              exact ⟨_, rfl, hQ37⟩
            · refine vc_aload_n dX11_lost_48 rfl ?_
              refine vc_getR dX11_lost_49 flX11_56 (s_0 hQ37.1.1) rfl (r_0_7 hQ37.1.1) ?_
              refine vc_iload_n dX11_lost_52 rfl ?_
              refine vc_iconst dX11_lost_53 rfl ?_
              refine vc_iload dX11_lost_54 rfl ?_
              refine vc_cVI dX11_lost_56 (sfX1_comesTo (M := Mq37) hQ37.1  t 0 v4 ) rfl okX1_comesTo viX1_comesTo lkX11_226 (s_32 hQ37.1.1) cl_1 rfl (Nat.le_of_ble_eq_true rfl) ⟨rfl, rfl⟩ (Nat.le_of_ble_eq_true rfl) (Nat.le_of_ble_eq_true rfl) (Nat.le_of_ble_eq_true rfl) ?_
              rintro x15 M16 hB17
              have hB18 : BF fQ M M16 := BF.go hQ37 hB17.sq
              refine vc_iload_n dX11_lost_59 rfl ?_
              refine vc_icmp_ne dX11_lost_60 (fun h19 => ?_) (fun h19 => ?_)
              · refine vc_iincE dX11_lost_66 rfl (by omega) (by omega) (by decide) rfl (show _ = [some (aR 0), some (aI t), some (aI c), some (aI x11), some (aI (v4 + 1))] from rfl) ?_
                refine vc_goto dX11_lost_69 ?_
                exact ih37 M16 (v4 + 1) hB18 (by omega) (by omega)
              · refine vc_iload dX11_lost_63 rfl ?_
                refine vc_iret dX11_lost_65 rfl (Nat.le_of_ble_eq_true rfl) (Nat.le_of_ble_eq_true rfl) ?_
                exact ⟨_, rfl, hB18⟩
      exact lp37 _ M 0 hB0 (by omega) (Nat.lt_succ_self _)
    · refine vc_iconst dX11_lost_22 rfl ?_
      refine vc_iret dX11_lost_23 rfl (Nat.le_of_ble_eq_true rfl) (Nat.le_of_ble_eq_true rfl) ?_
      exact ⟨_, rfl, hB0⟩

set_option maxRecDepth 4000 in
theorem sfX11_tell {l : Launch} {M : Mem} (hB : Box M)  (c : Int) (f : Int) (s : Int) (i : Int)  : Call l mdX11_tell [aR 0, aI c, aI f, aI s, aI i] M (fun q N => ∃ r : Int, q = some (aI r) ∧ BF fQ M N) := by
  have hB0 : BF fQ M M := BF.start hB
  refine Call.of [some (aR 0), some (aI c), some (aI f), some (aI s), some (aI i), none] rfl (Nat.le_of_ble_eq_true rfl) rfl ?_
  refine vc_ok (fun hoM hoS hoL => ?_)
  have hr1 : -2147483648 ≤ c ∧ c < 2147483648 := hoL 1 _ rfl
  have hr2 : -2147483648 ≤ f ∧ f < 2147483648 := hoL 2 _ rfl
  have hr3 : -2147483648 ≤ s ∧ s < 2147483648 := hoL 3 _ rfl
  have hr4 : -2147483648 ≤ i ∧ i < 2147483648 := hoL 4 _ rfl
  refine vc_aload_n dX11_tell_0 rfl ?_
  refine vc_getR dX11_tell_1 flX11_10 (s_0 hB0.1.1) rfl (r_0_0 hB0.1.1) ?_
  refine vc_iload_n dX11_tell_4 rfl ?_
  refine vc_cVI dX11_tell_5 (sfX6_hasCorner (M := M) hB0.1  c ) rfl okX6_hasCorner viX6_hasCorner lkX11_196 (s_1 hB0.1.1) cl_6 rfl (Nat.le_of_ble_eq_true rfl) ⟨rfl, rfl⟩ (Nat.le_of_ble_eq_true rfl) (Nat.le_of_ble_eq_true rfl) (Nat.le_of_ble_eq_true rfl) ?_
  rintro x1 _ ⟨rfl, h2, h3, h4⟩
  refine vc_if_eq dX11_tell_8 (fun h5 => ?_) (fun h5 => ?_)
  · refine vc_iconst dX11_tell_34 rfl ?_
    refine vc_iret dX11_tell_35 rfl (Nat.le_of_ble_eq_true rfl) (Nat.le_of_ble_eq_true rfl) ?_
    exact ⟨_, rfl, hB0⟩
  · refine vc_iload_n dX11_tell_11 rfl ?_
    refine vc_cSI dX11_tell_12 (sfX11_isDirection (M := M) hB0.1  f ) rfl okX11_isDirection stX11_isDirection lkX11_322 rfl (Nat.le_of_ble_eq_true rfl) ⟨rfl, rfl⟩ (Nat.le_of_ble_eq_true rfl) (Nat.le_of_ble_eq_true rfl) (Nat.le_of_ble_eq_true rfl) ?_
    rintro x6 _ ⟨rfl, h7, h8, h9⟩
    refine vc_if_eq dX11_tell_15 (fun h10 => ?_) (fun h10 => ?_)
    · refine vc_iconst dX11_tell_34 rfl ?_
      refine vc_iret dX11_tell_35 rfl (Nat.le_of_ble_eq_true rfl) (Nat.le_of_ble_eq_true rfl) ?_
      exact ⟨_, rfl, hB0⟩
    · refine vc_iload_n dX11_tell_18 rfl ?_
      refine vc_if_lt dX11_tell_19 (fun h11 => ?_) (fun h11 => ?_)
      · refine vc_iconst dX11_tell_34 rfl ?_
        refine vc_iret dX11_tell_35 rfl (Nat.le_of_ble_eq_true rfl) (Nat.le_of_ble_eq_true rfl) ?_
        exact ⟨_, rfl, hB0⟩
      · refine vc_iload_n dX11_tell_22 rfl ?_
        refine vc_bipush dX11_tell_23 rfl ?_
        refine vc_icmp_ge dX11_tell_25 (fun h12 => ?_) (fun h12 => ?_)
        · refine vc_iconst dX11_tell_34 rfl ?_
          refine vc_iret dX11_tell_35 rfl (Nat.le_of_ble_eq_true rfl) (Nat.le_of_ble_eq_true rfl) ?_
          exact ⟨_, rfl, hB0⟩
        · refine vc_iload dX11_tell_28 rfl ?_
          refine vc_iconst dX11_tell_30 rfl ?_
          refine vc_icmp_ge dX11_tell_31 (fun h13 => ?_) (fun h13 => ?_)
          · refine vc_aload_n dX11_tell_36 rfl ?_
            refine vc_getR dX11_tell_37 flX11_10 (s_0 hB0.1.1) rfl (r_0_0 hB0.1.1) ?_
            refine vc_getI dX11_tell_40 flX11_325 (s_1 hB0.1.1) rfl ?_
            have k14 : (-1) ≤ mI M 1 7 ∧ mI M 1 7 ≤ 15 := b1_7 (M := M) hB0.1
            refine vc_iconst dX11_tell_43 rfl ?_
            refine vc_icmp_eq dX11_tell_44 (fun h15 => ?_) (fun h15 => ?_)
            · refine vc_iconst dX11_tell_53 rfl ?_
              refine vc_iret dX11_tell_54 rfl (Nat.le_of_ble_eq_true rfl) (Nat.le_of_ble_eq_true rfl) ?_
              exact ⟨_, rfl, hB0⟩
            · refine vc_iload dX11_tell_47 rfl ?_
              refine vc_iconst dX11_tell_49 rfl ?_
              refine vc_icmp_lt dX11_tell_50 (fun h16 => ?_) (fun h16 => ?_)
              · refine vc_aload_n dX11_tell_55 rfl ?_
                refine vc_getR dX11_tell_56 flX11_92 (s_0 hB0.1.1) rfl (r_0_11 hB0.1.1) ?_
                refine vc_iload_n dX11_tell_59 rfl ?_
                refine vc_iload_n dX11_tell_60 rfl ?_
                refine vc_iload_n dX11_tell_61 rfl ?_
                refine vc_cVI dX11_tell_62 (sfX0_find (M := M) hB0.1  c f s (by omega) (by omega) (by omega) (by omega)) rfl okX0_find viX0_find lkX11_328 (s_46 hB0.1.1) cl_0 rfl (Nat.le_of_ble_eq_true rfl) ⟨rfl, rfl⟩ (Nat.le_of_ble_eq_true rfl) (Nat.le_of_ble_eq_true rfl) (Nat.le_of_ble_eq_true rfl) ?_
                rintro x17 M18 hB19
                have hB20 : BF fQ M M18 := BF.go hB0 hB19
                refine vc_istore dX11_tell_65 (by decide) rfl (show _ = [some (aR 0), some (aI c), some (aI f), some (aI s), some (aI i), some (aI x17)] from rfl) ?_
                refine vc_iload dX11_tell_67 rfl ?_
                refine vc_iconst dX11_tell_69 rfl ?_
                refine vc_icmp_ne dX11_tell_70 (fun h21 => ?_) (fun h21 => ?_)
                · refine vc_iload dX11_tell_76 rfl ?_
                  refine vc_iload dX11_tell_78 rfl ?_
                  refine vc_icmp_ge dX11_tell_80 (fun h22 => ?_) (fun h22 => ?_)
                  · refine vc_iconst dX11_tell_96 rfl ?_
                    refine vc_iret dX11_tell_97 rfl (Nat.le_of_ble_eq_true rfl) (Nat.le_of_ble_eq_true rfl) ?_
                    exact ⟨_, rfl, hB20⟩
                  · refine vc_aload_n dX11_tell_83 rfl ?_
                    refine vc_getR dX11_tell_84 flX11_92 (s_0 hB20.1.1) rfl (r_0_11 hB20.1.1) ?_
                    refine vc_getR dX11_tell_87 flX11_331 (s_46 hB20.1.1) rfl (r_46_4 hB20.1.1) ?_
                    refine vc_iload dX11_tell_90 rfl ?_
                    refine vc_iaload dX11_tell_92 (s_49 hB20.1.1) (by omega) (by omega) ?_
                    refine vc_goto dX11_tell_93 ?_
                    refine vc_iret dX11_tell_97 rfl (Nat.le_of_ble_eq_true rfl) (Nat.le_of_ble_eq_true rfl) ?_
                    exact ⟨_, rfl, hB20⟩
                · refine vc_iload dX11_tell_73 rfl ?_
                  refine vc_iret dX11_tell_75 rfl (Nat.le_of_ble_eq_true rfl) (Nat.le_of_ble_eq_true rfl) ?_
                  exact ⟨_, rfl, hB20⟩
              · refine vc_iconst dX11_tell_53 rfl ?_
                refine vc_iret dX11_tell_54 rfl (Nat.le_of_ble_eq_true rfl) (Nat.le_of_ble_eq_true rfl) ?_
                exact ⟨_, rfl, hB0⟩
          · refine vc_iconst dX11_tell_34 rfl ?_
            refine vc_iret dX11_tell_35 rfl (Nat.le_of_ble_eq_true rfl) (Nat.le_of_ble_eq_true rfl) ?_
            exact ⟨_, rfl, hB0⟩

set_option maxRecDepth 4000 in
theorem sfX11_where {l : Launch} {M : Mem} (hB : Box M)  (t : Int) (c : Int)  : Call l mdX11_where [aR 0, aI t, aI c] M (fun q N => ∃ r : Int, q = some (aI r) ∧ BF fQ M N) := by
  have hB0 : BF fQ M M := BF.start hB
  refine Call.of [some (aR 0), some (aI t), some (aI c), none, none, none, none, none, none] rfl (Nat.le_of_ble_eq_true rfl) rfl ?_
  refine vc_ok (fun hoM hoS hoL => ?_)
  have hr1 : -2147483648 ≤ t ∧ t < 2147483648 := hoL 1 _ rfl
  have hr2 : -2147483648 ≤ c ∧ c < 2147483648 := hoL 2 _ rfl
  refine vc_aload_n dX11_where_0 rfl ?_
  refine vc_getR dX11_where_1 flX11_10 (s_0 hB0.1.1) rfl (r_0_0 hB0.1.1) ?_
  refine vc_iload_n dX11_where_4 rfl ?_
  refine vc_cVI dX11_where_5 (sfX6_hasTelling (M := M) hB0.1  t ) rfl okX6_hasTelling viX6_hasTelling lkX11_214 (s_1 hB0.1.1) cl_6 rfl (Nat.le_of_ble_eq_true rfl) ⟨rfl, rfl⟩ (Nat.le_of_ble_eq_true rfl) (Nat.le_of_ble_eq_true rfl) (Nat.le_of_ble_eq_true rfl) ?_
  rintro x1 _ ⟨rfl, h2, h3, h4⟩
  refine vc_if_eq dX11_where_8 (fun h5 => ?_) (fun h5 => ?_)
  · refine vc_iconst dX11_where_25 rfl ?_
    refine vc_iret dX11_where_26 rfl (Nat.le_of_ble_eq_true rfl) (Nat.le_of_ble_eq_true rfl) ?_
    exact ⟨_, rfl, hB0⟩
  · refine vc_aload_n dX11_where_11 rfl ?_
    refine vc_getR dX11_where_12 flX11_56 (s_0 hB0.1.1) rfl (r_0_7 hB0.1.1) ?_
    refine vc_iload_n dX11_where_15 rfl ?_
    refine vc_iconst dX11_where_16 rfl ?_
    refine vc_iconst dX11_where_17 rfl ?_
    refine vc_cVI dX11_where_18 (sfX1_comesTo (M := M) hB0.1  t 0 (-1) ) rfl okX1_comesTo viX1_comesTo lkX11_226 (s_32 hB0.1.1) cl_1 rfl (Nat.le_of_ble_eq_true rfl) ⟨rfl, rfl⟩ (Nat.le_of_ble_eq_true rfl) (Nat.le_of_ble_eq_true rfl) (Nat.le_of_ble_eq_true rfl) ?_
    rintro x6 M7 hB8
    have hB9 : BF fQ M M7 := BF.go hB0 hB8.sq
    refine vc_iconst dX11_where_21 rfl ?_
    refine vc_icmp_ne dX11_where_22 (fun h10 => ?_) (fun h10 => ?_)
    · refine vc_iconst dX11_where_27 rfl ?_
      refine vc_istore_n dX11_where_28 (by decide) rfl (show _ = [some (aR 0), some (aI t), some (aI c), some (aI 0), none, none, none, none, none] from rfl) ?_
      refine vc_iconst dX11_where_29 rfl ?_
      refine vc_istore dX11_where_30 (by decide) rfl (show _ = [some (aR 0), some (aI t), some (aI c), some (aI 0), some (aI 0), none, none, none, none] from rfl) ?_
      refine vc_aload_n dX11_where_32 rfl ?_
      refine vc_getR dX11_where_33 flX11_10 (s_0 hB9.1.1) rfl (r_0_0 hB9.1.1) ?_
      refine vc_iload_n dX11_where_36 rfl ?_
      refine vc_iconst dX11_where_37 rfl ?_
      refine vc_cVI dX11_where_38 (sfX6_tellingCell (M := M7) hB9.1  t 1 ) rfl okX6_tellingCell viX6_tellingCell lkX11_217 (s_1 hB9.1.1) cl_6 rfl (Nat.le_of_ble_eq_true rfl) ⟨rfl, rfl⟩ (Nat.le_of_ble_eq_true rfl) (Nat.le_of_ble_eq_true rfl) (Nat.le_of_ble_eq_true rfl) ?_
      rintro x11 _ rfl
      refine vc_istore dX11_where_41 (by decide) rfl (show _ = [some (aR 0), some (aI t), some (aI c), some (aI 0), some (aI 0), some (aI x11), none, none, none] from rfl) ?_
      refine vc_iconst dX11_where_43 rfl ?_
      refine vc_istore dX11_where_44 (by decide) rfl (show _ = [some (aR 0), some (aI t), some (aI c), some (aI 0), some (aI 0), some (aI x11), some (aI 0), none, none] from rfl) ?_
      have lp46 : ∀ (n46 : Nat) (v3 : Int) (v4 : Int) (v5 : Int) (v6 : Int), (0 ≤ v6) → (v6 ≤ 40) → (40 - v6).toNat < n46 → VC l mdX11_where 46 [some (aR 0), none, some (aI c), some (aI v3), some (aI v4), some (aI v5), some (aI v6), none, none] [] M7 0 0 (fun q N => ∃ r : Int, q = some (aI r) ∧ BF fQ M N) := by
        intro n46
        induction n46 with
        | zero => intro v3 v4 v5 v6 g46_6a g46_6b hm46; exact absurd hm46 (Nat.not_lt_zero _)
        | succ n46 ih46 =>
          intro v3 v4 v5 v6 g46_6a g46_6b hm46
          refine vc_iload dX11_where_46 rfl ?_
          refine vc_aload_n dX11_where_48 rfl ?_
          refine vc_getR dX11_where_49 flX11_56 (s_0 hB9.1.1) rfl (r_0_7 hB9.1.1) ?_
          refine vc_getI dX11_where_52 flX11_334 (s_32 hB9.1.1) rfl ?_
          have k12 : 0 ≤ mI M7 32 4 ∧ mI M7 32 4 ≤ 40 := b32_4 (M := M7) hB9.1
          refine vc_icmp_ge dX11_where_55 (fun h13 => ?_) (fun h13 => ?_)
          · refine vc_iload_n dX11_where_133 rfl ?_
            refine vc_if_eq dX11_where_134 (fun h14 => ?_) (fun h14 => ?_)
            · refine vc_iload_n dX11_where_142 rfl ?_
              refine vc_iret dX11_where_143 rfl (Nat.le_of_ble_eq_true rfl) (Nat.le_of_ble_eq_true rfl) ?_
              exact ⟨_, rfl, hB9⟩
            · refine vc_iload dX11_where_137 rfl ?_
              refine vc_goto dX11_where_139 ?_
              refine vc_iret dX11_where_143 rfl (Nat.le_of_ble_eq_true rfl) (Nat.le_of_ble_eq_true rfl) ?_
              exact ⟨_, rfl, hB9⟩
          · refine vc_iload dX11_where_58 rfl ?_
            refine vc_bipush dX11_where_60 rfl ?_
            refine vc_icmp_ge dX11_where_62 (fun h15 => by exfalso; omega) (fun h15 => ?_)
            refine vc_aload_n dX11_where_65 rfl ?_
            refine vc_getR dX11_where_66 flX11_56 (s_0 hB9.1.1) rfl (r_0_7 hB9.1.1) ?_
            refine vc_getR dX11_where_69 flX11_337 (s_32 hB9.1.1) rfl (r_32_1 hB9.1.1) ?_
            refine vc_iload dX11_where_72 rfl ?_
            refine vc_iaload dX11_where_74 (s_33 hB9.1.1) (by omega) (by omega) ?_
            refine vc_iconst dX11_where_75 rfl ?_
            refine vc_ishrC dX11_where_76 4 2 rfl (by decide) rfl ?_
            refine vc_nameI (fun x16 ex16 => ?_)
            refine vc_istore dX11_where_77 (by decide) rfl (show _ = [some (aR 0), none, some (aI c), some (aI v3), some (aI v4), some (aI v5), some (aI v6), some (aI x16), none] from rfl) ?_
            refine vc_aload_n dX11_where_79 rfl ?_
            refine vc_getR dX11_where_80 flX11_56 (s_0 hB9.1.1) rfl (r_0_7 hB9.1.1) ?_
            refine vc_getR dX11_where_83 flX11_337 (s_32 hB9.1.1) rfl (r_32_1 hB9.1.1) ?_
            refine vc_iload dX11_where_86 rfl ?_
            refine vc_iaload dX11_where_88 (s_33 hB9.1.1) (by omega) (by omega) ?_
            refine vc_iconst dX11_where_89 rfl ?_
            refine vc_iandM dX11_where_90 4 2 rfl (by decide) rfl ?_
            refine vc_nameI (fun x17 ex17 => ?_)
            refine vc_istore dX11_where_91 (by decide) rfl (show _ = [some (aR 0), none, some (aI c), some (aI v3), some (aI v4), some (aI v5), some (aI v6), some (aI x16), some (aI x17)] from rfl) ?_
            refine vc_aload_n dX11_where_93 rfl ?_
            refine vc_getR dX11_where_94 flX11_10 (s_0 hB9.1.1) rfl (r_0_0 hB9.1.1) ?_
            refine vc_iload dX11_where_97 rfl ?_
            refine vc_iload dX11_where_99 rfl ?_
            refine vc_iconst dX11_where_101 rfl ?_
            refine vc_iadd dX11_where_102 ?_
            refine vc_iload dX11_where_103 rfl ?_
            refine vc_cVI dX11_where_105 (sfX6_hasOther (M := M7) hB9.1  x16 (wI (v5 + 2)) x17 ) rfl okX6_hasOther viX6_hasOther lkX11_340 (s_1 hB9.1.1) cl_6 rfl (Nat.le_of_ble_eq_true rfl) ⟨rfl, rfl⟩ (Nat.le_of_ble_eq_true rfl) (Nat.le_of_ble_eq_true rfl) (Nat.le_of_ble_eq_true rfl) ?_
            rintro x18 _ ⟨rfl, h19, h20⟩
            refine vc_if_eq dX11_where_108 (fun h21 => ?_) (fun h21 => ?_)
            · refine vc_iload dX11_where_123 rfl ?_
              refine vc_istore dX11_where_125 (by decide) rfl (show _ = [some (aR 0), none, some (aI c), some (aI v3), some (aI v4), some (aI x17), some (aI v6), some (aI x16), some (aI x17)] from rfl) ?_
              refine vc_iincE dX11_where_127 rfl (by omega) (by omega) (by decide) rfl (show _ = [some (aR 0), none, some (aI c), some (aI v3), some (aI v4), some (aI x17), some (aI (v6 + 1)), some (aI x16), some (aI x17)] from rfl) ?_
              refine vc_goto dX11_where_130 ?_
              refine vc_less [some (aR 0), none, some (aI c), some (aI v3), some (aI v4), some (aI x17), some (aI (v6 + 1)), none, none] (lessL_keep (lessL_keep (lessL_keep (lessL_keep (lessL_keep (lessL_keep (lessL_keep (lessL_drop (lessL_drop (lessL_nil)))))))))) ?_
              exact ih46 v3 v4 x17 (v6 + 1) (by omega) (by omega) (by omega)
            · refine vc_iinc dX11_where_111 rfl (by decide) rfl (show _ = [some (aR 0), none, some (aI c), some (aI (wI (v3 + 1))), some (aI v4), some (aI v5), some (aI v6), some (aI x16), some (aI x17)] from rfl) ?_
              refine vc_iload dX11_where_114 rfl ?_
              refine vc_iconst dX11_where_116 rfl ?_
              refine vc_iload dX11_where_117 rfl ?_
              refine vc_ishl dX11_where_119 ?_
              refine vc_ior dX11_where_120 ?_
              refine vc_nameI (fun x22 ex22 => ?_)
              refine vc_istore dX11_where_121 (by decide) rfl (show _ = [some (aR 0), none, some (aI c), some (aI (wI (v3 + 1))), some (aI x22), some (aI v5), some (aI v6), some (aI x16), some (aI x17)] from rfl) ?_
              refine vc_iload dX11_where_123 rfl ?_
              refine vc_istore dX11_where_125 (by decide) rfl (show _ = [some (aR 0), none, some (aI c), some (aI (wI (v3 + 1))), some (aI x22), some (aI x17), some (aI v6), some (aI x16), some (aI x17)] from rfl) ?_
              refine vc_iincE dX11_where_127 rfl (by omega) (by omega) (by decide) rfl (show _ = [some (aR 0), none, some (aI c), some (aI (wI (v3 + 1))), some (aI x22), some (aI x17), some (aI (v6 + 1)), some (aI x16), some (aI x17)] from rfl) ?_
              refine vc_goto dX11_where_130 ?_
              refine vc_less [some (aR 0), none, some (aI c), some (aI (wI (v3 + 1))), some (aI x22), some (aI x17), some (aI (v6 + 1)), none, none] (lessL_keep (lessL_keep (lessL_keep (lessL_keep (lessL_keep (lessL_keep (lessL_keep (lessL_drop (lessL_drop (lessL_nil)))))))))) ?_
              exact ih46 (wI (v3 + 1)) x22 x17 (v6 + 1) (by omega) (by omega) (by omega)
      refine vc_less [some (aR 0), none, some (aI c), some (aI 0), some (aI 0), some (aI x11), some (aI 0), none, none] (lessL_keep (lessL_drop (lessL_keep (lessL_keep (lessL_keep (lessL_keep (lessL_keep (lessL_keep (lessL_keep (lessL_nil)))))))))) ?_
      exact lp46 _ 0 0 x11 0 (by omega) (by omega) (Nat.lt_succ_self _)
    · refine vc_iconst dX11_where_25 rfl ?_
      refine vc_iret dX11_where_26 rfl (Nat.le_of_ble_eq_true rfl) (Nat.le_of_ble_eq_true rfl) ?_
      exact ⟨_, rfl, hB9⟩

set_option maxRecDepth 4000 in
theorem sfX11_map {l : Launch} {M : Mem} (hB : Box M)  (c : Int) (n : Int) (d : Int)  : Call l mdX11_map [aR 0, aI c, aI n, aI d] M (fun q N => ∃ r : Int, q = some (aI r) ∧ BF fQ M N) := by
  have hB0 : BF fQ M M := BF.start hB
  refine Call.of [some (aR 0), some (aI c), some (aI n), some (aI d), none, none, none, none] rfl (Nat.le_of_ble_eq_true rfl) rfl ?_
  refine vc_ok (fun hoM hoS hoL => ?_)
  have hr1 : -2147483648 ≤ c ∧ c < 2147483648 := hoL 1 _ rfl
  have hr2 : -2147483648 ≤ n ∧ n < 2147483648 := hoL 2 _ rfl
  have hr3 : -2147483648 ≤ d ∧ d < 2147483648 := hoL 3 _ rfl
  refine vc_aload_n dX11_map_0 rfl ?_
  refine vc_getR dX11_map_1 flX11_10 (s_0 hB0.1.1) rfl (r_0_0 hB0.1.1) ?_
  refine vc_iload_n dX11_map_4 rfl ?_
  refine vc_cVI dX11_map_5 (sfX6_hasCorner (M := M) hB0.1  c ) rfl okX6_hasCorner viX6_hasCorner lkX11_196 (s_1 hB0.1.1) cl_6 rfl (Nat.le_of_ble_eq_true rfl) ⟨rfl, rfl⟩ (Nat.le_of_ble_eq_true rfl) (Nat.le_of_ble_eq_true rfl) (Nat.le_of_ble_eq_true rfl) ?_
  rintro x1 _ ⟨rfl, h2, h3, h4⟩
  refine vc_if_eq dX11_map_8 (fun h5 => ?_) (fun h5 => ?_)
  · refine vc_iconst dX11_map_22 rfl ?_
    refine vc_iret dX11_map_23 rfl (Nat.le_of_ble_eq_true rfl) (Nat.le_of_ble_eq_true rfl) ?_
    exact ⟨_, rfl, hB0⟩
  · refine vc_iload_n dX11_map_11 rfl ?_
    refine vc_iconst dX11_map_12 rfl ?_
    refine vc_icmp_lt dX11_map_13 (fun h6 => ?_) (fun h6 => ?_)
    · refine vc_iconst dX11_map_22 rfl ?_
      refine vc_iret dX11_map_23 rfl (Nat.le_of_ble_eq_true rfl) (Nat.le_of_ble_eq_true rfl) ?_
      exact ⟨_, rfl, hB0⟩
    · refine vc_iload_n dX11_map_16 rfl ?_
      refine vc_bipush dX11_map_17 rfl ?_
      refine vc_icmp_le dX11_map_19 (fun h7 => ?_) (fun h7 => ?_)
      · refine vc_iload_n dX11_map_24 rfl ?_
        refine vc_if_lt dX11_map_25 (fun h8 => ?_) (fun h8 => ?_)
        · refine vc_iconst dX11_map_37 rfl ?_
          refine vc_iret dX11_map_38 rfl (Nat.le_of_ble_eq_true rfl) (Nat.le_of_ble_eq_true rfl) ?_
          exact ⟨_, rfl, hB0⟩
        · refine vc_iload_n dX11_map_28 rfl ?_
          refine vc_iconst dX11_map_29 rfl ?_
          refine vc_iconst dX11_map_30 rfl ?_
          refine vc_iload_n dX11_map_31 rfl ?_
          refine vc_imulE dX11_map_32 (by omega) (by omega) ?_
          refine vc_ishl dX11_map_33 ?_
          refine vc_icmp_lt dX11_map_34 (fun h9 => ?_) (fun h9 => ?_)
          · refine vc_iconst dX11_map_39 rfl ?_
            refine vc_istore dX11_map_40 (by decide) rfl (show _ = [some (aR 0), some (aI c), some (aI n), some (aI d), some (aI 0), none, none, none] from rfl) ?_
            refine vc_iconst dX11_map_42 rfl ?_
            refine vc_istore dX11_map_43 (by decide) rfl (show _ = [some (aR 0), some (aI c), some (aI n), some (aI d), some (aI 0), some (aI 0), none, none] from rfl) ?_
            have lp45 : ∀ (n45 : Nat) (v4 : Int) (v5 : Int), (0 ≤ v5) → (v5 ≤ 4) → (4 - v5).toNat < n45 → VC l mdX11_map 45 [some (aR 0), some (aI c), some (aI n), some (aI d), some (aI v4), some (aI v5), none, none] [] M 0 0 (fun q N => ∃ r : Int, q = some (aI r) ∧ BF fQ M N) := by
              intro n45
              induction n45 with
              | zero => intro v4 v5 g45_5a g45_5b hm45; exact absurd hm45 (Nat.not_lt_zero _)
              | succ n45 ih45 =>
                intro v4 v5 g45_5a g45_5b hm45
                refine vc_iload dX11_map_45 rfl ?_
                refine vc_iconst dX11_map_47 rfl ?_
                refine vc_icmp_ge dX11_map_48 (fun h10 => ?_) (fun h10 => ?_)
                · refine vc_iload dX11_map_116 rfl ?_
                  refine vc_iret dX11_map_118 rfl (Nat.le_of_ble_eq_true rfl) (Nat.le_of_ble_eq_true rfl) ?_
                  exact ⟨_, rfl, hB0⟩
                · refine vc_iload_n dX11_map_51 rfl ?_
                  refine vc_istore dX11_map_52 (by decide) rfl (show _ = [some (aR 0), some (aI c), some (aI n), some (aI d), some (aI v4), some (aI v5), some (aI c), none] from rfl) ?_
                  refine vc_iconst dX11_map_54 rfl ?_
                  refine vc_istore dX11_map_55 (by decide) rfl (show _ = [some (aR 0), some (aI c), some (aI n), some (aI d), some (aI v4), some (aI v5), some (aI c), some (aI 0)] from rfl) ?_
                  have lp57 : ∀ (n57 : Nat) (v6 : Int) (v7 : Int), (0 ≤ v7) → (n - v7).toNat < n57 → VC l mdX11_map 57 [some (aR 0), some (aI c), some (aI n), some (aI d), some (aI v4), some (aI v5), some (aI v6), some (aI v7)] [] M 0 0 (fun q N => ∃ r : Int, q = some (aI r) ∧ BF fQ M N) := by
                    intro n57
                    induction n57 with
                    | zero => intro v6 v7 g57_7a hm57; exact absurd hm57 (Nat.not_lt_zero _)
                    | succ n57 ih57 =>
                      intro v6 v7 g57_7a hm57
                      refine vc_iload dX11_map_57 rfl ?_
                      refine vc_iload_n dX11_map_59 rfl ?_
                      refine vc_icmp_ge dX11_map_60 (fun h11 => ?_) (fun h11 => ?_)
                      · refine vc_iload dX11_map_95 rfl ?_
                        refine vc_iconst dX11_map_97 rfl ?_
                        refine vc_icmp_eq dX11_map_98 (fun h12 => ?_) (fun h12 => ?_)
                        · refine vc_iincE dX11_map_110 rfl (by omega) (by omega) (by decide) rfl (show _ = [some (aR 0), some (aI c), some (aI n), some (aI d), some (aI v4), some (aI (v5 + 1)), some (aI v6), some (aI v7)] from rfl) ?_
                          refine vc_goto dX11_map_113 ?_
                          refine vc_less [some (aR 0), some (aI c), some (aI n), some (aI d), some (aI v4), some (aI (v5 + 1)), none, none] (lessL_keep (lessL_keep (lessL_keep (lessL_keep (lessL_keep (lessL_keep (lessL_drop (lessL_drop (lessL_nil))))))))) ?_
                          exact ih45 v4 (v5 + 1) (by omega) (by omega) (by omega)
                        · refine vc_iload dX11_map_101 rfl ?_
                          refine vc_iconst dX11_map_103 rfl ?_
                          refine vc_iload dX11_map_104 rfl ?_
                          refine vc_ishl dX11_map_106 ?_
                          refine vc_ior dX11_map_107 ?_
                          refine vc_nameI (fun x13 ex13 => ?_)
                          refine vc_istore dX11_map_108 (by decide) rfl (show _ = [some (aR 0), some (aI c), some (aI n), some (aI d), some (aI x13), some (aI v5), some (aI v6), some (aI v7)] from rfl) ?_
                          refine vc_iincE dX11_map_110 rfl (by omega) (by omega) (by decide) rfl (show _ = [some (aR 0), some (aI c), some (aI n), some (aI d), some (aI x13), some (aI (v5 + 1)), some (aI v6), some (aI v7)] from rfl) ?_
                          refine vc_goto dX11_map_113 ?_
                          refine vc_less [some (aR 0), some (aI c), some (aI n), some (aI d), some (aI x13), some (aI (v5 + 1)), none, none] (lessL_keep (lessL_keep (lessL_keep (lessL_keep (lessL_keep (lessL_keep (lessL_drop (lessL_drop (lessL_nil))))))))) ?_
                          exact ih45 x13 (v5 + 1) (by omega) (by omega) (by omega)
                      · refine vc_iload dX11_map_63 rfl ?_
                        refine vc_iconst dX11_map_65 rfl ?_
                        refine vc_icmp_eq dX11_map_66 (fun h14 => ?_) (fun h14 => ?_)
                        · refine vc_iload dX11_map_95 rfl ?_
                          refine vc_iconst dX11_map_97 rfl ?_
                          refine vc_icmp_eq dX11_map_98 (fun h15 => ?_) (fun h15 => by exfalso; omega)
                          refine vc_iincE dX11_map_110 rfl (by omega) (by omega) (by decide) rfl (show _ = [some (aR 0), some (aI c), some (aI n), some (aI d), some (aI v4), some (aI (v5 + 1)), some (aI v6), some (aI v7)] from rfl) ?_
                          refine vc_goto dX11_map_113 ?_
                          refine vc_less [some (aR 0), some (aI c), some (aI n), some (aI d), some (aI v4), some (aI (v5 + 1)), none, none] (lessL_keep (lessL_keep (lessL_keep (lessL_keep (lessL_keep (lessL_keep (lessL_drop (lessL_drop (lessL_nil))))))))) ?_
                          exact ih45 v4 (v5 + 1) (by omega) (by omega) (by omega)
                        · refine vc_aload_n dX11_map_69 rfl ?_
                          refine vc_getR dX11_map_70 flX11_10 (s_0 hB0.1.1) rfl (r_0_0 hB0.1.1) ?_
                          refine vc_iload dX11_map_73 rfl ?_
                          refine vc_iload_n dX11_map_75 rfl ?_
                          refine vc_iconst dX11_map_76 rfl ?_
                          refine vc_iload dX11_map_77 rfl ?_
                          refine vc_imulE dX11_map_79 (by omega) (by omega) ?_
                          refine vc_ishr dX11_map_80 ?_
                          refine vc_iload dX11_map_81 rfl ?_
                          refine vc_iadd dX11_map_83 ?_
                          refine vc_cVI dX11_map_84 (sfX6_ahead (M := M) hB0.1  v6 (wI ((shrI d (2 * v7)) + v5)) ) rfl okX6_ahead viX6_ahead lkX11_202 (s_1 hB0.1.1) cl_6 rfl (Nat.le_of_ble_eq_true rfl) ⟨rfl, rfl⟩ (Nat.le_of_ble_eq_true rfl) (Nat.le_of_ble_eq_true rfl) (Nat.le_of_ble_eq_true rfl) ?_
                          rintro x16 _ ⟨rfl, h17, h18, h19, h20⟩
                          refine vc_istore dX11_map_87 (by decide) rfl (show _ = [some (aR 0), some (aI c), some (aI n), some (aI d), some (aI v4), some (aI v5), some (aI x16), some (aI v7)] from rfl) ?_
                          refine vc_iincE dX11_map_89 rfl (by omega) (by omega) (by decide) rfl (show _ = [some (aR 0), some (aI c), some (aI n), some (aI d), some (aI v4), some (aI v5), some (aI x16), some (aI (v7 + 1))] from rfl) ?_
                          refine vc_goto dX11_map_92 ?_
                          exact ih57 x16 (v7 + 1) (by omega) (by omega)
                  exact lp57 _ c 0 (by omega) (Nat.lt_succ_self _)
            exact lp45 _ 0 0 (by omega) (by omega) (Nat.lt_succ_self _)
          · refine vc_iconst dX11_map_37 rfl ?_
            refine vc_iret dX11_map_38 rfl (Nat.le_of_ble_eq_true rfl) (Nat.le_of_ble_eq_true rfl) ?_
            exact ⟨_, rfl, hB0⟩
      · refine vc_iconst dX11_map_22 rfl ?_
        refine vc_iret dX11_map_23 rfl (Nat.le_of_ble_eq_true rfl) (Nat.le_of_ble_eq_true rfl) ?_
        exact ⟨_, rfl, hB0⟩

set_option maxRecDepth 4000 in
theorem sfX11_whose {l : Launch} {M : Mem} (hB : Box M)  (t : Int) (c : Int) (s : Int) (low : Int)  : Call l mdX11_whose [aR 0, aI t, aI c, aI s, aI low] M (fun q N => ∃ r : Int, q = some (aI r) ∧ BF fQ M N) := by
  have hB0 : BF fQ M M := BF.start hB
  refine Call.of [some (aR 0), some (aI t), some (aI c), some (aI s), some (aI low), none] rfl (Nat.le_of_ble_eq_true rfl) rfl ?_
  refine vc_ok (fun hoM hoS hoL => ?_)
  have hr1 : -2147483648 ≤ t ∧ t < 2147483648 := hoL 1 _ rfl
  have hr2 : -2147483648 ≤ c ∧ c < 2147483648 := hoL 2 _ rfl
  have hr3 : -2147483648 ≤ s ∧ s < 2147483648 := hoL 3 _ rfl
  have hr4 : -2147483648 ≤ low ∧ low < 2147483648 := hoL 4 _ rfl
  refine vc_aload_n dX11_whose_0 rfl ?_
  refine vc_getR dX11_whose_1 flX11_10 (s_0 hB0.1.1) rfl (r_0_0 hB0.1.1) ?_
  refine vc_iload_n dX11_whose_4 rfl ?_
  refine vc_cVI dX11_whose_5 (sfX6_hasTelling (M := M) hB0.1  t ) rfl okX6_hasTelling viX6_hasTelling lkX11_214 (s_1 hB0.1.1) cl_6 rfl (Nat.le_of_ble_eq_true rfl) ⟨rfl, rfl⟩ (Nat.le_of_ble_eq_true rfl) (Nat.le_of_ble_eq_true rfl) (Nat.le_of_ble_eq_true rfl) ?_
  rintro x1 _ ⟨rfl, h2, h3, h4⟩
  refine vc_if_eq dX11_whose_8 (fun h5 => ?_) (fun h5 => ?_)
  · refine vc_iconst dX11_whose_22 rfl ?_
    refine vc_iret dX11_whose_23 rfl (Nat.le_of_ble_eq_true rfl) (Nat.le_of_ble_eq_true rfl) ?_
    exact ⟨_, rfl, hB0⟩
  · refine vc_aload_n dX11_whose_11 rfl ?_
    refine vc_getR dX11_whose_12 flX11_10 (s_0 hB0.1.1) rfl (r_0_0 hB0.1.1) ?_
    refine vc_iload_n dX11_whose_15 rfl ?_
    refine vc_cVI dX11_whose_16 (sfX6_hasCorner (M := M) hB0.1  c ) rfl okX6_hasCorner viX6_hasCorner lkX11_196 (s_1 hB0.1.1) cl_6 rfl (Nat.le_of_ble_eq_true rfl) ⟨rfl, rfl⟩ (Nat.le_of_ble_eq_true rfl) (Nat.le_of_ble_eq_true rfl) (Nat.le_of_ble_eq_true rfl) ?_
    rintro x6 _ ⟨rfl, h7, h8, h9⟩
    refine vc_if_ne dX11_whose_19 (fun h10 => ?_) (fun h10 => ?_)
    · refine vc_iload_n dX11_whose_24 rfl ?_
      refine vc_iconst dX11_whose_25 rfl ?_
      refine vc_icmp_eq dX11_whose_26 (fun h11 => ?_) (fun h11 => ?_)
      · refine vc_aload_n dX11_whose_41 rfl ?_
        refine vc_getR dX11_whose_42 flX11_74 (s_0 hB0.1.1) rfl (r_0_9 hB0.1.1) ?_
        refine vc_iload_n dX11_whose_45 rfl ?_
        refine vc_cVU dX11_whose_46 (sfX10_weigh (M := M) hB0.1  t ) rfl okX10_weigh viX10_weigh lkX11_230 (s_35 hB0.1.1) cl_10 rfl (Nat.le_of_ble_eq_true rfl) ⟨rfl, rfl⟩ (Nat.le_of_ble_eq_true rfl) (Nat.le_of_ble_eq_true rfl) (Nat.le_of_ble_eq_true rfl) ?_
        rintro M12 hB13
        have hB14 : BF fQ M M12 := BF.go hB0 hB13.wq
        refine vc_aload_n dX11_whose_49 rfl ?_
        refine vc_getR dX11_whose_50 flX11_74 (s_0 hB14.1.1) rfl (r_0_9 hB14.1.1) ?_
        refine vc_iload_n dX11_whose_53 rfl ?_
        refine vc_iconst dX11_whose_54 rfl ?_
        refine vc_cVI dX11_whose_55 (sfX10_weightTo (M := M12) hB14.1  c 0 ) rfl okX10_weightTo viX10_weightTo lkX11_233 (s_35 hB14.1.1) cl_10 rfl (Nat.le_of_ble_eq_true rfl) ⟨rfl, rfl⟩ (Nat.le_of_ble_eq_true rfl) (Nat.le_of_ble_eq_true rfl) (Nat.le_of_ble_eq_true rfl) ?_
        rintro x15 _ rfl
        refine vc_istore dX11_whose_58 (by decide) rfl (show _ = [some (aR 0), some (aI t), some (aI c), some (aI s), some (aI low), some (aI x15)] from rfl) ?_
        refine vc_iload dX11_whose_60 rfl ?_
        refine vc_if_ne dX11_whose_62 (fun h16 => ?_) (fun h16 => ?_)
        · refine vc_aload_n dX11_whose_67 rfl ?_
          refine vc_getR dX11_whose_68 flX11_74 (s_0 hB14.1.1) rfl (r_0_9 hB14.1.1) ?_
          refine vc_iload_n dX11_whose_71 rfl ?_
          refine vc_iload_n dX11_whose_72 rfl ?_
          refine vc_cVI dX11_whose_73 (sfX10_weightTo (M := M12) hB14.1  c s ) rfl okX10_weightTo viX10_weightTo lkX11_233 (s_35 hB14.1.1) cl_10 rfl (Nat.le_of_ble_eq_true rfl) ⟨rfl, rfl⟩ (Nat.le_of_ble_eq_true rfl) (Nat.le_of_ble_eq_true rfl) (Nat.le_of_ble_eq_true rfl) ?_
          rintro x17 _ rfl
          refine vc_i2l dX11_whose_76 ?_
          refine vc_iload dX11_whose_77 rfl ?_
          refine vc_i2l dX11_whose_79 ?_
          refine vc_iload dX11_whose_80 rfl ?_
          refine vc_cSL dX11_whose_82 (sfX11_inLowestTerms (M := M12) hB14.1  x17 x15 low ) rfl okX11_inLowestTerms stX11_inLowestTerms lkX11_252 rfl (Nat.le_of_ble_eq_true rfl) ⟨rfl, rfl⟩ (Nat.le_of_ble_eq_true rfl) (Nat.le_of_ble_eq_true rfl) (Nat.le_of_ble_eq_true rfl) ?_
          rintro x18 _ rfl
          refine vc_l2i dX11_whose_85 ?_
          refine vc_iret dX11_whose_86 rfl (Nat.le_of_ble_eq_true rfl) (Nat.le_of_ble_eq_true rfl) ?_
          exact ⟨_, rfl, hB14⟩
        · refine vc_iconst dX11_whose_65 rfl ?_
          refine vc_iret dX11_whose_66 rfl (Nat.le_of_ble_eq_true rfl) (Nat.le_of_ble_eq_true rfl) ?_
          exact ⟨_, rfl, hB14⟩
      · refine vc_iload_n dX11_whose_29 rfl ?_
        refine vc_iconst dX11_whose_30 rfl ?_
        refine vc_icmp_eq dX11_whose_31 (fun h19 => ?_) (fun h19 => ?_)
        · refine vc_aload_n dX11_whose_41 rfl ?_
          refine vc_getR dX11_whose_42 flX11_74 (s_0 hB0.1.1) rfl (r_0_9 hB0.1.1) ?_
          refine vc_iload_n dX11_whose_45 rfl ?_
          refine vc_cVU dX11_whose_46 (sfX10_weigh (M := M) hB0.1  t ) rfl okX10_weigh viX10_weigh lkX11_230 (s_35 hB0.1.1) cl_10 rfl (Nat.le_of_ble_eq_true rfl) ⟨rfl, rfl⟩ (Nat.le_of_ble_eq_true rfl) (Nat.le_of_ble_eq_true rfl) (Nat.le_of_ble_eq_true rfl) ?_
          rintro M20 hB21
          have hB22 : BF fQ M M20 := BF.go hB0 hB21.wq
          refine vc_aload_n dX11_whose_49 rfl ?_
          refine vc_getR dX11_whose_50 flX11_74 (s_0 hB22.1.1) rfl (r_0_9 hB22.1.1) ?_
          refine vc_iload_n dX11_whose_53 rfl ?_
          refine vc_iconst dX11_whose_54 rfl ?_
          refine vc_cVI dX11_whose_55 (sfX10_weightTo (M := M20) hB22.1  c 0 ) rfl okX10_weightTo viX10_weightTo lkX11_233 (s_35 hB22.1.1) cl_10 rfl (Nat.le_of_ble_eq_true rfl) ⟨rfl, rfl⟩ (Nat.le_of_ble_eq_true rfl) (Nat.le_of_ble_eq_true rfl) (Nat.le_of_ble_eq_true rfl) ?_
          rintro x23 _ rfl
          refine vc_istore dX11_whose_58 (by decide) rfl (show _ = [some (aR 0), some (aI t), some (aI c), some (aI s), some (aI low), some (aI x23)] from rfl) ?_
          refine vc_iload dX11_whose_60 rfl ?_
          refine vc_if_ne dX11_whose_62 (fun h24 => ?_) (fun h24 => ?_)
          · refine vc_aload_n dX11_whose_67 rfl ?_
            refine vc_getR dX11_whose_68 flX11_74 (s_0 hB22.1.1) rfl (r_0_9 hB22.1.1) ?_
            refine vc_iload_n dX11_whose_71 rfl ?_
            refine vc_iload_n dX11_whose_72 rfl ?_
            refine vc_cVI dX11_whose_73 (sfX10_weightTo (M := M20) hB22.1  c s ) rfl okX10_weightTo viX10_weightTo lkX11_233 (s_35 hB22.1.1) cl_10 rfl (Nat.le_of_ble_eq_true rfl) ⟨rfl, rfl⟩ (Nat.le_of_ble_eq_true rfl) (Nat.le_of_ble_eq_true rfl) (Nat.le_of_ble_eq_true rfl) ?_
            rintro x25 _ rfl
            refine vc_i2l dX11_whose_76 ?_
            refine vc_iload dX11_whose_77 rfl ?_
            refine vc_i2l dX11_whose_79 ?_
            refine vc_iload dX11_whose_80 rfl ?_
            refine vc_cSL dX11_whose_82 (sfX11_inLowestTerms (M := M20) hB22.1  x25 x23 low ) rfl okX11_inLowestTerms stX11_inLowestTerms lkX11_252 rfl (Nat.le_of_ble_eq_true rfl) ⟨rfl, rfl⟩ (Nat.le_of_ble_eq_true rfl) (Nat.le_of_ble_eq_true rfl) (Nat.le_of_ble_eq_true rfl) ?_
            rintro x26 _ rfl
            refine vc_l2i dX11_whose_85 ?_
            refine vc_iret dX11_whose_86 rfl (Nat.le_of_ble_eq_true rfl) (Nat.le_of_ble_eq_true rfl) ?_
            exact ⟨_, rfl, hB22⟩
          · refine vc_iconst dX11_whose_65 rfl ?_
            refine vc_iret dX11_whose_66 rfl (Nat.le_of_ble_eq_true rfl) (Nat.le_of_ble_eq_true rfl) ?_
            exact ⟨_, rfl, hB22⟩
        · refine vc_iload_n dX11_whose_34 rfl ?_
          refine vc_iconst dX11_whose_35 rfl ?_
          refine vc_icmp_eq dX11_whose_36 (fun h27 => ?_) (fun h27 => ?_)
          · refine vc_aload_n dX11_whose_41 rfl ?_
            refine vc_getR dX11_whose_42 flX11_74 (s_0 hB0.1.1) rfl (r_0_9 hB0.1.1) ?_
            refine vc_iload_n dX11_whose_45 rfl ?_
            refine vc_cVU dX11_whose_46 (sfX10_weigh (M := M) hB0.1  t ) rfl okX10_weigh viX10_weigh lkX11_230 (s_35 hB0.1.1) cl_10 rfl (Nat.le_of_ble_eq_true rfl) ⟨rfl, rfl⟩ (Nat.le_of_ble_eq_true rfl) (Nat.le_of_ble_eq_true rfl) (Nat.le_of_ble_eq_true rfl) ?_
            rintro M28 hB29
            have hB30 : BF fQ M M28 := BF.go hB0 hB29.wq
            refine vc_aload_n dX11_whose_49 rfl ?_
            refine vc_getR dX11_whose_50 flX11_74 (s_0 hB30.1.1) rfl (r_0_9 hB30.1.1) ?_
            refine vc_iload_n dX11_whose_53 rfl ?_
            refine vc_iconst dX11_whose_54 rfl ?_
            refine vc_cVI dX11_whose_55 (sfX10_weightTo (M := M28) hB30.1  c 0 ) rfl okX10_weightTo viX10_weightTo lkX11_233 (s_35 hB30.1.1) cl_10 rfl (Nat.le_of_ble_eq_true rfl) ⟨rfl, rfl⟩ (Nat.le_of_ble_eq_true rfl) (Nat.le_of_ble_eq_true rfl) (Nat.le_of_ble_eq_true rfl) ?_
            rintro x31 _ rfl
            refine vc_istore dX11_whose_58 (by decide) rfl (show _ = [some (aR 0), some (aI t), some (aI c), some (aI s), some (aI low), some (aI x31)] from rfl) ?_
            refine vc_iload dX11_whose_60 rfl ?_
            refine vc_if_ne dX11_whose_62 (fun h32 => ?_) (fun h32 => ?_)
            · refine vc_aload_n dX11_whose_67 rfl ?_
              refine vc_getR dX11_whose_68 flX11_74 (s_0 hB30.1.1) rfl (r_0_9 hB30.1.1) ?_
              refine vc_iload_n dX11_whose_71 rfl ?_
              refine vc_iload_n dX11_whose_72 rfl ?_
              refine vc_cVI dX11_whose_73 (sfX10_weightTo (M := M28) hB30.1  c s ) rfl okX10_weightTo viX10_weightTo lkX11_233 (s_35 hB30.1.1) cl_10 rfl (Nat.le_of_ble_eq_true rfl) ⟨rfl, rfl⟩ (Nat.le_of_ble_eq_true rfl) (Nat.le_of_ble_eq_true rfl) (Nat.le_of_ble_eq_true rfl) ?_
              rintro x33 _ rfl
              refine vc_i2l dX11_whose_76 ?_
              refine vc_iload dX11_whose_77 rfl ?_
              refine vc_i2l dX11_whose_79 ?_
              refine vc_iload dX11_whose_80 rfl ?_
              refine vc_cSL dX11_whose_82 (sfX11_inLowestTerms (M := M28) hB30.1  x33 x31 low ) rfl okX11_inLowestTerms stX11_inLowestTerms lkX11_252 rfl (Nat.le_of_ble_eq_true rfl) ⟨rfl, rfl⟩ (Nat.le_of_ble_eq_true rfl) (Nat.le_of_ble_eq_true rfl) (Nat.le_of_ble_eq_true rfl) ?_
              rintro x34 _ rfl
              refine vc_l2i dX11_whose_85 ?_
              refine vc_iret dX11_whose_86 rfl (Nat.le_of_ble_eq_true rfl) (Nat.le_of_ble_eq_true rfl) ?_
              exact ⟨_, rfl, hB30⟩
            · refine vc_iconst dX11_whose_65 rfl ?_
              refine vc_iret dX11_whose_66 rfl (Nat.le_of_ble_eq_true rfl) (Nat.le_of_ble_eq_true rfl) ?_
              exact ⟨_, rfl, hB30⟩
          · refine vc_iconst dX11_whose_39 rfl ?_
            refine vc_iret dX11_whose_40 rfl (Nat.le_of_ble_eq_true rfl) (Nat.le_of_ble_eq_true rfl) ?_
            exact ⟨_, rfl, hB0⟩
    · refine vc_iconst dX11_whose_22 rfl ?_
      refine vc_iret dX11_whose_23 rfl (Nat.le_of_ble_eq_true rfl) (Nat.le_of_ble_eq_true rfl) ?_
      exact ⟨_, rfl, hB0⟩

set_option maxRecDepth 4000 in
theorem sfX11_heard {l : Launch} {M : Mem} (hB : Box M)  (c : Int)  : Call l mdX11_heard [aR 0, aI c] M (fun q N => ∃ r : Int, q = some (aI r) ∧ BF fQ M N) := by
  have hB0 : BF fQ M M := BF.start hB
  refine Call.of [some (aR 0), some (aI c)] rfl (Nat.le_of_ble_eq_true rfl) rfl ?_
  refine vc_ok (fun hoM hoS hoL => ?_)
  have hr1 : -2147483648 ≤ c ∧ c < 2147483648 := hoL 1 _ rfl
  refine vc_aload_n dX11_heard_0 rfl ?_
  refine vc_getR dX11_heard_1 flX11_10 (s_0 hB0.1.1) rfl (r_0_0 hB0.1.1) ?_
  refine vc_iload_n dX11_heard_4 rfl ?_
  refine vc_cVI dX11_heard_5 (sfX6_hasCorner (M := M) hB0.1  c ) rfl okX6_hasCorner viX6_hasCorner lkX11_196 (s_1 hB0.1.1) cl_6 rfl (Nat.le_of_ble_eq_true rfl) ⟨rfl, rfl⟩ (Nat.le_of_ble_eq_true rfl) (Nat.le_of_ble_eq_true rfl) (Nat.le_of_ble_eq_true rfl) ?_
  rintro x1 _ ⟨rfl, h2, h3, h4⟩
  refine vc_if_ne dX11_heard_8 (fun h5 => ?_) (fun h5 => ?_)
  · refine vc_aload_n dX11_heard_13 rfl ?_
    refine vc_getR dX11_heard_14 flX11_74 (s_0 hB0.1.1) rfl (r_0_9 hB0.1.1) ?_
    refine vc_cVU dX11_heard_17 (sfX10_listCorners (M := M) hB0.1   ) rfl okX10_listCorners viX10_listCorners lkX11_256 (s_35 hB0.1.1) cl_10 rfl (Nat.le_of_ble_eq_true rfl) ⟨rfl, rfl⟩ (Nat.le_of_ble_eq_true rfl) (Nat.le_of_ble_eq_true rfl) (Nat.le_of_ble_eq_true rfl) ?_
    rintro M6 hB7
    have hB8 : BF fQ M M6 := BF.go hB0 hB7
    refine vc_aload_n dX11_heard_20 rfl ?_
    refine vc_getR dX11_heard_21 flX11_74 (s_0 hB8.1.1) rfl (r_0_9 hB8.1.1) ?_
    refine vc_iload_n dX11_heard_24 rfl ?_
    refine vc_cVI dX11_heard_25 (sfX10_thatReach (M := M6) hB8.1  c ) rfl okX10_thatReach viX10_thatReach lkX11_267 (s_35 hB8.1.1) cl_10 rfl (Nat.le_of_ble_eq_true rfl) ⟨rfl, rfl⟩ (Nat.le_of_ble_eq_true rfl) (Nat.le_of_ble_eq_true rfl) (Nat.le_of_ble_eq_true rfl) ?_
    rintro x9 _ rfl
    refine vc_iret dX11_heard_28 rfl (Nat.le_of_ble_eq_true rfl) (Nat.le_of_ble_eq_true rfl) ?_
    exact ⟨_, rfl, hB8⟩
  · refine vc_iconst dX11_heard_11 rfl ?_
    refine vc_iret dX11_heard_12 rfl (Nat.le_of_ble_eq_true rfl) (Nat.le_of_ble_eq_true rfl) ?_
    exact ⟨_, rfl, hB0⟩

