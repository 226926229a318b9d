/-! THE DEEDS of the reference: goings (written by wip/laws2/c10b.py) -/
/-- where a going is, in the reference -/
def gR (M : Mem) : Gw := (mI M 54 24, mI M 54 25, mI M 54 27, mI M 54 26)
set_option maxRecDepth 4000 in
theorem sfX12_beginF {l : Launch} {M : Mem} (hB : Box M)  (c : Int) (f : Int) (p0 : 0 ≤ c) (p1 : c ≤ 15) (p2 : 0 ≤ f) (p3 : f ≤ 3) : Call l mdX12_begin [aR 54, aI c, aI f] M (fun q N => q = none ∧ BF fS M N ∧ mI N 55 = mI M 55 ∧ mI N 57 = mI M 57 ∧ mI N 54 32 = mI M 54 32 ∧ gR N = (c, f, 0, 0) ∧ mI N 63 = mI M 63) := by
  have hB0 : BF fS M M := BF.start hB
  refine Call.of [some (aR 54), some (aI c), some (aI f)] rfl (Nat.le_of_ble_eq_true rfl) rfl ?_
  refine vc_aload_n dX12_begin_0 rfl ?_
  refine vc_iload_n dX12_begin_1 rfl ?_
  refine vc_putI dX12_begin_2 (plX12_321 _ rfl) (s_54 hB0.1.1) rfl ?_
  have kp1 : mI (sI M 54 24 c) 57 = mI M 57 := (kp_sI rfl rfl)
  have kp2 : mI (sI M 54 24 c) 55 = mI M 55 := (kp_sI rfl rfl)
  have hB3 : BF fS M (sI M 54 24 c) := BF.w54_24 hB0 rfl (by omega) (by omega)
  refine vc_aload_n dX12_begin_5 rfl ?_
  refine vc_iload_n dX12_begin_6 rfl ?_
  refine vc_putI dX12_begin_7 (plX12_324 _ rfl) (s_54 hB3.1.1) rfl ?_
  have kp4 : mI (sI (sI M 54 24 c) 54 25 f) 57 = mI M 57 := (kp_sI kp1 rfl)
  have kp5 : mI (sI (sI M 54 24 c) 54 25 f) 55 = mI M 55 := (kp_sI kp2 rfl)
  have hB6 : BF fS M (sI (sI M 54 24 c) 54 25 f) := BF.w54_25 hB3 rfl (by omega) (by omega)
  refine vc_aload_n dX12_begin_10 rfl ?_
  refine vc_iconst dX12_begin_11 rfl ?_
  refine vc_putI dX12_begin_12 (plX12_327 _ rfl) (s_54 hB6.1.1) rfl ?_
  have kp7 : mI (sI (sI (sI M 54 24 c) 54 25 f) 54 26 0) 57 = mI M 57 := (kp_sI kp4 rfl)
  have kp8 : mI (sI (sI (sI M 54 24 c) 54 25 f) 54 26 0) 55 = mI M 55 := (kp_sI kp5 rfl)
  have hB9 : BF fS M (sI (sI (sI M 54 24 c) 54 25 f) 54 26 0) := BF.w54_26 hB6 rfl
  refine vc_aload_n dX12_begin_15 rfl ?_
  refine vc_iconst dX12_begin_16 rfl ?_
  refine vc_putI dX12_begin_17 (plX12_330 _ rfl) (s_54 hB9.1.1) rfl ?_
  have kp10 : mI (sI (sI (sI (sI M 54 24 c) 54 25 f) 54 26 0) 54 27 0) 57 = mI M 57 := (kp_sI kp7 rfl)
  have kp11 : mI (sI (sI (sI (sI M 54 24 c) 54 25 f) 54 26 0) 54 27 0) 55 = mI M 55 := (kp_sI kp8 rfl)
  have hB12 : BF fS M (sI (sI (sI (sI M 54 24 c) 54 25 f) 54 26 0) 54 27 0) := BF.w54_27 hB9 rfl (by omega) (by omega)
  refine vc_aload_n dX12_begin_20 rfl ?_
  refine vc_iconst dX12_begin_21 rfl ?_
  refine vc_putI dX12_begin_22 (plX12_333 _ rfl) (s_54 hB12.1.1) rfl ?_
  have kp13 : mI (sI (sI (sI (sI (sI M 54 24 c) 54 25 f) 54 26 0) 54 27 0) 54 28 0) 57 = mI M 57 := (kp_sI kp10 rfl)
  have kp14 : mI (sI (sI (sI (sI (sI M 54 24 c) 54 25 f) 54 26 0) 54 27 0) 54 28 0) 55 = mI M 55 := (kp_sI kp11 rfl)
  have hB15 : BF fS M (sI (sI (sI (sI (sI M 54 24 c) 54 25 f) 54 26 0) 54 27 0) 54 28 0) := BF.w54_28 hB12 rfl
  refine vc_aload_n dX12_begin_25 rfl ?_
  refine vc_iconst dX12_begin_26 rfl ?_
  refine vc_putI dX12_begin_27 (plX12_336 _ rfl) (s_54 hB15.1.1) rfl ?_
  have kp16 : mI (sI (sI (sI (sI (sI (sI M 54 24 c) 54 25 f) 54 26 0) 54 27 0) 54 28 0) 54 29 0) 57 = mI M 57 := (kp_sI kp13 rfl)
  have kp17 : mI (sI (sI (sI (sI (sI (sI M 54 24 c) 54 25 f) 54 26 0) 54 27 0) 54 28 0) 54 29 0) 55 = mI M 55 := (kp_sI kp14 rfl)
  have hB18 : BF fS M (sI (sI (sI (sI (sI (sI M 54 24 c) 54 25 f) 54 26 0) 54 27 0) 54 28 0) 54 29 0) := BF.w54_29 hB15 rfl
  refine vc_vret dX12_begin_30 rfl (Nat.le_of_ble_eq_true rfl) (Nat.le_of_ble_eq_true rfl) ?_
  have k19 : mI (sI (sI (sI (sI (sI (sI M 54 24 c) 54 25 f) 54 26 0) 54 27 0) 54 28 0) 54 29 0) 54 32 = mI M 54 32 := rfl
  exact ⟨rfl, hB18, kp17, kp16, by omega, by rfl, by rfl⟩

set_option maxRecDepth 4000 in
theorem sfX12_goOnF {l : Launch} {M : Mem} (hB : Box M) (S : Sw)  (p0 : TA (mI M 55) S) (p1 : mI M 54 24 < S 1 6) (p2 : LwS S (mI M 57)) (p3 : nmT S) : Call l mdX12_goOn [aR 54] M (fun q N => ∃ r : Int, q = some (aI r) ∧ BF fS M N ∧ mI N 55 = mI M 55 ∧ mI N 57 = mI M 57 ∧ mI N 63 = mI M 63 ∧ 0 ≤ r ∧ r ≤ 1 ∧ (r = 0 ∨ mI N 54 27 = mI M 54 27 + 1) ∧ mI N 54 32 = mI M 54 32 ∧ ((r = 1 ∧ gOn S (gR M) = (gR N, true)) ∨ (r = 0 ∧ gOn S (gR M) = (gR N, false))) ∧ mI N 54 24 < S 1 6) := by
  have hB0 : BF fS M M := BF.start hB
  refine Call.of [some (aR 54)] rfl (Nat.le_of_ble_eq_true rfl) rfl ?_
  refine vc_aload_n dX12_goOn_0 rfl ?_
  refine vc_aload_n dX12_goOn_1 rfl ?_
  refine vc_getI dX12_goOn_2 flX12_321 (s_54 hB0.1.1) rfl ?_
  have k1 : 0 ≤ mI M 54 24 ∧ mI M 54 24 ≤ 15 := b54_24 (M := M) hB0.1
  refine vc_aload_n dX12_goOn_5 rfl ?_
  refine vc_getI dX12_goOn_6 flX12_324 (s_54 hB0.1.1) rfl ?_
  have k2 : 0 ≤ mI M 54 25 ∧ mI M 54 25 ≤ 3 := b54_25 (M := M) hB0.1
  refine vc_cVI dX12_goOn_9 (sfX12_streetOfF (M := M) hB0.1  (mI M 54 24) (mI M 54 25) (by omega) (by omega) (by omega) (by omega)) rfl okX12_streetOf viX12_streetOf lkX12_91 (s_54 hB0.1.1) cl_12 rfl (Nat.le_of_ble_eq_true rfl) ⟨rfl, rfl⟩ (Nat.le_of_ble_eq_true rfl) (Nat.le_of_ble_eq_true rfl) (Nat.le_of_ble_eq_true rfl) ?_
  rintro x3 _ ⟨rfl, h4, h5, h6⟩
  have hs1 : x3 = ahS S (mI M 54 24) (mI M 54 25) := h6.trans (p0.st (by omega) p1 (by omega) (by omega))
  refine vc_if_lt dX12_goOn_12 (fun h7 => ?_) (fun h7 => ?_)
  · refine vc_iconst dX12_goOn_24 rfl ?_
    refine vc_zret dX12_goOn_25 rfl (by first | decide | omega) (Nat.le_of_ble_eq_true rfl) (Nat.le_of_ble_eq_true rfl) ?_
    exact ⟨_, rfl, hB0, rfl, rfl, rfl, by omega, by omega, by omega, by omega, Or.inr ⟨rfl, gOn_n (by first | exact Or.inl (by show ahS S (mI M 54 24) (mI M 54 25) = -1; omega) | exact Or.inr (by show 40 ≤ mI M 54 27; omega))⟩, p1⟩
  · refine vc_aload_n dX12_goOn_15 rfl ?_
    refine vc_getI dX12_goOn_16 flX12_330 (s_54 hB0.1.1) rfl ?_
    have k8 : 0 ≤ mI M 54 27 ∧ mI M 54 27 ≤ 40 := b54_27 (M := M) hB0.1
    refine vc_bipush dX12_goOn_19 rfl ?_
    refine vc_icmp_ne dX12_goOn_21 (fun h9 => ?_) (fun h9 => ?_)
    · refine vc_aload_n dX12_goOn_26 rfl ?_
      refine vc_aload_n dX12_goOn_27 rfl ?_
      refine vc_getI dX12_goOn_28 flX12_339 (s_54 hB0.1.1) rfl ?_
      refine vc_cVI dX12_goOn_31 (sfX12_isDoubt (M := M) hB0.1  (mI M 54 30) ) rfl okX12_isDoubt viX12_isDoubt lkX12_342 (s_54 hB0.1.1) cl_12 rfl (Nat.le_of_ble_eq_true rfl) ⟨rfl, rfl⟩ (Nat.le_of_ble_eq_true rfl) (Nat.le_of_ble_eq_true rfl) (Nat.le_of_ble_eq_true rfl) ?_
      rintro x10 _ ⟨rfl, h11, h12⟩
      refine vc_if_eq dX12_goOn_34 (fun h13 => ?_) (fun h13 => ?_)
      · refine vc_aload_n dX12_goOn_62 rfl ?_
        refine vc_dup dX12_goOn_63 rfl ?_
        refine vc_getI dX12_goOn_64 flX12_327 (s_54 hB0.1.1) rfl ?_
        refine vc_aload_n dX12_goOn_67 rfl ?_
        refine vc_aload_n dX12_goOn_68 rfl ?_
        refine vc_getI dX12_goOn_69 flX12_321 (s_54 hB0.1.1) rfl ?_
        refine vc_aload_n dX12_goOn_72 rfl ?_
        refine vc_getI dX12_goOn_73 flX12_324 (s_54 hB0.1.1) rfl ?_
        have hTp : TA (mI M 55) S := by rw [show mI M 55 = mI M 55 from rfl]; exact p0
        have hLp : LwS S (mI M 57) := by rw [show mI M 57 = mI M 57 from rfl]; exact p2
        have hb24 := b54_24 hB
        have hb25 := b54_25 hB
        refine vc_cVI dX12_goOn_76 (sfX12_paceOfF (M := M) hB0.1 S (mI M 54 24) (mI M 54 25) (by omega) (by omega) (by omega) (by omega) (by exact hTp) (by exact p1) (by exact hLp) (by omega) (by exact p3)) rfl okX12_paceOf viX12_paceOf lkX12_345 (s_54 hB0.1.1) cl_12 rfl (Nat.le_of_ble_eq_true rfl) ⟨rfl, rfl⟩ (Nat.le_of_ble_eq_true rfl) (Nat.le_of_ble_eq_true rfl) (Nat.le_of_ble_eq_true rfl) ?_
        rintro x14 M15 ⟨hB16, kp17, kp18, kp19, kp20, kp21, kp22, h23⟩
        have hB24 : BF fS M M15 := BF.go hB0 hB16
        have kp25 : mI M15 57 = mI M 57 := kp_go rfl kp19
        have kp26 : mI M15 63 = mI M 63 := kp_go rfl kp20
        have kp27 : mI M15 55 = mI M 55 := kp_go rfl kp18
        have fe28 : mI M15 54 24 = mI M 54 24 := congrFun kp17 24
        have fe29 : mI M15 54 25 = mI M 54 25 := congrFun kp17 25
        have fe30 : mI M15 54 26 = mI M 54 26 := congrFun kp17 26
        have fe31 : mI M15 54 27 = mI M 54 27 := congrFun kp17 27
        have fe32 : mI M15 54 32 = mI M 54 32 := congrFun kp17 32
        have hpa : x14 = paP S (mI M 54 24) (mI M 54 25) := h23.trans (paP_id (by omega) (by omega) (by omega) (by omega)).symm
        refine vc_iadd dX12_goOn_79 ?_
        refine vc_putI dX12_goOn_80 (plX12_327 _ rfl) (s_54 hB24.1.1) rfl ?_
        have kp33 : mI (sI M15 54 26 (wI ((mI M 54 26) + x14))) 57 = mI M 57 := (kp_sI kp25 rfl)
        have kp34 : mI (sI M15 54 26 (wI ((mI M 54 26) + x14))) 63 = mI M 63 := (kp_sI kp26 rfl)
        have kp35 : mI (sI M15 54 26 (wI ((mI M 54 26) + x14))) 55 = mI M 55 := (kp_sI kp27 rfl)
        have hB36 : BF fS M (sI M15 54 26 (wI ((mI M 54 26) + x14))) := BF.w54_26 hB24 rfl
        refine vc_aload_n dX12_goOn_83 rfl ?_
        refine vc_aload_n dX12_goOn_84 rfl ?_
        refine vc_aload_n dX12_goOn_85 rfl ?_
        refine vc_getI dX12_goOn_86 flX12_321 (s_54 hB36.1.1) rfl ?_
        refine vc_topI (mI M15 54 24) rfl ?_
        have k37 : 0 ≤ mI M15 54 24 ∧ mI M15 54 24 ≤ 15 := b54_24 (M := (sI M15 54 26 (wI ((mI M 54 26) + x14)))) hB36.1
        refine vc_aload_n dX12_goOn_89 rfl ?_
        refine vc_getI dX12_goOn_90 flX12_324 (s_54 hB36.1.1) rfl ?_
        refine vc_topI (mI M15 54 25) rfl ?_
        have k38 : 0 ≤ mI M15 54 25 ∧ mI M15 54 25 ≤ 3 := b54_25 (M := (sI M15 54 26 (wI ((mI M 54 26) + x14)))) hB36.1
        have k39 : mI (sI M15 54 26 (wI ((mI M 54 26) + x14))) 54 24 = mI M15 54 24 := rfl
        have k40 : mI (sI M15 54 26 (wI ((mI M 54 26) + x14))) 54 25 = mI M15 54 25 := rfl
        have k41 : mI (sI M15 54 26 (wI ((mI M 54 26) + x14))) 54 26 = wI ((mI M 54 26) + x14) := rfl
        have k42 : mI (sI M15 54 26 (wI ((mI M 54 26) + x14))) 54 27 = mI M15 54 27 := rfl
        have k43 : mI (sI M15 54 26 (wI ((mI M 54 26) + x14))) 54 32 = mI M15 54 32 := rfl
        refine vc_cVI dX12_goOn_93 (sfX12_streetOfF (M := (sI M15 54 26 (wI ((mI M 54 26) + x14)))) hB36.1  (mI M15 54 24) (mI M15 54 25) (by omega) (by omega) (by omega) (by omega)) rfl okX12_streetOf viX12_streetOf lkX12_91 (s_54 hB36.1.1) cl_12 rfl (Nat.le_of_ble_eq_true rfl) ⟨rfl, rfl⟩ (Nat.le_of_ble_eq_true rfl) (Nat.le_of_ble_eq_true rfl) (Nat.le_of_ble_eq_true rfl) ?_
        rintro x44 _ ⟨rfl, h45, h46, h47⟩
        have e4 : x44 = mI M 55 ((((10 + (9 * mI M 54 24)) + 1) + mI M 54 25)).toNat := by
          rw [← fe28, ← fe29]
          exact h47.trans (congrFun kp35 _)
        have hs2 : x44 = ahS S (mI M 54 24) (mI M 54 25) := e4.trans (p0.st (by omega) p1 (by omega) (by omega))
        have e5 : 0 ≤ x44 := by omega
        refine vc_putI dX12_goOn_96 (plX12_321 _ rfl) (s_54 hB36.1.1) rfl ?_
        have kp48 : mI (sI (sI M15 54 26 (wI ((mI M 54 26) + x14))) 54 24 x44) 57 = mI M 57 := (kp_sI kp33 rfl)
        have kp49 : mI (sI (sI M15 54 26 (wI ((mI M 54 26) + x14))) 54 24 x44) 63 = mI M 63 := (kp_sI kp34 rfl)
        have kp50 : mI (sI (sI M15 54 26 (wI ((mI M 54 26) + x14))) 54 24 x44) 55 = mI M 55 := (kp_sI kp35 rfl)
        have hB51 : BF fS M (sI (sI M15 54 26 (wI ((mI M 54 26) + x14))) 54 24 x44) := BF.w54_24 hB36 rfl (by omega) (by omega)
        refine vc_aload_n dX12_goOn_99 rfl ?_
        refine vc_aload_n dX12_goOn_100 rfl ?_
        refine vc_getI dX12_goOn_101 flX12_324 (s_54 hB51.1.1) rfl ?_
        refine vc_topI (mI M15 54 25) rfl ?_
        have k52 : 0 ≤ mI M15 54 25 ∧ mI M15 54 25 ≤ 3 := b54_25 (M := (sI (sI M15 54 26 (wI ((mI M 54 26) + x14))) 54 24 x44)) hB51.1
        refine vc_iconst dX12_goOn_104 rfl ?_
        refine vc_iaddE dX12_goOn_105 (by omega) (by omega) ?_
        refine vc_iconst dX12_goOn_106 rfl ?_
        refine vc_iremE dX12_goOn_107 (by omega) (by omega) ?_
        refine vc_putI dX12_goOn_108 (plX12_339 _ rfl) (s_54 hB51.1.1) rfl ?_
        have kp53 : mI (sI (sI (sI M15 54 26 (wI ((mI M 54 26) + x14))) 54 24 x44) 54 30 (((mI M15 54 25) + 2) % 4)) 57 = mI M 57 := (kp_sI kp48 rfl)
        have kp54 : mI (sI (sI (sI M15 54 26 (wI ((mI M 54 26) + x14))) 54 24 x44) 54 30 (((mI M15 54 25) + 2) % 4)) 63 = mI M 63 := (kp_sI kp49 rfl)
        have kp55 : mI (sI (sI (sI M15 54 26 (wI ((mI M 54 26) + x14))) 54 24 x44) 54 30 (((mI M15 54 25) + 2) % 4)) 55 = mI M 55 := (kp_sI kp50 rfl)
        have hB56 : BF fS M (sI (sI (sI M15 54 26 (wI ((mI M 54 26) + x14))) 54 24 x44) 54 30 (((mI M15 54 25) + 2) % 4)) := BF.w54_30 hB51 rfl
        refine vc_aload_n dX12_goOn_111 rfl ?_
        refine vc_dup dX12_goOn_112 rfl ?_
        refine vc_getI dX12_goOn_113 flX12_330 (s_54 hB56.1.1) rfl ?_
        refine vc_topI (mI M15 54 27) rfl ?_
        have k57 : 0 ≤ mI M15 54 27 ∧ mI M15 54 27 ≤ 40 := b54_27 (M := (sI (sI (sI M15 54 26 (wI ((mI M 54 26) + x14))) 54 24 x44) 54 30 (((mI M15 54 25) + 2) % 4))) hB56.1
        refine vc_iconst dX12_goOn_116 rfl ?_
        refine vc_iaddE dX12_goOn_117 (by omega) (by omega) ?_
        refine vc_putI dX12_goOn_118 (plX12_330 _ rfl) (s_54 hB56.1.1) rfl ?_
        have kp58 : mI (sI (sI (sI (sI M15 54 26 (wI ((mI M 54 26) + x14))) 54 24 x44) 54 30 (((mI M15 54 25) + 2) % 4)) 54 27 ((mI M15 54 27) + 1)) 57 = mI M 57 := (kp_sI kp53 rfl)
        have kp59 : mI (sI (sI (sI (sI M15 54 26 (wI ((mI M 54 26) + x14))) 54 24 x44) 54 30 (((mI M15 54 25) + 2) % 4)) 54 27 ((mI M15 54 27) + 1)) 63 = mI M 63 := (kp_sI kp54 rfl)
        have kp60 : mI (sI (sI (sI (sI M15 54 26 (wI ((mI M 54 26) + x14))) 54 24 x44) 54 30 (((mI M15 54 25) + 2) % 4)) 54 27 ((mI M15 54 27) + 1)) 55 = mI M 55 := (kp_sI kp55 rfl)
        have hB61 : BF fS M (sI (sI (sI (sI M15 54 26 (wI ((mI M 54 26) + x14))) 54 24 x44) 54 30 (((mI M15 54 25) + 2) % 4)) 54 27 ((mI M15 54 27) + 1)) := BF.w54_27 hB56 rfl (by omega) (by omega)
        refine vc_iconst dX12_goOn_121 rfl ?_
        refine vc_zret dX12_goOn_122 rfl (by first | decide | omega) (Nat.le_of_ble_eq_true rfl) (Nat.le_of_ble_eq_true rfl) ?_
        have k62 : mI (sI (sI (sI (sI M15 54 26 (wI ((mI M 54 26) + x14))) 54 24 x44) 54 30 (((mI M15 54 25) + 2) % 4)) 54 27 ((mI M15 54 27) + 1)) 54 24 = x44 := rfl
        have k63 : mI (sI (sI (sI (sI M15 54 26 (wI ((mI M 54 26) + x14))) 54 24 x44) 54 30 (((mI M15 54 25) + 2) % 4)) 54 27 ((mI M15 54 27) + 1)) 54 25 = mI M15 54 25 := rfl
        have k64 : mI (sI (sI (sI (sI M15 54 26 (wI ((mI M 54 26) + x14))) 54 24 x44) 54 30 (((mI M15 54 25) + 2) % 4)) 54 27 ((mI M15 54 27) + 1)) 54 26 = wI ((mI M 54 26) + x14) := rfl
        have k65 : mI (sI (sI (sI (sI M15 54 26 (wI ((mI M 54 26) + x14))) 54 24 x44) 54 30 (((mI M15 54 25) + 2) % 4)) 54 27 ((mI M15 54 27) + 1)) 54 27 = (mI M15 54 27) + 1 := rfl
        have k66 : mI (sI (sI (sI (sI M15 54 26 (wI ((mI M 54 26) + x14))) 54 24 x44) 54 30 (((mI M15 54 25) + 2) % 4)) 54 27 ((mI M15 54 27) + 1)) 54 32 = mI M15 54 32 := rfl
        have hr9 := p0.ahr (mI M 54 24) (mI M 54 25)
        have q4 : mI (sI (sI (sI (sI M15 54 26 (wI ((mI M 54 26) + x14))) 54 24 x44) 54 30 (((mI M15 54 25) + 2) % 4)) 54 27 ((mI M15 54 27) + 1)) 54 24 = ahS S (mI M 54 24) (mI M 54 25) := by first | exact hs2 | (show _ = _; omega)
        have q5 : mI (sI (sI (sI (sI M15 54 26 (wI ((mI M 54 26) + x14))) 54 24 x44) 54 30 (((mI M15 54 25) + 2) % 4)) 54 27 ((mI M15 54 27) + 1)) 54 25 = mI M 54 25 := by first | rfl | omega
        have q7 : mI (sI (sI (sI (sI M15 54 26 (wI ((mI M 54 26) + x14))) 54 24 x44) 54 30 (((mI M15 54 25) + 2) % 4)) 54 27 ((mI M15 54 27) + 1)) 54 27 = mI M 54 27 + 1 := by first | rfl | omega
        have q6 : mI (sI (sI (sI (sI M15 54 26 (wI ((mI M 54 26) + x14))) 54 24 x44) 54 30 (((mI M15 54 25) + 2) % 4)) 54 27 ((mI M15 54 27) + 1)) 54 26 = wI (mI M 54 26 + paP S (mI M 54 24) (mI M 54 25)) := by rw [← hpa]; first | rfl | assumption | omega
        exact ⟨_, rfl, hB61, kp60, kp58, kp59, by omega, by omega, by omega, by omega, Or.inl ⟨rfl, (gOn_y (fun e => by rcases e with e | e; (have e2 : ahS S (mI M 54 24) (mI M 54 25) = -1 := e; omega); (have e2 : 40 ≤ mI M 54 27 := e; omega))).trans (by unfold gNx gR; rw [q4, q5, q7, q6])⟩, by omega⟩
      · refine vc_aload_n dX12_goOn_37 rfl ?_
        refine vc_dup dX12_goOn_38 rfl ?_
        refine vc_getI dX12_goOn_39 flX12_333 (s_54 hB0.1.1) rfl ?_
        refine vc_iconst dX12_goOn_42 rfl ?_
        refine vc_iadd dX12_goOn_43 ?_
        refine vc_putI dX12_goOn_44 (plX12_333 _ rfl) (s_54 hB0.1.1) rfl ?_
        have kp67 : mI (sI M 54 28 (wI ((mI M 54 28) + 1))) 57 = mI M 57 := (kp_sI rfl rfl)
        have kp68 : mI (sI M 54 28 (wI ((mI M 54 28) + 1))) 63 = mI M 63 := (kp_sI rfl rfl)
        have kp69 : mI (sI M 54 28 (wI ((mI M 54 28) + 1))) 55 = mI M 55 := (kp_sI rfl rfl)
        have hB70 : BF fS M (sI M 54 28 (wI ((mI M 54 28) + 1))) := BF.w54_28 hB0 rfl
        refine vc_aload_n dX12_goOn_47 rfl ?_
        refine vc_dup dX12_goOn_48 rfl ?_
        refine vc_getI dX12_goOn_49 flX12_336 (s_54 hB70.1.1) rfl ?_
        refine vc_topI (mI M 54 29) rfl ?_
        refine vc_iconst dX12_goOn_52 rfl ?_
        refine vc_aload_n dX12_goOn_53 rfl ?_
        refine vc_getI dX12_goOn_54 flX12_321 (s_54 hB70.1.1) rfl ?_
        refine vc_topI (mI M 54 24) rfl ?_
        have k71 : 0 ≤ mI M 54 24 ∧ mI M 54 24 ≤ 15 := b54_24 (M := (sI M 54 28 (wI ((mI M 54 28) + 1)))) hB70.1
        refine vc_ishl dX12_goOn_57 ?_
        refine vc_ior dX12_goOn_58 ?_
        refine vc_putI dX12_goOn_59 (plX12_336 _ rfl) (s_54 hB70.1.1) rfl ?_
        have kp72 : mI (sI (sI M 54 28 (wI ((mI M 54 28) + 1))) 54 29 (orI (mI M 54 29) (shlI 1 (mI M 54 24)))) 57 = mI M 57 := (kp_sI kp67 rfl)
        have kp73 : mI (sI (sI M 54 28 (wI ((mI M 54 28) + 1))) 54 29 (orI (mI M 54 29) (shlI 1 (mI M 54 24)))) 63 = mI M 63 := (kp_sI kp68 rfl)
        have kp74 : mI (sI (sI M 54 28 (wI ((mI M 54 28) + 1))) 54 29 (orI (mI M 54 29) (shlI 1 (mI M 54 24)))) 55 = mI M 55 := (kp_sI kp69 rfl)
        have hB75 : BF fS M (sI (sI M 54 28 (wI ((mI M 54 28) + 1))) 54 29 (orI (mI M 54 29) (shlI 1 (mI M 54 24)))) := BF.w54_29 hB70 rfl
        refine vc_aload_n dX12_goOn_62 rfl ?_
        refine vc_dup dX12_goOn_63 rfl ?_
        refine vc_getI dX12_goOn_64 flX12_327 (s_54 hB75.1.1) rfl ?_
        refine vc_topI (mI M 54 26) rfl ?_
        refine vc_aload_n dX12_goOn_67 rfl ?_
        refine vc_aload_n dX12_goOn_68 rfl ?_
        refine vc_getI dX12_goOn_69 flX12_321 (s_54 hB75.1.1) rfl ?_
        refine vc_topI (mI M 54 24) rfl ?_
        have k76 : 0 ≤ mI M 54 24 ∧ mI M 54 24 ≤ 15 := b54_24 (M := (sI (sI M 54 28 (wI ((mI M 54 28) + 1))) 54 29 (orI (mI M 54 29) (shlI 1 (mI M 54 24))))) hB75.1
        refine vc_aload_n dX12_goOn_72 rfl ?_
        refine vc_getI dX12_goOn_73 flX12_324 (s_54 hB75.1.1) rfl ?_
        refine vc_topI (mI M 54 25) rfl ?_
        have k77 : 0 ≤ mI M 54 25 ∧ mI M 54 25 ≤ 3 := b54_25 (M := (sI (sI M 54 28 (wI ((mI M 54 28) + 1))) 54 29 (orI (mI M 54 29) (shlI 1 (mI M 54 24))))) hB75.1
        have k78 : mI (sI (sI M 54 28 (wI ((mI M 54 28) + 1))) 54 29 (orI (mI M 54 29) (shlI 1 (mI M 54 24)))) 54 24 = mI M 54 24 := rfl
        have k79 : mI (sI (sI M 54 28 (wI ((mI M 54 28) + 1))) 54 29 (orI (mI M 54 29) (shlI 1 (mI M 54 24)))) 54 25 = mI M 54 25 := rfl
        have k80 : mI (sI (sI M 54 28 (wI ((mI M 54 28) + 1))) 54 29 (orI (mI M 54 29) (shlI 1 (mI M 54 24)))) 54 26 = mI M 54 26 := rfl
        have k81 : mI (sI (sI M 54 28 (wI ((mI M 54 28) + 1))) 54 29 (orI (mI M 54 29) (shlI 1 (mI M 54 24)))) 54 27 = mI M 54 27 := rfl
        have k82 : mI (sI (sI M 54 28 (wI ((mI M 54 28) + 1))) 54 29 (orI (mI M 54 29) (shlI 1 (mI M 54 24)))) 54 32 = mI M 54 32 := rfl
        have hTp : TA (mI (sI (sI M 54 28 (wI ((mI M 54 28) + 1))) 54 29 (orI (mI M 54 29) (shlI 1 (mI M 54 24)))) 55) S := by rw [show mI (sI (sI M 54 28 (wI ((mI M 54 28) + 1))) 54 29 (orI (mI M 54 29) (shlI 1 (mI M 54 24)))) 55 = mI M 55 from kp74]; exact p0
        have hLp : LwS S (mI (sI (sI M 54 28 (wI ((mI M 54 28) + 1))) 54 29 (orI (mI M 54 29) (shlI 1 (mI M 54 24)))) 57) := by rw [show mI (sI (sI M 54 28 (wI ((mI M 54 28) + 1))) 54 29 (orI (mI M 54 29) (shlI 1 (mI M 54 24)))) 57 = mI M 57 from kp72]; exact p2
        have hb24 := b54_24 hB
        have hb25 := b54_25 hB
        refine vc_cVI dX12_goOn_76 (sfX12_paceOfF (M := (sI (sI M 54 28 (wI ((mI M 54 28) + 1))) 54 29 (orI (mI M 54 29) (shlI 1 (mI M 54 24))))) hB75.1 S (mI M 54 24) (mI M 54 25) (by omega) (by omega) (by omega) (by omega) (by exact hTp) (by exact p1) (by exact hLp) (by omega) (by exact p3)) rfl okX12_paceOf viX12_paceOf lkX12_345 (s_54 hB75.1.1) cl_12 rfl (Nat.le_of_ble_eq_true rfl) ⟨rfl, rfl⟩ (Nat.le_of_ble_eq_true rfl) (Nat.le_of_ble_eq_true rfl) (Nat.le_of_ble_eq_true rfl) ?_
        rintro x83 M84 ⟨hB85, kp86, kp87, kp88, kp89, kp90, kp91, h92⟩
        have hB93 : BF fS M M84 := BF.go hB75 hB85
        have kp94 : mI M84 57 = mI M 57 := kp_go kp72 kp88
        have kp95 : mI M84 63 = mI M 63 := kp_go kp73 kp89
        have kp96 : mI M84 55 = mI M 55 := kp_go kp74 kp87
        have fe97 : mI M84 54 24 = mI M 54 24 := congrFun kp86 24
        have fe98 : mI M84 54 25 = mI M 54 25 := congrFun kp86 25
        have fe99 : mI M84 54 26 = mI M 54 26 := congrFun kp86 26
        have fe100 : mI M84 54 27 = mI M 54 27 := congrFun kp86 27
        have fe101 : mI M84 54 32 = mI M 54 32 := congrFun kp86 32
        have hpa : x83 = paP S (mI M 54 24) (mI M 54 25) := h92.trans (paP_id (by omega) (by omega) (by omega) (by omega)).symm
        refine vc_iadd dX12_goOn_79 ?_
        refine vc_putI dX12_goOn_80 (plX12_327 _ rfl) (s_54 hB93.1.1) rfl ?_
        have kp102 : mI (sI M84 54 26 (wI ((mI M 54 26) + x83))) 57 = mI M 57 := (kp_sI kp94 rfl)
        have kp103 : mI (sI M84 54 26 (wI ((mI M 54 26) + x83))) 63 = mI M 63 := (kp_sI kp95 rfl)
        have kp104 : mI (sI M84 54 26 (wI ((mI M 54 26) + x83))) 55 = mI M 55 := (kp_sI kp96 rfl)
        have hB105 : BF fS M (sI M84 54 26 (wI ((mI M 54 26) + x83))) := BF.w54_26 hB93 rfl
        refine vc_aload_n dX12_goOn_83 rfl ?_
        refine vc_aload_n dX12_goOn_84 rfl ?_
        refine vc_aload_n dX12_goOn_85 rfl ?_
        refine vc_getI dX12_goOn_86 flX12_321 (s_54 hB105.1.1) rfl ?_
        refine vc_topI (mI M84 54 24) rfl ?_
        have k106 : 0 ≤ mI M84 54 24 ∧ mI M84 54 24 ≤ 15 := b54_24 (M := (sI M84 54 26 (wI ((mI M 54 26) + x83)))) hB105.1
        refine vc_aload_n dX12_goOn_89 rfl ?_
        refine vc_getI dX12_goOn_90 flX12_324 (s_54 hB105.1.1) rfl ?_
        refine vc_topI (mI M84 54 25) rfl ?_
        have k107 : 0 ≤ mI M84 54 25 ∧ mI M84 54 25 ≤ 3 := b54_25 (M := (sI M84 54 26 (wI ((mI M 54 26) + x83)))) hB105.1
        have k108 : mI (sI M84 54 26 (wI ((mI M 54 26) + x83))) 54 24 = mI M84 54 24 := rfl
        have k109 : mI (sI M84 54 26 (wI ((mI M 54 26) + x83))) 54 25 = mI M84 54 25 := rfl
        have k110 : mI (sI M84 54 26 (wI ((mI M 54 26) + x83))) 54 26 = wI ((mI M 54 26) + x83) := rfl
        have k111 : mI (sI M84 54 26 (wI ((mI M 54 26) + x83))) 54 27 = mI M84 54 27 := rfl
        have k112 : mI (sI M84 54 26 (wI ((mI M 54 26) + x83))) 54 32 = mI M84 54 32 := rfl
        refine vc_cVI dX12_goOn_93 (sfX12_streetOfF (M := (sI M84 54 26 (wI ((mI M 54 26) + x83)))) hB105.1  (mI M84 54 24) (mI M84 54 25) (by omega) (by omega) (by omega) (by omega)) rfl okX12_streetOf viX12_streetOf lkX12_91 (s_54 hB105.1.1) cl_12 rfl (Nat.le_of_ble_eq_true rfl) ⟨rfl, rfl⟩ (Nat.le_of_ble_eq_true rfl) (Nat.le_of_ble_eq_true rfl) (Nat.le_of_ble_eq_true rfl) ?_
        rintro x113 _ ⟨rfl, h114, h115, h116⟩
        have e4 : x113 = mI M 55 ((((10 + (9 * mI M 54 24)) + 1) + mI M 54 25)).toNat := by
          rw [← fe97, ← fe98]
          exact h116.trans (congrFun kp104 _)
        have hs2 : x113 = ahS S (mI M 54 24) (mI M 54 25) := e4.trans (p0.st (by omega) p1 (by omega) (by omega))
        have e5 : 0 ≤ x113 := by omega
        refine vc_putI dX12_goOn_96 (plX12_321 _ rfl) (s_54 hB105.1.1) rfl ?_
        have kp117 : mI (sI (sI M84 54 26 (wI ((mI M 54 26) + x83))) 54 24 x113) 57 = mI M 57 := (kp_sI kp102 rfl)
        have kp118 : mI (sI (sI M84 54 26 (wI ((mI M 54 26) + x83))) 54 24 x113) 63 = mI M 63 := (kp_sI kp103 rfl)
        have kp119 : mI (sI (sI M84 54 26 (wI ((mI M 54 26) + x83))) 54 24 x113) 55 = mI M 55 := (kp_sI kp104 rfl)
        have hB120 : BF fS M (sI (sI M84 54 26 (wI ((mI M 54 26) + x83))) 54 24 x113) := BF.w54_24 hB105 rfl (by omega) (by omega)
        refine vc_aload_n dX12_goOn_99 rfl ?_
        refine vc_aload_n dX12_goOn_100 rfl ?_
        refine vc_getI dX12_goOn_101 flX12_324 (s_54 hB120.1.1) rfl ?_
        refine vc_topI (mI M84 54 25) rfl ?_
        have k121 : 0 ≤ mI M84 54 25 ∧ mI M84 54 25 ≤ 3 := b54_25 (M := (sI (sI M84 54 26 (wI ((mI M 54 26) + x83))) 54 24 x113)) hB120.1
        refine vc_iconst dX12_goOn_104 rfl ?_
        refine vc_iaddE dX12_goOn_105 (by omega) (by omega) ?_
        refine vc_iconst dX12_goOn_106 rfl ?_
        refine vc_iremE dX12_goOn_107 (by omega) (by omega) ?_
        refine vc_putI dX12_goOn_108 (plX12_339 _ rfl) (s_54 hB120.1.1) rfl ?_
        have kp122 : mI (sI (sI (sI M84 54 26 (wI ((mI M 54 26) + x83))) 54 24 x113) 54 30 (((mI M84 54 25) + 2) % 4)) 57 = mI M 57 := (kp_sI kp117 rfl)
        have kp123 : mI (sI (sI (sI M84 54 26 (wI ((mI M 54 26) + x83))) 54 24 x113) 54 30 (((mI M84 54 25) + 2) % 4)) 63 = mI M 63 := (kp_sI kp118 rfl)
        have kp124 : mI (sI (sI (sI M84 54 26 (wI ((mI M 54 26) + x83))) 54 24 x113) 54 30 (((mI M84 54 25) + 2) % 4)) 55 = mI M 55 := (kp_sI kp119 rfl)
        have hB125 : BF fS M (sI (sI (sI M84 54 26 (wI ((mI M 54 26) + x83))) 54 24 x113) 54 30 (((mI M84 54 25) + 2) % 4)) := BF.w54_30 hB120 rfl
        refine vc_aload_n dX12_goOn_111 rfl ?_
        refine vc_dup dX12_goOn_112 rfl ?_
        refine vc_getI dX12_goOn_113 flX12_330 (s_54 hB125.1.1) rfl ?_
        refine vc_topI (mI M84 54 27) rfl ?_
        have k126 : 0 ≤ mI M84 54 27 ∧ mI M84 54 27 ≤ 40 := b54_27 (M := (sI (sI (sI M84 54 26 (wI ((mI M 54 26) + x83))) 54 24 x113) 54 30 (((mI M84 54 25) + 2) % 4))) hB125.1
        refine vc_iconst dX12_goOn_116 rfl ?_
        refine vc_iaddE dX12_goOn_117 (by omega) (by omega) ?_
        refine vc_putI dX12_goOn_118 (plX12_330 _ rfl) (s_54 hB125.1.1) rfl ?_
        have kp127 : mI (sI (sI (sI (sI M84 54 26 (wI ((mI M 54 26) + x83))) 54 24 x113) 54 30 (((mI M84 54 25) + 2) % 4)) 54 27 ((mI M84 54 27) + 1)) 57 = mI M 57 := (kp_sI kp122 rfl)
        have kp128 : mI (sI (sI (sI (sI M84 54 26 (wI ((mI M 54 26) + x83))) 54 24 x113) 54 30 (((mI M84 54 25) + 2) % 4)) 54 27 ((mI M84 54 27) + 1)) 63 = mI M 63 := (kp_sI kp123 rfl)
        have kp129 : mI (sI (sI (sI (sI M84 54 26 (wI ((mI M 54 26) + x83))) 54 24 x113) 54 30 (((mI M84 54 25) + 2) % 4)) 54 27 ((mI M84 54 27) + 1)) 55 = mI M 55 := (kp_sI kp124 rfl)
        have hB130 : BF fS M (sI (sI (sI (sI M84 54 26 (wI ((mI M 54 26) + x83))) 54 24 x113) 54 30 (((mI M84 54 25) + 2) % 4)) 54 27 ((mI M84 54 27) + 1)) := BF.w54_27 hB125 rfl (by omega) (by omega)
        refine vc_iconst dX12_goOn_121 rfl ?_
        refine vc_zret dX12_goOn_122 rfl (by first | decide | omega) (Nat.le_of_ble_eq_true rfl) (Nat.le_of_ble_eq_true rfl) ?_
        have k131 : mI (sI (sI (sI (sI M84 54 26 (wI ((mI M 54 26) + x83))) 54 24 x113) 54 30 (((mI M84 54 25) + 2) % 4)) 54 27 ((mI M84 54 27) + 1)) 54 24 = x113 := rfl
        have k132 : mI (sI (sI (sI (sI M84 54 26 (wI ((mI M 54 26) + x83))) 54 24 x113) 54 30 (((mI M84 54 25) + 2) % 4)) 54 27 ((mI M84 54 27) + 1)) 54 25 = mI M84 54 25 := rfl
        have k133 : mI (sI (sI (sI (sI M84 54 26 (wI ((mI M 54 26) + x83))) 54 24 x113) 54 30 (((mI M84 54 25) + 2) % 4)) 54 27 ((mI M84 54 27) + 1)) 54 26 = wI ((mI M 54 26) + x83) := rfl
        have k134 : mI (sI (sI (sI (sI M84 54 26 (wI ((mI M 54 26) + x83))) 54 24 x113) 54 30 (((mI M84 54 25) + 2) % 4)) 54 27 ((mI M84 54 27) + 1)) 54 27 = (mI M84 54 27) + 1 := rfl
        have k135 : mI (sI (sI (sI (sI M84 54 26 (wI ((mI M 54 26) + x83))) 54 24 x113) 54 30 (((mI M84 54 25) + 2) % 4)) 54 27 ((mI M84 54 27) + 1)) 54 32 = mI M84 54 32 := rfl
        have hr9 := p0.ahr (mI M 54 24) (mI M 54 25)
        have q4 : mI (sI (sI (sI (sI M84 54 26 (wI ((mI M 54 26) + x83))) 54 24 x113) 54 30 (((mI M84 54 25) + 2) % 4)) 54 27 ((mI M84 54 27) + 1)) 54 24 = ahS S (mI M 54 24) (mI M 54 25) := by first | exact hs2 | (show _ = _; omega)
        have q5 : mI (sI (sI (sI (sI M84 54 26 (wI ((mI M 54 26) + x83))) 54 24 x113) 54 30 (((mI M84 54 25) + 2) % 4)) 54 27 ((mI M84 54 27) + 1)) 54 25 = mI M 54 25 := by first | rfl | omega
        have q7 : mI (sI (sI (sI (sI M84 54 26 (wI ((mI M 54 26) + x83))) 54 24 x113) 54 30 (((mI M84 54 25) + 2) % 4)) 54 27 ((mI M84 54 27) + 1)) 54 27 = mI M 54 27 + 1 := by first | rfl | omega
        have q6 : mI (sI (sI (sI (sI M84 54 26 (wI ((mI M 54 26) + x83))) 54 24 x113) 54 30 (((mI M84 54 25) + 2) % 4)) 54 27 ((mI M84 54 27) + 1)) 54 26 = wI (mI M 54 26 + paP S (mI M 54 24) (mI M 54 25)) := by rw [← hpa]; first | rfl | assumption | omega
        exact ⟨_, rfl, hB130, kp129, kp127, kp128, by omega, by omega, by omega, by omega, Or.inl ⟨rfl, (gOn_y (fun e => by rcases e with e | e; (have e2 : ahS S (mI M 54 24) (mI M 54 25) = -1 := e; omega); (have e2 : 40 ≤ mI M 54 27 := e; omega))).trans (by unfold gNx gR; rw [q4, q5, q7, q6])⟩, by omega⟩
    · refine vc_iconst dX12_goOn_24 rfl ?_
      refine vc_zret dX12_goOn_25 rfl (by first | decide | omega) (Nat.le_of_ble_eq_true rfl) (Nat.le_of_ble_eq_true rfl) ?_
      exact ⟨_, rfl, hB0, rfl, rfl, rfl, by omega, by omega, by omega, by omega, Or.inr ⟨rfl, gOn_n (by first | exact Or.inl (by show ahS S (mI M 54 24) (mI M 54 25) = -1; omega) | exact Or.inr (by show 40 ≤ mI M 54 27; omega))⟩, p1⟩

set_option maxRecDepth 4000 in
theorem sfX12_isCountedF {l : Launch} {M : Mem} (hB : Box M) (S : Sw) (d : Int) (s : Int) (p0 : 0 ≤ d) (p1 : d ≤ 3) (p2 : 0 ≤ s) (p3 : s ≤ 7) (p4 : TA (mI M 55) S) (p5 : mI M 54 24 < S 1 6) : Call l mdX12_isCounted [aR 54, aI d, aI s] M (fun q N => ∃ r : Int, q = some (aI r) ∧ M = N ∧ 0 ≤ r ∧ r ≤ 1 ∧ ((r = 1 ∧ cntS S (mI M 54 24) d (laS s)) ∨ (r = 0 ∧ ¬ cntS S (mI M 54 24) d (laS s)))) := by
  have hB0 : BF fQ M M := BF.start hB
  refine Call.of [some (aR 54), some (aI d), some (aI s)] rfl (Nat.le_of_ble_eq_true rfl) rfl ?_
  have p0 := p4
  have p1 := p5
  have ha2 := and2 p2 p3
  refine vc_aload_n dX12_isCounted_0 rfl ?_
  refine vc_aload_n dX12_isCounted_1 rfl ?_
  refine vc_getI dX12_isCounted_2 flX12_321 (s_54 hB0.1.1) rfl ?_
  have k1 : 0 ≤ mI M 54 24 ∧ mI M 54 24 ≤ 15 := b54_24 (M := M) hB0.1
  refine vc_iload_n dX12_isCounted_5 rfl ?_
  refine vc_cVI dX12_isCounted_6 (sfX12_streetOfF (M := M) hB0.1  (mI M 54 24) d (by omega) (by omega) (by omega) (by omega)) rfl okX12_streetOf viX12_streetOf lkX12_91 (s_54 hB0.1.1) cl_12 rfl (Nat.le_of_ble_eq_true rfl) ⟨rfl, rfl⟩ (Nat.le_of_ble_eq_true rfl) (Nat.le_of_ble_eq_true rfl) (Nat.le_of_ble_eq_true rfl) ?_
  rintro x2 _ ⟨rfl, h3, h4, h5⟩
  refine vc_if_lt dX12_isCounted_9 (fun h6 => ?_) (fun h6 => ?_)
  · refine vc_iconst dX12_isCounted_34 rfl ?_
    refine vc_zret dX12_isCounted_35 rfl (by first | decide | omega) (Nat.le_of_ble_eq_true rfl) (Nat.le_of_ble_eq_true rfl) ?_
    refine ⟨_, rfl, rfl, by omega, by omega, ?_⟩
    rw [p0.la (by omega) p1 (by omega) (by omega)]
    have hl : laS s = 1 ∧ s / 2 % 2 = 0 ∨ laS s = 0 ∧ s / 2 % 2 ≠ 0 := by unfold laS; by_cases e : s / 2 % 2 = 0; (rw [if_pos e]; omega); (rw [if_neg e]; omega)
    have hu7 := h5
    omega
  · refine vc_aload_n dX12_isCounted_12 rfl ?_
    refine vc_aload_n dX12_isCounted_13 rfl ?_
    refine vc_getI dX12_isCounted_14 flX12_321 (s_54 hB0.1.1) rfl ?_
    refine vc_iload_n dX12_isCounted_17 rfl ?_
    refine vc_cVI dX12_isCounted_18 (sfX12_isLaneF (M := M) hB0.1  (mI M 54 24) d (by omega) (by omega) (by omega) (by omega)) rfl okX12_isLane viX12_isLane lkX12_315 (s_54 hB0.1.1) cl_12 rfl (Nat.le_of_ble_eq_true rfl) ⟨rfl, rfl⟩ (Nat.le_of_ble_eq_true rfl) (Nat.le_of_ble_eq_true rfl) (Nat.le_of_ble_eq_true rfl) ?_
    rintro x8 _ ⟨rfl, h9, h10, h11⟩
    refine vc_if_eq dX12_isCounted_21 (fun h12 => ?_) (fun h12 => ?_)
    · refine vc_iconst dX12_isCounted_30 rfl ?_
      refine vc_goto dX12_isCounted_31 ?_
      refine vc_zret dX12_isCounted_35 rfl (by first | decide | omega) (Nat.le_of_ble_eq_true rfl) (Nat.le_of_ble_eq_true rfl) ?_
      refine ⟨_, rfl, rfl, by omega, by omega, ?_⟩
      rw [p0.la (by omega) p1 (by omega) (by omega)]
      have hl : laS s = 1 ∧ s / 2 % 2 = 0 ∨ laS s = 0 ∧ s / 2 % 2 ≠ 0 := by unfold laS; by_cases e : s / 2 % 2 = 0; (rw [if_pos e]; omega); (rw [if_neg e]; omega)
      have hu13 := h5
      have hu14 := h11
      omega
    · refine vc_iload_n dX12_isCounted_24 rfl ?_
      refine vc_iconst dX12_isCounted_25 rfl ?_
      refine vc_iand dX12_isCounted_26 ?_
      refine vc_if_ne dX12_isCounted_27 (fun h15 => ?_) (fun h15 => ?_)
      · refine vc_iconst dX12_isCounted_34 rfl ?_
        refine vc_zret dX12_isCounted_35 rfl (by first | decide | omega) (Nat.le_of_ble_eq_true rfl) (Nat.le_of_ble_eq_true rfl) ?_
        refine ⟨_, rfl, rfl, by omega, by omega, ?_⟩
        rw [p0.la (by omega) p1 (by omega) (by omega)]
        have hl : laS s = 1 ∧ s / 2 % 2 = 0 ∨ laS s = 0 ∧ s / 2 % 2 ≠ 0 := by unfold laS; by_cases e : s / 2 % 2 = 0; (rw [if_pos e]; omega); (rw [if_neg e]; omega)
        have hu16 := h5
        have hu17 := h11
        omega
      · refine vc_iconst dX12_isCounted_30 rfl ?_
        refine vc_goto dX12_isCounted_31 ?_
        refine vc_zret dX12_isCounted_35 rfl (by first | decide | omega) (Nat.le_of_ble_eq_true rfl) (Nat.le_of_ble_eq_true rfl) ?_
        refine ⟨_, rfl, rfl, by omega, by omega, ?_⟩
        rw [p0.la (by omega) p1 (by omega) (by omega)]
        have hl : laS s = 1 ∧ s / 2 % 2 = 0 ∨ laS s = 0 ∧ s / 2 % 2 ≠ 0 := by unfold laS; by_cases e : s / 2 % 2 = 0; (rw [if_pos e]; omega); (rw [if_neg e]; omega)
        have hu18 := h5
        have hu19 := h11
        omega

/-- what a turn that was meant is made of -/
theorem mn_d {t s : Int} (h : isTu t) : mnS t s / 100 = (if s % 2 ≠ 0 ∧ t / 100 ≠ 3 then 3 - t / 100 else t / 100) ∧ mnS t s / 10 % 10 = t / 10 % 10 ∧ mnS t s % 10 = (if s / 4 % 2 ≠ 0 ∧ t / 10 % 10 = 1 ∧ t % 10 ≤ 2 then 3 - t % 10 else t % 10) := by
  unfold isTu at h
  unfold mnS
  by_cases e1 : s % 2 ≠ 0 ∧ t / 100 ≠ 3
  · by_cases e2 : s / 4 % 2 ≠ 0 ∧ t / 10 % 10 = 1 ∧ t % 10 ≤ 2
    · rw [if_pos e1, if_pos e2]; omega
    · rw [if_pos e1, if_neg e2]; omega
  · by_cases e2 : s / 4 % 2 ≠ 0 ∧ t / 10 % 10 = 1 ∧ t % 10 ≤ 2
    · rw [if_neg e1, if_pos e2]; omega
    · rw [if_neg e1, if_neg e2]; omega
theorem mn_3 {t s : Int} (h : isTu t) : mnS t s / 100 = 3 ↔ t / 100 = 3 := by
  have q := (mn_d (s := s) h).1
  unfold isTu at h
  rw [q]
  split <;> omega
set_option maxRecDepth 4000 in
theorem sfX12_goTurnF {l : Launch} {M : Mem} (hB : Box M) (S : Sw) (t : Int) (s : Int) (p0 : 0 ≤ t) (p1 : t ≤ 999) (p2 : 0 ≤ s) (p3 : s ≤ 7) (p4 : isTu t) (p5 : TA (mI M 55) S) (p6 : mI M 54 24 < S 1 6) (p7 : LwS S (mI M 57)) (p8 : nmT S) : Call l mdX12_goTurn [aR 54, aI t, aI s] M (fun q N => ∃ r : Int, q = some (aI r) ∧ BF fS M N ∧ mI N 55 = mI M 55 ∧ mI N 57 = mI M 57 ∧ mI N 63 = mI M 63 ∧ 0 ≤ r ∧ r ≤ 1 ∧ mI N 54 32 = mI M 54 32 ∧ ((r = 1 ∧ gTu S (mnS t s) (laS s) (gR M) = (gR N, true)) ∨ (r = 0 ∧ gTu S (mnS t s) (laS s) (gR M) = (gR N, false))) ∧ mI N 54 24 < S 1 6) := by
  have hB0 : BF fS M M := BF.start hB
  refine Call.of [some (aR 54), some (aI t), some (aI s), none, none, none, none, none, none, none] rfl (Nat.le_of_ble_eq_true rfl) rfl ?_
  have kz := b54_27 hB
  have kz5 := b54_25 hB
  have kz4 := b54_24 hB
  have hmd := mn_d (s := s) p4
  have htu := id p4
  unfold isTu at htu
  have ha4 := and4 p2 p3
  refine vc_iload_n dX12_goTurn_0 rfl ?_
  refine vc_bipush dX12_goTurn_1 rfl ?_
  refine vc_idivE dX12_goTurn_3 (by omega) (by omega) ?_
  refine vc_nameI (fun x1 ex1 => ?_)
  refine vc_istore_n dX12_goTurn_4 (by decide) rfl (show _ = [some (aR 54), some (aI t), some (aI s), some (aI x1), none, none, none, none, none, none] from rfl) ?_
  refine vc_iload_n dX12_goTurn_5 rfl ?_
  refine vc_bipush dX12_goTurn_6 rfl ?_
  refine vc_iremE dX12_goTurn_8 (by omega) (by omega) ?_
  refine vc_nameI (fun x2 ex2 => ?_)
  refine vc_istore dX12_goTurn_9 (by decide) rfl (show _ = [some (aR 54), some (aI t), some (aI s), some (aI x1), some (aI x2), none, none, none, none, none] from rfl) ?_
  refine vc_iload_n dX12_goTurn_11 rfl ?_
  refine vc_bipush dX12_goTurn_12 rfl ?_
  refine vc_idivE dX12_goTurn_14 (by omega) (by omega) ?_
  refine vc_bipush dX12_goTurn_15 rfl ?_
  refine vc_iremE dX12_goTurn_17 (by omega) (by omega) ?_
  refine vc_iconst dX12_goTurn_18 rfl ?_
  refine vc_icmp_ne dX12_goTurn_19 (fun h3 => ?_) (fun h3 => ?_)
  · refine vc_iconst dX12_goTurn_26 rfl ?_
    refine vc_istore dX12_goTurn_27 (by decide) rfl (show _ = [some (aR 54), some (aI t), some (aI s), some (aI x1), some (aI x2), some (aI 0), none, none, none, none] from rfl) ?_
    refine vc_iload dX12_goTurn_29 rfl ?_
    refine vc_if_eq dX12_goTurn_31 (fun h4 => ?_) (fun h4 => by exfalso; omega)
    refine vc_iload_n dX12_goTurn_52 rfl ?_
    refine vc_iconst dX12_goTurn_53 rfl ?_
    refine vc_icmp_ne dX12_goTurn_54 (fun h5 => ?_) (fun h5 => ?_)
    · refine vc_iconst dX12_goTurn_61 rfl ?_
      refine vc_iload_n dX12_goTurn_62 rfl ?_
      refine vc_iconst dX12_goTurn_63 rfl ?_
      refine vc_iandM dX12_goTurn_64 2 1 rfl (by decide) rfl ?_
      refine vc_if_ne dX12_goTurn_65 (fun h6 => ?_) (fun h6 => ?_)
      · refine vc_iconst dX12_goTurn_72 rfl ?_
        refine vc_icmp_ne dX12_goTurn_73 (fun h7 => by exfalso; omega) (fun h7 => ?_)
        refine vc_iconst dX12_goTurn_76 rfl ?_
        refine vc_goto dX12_goTurn_77 ?_
        refine vc_istore dX12_goTurn_81 (by decide) rfl (show _ = [some (aR 54), some (aI t), some (aI s), some (aI x1), some (aI x2), some (aI 0), some (aI 1), none, none, none] from rfl) ?_
        refine vc_iload_n dX12_goTurn_83 rfl ?_
        refine vc_iconst dX12_goTurn_84 rfl ?_
        refine vc_icmp_ne dX12_goTurn_85 (fun h8 => ?_) (fun h8 => ?_)
        · refine vc_aload_n dX12_goTurn_95 rfl ?_
          refine vc_getI dX12_goTurn_96 flX12_324 (s_54 hB0.1.1) rfl ?_
          have k9 : 0 ≤ mI M 54 25 ∧ mI M 54 25 ≤ 3 := b54_25 (M := M) hB0.1
          refine vc_iload dX12_goTurn_99 rfl ?_
          refine vc_if_eq dX12_goTurn_101 (fun h10 => by exfalso; omega) (fun h10 => ?_)
          refine vc_iconst dX12_goTurn_104 rfl ?_
          refine vc_goto dX12_goTurn_105 ?_
          refine vc_iaddE dX12_goTurn_109 (by omega) (by omega) ?_
          refine vc_iconst dX12_goTurn_110 rfl ?_
          refine vc_iremE dX12_goTurn_111 (by omega) (by omega) ?_
          refine vc_nameI (fun x11 ex11 => ?_)
          refine vc_istore dX12_goTurn_112 (by decide) rfl (show _ = [some (aR 54), some (aI t), some (aI s), some (aI x1), some (aI x2), some (aI 0), some (aI 1), some (aI x11), none, none] from rfl) ?_
          have hsd : x11 = (sdS (mI M 54 25) (mnS t s / 100)) := by unfold sdS; rw [hmd.1]; by_cases e1 : s % 2 ≠ 0 ∧ t / 100 ≠ 3; (rw [if_pos e1]; first | (exfalso; omega) | (rw [if_pos (by omega)]; first | done | omega) | (rw [if_neg (by omega), if_pos (by omega)]; first | done | omega) | (rw [if_neg (by omega), if_neg (by omega)]; first | done | omega)); (rw [if_neg e1]; first | (exfalso; omega) | (rw [if_pos (by omega)]; first | done | omega) | (rw [if_neg (by omega), if_pos (by omega)]; first | done | omega) | (rw [if_neg (by omega), if_neg (by omega)]; first | done | omega))
          have hdu : ((mnS t s) % 10 : Int) = if (mnS t s) / 10 % 10 = 1 then 1 else (mnS t s) % 10 := by rw [hmd.2.1]; first | (rw [if_pos (by omega)]) | (rw [if_neg (by omega)])
          have hn4 : x2 = (mnS t s) % 10 := by rw [hmd.2.2]; first | (rw [if_pos (by omega)]; omega) | (rw [if_neg (by omega)]; omega)
          have hwh : x1 = 3 ↔ (mnS t s) / 100 = 3 := by rw [mn_3 p4]; omega
          refine vc_iconst dX12_goTurn_114 rfl ?_
          refine vc_istore dX12_goTurn_115 (by decide) rfl (show _ = [some (aR 54), some (aI t), some (aI s), some (aI x1), some (aI x2), some (aI 0), some (aI 1), some (aI x11), some (aI 0), none] from rfl) ?_
          refine vc_iconst dX12_goTurn_117 rfl ?_
          refine vc_istore dX12_goTurn_118 (by decide) rfl (show _ = [some (aR 54), some (aI t), some (aI s), some (aI x1), some (aI x2), some (aI 0), some (aI 1), some (aI x11), some (aI 0), some (aI 0)] from rfl) ?_
          have lp120 : ∀ (n120 : Nat) (Mq120 : Mem) (v8 : Int) (v9 : Int), (BF fS M Mq120) → (mI Mq120 57 = mI M 57) → (mI Mq120 63 = mI M 63) → (mI Mq120 55 = mI M 55) → (0 ≤ v8) → (v8 ≤ 9) → (0 ≤ v9) → (v9 ≤ 1) → (gTk S (gCt S (mnS t s) (sdS (mI M 54 25) (mnS t s / 100)) (laS s)) (41 - mI M 54 27).toNat ((mnS t s) % 10) (gR M) = gTk S (gCt S (mnS t s) (sdS (mI M 54 25) (mnS t s / 100)) (laS s)) (41 - mI Mq120 54 27).toNat ((mnS t s) % 10 - v8) (gR Mq120)) → (mI Mq120 54 25 = mI M 54 25) → (mI Mq120 54 32 = mI M 54 32) → (0 ≤ mI Mq120 54 27) → (mI Mq120 54 27 ≤ 40) → (mI Mq120 54 24 < S 1 6) → ((v9 = 1 ∧ v8 = (mnS t s) % 10) ∨ (v9 = 0 ∧ v8 < (mnS t s) % 10)) → (40 - mI Mq120 54 27).toNat < n120 → VC l mdX12_goTurn 120 [some (aR 54), none, some (aI s), some (aI x1), some (aI x2), some (aI 0), none, some (aI x11), some (aI v8), some (aI v9)] [] Mq120 0 0 (fun q N => ∃ r : Int, q = some (aI r) ∧ BF fS M N ∧ mI N 55 = mI M 55 ∧ mI N 57 = mI M 57 ∧ mI N 63 = mI M 63 ∧ 0 ≤ r ∧ r ≤ 1 ∧ mI N 54 32 = mI M 54 32 ∧ ((r = 1 ∧ gTu S (mnS t s) (laS s) (gR M) = (gR N, true)) ∨ (r = 0 ∧ gTu S (mnS t s) (laS s) (gR M) = (gR N, false))) ∧ mI N 54 24 < S 1 6) := by
            intro n120
            induction n120 with
            | zero => intro Mq120 v8 v9 hQ120 kp120_57 kp120_63 kp120_55 g120_8a g120_8b g120_9a g120_9b g120i0 g120i1 g120i2 g120i3 g120i4 g120i5 g120i6 hm120; exact absurd hm120 (Nat.not_lt_zero _)
            | succ n120 ih120 =>
              intro Mq120 v8 v9 hQ120 kp120_57 kp120_63 kp120_55 g120_8a g120_8b g120_9a g120_9b g120i0 g120i1 g120i2 g120i3 g120i4 g120i5 g120i6 hm120
              refine vc_iload dX12_goTurn_120 rfl ?_
              refine vc_if_ne dX12_goTurn_122 (fun h12 => ?_) (fun h12 => ?_)
              · have hTq : TA (mI Mq120 55) S := by rw [kp120_55]; exact p5
                refine vc_iload_n dX12_goTurn_200 rfl ?_
                refine vc_iconst dX12_goTurn_201 rfl ?_
                refine vc_icmp_eq dX12_goTurn_202 (fun h13 => ?_) (fun h13 => ?_)
                · refine vc_aload_n dX12_goTurn_217 rfl ?_
                  refine vc_iload dX12_goTurn_218 rfl ?_
                  refine vc_putI dX12_goTurn_220 (plX12_324 _ rfl) (s_54 hQ120.1.1) rfl ?_
                  have kp14 : mI (sI Mq120 54 25 x11) 57 = mI M 57 := (kp_sI kp120_57 rfl)
                  have kp15 : mI (sI Mq120 54 25 x11) 63 = mI M 63 := (kp_sI kp120_63 rfl)
                  have kp16 : mI (sI Mq120 54 25 x11) 55 = mI M 55 := (kp_sI kp120_55 rfl)
                  have hB17 : BF fS M (sI Mq120 54 25 x11) := BF.w54_25 hQ120 rfl (by omega) (by omega)
                  refine vc_iconst dX12_goTurn_223 rfl ?_
                  refine vc_zret dX12_goTurn_224 rfl (by first | decide | omega) (Nat.le_of_ble_eq_true rfl) (Nat.le_of_ble_eq_true rfl) ?_
                  have k18 : mI (sI Mq120 54 25 x11) 54 24 = mI Mq120 54 24 := rfl
                  have k19 : mI (sI Mq120 54 25 x11) 54 25 = x11 := rfl
                  have k20 : mI (sI Mq120 54 25 x11) 54 27 = mI Mq120 54 27 := rfl
                  have k21 : mI (sI Mq120 54 25 x11) 54 32 = mI Mq120 54 32 := rfl
                  exact ⟨_, rfl, hB17, kp16, kp14, kp15, by omega, by omega, by omega, Or.inl ⟨rfl, (gTu_y (S := S) (g := gR M) (q := gR Mq120) hdu (g120i0.trans (by rw [show (41 - mI Mq120 54 27).toNat = (40 - mI Mq120 54 27).toNat + 1 by omega]; exact gTk_0 (by omega))) (by first | exact Or.inl (hwh.mp (by omega)) | exact Or.inr (by rcases hct with h2 | h2; (exact h2.2); (exfalso; omega)))).trans (by rw [show (gR M).2.1 = mI M 54 25 from rfl, ← hsd]; rfl)⟩, g120i5⟩
                · refine vc_aload_n dX12_goTurn_205 rfl ?_
                  refine vc_iload dX12_goTurn_206 rfl ?_
                  refine vc_iload_n dX12_goTurn_208 rfl ?_
                  refine vc_cVI dX12_goTurn_209 (sfX12_isCountedF (M := Mq120) hQ120.1 S x11 s (by omega) (by omega) (by omega) (by omega) (by exact hTq) (by exact g120i5)) rfl okX12_isCounted viX12_isCounted lkX12_352 (s_54 hQ120.1.1) cl_12 rfl (Nat.le_of_ble_eq_true rfl) ⟨rfl, rfl⟩ (Nat.le_of_ble_eq_true rfl) (Nat.le_of_ble_eq_true rfl) (Nat.le_of_ble_eq_true rfl) ?_
                  rintro x22 _ ⟨rfl, h23, h24, h25⟩
                  have hct : (x22 = 1 ∧ cntS S (mI Mq120 54 24) (sdS (mI M 54 25) (mnS t s / 100)) (laS s)) ∨ (x22 = 0 ∧ ¬ cntS S (mI Mq120 54 24) (sdS (mI M 54 25) (mnS t s / 100)) (laS s)) := by rw [← hsd]; exact h25
                  refine vc_if_ne dX12_goTurn_212 (fun h26 => ?_) (fun h26 => ?_)
                  · refine vc_aload_n dX12_goTurn_217 rfl ?_
                    refine vc_iload dX12_goTurn_218 rfl ?_
                    refine vc_putI dX12_goTurn_220 (plX12_324 _ rfl) (s_54 hQ120.1.1) rfl ?_
                    have kp27 : mI (sI Mq120 54 25 x11) 57 = mI M 57 := (kp_sI kp120_57 rfl)
                    have kp28 : mI (sI Mq120 54 25 x11) 63 = mI M 63 := (kp_sI kp120_63 rfl)
                    have kp29 : mI (sI Mq120 54 25 x11) 55 = mI M 55 := (kp_sI kp120_55 rfl)
                    have hB30 : BF fS M (sI Mq120 54 25 x11) := BF.w54_25 hQ120 rfl (by omega) (by omega)
                    refine vc_iconst dX12_goTurn_223 rfl ?_
                    refine vc_zret dX12_goTurn_224 rfl (by first | decide | omega) (Nat.le_of_ble_eq_true rfl) (Nat.le_of_ble_eq_true rfl) ?_
                    have k31 : mI (sI Mq120 54 25 x11) 54 24 = mI Mq120 54 24 := rfl
                    have k32 : mI (sI Mq120 54 25 x11) 54 25 = x11 := rfl
                    have k33 : mI (sI Mq120 54 25 x11) 54 27 = mI Mq120 54 27 := rfl
                    have k34 : mI (sI Mq120 54 25 x11) 54 32 = mI Mq120 54 32 := rfl
                    exact ⟨_, rfl, hB30, kp29, kp27, kp28, by omega, by omega, by omega, Or.inl ⟨rfl, (gTu_y (S := S) (g := gR M) (q := gR Mq120) hdu (g120i0.trans (by rw [show (41 - mI Mq120 54 27).toNat = (40 - mI Mq120 54 27).toNat + 1 by omega]; exact gTk_0 (by omega))) (by first | exact Or.inl (hwh.mp (by omega)) | exact Or.inr (by rcases hct with h2 | h2; (exact h2.2); (exfalso; omega)))).trans (by rw [show (gR M).2.1 = mI M 54 25 from rfl, ← hsd]; rfl)⟩, g120i5⟩
                  · refine vc_iconst dX12_goTurn_215 rfl ?_
                    refine vc_zret dX12_goTurn_216 rfl (by first | decide | omega) (Nat.le_of_ble_eq_true rfl) (Nat.le_of_ble_eq_true rfl) ?_
                    exact ⟨_, rfl, hQ120, kp120_55, kp120_57, kp120_63, by omega, by omega, by omega, Or.inr ⟨rfl, gTu_n (S := S) (g := gR M) (q := gR Mq120) hdu (g120i0.trans (by rw [show (41 - mI Mq120 54 27).toNat = (40 - mI Mq120 54 27).toNat + 1 by omega]; exact gTk_0 (by omega))) (by rintro (h | h); (have h9 := hwh.mpr h; omega); (rcases hct with h2 | h2; (exfalso; omega); (exact h2.2 h)))⟩, g120i5⟩
              · have hTq : TA (mI Mq120 55) S := by rw [kp120_55]; exact p5
                refine vc_aload_n dX12_goTurn_125 rfl ?_
                refine vc_cVI dX12_goTurn_126 (sfX12_goOnF (M := Mq120) hQ120.1 S  (by exact hTq) (by exact g120i5) (by rw [kp120_57]; exact p7) (by exact p8)) rfl okX12_goOn viX12_goOn lkX12_348 (s_54 hQ120.1.1) cl_12 rfl (Nat.le_of_ble_eq_true rfl) ⟨rfl, rfl⟩ (Nat.le_of_ble_eq_true rfl) (Nat.le_of_ble_eq_true rfl) (Nat.le_of_ble_eq_true rfl) ?_
                rintro x35 M36 ⟨hB37, kp38, kp39, kp40, h41, h42, h43, h44, h45, h46⟩
                have hB47 : BF fS M M36 := BF.go hQ120 hB37
                have kp48 : mI M36 57 = mI M 57 := kp_go kp120_57 kp39
                have kp49 : mI M36 63 = mI M 63 := kp_go kp120_63 kp40
                have kp50 : mI M36 55 = mI M 55 := kp_go kp120_55 kp38
                have hgn := h45
                have hlt := h46
                have hTN : TA (mI M36 55) S := by rw [kp50]; exact p5
                have kz := b54_27 (M := M36) hB47.1
                have kz4 := b54_24 (M := M36) hB47.1
                refine vc_if_ne dX12_goTurn_129 (fun h51 => ?_) (fun h51 => ?_)
                · have hgy : gOn S (gR Mq120) = (gR M36, true) := by rcases hgn with h | h; (exact h.2); (exfalso; omega)
                  have hgno : ¬ gNo S (gR Mq120) := fun e => by rw [gOn_n e] at hgy; exact Bool.false_ne_true (congrArg Prod.snd hgy)
                  have hgx : gR M36 = gNx S (gR Mq120) := by rw [gOn_y hgno] at hgy; exact (congrArg Prod.fst hgy).symm
                  have hgc : mI M36 54 27 = mI Mq120 54 27 + 1 := congrArg (fun g : Gw => g.2.2.1) hgx
                  have hgf : mI M36 54 25 = mI Mq120 54 25 := congrArg (fun g : Gw => g.2.1) hgx
                  refine vc_iload dX12_goTurn_134 rfl ?_
                  refine vc_if_ne dX12_goTurn_136 (fun h52 => by exfalso; omega) (fun h52 => ?_)
                  refine vc_iload_n dX12_goTurn_139 rfl ?_
                  refine vc_iconst dX12_goTurn_140 rfl ?_
                  refine vc_icmp_eq dX12_goTurn_141 (fun h53 => ?_) (fun h53 => ?_)
                  · have hP : gCt S (mnS t s) (sdS (mI M 54 25) (mnS t s / 100)) (laS s) (mI M36 54 24) := by unfold gCt; rw [hmd.2.1]; first | exact Or.inl ⟨by omega, by omega⟩ | exact Or.inr ⟨by omega, Or.inl (hwh.mp (by omega))⟩ | exact Or.inr ⟨by omega, Or.inr (by rcases hct with h | h; (exact h.2); (exfalso; omega))⟩
                    refine vc_iincE dX12_goTurn_154 rfl (by omega) (by omega) (by decide) rfl (show _ = [some (aR 54), none, some (aI s), some (aI x1), some (aI x2), some (aI 0), none, some (aI x11), some (aI (v8 + 1)), some (aI v9)] from rfl) ?_
                    refine vc_iload dX12_goTurn_157 rfl ?_
                    refine vc_if_eq dX12_goTurn_159 (fun h54 => ?_) (fun h54 => by exfalso; omega)
                    refine vc_iload dX12_goTurn_183 rfl ?_
                    refine vc_iload dX12_goTurn_185 rfl ?_
                    refine vc_icmp_ne dX12_goTurn_187 (fun h55 => ?_) (fun h55 => ?_)
                    · refine vc_iconst dX12_goTurn_194 rfl ?_
                      refine vc_istore dX12_goTurn_195 (by decide) rfl (show _ = [some (aR 54), none, some (aI s), some (aI x1), some (aI x2), some (aI 0), none, some (aI x11), some (aI (v8 + 1)), some (aI 0)] from rfl) ?_
                      refine vc_goto dX12_goTurn_197 ?_
                      exact ih120 M36 (v8 + 1) 0 hB47 kp48 kp49 kp50 (by omega) (by omega) (by omega) (by omega) (by first | (rw [Int.sub_zero]; done) | (show gTk _ _ _ _ _ = gTk _ _ _ (1 - 0) _; rfl) | (rw [g120i0, show (41 - mI Mq120 54 27).toNat = (41 - mI M36 54 27).toNat + 1 by omega]; first | (rw [gTk_y (by omega) hgno (by rw [← hgx]; exact hP), ← hgx]; first | done | (congr 1; omega) | rfl) | (rw [gTk_n (by omega) hgno (by rw [← hgx]; exact hP), ← hgx]; first | done | (congr 1; omega) | rfl))) (by omega) (by omega) (by omega) (by omega) (by omega) (by omega) (by omega)
                    · refine vc_iconst dX12_goTurn_190 rfl ?_
                      refine vc_goto dX12_goTurn_191 ?_
                      refine vc_istore dX12_goTurn_195 (by decide) rfl (show _ = [some (aR 54), none, some (aI s), some (aI x1), some (aI x2), some (aI 0), none, some (aI x11), some (aI (v8 + 1)), some (aI 1)] from rfl) ?_
                      refine vc_goto dX12_goTurn_197 ?_
                      exact ih120 M36 (v8 + 1) 1 hB47 kp48 kp49 kp50 (by omega) (by omega) (by omega) (by omega) (by first | (rw [Int.sub_zero]; done) | (show gTk _ _ _ _ _ = gTk _ _ _ (1 - 0) _; rfl) | (rw [g120i0, show (41 - mI Mq120 54 27).toNat = (41 - mI M36 54 27).toNat + 1 by omega]; first | (rw [gTk_y (by omega) hgno (by rw [← hgx]; exact hP), ← hgx]; first | done | (congr 1; omega) | rfl) | (rw [gTk_n (by omega) hgno (by rw [← hgx]; exact hP), ← hgx]; first | done | (congr 1; omega) | rfl))) (by omega) (by omega) (by omega) (by omega) (by omega) (by omega) (by omega)
                  · refine vc_aload_n dX12_goTurn_144 rfl ?_
                    refine vc_iload dX12_goTurn_145 rfl ?_
                    refine vc_iload_n dX12_goTurn_147 rfl ?_
                    refine vc_cVI dX12_goTurn_148 (sfX12_isCountedF (M := M36) hB47.1 S x11 s (by omega) (by omega) (by omega) (by omega) (by exact hTN) (by exact hlt)) rfl okX12_isCounted viX12_isCounted lkX12_352 (s_54 hB47.1.1) cl_12 rfl (Nat.le_of_ble_eq_true rfl) ⟨rfl, rfl⟩ (Nat.le_of_ble_eq_true rfl) (Nat.le_of_ble_eq_true rfl) (Nat.le_of_ble_eq_true rfl) ?_
                    rintro x56 _ ⟨rfl, h57, h58, h59⟩
                    have hct : (x56 = 1 ∧ cntS S (mI M36 54 24) (sdS (mI M 54 25) (mnS t s / 100)) (laS s)) ∨ (x56 = 0 ∧ ¬ cntS S (mI M36 54 24) (sdS (mI M 54 25) (mnS t s / 100)) (laS s)) := by rw [← hsd]; exact h59
                    refine vc_if_eq dX12_goTurn_151 (fun h60 => ?_) (fun h60 => ?_)
                    · have hP : ¬ gCt S (mnS t s) (sdS (mI M 54 25) (mnS t s / 100)) (laS s) (mI M36 54 24) := by unfold gCt; rw [hmd.2.1]; rintro (⟨h1, h2⟩ | ⟨h1, h2 | h2⟩) <;> first | omega | (have h3 := hwh.mpr h2; omega) | (rcases hct with h | h; (exfalso; omega); (exact h.2 h2))
                      refine vc_iload dX12_goTurn_157 rfl ?_
                      refine vc_if_eq dX12_goTurn_159 (fun h61 => ?_) (fun h61 => by exfalso; omega)
                      refine vc_iload dX12_goTurn_183 rfl ?_
                      refine vc_iload dX12_goTurn_185 rfl ?_
                      refine vc_icmp_ne dX12_goTurn_187 (fun h62 => ?_) (fun h62 => ?_)
                      · refine vc_iconst dX12_goTurn_194 rfl ?_
                        refine vc_istore dX12_goTurn_195 (by decide) rfl (show _ = [some (aR 54), none, some (aI s), some (aI x1), some (aI x2), some (aI 0), none, some (aI x11), some (aI v8), some (aI 0)] from rfl) ?_
                        refine vc_goto dX12_goTurn_197 ?_
                        exact ih120 M36 v8 0 hB47 kp48 kp49 kp50 (by omega) (by omega) (by omega) (by omega) (by first | (rw [Int.sub_zero]; done) | (show gTk _ _ _ _ _ = gTk _ _ _ (1 - 0) _; rfl) | (rw [g120i0, show (41 - mI Mq120 54 27).toNat = (41 - mI M36 54 27).toNat + 1 by omega]; first | (rw [gTk_y (by omega) hgno (by rw [← hgx]; exact hP), ← hgx]; first | done | (congr 1; omega) | rfl) | (rw [gTk_n (by omega) hgno (by rw [← hgx]; exact hP), ← hgx]; first | done | (congr 1; omega) | rfl))) (by omega) (by omega) (by omega) (by omega) (by omega) (by omega) (by omega)
                      · refine vc_iconst dX12_goTurn_190 rfl ?_
                        refine vc_goto dX12_goTurn_191 ?_
                        refine vc_istore dX12_goTurn_195 (by decide) rfl (show _ = [some (aR 54), none, some (aI s), some (aI x1), some (aI x2), some (aI 0), none, some (aI x11), some (aI v8), some (aI 1)] from rfl) ?_
                        refine vc_goto dX12_goTurn_197 ?_
                        exact ih120 M36 v8 1 hB47 kp48 kp49 kp50 (by omega) (by omega) (by omega) (by omega) (by first | (rw [Int.sub_zero]; done) | (show gTk _ _ _ _ _ = gTk _ _ _ (1 - 0) _; rfl) | (rw [g120i0, show (41 - mI Mq120 54 27).toNat = (41 - mI M36 54 27).toNat + 1 by omega]; first | (rw [gTk_y (by omega) hgno (by rw [← hgx]; exact hP), ← hgx]; first | done | (congr 1; omega) | rfl) | (rw [gTk_n (by omega) hgno (by rw [← hgx]; exact hP), ← hgx]; first | done | (congr 1; omega) | rfl))) (by omega) (by omega) (by omega) (by omega) (by omega) (by omega) (by omega)
                    · have hP : gCt S (mnS t s) (sdS (mI M 54 25) (mnS t s / 100)) (laS s) (mI M36 54 24) := by unfold gCt; rw [hmd.2.1]; first | exact Or.inl ⟨by omega, by omega⟩ | exact Or.inr ⟨by omega, Or.inl (hwh.mp (by omega))⟩ | exact Or.inr ⟨by omega, Or.inr (by rcases hct with h | h; (exact h.2); (exfalso; omega))⟩
                      refine vc_iincE dX12_goTurn_154 rfl (by omega) (by omega) (by decide) rfl (show _ = [some (aR 54), none, some (aI s), some (aI x1), some (aI x2), some (aI 0), none, some (aI x11), some (aI (v8 + 1)), some (aI v9)] from rfl) ?_
                      refine vc_iload dX12_goTurn_157 rfl ?_
                      refine vc_if_eq dX12_goTurn_159 (fun h63 => ?_) (fun h63 => by exfalso; omega)
                      refine vc_iload dX12_goTurn_183 rfl ?_
                      refine vc_iload dX12_goTurn_185 rfl ?_
                      refine vc_icmp_ne dX12_goTurn_187 (fun h64 => ?_) (fun h64 => ?_)
                      · refine vc_iconst dX12_goTurn_194 rfl ?_
                        refine vc_istore dX12_goTurn_195 (by decide) rfl (show _ = [some (aR 54), none, some (aI s), some (aI x1), some (aI x2), some (aI 0), none, some (aI x11), some (aI (v8 + 1)), some (aI 0)] from rfl) ?_
                        refine vc_goto dX12_goTurn_197 ?_
                        exact ih120 M36 (v8 + 1) 0 hB47 kp48 kp49 kp50 (by omega) (by omega) (by omega) (by omega) (by first | (rw [Int.sub_zero]; done) | (show gTk _ _ _ _ _ = gTk _ _ _ (1 - 0) _; rfl) | (rw [g120i0, show (41 - mI Mq120 54 27).toNat = (41 - mI M36 54 27).toNat + 1 by omega]; first | (rw [gTk_y (by omega) hgno (by rw [← hgx]; exact hP), ← hgx]; first | done | (congr 1; omega) | rfl) | (rw [gTk_n (by omega) hgno (by rw [← hgx]; exact hP), ← hgx]; first | done | (congr 1; omega) | rfl))) (by omega) (by omega) (by omega) (by omega) (by omega) (by omega) (by omega)
                      · refine vc_iconst dX12_goTurn_190 rfl ?_
                        refine vc_goto dX12_goTurn_191 ?_
                        refine vc_istore dX12_goTurn_195 (by decide) rfl (show _ = [some (aR 54), none, some (aI s), some (aI x1), some (aI x2), some (aI 0), none, some (aI x11), some (aI (v8 + 1)), some (aI 1)] from rfl) ?_
                        refine vc_goto dX12_goTurn_197 ?_
                        exact ih120 M36 (v8 + 1) 1 hB47 kp48 kp49 kp50 (by omega) (by omega) (by omega) (by omega) (by first | (rw [Int.sub_zero]; done) | (show gTk _ _ _ _ _ = gTk _ _ _ (1 - 0) _; rfl) | (rw [g120i0, show (41 - mI Mq120 54 27).toNat = (41 - mI M36 54 27).toNat + 1 by omega]; first | (rw [gTk_y (by omega) hgno (by rw [← hgx]; exact hP), ← hgx]; first | done | (congr 1; omega) | rfl) | (rw [gTk_n (by omega) hgno (by rw [← hgx]; exact hP), ← hgx]; first | done | (congr 1; omega) | rfl))) (by omega) (by omega) (by omega) (by omega) (by omega) (by omega) (by omega)
                · refine vc_iconst dX12_goTurn_132 rfl ?_
                  refine vc_zret dX12_goTurn_133 rfl (by first | decide | omega) (Nat.le_of_ble_eq_true rfl) (Nat.le_of_ble_eq_true rfl) ?_
                  have hgf2 : gOn S (gR Mq120) = (gR M36, false) := by rcases hgn with h | h; (exfalso; omega); (exact h.2)
                  have hgno : gNo S (gR Mq120) := by by_cases e : gNo S (gR Mq120); (exact e); (rw [gOn_y e] at hgf2; exact absurd (congrArg Prod.snd hgf2).symm Bool.false_ne_true)
                  have hgx : gR M36 = gR Mq120 := by rw [gOn_n hgno] at hgf2; exact (congrArg Prod.fst hgf2).symm
                  exact ⟨_, rfl, hB47, kp50, kp48, kp49, by omega, by omega, by omega, Or.inr ⟨rfl, by rw [hgx]; exact gTu_f (S := S) (g := gR M) hdu (g120i0.trans (by rw [show (41 - mI Mq120 54 27).toNat = (40 - mI Mq120 54 27).toNat + 1 by omega]; exact gTk_f (by omega) hgno))⟩, hlt⟩
          refine vc_less [some (aR 54), none, some (aI s), some (aI x1), some (aI x2), some (aI 0), none, some (aI x11), some (aI 0), some (aI 0)] (lessL_keep (lessL_drop (lessL_keep (lessL_keep (lessL_keep (lessL_keep (lessL_drop (lessL_keep (lessL_keep (lessL_keep (lessL_nil))))))))))) ?_
          exact lp120 _ M 0 0 hB0 rfl rfl rfl (by omega) (by omega) (by omega) (by omega) (by first | (rw [Int.sub_zero]; done) | (show gTk _ _ _ _ _ = gTk _ _ _ (1 - 0) _; rfl) | (rw [g120i0, show (41 - mI Mq120 54 27).toNat = (41 - mI M36 54 27).toNat + 1 by omega]; first | (rw [gTk_y (by omega) hgno (by rw [← hgx]; exact hP), ← hgx]; first | done | (congr 1; omega) | rfl) | (rw [gTk_n (by omega) hgno (by rw [← hgx]; exact hP), ← hgx]; first | done | (congr 1; omega) | rfl))) (by omega) (by omega) (by omega) (by omega) (by omega) (by omega) (Nat.lt_succ_self _)
        · refine vc_aload_n dX12_goTurn_88 rfl ?_
          refine vc_getI dX12_goTurn_89 flX12_324 (s_54 hB0.1.1) rfl ?_
          have k65 : 0 ≤ mI M 54 25 ∧ mI M 54 25 ≤ 3 := b54_25 (M := M) hB0.1
          refine vc_goto dX12_goTurn_92 ?_
          refine vc_nameI (fun x66 ex66 => ?_)
          refine vc_istore dX12_goTurn_112 (by decide) rfl (show _ = [some (aR 54), some (aI t), some (aI s), some (aI x1), some (aI x2), some (aI 0), some (aI 1), some (aI x66), none, none] from rfl) ?_
          have hsd : x66 = (sdS (mI M 54 25) (mnS t s / 100)) := by unfold sdS; rw [hmd.1]; by_cases e1 : s % 2 ≠ 0 ∧ t / 100 ≠ 3; (rw [if_pos e1]; first | (exfalso; omega) | (rw [if_pos (by omega)]; first | done | omega) | (rw [if_neg (by omega), if_pos (by omega)]; first | done | omega) | (rw [if_neg (by omega), if_neg (by omega)]; first | done | omega)); (rw [if_neg e1]; first | (exfalso; omega) | (rw [if_pos (by omega)]; first | done | omega) | (rw [if_neg (by omega), if_pos (by omega)]; first | done | omega) | (rw [if_neg (by omega), if_neg (by omega)]; first | done | omega))
          have hdu : ((mnS t s) % 10 : Int) = if (mnS t s) / 10 % 10 = 1 then 1 else (mnS t s) % 10 := by rw [hmd.2.1]; first | (rw [if_pos (by omega)]) | (rw [if_neg (by omega)])
          have hn4 : x2 = (mnS t s) % 10 := by rw [hmd.2.2]; first | (rw [if_pos (by omega)]; omega) | (rw [if_neg (by omega)]; omega)
          have hwh : x1 = 3 ↔ (mnS t s) / 100 = 3 := by rw [mn_3 p4]; omega
          refine vc_iconst dX12_goTurn_114 rfl ?_
          refine vc_istore dX12_goTurn_115 (by decide) rfl (show _ = [some (aR 54), some (aI t), some (aI s), some (aI x1), some (aI x2), some (aI 0), some (aI 1), some (aI x66), some (aI 0), none] from rfl) ?_
          refine vc_iconst dX12_goTurn_117 rfl ?_
          refine vc_istore dX12_goTurn_118 (by decide) rfl (show _ = [some (aR 54), some (aI t), some (aI s), some (aI x1), some (aI x2), some (aI 0), some (aI 1), some (aI x66), some (aI 0), some (aI 0)] from rfl) ?_
          have lp120 : ∀ (n120 : Nat) (Mq120 : Mem) (v8 : Int) (v9 : Int), (BF fS M Mq120) → (mI Mq120 57 = mI M 57) → (mI Mq120 63 = mI M 63) → (mI Mq120 55 = mI M 55) → (0 ≤ v8) → (v8 ≤ 9) → (0 ≤ v9) → (v9 ≤ 1) → (gTk S (gCt S (mnS t s) (sdS (mI M 54 25) (mnS t s / 100)) (laS s)) (41 - mI M 54 27).toNat ((mnS t s) % 10) (gR M) = gTk S (gCt S (mnS t s) (sdS (mI M 54 25) (mnS t s / 100)) (laS s)) (41 - mI Mq120 54 27).toNat ((mnS t s) % 10 - v8) (gR Mq120)) → (mI Mq120 54 25 = mI M 54 25) → (mI Mq120 54 32 = mI M 54 32) → (0 ≤ mI Mq120 54 27) → (mI Mq120 54 27 ≤ 40) → (mI Mq120 54 24 < S 1 6) → ((v9 = 1 ∧ v8 = (mnS t s) % 10) ∨ (v9 = 0 ∧ v8 < (mnS t s) % 10)) → (40 - mI Mq120 54 27).toNat < n120 → VC l mdX12_goTurn 120 [some (aR 54), none, some (aI s), some (aI x1), some (aI x2), some (aI 0), none, some (aI x66), some (aI v8), some (aI v9)] [] Mq120 0 0 (fun q N => ∃ r : Int, q = some (aI r) ∧ BF fS M N ∧ mI N 55 = mI M 55 ∧ mI N 57 = mI M 57 ∧ mI N 63 = mI M 63 ∧ 0 ≤ r ∧ r ≤ 1 ∧ mI N 54 32 = mI M 54 32 ∧ ((r = 1 ∧ gTu S (mnS t s) (laS s) (gR M) = (gR N, true)) ∨ (r = 0 ∧ gTu S (mnS t s) (laS s) (gR M) = (gR N, false))) ∧ mI N 54 24 < S 1 6) := by
            intro n120
            induction n120 with
            | zero => intro Mq120 v8 v9 hQ120 kp120_57 kp120_63 kp120_55 g120_8a g120_8b g120_9a g120_9b g120i0 g120i1 g120i2 g120i3 g120i4 g120i5 g120i6 hm120; exact absurd hm120 (Nat.not_lt_zero _)
            | succ n120 ih120 =>
              intro Mq120 v8 v9 hQ120 kp120_57 kp120_63 kp120_55 g120_8a g120_8b g120_9a g120_9b g120i0 g120i1 g120i2 g120i3 g120i4 g120i5 g120i6 hm120
              refine vc_iload dX12_goTurn_120 rfl ?_
              refine vc_if_ne dX12_goTurn_122 (fun h67 => ?_) (fun h67 => ?_)
              · have hTq : TA (mI Mq120 55) S := by rw [kp120_55]; exact p5
                refine vc_iload_n dX12_goTurn_200 rfl ?_
                refine vc_iconst dX12_goTurn_201 rfl ?_
                refine vc_icmp_eq dX12_goTurn_202 (fun h68 => ?_) (fun h68 => by exfalso; omega)
                refine vc_aload_n dX12_goTurn_217 rfl ?_
                refine vc_iload dX12_goTurn_218 rfl ?_
                refine vc_putI dX12_goTurn_220 (plX12_324 _ rfl) (s_54 hQ120.1.1) rfl ?_
                have kp69 : mI (sI Mq120 54 25 x66) 57 = mI M 57 := (kp_sI kp120_57 rfl)
                have kp70 : mI (sI Mq120 54 25 x66) 63 = mI M 63 := (kp_sI kp120_63 rfl)
                have kp71 : mI (sI Mq120 54 25 x66) 55 = mI M 55 := (kp_sI kp120_55 rfl)
                have hB72 : BF fS M (sI Mq120 54 25 x66) := BF.w54_25 hQ120 rfl (by omega) (by omega)
                refine vc_iconst dX12_goTurn_223 rfl ?_
                refine vc_zret dX12_goTurn_224 rfl (by first | decide | omega) (Nat.le_of_ble_eq_true rfl) (Nat.le_of_ble_eq_true rfl) ?_
                have k73 : mI (sI Mq120 54 25 x66) 54 24 = mI Mq120 54 24 := rfl
                have k74 : mI (sI Mq120 54 25 x66) 54 25 = x66 := rfl
                have k75 : mI (sI Mq120 54 25 x66) 54 27 = mI Mq120 54 27 := rfl
                have k76 : mI (sI Mq120 54 25 x66) 54 32 = mI Mq120 54 32 := rfl
                exact ⟨_, rfl, hB72, kp71, kp69, kp70, by omega, by omega, by omega, Or.inl ⟨rfl, (gTu_y (S := S) (g := gR M) (q := gR Mq120) hdu (g120i0.trans (by rw [show (41 - mI Mq120 54 27).toNat = (40 - mI Mq120 54 27).toNat + 1 by omega]; exact gTk_0 (by omega))) (by first | exact Or.inl (hwh.mp (by omega)) | exact Or.inr (by rcases hct with h2 | h2; (exact h2.2); (exfalso; omega)))).trans (by rw [show (gR M).2.1 = mI M 54 25 from rfl, ← hsd]; rfl)⟩, g120i5⟩
              · have hTq : TA (mI Mq120 55) S := by rw [kp120_55]; exact p5
                refine vc_aload_n dX12_goTurn_125 rfl ?_
                refine vc_cVI dX12_goTurn_126 (sfX12_goOnF (M := Mq120) hQ120.1 S  (by exact hTq) (by exact g120i5) (by rw [kp120_57]; exact p7) (by exact p8)) rfl okX12_goOn viX12_goOn lkX12_348 (s_54 hQ120.1.1) cl_12 rfl (Nat.le_of_ble_eq_true rfl) ⟨rfl, rfl⟩ (Nat.le_of_ble_eq_true rfl) (Nat.le_of_ble_eq_true rfl) (Nat.le_of_ble_eq_true rfl) ?_
                rintro x77 M78 ⟨hB79, kp80, kp81, kp82, h83, h84, h85, h86, h87, h88⟩
                have hB89 : BF fS M M78 := BF.go hQ120 hB79
                have kp90 : mI M78 57 = mI M 57 := kp_go kp120_57 kp81
                have kp91 : mI M78 63 = mI M 63 := kp_go kp120_63 kp82
                have kp92 : mI M78 55 = mI M 55 := kp_go kp120_55 kp80
                have hgn := h87
                have hlt := h88
                have hTN : TA (mI M78 55) S := by rw [kp92]; exact p5
                have kz := b54_27 (M := M78) hB89.1
                have kz4 := b54_24 (M := M78) hB89.1
                refine vc_if_ne dX12_goTurn_129 (fun h93 => ?_) (fun h93 => ?_)
                · have hgy : gOn S (gR Mq120) = (gR M78, true) := by rcases hgn with h | h; (exact h.2); (exfalso; omega)
                  have hgno : ¬ gNo S (gR Mq120) := fun e => by rw [gOn_n e] at hgy; exact Bool.false_ne_true (congrArg Prod.snd hgy)
                  have hgx : gR M78 = gNx S (gR Mq120) := by rw [gOn_y hgno] at hgy; exact (congrArg Prod.fst hgy).symm
                  have hgc : mI M78 54 27 = mI Mq120 54 27 + 1 := congrArg (fun g : Gw => g.2.2.1) hgx
                  have hgf : mI M78 54 25 = mI Mq120 54 25 := congrArg (fun g : Gw => g.2.1) hgx
                  refine vc_iload dX12_goTurn_134 rfl ?_
                  refine vc_if_ne dX12_goTurn_136 (fun h94 => by exfalso; omega) (fun h94 => ?_)
                  refine vc_iload_n dX12_goTurn_139 rfl ?_
                  refine vc_iconst dX12_goTurn_140 rfl ?_
                  refine vc_icmp_eq dX12_goTurn_141 (fun h95 => ?_) (fun h95 => by exfalso; omega)
                  have hP : gCt S (mnS t s) (sdS (mI M 54 25) (mnS t s / 100)) (laS s) (mI M78 54 24) := by unfold gCt; rw [hmd.2.1]; first | exact Or.inl ⟨by omega, by omega⟩ | exact Or.inr ⟨by omega, Or.inl (hwh.mp (by omega))⟩ | exact Or.inr ⟨by omega, Or.inr (by rcases hct with h | h; (exact h.2); (exfalso; omega))⟩
                  refine vc_iincE dX12_goTurn_154 rfl (by omega) (by omega) (by decide) rfl (show _ = [some (aR 54), none, some (aI s), some (aI x1), some (aI x2), some (aI 0), none, some (aI x66), some (aI (v8 + 1)), some (aI v9)] from rfl) ?_
                  refine vc_iload dX12_goTurn_157 rfl ?_
                  refine vc_if_eq dX12_goTurn_159 (fun h96 => ?_) (fun h96 => by exfalso; omega)
                  refine vc_iload dX12_goTurn_183 rfl ?_
                  refine vc_iload dX12_goTurn_185 rfl ?_
                  refine vc_icmp_ne dX12_goTurn_187 (fun h97 => ?_) (fun h97 => ?_)
                  · refine vc_iconst dX12_goTurn_194 rfl ?_
                    refine vc_istore dX12_goTurn_195 (by decide) rfl (show _ = [some (aR 54), none, some (aI s), some (aI x1), some (aI x2), some (aI 0), none, some (aI x66), some (aI (v8 + 1)), some (aI 0)] from rfl) ?_
                    refine vc_goto dX12_goTurn_197 ?_
                    exact ih120 M78 (v8 + 1) 0 hB89 kp90 kp91 kp92 (by omega) (by omega) (by omega) (by omega) (by first | (rw [Int.sub_zero]; done) | (show gTk _ _ _ _ _ = gTk _ _ _ (1 - 0) _; rfl) | (rw [g120i0, show (41 - mI Mq120 54 27).toNat = (41 - mI M78 54 27).toNat + 1 by omega]; first | (rw [gTk_y (by omega) hgno (by rw [← hgx]; exact hP), ← hgx]; first | done | (congr 1; omega) | rfl) | (rw [gTk_n (by omega) hgno (by rw [← hgx]; exact hP), ← hgx]; first | done | (congr 1; omega) | rfl))) (by omega) (by omega) (by omega) (by omega) (by omega) (by omega) (by omega)
                  · refine vc_iconst dX12_goTurn_190 rfl ?_
                    refine vc_goto dX12_goTurn_191 ?_
                    refine vc_istore dX12_goTurn_195 (by decide) rfl (show _ = [some (aR 54), none, some (aI s), some (aI x1), some (aI x2), some (aI 0), none, some (aI x66), some (aI (v8 + 1)), some (aI 1)] from rfl) ?_
                    refine vc_goto dX12_goTurn_197 ?_
                    exact ih120 M78 (v8 + 1) 1 hB89 kp90 kp91 kp92 (by omega) (by omega) (by omega) (by omega) (by first | (rw [Int.sub_zero]; done) | (show gTk _ _ _ _ _ = gTk _ _ _ (1 - 0) _; rfl) | (rw [g120i0, show (41 - mI Mq120 54 27).toNat = (41 - mI M78 54 27).toNat + 1 by omega]; first | (rw [gTk_y (by omega) hgno (by rw [← hgx]; exact hP), ← hgx]; first | done | (congr 1; omega) | rfl) | (rw [gTk_n (by omega) hgno (by rw [← hgx]; exact hP), ← hgx]; first | done | (congr 1; omega) | rfl))) (by omega) (by omega) (by omega) (by omega) (by omega) (by omega) (by omega)
                · refine vc_iconst dX12_goTurn_132 rfl ?_
                  refine vc_zret dX12_goTurn_133 rfl (by first | decide | omega) (Nat.le_of_ble_eq_true rfl) (Nat.le_of_ble_eq_true rfl) ?_
                  have hgf2 : gOn S (gR Mq120) = (gR M78, false) := by rcases hgn with h | h; (exfalso; omega); (exact h.2)
                  have hgno : gNo S (gR Mq120) := by by_cases e : gNo S (gR Mq120); (exact e); (rw [gOn_y e] at hgf2; exact absurd (congrArg Prod.snd hgf2).symm Bool.false_ne_true)
                  have hgx : gR M78 = gR Mq120 := by rw [gOn_n hgno] at hgf2; exact (congrArg Prod.fst hgf2).symm
                  exact ⟨_, rfl, hB89, kp92, kp90, kp91, by omega, by omega, by omega, Or.inr ⟨rfl, by rw [hgx]; exact gTu_f (S := S) (g := gR M) hdu (g120i0.trans (by rw [show (41 - mI Mq120 54 27).toNat = (40 - mI Mq120 54 27).toNat + 1 by omega]; exact gTk_f (by omega) hgno))⟩, hlt⟩
          refine vc_less [some (aR 54), none, some (aI s), some (aI x1), some (aI x2), some (aI 0), none, some (aI x66), some (aI 0), some (aI 0)] (lessL_keep (lessL_drop (lessL_keep (lessL_keep (lessL_keep (lessL_keep (lessL_drop (lessL_keep (lessL_keep (lessL_keep (lessL_nil))))))))))) ?_
          exact lp120 _ M 0 0 hB0 rfl rfl rfl (by omega) (by omega) (by omega) (by omega) (by first | (rw [Int.sub_zero]; done) | (show gTk _ _ _ _ _ = gTk _ _ _ (1 - 0) _; rfl) | (rw [g120i0, show (41 - mI Mq120 54 27).toNat = (41 - mI M78 54 27).toNat + 1 by omega]; first | (rw [gTk_y (by omega) hgno (by rw [← hgx]; exact hP), ← hgx]; first | done | (congr 1; omega) | rfl) | (rw [gTk_n (by omega) hgno (by rw [← hgx]; exact hP), ← hgx]; first | done | (congr 1; omega) | rfl))) (by omega) (by omega) (by omega) (by omega) (by omega) (by omega) (Nat.lt_succ_self _)
      · refine vc_iconst dX12_goTurn_68 rfl ?_
        refine vc_goto dX12_goTurn_69 ?_
        refine vc_icmp_ne dX12_goTurn_73 (fun h98 => ?_) (fun h98 => by exfalso; omega)
        refine vc_iconst dX12_goTurn_80 rfl ?_
        refine vc_istore dX12_goTurn_81 (by decide) rfl (show _ = [some (aR 54), some (aI t), some (aI s), some (aI x1), some (aI x2), some (aI 0), some (aI 0), none, none, none] from rfl) ?_
        refine vc_iload_n dX12_goTurn_83 rfl ?_
        refine vc_iconst dX12_goTurn_84 rfl ?_
        refine vc_icmp_ne dX12_goTurn_85 (fun h99 => ?_) (fun h99 => ?_)
        · refine vc_aload_n dX12_goTurn_95 rfl ?_
          refine vc_getI dX12_goTurn_96 flX12_324 (s_54 hB0.1.1) rfl ?_
          have k100 : 0 ≤ mI M 54 25 ∧ mI M 54 25 ≤ 3 := b54_25 (M := M) hB0.1
          refine vc_iload dX12_goTurn_99 rfl ?_
          refine vc_if_eq dX12_goTurn_101 (fun h101 => ?_) (fun h101 => by exfalso; omega)
          refine vc_iconst dX12_goTurn_108 rfl ?_
          refine vc_iaddE dX12_goTurn_109 (by omega) (by omega) ?_
          refine vc_iconst dX12_goTurn_110 rfl ?_
          refine vc_iremE dX12_goTurn_111 (by omega) (by omega) ?_
          refine vc_nameI (fun x102 ex102 => ?_)
          refine vc_istore dX12_goTurn_112 (by decide) rfl (show _ = [some (aR 54), some (aI t), some (aI s), some (aI x1), some (aI x2), some (aI 0), some (aI 0), some (aI x102), none, none] from rfl) ?_
          have hsd : x102 = (sdS (mI M 54 25) (mnS t s / 100)) := by unfold sdS; rw [hmd.1]; by_cases e1 : s % 2 ≠ 0 ∧ t / 100 ≠ 3; (rw [if_pos e1]; first | (exfalso; omega) | (rw [if_pos (by omega)]; first | done | omega) | (rw [if_neg (by omega), if_pos (by omega)]; first | done | omega) | (rw [if_neg (by omega), if_neg (by omega)]; first | done | omega)); (rw [if_neg e1]; first | (exfalso; omega) | (rw [if_pos (by omega)]; first | done | omega) | (rw [if_neg (by omega), if_pos (by omega)]; first | done | omega) | (rw [if_neg (by omega), if_neg (by omega)]; first | done | omega))
          have hdu : ((mnS t s) % 10 : Int) = if (mnS t s) / 10 % 10 = 1 then 1 else (mnS t s) % 10 := by rw [hmd.2.1]; first | (rw [if_pos (by omega)]) | (rw [if_neg (by omega)])
          have hn4 : x2 = (mnS t s) % 10 := by rw [hmd.2.2]; first | (rw [if_pos (by omega)]; omega) | (rw [if_neg (by omega)]; omega)
          have hwh : x1 = 3 ↔ (mnS t s) / 100 = 3 := by rw [mn_3 p4]; omega
          refine vc_iconst dX12_goTurn_114 rfl ?_
          refine vc_istore dX12_goTurn_115 (by decide) rfl (show _ = [some (aR 54), some (aI t), some (aI s), some (aI x1), some (aI x2), some (aI 0), some (aI 0), some (aI x102), some (aI 0), none] from rfl) ?_
          refine vc_iconst dX12_goTurn_117 rfl ?_
          refine vc_istore dX12_goTurn_118 (by decide) rfl (show _ = [some (aR 54), some (aI t), some (aI s), some (aI x1), some (aI x2), some (aI 0), some (aI 0), some (aI x102), some (aI 0), some (aI 0)] from rfl) ?_
          have lp120 : ∀ (n120 : Nat) (Mq120 : Mem) (v8 : Int) (v9 : Int), (BF fS M Mq120) → (mI Mq120 57 = mI M 57) → (mI Mq120 63 = mI M 63) → (mI Mq120 55 = mI M 55) → (0 ≤ v8) → (v8 ≤ 9) → (0 ≤ v9) → (v9 ≤ 1) → (gTk S (gCt S (mnS t s) (sdS (mI M 54 25) (mnS t s / 100)) (laS s)) (41 - mI M 54 27).toNat ((mnS t s) % 10) (gR M) = gTk S (gCt S (mnS t s) (sdS (mI M 54 25) (mnS t s / 100)) (laS s)) (41 - mI Mq120 54 27).toNat ((mnS t s) % 10 - v8) (gR Mq120)) → (mI Mq120 54 25 = mI M 54 25) → (mI Mq120 54 32 = mI M 54 32) → (0 ≤ mI Mq120 54 27) → (mI Mq120 54 27 ≤ 40) → (mI Mq120 54 24 < S 1 6) → ((v9 = 1 ∧ v8 = (mnS t s) % 10) ∨ (v9 = 0 ∧ v8 < (mnS t s) % 10)) → (40 - mI Mq120 54 27).toNat < n120 → VC l mdX12_goTurn 120 [some (aR 54), none, some (aI s), some (aI x1), some (aI x2), some (aI 0), none, some (aI x102), some (aI v8), some (aI v9)] [] Mq120 0 0 (fun q N => ∃ r : Int, q = some (aI r) ∧ BF fS M N ∧ mI N 55 = mI M 55 ∧ mI N 57 = mI M 57 ∧ mI N 63 = mI M 63 ∧ 0 ≤ r ∧ r ≤ 1 ∧ mI N 54 32 = mI M 54 32 ∧ ((r = 1 ∧ gTu S (mnS t s) (laS s) (gR M) = (gR N, true)) ∨ (r = 0 ∧ gTu S (mnS t s) (laS s) (gR M) = (gR N, false))) ∧ mI N 54 24 < S 1 6) := by
            intro n120
            induction n120 with
            | zero => intro Mq120 v8 v9 hQ120 kp120_57 kp120_63 kp120_55 g120_8a g120_8b g120_9a g120_9b g120i0 g120i1 g120i2 g120i3 g120i4 g120i5 g120i6 hm120; exact absurd hm120 (Nat.not_lt_zero _)
            | succ n120 ih120 =>
              intro Mq120 v8 v9 hQ120 kp120_57 kp120_63 kp120_55 g120_8a g120_8b g120_9a g120_9b g120i0 g120i1 g120i2 g120i3 g120i4 g120i5 g120i6 hm120
              refine vc_iload dX12_goTurn_120 rfl ?_
              refine vc_if_ne dX12_goTurn_122 (fun h103 => ?_) (fun h103 => ?_)
              · have hTq : TA (mI Mq120 55) S := by rw [kp120_55]; exact p5
                refine vc_iload_n dX12_goTurn_200 rfl ?_
                refine vc_iconst dX12_goTurn_201 rfl ?_
                refine vc_icmp_eq dX12_goTurn_202 (fun h104 => ?_) (fun h104 => ?_)
                · refine vc_aload_n dX12_goTurn_217 rfl ?_
                  refine vc_iload dX12_goTurn_218 rfl ?_
                  refine vc_putI dX12_goTurn_220 (plX12_324 _ rfl) (s_54 hQ120.1.1) rfl ?_
                  have kp105 : mI (sI Mq120 54 25 x102) 57 = mI M 57 := (kp_sI kp120_57 rfl)
                  have kp106 : mI (sI Mq120 54 25 x102) 63 = mI M 63 := (kp_sI kp120_63 rfl)
                  have kp107 : mI (sI Mq120 54 25 x102) 55 = mI M 55 := (kp_sI kp120_55 rfl)
                  have hB108 : BF fS M (sI Mq120 54 25 x102) := BF.w54_25 hQ120 rfl (by omega) (by omega)
                  refine vc_iconst dX12_goTurn_223 rfl ?_
                  refine vc_zret dX12_goTurn_224 rfl (by first | decide | omega) (Nat.le_of_ble_eq_true rfl) (Nat.le_of_ble_eq_true rfl) ?_
                  have k109 : mI (sI Mq120 54 25 x102) 54 24 = mI Mq120 54 24 := rfl
                  have k110 : mI (sI Mq120 54 25 x102) 54 25 = x102 := rfl
                  have k111 : mI (sI Mq120 54 25 x102) 54 27 = mI Mq120 54 27 := rfl
                  have k112 : mI (sI Mq120 54 25 x102) 54 32 = mI Mq120 54 32 := rfl
                  exact ⟨_, rfl, hB108, kp107, kp105, kp106, by omega, by omega, by omega, Or.inl ⟨rfl, (gTu_y (S := S) (g := gR M) (q := gR Mq120) hdu (g120i0.trans (by rw [show (41 - mI Mq120 54 27).toNat = (40 - mI Mq120 54 27).toNat + 1 by omega]; exact gTk_0 (by omega))) (by first | exact Or.inl (hwh.mp (by omega)) | exact Or.inr (by rcases hct with h2 | h2; (exact h2.2); (exfalso; omega)))).trans (by rw [show (gR M).2.1 = mI M 54 25 from rfl, ← hsd]; rfl)⟩, g120i5⟩
                · refine vc_aload_n dX12_goTurn_205 rfl ?_
                  refine vc_iload dX12_goTurn_206 rfl ?_
                  refine vc_iload_n dX12_goTurn_208 rfl ?_
                  refine vc_cVI dX12_goTurn_209 (sfX12_isCountedF (M := Mq120) hQ120.1 S x102 s (by omega) (by omega) (by omega) (by omega) (by exact hTq) (by exact g120i5)) rfl okX12_isCounted viX12_isCounted lkX12_352 (s_54 hQ120.1.1) cl_12 rfl (Nat.le_of_ble_eq_true rfl) ⟨rfl, rfl⟩ (Nat.le_of_ble_eq_true rfl) (Nat.le_of_ble_eq_true rfl) (Nat.le_of_ble_eq_true rfl) ?_
                  rintro x113 _ ⟨rfl, h114, h115, h116⟩
                  have hct : (x113 = 1 ∧ cntS S (mI Mq120 54 24) (sdS (mI M 54 25) (mnS t s / 100)) (laS s)) ∨ (x113 = 0 ∧ ¬ cntS S (mI Mq120 54 24) (sdS (mI M 54 25) (mnS t s / 100)) (laS s)) := by rw [← hsd]; exact h116
                  refine vc_if_ne dX12_goTurn_212 (fun h117 => ?_) (fun h117 => ?_)
                  · refine vc_aload_n dX12_goTurn_217 rfl ?_
                    refine vc_iload dX12_goTurn_218 rfl ?_
                    refine vc_putI dX12_goTurn_220 (plX12_324 _ rfl) (s_54 hQ120.1.1) rfl ?_
                    have kp118 : mI (sI Mq120 54 25 x102) 57 = mI M 57 := (kp_sI kp120_57 rfl)
                    have kp119 : mI (sI Mq120 54 25 x102) 63 = mI M 63 := (kp_sI kp120_63 rfl)
                    have kp120 : mI (sI Mq120 54 25 x102) 55 = mI M 55 := (kp_sI kp120_55 rfl)
                    have hB121 : BF fS M (sI Mq120 54 25 x102) := BF.w54_25 hQ120 rfl (by omega) (by omega)
                    refine vc_iconst dX12_goTurn_223 rfl ?_
                    refine vc_zret dX12_goTurn_224 rfl (by first | decide | omega) (Nat.le_of_ble_eq_true rfl) (Nat.le_of_ble_eq_true rfl) ?_
                    have k122 : mI (sI Mq120 54 25 x102) 54 24 = mI Mq120 54 24 := rfl
                    have k123 : mI (sI Mq120 54 25 x102) 54 25 = x102 := rfl
                    have k124 : mI (sI Mq120 54 25 x102) 54 27 = mI Mq120 54 27 := rfl
                    have k125 : mI (sI Mq120 54 25 x102) 54 32 = mI Mq120 54 32 := rfl
                    exact ⟨_, rfl, hB121, kp120, kp118, kp119, by omega, by omega, by omega, Or.inl ⟨rfl, (gTu_y (S := S) (g := gR M) (q := gR Mq120) hdu (g120i0.trans (by rw [show (41 - mI Mq120 54 27).toNat = (40 - mI Mq120 54 27).toNat + 1 by omega]; exact gTk_0 (by omega))) (by first | exact Or.inl (hwh.mp (by omega)) | exact Or.inr (by rcases hct with h2 | h2; (exact h2.2); (exfalso; omega)))).trans (by rw [show (gR M).2.1 = mI M 54 25 from rfl, ← hsd]; rfl)⟩, g120i5⟩
                  · refine vc_iconst dX12_goTurn_215 rfl ?_
                    refine vc_zret dX12_goTurn_216 rfl (by first | decide | omega) (Nat.le_of_ble_eq_true rfl) (Nat.le_of_ble_eq_true rfl) ?_
                    exact ⟨_, rfl, hQ120, kp120_55, kp120_57, kp120_63, by omega, by omega, by omega, Or.inr ⟨rfl, gTu_n (S := S) (g := gR M) (q := gR Mq120) hdu (g120i0.trans (by rw [show (41 - mI Mq120 54 27).toNat = (40 - mI Mq120 54 27).toNat + 1 by omega]; exact gTk_0 (by omega))) (by rintro (h | h); (have h9 := hwh.mpr h; omega); (rcases hct with h2 | h2; (exfalso; omega); (exact h2.2 h)))⟩, g120i5⟩
              · have hTq : TA (mI Mq120 55) S := by rw [kp120_55]; exact p5
                refine vc_aload_n dX12_goTurn_125 rfl ?_
                refine vc_cVI dX12_goTurn_126 (sfX12_goOnF (M := Mq120) hQ120.1 S  (by exact hTq) (by exact g120i5) (by rw [kp120_57]; exact p7) (by exact p8)) rfl okX12_goOn viX12_goOn lkX12_348 (s_54 hQ120.1.1) cl_12 rfl (Nat.le_of_ble_eq_true rfl) ⟨rfl, rfl⟩ (Nat.le_of_ble_eq_true rfl) (Nat.le_of_ble_eq_true rfl) (Nat.le_of_ble_eq_true rfl) ?_
                rintro x126 M127 ⟨hB128, kp129, kp130, kp131, h132, h133, h134, h135, h136, h137⟩
                have hB138 : BF fS M M127 := BF.go hQ120 hB128
                have kp139 : mI M127 57 = mI M 57 := kp_go kp120_57 kp130
                have kp140 : mI M127 63 = mI M 63 := kp_go kp120_63 kp131
                have kp141 : mI M127 55 = mI M 55 := kp_go kp120_55 kp129
                have hgn := h136
                have hlt := h137
                have hTN : TA (mI M127 55) S := by rw [kp141]; exact p5
                have kz := b54_27 (M := M127) hB138.1
                have kz4 := b54_24 (M := M127) hB138.1
                refine vc_if_ne dX12_goTurn_129 (fun h142 => ?_) (fun h142 => ?_)
                · have hgy : gOn S (gR Mq120) = (gR M127, true) := by rcases hgn with h | h; (exact h.2); (exfalso; omega)
                  have hgno : ¬ gNo S (gR Mq120) := fun e => by rw [gOn_n e] at hgy; exact Bool.false_ne_true (congrArg Prod.snd hgy)
                  have hgx : gR M127 = gNx S (gR Mq120) := by rw [gOn_y hgno] at hgy; exact (congrArg Prod.fst hgy).symm
                  have hgc : mI M127 54 27 = mI Mq120 54 27 + 1 := congrArg (fun g : Gw => g.2.2.1) hgx
                  have hgf : mI M127 54 25 = mI Mq120 54 25 := congrArg (fun g : Gw => g.2.1) hgx
                  refine vc_iload dX12_goTurn_134 rfl ?_
                  refine vc_if_ne dX12_goTurn_136 (fun h143 => by exfalso; omega) (fun h143 => ?_)
                  refine vc_iload_n dX12_goTurn_139 rfl ?_
                  refine vc_iconst dX12_goTurn_140 rfl ?_
                  refine vc_icmp_eq dX12_goTurn_141 (fun h144 => ?_) (fun h144 => ?_)
                  · have hP : gCt S (mnS t s) (sdS (mI M 54 25) (mnS t s / 100)) (laS s) (mI M127 54 24) := by unfold gCt; rw [hmd.2.1]; first | exact Or.inl ⟨by omega, by omega⟩ | exact Or.inr ⟨by omega, Or.inl (hwh.mp (by omega))⟩ | exact Or.inr ⟨by omega, Or.inr (by rcases hct with h | h; (exact h.2); (exfalso; omega))⟩
                    refine vc_iincE dX12_goTurn_154 rfl (by omega) (by omega) (by decide) rfl (show _ = [some (aR 54), none, some (aI s), some (aI x1), some (aI x2), some (aI 0), none, some (aI x102), some (aI (v8 + 1)), some (aI v9)] from rfl) ?_
                    refine vc_iload dX12_goTurn_157 rfl ?_
                    refine vc_if_eq dX12_goTurn_159 (fun h145 => ?_) (fun h145 => by exfalso; omega)
                    refine vc_iload dX12_goTurn_183 rfl ?_
                    refine vc_iload dX12_goTurn_185 rfl ?_
                    refine vc_icmp_ne dX12_goTurn_187 (fun h146 => ?_) (fun h146 => ?_)
                    · refine vc_iconst dX12_goTurn_194 rfl ?_
                      refine vc_istore dX12_goTurn_195 (by decide) rfl (show _ = [some (aR 54), none, some (aI s), some (aI x1), some (aI x2), some (aI 0), none, some (aI x102), some (aI (v8 + 1)), some (aI 0)] from rfl) ?_
                      refine vc_goto dX12_goTurn_197 ?_
                      exact ih120 M127 (v8 + 1) 0 hB138 kp139 kp140 kp141 (by omega) (by omega) (by omega) (by omega) (by first | (rw [Int.sub_zero]; done) | (show gTk _ _ _ _ _ = gTk _ _ _ (1 - 0) _; rfl) | (rw [g120i0, show (41 - mI Mq120 54 27).toNat = (41 - mI M127 54 27).toNat + 1 by omega]; first | (rw [gTk_y (by omega) hgno (by rw [← hgx]; exact hP), ← hgx]; first | done | (congr 1; omega) | rfl) | (rw [gTk_n (by omega) hgno (by rw [← hgx]; exact hP), ← hgx]; first | done | (congr 1; omega) | rfl))) (by omega) (by omega) (by omega) (by omega) (by omega) (by omega) (by omega)
                    · refine vc_iconst dX12_goTurn_190 rfl ?_
                      refine vc_goto dX12_goTurn_191 ?_
                      refine vc_istore dX12_goTurn_195 (by decide) rfl (show _ = [some (aR 54), none, some (aI s), some (aI x1), some (aI x2), some (aI 0), none, some (aI x102), some (aI (v8 + 1)), some (aI 1)] from rfl) ?_
                      refine vc_goto dX12_goTurn_197 ?_
                      exact ih120 M127 (v8 + 1) 1 hB138 kp139 kp140 kp141 (by omega) (by omega) (by omega) (by omega) (by first | (rw [Int.sub_zero]; done) | (show gTk _ _ _ _ _ = gTk _ _ _ (1 - 0) _; rfl) | (rw [g120i0, show (41 - mI Mq120 54 27).toNat = (41 - mI M127 54 27).toNat + 1 by omega]; first | (rw [gTk_y (by omega) hgno (by rw [← hgx]; exact hP), ← hgx]; first | done | (congr 1; omega) | rfl) | (rw [gTk_n (by omega) hgno (by rw [← hgx]; exact hP), ← hgx]; first | done | (congr 1; omega) | rfl))) (by omega) (by omega) (by omega) (by omega) (by omega) (by omega) (by omega)
                  · refine vc_aload_n dX12_goTurn_144 rfl ?_
                    refine vc_iload dX12_goTurn_145 rfl ?_
                    refine vc_iload_n dX12_goTurn_147 rfl ?_
                    refine vc_cVI dX12_goTurn_148 (sfX12_isCountedF (M := M127) hB138.1 S x102 s (by omega) (by omega) (by omega) (by omega) (by exact hTN) (by exact hlt)) rfl okX12_isCounted viX12_isCounted lkX12_352 (s_54 hB138.1.1) cl_12 rfl (Nat.le_of_ble_eq_true rfl) ⟨rfl, rfl⟩ (Nat.le_of_ble_eq_true rfl) (Nat.le_of_ble_eq_true rfl) (Nat.le_of_ble_eq_true rfl) ?_
                    rintro x147 _ ⟨rfl, h148, h149, h150⟩
                    have hct : (x147 = 1 ∧ cntS S (mI M127 54 24) (sdS (mI M 54 25) (mnS t s / 100)) (laS s)) ∨ (x147 = 0 ∧ ¬ cntS S (mI M127 54 24) (sdS (mI M 54 25) (mnS t s / 100)) (laS s)) := by rw [← hsd]; exact h150
                    refine vc_if_eq dX12_goTurn_151 (fun h151 => ?_) (fun h151 => ?_)
                    · have hP : ¬ gCt S (mnS t s) (sdS (mI M 54 25) (mnS t s / 100)) (laS s) (mI M127 54 24) := by unfold gCt; rw [hmd.2.1]; rintro (⟨h1, h2⟩ | ⟨h1, h2 | h2⟩) <;> first | omega | (have h3 := hwh.mpr h2; omega) | (rcases hct with h | h; (exfalso; omega); (exact h.2 h2))
                      refine vc_iload dX12_goTurn_157 rfl ?_
                      refine vc_if_eq dX12_goTurn_159 (fun h152 => ?_) (fun h152 => by exfalso; omega)
                      refine vc_iload dX12_goTurn_183 rfl ?_
                      refine vc_iload dX12_goTurn_185 rfl ?_
                      refine vc_icmp_ne dX12_goTurn_187 (fun h153 => ?_) (fun h153 => ?_)
                      · refine vc_iconst dX12_goTurn_194 rfl ?_
                        refine vc_istore dX12_goTurn_195 (by decide) rfl (show _ = [some (aR 54), none, some (aI s), some (aI x1), some (aI x2), some (aI 0), none, some (aI x102), some (aI v8), some (aI 0)] from rfl) ?_
                        refine vc_goto dX12_goTurn_197 ?_
                        exact ih120 M127 v8 0 hB138 kp139 kp140 kp141 (by omega) (by omega) (by omega) (by omega) (by first | (rw [Int.sub_zero]; done) | (show gTk _ _ _ _ _ = gTk _ _ _ (1 - 0) _; rfl) | (rw [g120i0, show (41 - mI Mq120 54 27).toNat = (41 - mI M127 54 27).toNat + 1 by omega]; first | (rw [gTk_y (by omega) hgno (by rw [← hgx]; exact hP), ← hgx]; first | done | (congr 1; omega) | rfl) | (rw [gTk_n (by omega) hgno (by rw [← hgx]; exact hP), ← hgx]; first | done | (congr 1; omega) | rfl))) (by omega) (by omega) (by omega) (by omega) (by omega) (by omega) (by omega)
                      · refine vc_iconst dX12_goTurn_190 rfl ?_
                        refine vc_goto dX12_goTurn_191 ?_
                        refine vc_istore dX12_goTurn_195 (by decide) rfl (show _ = [some (aR 54), none, some (aI s), some (aI x1), some (aI x2), some (aI 0), none, some (aI x102), some (aI v8), some (aI 1)] from rfl) ?_
                        refine vc_goto dX12_goTurn_197 ?_
                        exact ih120 M127 v8 1 hB138 kp139 kp140 kp141 (by omega) (by omega) (by omega) (by omega) (by first | (rw [Int.sub_zero]; done) | (show gTk _ _ _ _ _ = gTk _ _ _ (1 - 0) _; rfl) | (rw [g120i0, show (41 - mI Mq120 54 27).toNat = (41 - mI M127 54 27).toNat + 1 by omega]; first | (rw [gTk_y (by omega) hgno (by rw [← hgx]; exact hP), ← hgx]; first | done | (congr 1; omega) | rfl) | (rw [gTk_n (by omega) hgno (by rw [← hgx]; exact hP), ← hgx]; first | done | (congr 1; omega) | rfl))) (by omega) (by omega) (by omega) (by omega) (by omega) (by omega) (by omega)
                    · have hP : gCt S (mnS t s) (sdS (mI M 54 25) (mnS t s / 100)) (laS s) (mI M127 54 24) := by unfold gCt; rw [hmd.2.1]; first | exact Or.inl ⟨by omega, by omega⟩ | exact Or.inr ⟨by omega, Or.inl (hwh.mp (by omega))⟩ | exact Or.inr ⟨by omega, Or.inr (by rcases hct with h | h; (exact h.2); (exfalso; omega))⟩
                      refine vc_iincE dX12_goTurn_154 rfl (by omega) (by omega) (by decide) rfl (show _ = [some (aR 54), none, some (aI s), some (aI x1), some (aI x2), some (aI 0), none, some (aI x102), some (aI (v8 + 1)), some (aI v9)] from rfl) ?_
                      refine vc_iload dX12_goTurn_157 rfl ?_
                      refine vc_if_eq dX12_goTurn_159 (fun h154 => ?_) (fun h154 => by exfalso; omega)
                      refine vc_iload dX12_goTurn_183 rfl ?_
                      refine vc_iload dX12_goTurn_185 rfl ?_
                      refine vc_icmp_ne dX12_goTurn_187 (fun h155 => ?_) (fun h155 => ?_)
                      · refine vc_iconst dX12_goTurn_194 rfl ?_
                        refine vc_istore dX12_goTurn_195 (by decide) rfl (show _ = [some (aR 54), none, some (aI s), some (aI x1), some (aI x2), some (aI 0), none, some (aI x102), some (aI (v8 + 1)), some (aI 0)] from rfl) ?_
                        refine vc_goto dX12_goTurn_197 ?_
                        exact ih120 M127 (v8 + 1) 0 hB138 kp139 kp140 kp141 (by omega) (by omega) (by omega) (by omega) (by first | (rw [Int.sub_zero]; done) | (show gTk _ _ _ _ _ = gTk _ _ _ (1 - 0) _; rfl) | (rw [g120i0, show (41 - mI Mq120 54 27).toNat = (41 - mI M127 54 27).toNat + 1 by omega]; first | (rw [gTk_y (by omega) hgno (by rw [← hgx]; exact hP), ← hgx]; first | done | (congr 1; omega) | rfl) | (rw [gTk_n (by omega) hgno (by rw [← hgx]; exact hP), ← hgx]; first | done | (congr 1; omega) | rfl))) (by omega) (by omega) (by omega) (by omega) (by omega) (by omega) (by omega)
                      · refine vc_iconst dX12_goTurn_190 rfl ?_
                        refine vc_goto dX12_goTurn_191 ?_
                        refine vc_istore dX12_goTurn_195 (by decide) rfl (show _ = [some (aR 54), none, some (aI s), some (aI x1), some (aI x2), some (aI 0), none, some (aI x102), some (aI (v8 + 1)), some (aI 1)] from rfl) ?_
                        refine vc_goto dX12_goTurn_197 ?_
                        exact ih120 M127 (v8 + 1) 1 hB138 kp139 kp140 kp141 (by omega) (by omega) (by omega) (by omega) (by first | (rw [Int.sub_zero]; done) | (show gTk _ _ _ _ _ = gTk _ _ _ (1 - 0) _; rfl) | (rw [g120i0, show (41 - mI Mq120 54 27).toNat = (41 - mI M127 54 27).toNat + 1 by omega]; first | (rw [gTk_y (by omega) hgno (by rw [← hgx]; exact hP), ← hgx]; first | done | (congr 1; omega) | rfl) | (rw [gTk_n (by omega) hgno (by rw [← hgx]; exact hP), ← hgx]; first | done | (congr 1; omega) | rfl))) (by omega) (by omega) (by omega) (by omega) (by omega) (by omega) (by omega)
                · refine vc_iconst dX12_goTurn_132 rfl ?_
                  refine vc_zret dX12_goTurn_133 rfl (by first | decide | omega) (Nat.le_of_ble_eq_true rfl) (Nat.le_of_ble_eq_true rfl) ?_
                  have hgf2 : gOn S (gR Mq120) = (gR M127, false) := by rcases hgn with h | h; (exfalso; omega); (exact h.2)
                  have hgno : gNo S (gR Mq120) := by by_cases e : gNo S (gR Mq120); (exact e); (rw [gOn_y e] at hgf2; exact absurd (congrArg Prod.snd hgf2).symm Bool.false_ne_true)
                  have hgx : gR M127 = gR Mq120 := by rw [gOn_n hgno] at hgf2; exact (congrArg Prod.fst hgf2).symm
                  exact ⟨_, rfl, hB138, kp141, kp139, kp140, by omega, by omega, by omega, Or.inr ⟨rfl, by rw [hgx]; exact gTu_f (S := S) (g := gR M) hdu (g120i0.trans (by rw [show (41 - mI Mq120 54 27).toNat = (40 - mI Mq120 54 27).toNat + 1 by omega]; exact gTk_f (by omega) hgno))⟩, hlt⟩
          refine vc_less [some (aR 54), none, some (aI s), some (aI x1), some (aI x2), some (aI 0), none, some (aI x102), some (aI 0), some (aI 0)] (lessL_keep (lessL_drop (lessL_keep (lessL_keep (lessL_keep (lessL_keep (lessL_drop (lessL_keep (lessL_keep (lessL_keep (lessL_nil))))))))))) ?_
          exact lp120 _ M 0 0 hB0 rfl rfl rfl (by omega) (by omega) (by omega) (by omega) (by first | (rw [Int.sub_zero]; done) | (show gTk _ _ _ _ _ = gTk _ _ _ (1 - 0) _; rfl) | (rw [g120i0, show (41 - mI Mq120 54 27).toNat = (41 - mI M127 54 27).toNat + 1 by omega]; first | (rw [gTk_y (by omega) hgno (by rw [← hgx]; exact hP), ← hgx]; first | done | (congr 1; omega) | rfl) | (rw [gTk_n (by omega) hgno (by rw [← hgx]; exact hP), ← hgx]; first | done | (congr 1; omega) | rfl))) (by omega) (by omega) (by omega) (by omega) (by omega) (by omega) (Nat.lt_succ_self _)
        · refine vc_aload_n dX12_goTurn_88 rfl ?_
          refine vc_getI dX12_goTurn_89 flX12_324 (s_54 hB0.1.1) rfl ?_
          have k156 : 0 ≤ mI M 54 25 ∧ mI M 54 25 ≤ 3 := b54_25 (M := M) hB0.1
          refine vc_goto dX12_goTurn_92 ?_
          refine vc_nameI (fun x157 ex157 => ?_)
          refine vc_istore dX12_goTurn_112 (by decide) rfl (show _ = [some (aR 54), some (aI t), some (aI s), some (aI x1), some (aI x2), some (aI 0), some (aI 0), some (aI x157), none, none] from rfl) ?_
          have hsd : x157 = (sdS (mI M 54 25) (mnS t s / 100)) := by unfold sdS; rw [hmd.1]; by_cases e1 : s % 2 ≠ 0 ∧ t / 100 ≠ 3; (rw [if_pos e1]; first | (exfalso; omega) | (rw [if_pos (by omega)]; first | done | omega) | (rw [if_neg (by omega), if_pos (by omega)]; first | done | omega) | (rw [if_neg (by omega), if_neg (by omega)]; first | done | omega)); (rw [if_neg e1]; first | (exfalso; omega) | (rw [if_pos (by omega)]; first | done | omega) | (rw [if_neg (by omega), if_pos (by omega)]; first | done | omega) | (rw [if_neg (by omega), if_neg (by omega)]; first | done | omega))
          have hdu : ((mnS t s) % 10 : Int) = if (mnS t s) / 10 % 10 = 1 then 1 else (mnS t s) % 10 := by rw [hmd.2.1]; first | (rw [if_pos (by omega)]) | (rw [if_neg (by omega)])
          have hn4 : x2 = (mnS t s) % 10 := by rw [hmd.2.2]; first | (rw [if_pos (by omega)]; omega) | (rw [if_neg (by omega)]; omega)
          have hwh : x1 = 3 ↔ (mnS t s) / 100 = 3 := by rw [mn_3 p4]; omega
          refine vc_iconst dX12_goTurn_114 rfl ?_
          refine vc_istore dX12_goTurn_115 (by decide) rfl (show _ = [some (aR 54), some (aI t), some (aI s), some (aI x1), some (aI x2), some (aI 0), some (aI 0), some (aI x157), some (aI 0), none] from rfl) ?_
          refine vc_iconst dX12_goTurn_117 rfl ?_
          refine vc_istore dX12_goTurn_118 (by decide) rfl (show _ = [some (aR 54), some (aI t), some (aI s), some (aI x1), some (aI x2), some (aI 0), some (aI 0), some (aI x157), some (aI 0), some (aI 0)] from rfl) ?_
          have lp120 : ∀ (n120 : Nat) (Mq120 : Mem) (v8 : Int) (v9 : Int), (BF fS M Mq120) → (mI Mq120 57 = mI M 57) → (mI Mq120 63 = mI M 63) → (mI Mq120 55 = mI M 55) → (0 ≤ v8) → (v8 ≤ 9) → (0 ≤ v9) → (v9 ≤ 1) → (gTk S (gCt S (mnS t s) (sdS (mI M 54 25) (mnS t s / 100)) (laS s)) (41 - mI M 54 27).toNat ((mnS t s) % 10) (gR M) = gTk S (gCt S (mnS t s) (sdS (mI M 54 25) (mnS t s / 100)) (laS s)) (41 - mI Mq120 54 27).toNat ((mnS t s) % 10 - v8) (gR Mq120)) → (mI Mq120 54 25 = mI M 54 25) → (mI Mq120 54 32 = mI M 54 32) → (0 ≤ mI Mq120 54 27) → (mI Mq120 54 27 ≤ 40) → (mI Mq120 54 24 < S 1 6) → ((v9 = 1 ∧ v8 = (mnS t s) % 10) ∨ (v9 = 0 ∧ v8 < (mnS t s) % 10)) → (40 - mI Mq120 54 27).toNat < n120 → VC l mdX12_goTurn 120 [some (aR 54), none, some (aI s), some (aI x1), some (aI x2), some (aI 0), none, some (aI x157), some (aI v8), some (aI v9)] [] Mq120 0 0 (fun q N => ∃ r : Int, q = some (aI r) ∧ BF fS M N ∧ mI N 55 = mI M 55 ∧ mI N 57 = mI M 57 ∧ mI N 63 = mI M 63 ∧ 0 ≤ r ∧ r ≤ 1 ∧ mI N 54 32 = mI M 54 32 ∧ ((r = 1 ∧ gTu S (mnS t s) (laS s) (gR M) = (gR N, true)) ∨ (r = 0 ∧ gTu S (mnS t s) (laS s) (gR M) = (gR N, false))) ∧ mI N 54 24 < S 1 6) := by
            intro n120
            induction n120 with
            | zero => intro Mq120 v8 v9 hQ120 kp120_57 kp120_63 kp120_55 g120_8a g120_8b g120_9a g120_9b g120i0 g120i1 g120i2 g120i3 g120i4 g120i5 g120i6 hm120; exact absurd hm120 (Nat.not_lt_zero _)
            | succ n120 ih120 =>
              intro Mq120 v8 v9 hQ120 kp120_57 kp120_63 kp120_55 g120_8a g120_8b g120_9a g120_9b g120i0 g120i1 g120i2 g120i3 g120i4 g120i5 g120i6 hm120
              refine vc_iload dX12_goTurn_120 rfl ?_
              refine vc_if_ne dX12_goTurn_122 (fun h158 => ?_) (fun h158 => ?_)
              · have hTq : TA (mI Mq120 55) S := by rw [kp120_55]; exact p5
                refine vc_iload_n dX12_goTurn_200 rfl ?_
                refine vc_iconst dX12_goTurn_201 rfl ?_
                refine vc_icmp_eq dX12_goTurn_202 (fun h159 => ?_) (fun h159 => by exfalso; omega)
                refine vc_aload_n dX12_goTurn_217 rfl ?_
                refine vc_iload dX12_goTurn_218 rfl ?_
                refine vc_putI dX12_goTurn_220 (plX12_324 _ rfl) (s_54 hQ120.1.1) rfl ?_
                have kp160 : mI (sI Mq120 54 25 x157) 57 = mI M 57 := (kp_sI kp120_57 rfl)
                have kp161 : mI (sI Mq120 54 25 x157) 63 = mI M 63 := (kp_sI kp120_63 rfl)
                have kp162 : mI (sI Mq120 54 25 x157) 55 = mI M 55 := (kp_sI kp120_55 rfl)
                have hB163 : BF fS M (sI Mq120 54 25 x157) := BF.w54_25 hQ120 rfl (by omega) (by omega)
                refine vc_iconst dX12_goTurn_223 rfl ?_
                refine vc_zret dX12_goTurn_224 rfl (by first | decide | omega) (Nat.le_of_ble_eq_true rfl) (Nat.le_of_ble_eq_true rfl) ?_
                have k164 : mI (sI Mq120 54 25 x157) 54 24 = mI Mq120 54 24 := rfl
                have k165 : mI (sI Mq120 54 25 x157) 54 25 = x157 := rfl
                have k166 : mI (sI Mq120 54 25 x157) 54 27 = mI Mq120 54 27 := rfl
                have k167 : mI (sI Mq120 54 25 x157) 54 32 = mI Mq120 54 32 := rfl
                exact ⟨_, rfl, hB163, kp162, kp160, kp161, by omega, by omega, by omega, Or.inl ⟨rfl, (gTu_y (S := S) (g := gR M) (q := gR Mq120) hdu (g120i0.trans (by rw [show (41 - mI Mq120 54 27).toNat = (40 - mI Mq120 54 27).toNat + 1 by omega]; exact gTk_0 (by omega))) (by first | exact Or.inl (hwh.mp (by omega)) | exact Or.inr (by rcases hct with h2 | h2; (exact h2.2); (exfalso; omega)))).trans (by rw [show (gR M).2.1 = mI M 54 25 from rfl, ← hsd]; rfl)⟩, g120i5⟩
              · have hTq : TA (mI Mq120 55) S := by rw [kp120_55]; exact p5
                refine vc_aload_n dX12_goTurn_125 rfl ?_
                refine vc_cVI dX12_goTurn_126 (sfX12_goOnF (M := Mq120) hQ120.1 S  (by exact hTq) (by exact g120i5) (by rw [kp120_57]; exact p7) (by exact p8)) rfl okX12_goOn viX12_goOn lkX12_348 (s_54 hQ120.1.1) cl_12 rfl (Nat.le_of_ble_eq_true rfl) ⟨rfl, rfl⟩ (Nat.le_of_ble_eq_true rfl) (Nat.le_of_ble_eq_true rfl) (Nat.le_of_ble_eq_true rfl) ?_
                rintro x168 M169 ⟨hB170, kp171, kp172, kp173, h174, h175, h176, h177, h178, h179⟩
                have hB180 : BF fS M M169 := BF.go hQ120 hB170
                have kp181 : mI M169 57 = mI M 57 := kp_go kp120_57 kp172
                have kp182 : mI M169 63 = mI M 63 := kp_go kp120_63 kp173
                have kp183 : mI M169 55 = mI M 55 := kp_go kp120_55 kp171
                have hgn := h178
                have hlt := h179
                have hTN : TA (mI M169 55) S := by rw [kp183]; exact p5
                have kz := b54_27 (M := M169) hB180.1
                have kz4 := b54_24 (M := M169) hB180.1
                refine vc_if_ne dX12_goTurn_129 (fun h184 => ?_) (fun h184 => ?_)
                · have hgy : gOn S (gR Mq120) = (gR M169, true) := by rcases hgn with h | h; (exact h.2); (exfalso; omega)
                  have hgno : ¬ gNo S (gR Mq120) := fun e => by rw [gOn_n e] at hgy; exact Bool.false_ne_true (congrArg Prod.snd hgy)
                  have hgx : gR M169 = gNx S (gR Mq120) := by rw [gOn_y hgno] at hgy; exact (congrArg Prod.fst hgy).symm
                  have hgc : mI M169 54 27 = mI Mq120 54 27 + 1 := congrArg (fun g : Gw => g.2.2.1) hgx
                  have hgf : mI M169 54 25 = mI Mq120 54 25 := congrArg (fun g : Gw => g.2.1) hgx
                  refine vc_iload dX12_goTurn_134 rfl ?_
                  refine vc_if_ne dX12_goTurn_136 (fun h185 => by exfalso; omega) (fun h185 => ?_)
                  refine vc_iload_n dX12_goTurn_139 rfl ?_
                  refine vc_iconst dX12_goTurn_140 rfl ?_
                  refine vc_icmp_eq dX12_goTurn_141 (fun h186 => ?_) (fun h186 => by exfalso; omega)
                  have hP : gCt S (mnS t s) (sdS (mI M 54 25) (mnS t s / 100)) (laS s) (mI M169 54 24) := by unfold gCt; rw [hmd.2.1]; first | exact Or.inl ⟨by omega, by omega⟩ | exact Or.inr ⟨by omega, Or.inl (hwh.mp (by omega))⟩ | exact Or.inr ⟨by omega, Or.inr (by rcases hct with h | h; (exact h.2); (exfalso; omega))⟩
                  refine vc_iincE dX12_goTurn_154 rfl (by omega) (by omega) (by decide) rfl (show _ = [some (aR 54), none, some (aI s), some (aI x1), some (aI x2), some (aI 0), none, some (aI x157), some (aI (v8 + 1)), some (aI v9)] from rfl) ?_
                  refine vc_iload dX12_goTurn_157 rfl ?_
                  refine vc_if_eq dX12_goTurn_159 (fun h187 => ?_) (fun h187 => by exfalso; omega)
                  refine vc_iload dX12_goTurn_183 rfl ?_
                  refine vc_iload dX12_goTurn_185 rfl ?_
                  refine vc_icmp_ne dX12_goTurn_187 (fun h188 => ?_) (fun h188 => ?_)
                  · refine vc_iconst dX12_goTurn_194 rfl ?_
                    refine vc_istore dX12_goTurn_195 (by decide) rfl (show _ = [some (aR 54), none, some (aI s), some (aI x1), some (aI x2), some (aI 0), none, some (aI x157), some (aI (v8 + 1)), some (aI 0)] from rfl) ?_
                    refine vc_goto dX12_goTurn_197 ?_
                    exact ih120 M169 (v8 + 1) 0 hB180 kp181 kp182 kp183 (by omega) (by omega) (by omega) (by omega) (by first | (rw [Int.sub_zero]; done) | (show gTk _ _ _ _ _ = gTk _ _ _ (1 - 0) _; rfl) | (rw [g120i0, show (41 - mI Mq120 54 27).toNat = (41 - mI M169 54 27).toNat + 1 by omega]; first | (rw [gTk_y (by omega) hgno (by rw [← hgx]; exact hP), ← hgx]; first | done | (congr 1; omega) | rfl) | (rw [gTk_n (by omega) hgno (by rw [← hgx]; exact hP), ← hgx]; first | done | (congr 1; omega) | rfl))) (by omega) (by omega) (by omega) (by omega) (by omega) (by omega) (by omega)
                  · refine vc_iconst dX12_goTurn_190 rfl ?_
                    refine vc_goto dX12_goTurn_191 ?_
                    refine vc_istore dX12_goTurn_195 (by decide) rfl (show _ = [some (aR 54), none, some (aI s), some (aI x1), some (aI x2), some (aI 0), none, some (aI x157), some (aI (v8 + 1)), some (aI 1)] from rfl) ?_
                    refine vc_goto dX12_goTurn_197 ?_
                    exact ih120 M169 (v8 + 1) 1 hB180 kp181 kp182 kp183 (by omega) (by omega) (by omega) (by omega) (by first | (rw [Int.sub_zero]; done) | (show gTk _ _ _ _ _ = gTk _ _ _ (1 - 0) _; rfl) | (rw [g120i0, show (41 - mI Mq120 54 27).toNat = (41 - mI M169 54 27).toNat + 1 by omega]; first | (rw [gTk_y (by omega) hgno (by rw [← hgx]; exact hP), ← hgx]; first | done | (congr 1; omega) | rfl) | (rw [gTk_n (by omega) hgno (by rw [← hgx]; exact hP), ← hgx]; first | done | (congr 1; omega) | rfl))) (by omega) (by omega) (by omega) (by omega) (by omega) (by omega) (by omega)
                · refine vc_iconst dX12_goTurn_132 rfl ?_
                  refine vc_zret dX12_goTurn_133 rfl (by first | decide | omega) (Nat.le_of_ble_eq_true rfl) (Nat.le_of_ble_eq_true rfl) ?_
                  have hgf2 : gOn S (gR Mq120) = (gR M169, false) := by rcases hgn with h | h; (exfalso; omega); (exact h.2)
                  have hgno : gNo S (gR Mq120) := by by_cases e : gNo S (gR Mq120); (exact e); (rw [gOn_y e] at hgf2; exact absurd (congrArg Prod.snd hgf2).symm Bool.false_ne_true)
                  have hgx : gR M169 = gR Mq120 := by rw [gOn_n hgno] at hgf2; exact (congrArg Prod.fst hgf2).symm
                  exact ⟨_, rfl, hB180, kp183, kp181, kp182, by omega, by omega, by omega, Or.inr ⟨rfl, by rw [hgx]; exact gTu_f (S := S) (g := gR M) hdu (g120i0.trans (by rw [show (41 - mI Mq120 54 27).toNat = (40 - mI Mq120 54 27).toNat + 1 by omega]; exact gTk_f (by omega) hgno))⟩, hlt⟩
          refine vc_less [some (aR 54), none, some (aI s), some (aI x1), some (aI x2), some (aI 0), none, some (aI x157), some (aI 0), some (aI 0)] (lessL_keep (lessL_drop (lessL_keep (lessL_keep (lessL_keep (lessL_keep (lessL_drop (lessL_keep (lessL_keep (lessL_keep (lessL_nil))))))))))) ?_
          exact lp120 _ M 0 0 hB0 rfl rfl rfl (by omega) (by omega) (by omega) (by omega) (by first | (rw [Int.sub_zero]; done) | (show gTk _ _ _ _ _ = gTk _ _ _ (1 - 0) _; rfl) | (rw [g120i0, show (41 - mI Mq120 54 27).toNat = (41 - mI M169 54 27).toNat + 1 by omega]; first | (rw [gTk_y (by omega) hgno (by rw [← hgx]; exact hP), ← hgx]; first | done | (congr 1; omega) | rfl) | (rw [gTk_n (by omega) hgno (by rw [← hgx]; exact hP), ← hgx]; first | done | (congr 1; omega) | rfl))) (by omega) (by omega) (by omega) (by omega) (by omega) (by omega) (Nat.lt_succ_self _)
    · refine vc_iconst dX12_goTurn_57 rfl ?_
      refine vc_goto dX12_goTurn_58 ?_
      refine vc_iload_n dX12_goTurn_62 rfl ?_
      refine vc_iconst dX12_goTurn_63 rfl ?_
      refine vc_iandM dX12_goTurn_64 2 1 rfl (by decide) rfl ?_
      refine vc_if_ne dX12_goTurn_65 (fun h189 => ?_) (fun h189 => ?_)
      · refine vc_iconst dX12_goTurn_72 rfl ?_
        refine vc_icmp_ne dX12_goTurn_73 (fun h190 => ?_) (fun h190 => by exfalso; omega)
        refine vc_iconst dX12_goTurn_80 rfl ?_
        refine vc_istore dX12_goTurn_81 (by decide) rfl (show _ = [some (aR 54), some (aI t), some (aI s), some (aI x1), some (aI x2), some (aI 0), some (aI 0), none, none, none] from rfl) ?_
        refine vc_iload_n dX12_goTurn_83 rfl ?_
        refine vc_iconst dX12_goTurn_84 rfl ?_
        refine vc_icmp_ne dX12_goTurn_85 (fun h191 => ?_) (fun h191 => by exfalso; omega)
        refine vc_aload_n dX12_goTurn_95 rfl ?_
        refine vc_getI dX12_goTurn_96 flX12_324 (s_54 hB0.1.1) rfl ?_
        have k192 : 0 ≤ mI M 54 25 ∧ mI M 54 25 ≤ 3 := b54_25 (M := M) hB0.1
        refine vc_iload dX12_goTurn_99 rfl ?_
        refine vc_if_eq dX12_goTurn_101 (fun h193 => ?_) (fun h193 => by exfalso; omega)
        refine vc_iconst dX12_goTurn_108 rfl ?_
        refine vc_iaddE dX12_goTurn_109 (by omega) (by omega) ?_
        refine vc_iconst dX12_goTurn_110 rfl ?_
        refine vc_iremE dX12_goTurn_111 (by omega) (by omega) ?_
        refine vc_nameI (fun x194 ex194 => ?_)
        refine vc_istore dX12_goTurn_112 (by decide) rfl (show _ = [some (aR 54), some (aI t), some (aI s), some (aI x1), some (aI x2), some (aI 0), some (aI 0), some (aI x194), none, none] from rfl) ?_
        have hsd : x194 = (sdS (mI M 54 25) (mnS t s / 100)) := by unfold sdS; rw [hmd.1]; by_cases e1 : s % 2 ≠ 0 ∧ t / 100 ≠ 3; (rw [if_pos e1]; first | (exfalso; omega) | (rw [if_pos (by omega)]; first | done | omega) | (rw [if_neg (by omega), if_pos (by omega)]; first | done | omega) | (rw [if_neg (by omega), if_neg (by omega)]; first | done | omega)); (rw [if_neg e1]; first | (exfalso; omega) | (rw [if_pos (by omega)]; first | done | omega) | (rw [if_neg (by omega), if_pos (by omega)]; first | done | omega) | (rw [if_neg (by omega), if_neg (by omega)]; first | done | omega))
        have hdu : ((mnS t s) % 10 : Int) = if (mnS t s) / 10 % 10 = 1 then 1 else (mnS t s) % 10 := by rw [hmd.2.1]; first | (rw [if_pos (by omega)]) | (rw [if_neg (by omega)])
        have hn4 : x2 = (mnS t s) % 10 := by rw [hmd.2.2]; first | (rw [if_pos (by omega)]; omega) | (rw [if_neg (by omega)]; omega)
        have hwh : x1 = 3 ↔ (mnS t s) / 100 = 3 := by rw [mn_3 p4]; omega
        refine vc_iconst dX12_goTurn_114 rfl ?_
        refine vc_istore dX12_goTurn_115 (by decide) rfl (show _ = [some (aR 54), some (aI t), some (aI s), some (aI x1), some (aI x2), some (aI 0), some (aI 0), some (aI x194), some (aI 0), none] from rfl) ?_
        refine vc_iconst dX12_goTurn_117 rfl ?_
        refine vc_istore dX12_goTurn_118 (by decide) rfl (show _ = [some (aR 54), some (aI t), some (aI s), some (aI x1), some (aI x2), some (aI 0), some (aI 0), some (aI x194), some (aI 0), some (aI 0)] from rfl) ?_
        have lp120 : ∀ (n120 : Nat) (Mq120 : Mem) (v8 : Int) (v9 : Int), (BF fS M Mq120) → (mI Mq120 57 = mI M 57) → (mI Mq120 63 = mI M 63) → (mI Mq120 55 = mI M 55) → (0 ≤ v8) → (v8 ≤ 9) → (0 ≤ v9) → (v9 ≤ 1) → (gTk S (gCt S (mnS t s) (sdS (mI M 54 25) (mnS t s / 100)) (laS s)) (41 - mI M 54 27).toNat ((mnS t s) % 10) (gR M) = gTk S (gCt S (mnS t s) (sdS (mI M 54 25) (mnS t s / 100)) (laS s)) (41 - mI Mq120 54 27).toNat ((mnS t s) % 10 - v8) (gR Mq120)) → (mI Mq120 54 25 = mI M 54 25) → (mI Mq120 54 32 = mI M 54 32) → (0 ≤ mI Mq120 54 27) → (mI Mq120 54 27 ≤ 40) → (mI Mq120 54 24 < S 1 6) → ((v9 = 1 ∧ v8 = (mnS t s) % 10) ∨ (v9 = 0 ∧ v8 < (mnS t s) % 10)) → (40 - mI Mq120 54 27).toNat < n120 → VC l mdX12_goTurn 120 [some (aR 54), none, some (aI s), some (aI x1), some (aI x2), some (aI 0), none, some (aI x194), some (aI v8), some (aI v9)] [] Mq120 0 0 (fun q N => ∃ r : Int, q = some (aI r) ∧ BF fS M N ∧ mI N 55 = mI M 55 ∧ mI N 57 = mI M 57 ∧ mI N 63 = mI M 63 ∧ 0 ≤ r ∧ r ≤ 1 ∧ mI N 54 32 = mI M 54 32 ∧ ((r = 1 ∧ gTu S (mnS t s) (laS s) (gR M) = (gR N, true)) ∨ (r = 0 ∧ gTu S (mnS t s) (laS s) (gR M) = (gR N, false))) ∧ mI N 54 24 < S 1 6) := by
          intro n120
          induction n120 with
          | zero => intro Mq120 v8 v9 hQ120 kp120_57 kp120_63 kp120_55 g120_8a g120_8b g120_9a g120_9b g120i0 g120i1 g120i2 g120i3 g120i4 g120i5 g120i6 hm120; exact absurd hm120 (Nat.not_lt_zero _)
          | succ n120 ih120 =>
            intro Mq120 v8 v9 hQ120 kp120_57 kp120_63 kp120_55 g120_8a g120_8b g120_9a g120_9b g120i0 g120i1 g120i2 g120i3 g120i4 g120i5 g120i6 hm120
            refine vc_iload dX12_goTurn_120 rfl ?_
            refine vc_if_ne dX12_goTurn_122 (fun h195 => ?_) (fun h195 => ?_)
            · have hTq : TA (mI Mq120 55) S := by rw [kp120_55]; exact p5
              refine vc_iload_n dX12_goTurn_200 rfl ?_
              refine vc_iconst dX12_goTurn_201 rfl ?_
              refine vc_icmp_eq dX12_goTurn_202 (fun h196 => by exfalso; omega) (fun h196 => ?_)
              refine vc_aload_n dX12_goTurn_205 rfl ?_
              refine vc_iload dX12_goTurn_206 rfl ?_
              refine vc_iload_n dX12_goTurn_208 rfl ?_
              refine vc_cVI dX12_goTurn_209 (sfX12_isCountedF (M := Mq120) hQ120.1 S x194 s (by omega) (by omega) (by omega) (by omega) (by exact hTq) (by exact g120i5)) rfl okX12_isCounted viX12_isCounted lkX12_352 (s_54 hQ120.1.1) cl_12 rfl (Nat.le_of_ble_eq_true rfl) ⟨rfl, rfl⟩ (Nat.le_of_ble_eq_true rfl) (Nat.le_of_ble_eq_true rfl) (Nat.le_of_ble_eq_true rfl) ?_
              rintro x197 _ ⟨rfl, h198, h199, h200⟩
              have hct : (x197 = 1 ∧ cntS S (mI Mq120 54 24) (sdS (mI M 54 25) (mnS t s / 100)) (laS s)) ∨ (x197 = 0 ∧ ¬ cntS S (mI Mq120 54 24) (sdS (mI M 54 25) (mnS t s / 100)) (laS s)) := by rw [← hsd]; exact h200
              refine vc_if_ne dX12_goTurn_212 (fun h201 => ?_) (fun h201 => ?_)
              · refine vc_aload_n dX12_goTurn_217 rfl ?_
                refine vc_iload dX12_goTurn_218 rfl ?_
                refine vc_putI dX12_goTurn_220 (plX12_324 _ rfl) (s_54 hQ120.1.1) rfl ?_
                have kp202 : mI (sI Mq120 54 25 x194) 57 = mI M 57 := (kp_sI kp120_57 rfl)
                have kp203 : mI (sI Mq120 54 25 x194) 63 = mI M 63 := (kp_sI kp120_63 rfl)
                have kp204 : mI (sI Mq120 54 25 x194) 55 = mI M 55 := (kp_sI kp120_55 rfl)
                have hB205 : BF fS M (sI Mq120 54 25 x194) := BF.w54_25 hQ120 rfl (by omega) (by omega)
                refine vc_iconst dX12_goTurn_223 rfl ?_
                refine vc_zret dX12_goTurn_224 rfl (by first | decide | omega) (Nat.le_of_ble_eq_true rfl) (Nat.le_of_ble_eq_true rfl) ?_
                have k206 : mI (sI Mq120 54 25 x194) 54 24 = mI Mq120 54 24 := rfl
                have k207 : mI (sI Mq120 54 25 x194) 54 25 = x194 := rfl
                have k208 : mI (sI Mq120 54 25 x194) 54 27 = mI Mq120 54 27 := rfl
                have k209 : mI (sI Mq120 54 25 x194) 54 32 = mI Mq120 54 32 := rfl
                exact ⟨_, rfl, hB205, kp204, kp202, kp203, by omega, by omega, by omega, Or.inl ⟨rfl, (gTu_y (S := S) (g := gR M) (q := gR Mq120) hdu (g120i0.trans (by rw [show (41 - mI Mq120 54 27).toNat = (40 - mI Mq120 54 27).toNat + 1 by omega]; exact gTk_0 (by omega))) (by first | exact Or.inl (hwh.mp (by omega)) | exact Or.inr (by rcases hct with h2 | h2; (exact h2.2); (exfalso; omega)))).trans (by rw [show (gR M).2.1 = mI M 54 25 from rfl, ← hsd]; rfl)⟩, g120i5⟩
              · refine vc_iconst dX12_goTurn_215 rfl ?_
                refine vc_zret dX12_goTurn_216 rfl (by first | decide | omega) (Nat.le_of_ble_eq_true rfl) (Nat.le_of_ble_eq_true rfl) ?_
                exact ⟨_, rfl, hQ120, kp120_55, kp120_57, kp120_63, by omega, by omega, by omega, Or.inr ⟨rfl, gTu_n (S := S) (g := gR M) (q := gR Mq120) hdu (g120i0.trans (by rw [show (41 - mI Mq120 54 27).toNat = (40 - mI Mq120 54 27).toNat + 1 by omega]; exact gTk_0 (by omega))) (by rintro (h | h); (have h9 := hwh.mpr h; omega); (rcases hct with h2 | h2; (exfalso; omega); (exact h2.2 h)))⟩, g120i5⟩
            · have hTq : TA (mI Mq120 55) S := by rw [kp120_55]; exact p5
              refine vc_aload_n dX12_goTurn_125 rfl ?_
              refine vc_cVI dX12_goTurn_126 (sfX12_goOnF (M := Mq120) hQ120.1 S  (by exact hTq) (by exact g120i5) (by rw [kp120_57]; exact p7) (by exact p8)) rfl okX12_goOn viX12_goOn lkX12_348 (s_54 hQ120.1.1) cl_12 rfl (Nat.le_of_ble_eq_true rfl) ⟨rfl, rfl⟩ (Nat.le_of_ble_eq_true rfl) (Nat.le_of_ble_eq_true rfl) (Nat.le_of_ble_eq_true rfl) ?_
              rintro x210 M211 ⟨hB212, kp213, kp214, kp215, h216, h217, h218, h219, h220, h221⟩
              have hB222 : BF fS M M211 := BF.go hQ120 hB212
              have kp223 : mI M211 57 = mI M 57 := kp_go kp120_57 kp214
              have kp224 : mI M211 63 = mI M 63 := kp_go kp120_63 kp215
              have kp225 : mI M211 55 = mI M 55 := kp_go kp120_55 kp213
              have hgn := h220
              have hlt := h221
              have hTN : TA (mI M211 55) S := by rw [kp225]; exact p5
              have kz := b54_27 (M := M211) hB222.1
              have kz4 := b54_24 (M := M211) hB222.1
              refine vc_if_ne dX12_goTurn_129 (fun h226 => ?_) (fun h226 => ?_)
              · have hgy : gOn S (gR Mq120) = (gR M211, true) := by rcases hgn with h | h; (exact h.2); (exfalso; omega)
                have hgno : ¬ gNo S (gR Mq120) := fun e => by rw [gOn_n e] at hgy; exact Bool.false_ne_true (congrArg Prod.snd hgy)
                have hgx : gR M211 = gNx S (gR Mq120) := by rw [gOn_y hgno] at hgy; exact (congrArg Prod.fst hgy).symm
                have hgc : mI M211 54 27 = mI Mq120 54 27 + 1 := congrArg (fun g : Gw => g.2.2.1) hgx
                have hgf : mI M211 54 25 = mI Mq120 54 25 := congrArg (fun g : Gw => g.2.1) hgx
                refine vc_iload dX12_goTurn_134 rfl ?_
                refine vc_if_ne dX12_goTurn_136 (fun h227 => by exfalso; omega) (fun h227 => ?_)
                refine vc_iload_n dX12_goTurn_139 rfl ?_
                refine vc_iconst dX12_goTurn_140 rfl ?_
                refine vc_icmp_eq dX12_goTurn_141 (fun h228 => by exfalso; omega) (fun h228 => ?_)
                refine vc_aload_n dX12_goTurn_144 rfl ?_
                refine vc_iload dX12_goTurn_145 rfl ?_
                refine vc_iload_n dX12_goTurn_147 rfl ?_
                refine vc_cVI dX12_goTurn_148 (sfX12_isCountedF (M := M211) hB222.1 S x194 s (by omega) (by omega) (by omega) (by omega) (by exact hTN) (by exact hlt)) rfl okX12_isCounted viX12_isCounted lkX12_352 (s_54 hB222.1.1) cl_12 rfl (Nat.le_of_ble_eq_true rfl) ⟨rfl, rfl⟩ (Nat.le_of_ble_eq_true rfl) (Nat.le_of_ble_eq_true rfl) (Nat.le_of_ble_eq_true rfl) ?_
                rintro x229 _ ⟨rfl, h230, h231, h232⟩
                have hct : (x229 = 1 ∧ cntS S (mI M211 54 24) (sdS (mI M 54 25) (mnS t s / 100)) (laS s)) ∨ (x229 = 0 ∧ ¬ cntS S (mI M211 54 24) (sdS (mI M 54 25) (mnS t s / 100)) (laS s)) := by rw [← hsd]; exact h232
                refine vc_if_eq dX12_goTurn_151 (fun h233 => ?_) (fun h233 => ?_)
                · have hP : ¬ gCt S (mnS t s) (sdS (mI M 54 25) (mnS t s / 100)) (laS s) (mI M211 54 24) := by unfold gCt; rw [hmd.2.1]; rintro (⟨h1, h2⟩ | ⟨h1, h2 | h2⟩) <;> first | omega | (have h3 := hwh.mpr h2; omega) | (rcases hct with h | h; (exfalso; omega); (exact h.2 h2))
                  refine vc_iload dX12_goTurn_157 rfl ?_
                  refine vc_if_eq dX12_goTurn_159 (fun h234 => ?_) (fun h234 => by exfalso; omega)
                  refine vc_iload dX12_goTurn_183 rfl ?_
                  refine vc_iload dX12_goTurn_185 rfl ?_
                  refine vc_icmp_ne dX12_goTurn_187 (fun h235 => ?_) (fun h235 => ?_)
                  · refine vc_iconst dX12_goTurn_194 rfl ?_
                    refine vc_istore dX12_goTurn_195 (by decide) rfl (show _ = [some (aR 54), none, some (aI s), some (aI x1), some (aI x2), some (aI 0), none, some (aI x194), some (aI v8), some (aI 0)] from rfl) ?_
                    refine vc_goto dX12_goTurn_197 ?_
                    exact ih120 M211 v8 0 hB222 kp223 kp224 kp225 (by omega) (by omega) (by omega) (by omega) (by first | (rw [Int.sub_zero]; done) | (show gTk _ _ _ _ _ = gTk _ _ _ (1 - 0) _; rfl) | (rw [g120i0, show (41 - mI Mq120 54 27).toNat = (41 - mI M211 54 27).toNat + 1 by omega]; first | (rw [gTk_y (by omega) hgno (by rw [← hgx]; exact hP), ← hgx]; first | done | (congr 1; omega) | rfl) | (rw [gTk_n (by omega) hgno (by rw [← hgx]; exact hP), ← hgx]; first | done | (congr 1; omega) | rfl))) (by omega) (by omega) (by omega) (by omega) (by omega) (by omega) (by omega)
                  · refine vc_iconst dX12_goTurn_190 rfl ?_
                    refine vc_goto dX12_goTurn_191 ?_
                    refine vc_istore dX12_goTurn_195 (by decide) rfl (show _ = [some (aR 54), none, some (aI s), some (aI x1), some (aI x2), some (aI 0), none, some (aI x194), some (aI v8), some (aI 1)] from rfl) ?_
                    refine vc_goto dX12_goTurn_197 ?_
                    exact ih120 M211 v8 1 hB222 kp223 kp224 kp225 (by omega) (by omega) (by omega) (by omega) (by first | (rw [Int.sub_zero]; done) | (show gTk _ _ _ _ _ = gTk _ _ _ (1 - 0) _; rfl) | (rw [g120i0, show (41 - mI Mq120 54 27).toNat = (41 - mI M211 54 27).toNat + 1 by omega]; first | (rw [gTk_y (by omega) hgno (by rw [← hgx]; exact hP), ← hgx]; first | done | (congr 1; omega) | rfl) | (rw [gTk_n (by omega) hgno (by rw [← hgx]; exact hP), ← hgx]; first | done | (congr 1; omega) | rfl))) (by omega) (by omega) (by omega) (by omega) (by omega) (by omega) (by omega)
                · have hP : gCt S (mnS t s) (sdS (mI M 54 25) (mnS t s / 100)) (laS s) (mI M211 54 24) := by unfold gCt; rw [hmd.2.1]; first | exact Or.inl ⟨by omega, by omega⟩ | exact Or.inr ⟨by omega, Or.inl (hwh.mp (by omega))⟩ | exact Or.inr ⟨by omega, Or.inr (by rcases hct with h | h; (exact h.2); (exfalso; omega))⟩
                  refine vc_iincE dX12_goTurn_154 rfl (by omega) (by omega) (by decide) rfl (show _ = [some (aR 54), none, some (aI s), some (aI x1), some (aI x2), some (aI 0), none, some (aI x194), some (aI (v8 + 1)), some (aI v9)] from rfl) ?_
                  refine vc_iload dX12_goTurn_157 rfl ?_
                  refine vc_if_eq dX12_goTurn_159 (fun h236 => ?_) (fun h236 => by exfalso; omega)
                  refine vc_iload dX12_goTurn_183 rfl ?_
                  refine vc_iload dX12_goTurn_185 rfl ?_
                  refine vc_icmp_ne dX12_goTurn_187 (fun h237 => ?_) (fun h237 => ?_)
                  · refine vc_iconst dX12_goTurn_194 rfl ?_
                    refine vc_istore dX12_goTurn_195 (by decide) rfl (show _ = [some (aR 54), none, some (aI s), some (aI x1), some (aI x2), some (aI 0), none, some (aI x194), some (aI (v8 + 1)), some (aI 0)] from rfl) ?_
                    refine vc_goto dX12_goTurn_197 ?_
                    exact ih120 M211 (v8 + 1) 0 hB222 kp223 kp224 kp225 (by omega) (by omega) (by omega) (by omega) (by first | (rw [Int.sub_zero]; done) | (show gTk _ _ _ _ _ = gTk _ _ _ (1 - 0) _; rfl) | (rw [g120i0, show (41 - mI Mq120 54 27).toNat = (41 - mI M211 54 27).toNat + 1 by omega]; first | (rw [gTk_y (by omega) hgno (by rw [← hgx]; exact hP), ← hgx]; first | done | (congr 1; omega) | rfl) | (rw [gTk_n (by omega) hgno (by rw [← hgx]; exact hP), ← hgx]; first | done | (congr 1; omega) | rfl))) (by omega) (by omega) (by omega) (by omega) (by omega) (by omega) (by omega)
                  · refine vc_iconst dX12_goTurn_190 rfl ?_
                    refine vc_goto dX12_goTurn_191 ?_
                    refine vc_istore dX12_goTurn_195 (by decide) rfl (show _ = [some (aR 54), none, some (aI s), some (aI x1), some (aI x2), some (aI 0), none, some (aI x194), some (aI (v8 + 1)), some (aI 1)] from rfl) ?_
                    refine vc_goto dX12_goTurn_197 ?_
                    exact ih120 M211 (v8 + 1) 1 hB222 kp223 kp224 kp225 (by omega) (by omega) (by omega) (by omega) (by first | (rw [Int.sub_zero]; done) | (show gTk _ _ _ _ _ = gTk _ _ _ (1 - 0) _; rfl) | (rw [g120i0, show (41 - mI Mq120 54 27).toNat = (41 - mI M211 54 27).toNat + 1 by omega]; first | (rw [gTk_y (by omega) hgno (by rw [← hgx]; exact hP), ← hgx]; first | done | (congr 1; omega) | rfl) | (rw [gTk_n (by omega) hgno (by rw [← hgx]; exact hP), ← hgx]; first | done | (congr 1; omega) | rfl))) (by omega) (by omega) (by omega) (by omega) (by omega) (by omega) (by omega)
              · refine vc_iconst dX12_goTurn_132 rfl ?_
                refine vc_zret dX12_goTurn_133 rfl (by first | decide | omega) (Nat.le_of_ble_eq_true rfl) (Nat.le_of_ble_eq_true rfl) ?_
                have hgf2 : gOn S (gR Mq120) = (gR M211, false) := by rcases hgn with h | h; (exfalso; omega); (exact h.2)
                have hgno : gNo S (gR Mq120) := by by_cases e : gNo S (gR Mq120); (exact e); (rw [gOn_y e] at hgf2; exact absurd (congrArg Prod.snd hgf2).symm Bool.false_ne_true)
                have hgx : gR M211 = gR Mq120 := by rw [gOn_n hgno] at hgf2; exact (congrArg Prod.fst hgf2).symm
                exact ⟨_, rfl, hB222, kp225, kp223, kp224, by omega, by omega, by omega, Or.inr ⟨rfl, by rw [hgx]; exact gTu_f (S := S) (g := gR M) hdu (g120i0.trans (by rw [show (41 - mI Mq120 54 27).toNat = (40 - mI Mq120 54 27).toNat + 1 by omega]; exact gTk_f (by omega) hgno))⟩, hlt⟩
        refine vc_less [some (aR 54), none, some (aI s), some (aI x1), some (aI x2), some (aI 0), none, some (aI x194), some (aI 0), some (aI 0)] (lessL_keep (lessL_drop (lessL_keep (lessL_keep (lessL_keep (lessL_keep (lessL_drop (lessL_keep (lessL_keep (lessL_keep (lessL_nil))))))))))) ?_
        exact lp120 _ M 0 0 hB0 rfl rfl rfl (by omega) (by omega) (by omega) (by omega) (by first | (rw [Int.sub_zero]; done) | (show gTk _ _ _ _ _ = gTk _ _ _ (1 - 0) _; rfl) | (rw [g120i0, show (41 - mI Mq120 54 27).toNat = (41 - mI M211 54 27).toNat + 1 by omega]; first | (rw [gTk_y (by omega) hgno (by rw [← hgx]; exact hP), ← hgx]; first | done | (congr 1; omega) | rfl) | (rw [gTk_n (by omega) hgno (by rw [← hgx]; exact hP), ← hgx]; first | done | (congr 1; omega) | rfl))) (by omega) (by omega) (by omega) (by omega) (by omega) (by omega) (Nat.lt_succ_self _)
      · refine vc_iconst dX12_goTurn_68 rfl ?_
        refine vc_goto dX12_goTurn_69 ?_
        refine vc_icmp_ne dX12_goTurn_73 (fun h238 => by exfalso; omega) (fun h238 => ?_)
        refine vc_iconst dX12_goTurn_76 rfl ?_
        refine vc_goto dX12_goTurn_77 ?_
        refine vc_istore dX12_goTurn_81 (by decide) rfl (show _ = [some (aR 54), some (aI t), some (aI s), some (aI x1), some (aI x2), some (aI 0), some (aI 1), none, none, none] from rfl) ?_
        refine vc_iload_n dX12_goTurn_83 rfl ?_
        refine vc_iconst dX12_goTurn_84 rfl ?_
        refine vc_icmp_ne dX12_goTurn_85 (fun h239 => ?_) (fun h239 => by exfalso; omega)
        refine vc_aload_n dX12_goTurn_95 rfl ?_
        refine vc_getI dX12_goTurn_96 flX12_324 (s_54 hB0.1.1) rfl ?_
        have k240 : 0 ≤ mI M 54 25 ∧ mI M 54 25 ≤ 3 := b54_25 (M := M) hB0.1
        refine vc_iload dX12_goTurn_99 rfl ?_
        refine vc_if_eq dX12_goTurn_101 (fun h241 => by exfalso; omega) (fun h241 => ?_)
        refine vc_iconst dX12_goTurn_104 rfl ?_
        refine vc_goto dX12_goTurn_105 ?_
        refine vc_iaddE dX12_goTurn_109 (by omega) (by omega) ?_
        refine vc_iconst dX12_goTurn_110 rfl ?_
        refine vc_iremE dX12_goTurn_111 (by omega) (by omega) ?_
        refine vc_nameI (fun x242 ex242 => ?_)
        refine vc_istore dX12_goTurn_112 (by decide) rfl (show _ = [some (aR 54), some (aI t), some (aI s), some (aI x1), some (aI x2), some (aI 0), some (aI 1), some (aI x242), none, none] from rfl) ?_
        have hsd : x242 = (sdS (mI M 54 25) (mnS t s / 100)) := by unfold sdS; rw [hmd.1]; by_cases e1 : s % 2 ≠ 0 ∧ t / 100 ≠ 3; (rw [if_pos e1]; first | (exfalso; omega) | (rw [if_pos (by omega)]; first | done | omega) | (rw [if_neg (by omega), if_pos (by omega)]; first | done | omega) | (rw [if_neg (by omega), if_neg (by omega)]; first | done | omega)); (rw [if_neg e1]; first | (exfalso; omega) | (rw [if_pos (by omega)]; first | done | omega) | (rw [if_neg (by omega), if_pos (by omega)]; first | done | omega) | (rw [if_neg (by omega), if_neg (by omega)]; first | done | omega))
        have hdu : ((mnS t s) % 10 : Int) = if (mnS t s) / 10 % 10 = 1 then 1 else (mnS t s) % 10 := by rw [hmd.2.1]; first | (rw [if_pos (by omega)]) | (rw [if_neg (by omega)])
        have hn4 : x2 = (mnS t s) % 10 := by rw [hmd.2.2]; first | (rw [if_pos (by omega)]; omega) | (rw [if_neg (by omega)]; omega)
        have hwh : x1 = 3 ↔ (mnS t s) / 100 = 3 := by rw [mn_3 p4]; omega
        refine vc_iconst dX12_goTurn_114 rfl ?_
        refine vc_istore dX12_goTurn_115 (by decide) rfl (show _ = [some (aR 54), some (aI t), some (aI s), some (aI x1), some (aI x2), some (aI 0), some (aI 1), some (aI x242), some (aI 0), none] from rfl) ?_
        refine vc_iconst dX12_goTurn_117 rfl ?_
        refine vc_istore dX12_goTurn_118 (by decide) rfl (show _ = [some (aR 54), some (aI t), some (aI s), some (aI x1), some (aI x2), some (aI 0), some (aI 1), some (aI x242), some (aI 0), some (aI 0)] from rfl) ?_
        have lp120 : ∀ (n120 : Nat) (Mq120 : Mem) (v8 : Int) (v9 : Int), (BF fS M Mq120) → (mI Mq120 57 = mI M 57) → (mI Mq120 63 = mI M 63) → (mI Mq120 55 = mI M 55) → (0 ≤ v8) → (v8 ≤ 9) → (0 ≤ v9) → (v9 ≤ 1) → (gTk S (gCt S (mnS t s) (sdS (mI M 54 25) (mnS t s / 100)) (laS s)) (41 - mI M 54 27).toNat ((mnS t s) % 10) (gR M) = gTk S (gCt S (mnS t s) (sdS (mI M 54 25) (mnS t s / 100)) (laS s)) (41 - mI Mq120 54 27).toNat ((mnS t s) % 10 - v8) (gR Mq120)) → (mI Mq120 54 25 = mI M 54 25) → (mI Mq120 54 32 = mI M 54 32) → (0 ≤ mI Mq120 54 27) → (mI Mq120 54 27 ≤ 40) → (mI Mq120 54 24 < S 1 6) → ((v9 = 1 ∧ v8 = (mnS t s) % 10) ∨ (v9 = 0 ∧ v8 < (mnS t s) % 10)) → (40 - mI Mq120 54 27).toNat < n120 → VC l mdX12_goTurn 120 [some (aR 54), none, some (aI s), some (aI x1), some (aI x2), some (aI 0), none, some (aI x242), some (aI v8), some (aI v9)] [] Mq120 0 0 (fun q N => ∃ r : Int, q = some (aI r) ∧ BF fS M N ∧ mI N 55 = mI M 55 ∧ mI N 57 = mI M 57 ∧ mI N 63 = mI M 63 ∧ 0 ≤ r ∧ r ≤ 1 ∧ mI N 54 32 = mI M 54 32 ∧ ((r = 1 ∧ gTu S (mnS t s) (laS s) (gR M) = (gR N, true)) ∨ (r = 0 ∧ gTu S (mnS t s) (laS s) (gR M) = (gR N, false))) ∧ mI N 54 24 < S 1 6) := by
          intro n120
          induction n120 with
          | zero => intro Mq120 v8 v9 hQ120 kp120_57 kp120_63 kp120_55 g120_8a g120_8b g120_9a g120_9b g120i0 g120i1 g120i2 g120i3 g120i4 g120i5 g120i6 hm120; exact absurd hm120 (Nat.not_lt_zero _)
          | succ n120 ih120 =>
            intro Mq120 v8 v9 hQ120 kp120_57 kp120_63 kp120_55 g120_8a g120_8b g120_9a g120_9b g120i0 g120i1 g120i2 g120i3 g120i4 g120i5 g120i6 hm120
            refine vc_iload dX12_goTurn_120 rfl ?_
            refine vc_if_ne dX12_goTurn_122 (fun h243 => ?_) (fun h243 => ?_)
            · have hTq : TA (mI Mq120 55) S := by rw [kp120_55]; exact p5
              refine vc_iload_n dX12_goTurn_200 rfl ?_
              refine vc_iconst dX12_goTurn_201 rfl ?_
              refine vc_icmp_eq dX12_goTurn_202 (fun h244 => by exfalso; omega) (fun h244 => ?_)
              refine vc_aload_n dX12_goTurn_205 rfl ?_
              refine vc_iload dX12_goTurn_206 rfl ?_
              refine vc_iload_n dX12_goTurn_208 rfl ?_
              refine vc_cVI dX12_goTurn_209 (sfX12_isCountedF (M := Mq120) hQ120.1 S x242 s (by omega) (by omega) (by omega) (by omega) (by exact hTq) (by exact g120i5)) rfl okX12_isCounted viX12_isCounted lkX12_352 (s_54 hQ120.1.1) cl_12 rfl (Nat.le_of_ble_eq_true rfl) ⟨rfl, rfl⟩ (Nat.le_of_ble_eq_true rfl) (Nat.le_of_ble_eq_true rfl) (Nat.le_of_ble_eq_true rfl) ?_
              rintro x245 _ ⟨rfl, h246, h247, h248⟩
              have hct : (x245 = 1 ∧ cntS S (mI Mq120 54 24) (sdS (mI M 54 25) (mnS t s / 100)) (laS s)) ∨ (x245 = 0 ∧ ¬ cntS S (mI Mq120 54 24) (sdS (mI M 54 25) (mnS t s / 100)) (laS s)) := by rw [← hsd]; exact h248
              refine vc_if_ne dX12_goTurn_212 (fun h249 => ?_) (fun h249 => ?_)
              · refine vc_aload_n dX12_goTurn_217 rfl ?_
                refine vc_iload dX12_goTurn_218 rfl ?_
                refine vc_putI dX12_goTurn_220 (plX12_324 _ rfl) (s_54 hQ120.1.1) rfl ?_
                have kp250 : mI (sI Mq120 54 25 x242) 57 = mI M 57 := (kp_sI kp120_57 rfl)
                have kp251 : mI (sI Mq120 54 25 x242) 63 = mI M 63 := (kp_sI kp120_63 rfl)
                have kp252 : mI (sI Mq120 54 25 x242) 55 = mI M 55 := (kp_sI kp120_55 rfl)
                have hB253 : BF fS M (sI Mq120 54 25 x242) := BF.w54_25 hQ120 rfl (by omega) (by omega)
                refine vc_iconst dX12_goTurn_223 rfl ?_
                refine vc_zret dX12_goTurn_224 rfl (by first | decide | omega) (Nat.le_of_ble_eq_true rfl) (Nat.le_of_ble_eq_true rfl) ?_
                have k254 : mI (sI Mq120 54 25 x242) 54 24 = mI Mq120 54 24 := rfl
                have k255 : mI (sI Mq120 54 25 x242) 54 25 = x242 := rfl
                have k256 : mI (sI Mq120 54 25 x242) 54 27 = mI Mq120 54 27 := rfl
                have k257 : mI (sI Mq120 54 25 x242) 54 32 = mI Mq120 54 32 := rfl
                exact ⟨_, rfl, hB253, kp252, kp250, kp251, by omega, by omega, by omega, Or.inl ⟨rfl, (gTu_y (S := S) (g := gR M) (q := gR Mq120) hdu (g120i0.trans (by rw [show (41 - mI Mq120 54 27).toNat = (40 - mI Mq120 54 27).toNat + 1 by omega]; exact gTk_0 (by omega))) (by first | exact Or.inl (hwh.mp (by omega)) | exact Or.inr (by rcases hct with h2 | h2; (exact h2.2); (exfalso; omega)))).trans (by rw [show (gR M).2.1 = mI M 54 25 from rfl, ← hsd]; rfl)⟩, g120i5⟩
              · refine vc_iconst dX12_goTurn_215 rfl ?_
                refine vc_zret dX12_goTurn_216 rfl (by first | decide | omega) (Nat.le_of_ble_eq_true rfl) (Nat.le_of_ble_eq_true rfl) ?_
                exact ⟨_, rfl, hQ120, kp120_55, kp120_57, kp120_63, by omega, by omega, by omega, Or.inr ⟨rfl, gTu_n (S := S) (g := gR M) (q := gR Mq120) hdu (g120i0.trans (by rw [show (41 - mI Mq120 54 27).toNat = (40 - mI Mq120 54 27).toNat + 1 by omega]; exact gTk_0 (by omega))) (by rintro (h | h); (have h9 := hwh.mpr h; omega); (rcases hct with h2 | h2; (exfalso; omega); (exact h2.2 h)))⟩, g120i5⟩
            · have hTq : TA (mI Mq120 55) S := by rw [kp120_55]; exact p5
              refine vc_aload_n dX12_goTurn_125 rfl ?_
              refine vc_cVI dX12_goTurn_126 (sfX12_goOnF (M := Mq120) hQ120.1 S  (by exact hTq) (by exact g120i5) (by rw [kp120_57]; exact p7) (by exact p8)) rfl okX12_goOn viX12_goOn lkX12_348 (s_54 hQ120.1.1) cl_12 rfl (Nat.le_of_ble_eq_true rfl) ⟨rfl, rfl⟩ (Nat.le_of_ble_eq_true rfl) (Nat.le_of_ble_eq_true rfl) (Nat.le_of_ble_eq_true rfl) ?_
              rintro x258 M259 ⟨hB260, kp261, kp262, kp263, h264, h265, h266, h267, h268, h269⟩
              have hB270 : BF fS M M259 := BF.go hQ120 hB260
              have kp271 : mI M259 57 = mI M 57 := kp_go kp120_57 kp262
              have kp272 : mI M259 63 = mI M 63 := kp_go kp120_63 kp263
              have kp273 : mI M259 55 = mI M 55 := kp_go kp120_55 kp261
              have hgn := h268
              have hlt := h269
              have hTN : TA (mI M259 55) S := by rw [kp273]; exact p5
              have kz := b54_27 (M := M259) hB270.1
              have kz4 := b54_24 (M := M259) hB270.1
              refine vc_if_ne dX12_goTurn_129 (fun h274 => ?_) (fun h274 => ?_)
              · have hgy : gOn S (gR Mq120) = (gR M259, true) := by rcases hgn with h | h; (exact h.2); (exfalso; omega)
                have hgno : ¬ gNo S (gR Mq120) := fun e => by rw [gOn_n e] at hgy; exact Bool.false_ne_true (congrArg Prod.snd hgy)
                have hgx : gR M259 = gNx S (gR Mq120) := by rw [gOn_y hgno] at hgy; exact (congrArg Prod.fst hgy).symm
                have hgc : mI M259 54 27 = mI Mq120 54 27 + 1 := congrArg (fun g : Gw => g.2.2.1) hgx
                have hgf : mI M259 54 25 = mI Mq120 54 25 := congrArg (fun g : Gw => g.2.1) hgx
                refine vc_iload dX12_goTurn_134 rfl ?_
                refine vc_if_ne dX12_goTurn_136 (fun h275 => by exfalso; omega) (fun h275 => ?_)
                refine vc_iload_n dX12_goTurn_139 rfl ?_
                refine vc_iconst dX12_goTurn_140 rfl ?_
                refine vc_icmp_eq dX12_goTurn_141 (fun h276 => by exfalso; omega) (fun h276 => ?_)
                refine vc_aload_n dX12_goTurn_144 rfl ?_
                refine vc_iload dX12_goTurn_145 rfl ?_
                refine vc_iload_n dX12_goTurn_147 rfl ?_
                refine vc_cVI dX12_goTurn_148 (sfX12_isCountedF (M := M259) hB270.1 S x242 s (by omega) (by omega) (by omega) (by omega) (by exact hTN) (by exact hlt)) rfl okX12_isCounted viX12_isCounted lkX12_352 (s_54 hB270.1.1) cl_12 rfl (Nat.le_of_ble_eq_true rfl) ⟨rfl, rfl⟩ (Nat.le_of_ble_eq_true rfl) (Nat.le_of_ble_eq_true rfl) (Nat.le_of_ble_eq_true rfl) ?_
                rintro x277 _ ⟨rfl, h278, h279, h280⟩
                have hct : (x277 = 1 ∧ cntS S (mI M259 54 24) (sdS (mI M 54 25) (mnS t s / 100)) (laS s)) ∨ (x277 = 0 ∧ ¬ cntS S (mI M259 54 24) (sdS (mI M 54 25) (mnS t s / 100)) (laS s)) := by rw [← hsd]; exact h280
                refine vc_if_eq dX12_goTurn_151 (fun h281 => ?_) (fun h281 => ?_)
                · have hP : ¬ gCt S (mnS t s) (sdS (mI M 54 25) (mnS t s / 100)) (laS s) (mI M259 54 24) := by unfold gCt; rw [hmd.2.1]; rintro (⟨h1, h2⟩ | ⟨h1, h2 | h2⟩) <;> first | omega | (have h3 := hwh.mpr h2; omega) | (rcases hct with h | h; (exfalso; omega); (exact h.2 h2))
                  refine vc_iload dX12_goTurn_157 rfl ?_
                  refine vc_if_eq dX12_goTurn_159 (fun h282 => ?_) (fun h282 => by exfalso; omega)
                  refine vc_iload dX12_goTurn_183 rfl ?_
                  refine vc_iload dX12_goTurn_185 rfl ?_
                  refine vc_icmp_ne dX12_goTurn_187 (fun h283 => ?_) (fun h283 => ?_)
                  · refine vc_iconst dX12_goTurn_194 rfl ?_
                    refine vc_istore dX12_goTurn_195 (by decide) rfl (show _ = [some (aR 54), none, some (aI s), some (aI x1), some (aI x2), some (aI 0), none, some (aI x242), some (aI v8), some (aI 0)] from rfl) ?_
                    refine vc_goto dX12_goTurn_197 ?_
                    exact ih120 M259 v8 0 hB270 kp271 kp272 kp273 (by omega) (by omega) (by omega) (by omega) (by first | (rw [Int.sub_zero]; done) | (show gTk _ _ _ _ _ = gTk _ _ _ (1 - 0) _; rfl) | (rw [g120i0, show (41 - mI Mq120 54 27).toNat = (41 - mI M259 54 27).toNat + 1 by omega]; first | (rw [gTk_y (by omega) hgno (by rw [← hgx]; exact hP), ← hgx]; first | done | (congr 1; omega) | rfl) | (rw [gTk_n (by omega) hgno (by rw [← hgx]; exact hP), ← hgx]; first | done | (congr 1; omega) | rfl))) (by omega) (by omega) (by omega) (by omega) (by omega) (by omega) (by omega)
                  · refine vc_iconst dX12_goTurn_190 rfl ?_
                    refine vc_goto dX12_goTurn_191 ?_
                    refine vc_istore dX12_goTurn_195 (by decide) rfl (show _ = [some (aR 54), none, some (aI s), some (aI x1), some (aI x2), some (aI 0), none, some (aI x242), some (aI v8), some (aI 1)] from rfl) ?_
                    refine vc_goto dX12_goTurn_197 ?_
                    exact ih120 M259 v8 1 hB270 kp271 kp272 kp273 (by omega) (by omega) (by omega) (by omega) (by first | (rw [Int.sub_zero]; done) | (show gTk _ _ _ _ _ = gTk _ _ _ (1 - 0) _; rfl) | (rw [g120i0, show (41 - mI Mq120 54 27).toNat = (41 - mI M259 54 27).toNat + 1 by omega]; first | (rw [gTk_y (by omega) hgno (by rw [← hgx]; exact hP), ← hgx]; first | done | (congr 1; omega) | rfl) | (rw [gTk_n (by omega) hgno (by rw [← hgx]; exact hP), ← hgx]; first | done | (congr 1; omega) | rfl))) (by omega) (by omega) (by omega) (by omega) (by omega) (by omega) (by omega)
                · have hP : gCt S (mnS t s) (sdS (mI M 54 25) (mnS t s / 100)) (laS s) (mI M259 54 24) := by unfold gCt; rw [hmd.2.1]; first | exact Or.inl ⟨by omega, by omega⟩ | exact Or.inr ⟨by omega, Or.inl (hwh.mp (by omega))⟩ | exact Or.inr ⟨by omega, Or.inr (by rcases hct with h | h; (exact h.2); (exfalso; omega))⟩
                  refine vc_iincE dX12_goTurn_154 rfl (by omega) (by omega) (by decide) rfl (show _ = [some (aR 54), none, some (aI s), some (aI x1), some (aI x2), some (aI 0), none, some (aI x242), some (aI (v8 + 1)), some (aI v9)] from rfl) ?_
                  refine vc_iload dX12_goTurn_157 rfl ?_
                  refine vc_if_eq dX12_goTurn_159 (fun h284 => ?_) (fun h284 => by exfalso; omega)
                  refine vc_iload dX12_goTurn_183 rfl ?_
                  refine vc_iload dX12_goTurn_185 rfl ?_
                  refine vc_icmp_ne dX12_goTurn_187 (fun h285 => ?_) (fun h285 => ?_)
                  · refine vc_iconst dX12_goTurn_194 rfl ?_
                    refine vc_istore dX12_goTurn_195 (by decide) rfl (show _ = [some (aR 54), none, some (aI s), some (aI x1), some (aI x2), some (aI 0), none, some (aI x242), some (aI (v8 + 1)), some (aI 0)] from rfl) ?_
                    refine vc_goto dX12_goTurn_197 ?_
                    exact ih120 M259 (v8 + 1) 0 hB270 kp271 kp272 kp273 (by omega) (by omega) (by omega) (by omega) (by first | (rw [Int.sub_zero]; done) | (show gTk _ _ _ _ _ = gTk _ _ _ (1 - 0) _; rfl) | (rw [g120i0, show (41 - mI Mq120 54 27).toNat = (41 - mI M259 54 27).toNat + 1 by omega]; first | (rw [gTk_y (by omega) hgno (by rw [← hgx]; exact hP), ← hgx]; first | done | (congr 1; omega) | rfl) | (rw [gTk_n (by omega) hgno (by rw [← hgx]; exact hP), ← hgx]; first | done | (congr 1; omega) | rfl))) (by omega) (by omega) (by omega) (by omega) (by omega) (by omega) (by omega)
                  · refine vc_iconst dX12_goTurn_190 rfl ?_
                    refine vc_goto dX12_goTurn_191 ?_
                    refine vc_istore dX12_goTurn_195 (by decide) rfl (show _ = [some (aR 54), none, some (aI s), some (aI x1), some (aI x2), some (aI 0), none, some (aI x242), some (aI (v8 + 1)), some (aI 1)] from rfl) ?_
                    refine vc_goto dX12_goTurn_197 ?_
                    exact ih120 M259 (v8 + 1) 1 hB270 kp271 kp272 kp273 (by omega) (by omega) (by omega) (by omega) (by first | (rw [Int.sub_zero]; done) | (show gTk _ _ _ _ _ = gTk _ _ _ (1 - 0) _; rfl) | (rw [g120i0, show (41 - mI Mq120 54 27).toNat = (41 - mI M259 54 27).toNat + 1 by omega]; first | (rw [gTk_y (by omega) hgno (by rw [← hgx]; exact hP), ← hgx]; first | done | (congr 1; omega) | rfl) | (rw [gTk_n (by omega) hgno (by rw [← hgx]; exact hP), ← hgx]; first | done | (congr 1; omega) | rfl))) (by omega) (by omega) (by omega) (by omega) (by omega) (by omega) (by omega)
              · refine vc_iconst dX12_goTurn_132 rfl ?_
                refine vc_zret dX12_goTurn_133 rfl (by first | decide | omega) (Nat.le_of_ble_eq_true rfl) (Nat.le_of_ble_eq_true rfl) ?_
                have hgf2 : gOn S (gR Mq120) = (gR M259, false) := by rcases hgn with h | h; (exfalso; omega); (exact h.2)
                have hgno : gNo S (gR Mq120) := by by_cases e : gNo S (gR Mq120); (exact e); (rw [gOn_y e] at hgf2; exact absurd (congrArg Prod.snd hgf2).symm Bool.false_ne_true)
                have hgx : gR M259 = gR Mq120 := by rw [gOn_n hgno] at hgf2; exact (congrArg Prod.fst hgf2).symm
                exact ⟨_, rfl, hB270, kp273, kp271, kp272, by omega, by omega, by omega, Or.inr ⟨rfl, by rw [hgx]; exact gTu_f (S := S) (g := gR M) hdu (g120i0.trans (by rw [show (41 - mI Mq120 54 27).toNat = (40 - mI Mq120 54 27).toNat + 1 by omega]; exact gTk_f (by omega) hgno))⟩, hlt⟩
        refine vc_less [some (aR 54), none, some (aI s), some (aI x1), some (aI x2), some (aI 0), none, some (aI x242), some (aI 0), some (aI 0)] (lessL_keep (lessL_drop (lessL_keep (lessL_keep (lessL_keep (lessL_keep (lessL_drop (lessL_keep (lessL_keep (lessL_keep (lessL_nil))))))))))) ?_
        exact lp120 _ M 0 0 hB0 rfl rfl rfl (by omega) (by omega) (by omega) (by omega) (by first | (rw [Int.sub_zero]; done) | (show gTk _ _ _ _ _ = gTk _ _ _ (1 - 0) _; rfl) | (rw [g120i0, show (41 - mI Mq120 54 27).toNat = (41 - mI M259 54 27).toNat + 1 by omega]; first | (rw [gTk_y (by omega) hgno (by rw [← hgx]; exact hP), ← hgx]; first | done | (congr 1; omega) | rfl) | (rw [gTk_n (by omega) hgno (by rw [← hgx]; exact hP), ← hgx]; first | done | (congr 1; omega) | rfl))) (by omega) (by omega) (by omega) (by omega) (by omega) (by omega) (Nat.lt_succ_self _)
  · refine vc_iconst dX12_goTurn_22 rfl ?_
    refine vc_goto dX12_goTurn_23 ?_
    refine vc_istore dX12_goTurn_27 (by decide) rfl (show _ = [some (aR 54), some (aI t), some (aI s), some (aI x1), some (aI x2), some (aI 1), none, none, none, none] from rfl) ?_
    refine vc_iload dX12_goTurn_29 rfl ?_
    refine vc_if_eq dX12_goTurn_31 (fun h286 => by exfalso; omega) (fun h286 => ?_)
    refine vc_iload_n dX12_goTurn_34 rfl ?_
    refine vc_iconst dX12_goTurn_35 rfl ?_
    refine vc_iand dX12_goTurn_36 ?_
    refine vc_if_eq dX12_goTurn_37 (fun h287 => ?_) (fun h287 => ?_)
    · refine vc_iload_n dX12_goTurn_52 rfl ?_
      refine vc_iconst dX12_goTurn_53 rfl ?_
      refine vc_icmp_ne dX12_goTurn_54 (fun h288 => ?_) (fun h288 => ?_)
      · refine vc_iconst dX12_goTurn_61 rfl ?_
        refine vc_iload_n dX12_goTurn_62 rfl ?_
        refine vc_iconst dX12_goTurn_63 rfl ?_
        refine vc_iandM dX12_goTurn_64 2 1 rfl (by decide) rfl ?_
        refine vc_if_ne dX12_goTurn_65 (fun h289 => ?_) (fun h289 => ?_)
        · refine vc_iconst dX12_goTurn_72 rfl ?_
          refine vc_icmp_ne dX12_goTurn_73 (fun h290 => by exfalso; omega) (fun h290 => ?_)
          refine vc_iconst dX12_goTurn_76 rfl ?_
          refine vc_goto dX12_goTurn_77 ?_
          refine vc_istore dX12_goTurn_81 (by decide) rfl (show _ = [some (aR 54), some (aI t), some (aI s), some (aI x1), some (aI x2), some (aI 1), some (aI 1), none, none, none] from rfl) ?_
          refine vc_iload_n dX12_goTurn_83 rfl ?_
          refine vc_iconst dX12_goTurn_84 rfl ?_
          refine vc_icmp_ne dX12_goTurn_85 (fun h291 => ?_) (fun h291 => ?_)
          · refine vc_aload_n dX12_goTurn_95 rfl ?_
            refine vc_getI dX12_goTurn_96 flX12_324 (s_54 hB0.1.1) rfl ?_
            have k292 : 0 ≤ mI M 54 25 ∧ mI M 54 25 ≤ 3 := b54_25 (M := M) hB0.1
            refine vc_iload dX12_goTurn_99 rfl ?_
            refine vc_if_eq dX12_goTurn_101 (fun h293 => by exfalso; omega) (fun h293 => ?_)
            refine vc_iconst dX12_goTurn_104 rfl ?_
            refine vc_goto dX12_goTurn_105 ?_
            refine vc_iaddE dX12_goTurn_109 (by omega) (by omega) ?_
            refine vc_iconst dX12_goTurn_110 rfl ?_
            refine vc_iremE dX12_goTurn_111 (by omega) (by omega) ?_
            refine vc_nameI (fun x294 ex294 => ?_)
            refine vc_istore dX12_goTurn_112 (by decide) rfl (show _ = [some (aR 54), some (aI t), some (aI s), some (aI x1), some (aI x2), some (aI 1), some (aI 1), some (aI x294), none, none] from rfl) ?_
            have hsd : x294 = (sdS (mI M 54 25) (mnS t s / 100)) := by unfold sdS; rw [hmd.1]; by_cases e1 : s % 2 ≠ 0 ∧ t / 100 ≠ 3; (rw [if_pos e1]; first | (exfalso; omega) | (rw [if_pos (by omega)]; first | done | omega) | (rw [if_neg (by omega), if_pos (by omega)]; first | done | omega) | (rw [if_neg (by omega), if_neg (by omega)]; first | done | omega)); (rw [if_neg e1]; first | (exfalso; omega) | (rw [if_pos (by omega)]; first | done | omega) | (rw [if_neg (by omega), if_pos (by omega)]; first | done | omega) | (rw [if_neg (by omega), if_neg (by omega)]; first | done | omega))
            have hdu : (1 : Int) = if (mnS t s) / 10 % 10 = 1 then 1 else (mnS t s) % 10 := by rw [hmd.2.1]; first | (rw [if_pos (by omega)]) | (rw [if_neg (by omega)])
            have hn4 : x2 = (mnS t s) % 10 := by rw [hmd.2.2]; first | (rw [if_pos (by omega)]; omega) | (rw [if_neg (by omega)]; omega)
            have hwh : x1 = 3 ↔ (mnS t s) / 100 = 3 := by rw [mn_3 p4]; omega
            refine vc_iconst dX12_goTurn_114 rfl ?_
            refine vc_istore dX12_goTurn_115 (by decide) rfl (show _ = [some (aR 54), some (aI t), some (aI s), some (aI x1), some (aI x2), some (aI 1), some (aI 1), some (aI x294), some (aI 0), none] from rfl) ?_
            refine vc_iconst dX12_goTurn_117 rfl ?_
            refine vc_istore dX12_goTurn_118 (by decide) rfl (show _ = [some (aR 54), some (aI t), some (aI s), some (aI x1), some (aI x2), some (aI 1), some (aI 1), some (aI x294), some (aI 0), some (aI 0)] from rfl) ?_
            have lp120 : ∀ (n120 : Nat) (Mq120 : Mem) (v8 : Int) (v9 : Int), (BF fS M Mq120) → (mI Mq120 57 = mI M 57) → (mI Mq120 63 = mI M 63) → (mI Mq120 55 = mI M 55) → (0 ≤ v8) → (0 ≤ v9) → (v9 ≤ 1) → (gTk S (gCt S (mnS t s) (sdS (mI M 54 25) (mnS t s / 100)) (laS s)) (41 - mI M 54 27).toNat (1) (gR M) = gTk S (gCt S (mnS t s) (sdS (mI M 54 25) (mnS t s / 100)) (laS s)) (41 - mI Mq120 54 27).toNat (1 - v9) (gR Mq120)) → (mI Mq120 54 25 = mI M 54 25) → (mI Mq120 54 32 = mI M 54 32) → (0 ≤ mI Mq120 54 27) → (mI Mq120 54 27 ≤ 40) → (mI Mq120 54 24 < S 1 6) → (40 - mI Mq120 54 27).toNat < n120 → VC l mdX12_goTurn 120 [some (aR 54), none, some (aI s), some (aI x1), some (aI x2), some (aI 1), none, some (aI x294), some (aI v8), some (aI v9)] [] Mq120 0 0 (fun q N => ∃ r : Int, q = some (aI r) ∧ BF fS M N ∧ mI N 55 = mI M 55 ∧ mI N 57 = mI M 57 ∧ mI N 63 = mI M 63 ∧ 0 ≤ r ∧ r ≤ 1 ∧ mI N 54 32 = mI M 54 32 ∧ ((r = 1 ∧ gTu S (mnS t s) (laS s) (gR M) = (gR N, true)) ∨ (r = 0 ∧ gTu S (mnS t s) (laS s) (gR M) = (gR N, false))) ∧ mI N 54 24 < S 1 6) := by
              intro n120
              induction n120 with
              | zero => intro Mq120 v8 v9 hQ120 kp120_57 kp120_63 kp120_55 g120_8a g120_9a g120_9b g120i0 g120i1 g120i2 g120i3 g120i4 g120i5 hm120; exact absurd hm120 (Nat.not_lt_zero _)
              | succ n120 ih120 =>
                intro Mq120 v8 v9 hQ120 kp120_57 kp120_63 kp120_55 g120_8a g120_9a g120_9b g120i0 g120i1 g120i2 g120i3 g120i4 g120i5 hm120
                refine vc_iload dX12_goTurn_120 rfl ?_
                refine vc_if_ne dX12_goTurn_122 (fun h295 => ?_) (fun h295 => ?_)
                · have hTq : TA (mI Mq120 55) S := by rw [kp120_55]; exact p5
                  refine vc_iload_n dX12_goTurn_200 rfl ?_
                  refine vc_iconst dX12_goTurn_201 rfl ?_
                  refine vc_icmp_eq dX12_goTurn_202 (fun h296 => ?_) (fun h296 => ?_)
                  · refine vc_aload_n dX12_goTurn_217 rfl ?_
                    refine vc_iload dX12_goTurn_218 rfl ?_
                    refine vc_putI dX12_goTurn_220 (plX12_324 _ rfl) (s_54 hQ120.1.1) rfl ?_
                    have kp297 : mI (sI Mq120 54 25 x294) 57 = mI M 57 := (kp_sI kp120_57 rfl)
                    have kp298 : mI (sI Mq120 54 25 x294) 63 = mI M 63 := (kp_sI kp120_63 rfl)
                    have kp299 : mI (sI Mq120 54 25 x294) 55 = mI M 55 := (kp_sI kp120_55 rfl)
                    have hB300 : BF fS M (sI Mq120 54 25 x294) := BF.w54_25 hQ120 rfl (by omega) (by omega)
                    refine vc_iconst dX12_goTurn_223 rfl ?_
                    refine vc_zret dX12_goTurn_224 rfl (by first | decide | omega) (Nat.le_of_ble_eq_true rfl) (Nat.le_of_ble_eq_true rfl) ?_
                    have k301 : mI (sI Mq120 54 25 x294) 54 24 = mI Mq120 54 24 := rfl
                    have k302 : mI (sI Mq120 54 25 x294) 54 25 = x294 := rfl
                    have k303 : mI (sI Mq120 54 25 x294) 54 27 = mI Mq120 54 27 := rfl
                    have k304 : mI (sI Mq120 54 25 x294) 54 32 = mI Mq120 54 32 := rfl
                    exact ⟨_, rfl, hB300, kp299, kp297, kp298, by omega, by omega, by omega, Or.inl ⟨rfl, (gTu_y (S := S) (g := gR M) (q := gR Mq120) hdu (g120i0.trans (by rw [show (41 - mI Mq120 54 27).toNat = (40 - mI Mq120 54 27).toNat + 1 by omega]; exact gTk_0 (by omega))) (by first | exact Or.inl (hwh.mp (by omega)) | exact Or.inr (by rcases hct with h2 | h2; (exact h2.2); (exfalso; omega)))).trans (by rw [show (gR M).2.1 = mI M 54 25 from rfl, ← hsd]; rfl)⟩, g120i5⟩
                  · refine vc_aload_n dX12_goTurn_205 rfl ?_
                    refine vc_iload dX12_goTurn_206 rfl ?_
                    refine vc_iload_n dX12_goTurn_208 rfl ?_
                    refine vc_cVI dX12_goTurn_209 (sfX12_isCountedF (M := Mq120) hQ120.1 S x294 s (by omega) (by omega) (by omega) (by omega) (by exact hTq) (by exact g120i5)) rfl okX12_isCounted viX12_isCounted lkX12_352 (s_54 hQ120.1.1) cl_12 rfl (Nat.le_of_ble_eq_true rfl) ⟨rfl, rfl⟩ (Nat.le_of_ble_eq_true rfl) (Nat.le_of_ble_eq_true rfl) (Nat.le_of_ble_eq_true rfl) ?_
                    rintro x305 _ ⟨rfl, h306, h307, h308⟩
                    have hct : (x305 = 1 ∧ cntS S (mI Mq120 54 24) (sdS (mI M 54 25) (mnS t s / 100)) (laS s)) ∨ (x305 = 0 ∧ ¬ cntS S (mI Mq120 54 24) (sdS (mI M 54 25) (mnS t s / 100)) (laS s)) := by rw [← hsd]; exact h308
                    refine vc_if_ne dX12_goTurn_212 (fun h309 => ?_) (fun h309 => ?_)
                    · refine vc_aload_n dX12_goTurn_217 rfl ?_
                      refine vc_iload dX12_goTurn_218 rfl ?_
                      refine vc_putI dX12_goTurn_220 (plX12_324 _ rfl) (s_54 hQ120.1.1) rfl ?_
                      have kp310 : mI (sI Mq120 54 25 x294) 57 = mI M 57 := (kp_sI kp120_57 rfl)
                      have kp311 : mI (sI Mq120 54 25 x294) 63 = mI M 63 := (kp_sI kp120_63 rfl)
                      have kp312 : mI (sI Mq120 54 25 x294) 55 = mI M 55 := (kp_sI kp120_55 rfl)
                      have hB313 : BF fS M (sI Mq120 54 25 x294) := BF.w54_25 hQ120 rfl (by omega) (by omega)
                      refine vc_iconst dX12_goTurn_223 rfl ?_
                      refine vc_zret dX12_goTurn_224 rfl (by first | decide | omega) (Nat.le_of_ble_eq_true rfl) (Nat.le_of_ble_eq_true rfl) ?_
                      have k314 : mI (sI Mq120 54 25 x294) 54 24 = mI Mq120 54 24 := rfl
                      have k315 : mI (sI Mq120 54 25 x294) 54 25 = x294 := rfl
                      have k316 : mI (sI Mq120 54 25 x294) 54 27 = mI Mq120 54 27 := rfl
                      have k317 : mI (sI Mq120 54 25 x294) 54 32 = mI Mq120 54 32 := rfl
                      exact ⟨_, rfl, hB313, kp312, kp310, kp311, by omega, by omega, by omega, Or.inl ⟨rfl, (gTu_y (S := S) (g := gR M) (q := gR Mq120) hdu (g120i0.trans (by rw [show (41 - mI Mq120 54 27).toNat = (40 - mI Mq120 54 27).toNat + 1 by omega]; exact gTk_0 (by omega))) (by first | exact Or.inl (hwh.mp (by omega)) | exact Or.inr (by rcases hct with h2 | h2; (exact h2.2); (exfalso; omega)))).trans (by rw [show (gR M).2.1 = mI M 54 25 from rfl, ← hsd]; rfl)⟩, g120i5⟩
                    · refine vc_iconst dX12_goTurn_215 rfl ?_
                      refine vc_zret dX12_goTurn_216 rfl (by first | decide | omega) (Nat.le_of_ble_eq_true rfl) (Nat.le_of_ble_eq_true rfl) ?_
                      exact ⟨_, rfl, hQ120, kp120_55, kp120_57, kp120_63, by omega, by omega, by omega, Or.inr ⟨rfl, gTu_n (S := S) (g := gR M) (q := gR Mq120) hdu (g120i0.trans (by rw [show (41 - mI Mq120 54 27).toNat = (40 - mI Mq120 54 27).toNat + 1 by omega]; exact gTk_0 (by omega))) (by rintro (h | h); (have h9 := hwh.mpr h; omega); (rcases hct with h2 | h2; (exfalso; omega); (exact h2.2 h)))⟩, g120i5⟩
                · have hTq : TA (mI Mq120 55) S := by rw [kp120_55]; exact p5
                  refine vc_aload_n dX12_goTurn_125 rfl ?_
                  refine vc_cVI dX12_goTurn_126 (sfX12_goOnF (M := Mq120) hQ120.1 S  (by exact hTq) (by exact g120i5) (by rw [kp120_57]; exact p7) (by exact p8)) rfl okX12_goOn viX12_goOn lkX12_348 (s_54 hQ120.1.1) cl_12 rfl (Nat.le_of_ble_eq_true rfl) ⟨rfl, rfl⟩ (Nat.le_of_ble_eq_true rfl) (Nat.le_of_ble_eq_true rfl) (Nat.le_of_ble_eq_true rfl) ?_
                  rintro x318 M319 ⟨hB320, kp321, kp322, kp323, h324, h325, h326, h327, h328, h329⟩
                  have hB330 : BF fS M M319 := BF.go hQ120 hB320
                  have kp331 : mI M319 57 = mI M 57 := kp_go kp120_57 kp322
                  have kp332 : mI M319 63 = mI M 63 := kp_go kp120_63 kp323
                  have kp333 : mI M319 55 = mI M 55 := kp_go kp120_55 kp321
                  have hgn := h328
                  have hlt := h329
                  have hTN : TA (mI M319 55) S := by rw [kp333]; exact p5
                  have kz := b54_27 (M := M319) hB330.1
                  have kz4 := b54_24 (M := M319) hB330.1
                  refine vc_if_ne dX12_goTurn_129 (fun h334 => ?_) (fun h334 => ?_)
                  · have hgy : gOn S (gR Mq120) = (gR M319, true) := by rcases hgn with h | h; (exact h.2); (exfalso; omega)
                    have hgno : ¬ gNo S (gR Mq120) := fun e => by rw [gOn_n e] at hgy; exact Bool.false_ne_true (congrArg Prod.snd hgy)
                    have hgx : gR M319 = gNx S (gR Mq120) := by rw [gOn_y hgno] at hgy; exact (congrArg Prod.fst hgy).symm
                    have hgc : mI M319 54 27 = mI Mq120 54 27 + 1 := congrArg (fun g : Gw => g.2.2.1) hgx
                    have hgf : mI M319 54 25 = mI Mq120 54 25 := congrArg (fun g : Gw => g.2.1) hgx
                    refine vc_iload dX12_goTurn_134 rfl ?_
                    refine vc_if_ne dX12_goTurn_136 (fun h335 => ?_) (fun h335 => by exfalso; omega)
                    refine vc_iload dX12_goTurn_157 rfl ?_
                    refine vc_if_eq dX12_goTurn_159 (fun h336 => by exfalso; omega) (fun h336 => ?_)
                    refine vc_aload_n dX12_goTurn_162 rfl ?_
                    refine vc_aload_n dX12_goTurn_163 rfl ?_
                    refine vc_getI dX12_goTurn_164 flX12_321 (s_54 hB330.1.1) rfl ?_
                    have k337 : 0 ≤ mI M319 54 24 ∧ mI M319 54 24 ≤ 15 := b54_24 (M := M319) hB330.1
                    refine vc_cVI dX12_goTurn_167 (sfX12_sightOfF (M := M319) hB330.1  (mI M319 54 24) (by omega) (by omega)) rfl okX12_sightOf viX12_sightOf lkX12_318 (s_54 hB330.1.1) cl_12 rfl (Nat.le_of_ble_eq_true rfl) ⟨rfl, rfl⟩ (Nat.le_of_ble_eq_true rfl) (Nat.le_of_ble_eq_true rfl) (Nat.le_of_ble_eq_true rfl) ?_
                    rintro x338 _ ⟨rfl, h339⟩
                    have hsi : x338 = siS S (mI M319 54 24) := h339.trans (hTN.si (by omega) hlt)
                    refine vc_iload dX12_goTurn_170 rfl ?_
                    refine vc_icmp_ne dX12_goTurn_172 (fun h340 => ?_) (fun h340 => ?_)
                    · have hP : ¬ gCt S (mnS t s) (sdS (mI M 54 25) (mnS t s / 100)) (laS s) (mI M319 54 24) := by unfold gCt; rw [hmd.2.1]; rintro (⟨h1, h2⟩ | ⟨h1, h2 | h2⟩) <;> first | omega | (have h3 := hwh.mpr h2; omega) | (rcases hct with h | h; (exfalso; omega); (exact h.2 h2))
                      refine vc_iconst dX12_goTurn_179 rfl ?_
                      refine vc_goto dX12_goTurn_180 ?_
                      refine vc_istore dX12_goTurn_195 (by decide) rfl (show _ = [some (aR 54), none, some (aI s), some (aI x1), some (aI x2), some (aI 1), none, some (aI x294), some (aI v8), some (aI 0)] from rfl) ?_
                      refine vc_goto dX12_goTurn_197 ?_
                      exact ih120 M319 v8 0 hB330 kp331 kp332 kp333 (by omega) (by omega) (by omega) (by first | (rw [Int.sub_zero]; done) | (show gTk _ _ _ _ _ = gTk _ _ _ (1 - 0) _; rfl) | (rw [g120i0, show (41 - mI Mq120 54 27).toNat = (41 - mI M319 54 27).toNat + 1 by omega]; first | (rw [gTk_y (by omega) hgno (by rw [← hgx]; exact hP), ← hgx]; first | done | (congr 1; omega) | rfl) | (rw [gTk_n (by omega) hgno (by rw [← hgx]; exact hP), ← hgx]; first | done | (congr 1; omega) | rfl))) (by omega) (by omega) (by omega) (by omega) (by omega) (by omega)
                    · have hP : gCt S (mnS t s) (sdS (mI M 54 25) (mnS t s / 100)) (laS s) (mI M319 54 24) := by unfold gCt; rw [hmd.2.1]; first | exact Or.inl ⟨by omega, by omega⟩ | exact Or.inr ⟨by omega, Or.inl (hwh.mp (by omega))⟩ | exact Or.inr ⟨by omega, Or.inr (by rcases hct with h | h; (exact h.2); (exfalso; omega))⟩
                      refine vc_iconst dX12_goTurn_175 rfl ?_
                      refine vc_goto dX12_goTurn_176 ?_
                      refine vc_istore dX12_goTurn_195 (by decide) rfl (show _ = [some (aR 54), none, some (aI s), some (aI x1), some (aI x2), some (aI 1), none, some (aI x294), some (aI v8), some (aI 1)] from rfl) ?_
                      refine vc_goto dX12_goTurn_197 ?_
                      exact ih120 M319 v8 1 hB330 kp331 kp332 kp333 (by omega) (by omega) (by omega) (by first | (rw [Int.sub_zero]; done) | (show gTk _ _ _ _ _ = gTk _ _ _ (1 - 0) _; rfl) | (rw [g120i0, show (41 - mI Mq120 54 27).toNat = (41 - mI M319 54 27).toNat + 1 by omega]; first | (rw [gTk_y (by omega) hgno (by rw [← hgx]; exact hP), ← hgx]; first | done | (congr 1; omega) | rfl) | (rw [gTk_n (by omega) hgno (by rw [← hgx]; exact hP), ← hgx]; first | done | (congr 1; omega) | rfl))) (by omega) (by omega) (by omega) (by omega) (by omega) (by omega)
                  · refine vc_iconst dX12_goTurn_132 rfl ?_
                    refine vc_zret dX12_goTurn_133 rfl (by first | decide | omega) (Nat.le_of_ble_eq_true rfl) (Nat.le_of_ble_eq_true rfl) ?_
                    have hgf2 : gOn S (gR Mq120) = (gR M319, false) := by rcases hgn with h | h; (exfalso; omega); (exact h.2)
                    have hgno : gNo S (gR Mq120) := by by_cases e : gNo S (gR Mq120); (exact e); (rw [gOn_y e] at hgf2; exact absurd (congrArg Prod.snd hgf2).symm Bool.false_ne_true)
                    have hgx : gR M319 = gR Mq120 := by rw [gOn_n hgno] at hgf2; exact (congrArg Prod.fst hgf2).symm
                    exact ⟨_, rfl, hB330, kp333, kp331, kp332, by omega, by omega, by omega, Or.inr ⟨rfl, by rw [hgx]; exact gTu_f (S := S) (g := gR M) hdu (g120i0.trans (by rw [show (41 - mI Mq120 54 27).toNat = (40 - mI Mq120 54 27).toNat + 1 by omega]; exact gTk_f (by omega) hgno))⟩, hlt⟩
            refine vc_less [some (aR 54), none, some (aI s), some (aI x1), some (aI x2), some (aI 1), none, some (aI x294), some (aI 0), some (aI 0)] (lessL_keep (lessL_drop (lessL_keep (lessL_keep (lessL_keep (lessL_keep (lessL_drop (lessL_keep (lessL_keep (lessL_keep (lessL_nil))))))))))) ?_
            exact lp120 _ M 0 0 hB0 rfl rfl rfl (by omega) (by omega) (by omega) (by first | (rw [Int.sub_zero]; done) | (show gTk _ _ _ _ _ = gTk _ _ _ (1 - 0) _; rfl) | (rw [g120i0, show (41 - mI Mq120 54 27).toNat = (41 - mI M319 54 27).toNat + 1 by omega]; first | (rw [gTk_y (by omega) hgno (by rw [← hgx]; exact hP), ← hgx]; first | done | (congr 1; omega) | rfl) | (rw [gTk_n (by omega) hgno (by rw [← hgx]; exact hP), ← hgx]; first | done | (congr 1; omega) | rfl))) (by omega) (by omega) (by omega) (by omega) (by omega) (Nat.lt_succ_self _)
          · refine vc_aload_n dX12_goTurn_88 rfl ?_
            refine vc_getI dX12_goTurn_89 flX12_324 (s_54 hB0.1.1) rfl ?_
            have k341 : 0 ≤ mI M 54 25 ∧ mI M 54 25 ≤ 3 := b54_25 (M := M) hB0.1
            refine vc_goto dX12_goTurn_92 ?_
            refine vc_nameI (fun x342 ex342 => ?_)
            refine vc_istore dX12_goTurn_112 (by decide) rfl (show _ = [some (aR 54), some (aI t), some (aI s), some (aI x1), some (aI x2), some (aI 1), some (aI 1), some (aI x342), none, none] from rfl) ?_
            have hsd : x342 = (sdS (mI M 54 25) (mnS t s / 100)) := by unfold sdS; rw [hmd.1]; by_cases e1 : s % 2 ≠ 0 ∧ t / 100 ≠ 3; (rw [if_pos e1]; first | (exfalso; omega) | (rw [if_pos (by omega)]; first | done | omega) | (rw [if_neg (by omega), if_pos (by omega)]; first | done | omega) | (rw [if_neg (by omega), if_neg (by omega)]; first | done | omega)); (rw [if_neg e1]; first | (exfalso; omega) | (rw [if_pos (by omega)]; first | done | omega) | (rw [if_neg (by omega), if_pos (by omega)]; first | done | omega) | (rw [if_neg (by omega), if_neg (by omega)]; first | done | omega))
            have hdu : (1 : Int) = if (mnS t s) / 10 % 10 = 1 then 1 else (mnS t s) % 10 := by rw [hmd.2.1]; first | (rw [if_pos (by omega)]) | (rw [if_neg (by omega)])
            have hn4 : x2 = (mnS t s) % 10 := by rw [hmd.2.2]; first | (rw [if_pos (by omega)]; omega) | (rw [if_neg (by omega)]; omega)
            have hwh : x1 = 3 ↔ (mnS t s) / 100 = 3 := by rw [mn_3 p4]; omega
            refine vc_iconst dX12_goTurn_114 rfl ?_
            refine vc_istore dX12_goTurn_115 (by decide) rfl (show _ = [some (aR 54), some (aI t), some (aI s), some (aI x1), some (aI x2), some (aI 1), some (aI 1), some (aI x342), some (aI 0), none] from rfl) ?_
            refine vc_iconst dX12_goTurn_117 rfl ?_
            refine vc_istore dX12_goTurn_118 (by decide) rfl (show _ = [some (aR 54), some (aI t), some (aI s), some (aI x1), some (aI x2), some (aI 1), some (aI 1), some (aI x342), some (aI 0), some (aI 0)] from rfl) ?_
            have lp120 : ∀ (n120 : Nat) (Mq120 : Mem) (v8 : Int) (v9 : Int), (BF fS M Mq120) → (mI Mq120 57 = mI M 57) → (mI Mq120 63 = mI M 63) → (mI Mq120 55 = mI M 55) → (0 ≤ v8) → (0 ≤ v9) → (v9 ≤ 1) → (gTk S (gCt S (mnS t s) (sdS (mI M 54 25) (mnS t s / 100)) (laS s)) (41 - mI M 54 27).toNat (1) (gR M) = gTk S (gCt S (mnS t s) (sdS (mI M 54 25) (mnS t s / 100)) (laS s)) (41 - mI Mq120 54 27).toNat (1 - v9) (gR Mq120)) → (mI Mq120 54 25 = mI M 54 25) → (mI Mq120 54 32 = mI M 54 32) → (0 ≤ mI Mq120 54 27) → (mI Mq120 54 27 ≤ 40) → (mI Mq120 54 24 < S 1 6) → (40 - mI Mq120 54 27).toNat < n120 → VC l mdX12_goTurn 120 [some (aR 54), none, some (aI s), some (aI x1), some (aI x2), some (aI 1), none, some (aI x342), some (aI v8), some (aI v9)] [] Mq120 0 0 (fun q N => ∃ r : Int, q = some (aI r) ∧ BF fS M N ∧ mI N 55 = mI M 55 ∧ mI N 57 = mI M 57 ∧ mI N 63 = mI M 63 ∧ 0 ≤ r ∧ r ≤ 1 ∧ mI N 54 32 = mI M 54 32 ∧ ((r = 1 ∧ gTu S (mnS t s) (laS s) (gR M) = (gR N, true)) ∨ (r = 0 ∧ gTu S (mnS t s) (laS s) (gR M) = (gR N, false))) ∧ mI N 54 24 < S 1 6) := by
              intro n120
              induction n120 with
              | zero => intro Mq120 v8 v9 hQ120 kp120_57 kp120_63 kp120_55 g120_8a g120_9a g120_9b g120i0 g120i1 g120i2 g120i3 g120i4 g120i5 hm120; exact absurd hm120 (Nat.not_lt_zero _)
              | succ n120 ih120 =>
                intro Mq120 v8 v9 hQ120 kp120_57 kp120_63 kp120_55 g120_8a g120_9a g120_9b g120i0 g120i1 g120i2 g120i3 g120i4 g120i5 hm120
                refine vc_iload dX12_goTurn_120 rfl ?_
                refine vc_if_ne dX12_goTurn_122 (fun h343 => ?_) (fun h343 => ?_)
                · have hTq : TA (mI Mq120 55) S := by rw [kp120_55]; exact p5
                  refine vc_iload_n dX12_goTurn_200 rfl ?_
                  refine vc_iconst dX12_goTurn_201 rfl ?_
                  refine vc_icmp_eq dX12_goTurn_202 (fun h344 => ?_) (fun h344 => by exfalso; omega)
                  refine vc_aload_n dX12_goTurn_217 rfl ?_
                  refine vc_iload dX12_goTurn_218 rfl ?_
                  refine vc_putI dX12_goTurn_220 (plX12_324 _ rfl) (s_54 hQ120.1.1) rfl ?_
                  have kp345 : mI (sI Mq120 54 25 x342) 57 = mI M 57 := (kp_sI kp120_57 rfl)
                  have kp346 : mI (sI Mq120 54 25 x342) 63 = mI M 63 := (kp_sI kp120_63 rfl)
                  have kp347 : mI (sI Mq120 54 25 x342) 55 = mI M 55 := (kp_sI kp120_55 rfl)
                  have hB348 : BF fS M (sI Mq120 54 25 x342) := BF.w54_25 hQ120 rfl (by omega) (by omega)
                  refine vc_iconst dX12_goTurn_223 rfl ?_
                  refine vc_zret dX12_goTurn_224 rfl (by first | decide | omega) (Nat.le_of_ble_eq_true rfl) (Nat.le_of_ble_eq_true rfl) ?_
                  have k349 : mI (sI Mq120 54 25 x342) 54 24 = mI Mq120 54 24 := rfl
                  have k350 : mI (sI Mq120 54 25 x342) 54 25 = x342 := rfl
                  have k351 : mI (sI Mq120 54 25 x342) 54 27 = mI Mq120 54 27 := rfl
                  have k352 : mI (sI Mq120 54 25 x342) 54 32 = mI Mq120 54 32 := rfl
                  exact ⟨_, rfl, hB348, kp347, kp345, kp346, by omega, by omega, by omega, Or.inl ⟨rfl, (gTu_y (S := S) (g := gR M) (q := gR Mq120) hdu (g120i0.trans (by rw [show (41 - mI Mq120 54 27).toNat = (40 - mI Mq120 54 27).toNat + 1 by omega]; exact gTk_0 (by omega))) (by first | exact Or.inl (hwh.mp (by omega)) | exact Or.inr (by rcases hct with h2 | h2; (exact h2.2); (exfalso; omega)))).trans (by rw [show (gR M).2.1 = mI M 54 25 from rfl, ← hsd]; rfl)⟩, g120i5⟩
                · have hTq : TA (mI Mq120 55) S := by rw [kp120_55]; exact p5
                  refine vc_aload_n dX12_goTurn_125 rfl ?_
                  refine vc_cVI dX12_goTurn_126 (sfX12_goOnF (M := Mq120) hQ120.1 S  (by exact hTq) (by exact g120i5) (by rw [kp120_57]; exact p7) (by exact p8)) rfl okX12_goOn viX12_goOn lkX12_348 (s_54 hQ120.1.1) cl_12 rfl (Nat.le_of_ble_eq_true rfl) ⟨rfl, rfl⟩ (Nat.le_of_ble_eq_true rfl) (Nat.le_of_ble_eq_true rfl) (Nat.le_of_ble_eq_true rfl) ?_
                  rintro x353 M354 ⟨hB355, kp356, kp357, kp358, h359, h360, h361, h362, h363, h364⟩
                  have hB365 : BF fS M M354 := BF.go hQ120 hB355
                  have kp366 : mI M354 57 = mI M 57 := kp_go kp120_57 kp357
                  have kp367 : mI M354 63 = mI M 63 := kp_go kp120_63 kp358
                  have kp368 : mI M354 55 = mI M 55 := kp_go kp120_55 kp356
                  have hgn := h363
                  have hlt := h364
                  have hTN : TA (mI M354 55) S := by rw [kp368]; exact p5
                  have kz := b54_27 (M := M354) hB365.1
                  have kz4 := b54_24 (M := M354) hB365.1
                  refine vc_if_ne dX12_goTurn_129 (fun h369 => ?_) (fun h369 => ?_)
                  · have hgy : gOn S (gR Mq120) = (gR M354, true) := by rcases hgn with h | h; (exact h.2); (exfalso; omega)
                    have hgno : ¬ gNo S (gR Mq120) := fun e => by rw [gOn_n e] at hgy; exact Bool.false_ne_true (congrArg Prod.snd hgy)
                    have hgx : gR M354 = gNx S (gR Mq120) := by rw [gOn_y hgno] at hgy; exact (congrArg Prod.fst hgy).symm
                    have hgc : mI M354 54 27 = mI Mq120 54 27 + 1 := congrArg (fun g : Gw => g.2.2.1) hgx
                    have hgf : mI M354 54 25 = mI Mq120 54 25 := congrArg (fun g : Gw => g.2.1) hgx
                    refine vc_iload dX12_goTurn_134 rfl ?_
                    refine vc_if_ne dX12_goTurn_136 (fun h370 => ?_) (fun h370 => by exfalso; omega)
                    refine vc_iload dX12_goTurn_157 rfl ?_
                    refine vc_if_eq dX12_goTurn_159 (fun h371 => by exfalso; omega) (fun h371 => ?_)
                    refine vc_aload_n dX12_goTurn_162 rfl ?_
                    refine vc_aload_n dX12_goTurn_163 rfl ?_
                    refine vc_getI dX12_goTurn_164 flX12_321 (s_54 hB365.1.1) rfl ?_
                    have k372 : 0 ≤ mI M354 54 24 ∧ mI M354 54 24 ≤ 15 := b54_24 (M := M354) hB365.1
                    refine vc_cVI dX12_goTurn_167 (sfX12_sightOfF (M := M354) hB365.1  (mI M354 54 24) (by omega) (by omega)) rfl okX12_sightOf viX12_sightOf lkX12_318 (s_54 hB365.1.1) cl_12 rfl (Nat.le_of_ble_eq_true rfl) ⟨rfl, rfl⟩ (Nat.le_of_ble_eq_true rfl) (Nat.le_of_ble_eq_true rfl) (Nat.le_of_ble_eq_true rfl) ?_
                    rintro x373 _ ⟨rfl, h374⟩
                    have hsi : x373 = siS S (mI M354 54 24) := h374.trans (hTN.si (by omega) hlt)
                    refine vc_iload dX12_goTurn_170 rfl ?_
                    refine vc_icmp_ne dX12_goTurn_172 (fun h375 => ?_) (fun h375 => ?_)
                    · have hP : ¬ gCt S (mnS t s) (sdS (mI M 54 25) (mnS t s / 100)) (laS s) (mI M354 54 24) := by unfold gCt; rw [hmd.2.1]; rintro (⟨h1, h2⟩ | ⟨h1, h2 | h2⟩) <;> first | omega | (have h3 := hwh.mpr h2; omega) | (rcases hct with h | h; (exfalso; omega); (exact h.2 h2))
                      refine vc_iconst dX12_goTurn_179 rfl ?_
                      refine vc_goto dX12_goTurn_180 ?_
                      refine vc_istore dX12_goTurn_195 (by decide) rfl (show _ = [some (aR 54), none, some (aI s), some (aI x1), some (aI x2), some (aI 1), none, some (aI x342), some (aI v8), some (aI 0)] from rfl) ?_
                      refine vc_goto dX12_goTurn_197 ?_
                      exact ih120 M354 v8 0 hB365 kp366 kp367 kp368 (by omega) (by omega) (by omega) (by first | (rw [Int.sub_zero]; done) | (show gTk _ _ _ _ _ = gTk _ _ _ (1 - 0) _; rfl) | (rw [g120i0, show (41 - mI Mq120 54 27).toNat = (41 - mI M354 54 27).toNat + 1 by omega]; first | (rw [gTk_y (by omega) hgno (by rw [← hgx]; exact hP), ← hgx]; first | done | (congr 1; omega) | rfl) | (rw [gTk_n (by omega) hgno (by rw [← hgx]; exact hP), ← hgx]; first | done | (congr 1; omega) | rfl))) (by omega) (by omega) (by omega) (by omega) (by omega) (by omega)
                    · have hP : gCt S (mnS t s) (sdS (mI M 54 25) (mnS t s / 100)) (laS s) (mI M354 54 24) := by unfold gCt; rw [hmd.2.1]; first | exact Or.inl ⟨by omega, by omega⟩ | exact Or.inr ⟨by omega, Or.inl (hwh.mp (by omega))⟩ | exact Or.inr ⟨by omega, Or.inr (by rcases hct with h | h; (exact h.2); (exfalso; omega))⟩
                      refine vc_iconst dX12_goTurn_175 rfl ?_
                      refine vc_goto dX12_goTurn_176 ?_
                      refine vc_istore dX12_goTurn_195 (by decide) rfl (show _ = [some (aR 54), none, some (aI s), some (aI x1), some (aI x2), some (aI 1), none, some (aI x342), some (aI v8), some (aI 1)] from rfl) ?_
                      refine vc_goto dX12_goTurn_197 ?_
                      exact ih120 M354 v8 1 hB365 kp366 kp367 kp368 (by omega) (by omega) (by omega) (by first | (rw [Int.sub_zero]; done) | (show gTk _ _ _ _ _ = gTk _ _ _ (1 - 0) _; rfl) | (rw [g120i0, show (41 - mI Mq120 54 27).toNat = (41 - mI M354 54 27).toNat + 1 by omega]; first | (rw [gTk_y (by omega) hgno (by rw [← hgx]; exact hP), ← hgx]; first | done | (congr 1; omega) | rfl) | (rw [gTk_n (by omega) hgno (by rw [← hgx]; exact hP), ← hgx]; first | done | (congr 1; omega) | rfl))) (by omega) (by omega) (by omega) (by omega) (by omega) (by omega)
                  · refine vc_iconst dX12_goTurn_132 rfl ?_
                    refine vc_zret dX12_goTurn_133 rfl (by first | decide | omega) (Nat.le_of_ble_eq_true rfl) (Nat.le_of_ble_eq_true rfl) ?_
                    have hgf2 : gOn S (gR Mq120) = (gR M354, false) := by rcases hgn with h | h; (exfalso; omega); (exact h.2)
                    have hgno : gNo S (gR Mq120) := by by_cases e : gNo S (gR Mq120); (exact e); (rw [gOn_y e] at hgf2; exact absurd (congrArg Prod.snd hgf2).symm Bool.false_ne_true)
                    have hgx : gR M354 = gR Mq120 := by rw [gOn_n hgno] at hgf2; exact (congrArg Prod.fst hgf2).symm
                    exact ⟨_, rfl, hB365, kp368, kp366, kp367, by omega, by omega, by omega, Or.inr ⟨rfl, by rw [hgx]; exact gTu_f (S := S) (g := gR M) hdu (g120i0.trans (by rw [show (41 - mI Mq120 54 27).toNat = (40 - mI Mq120 54 27).toNat + 1 by omega]; exact gTk_f (by omega) hgno))⟩, hlt⟩
            refine vc_less [some (aR 54), none, some (aI s), some (aI x1), some (aI x2), some (aI 1), none, some (aI x342), some (aI 0), some (aI 0)] (lessL_keep (lessL_drop (lessL_keep (lessL_keep (lessL_keep (lessL_keep (lessL_drop (lessL_keep (lessL_keep (lessL_keep (lessL_nil))))))))))) ?_
            exact lp120 _ M 0 0 hB0 rfl rfl rfl (by omega) (by omega) (by omega) (by first | (rw [Int.sub_zero]; done) | (show gTk _ _ _ _ _ = gTk _ _ _ (1 - 0) _; rfl) | (rw [g120i0, show (41 - mI Mq120 54 27).toNat = (41 - mI M354 54 27).toNat + 1 by omega]; first | (rw [gTk_y (by omega) hgno (by rw [← hgx]; exact hP), ← hgx]; first | done | (congr 1; omega) | rfl) | (rw [gTk_n (by omega) hgno (by rw [← hgx]; exact hP), ← hgx]; first | done | (congr 1; omega) | rfl))) (by omega) (by omega) (by omega) (by omega) (by omega) (Nat.lt_succ_self _)
        · refine vc_iconst dX12_goTurn_68 rfl ?_
          refine vc_goto dX12_goTurn_69 ?_
          refine vc_icmp_ne dX12_goTurn_73 (fun h376 => ?_) (fun h376 => by exfalso; omega)
          refine vc_iconst dX12_goTurn_80 rfl ?_
          refine vc_istore dX12_goTurn_81 (by decide) rfl (show _ = [some (aR 54), some (aI t), some (aI s), some (aI x1), some (aI x2), some (aI 1), some (aI 0), none, none, none] from rfl) ?_
          refine vc_iload_n dX12_goTurn_83 rfl ?_
          refine vc_iconst dX12_goTurn_84 rfl ?_
          refine vc_icmp_ne dX12_goTurn_85 (fun h377 => ?_) (fun h377 => ?_)
          · refine vc_aload_n dX12_goTurn_95 rfl ?_
            refine vc_getI dX12_goTurn_96 flX12_324 (s_54 hB0.1.1) rfl ?_
            have k378 : 0 ≤ mI M 54 25 ∧ mI M 54 25 ≤ 3 := b54_25 (M := M) hB0.1
            refine vc_iload dX12_goTurn_99 rfl ?_
            refine vc_if_eq dX12_goTurn_101 (fun h379 => ?_) (fun h379 => by exfalso; omega)
            refine vc_iconst dX12_goTurn_108 rfl ?_
            refine vc_iaddE dX12_goTurn_109 (by omega) (by omega) ?_
            refine vc_iconst dX12_goTurn_110 rfl ?_
            refine vc_iremE dX12_goTurn_111 (by omega) (by omega) ?_
            refine vc_nameI (fun x380 ex380 => ?_)
            refine vc_istore dX12_goTurn_112 (by decide) rfl (show _ = [some (aR 54), some (aI t), some (aI s), some (aI x1), some (aI x2), some (aI 1), some (aI 0), some (aI x380), none, none] from rfl) ?_
            have hsd : x380 = (sdS (mI M 54 25) (mnS t s / 100)) := by unfold sdS; rw [hmd.1]; by_cases e1 : s % 2 ≠ 0 ∧ t / 100 ≠ 3; (rw [if_pos e1]; first | (exfalso; omega) | (rw [if_pos (by omega)]; first | done | omega) | (rw [if_neg (by omega), if_pos (by omega)]; first | done | omega) | (rw [if_neg (by omega), if_neg (by omega)]; first | done | omega)); (rw [if_neg e1]; first | (exfalso; omega) | (rw [if_pos (by omega)]; first | done | omega) | (rw [if_neg (by omega), if_pos (by omega)]; first | done | omega) | (rw [if_neg (by omega), if_neg (by omega)]; first | done | omega))
            have hdu : (1 : Int) = if (mnS t s) / 10 % 10 = 1 then 1 else (mnS t s) % 10 := by rw [hmd.2.1]; first | (rw [if_pos (by omega)]) | (rw [if_neg (by omega)])
            have hn4 : x2 = (mnS t s) % 10 := by rw [hmd.2.2]; first | (rw [if_pos (by omega)]; omega) | (rw [if_neg (by omega)]; omega)
            have hwh : x1 = 3 ↔ (mnS t s) / 100 = 3 := by rw [mn_3 p4]; omega
            refine vc_iconst dX12_goTurn_114 rfl ?_
            refine vc_istore dX12_goTurn_115 (by decide) rfl (show _ = [some (aR 54), some (aI t), some (aI s), some (aI x1), some (aI x2), some (aI 1), some (aI 0), some (aI x380), some (aI 0), none] from rfl) ?_
            refine vc_iconst dX12_goTurn_117 rfl ?_
            refine vc_istore dX12_goTurn_118 (by decide) rfl (show _ = [some (aR 54), some (aI t), some (aI s), some (aI x1), some (aI x2), some (aI 1), some (aI 0), some (aI x380), some (aI 0), some (aI 0)] from rfl) ?_
            have lp120 : ∀ (n120 : Nat) (Mq120 : Mem) (v8 : Int) (v9 : Int), (BF fS M Mq120) → (mI Mq120 57 = mI M 57) → (mI Mq120 63 = mI M 63) → (mI Mq120 55 = mI M 55) → (0 ≤ v8) → (0 ≤ v9) → (v9 ≤ 1) → (gTk S (gCt S (mnS t s) (sdS (mI M 54 25) (mnS t s / 100)) (laS s)) (41 - mI M 54 27).toNat (1) (gR M) = gTk S (gCt S (mnS t s) (sdS (mI M 54 25) (mnS t s / 100)) (laS s)) (41 - mI Mq120 54 27).toNat (1 - v9) (gR Mq120)) → (mI Mq120 54 25 = mI M 54 25) → (mI Mq120 54 32 = mI M 54 32) → (0 ≤ mI Mq120 54 27) → (mI Mq120 54 27 ≤ 40) → (mI Mq120 54 24 < S 1 6) → (40 - mI Mq120 54 27).toNat < n120 → VC l mdX12_goTurn 120 [some (aR 54), none, some (aI s), some (aI x1), some (aI x2), some (aI 1), none, some (aI x380), some (aI v8), some (aI v9)] [] Mq120 0 0 (fun q N => ∃ r : Int, q = some (aI r) ∧ BF fS M N ∧ mI N 55 = mI M 55 ∧ mI N 57 = mI M 57 ∧ mI N 63 = mI M 63 ∧ 0 ≤ r ∧ r ≤ 1 ∧ mI N 54 32 = mI M 54 32 ∧ ((r = 1 ∧ gTu S (mnS t s) (laS s) (gR M) = (gR N, true)) ∨ (r = 0 ∧ gTu S (mnS t s) (laS s) (gR M) = (gR N, false))) ∧ mI N 54 24 < S 1 6) := by
              intro n120
              induction n120 with
              | zero => intro Mq120 v8 v9 hQ120 kp120_57 kp120_63 kp120_55 g120_8a g120_9a g120_9b g120i0 g120i1 g120i2 g120i3 g120i4 g120i5 hm120; exact absurd hm120 (Nat.not_lt_zero _)
              | succ n120 ih120 =>
                intro Mq120 v8 v9 hQ120 kp120_57 kp120_63 kp120_55 g120_8a g120_9a g120_9b g120i0 g120i1 g120i2 g120i3 g120i4 g120i5 hm120
                refine vc_iload dX12_goTurn_120 rfl ?_
                refine vc_if_ne dX12_goTurn_122 (fun h381 => ?_) (fun h381 => ?_)
                · have hTq : TA (mI Mq120 55) S := by rw [kp120_55]; exact p5
                  refine vc_iload_n dX12_goTurn_200 rfl ?_
                  refine vc_iconst dX12_goTurn_201 rfl ?_
                  refine vc_icmp_eq dX12_goTurn_202 (fun h382 => ?_) (fun h382 => ?_)
                  · refine vc_aload_n dX12_goTurn_217 rfl ?_
                    refine vc_iload dX12_goTurn_218 rfl ?_
                    refine vc_putI dX12_goTurn_220 (plX12_324 _ rfl) (s_54 hQ120.1.1) rfl ?_
                    have kp383 : mI (sI Mq120 54 25 x380) 57 = mI M 57 := (kp_sI kp120_57 rfl)
                    have kp384 : mI (sI Mq120 54 25 x380) 63 = mI M 63 := (kp_sI kp120_63 rfl)
                    have kp385 : mI (sI Mq120 54 25 x380) 55 = mI M 55 := (kp_sI kp120_55 rfl)
                    have hB386 : BF fS M (sI Mq120 54 25 x380) := BF.w54_25 hQ120 rfl (by omega) (by omega)
                    refine vc_iconst dX12_goTurn_223 rfl ?_
                    refine vc_zret dX12_goTurn_224 rfl (by first | decide | omega) (Nat.le_of_ble_eq_true rfl) (Nat.le_of_ble_eq_true rfl) ?_
                    have k387 : mI (sI Mq120 54 25 x380) 54 24 = mI Mq120 54 24 := rfl
                    have k388 : mI (sI Mq120 54 25 x380) 54 25 = x380 := rfl
                    have k389 : mI (sI Mq120 54 25 x380) 54 27 = mI Mq120 54 27 := rfl
                    have k390 : mI (sI Mq120 54 25 x380) 54 32 = mI Mq120 54 32 := rfl
                    exact ⟨_, rfl, hB386, kp385, kp383, kp384, by omega, by omega, by omega, Or.inl ⟨rfl, (gTu_y (S := S) (g := gR M) (q := gR Mq120) hdu (g120i0.trans (by rw [show (41 - mI Mq120 54 27).toNat = (40 - mI Mq120 54 27).toNat + 1 by omega]; exact gTk_0 (by omega))) (by first | exact Or.inl (hwh.mp (by omega)) | exact Or.inr (by rcases hct with h2 | h2; (exact h2.2); (exfalso; omega)))).trans (by rw [show (gR M).2.1 = mI M 54 25 from rfl, ← hsd]; rfl)⟩, g120i5⟩
                  · refine vc_aload_n dX12_goTurn_205 rfl ?_
                    refine vc_iload dX12_goTurn_206 rfl ?_
                    refine vc_iload_n dX12_goTurn_208 rfl ?_
                    refine vc_cVI dX12_goTurn_209 (sfX12_isCountedF (M := Mq120) hQ120.1 S x380 s (by omega) (by omega) (by omega) (by omega) (by exact hTq) (by exact g120i5)) rfl okX12_isCounted viX12_isCounted lkX12_352 (s_54 hQ120.1.1) cl_12 rfl (Nat.le_of_ble_eq_true rfl) ⟨rfl, rfl⟩ (Nat.le_of_ble_eq_true rfl) (Nat.le_of_ble_eq_true rfl) (Nat.le_of_ble_eq_true rfl) ?_
                    rintro x391 _ ⟨rfl, h392, h393, h394⟩
                    have hct : (x391 = 1 ∧ cntS S (mI Mq120 54 24) (sdS (mI M 54 25) (mnS t s / 100)) (laS s)) ∨ (x391 = 0 ∧ ¬ cntS S (mI Mq120 54 24) (sdS (mI M 54 25) (mnS t s / 100)) (laS s)) := by rw [← hsd]; exact h394
                    refine vc_if_ne dX12_goTurn_212 (fun h395 => ?_) (fun h395 => ?_)
                    · refine vc_aload_n dX12_goTurn_217 rfl ?_
                      refine vc_iload dX12_goTurn_218 rfl ?_
                      refine vc_putI dX12_goTurn_220 (plX12_324 _ rfl) (s_54 hQ120.1.1) rfl ?_
                      have kp396 : mI (sI Mq120 54 25 x380) 57 = mI M 57 := (kp_sI kp120_57 rfl)
                      have kp397 : mI (sI Mq120 54 25 x380) 63 = mI M 63 := (kp_sI kp120_63 rfl)
                      have kp398 : mI (sI Mq120 54 25 x380) 55 = mI M 55 := (kp_sI kp120_55 rfl)
                      have hB399 : BF fS M (sI Mq120 54 25 x380) := BF.w54_25 hQ120 rfl (by omega) (by omega)
                      refine vc_iconst dX12_goTurn_223 rfl ?_
                      refine vc_zret dX12_goTurn_224 rfl (by first | decide | omega) (Nat.le_of_ble_eq_true rfl) (Nat.le_of_ble_eq_true rfl) ?_
                      have k400 : mI (sI Mq120 54 25 x380) 54 24 = mI Mq120 54 24 := rfl
                      have k401 : mI (sI Mq120 54 25 x380) 54 25 = x380 := rfl
                      have k402 : mI (sI Mq120 54 25 x380) 54 27 = mI Mq120 54 27 := rfl
                      have k403 : mI (sI Mq120 54 25 x380) 54 32 = mI Mq120 54 32 := rfl
                      exact ⟨_, rfl, hB399, kp398, kp396, kp397, by omega, by omega, by omega, Or.inl ⟨rfl, (gTu_y (S := S) (g := gR M) (q := gR Mq120) hdu (g120i0.trans (by rw [show (41 - mI Mq120 54 27).toNat = (40 - mI Mq120 54 27).toNat + 1 by omega]; exact gTk_0 (by omega))) (by first | exact Or.inl (hwh.mp (by omega)) | exact Or.inr (by rcases hct with h2 | h2; (exact h2.2); (exfalso; omega)))).trans (by rw [show (gR M).2.1 = mI M 54 25 from rfl, ← hsd]; rfl)⟩, g120i5⟩
                    · refine vc_iconst dX12_goTurn_215 rfl ?_
                      refine vc_zret dX12_goTurn_216 rfl (by first | decide | omega) (Nat.le_of_ble_eq_true rfl) (Nat.le_of_ble_eq_true rfl) ?_
                      exact ⟨_, rfl, hQ120, kp120_55, kp120_57, kp120_63, by omega, by omega, by omega, Or.inr ⟨rfl, gTu_n (S := S) (g := gR M) (q := gR Mq120) hdu (g120i0.trans (by rw [show (41 - mI Mq120 54 27).toNat = (40 - mI Mq120 54 27).toNat + 1 by omega]; exact gTk_0 (by omega))) (by rintro (h | h); (have h9 := hwh.mpr h; omega); (rcases hct with h2 | h2; (exfalso; omega); (exact h2.2 h)))⟩, g120i5⟩
                · have hTq : TA (mI Mq120 55) S := by rw [kp120_55]; exact p5
                  refine vc_aload_n dX12_goTurn_125 rfl ?_
                  refine vc_cVI dX12_goTurn_126 (sfX12_goOnF (M := Mq120) hQ120.1 S  (by exact hTq) (by exact g120i5) (by rw [kp120_57]; exact p7) (by exact p8)) rfl okX12_goOn viX12_goOn lkX12_348 (s_54 hQ120.1.1) cl_12 rfl (Nat.le_of_ble_eq_true rfl) ⟨rfl, rfl⟩ (Nat.le_of_ble_eq_true rfl) (Nat.le_of_ble_eq_true rfl) (Nat.le_of_ble_eq_true rfl) ?_
                  rintro x404 M405 ⟨hB406, kp407, kp408, kp409, h410, h411, h412, h413, h414, h415⟩
                  have hB416 : BF fS M M405 := BF.go hQ120 hB406
                  have kp417 : mI M405 57 = mI M 57 := kp_go kp120_57 kp408
                  have kp418 : mI M405 63 = mI M 63 := kp_go kp120_63 kp409
                  have kp419 : mI M405 55 = mI M 55 := kp_go kp120_55 kp407
                  have hgn := h414
                  have hlt := h415
                  have hTN : TA (mI M405 55) S := by rw [kp419]; exact p5
                  have kz := b54_27 (M := M405) hB416.1
                  have kz4 := b54_24 (M := M405) hB416.1
                  refine vc_if_ne dX12_goTurn_129 (fun h420 => ?_) (fun h420 => ?_)
                  · have hgy : gOn S (gR Mq120) = (gR M405, true) := by rcases hgn with h | h; (exact h.2); (exfalso; omega)
                    have hgno : ¬ gNo S (gR Mq120) := fun e => by rw [gOn_n e] at hgy; exact Bool.false_ne_true (congrArg Prod.snd hgy)
                    have hgx : gR M405 = gNx S (gR Mq120) := by rw [gOn_y hgno] at hgy; exact (congrArg Prod.fst hgy).symm
                    have hgc : mI M405 54 27 = mI Mq120 54 27 + 1 := congrArg (fun g : Gw => g.2.2.1) hgx
                    have hgf : mI M405 54 25 = mI Mq120 54 25 := congrArg (fun g : Gw => g.2.1) hgx
                    refine vc_iload dX12_goTurn_134 rfl ?_
                    refine vc_if_ne dX12_goTurn_136 (fun h421 => ?_) (fun h421 => by exfalso; omega)
                    refine vc_iload dX12_goTurn_157 rfl ?_
                    refine vc_if_eq dX12_goTurn_159 (fun h422 => by exfalso; omega) (fun h422 => ?_)
                    refine vc_aload_n dX12_goTurn_162 rfl ?_
                    refine vc_aload_n dX12_goTurn_163 rfl ?_
                    refine vc_getI dX12_goTurn_164 flX12_321 (s_54 hB416.1.1) rfl ?_
                    have k423 : 0 ≤ mI M405 54 24 ∧ mI M405 54 24 ≤ 15 := b54_24 (M := M405) hB416.1
                    refine vc_cVI dX12_goTurn_167 (sfX12_sightOfF (M := M405) hB416.1  (mI M405 54 24) (by omega) (by omega)) rfl okX12_sightOf viX12_sightOf lkX12_318 (s_54 hB416.1.1) cl_12 rfl (Nat.le_of_ble_eq_true rfl) ⟨rfl, rfl⟩ (Nat.le_of_ble_eq_true rfl) (Nat.le_of_ble_eq_true rfl) (Nat.le_of_ble_eq_true rfl) ?_
                    rintro x424 _ ⟨rfl, h425⟩
                    have hsi : x424 = siS S (mI M405 54 24) := h425.trans (hTN.si (by omega) hlt)
                    refine vc_iload dX12_goTurn_170 rfl ?_
                    refine vc_icmp_ne dX12_goTurn_172 (fun h426 => ?_) (fun h426 => ?_)
                    · have hP : ¬ gCt S (mnS t s) (sdS (mI M 54 25) (mnS t s / 100)) (laS s) (mI M405 54 24) := by unfold gCt; rw [hmd.2.1]; rintro (⟨h1, h2⟩ | ⟨h1, h2 | h2⟩) <;> first | omega | (have h3 := hwh.mpr h2; omega) | (rcases hct with h | h; (exfalso; omega); (exact h.2 h2))
                      refine vc_iconst dX12_goTurn_179 rfl ?_
                      refine vc_goto dX12_goTurn_180 ?_
                      refine vc_istore dX12_goTurn_195 (by decide) rfl (show _ = [some (aR 54), none, some (aI s), some (aI x1), some (aI x2), some (aI 1), none, some (aI x380), some (aI v8), some (aI 0)] from rfl) ?_
                      refine vc_goto dX12_goTurn_197 ?_
                      exact ih120 M405 v8 0 hB416 kp417 kp418 kp419 (by omega) (by omega) (by omega) (by first | (rw [Int.sub_zero]; done) | (show gTk _ _ _ _ _ = gTk _ _ _ (1 - 0) _; rfl) | (rw [g120i0, show (41 - mI Mq120 54 27).toNat = (41 - mI M405 54 27).toNat + 1 by omega]; first | (rw [gTk_y (by omega) hgno (by rw [← hgx]; exact hP), ← hgx]; first | done | (congr 1; omega) | rfl) | (rw [gTk_n (by omega) hgno (by rw [← hgx]; exact hP), ← hgx]; first | done | (congr 1; omega) | rfl))) (by omega) (by omega) (by omega) (by omega) (by omega) (by omega)
                    · have hP : gCt S (mnS t s) (sdS (mI M 54 25) (mnS t s / 100)) (laS s) (mI M405 54 24) := by unfold gCt; rw [hmd.2.1]; first | exact Or.inl ⟨by omega, by omega⟩ | exact Or.inr ⟨by omega, Or.inl (hwh.mp (by omega))⟩ | exact Or.inr ⟨by omega, Or.inr (by rcases hct with h | h; (exact h.2); (exfalso; omega))⟩
                      refine vc_iconst dX12_goTurn_175 rfl ?_
                      refine vc_goto dX12_goTurn_176 ?_
                      refine vc_istore dX12_goTurn_195 (by decide) rfl (show _ = [some (aR 54), none, some (aI s), some (aI x1), some (aI x2), some (aI 1), none, some (aI x380), some (aI v8), some (aI 1)] from rfl) ?_
                      refine vc_goto dX12_goTurn_197 ?_
                      exact ih120 M405 v8 1 hB416 kp417 kp418 kp419 (by omega) (by omega) (by omega) (by first | (rw [Int.sub_zero]; done) | (show gTk _ _ _ _ _ = gTk _ _ _ (1 - 0) _; rfl) | (rw [g120i0, show (41 - mI Mq120 54 27).toNat = (41 - mI M405 54 27).toNat + 1 by omega]; first | (rw [gTk_y (by omega) hgno (by rw [← hgx]; exact hP), ← hgx]; first | done | (congr 1; omega) | rfl) | (rw [gTk_n (by omega) hgno (by rw [← hgx]; exact hP), ← hgx]; first | done | (congr 1; omega) | rfl))) (by omega) (by omega) (by omega) (by omega) (by omega) (by omega)
                  · refine vc_iconst dX12_goTurn_132 rfl ?_
                    refine vc_zret dX12_goTurn_133 rfl (by first | decide | omega) (Nat.le_of_ble_eq_true rfl) (Nat.le_of_ble_eq_true rfl) ?_
                    have hgf2 : gOn S (gR Mq120) = (gR M405, false) := by rcases hgn with h | h; (exfalso; omega); (exact h.2)
                    have hgno : gNo S (gR Mq120) := by by_cases e : gNo S (gR Mq120); (exact e); (rw [gOn_y e] at hgf2; exact absurd (congrArg Prod.snd hgf2).symm Bool.false_ne_true)
                    have hgx : gR M405 = gR Mq120 := by rw [gOn_n hgno] at hgf2; exact (congrArg Prod.fst hgf2).symm
                    exact ⟨_, rfl, hB416, kp419, kp417, kp418, by omega, by omega, by omega, Or.inr ⟨rfl, by rw [hgx]; exact gTu_f (S := S) (g := gR M) hdu (g120i0.trans (by rw [show (41 - mI Mq120 54 27).toNat = (40 - mI Mq120 54 27).toNat + 1 by omega]; exact gTk_f (by omega) hgno))⟩, hlt⟩
            refine vc_less [some (aR 54), none, some (aI s), some (aI x1), some (aI x2), some (aI 1), none, some (aI x380), some (aI 0), some (aI 0)] (lessL_keep (lessL_drop (lessL_keep (lessL_keep (lessL_keep (lessL_keep (lessL_drop (lessL_keep (lessL_keep (lessL_keep (lessL_nil))))))))))) ?_
            exact lp120 _ M 0 0 hB0 rfl rfl rfl (by omega) (by omega) (by omega) (by first | (rw [Int.sub_zero]; done) | (show gTk _ _ _ _ _ = gTk _ _ _ (1 - 0) _; rfl) | (rw [g120i0, show (41 - mI Mq120 54 27).toNat = (41 - mI M405 54 27).toNat + 1 by omega]; first | (rw [gTk_y (by omega) hgno (by rw [← hgx]; exact hP), ← hgx]; first | done | (congr 1; omega) | rfl) | (rw [gTk_n (by omega) hgno (by rw [← hgx]; exact hP), ← hgx]; first | done | (congr 1; omega) | rfl))) (by omega) (by omega) (by omega) (by omega) (by omega) (Nat.lt_succ_self _)
          · refine vc_aload_n dX12_goTurn_88 rfl ?_
            refine vc_getI dX12_goTurn_89 flX12_324 (s_54 hB0.1.1) rfl ?_
            have k427 : 0 ≤ mI M 54 25 ∧ mI M 54 25 ≤ 3 := b54_25 (M := M) hB0.1
            refine vc_goto dX12_goTurn_92 ?_
            refine vc_nameI (fun x428 ex428 => ?_)
            refine vc_istore dX12_goTurn_112 (by decide) rfl (show _ = [some (aR 54), some (aI t), some (aI s), some (aI x1), some (aI x2), some (aI 1), some (aI 0), some (aI x428), none, none] from rfl) ?_
            have hsd : x428 = (sdS (mI M 54 25) (mnS t s / 100)) := by unfold sdS; rw [hmd.1]; by_cases e1 : s % 2 ≠ 0 ∧ t / 100 ≠ 3; (rw [if_pos e1]; first | (exfalso; omega) | (rw [if_pos (by omega)]; first | done | omega) | (rw [if_neg (by omega), if_pos (by omega)]; first | done | omega) | (rw [if_neg (by omega), if_neg (by omega)]; first | done | omega)); (rw [if_neg e1]; first | (exfalso; omega) | (rw [if_pos (by omega)]; first | done | omega) | (rw [if_neg (by omega), if_pos (by omega)]; first | done | omega) | (rw [if_neg (by omega), if_neg (by omega)]; first | done | omega))
            have hdu : (1 : Int) = if (mnS t s) / 10 % 10 = 1 then 1 else (mnS t s) % 10 := by rw [hmd.2.1]; first | (rw [if_pos (by omega)]) | (rw [if_neg (by omega)])
            have hn4 : x2 = (mnS t s) % 10 := by rw [hmd.2.2]; first | (rw [if_pos (by omega)]; omega) | (rw [if_neg (by omega)]; omega)
            have hwh : x1 = 3 ↔ (mnS t s) / 100 = 3 := by rw [mn_3 p4]; omega
            refine vc_iconst dX12_goTurn_114 rfl ?_
            refine vc_istore dX12_goTurn_115 (by decide) rfl (show _ = [some (aR 54), some (aI t), some (aI s), some (aI x1), some (aI x2), some (aI 1), some (aI 0), some (aI x428), some (aI 0), none] from rfl) ?_
            refine vc_iconst dX12_goTurn_117 rfl ?_
            refine vc_istore dX12_goTurn_118 (by decide) rfl (show _ = [some (aR 54), some (aI t), some (aI s), some (aI x1), some (aI x2), some (aI 1), some (aI 0), some (aI x428), some (aI 0), some (aI 0)] from rfl) ?_
            have lp120 : ∀ (n120 : Nat) (Mq120 : Mem) (v8 : Int) (v9 : Int), (BF fS M Mq120) → (mI Mq120 57 = mI M 57) → (mI Mq120 63 = mI M 63) → (mI Mq120 55 = mI M 55) → (0 ≤ v8) → (0 ≤ v9) → (v9 ≤ 1) → (gTk S (gCt S (mnS t s) (sdS (mI M 54 25) (mnS t s / 100)) (laS s)) (41 - mI M 54 27).toNat (1) (gR M) = gTk S (gCt S (mnS t s) (sdS (mI M 54 25) (mnS t s / 100)) (laS s)) (41 - mI Mq120 54 27).toNat (1 - v9) (gR Mq120)) → (mI Mq120 54 25 = mI M 54 25) → (mI Mq120 54 32 = mI M 54 32) → (0 ≤ mI Mq120 54 27) → (mI Mq120 54 27 ≤ 40) → (mI Mq120 54 24 < S 1 6) → (40 - mI Mq120 54 27).toNat < n120 → VC l mdX12_goTurn 120 [some (aR 54), none, some (aI s), some (aI x1), some (aI x2), some (aI 1), none, some (aI x428), some (aI v8), some (aI v9)] [] Mq120 0 0 (fun q N => ∃ r : Int, q = some (aI r) ∧ BF fS M N ∧ mI N 55 = mI M 55 ∧ mI N 57 = mI M 57 ∧ mI N 63 = mI M 63 ∧ 0 ≤ r ∧ r ≤ 1 ∧ mI N 54 32 = mI M 54 32 ∧ ((r = 1 ∧ gTu S (mnS t s) (laS s) (gR M) = (gR N, true)) ∨ (r = 0 ∧ gTu S (mnS t s) (laS s) (gR M) = (gR N, false))) ∧ mI N 54 24 < S 1 6) := by
              intro n120
              induction n120 with
              | zero => intro Mq120 v8 v9 hQ120 kp120_57 kp120_63 kp120_55 g120_8a g120_9a g120_9b g120i0 g120i1 g120i2 g120i3 g120i4 g120i5 hm120; exact absurd hm120 (Nat.not_lt_zero _)
              | succ n120 ih120 =>
                intro Mq120 v8 v9 hQ120 kp120_57 kp120_63 kp120_55 g120_8a g120_9a g120_9b g120i0 g120i1 g120i2 g120i3 g120i4 g120i5 hm120
                refine vc_iload dX12_goTurn_120 rfl ?_
                refine vc_if_ne dX12_goTurn_122 (fun h429 => ?_) (fun h429 => ?_)
                · have hTq : TA (mI Mq120 55) S := by rw [kp120_55]; exact p5
                  refine vc_iload_n dX12_goTurn_200 rfl ?_
                  refine vc_iconst dX12_goTurn_201 rfl ?_
                  refine vc_icmp_eq dX12_goTurn_202 (fun h430 => ?_) (fun h430 => by exfalso; omega)
                  refine vc_aload_n dX12_goTurn_217 rfl ?_
                  refine vc_iload dX12_goTurn_218 rfl ?_
                  refine vc_putI dX12_goTurn_220 (plX12_324 _ rfl) (s_54 hQ120.1.1) rfl ?_
                  have kp431 : mI (sI Mq120 54 25 x428) 57 = mI M 57 := (kp_sI kp120_57 rfl)
                  have kp432 : mI (sI Mq120 54 25 x428) 63 = mI M 63 := (kp_sI kp120_63 rfl)
                  have kp433 : mI (sI Mq120 54 25 x428) 55 = mI M 55 := (kp_sI kp120_55 rfl)
                  have hB434 : BF fS M (sI Mq120 54 25 x428) := BF.w54_25 hQ120 rfl (by omega) (by omega)
                  refine vc_iconst dX12_goTurn_223 rfl ?_
                  refine vc_zret dX12_goTurn_224 rfl (by first | decide | omega) (Nat.le_of_ble_eq_true rfl) (Nat.le_of_ble_eq_true rfl) ?_
                  have k435 : mI (sI Mq120 54 25 x428) 54 24 = mI Mq120 54 24 := rfl
                  have k436 : mI (sI Mq120 54 25 x428) 54 25 = x428 := rfl
                  have k437 : mI (sI Mq120 54 25 x428) 54 27 = mI Mq120 54 27 := rfl
                  have k438 : mI (sI Mq120 54 25 x428) 54 32 = mI Mq120 54 32 := rfl
                  exact ⟨_, rfl, hB434, kp433, kp431, kp432, by omega, by omega, by omega, Or.inl ⟨rfl, (gTu_y (S := S) (g := gR M) (q := gR Mq120) hdu (g120i0.trans (by rw [show (41 - mI Mq120 54 27).toNat = (40 - mI Mq120 54 27).toNat + 1 by omega]; exact gTk_0 (by omega))) (by first | exact Or.inl (hwh.mp (by omega)) | exact Or.inr (by rcases hct with h2 | h2; (exact h2.2); (exfalso; omega)))).trans (by rw [show (gR M).2.1 = mI M 54 25 from rfl, ← hsd]; rfl)⟩, g120i5⟩
                · have hTq : TA (mI Mq120 55) S := by rw [kp120_55]; exact p5
                  refine vc_aload_n dX12_goTurn_125 rfl ?_
                  refine vc_cVI dX12_goTurn_126 (sfX12_goOnF (M := Mq120) hQ120.1 S  (by exact hTq) (by exact g120i5) (by rw [kp120_57]; exact p7) (by exact p8)) rfl okX12_goOn viX12_goOn lkX12_348 (s_54 hQ120.1.1) cl_12 rfl (Nat.le_of_ble_eq_true rfl) ⟨rfl, rfl⟩ (Nat.le_of_ble_eq_true rfl) (Nat.le_of_ble_eq_true rfl) (Nat.le_of_ble_eq_true rfl) ?_
                  rintro x439 M440 ⟨hB441, kp442, kp443, kp444, h445, h446, h447, h448, h449, h450⟩
                  have hB451 : BF fS M M440 := BF.go hQ120 hB441
                  have kp452 : mI M440 57 = mI M 57 := kp_go kp120_57 kp443
                  have kp453 : mI M440 63 = mI M 63 := kp_go kp120_63 kp444
                  have kp454 : mI M440 55 = mI M 55 := kp_go kp120_55 kp442
                  have hgn := h449
                  have hlt := h450
                  have hTN : TA (mI M440 55) S := by rw [kp454]; exact p5
                  have kz := b54_27 (M := M440) hB451.1
                  have kz4 := b54_24 (M := M440) hB451.1
                  refine vc_if_ne dX12_goTurn_129 (fun h455 => ?_) (fun h455 => ?_)
                  · have hgy : gOn S (gR Mq120) = (gR M440, true) := by rcases hgn with h | h; (exact h.2); (exfalso; omega)
                    have hgno : ¬ gNo S (gR Mq120) := fun e => by rw [gOn_n e] at hgy; exact Bool.false_ne_true (congrArg Prod.snd hgy)
                    have hgx : gR M440 = gNx S (gR Mq120) := by rw [gOn_y hgno] at hgy; exact (congrArg Prod.fst hgy).symm
                    have hgc : mI M440 54 27 = mI Mq120 54 27 + 1 := congrArg (fun g : Gw => g.2.2.1) hgx
                    have hgf : mI M440 54 25 = mI Mq120 54 25 := congrArg (fun g : Gw => g.2.1) hgx
                    refine vc_iload dX12_goTurn_134 rfl ?_
                    refine vc_if_ne dX12_goTurn_136 (fun h456 => ?_) (fun h456 => by exfalso; omega)
                    refine vc_iload dX12_goTurn_157 rfl ?_
                    refine vc_if_eq dX12_goTurn_159 (fun h457 => by exfalso; omega) (fun h457 => ?_)
                    refine vc_aload_n dX12_goTurn_162 rfl ?_
                    refine vc_aload_n dX12_goTurn_163 rfl ?_
                    refine vc_getI dX12_goTurn_164 flX12_321 (s_54 hB451.1.1) rfl ?_
                    have k458 : 0 ≤ mI M440 54 24 ∧ mI M440 54 24 ≤ 15 := b54_24 (M := M440) hB451.1
                    refine vc_cVI dX12_goTurn_167 (sfX12_sightOfF (M := M440) hB451.1  (mI M440 54 24) (by omega) (by omega)) rfl okX12_sightOf viX12_sightOf lkX12_318 (s_54 hB451.1.1) cl_12 rfl (Nat.le_of_ble_eq_true rfl) ⟨rfl, rfl⟩ (Nat.le_of_ble_eq_true rfl) (Nat.le_of_ble_eq_true rfl) (Nat.le_of_ble_eq_true rfl) ?_
                    rintro x459 _ ⟨rfl, h460⟩
                    have hsi : x459 = siS S (mI M440 54 24) := h460.trans (hTN.si (by omega) hlt)
                    refine vc_iload dX12_goTurn_170 rfl ?_
                    refine vc_icmp_ne dX12_goTurn_172 (fun h461 => ?_) (fun h461 => ?_)
                    · have hP : ¬ gCt S (mnS t s) (sdS (mI M 54 25) (mnS t s / 100)) (laS s) (mI M440 54 24) := by unfold gCt; rw [hmd.2.1]; rintro (⟨h1, h2⟩ | ⟨h1, h2 | h2⟩) <;> first | omega | (have h3 := hwh.mpr h2; omega) | (rcases hct with h | h; (exfalso; omega); (exact h.2 h2))
                      refine vc_iconst dX12_goTurn_179 rfl ?_
                      refine vc_goto dX12_goTurn_180 ?_
                      refine vc_istore dX12_goTurn_195 (by decide) rfl (show _ = [some (aR 54), none, some (aI s), some (aI x1), some (aI x2), some (aI 1), none, some (aI x428), some (aI v8), some (aI 0)] from rfl) ?_
                      refine vc_goto dX12_goTurn_197 ?_
                      exact ih120 M440 v8 0 hB451 kp452 kp453 kp454 (by omega) (by omega) (by omega) (by first | (rw [Int.sub_zero]; done) | (show gTk _ _ _ _ _ = gTk _ _ _ (1 - 0) _; rfl) | (rw [g120i0, show (41 - mI Mq120 54 27).toNat = (41 - mI M440 54 27).toNat + 1 by omega]; first | (rw [gTk_y (by omega) hgno (by rw [← hgx]; exact hP), ← hgx]; first | done | (congr 1; omega) | rfl) | (rw [gTk_n (by omega) hgno (by rw [← hgx]; exact hP), ← hgx]; first | done | (congr 1; omega) | rfl))) (by omega) (by omega) (by omega) (by omega) (by omega) (by omega)
                    · have hP : gCt S (mnS t s) (sdS (mI M 54 25) (mnS t s / 100)) (laS s) (mI M440 54 24) := by unfold gCt; rw [hmd.2.1]; first | exact Or.inl ⟨by omega, by omega⟩ | exact Or.inr ⟨by omega, Or.inl (hwh.mp (by omega))⟩ | exact Or.inr ⟨by omega, Or.inr (by rcases hct with h | h; (exact h.2); (exfalso; omega))⟩
                      refine vc_iconst dX12_goTurn_175 rfl ?_
                      refine vc_goto dX12_goTurn_176 ?_
                      refine vc_istore dX12_goTurn_195 (by decide) rfl (show _ = [some (aR 54), none, some (aI s), some (aI x1), some (aI x2), some (aI 1), none, some (aI x428), some (aI v8), some (aI 1)] from rfl) ?_
                      refine vc_goto dX12_goTurn_197 ?_
                      exact ih120 M440 v8 1 hB451 kp452 kp453 kp454 (by omega) (by omega) (by omega) (by first | (rw [Int.sub_zero]; done) | (show gTk _ _ _ _ _ = gTk _ _ _ (1 - 0) _; rfl) | (rw [g120i0, show (41 - mI Mq120 54 27).toNat = (41 - mI M440 54 27).toNat + 1 by omega]; first | (rw [gTk_y (by omega) hgno (by rw [← hgx]; exact hP), ← hgx]; first | done | (congr 1; omega) | rfl) | (rw [gTk_n (by omega) hgno (by rw [← hgx]; exact hP), ← hgx]; first | done | (congr 1; omega) | rfl))) (by omega) (by omega) (by omega) (by omega) (by omega) (by omega)
                  · refine vc_iconst dX12_goTurn_132 rfl ?_
                    refine vc_zret dX12_goTurn_133 rfl (by first | decide | omega) (Nat.le_of_ble_eq_true rfl) (Nat.le_of_ble_eq_true rfl) ?_
                    have hgf2 : gOn S (gR Mq120) = (gR M440, false) := by rcases hgn with h | h; (exfalso; omega); (exact h.2)
                    have hgno : gNo S (gR Mq120) := by by_cases e : gNo S (gR Mq120); (exact e); (rw [gOn_y e] at hgf2; exact absurd (congrArg Prod.snd hgf2).symm Bool.false_ne_true)
                    have hgx : gR M440 = gR Mq120 := by rw [gOn_n hgno] at hgf2; exact (congrArg Prod.fst hgf2).symm
                    exact ⟨_, rfl, hB451, kp454, kp452, kp453, by omega, by omega, by omega, Or.inr ⟨rfl, by rw [hgx]; exact gTu_f (S := S) (g := gR M) hdu (g120i0.trans (by rw [show (41 - mI Mq120 54 27).toNat = (40 - mI Mq120 54 27).toNat + 1 by omega]; exact gTk_f (by omega) hgno))⟩, hlt⟩
            refine vc_less [some (aR 54), none, some (aI s), some (aI x1), some (aI x2), some (aI 1), none, some (aI x428), some (aI 0), some (aI 0)] (lessL_keep (lessL_drop (lessL_keep (lessL_keep (lessL_keep (lessL_keep (lessL_drop (lessL_keep (lessL_keep (lessL_keep (lessL_nil))))))))))) ?_
            exact lp120 _ M 0 0 hB0 rfl rfl rfl (by omega) (by omega) (by omega) (by first | (rw [Int.sub_zero]; done) | (show gTk _ _ _ _ _ = gTk _ _ _ (1 - 0) _; rfl) | (rw [g120i0, show (41 - mI Mq120 54 27).toNat = (41 - mI M440 54 27).toNat + 1 by omega]; first | (rw [gTk_y (by omega) hgno (by rw [← hgx]; exact hP), ← hgx]; first | done | (congr 1; omega) | rfl) | (rw [gTk_n (by omega) hgno (by rw [← hgx]; exact hP), ← hgx]; first | done | (congr 1; omega) | rfl))) (by omega) (by omega) (by omega) (by omega) (by omega) (Nat.lt_succ_self _)
      · refine vc_iconst dX12_goTurn_57 rfl ?_
        refine vc_goto dX12_goTurn_58 ?_
        refine vc_iload_n dX12_goTurn_62 rfl ?_
        refine vc_iconst dX12_goTurn_63 rfl ?_
        refine vc_iandM dX12_goTurn_64 2 1 rfl (by decide) rfl ?_
        refine vc_if_ne dX12_goTurn_65 (fun h462 => ?_) (fun h462 => ?_)
        · refine vc_iconst dX12_goTurn_72 rfl ?_
          refine vc_icmp_ne dX12_goTurn_73 (fun h463 => ?_) (fun h463 => by exfalso; omega)
          refine vc_iconst dX12_goTurn_80 rfl ?_
          refine vc_istore dX12_goTurn_81 (by decide) rfl (show _ = [some (aR 54), some (aI t), some (aI s), some (aI x1), some (aI x2), some (aI 1), some (aI 0), none, none, none] from rfl) ?_
          refine vc_iload_n dX12_goTurn_83 rfl ?_
          refine vc_iconst dX12_goTurn_84 rfl ?_
          refine vc_icmp_ne dX12_goTurn_85 (fun h464 => ?_) (fun h464 => by exfalso; omega)
          refine vc_aload_n dX12_goTurn_95 rfl ?_
          refine vc_getI dX12_goTurn_96 flX12_324 (s_54 hB0.1.1) rfl ?_
          have k465 : 0 ≤ mI M 54 25 ∧ mI M 54 25 ≤ 3 := b54_25 (M := M) hB0.1
          refine vc_iload dX12_goTurn_99 rfl ?_
          refine vc_if_eq dX12_goTurn_101 (fun h466 => ?_) (fun h466 => by exfalso; omega)
          refine vc_iconst dX12_goTurn_108 rfl ?_
          refine vc_iaddE dX12_goTurn_109 (by omega) (by omega) ?_
          refine vc_iconst dX12_goTurn_110 rfl ?_
          refine vc_iremE dX12_goTurn_111 (by omega) (by omega) ?_
          refine vc_nameI (fun x467 ex467 => ?_)
          refine vc_istore dX12_goTurn_112 (by decide) rfl (show _ = [some (aR 54), some (aI t), some (aI s), some (aI x1), some (aI x2), some (aI 1), some (aI 0), some (aI x467), none, none] from rfl) ?_
          have hsd : x467 = (sdS (mI M 54 25) (mnS t s / 100)) := by unfold sdS; rw [hmd.1]; by_cases e1 : s % 2 ≠ 0 ∧ t / 100 ≠ 3; (rw [if_pos e1]; first | (exfalso; omega) | (rw [if_pos (by omega)]; first | done | omega) | (rw [if_neg (by omega), if_pos (by omega)]; first | done | omega) | (rw [if_neg (by omega), if_neg (by omega)]; first | done | omega)); (rw [if_neg e1]; first | (exfalso; omega) | (rw [if_pos (by omega)]; first | done | omega) | (rw [if_neg (by omega), if_pos (by omega)]; first | done | omega) | (rw [if_neg (by omega), if_neg (by omega)]; first | done | omega))
          have hdu : (1 : Int) = if (mnS t s) / 10 % 10 = 1 then 1 else (mnS t s) % 10 := by rw [hmd.2.1]; first | (rw [if_pos (by omega)]) | (rw [if_neg (by omega)])
          have hn4 : x2 = (mnS t s) % 10 := by rw [hmd.2.2]; first | (rw [if_pos (by omega)]; omega) | (rw [if_neg (by omega)]; omega)
          have hwh : x1 = 3 ↔ (mnS t s) / 100 = 3 := by rw [mn_3 p4]; omega
          refine vc_iconst dX12_goTurn_114 rfl ?_
          refine vc_istore dX12_goTurn_115 (by decide) rfl (show _ = [some (aR 54), some (aI t), some (aI s), some (aI x1), some (aI x2), some (aI 1), some (aI 0), some (aI x467), some (aI 0), none] from rfl) ?_
          refine vc_iconst dX12_goTurn_117 rfl ?_
          refine vc_istore dX12_goTurn_118 (by decide) rfl (show _ = [some (aR 54), some (aI t), some (aI s), some (aI x1), some (aI x2), some (aI 1), some (aI 0), some (aI x467), some (aI 0), some (aI 0)] from rfl) ?_
          have lp120 : ∀ (n120 : Nat) (Mq120 : Mem) (v8 : Int) (v9 : Int), (BF fS M Mq120) → (mI Mq120 57 = mI M 57) → (mI Mq120 63 = mI M 63) → (mI Mq120 55 = mI M 55) → (0 ≤ v8) → (0 ≤ v9) → (v9 ≤ 1) → (gTk S (gCt S (mnS t s) (sdS (mI M 54 25) (mnS t s / 100)) (laS s)) (41 - mI M 54 27).toNat (1) (gR M) = gTk S (gCt S (mnS t s) (sdS (mI M 54 25) (mnS t s / 100)) (laS s)) (41 - mI Mq120 54 27).toNat (1 - v9) (gR Mq120)) → (mI Mq120 54 25 = mI M 54 25) → (mI Mq120 54 32 = mI M 54 32) → (0 ≤ mI Mq120 54 27) → (mI Mq120 54 27 ≤ 40) → (mI Mq120 54 24 < S 1 6) → (40 - mI Mq120 54 27).toNat < n120 → VC l mdX12_goTurn 120 [some (aR 54), none, some (aI s), some (aI x1), some (aI x2), some (aI 1), none, some (aI x467), some (aI v8), some (aI v9)] [] Mq120 0 0 (fun q N => ∃ r : Int, q = some (aI r) ∧ BF fS M N ∧ mI N 55 = mI M 55 ∧ mI N 57 = mI M 57 ∧ mI N 63 = mI M 63 ∧ 0 ≤ r ∧ r ≤ 1 ∧ mI N 54 32 = mI M 54 32 ∧ ((r = 1 ∧ gTu S (mnS t s) (laS s) (gR M) = (gR N, true)) ∨ (r = 0 ∧ gTu S (mnS t s) (laS s) (gR M) = (gR N, false))) ∧ mI N 54 24 < S 1 6) := by
            intro n120
            induction n120 with
            | zero => intro Mq120 v8 v9 hQ120 kp120_57 kp120_63 kp120_55 g120_8a g120_9a g120_9b g120i0 g120i1 g120i2 g120i3 g120i4 g120i5 hm120; exact absurd hm120 (Nat.not_lt_zero _)
            | succ n120 ih120 =>
              intro Mq120 v8 v9 hQ120 kp120_57 kp120_63 kp120_55 g120_8a g120_9a g120_9b g120i0 g120i1 g120i2 g120i3 g120i4 g120i5 hm120
              refine vc_iload dX12_goTurn_120 rfl ?_
              refine vc_if_ne dX12_goTurn_122 (fun h468 => ?_) (fun h468 => ?_)
              · have hTq : TA (mI Mq120 55) S := by rw [kp120_55]; exact p5
                refine vc_iload_n dX12_goTurn_200 rfl ?_
                refine vc_iconst dX12_goTurn_201 rfl ?_
                refine vc_icmp_eq dX12_goTurn_202 (fun h469 => by exfalso; omega) (fun h469 => ?_)
                refine vc_aload_n dX12_goTurn_205 rfl ?_
                refine vc_iload dX12_goTurn_206 rfl ?_
                refine vc_iload_n dX12_goTurn_208 rfl ?_
                refine vc_cVI dX12_goTurn_209 (sfX12_isCountedF (M := Mq120) hQ120.1 S x467 s (by omega) (by omega) (by omega) (by omega) (by exact hTq) (by exact g120i5)) rfl okX12_isCounted viX12_isCounted lkX12_352 (s_54 hQ120.1.1) cl_12 rfl (Nat.le_of_ble_eq_true rfl) ⟨rfl, rfl⟩ (Nat.le_of_ble_eq_true rfl) (Nat.le_of_ble_eq_true rfl) (Nat.le_of_ble_eq_true rfl) ?_
                rintro x470 _ ⟨rfl, h471, h472, h473⟩
                have hct : (x470 = 1 ∧ cntS S (mI Mq120 54 24) (sdS (mI M 54 25) (mnS t s / 100)) (laS s)) ∨ (x470 = 0 ∧ ¬ cntS S (mI Mq120 54 24) (sdS (mI M 54 25) (mnS t s / 100)) (laS s)) := by rw [← hsd]; exact h473
                refine vc_if_ne dX12_goTurn_212 (fun h474 => ?_) (fun h474 => ?_)
                · refine vc_aload_n dX12_goTurn_217 rfl ?_
                  refine vc_iload dX12_goTurn_218 rfl ?_
                  refine vc_putI dX12_goTurn_220 (plX12_324 _ rfl) (s_54 hQ120.1.1) rfl ?_
                  have kp475 : mI (sI Mq120 54 25 x467) 57 = mI M 57 := (kp_sI kp120_57 rfl)
                  have kp476 : mI (sI Mq120 54 25 x467) 63 = mI M 63 := (kp_sI kp120_63 rfl)
                  have kp477 : mI (sI Mq120 54 25 x467) 55 = mI M 55 := (kp_sI kp120_55 rfl)
                  have hB478 : BF fS M (sI Mq120 54 25 x467) := BF.w54_25 hQ120 rfl (by omega) (by omega)
                  refine vc_iconst dX12_goTurn_223 rfl ?_
                  refine vc_zret dX12_goTurn_224 rfl (by first | decide | omega) (Nat.le_of_ble_eq_true rfl) (Nat.le_of_ble_eq_true rfl) ?_
                  have k479 : mI (sI Mq120 54 25 x467) 54 24 = mI Mq120 54 24 := rfl
                  have k480 : mI (sI Mq120 54 25 x467) 54 25 = x467 := rfl
                  have k481 : mI (sI Mq120 54 25 x467) 54 27 = mI Mq120 54 27 := rfl
                  have k482 : mI (sI Mq120 54 25 x467) 54 32 = mI Mq120 54 32 := rfl
                  exact ⟨_, rfl, hB478, kp477, kp475, kp476, by omega, by omega, by omega, Or.inl ⟨rfl, (gTu_y (S := S) (g := gR M) (q := gR Mq120) hdu (g120i0.trans (by rw [show (41 - mI Mq120 54 27).toNat = (40 - mI Mq120 54 27).toNat + 1 by omega]; exact gTk_0 (by omega))) (by first | exact Or.inl (hwh.mp (by omega)) | exact Or.inr (by rcases hct with h2 | h2; (exact h2.2); (exfalso; omega)))).trans (by rw [show (gR M).2.1 = mI M 54 25 from rfl, ← hsd]; rfl)⟩, g120i5⟩
                · refine vc_iconst dX12_goTurn_215 rfl ?_
                  refine vc_zret dX12_goTurn_216 rfl (by first | decide | omega) (Nat.le_of_ble_eq_true rfl) (Nat.le_of_ble_eq_true rfl) ?_
                  exact ⟨_, rfl, hQ120, kp120_55, kp120_57, kp120_63, by omega, by omega, by omega, Or.inr ⟨rfl, gTu_n (S := S) (g := gR M) (q := gR Mq120) hdu (g120i0.trans (by rw [show (41 - mI Mq120 54 27).toNat = (40 - mI Mq120 54 27).toNat + 1 by omega]; exact gTk_0 (by omega))) (by rintro (h | h); (have h9 := hwh.mpr h; omega); (rcases hct with h2 | h2; (exfalso; omega); (exact h2.2 h)))⟩, g120i5⟩
              · have hTq : TA (mI Mq120 55) S := by rw [kp120_55]; exact p5
                refine vc_aload_n dX12_goTurn_125 rfl ?_
                refine vc_cVI dX12_goTurn_126 (sfX12_goOnF (M := Mq120) hQ120.1 S  (by exact hTq) (by exact g120i5) (by rw [kp120_57]; exact p7) (by exact p8)) rfl okX12_goOn viX12_goOn lkX12_348 (s_54 hQ120.1.1) cl_12 rfl (Nat.le_of_ble_eq_true rfl) ⟨rfl, rfl⟩ (Nat.le_of_ble_eq_true rfl) (Nat.le_of_ble_eq_true rfl) (Nat.le_of_ble_eq_true rfl) ?_
                rintro x483 M484 ⟨hB485, kp486, kp487, kp488, h489, h490, h491, h492, h493, h494⟩
                have hB495 : BF fS M M484 := BF.go hQ120 hB485
                have kp496 : mI M484 57 = mI M 57 := kp_go kp120_57 kp487
                have kp497 : mI M484 63 = mI M 63 := kp_go kp120_63 kp488
                have kp498 : mI M484 55 = mI M 55 := kp_go kp120_55 kp486
                have hgn := h493
                have hlt := h494
                have hTN : TA (mI M484 55) S := by rw [kp498]; exact p5
                have kz := b54_27 (M := M484) hB495.1
                have kz4 := b54_24 (M := M484) hB495.1
                refine vc_if_ne dX12_goTurn_129 (fun h499 => ?_) (fun h499 => ?_)
                · have hgy : gOn S (gR Mq120) = (gR M484, true) := by rcases hgn with h | h; (exact h.2); (exfalso; omega)
                  have hgno : ¬ gNo S (gR Mq120) := fun e => by rw [gOn_n e] at hgy; exact Bool.false_ne_true (congrArg Prod.snd hgy)
                  have hgx : gR M484 = gNx S (gR Mq120) := by rw [gOn_y hgno] at hgy; exact (congrArg Prod.fst hgy).symm
                  have hgc : mI M484 54 27 = mI Mq120 54 27 + 1 := congrArg (fun g : Gw => g.2.2.1) hgx
                  have hgf : mI M484 54 25 = mI Mq120 54 25 := congrArg (fun g : Gw => g.2.1) hgx
                  refine vc_iload dX12_goTurn_134 rfl ?_
                  refine vc_if_ne dX12_goTurn_136 (fun h500 => ?_) (fun h500 => by exfalso; omega)
                  refine vc_iload dX12_goTurn_157 rfl ?_
                  refine vc_if_eq dX12_goTurn_159 (fun h501 => by exfalso; omega) (fun h501 => ?_)
                  refine vc_aload_n dX12_goTurn_162 rfl ?_
                  refine vc_aload_n dX12_goTurn_163 rfl ?_
                  refine vc_getI dX12_goTurn_164 flX12_321 (s_54 hB495.1.1) rfl ?_
                  have k502 : 0 ≤ mI M484 54 24 ∧ mI M484 54 24 ≤ 15 := b54_24 (M := M484) hB495.1
                  refine vc_cVI dX12_goTurn_167 (sfX12_sightOfF (M := M484) hB495.1  (mI M484 54 24) (by omega) (by omega)) rfl okX12_sightOf viX12_sightOf lkX12_318 (s_54 hB495.1.1) cl_12 rfl (Nat.le_of_ble_eq_true rfl) ⟨rfl, rfl⟩ (Nat.le_of_ble_eq_true rfl) (Nat.le_of_ble_eq_true rfl) (Nat.le_of_ble_eq_true rfl) ?_
                  rintro x503 _ ⟨rfl, h504⟩
                  have hsi : x503 = siS S (mI M484 54 24) := h504.trans (hTN.si (by omega) hlt)
                  refine vc_iload dX12_goTurn_170 rfl ?_
                  refine vc_icmp_ne dX12_goTurn_172 (fun h505 => ?_) (fun h505 => ?_)
                  · have hP : ¬ gCt S (mnS t s) (sdS (mI M 54 25) (mnS t s / 100)) (laS s) (mI M484 54 24) := by unfold gCt; rw [hmd.2.1]; rintro (⟨h1, h2⟩ | ⟨h1, h2 | h2⟩) <;> first | omega | (have h3 := hwh.mpr h2; omega) | (rcases hct with h | h; (exfalso; omega); (exact h.2 h2))
                    refine vc_iconst dX12_goTurn_179 rfl ?_
                    refine vc_goto dX12_goTurn_180 ?_
                    refine vc_istore dX12_goTurn_195 (by decide) rfl (show _ = [some (aR 54), none, some (aI s), some (aI x1), some (aI x2), some (aI 1), none, some (aI x467), some (aI v8), some (aI 0)] from rfl) ?_
                    refine vc_goto dX12_goTurn_197 ?_
                    exact ih120 M484 v8 0 hB495 kp496 kp497 kp498 (by omega) (by omega) (by omega) (by first | (rw [Int.sub_zero]; done) | (show gTk _ _ _ _ _ = gTk _ _ _ (1 - 0) _; rfl) | (rw [g120i0, show (41 - mI Mq120 54 27).toNat = (41 - mI M484 54 27).toNat + 1 by omega]; first | (rw [gTk_y (by omega) hgno (by rw [← hgx]; exact hP), ← hgx]; first | done | (congr 1; omega) | rfl) | (rw [gTk_n (by omega) hgno (by rw [← hgx]; exact hP), ← hgx]; first | done | (congr 1; omega) | rfl))) (by omega) (by omega) (by omega) (by omega) (by omega) (by omega)
                  · have hP : gCt S (mnS t s) (sdS (mI M 54 25) (mnS t s / 100)) (laS s) (mI M484 54 24) := by unfold gCt; rw [hmd.2.1]; first | exact Or.inl ⟨by omega, by omega⟩ | exact Or.inr ⟨by omega, Or.inl (hwh.mp (by omega))⟩ | exact Or.inr ⟨by omega, Or.inr (by rcases hct with h | h; (exact h.2); (exfalso; omega))⟩
                    refine vc_iconst dX12_goTurn_175 rfl ?_
                    refine vc_goto dX12_goTurn_176 ?_
                    refine vc_istore dX12_goTurn_195 (by decide) rfl (show _ = [some (aR 54), none, some (aI s), some (aI x1), some (aI x2), some (aI 1), none, some (aI x467), some (aI v8), some (aI 1)] from rfl) ?_
                    refine vc_goto dX12_goTurn_197 ?_
                    exact ih120 M484 v8 1 hB495 kp496 kp497 kp498 (by omega) (by omega) (by omega) (by first | (rw [Int.sub_zero]; done) | (show gTk _ _ _ _ _ = gTk _ _ _ (1 - 0) _; rfl) | (rw [g120i0, show (41 - mI Mq120 54 27).toNat = (41 - mI M484 54 27).toNat + 1 by omega]; first | (rw [gTk_y (by omega) hgno (by rw [← hgx]; exact hP), ← hgx]; first | done | (congr 1; omega) | rfl) | (rw [gTk_n (by omega) hgno (by rw [← hgx]; exact hP), ← hgx]; first | done | (congr 1; omega) | rfl))) (by omega) (by omega) (by omega) (by omega) (by omega) (by omega)
                · refine vc_iconst dX12_goTurn_132 rfl ?_
                  refine vc_zret dX12_goTurn_133 rfl (by first | decide | omega) (Nat.le_of_ble_eq_true rfl) (Nat.le_of_ble_eq_true rfl) ?_
                  have hgf2 : gOn S (gR Mq120) = (gR M484, false) := by rcases hgn with h | h; (exfalso; omega); (exact h.2)
                  have hgno : gNo S (gR Mq120) := by by_cases e : gNo S (gR Mq120); (exact e); (rw [gOn_y e] at hgf2; exact absurd (congrArg Prod.snd hgf2).symm Bool.false_ne_true)
                  have hgx : gR M484 = gR Mq120 := by rw [gOn_n hgno] at hgf2; exact (congrArg Prod.fst hgf2).symm
                  exact ⟨_, rfl, hB495, kp498, kp496, kp497, by omega, by omega, by omega, Or.inr ⟨rfl, by rw [hgx]; exact gTu_f (S := S) (g := gR M) hdu (g120i0.trans (by rw [show (41 - mI Mq120 54 27).toNat = (40 - mI Mq120 54 27).toNat + 1 by omega]; exact gTk_f (by omega) hgno))⟩, hlt⟩
          refine vc_less [some (aR 54), none, some (aI s), some (aI x1), some (aI x2), some (aI 1), none, some (aI x467), some (aI 0), some (aI 0)] (lessL_keep (lessL_drop (lessL_keep (lessL_keep (lessL_keep (lessL_keep (lessL_drop (lessL_keep (lessL_keep (lessL_keep (lessL_nil))))))))))) ?_
          exact lp120 _ M 0 0 hB0 rfl rfl rfl (by omega) (by omega) (by omega) (by first | (rw [Int.sub_zero]; done) | (show gTk _ _ _ _ _ = gTk _ _ _ (1 - 0) _; rfl) | (rw [g120i0, show (41 - mI Mq120 54 27).toNat = (41 - mI M484 54 27).toNat + 1 by omega]; first | (rw [gTk_y (by omega) hgno (by rw [← hgx]; exact hP), ← hgx]; first | done | (congr 1; omega) | rfl) | (rw [gTk_n (by omega) hgno (by rw [← hgx]; exact hP), ← hgx]; first | done | (congr 1; omega) | rfl))) (by omega) (by omega) (by omega) (by omega) (by omega) (Nat.lt_succ_self _)
        · refine vc_iconst dX12_goTurn_68 rfl ?_
          refine vc_goto dX12_goTurn_69 ?_
          refine vc_icmp_ne dX12_goTurn_73 (fun h506 => by exfalso; omega) (fun h506 => ?_)
          refine vc_iconst dX12_goTurn_76 rfl ?_
          refine vc_goto dX12_goTurn_77 ?_
          refine vc_istore dX12_goTurn_81 (by decide) rfl (show _ = [some (aR 54), some (aI t), some (aI s), some (aI x1), some (aI x2), some (aI 1), some (aI 1), none, none, none] from rfl) ?_
          refine vc_iload_n dX12_goTurn_83 rfl ?_
          refine vc_iconst dX12_goTurn_84 rfl ?_
          refine vc_icmp_ne dX12_goTurn_85 (fun h507 => ?_) (fun h507 => by exfalso; omega)
          refine vc_aload_n dX12_goTurn_95 rfl ?_
          refine vc_getI dX12_goTurn_96 flX12_324 (s_54 hB0.1.1) rfl ?_
          have k508 : 0 ≤ mI M 54 25 ∧ mI M 54 25 ≤ 3 := b54_25 (M := M) hB0.1
          refine vc_iload dX12_goTurn_99 rfl ?_
          refine vc_if_eq dX12_goTurn_101 (fun h509 => by exfalso; omega) (fun h509 => ?_)
          refine vc_iconst dX12_goTurn_104 rfl ?_
          refine vc_goto dX12_goTurn_105 ?_
          refine vc_iaddE dX12_goTurn_109 (by omega) (by omega) ?_
          refine vc_iconst dX12_goTurn_110 rfl ?_
          refine vc_iremE dX12_goTurn_111 (by omega) (by omega) ?_
          refine vc_nameI (fun x510 ex510 => ?_)
          refine vc_istore dX12_goTurn_112 (by decide) rfl (show _ = [some (aR 54), some (aI t), some (aI s), some (aI x1), some (aI x2), some (aI 1), some (aI 1), some (aI x510), none, none] from rfl) ?_
          have hsd : x510 = (sdS (mI M 54 25) (mnS t s / 100)) := by unfold sdS; rw [hmd.1]; by_cases e1 : s % 2 ≠ 0 ∧ t / 100 ≠ 3; (rw [if_pos e1]; first | (exfalso; omega) | (rw [if_pos (by omega)]; first | done | omega) | (rw [if_neg (by omega), if_pos (by omega)]; first | done | omega) | (rw [if_neg (by omega), if_neg (by omega)]; first | done | omega)); (rw [if_neg e1]; first | (exfalso; omega) | (rw [if_pos (by omega)]; first | done | omega) | (rw [if_neg (by omega), if_pos (by omega)]; first | done | omega) | (rw [if_neg (by omega), if_neg (by omega)]; first | done | omega))
          have hdu : (1 : Int) = if (mnS t s) / 10 % 10 = 1 then 1 else (mnS t s) % 10 := by rw [hmd.2.1]; first | (rw [if_pos (by omega)]) | (rw [if_neg (by omega)])
          have hn4 : x2 = (mnS t s) % 10 := by rw [hmd.2.2]; first | (rw [if_pos (by omega)]; omega) | (rw [if_neg (by omega)]; omega)
          have hwh : x1 = 3 ↔ (mnS t s) / 100 = 3 := by rw [mn_3 p4]; omega
          refine vc_iconst dX12_goTurn_114 rfl ?_
          refine vc_istore dX12_goTurn_115 (by decide) rfl (show _ = [some (aR 54), some (aI t), some (aI s), some (aI x1), some (aI x2), some (aI 1), some (aI 1), some (aI x510), some (aI 0), none] from rfl) ?_
          refine vc_iconst dX12_goTurn_117 rfl ?_
          refine vc_istore dX12_goTurn_118 (by decide) rfl (show _ = [some (aR 54), some (aI t), some (aI s), some (aI x1), some (aI x2), some (aI 1), some (aI 1), some (aI x510), some (aI 0), some (aI 0)] from rfl) ?_
          have lp120 : ∀ (n120 : Nat) (Mq120 : Mem) (v8 : Int) (v9 : Int), (BF fS M Mq120) → (mI Mq120 57 = mI M 57) → (mI Mq120 63 = mI M 63) → (mI Mq120 55 = mI M 55) → (0 ≤ v8) → (0 ≤ v9) → (v9 ≤ 1) → (gTk S (gCt S (mnS t s) (sdS (mI M 54 25) (mnS t s / 100)) (laS s)) (41 - mI M 54 27).toNat (1) (gR M) = gTk S (gCt S (mnS t s) (sdS (mI M 54 25) (mnS t s / 100)) (laS s)) (41 - mI Mq120 54 27).toNat (1 - v9) (gR Mq120)) → (mI Mq120 54 25 = mI M 54 25) → (mI Mq120 54 32 = mI M 54 32) → (0 ≤ mI Mq120 54 27) → (mI Mq120 54 27 ≤ 40) → (mI Mq120 54 24 < S 1 6) → (40 - mI Mq120 54 27).toNat < n120 → VC l mdX12_goTurn 120 [some (aR 54), none, some (aI s), some (aI x1), some (aI x2), some (aI 1), none, some (aI x510), some (aI v8), some (aI v9)] [] Mq120 0 0 (fun q N => ∃ r : Int, q = some (aI r) ∧ BF fS M N ∧ mI N 55 = mI M 55 ∧ mI N 57 = mI M 57 ∧ mI N 63 = mI M 63 ∧ 0 ≤ r ∧ r ≤ 1 ∧ mI N 54 32 = mI M 54 32 ∧ ((r = 1 ∧ gTu S (mnS t s) (laS s) (gR M) = (gR N, true)) ∨ (r = 0 ∧ gTu S (mnS t s) (laS s) (gR M) = (gR N, false))) ∧ mI N 54 24 < S 1 6) := by
            intro n120
            induction n120 with
            | zero => intro Mq120 v8 v9 hQ120 kp120_57 kp120_63 kp120_55 g120_8a g120_9a g120_9b g120i0 g120i1 g120i2 g120i3 g120i4 g120i5 hm120; exact absurd hm120 (Nat.not_lt_zero _)
            | succ n120 ih120 =>
              intro Mq120 v8 v9 hQ120 kp120_57 kp120_63 kp120_55 g120_8a g120_9a g120_9b g120i0 g120i1 g120i2 g120i3 g120i4 g120i5 hm120
              refine vc_iload dX12_goTurn_120 rfl ?_
              refine vc_if_ne dX12_goTurn_122 (fun h511 => ?_) (fun h511 => ?_)
              · have hTq : TA (mI Mq120 55) S := by rw [kp120_55]; exact p5
                refine vc_iload_n dX12_goTurn_200 rfl ?_
                refine vc_iconst dX12_goTurn_201 rfl ?_
                refine vc_icmp_eq dX12_goTurn_202 (fun h512 => by exfalso; omega) (fun h512 => ?_)
                refine vc_aload_n dX12_goTurn_205 rfl ?_
                refine vc_iload dX12_goTurn_206 rfl ?_
                refine vc_iload_n dX12_goTurn_208 rfl ?_
                refine vc_cVI dX12_goTurn_209 (sfX12_isCountedF (M := Mq120) hQ120.1 S x510 s (by omega) (by omega) (by omega) (by omega) (by exact hTq) (by exact g120i5)) rfl okX12_isCounted viX12_isCounted lkX12_352 (s_54 hQ120.1.1) cl_12 rfl (Nat.le_of_ble_eq_true rfl) ⟨rfl, rfl⟩ (Nat.le_of_ble_eq_true rfl) (Nat.le_of_ble_eq_true rfl) (Nat.le_of_ble_eq_true rfl) ?_
                rintro x513 _ ⟨rfl, h514, h515, h516⟩
                have hct : (x513 = 1 ∧ cntS S (mI Mq120 54 24) (sdS (mI M 54 25) (mnS t s / 100)) (laS s)) ∨ (x513 = 0 ∧ ¬ cntS S (mI Mq120 54 24) (sdS (mI M 54 25) (mnS t s / 100)) (laS s)) := by rw [← hsd]; exact h516
                refine vc_if_ne dX12_goTurn_212 (fun h517 => ?_) (fun h517 => ?_)
                · refine vc_aload_n dX12_goTurn_217 rfl ?_
                  refine vc_iload dX12_goTurn_218 rfl ?_
                  refine vc_putI dX12_goTurn_220 (plX12_324 _ rfl) (s_54 hQ120.1.1) rfl ?_
                  have kp518 : mI (sI Mq120 54 25 x510) 57 = mI M 57 := (kp_sI kp120_57 rfl)
                  have kp519 : mI (sI Mq120 54 25 x510) 63 = mI M 63 := (kp_sI kp120_63 rfl)
                  have kp520 : mI (sI Mq120 54 25 x510) 55 = mI M 55 := (kp_sI kp120_55 rfl)
                  have hB521 : BF fS M (sI Mq120 54 25 x510) := BF.w54_25 hQ120 rfl (by omega) (by omega)
                  refine vc_iconst dX12_goTurn_223 rfl ?_
                  refine vc_zret dX12_goTurn_224 rfl (by first | decide | omega) (Nat.le_of_ble_eq_true rfl) (Nat.le_of_ble_eq_true rfl) ?_
                  have k522 : mI (sI Mq120 54 25 x510) 54 24 = mI Mq120 54 24 := rfl
                  have k523 : mI (sI Mq120 54 25 x510) 54 25 = x510 := rfl
                  have k524 : mI (sI Mq120 54 25 x510) 54 27 = mI Mq120 54 27 := rfl
                  have k525 : mI (sI Mq120 54 25 x510) 54 32 = mI Mq120 54 32 := rfl
                  exact ⟨_, rfl, hB521, kp520, kp518, kp519, by omega, by omega, by omega, Or.inl ⟨rfl, (gTu_y (S := S) (g := gR M) (q := gR Mq120) hdu (g120i0.trans (by rw [show (41 - mI Mq120 54 27).toNat = (40 - mI Mq120 54 27).toNat + 1 by omega]; exact gTk_0 (by omega))) (by first | exact Or.inl (hwh.mp (by omega)) | exact Or.inr (by rcases hct with h2 | h2; (exact h2.2); (exfalso; omega)))).trans (by rw [show (gR M).2.1 = mI M 54 25 from rfl, ← hsd]; rfl)⟩, g120i5⟩
                · refine vc_iconst dX12_goTurn_215 rfl ?_
                  refine vc_zret dX12_goTurn_216 rfl (by first | decide | omega) (Nat.le_of_ble_eq_true rfl) (Nat.le_of_ble_eq_true rfl) ?_
                  exact ⟨_, rfl, hQ120, kp120_55, kp120_57, kp120_63, by omega, by omega, by omega, Or.inr ⟨rfl, gTu_n (S := S) (g := gR M) (q := gR Mq120) hdu (g120i0.trans (by rw [show (41 - mI Mq120 54 27).toNat = (40 - mI Mq120 54 27).toNat + 1 by omega]; exact gTk_0 (by omega))) (by rintro (h | h); (have h9 := hwh.mpr h; omega); (rcases hct with h2 | h2; (exfalso; omega); (exact h2.2 h)))⟩, g120i5⟩
              · have hTq : TA (mI Mq120 55) S := by rw [kp120_55]; exact p5
                refine vc_aload_n dX12_goTurn_125 rfl ?_
                refine vc_cVI dX12_goTurn_126 (sfX12_goOnF (M := Mq120) hQ120.1 S  (by exact hTq) (by exact g120i5) (by rw [kp120_57]; exact p7) (by exact p8)) rfl okX12_goOn viX12_goOn lkX12_348 (s_54 hQ120.1.1) cl_12 rfl (Nat.le_of_ble_eq_true rfl) ⟨rfl, rfl⟩ (Nat.le_of_ble_eq_true rfl) (Nat.le_of_ble_eq_true rfl) (Nat.le_of_ble_eq_true rfl) ?_
                rintro x526 M527 ⟨hB528, kp529, kp530, kp531, h532, h533, h534, h535, h536, h537⟩
                have hB538 : BF fS M M527 := BF.go hQ120 hB528
                have kp539 : mI M527 57 = mI M 57 := kp_go kp120_57 kp530
                have kp540 : mI M527 63 = mI M 63 := kp_go kp120_63 kp531
                have kp541 : mI M527 55 = mI M 55 := kp_go kp120_55 kp529
                have hgn := h536
                have hlt := h537
                have hTN : TA (mI M527 55) S := by rw [kp541]; exact p5
                have kz := b54_27 (M := M527) hB538.1
                have kz4 := b54_24 (M := M527) hB538.1
                refine vc_if_ne dX12_goTurn_129 (fun h542 => ?_) (fun h542 => ?_)
                · have hgy : gOn S (gR Mq120) = (gR M527, true) := by rcases hgn with h | h; (exact h.2); (exfalso; omega)
                  have hgno : ¬ gNo S (gR Mq120) := fun e => by rw [gOn_n e] at hgy; exact Bool.false_ne_true (congrArg Prod.snd hgy)
                  have hgx : gR M527 = gNx S (gR Mq120) := by rw [gOn_y hgno] at hgy; exact (congrArg Prod.fst hgy).symm
                  have hgc : mI M527 54 27 = mI Mq120 54 27 + 1 := congrArg (fun g : Gw => g.2.2.1) hgx
                  have hgf : mI M527 54 25 = mI Mq120 54 25 := congrArg (fun g : Gw => g.2.1) hgx
                  refine vc_iload dX12_goTurn_134 rfl ?_
                  refine vc_if_ne dX12_goTurn_136 (fun h543 => ?_) (fun h543 => by exfalso; omega)
                  refine vc_iload dX12_goTurn_157 rfl ?_
                  refine vc_if_eq dX12_goTurn_159 (fun h544 => by exfalso; omega) (fun h544 => ?_)
                  refine vc_aload_n dX12_goTurn_162 rfl ?_
                  refine vc_aload_n dX12_goTurn_163 rfl ?_
                  refine vc_getI dX12_goTurn_164 flX12_321 (s_54 hB538.1.1) rfl ?_
                  have k545 : 0 ≤ mI M527 54 24 ∧ mI M527 54 24 ≤ 15 := b54_24 (M := M527) hB538.1
                  refine vc_cVI dX12_goTurn_167 (sfX12_sightOfF (M := M527) hB538.1  (mI M527 54 24) (by omega) (by omega)) rfl okX12_sightOf viX12_sightOf lkX12_318 (s_54 hB538.1.1) cl_12 rfl (Nat.le_of_ble_eq_true rfl) ⟨rfl, rfl⟩ (Nat.le_of_ble_eq_true rfl) (Nat.le_of_ble_eq_true rfl) (Nat.le_of_ble_eq_true rfl) ?_
                  rintro x546 _ ⟨rfl, h547⟩
                  have hsi : x546 = siS S (mI M527 54 24) := h547.trans (hTN.si (by omega) hlt)
                  refine vc_iload dX12_goTurn_170 rfl ?_
                  refine vc_icmp_ne dX12_goTurn_172 (fun h548 => ?_) (fun h548 => ?_)
                  · have hP : ¬ gCt S (mnS t s) (sdS (mI M 54 25) (mnS t s / 100)) (laS s) (mI M527 54 24) := by unfold gCt; rw [hmd.2.1]; rintro (⟨h1, h2⟩ | ⟨h1, h2 | h2⟩) <;> first | omega | (have h3 := hwh.mpr h2; omega) | (rcases hct with h | h; (exfalso; omega); (exact h.2 h2))
                    refine vc_iconst dX12_goTurn_179 rfl ?_
                    refine vc_goto dX12_goTurn_180 ?_
                    refine vc_istore dX12_goTurn_195 (by decide) rfl (show _ = [some (aR 54), none, some (aI s), some (aI x1), some (aI x2), some (aI 1), none, some (aI x510), some (aI v8), some (aI 0)] from rfl) ?_
                    refine vc_goto dX12_goTurn_197 ?_
                    exact ih120 M527 v8 0 hB538 kp539 kp540 kp541 (by omega) (by omega) (by omega) (by first | (rw [Int.sub_zero]; done) | (show gTk _ _ _ _ _ = gTk _ _ _ (1 - 0) _; rfl) | (rw [g120i0, show (41 - mI Mq120 54 27).toNat = (41 - mI M527 54 27).toNat + 1 by omega]; first | (rw [gTk_y (by omega) hgno (by rw [← hgx]; exact hP), ← hgx]; first | done | (congr 1; omega) | rfl) | (rw [gTk_n (by omega) hgno (by rw [← hgx]; exact hP), ← hgx]; first | done | (congr 1; omega) | rfl))) (by omega) (by omega) (by omega) (by omega) (by omega) (by omega)
                  · have hP : gCt S (mnS t s) (sdS (mI M 54 25) (mnS t s / 100)) (laS s) (mI M527 54 24) := by unfold gCt; rw [hmd.2.1]; first | exact Or.inl ⟨by omega, by omega⟩ | exact Or.inr ⟨by omega, Or.inl (hwh.mp (by omega))⟩ | exact Or.inr ⟨by omega, Or.inr (by rcases hct with h | h; (exact h.2); (exfalso; omega))⟩
                    refine vc_iconst dX12_goTurn_175 rfl ?_
                    refine vc_goto dX12_goTurn_176 ?_
                    refine vc_istore dX12_goTurn_195 (by decide) rfl (show _ = [some (aR 54), none, some (aI s), some (aI x1), some (aI x2), some (aI 1), none, some (aI x510), some (aI v8), some (aI 1)] from rfl) ?_
                    refine vc_goto dX12_goTurn_197 ?_
                    exact ih120 M527 v8 1 hB538 kp539 kp540 kp541 (by omega) (by omega) (by omega) (by first | (rw [Int.sub_zero]; done) | (show gTk _ _ _ _ _ = gTk _ _ _ (1 - 0) _; rfl) | (rw [g120i0, show (41 - mI Mq120 54 27).toNat = (41 - mI M527 54 27).toNat + 1 by omega]; first | (rw [gTk_y (by omega) hgno (by rw [← hgx]; exact hP), ← hgx]; first | done | (congr 1; omega) | rfl) | (rw [gTk_n (by omega) hgno (by rw [← hgx]; exact hP), ← hgx]; first | done | (congr 1; omega) | rfl))) (by omega) (by omega) (by omega) (by omega) (by omega) (by omega)
                · refine vc_iconst dX12_goTurn_132 rfl ?_
                  refine vc_zret dX12_goTurn_133 rfl (by first | decide | omega) (Nat.le_of_ble_eq_true rfl) (Nat.le_of_ble_eq_true rfl) ?_
                  have hgf2 : gOn S (gR Mq120) = (gR M527, false) := by rcases hgn with h | h; (exfalso; omega); (exact h.2)
                  have hgno : gNo S (gR Mq120) := by by_cases e : gNo S (gR Mq120); (exact e); (rw [gOn_y e] at hgf2; exact absurd (congrArg Prod.snd hgf2).symm Bool.false_ne_true)
                  have hgx : gR M527 = gR Mq120 := by rw [gOn_n hgno] at hgf2; exact (congrArg Prod.fst hgf2).symm
                  exact ⟨_, rfl, hB538, kp541, kp539, kp540, by omega, by omega, by omega, Or.inr ⟨rfl, by rw [hgx]; exact gTu_f (S := S) (g := gR M) hdu (g120i0.trans (by rw [show (41 - mI Mq120 54 27).toNat = (40 - mI Mq120 54 27).toNat + 1 by omega]; exact gTk_f (by omega) hgno))⟩, hlt⟩
          refine vc_less [some (aR 54), none, some (aI s), some (aI x1), some (aI x2), some (aI 1), none, some (aI x510), some (aI 0), some (aI 0)] (lessL_keep (lessL_drop (lessL_keep (lessL_keep (lessL_keep (lessL_keep (lessL_drop (lessL_keep (lessL_keep (lessL_keep (lessL_nil))))))))))) ?_
          exact lp120 _ M 0 0 hB0 rfl rfl rfl (by omega) (by omega) (by omega) (by first | (rw [Int.sub_zero]; done) | (show gTk _ _ _ _ _ = gTk _ _ _ (1 - 0) _; rfl) | (rw [g120i0, show (41 - mI Mq120 54 27).toNat = (41 - mI M527 54 27).toNat + 1 by omega]; first | (rw [gTk_y (by omega) hgno (by rw [← hgx]; exact hP), ← hgx]; first | done | (congr 1; omega) | rfl) | (rw [gTk_n (by omega) hgno (by rw [← hgx]; exact hP), ← hgx]; first | done | (congr 1; omega) | rfl))) (by omega) (by omega) (by omega) (by omega) (by omega) (Nat.lt_succ_self _)
    · refine vc_iload dX12_goTurn_40 rfl ?_
      refine vc_iconst dX12_goTurn_42 rfl ?_
      refine vc_icmp_ge dX12_goTurn_43 (fun h549 => ?_) (fun h549 => ?_)
      · refine vc_iload_n dX12_goTurn_52 rfl ?_
        refine vc_iconst dX12_goTurn_53 rfl ?_
        refine vc_icmp_ne dX12_goTurn_54 (fun h550 => ?_) (fun h550 => ?_)
        · refine vc_iconst dX12_goTurn_61 rfl ?_
          refine vc_iload_n dX12_goTurn_62 rfl ?_
          refine vc_iconst dX12_goTurn_63 rfl ?_
          refine vc_iandM dX12_goTurn_64 2 1 rfl (by decide) rfl ?_
          refine vc_if_ne dX12_goTurn_65 (fun h551 => ?_) (fun h551 => ?_)
          · refine vc_iconst dX12_goTurn_72 rfl ?_
            refine vc_icmp_ne dX12_goTurn_73 (fun h552 => by exfalso; omega) (fun h552 => ?_)
            refine vc_iconst dX12_goTurn_76 rfl ?_
            refine vc_goto dX12_goTurn_77 ?_
            refine vc_istore dX12_goTurn_81 (by decide) rfl (show _ = [some (aR 54), some (aI t), some (aI s), some (aI x1), some (aI x2), some (aI 1), some (aI 1), none, none, none] from rfl) ?_
            refine vc_iload_n dX12_goTurn_83 rfl ?_
            refine vc_iconst dX12_goTurn_84 rfl ?_
            refine vc_icmp_ne dX12_goTurn_85 (fun h553 => ?_) (fun h553 => ?_)
            · refine vc_aload_n dX12_goTurn_95 rfl ?_
              refine vc_getI dX12_goTurn_96 flX12_324 (s_54 hB0.1.1) rfl ?_
              have k554 : 0 ≤ mI M 54 25 ∧ mI M 54 25 ≤ 3 := b54_25 (M := M) hB0.1
              refine vc_iload dX12_goTurn_99 rfl ?_
              refine vc_if_eq dX12_goTurn_101 (fun h555 => by exfalso; omega) (fun h555 => ?_)
              refine vc_iconst dX12_goTurn_104 rfl ?_
              refine vc_goto dX12_goTurn_105 ?_
              refine vc_iaddE dX12_goTurn_109 (by omega) (by omega) ?_
              refine vc_iconst dX12_goTurn_110 rfl ?_
              refine vc_iremE dX12_goTurn_111 (by omega) (by omega) ?_
              refine vc_nameI (fun x556 ex556 => ?_)
              refine vc_istore dX12_goTurn_112 (by decide) rfl (show _ = [some (aR 54), some (aI t), some (aI s), some (aI x1), some (aI x2), some (aI 1), some (aI 1), some (aI x556), none, none] from rfl) ?_
              have hsd : x556 = (sdS (mI M 54 25) (mnS t s / 100)) := by unfold sdS; rw [hmd.1]; by_cases e1 : s % 2 ≠ 0 ∧ t / 100 ≠ 3; (rw [if_pos e1]; first | (exfalso; omega) | (rw [if_pos (by omega)]; first | done | omega) | (rw [if_neg (by omega), if_pos (by omega)]; first | done | omega) | (rw [if_neg (by omega), if_neg (by omega)]; first | done | omega)); (rw [if_neg e1]; first | (exfalso; omega) | (rw [if_pos (by omega)]; first | done | omega) | (rw [if_neg (by omega), if_pos (by omega)]; first | done | omega) | (rw [if_neg (by omega), if_neg (by omega)]; first | done | omega))
              have hdu : (1 : Int) = if (mnS t s) / 10 % 10 = 1 then 1 else (mnS t s) % 10 := by rw [hmd.2.1]; first | (rw [if_pos (by omega)]) | (rw [if_neg (by omega)])
              have hn4 : x2 = (mnS t s) % 10 := by rw [hmd.2.2]; first | (rw [if_pos (by omega)]; omega) | (rw [if_neg (by omega)]; omega)
              have hwh : x1 = 3 ↔ (mnS t s) / 100 = 3 := by rw [mn_3 p4]; omega
              refine vc_iconst dX12_goTurn_114 rfl ?_
              refine vc_istore dX12_goTurn_115 (by decide) rfl (show _ = [some (aR 54), some (aI t), some (aI s), some (aI x1), some (aI x2), some (aI 1), some (aI 1), some (aI x556), some (aI 0), none] from rfl) ?_
              refine vc_iconst dX12_goTurn_117 rfl ?_
              refine vc_istore dX12_goTurn_118 (by decide) rfl (show _ = [some (aR 54), some (aI t), some (aI s), some (aI x1), some (aI x2), some (aI 1), some (aI 1), some (aI x556), some (aI 0), some (aI 0)] from rfl) ?_
              have lp120 : ∀ (n120 : Nat) (Mq120 : Mem) (v8 : Int) (v9 : Int), (BF fS M Mq120) → (mI Mq120 57 = mI M 57) → (mI Mq120 63 = mI M 63) → (mI Mq120 55 = mI M 55) → (0 ≤ v8) → (0 ≤ v9) → (v9 ≤ 1) → (gTk S (gCt S (mnS t s) (sdS (mI M 54 25) (mnS t s / 100)) (laS s)) (41 - mI M 54 27).toNat (1) (gR M) = gTk S (gCt S (mnS t s) (sdS (mI M 54 25) (mnS t s / 100)) (laS s)) (41 - mI Mq120 54 27).toNat (1 - v9) (gR Mq120)) → (mI Mq120 54 25 = mI M 54 25) → (mI Mq120 54 32 = mI M 54 32) → (0 ≤ mI Mq120 54 27) → (mI Mq120 54 27 ≤ 40) → (mI Mq120 54 24 < S 1 6) → (40 - mI Mq120 54 27).toNat < n120 → VC l mdX12_goTurn 120 [some (aR 54), none, some (aI s), some (aI x1), some (aI x2), some (aI 1), none, some (aI x556), some (aI v8), some (aI v9)] [] Mq120 0 0 (fun q N => ∃ r : Int, q = some (aI r) ∧ BF fS M N ∧ mI N 55 = mI M 55 ∧ mI N 57 = mI M 57 ∧ mI N 63 = mI M 63 ∧ 0 ≤ r ∧ r ≤ 1 ∧ mI N 54 32 = mI M 54 32 ∧ ((r = 1 ∧ gTu S (mnS t s) (laS s) (gR M) = (gR N, true)) ∨ (r = 0 ∧ gTu S (mnS t s) (laS s) (gR M) = (gR N, false))) ∧ mI N 54 24 < S 1 6) := by
                intro n120
                induction n120 with
                | zero => intro Mq120 v8 v9 hQ120 kp120_57 kp120_63 kp120_55 g120_8a g120_9a g120_9b g120i0 g120i1 g120i2 g120i3 g120i4 g120i5 hm120; exact absurd hm120 (Nat.not_lt_zero _)
                | succ n120 ih120 =>
                  intro Mq120 v8 v9 hQ120 kp120_57 kp120_63 kp120_55 g120_8a g120_9a g120_9b g120i0 g120i1 g120i2 g120i3 g120i4 g120i5 hm120
                  refine vc_iload dX12_goTurn_120 rfl ?_
                  refine vc_if_ne dX12_goTurn_122 (fun h557 => ?_) (fun h557 => ?_)
                  · have hTq : TA (mI Mq120 55) S := by rw [kp120_55]; exact p5
                    refine vc_iload_n dX12_goTurn_200 rfl ?_
                    refine vc_iconst dX12_goTurn_201 rfl ?_
                    refine vc_icmp_eq dX12_goTurn_202 (fun h558 => ?_) (fun h558 => ?_)
                    · refine vc_aload_n dX12_goTurn_217 rfl ?_
                      refine vc_iload dX12_goTurn_218 rfl ?_
                      refine vc_putI dX12_goTurn_220 (plX12_324 _ rfl) (s_54 hQ120.1.1) rfl ?_
                      have kp559 : mI (sI Mq120 54 25 x556) 57 = mI M 57 := (kp_sI kp120_57 rfl)
                      have kp560 : mI (sI Mq120 54 25 x556) 63 = mI M 63 := (kp_sI kp120_63 rfl)
                      have kp561 : mI (sI Mq120 54 25 x556) 55 = mI M 55 := (kp_sI kp120_55 rfl)
                      have hB562 : BF fS M (sI Mq120 54 25 x556) := BF.w54_25 hQ120 rfl (by omega) (by omega)
                      refine vc_iconst dX12_goTurn_223 rfl ?_
                      refine vc_zret dX12_goTurn_224 rfl (by first | decide | omega) (Nat.le_of_ble_eq_true rfl) (Nat.le_of_ble_eq_true rfl) ?_
                      have k563 : mI (sI Mq120 54 25 x556) 54 24 = mI Mq120 54 24 := rfl
                      have k564 : mI (sI Mq120 54 25 x556) 54 25 = x556 := rfl
                      have k565 : mI (sI Mq120 54 25 x556) 54 27 = mI Mq120 54 27 := rfl
                      have k566 : mI (sI Mq120 54 25 x556) 54 32 = mI Mq120 54 32 := rfl
                      exact ⟨_, rfl, hB562, kp561, kp559, kp560, by omega, by omega, by omega, Or.inl ⟨rfl, (gTu_y (S := S) (g := gR M) (q := gR Mq120) hdu (g120i0.trans (by rw [show (41 - mI Mq120 54 27).toNat = (40 - mI Mq120 54 27).toNat + 1 by omega]; exact gTk_0 (by omega))) (by first | exact Or.inl (hwh.mp (by omega)) | exact Or.inr (by rcases hct with h2 | h2; (exact h2.2); (exfalso; omega)))).trans (by rw [show (gR M).2.1 = mI M 54 25 from rfl, ← hsd]; rfl)⟩, g120i5⟩
                    · refine vc_aload_n dX12_goTurn_205 rfl ?_
                      refine vc_iload dX12_goTurn_206 rfl ?_
                      refine vc_iload_n dX12_goTurn_208 rfl ?_
                      refine vc_cVI dX12_goTurn_209 (sfX12_isCountedF (M := Mq120) hQ120.1 S x556 s (by omega) (by omega) (by omega) (by omega) (by exact hTq) (by exact g120i5)) rfl okX12_isCounted viX12_isCounted lkX12_352 (s_54 hQ120.1.1) cl_12 rfl (Nat.le_of_ble_eq_true rfl) ⟨rfl, rfl⟩ (Nat.le_of_ble_eq_true rfl) (Nat.le_of_ble_eq_true rfl) (Nat.le_of_ble_eq_true rfl) ?_
                      rintro x567 _ ⟨rfl, h568, h569, h570⟩
                      have hct : (x567 = 1 ∧ cntS S (mI Mq120 54 24) (sdS (mI M 54 25) (mnS t s / 100)) (laS s)) ∨ (x567 = 0 ∧ ¬ cntS S (mI Mq120 54 24) (sdS (mI M 54 25) (mnS t s / 100)) (laS s)) := by rw [← hsd]; exact h570
                      refine vc_if_ne dX12_goTurn_212 (fun h571 => ?_) (fun h571 => ?_)
                      · refine vc_aload_n dX12_goTurn_217 rfl ?_
                        refine vc_iload dX12_goTurn_218 rfl ?_
                        refine vc_putI dX12_goTurn_220 (plX12_324 _ rfl) (s_54 hQ120.1.1) rfl ?_
                        have kp572 : mI (sI Mq120 54 25 x556) 57 = mI M 57 := (kp_sI kp120_57 rfl)
                        have kp573 : mI (sI Mq120 54 25 x556) 63 = mI M 63 := (kp_sI kp120_63 rfl)
                        have kp574 : mI (sI Mq120 54 25 x556) 55 = mI M 55 := (kp_sI kp120_55 rfl)
                        have hB575 : BF fS M (sI Mq120 54 25 x556) := BF.w54_25 hQ120 rfl (by omega) (by omega)
                        refine vc_iconst dX12_goTurn_223 rfl ?_
                        refine vc_zret dX12_goTurn_224 rfl (by first | decide | omega) (Nat.le_of_ble_eq_true rfl) (Nat.le_of_ble_eq_true rfl) ?_
                        have k576 : mI (sI Mq120 54 25 x556) 54 24 = mI Mq120 54 24 := rfl
                        have k577 : mI (sI Mq120 54 25 x556) 54 25 = x556 := rfl
                        have k578 : mI (sI Mq120 54 25 x556) 54 27 = mI Mq120 54 27 := rfl
                        have k579 : mI (sI Mq120 54 25 x556) 54 32 = mI Mq120 54 32 := rfl
                        exact ⟨_, rfl, hB575, kp574, kp572, kp573, by omega, by omega, by omega, Or.inl ⟨rfl, (gTu_y (S := S) (g := gR M) (q := gR Mq120) hdu (g120i0.trans (by rw [show (41 - mI Mq120 54 27).toNat = (40 - mI Mq120 54 27).toNat + 1 by omega]; exact gTk_0 (by omega))) (by first | exact Or.inl (hwh.mp (by omega)) | exact Or.inr (by rcases hct with h2 | h2; (exact h2.2); (exfalso; omega)))).trans (by rw [show (gR M).2.1 = mI M 54 25 from rfl, ← hsd]; rfl)⟩, g120i5⟩
                      · refine vc_iconst dX12_goTurn_215 rfl ?_
                        refine vc_zret dX12_goTurn_216 rfl (by first | decide | omega) (Nat.le_of_ble_eq_true rfl) (Nat.le_of_ble_eq_true rfl) ?_
                        exact ⟨_, rfl, hQ120, kp120_55, kp120_57, kp120_63, by omega, by omega, by omega, Or.inr ⟨rfl, gTu_n (S := S) (g := gR M) (q := gR Mq120) hdu (g120i0.trans (by rw [show (41 - mI Mq120 54 27).toNat = (40 - mI Mq120 54 27).toNat + 1 by omega]; exact gTk_0 (by omega))) (by rintro (h | h); (have h9 := hwh.mpr h; omega); (rcases hct with h2 | h2; (exfalso; omega); (exact h2.2 h)))⟩, g120i5⟩
                  · have hTq : TA (mI Mq120 55) S := by rw [kp120_55]; exact p5
                    refine vc_aload_n dX12_goTurn_125 rfl ?_
                    refine vc_cVI dX12_goTurn_126 (sfX12_goOnF (M := Mq120) hQ120.1 S  (by exact hTq) (by exact g120i5) (by rw [kp120_57]; exact p7) (by exact p8)) rfl okX12_goOn viX12_goOn lkX12_348 (s_54 hQ120.1.1) cl_12 rfl (Nat.le_of_ble_eq_true rfl) ⟨rfl, rfl⟩ (Nat.le_of_ble_eq_true rfl) (Nat.le_of_ble_eq_true rfl) (Nat.le_of_ble_eq_true rfl) ?_
                    rintro x580 M581 ⟨hB582, kp583, kp584, kp585, h586, h587, h588, h589, h590, h591⟩
                    have hB592 : BF fS M M581 := BF.go hQ120 hB582
                    have kp593 : mI M581 57 = mI M 57 := kp_go kp120_57 kp584
                    have kp594 : mI M581 63 = mI M 63 := kp_go kp120_63 kp585
                    have kp595 : mI M581 55 = mI M 55 := kp_go kp120_55 kp583
                    have hgn := h590
                    have hlt := h591
                    have hTN : TA (mI M581 55) S := by rw [kp595]; exact p5
                    have kz := b54_27 (M := M581) hB592.1
                    have kz4 := b54_24 (M := M581) hB592.1
                    refine vc_if_ne dX12_goTurn_129 (fun h596 => ?_) (fun h596 => ?_)
                    · have hgy : gOn S (gR Mq120) = (gR M581, true) := by rcases hgn with h | h; (exact h.2); (exfalso; omega)
                      have hgno : ¬ gNo S (gR Mq120) := fun e => by rw [gOn_n e] at hgy; exact Bool.false_ne_true (congrArg Prod.snd hgy)
                      have hgx : gR M581 = gNx S (gR Mq120) := by rw [gOn_y hgno] at hgy; exact (congrArg Prod.fst hgy).symm
                      have hgc : mI M581 54 27 = mI Mq120 54 27 + 1 := congrArg (fun g : Gw => g.2.2.1) hgx
                      have hgf : mI M581 54 25 = mI Mq120 54 25 := congrArg (fun g : Gw => g.2.1) hgx
                      refine vc_iload dX12_goTurn_134 rfl ?_
                      refine vc_if_ne dX12_goTurn_136 (fun h597 => ?_) (fun h597 => by exfalso; omega)
                      refine vc_iload dX12_goTurn_157 rfl ?_
                      refine vc_if_eq dX12_goTurn_159 (fun h598 => by exfalso; omega) (fun h598 => ?_)
                      refine vc_aload_n dX12_goTurn_162 rfl ?_
                      refine vc_aload_n dX12_goTurn_163 rfl ?_
                      refine vc_getI dX12_goTurn_164 flX12_321 (s_54 hB592.1.1) rfl ?_
                      have k599 : 0 ≤ mI M581 54 24 ∧ mI M581 54 24 ≤ 15 := b54_24 (M := M581) hB592.1
                      refine vc_cVI dX12_goTurn_167 (sfX12_sightOfF (M := M581) hB592.1  (mI M581 54 24) (by omega) (by omega)) rfl okX12_sightOf viX12_sightOf lkX12_318 (s_54 hB592.1.1) cl_12 rfl (Nat.le_of_ble_eq_true rfl) ⟨rfl, rfl⟩ (Nat.le_of_ble_eq_true rfl) (Nat.le_of_ble_eq_true rfl) (Nat.le_of_ble_eq_true rfl) ?_
                      rintro x600 _ ⟨rfl, h601⟩
                      have hsi : x600 = siS S (mI M581 54 24) := h601.trans (hTN.si (by omega) hlt)
                      refine vc_iload dX12_goTurn_170 rfl ?_
                      refine vc_icmp_ne dX12_goTurn_172 (fun h602 => ?_) (fun h602 => ?_)
                      · have hP : ¬ gCt S (mnS t s) (sdS (mI M 54 25) (mnS t s / 100)) (laS s) (mI M581 54 24) := by unfold gCt; rw [hmd.2.1]; rintro (⟨h1, h2⟩ | ⟨h1, h2 | h2⟩) <;> first | omega | (have h3 := hwh.mpr h2; omega) | (rcases hct with h | h; (exfalso; omega); (exact h.2 h2))
                        refine vc_iconst dX12_goTurn_179 rfl ?_
                        refine vc_goto dX12_goTurn_180 ?_
                        refine vc_istore dX12_goTurn_195 (by decide) rfl (show _ = [some (aR 54), none, some (aI s), some (aI x1), some (aI x2), some (aI 1), none, some (aI x556), some (aI v8), some (aI 0)] from rfl) ?_
                        refine vc_goto dX12_goTurn_197 ?_
                        exact ih120 M581 v8 0 hB592 kp593 kp594 kp595 (by omega) (by omega) (by omega) (by first | (rw [Int.sub_zero]; done) | (show gTk _ _ _ _ _ = gTk _ _ _ (1 - 0) _; rfl) | (rw [g120i0, show (41 - mI Mq120 54 27).toNat = (41 - mI M581 54 27).toNat + 1 by omega]; first | (rw [gTk_y (by omega) hgno (by rw [← hgx]; exact hP), ← hgx]; first | done | (congr 1; omega) | rfl) | (rw [gTk_n (by omega) hgno (by rw [← hgx]; exact hP), ← hgx]; first | done | (congr 1; omega) | rfl))) (by omega) (by omega) (by omega) (by omega) (by omega) (by omega)
                      · have hP : gCt S (mnS t s) (sdS (mI M 54 25) (mnS t s / 100)) (laS s) (mI M581 54 24) := by unfold gCt; rw [hmd.2.1]; first | exact Or.inl ⟨by omega, by omega⟩ | exact Or.inr ⟨by omega, Or.inl (hwh.mp (by omega))⟩ | exact Or.inr ⟨by omega, Or.inr (by rcases hct with h | h; (exact h.2); (exfalso; omega))⟩
                        refine vc_iconst dX12_goTurn_175 rfl ?_
                        refine vc_goto dX12_goTurn_176 ?_
                        refine vc_istore dX12_goTurn_195 (by decide) rfl (show _ = [some (aR 54), none, some (aI s), some (aI x1), some (aI x2), some (aI 1), none, some (aI x556), some (aI v8), some (aI 1)] from rfl) ?_
                        refine vc_goto dX12_goTurn_197 ?_
                        exact ih120 M581 v8 1 hB592 kp593 kp594 kp595 (by omega) (by omega) (by omega) (by first | (rw [Int.sub_zero]; done) | (show gTk _ _ _ _ _ = gTk _ _ _ (1 - 0) _; rfl) | (rw [g120i0, show (41 - mI Mq120 54 27).toNat = (41 - mI M581 54 27).toNat + 1 by omega]; first | (rw [gTk_y (by omega) hgno (by rw [← hgx]; exact hP), ← hgx]; first | done | (congr 1; omega) | rfl) | (rw [gTk_n (by omega) hgno (by rw [← hgx]; exact hP), ← hgx]; first | done | (congr 1; omega) | rfl))) (by omega) (by omega) (by omega) (by omega) (by omega) (by omega)
                    · refine vc_iconst dX12_goTurn_132 rfl ?_
                      refine vc_zret dX12_goTurn_133 rfl (by first | decide | omega) (Nat.le_of_ble_eq_true rfl) (Nat.le_of_ble_eq_true rfl) ?_
                      have hgf2 : gOn S (gR Mq120) = (gR M581, false) := by rcases hgn with h | h; (exfalso; omega); (exact h.2)
                      have hgno : gNo S (gR Mq120) := by by_cases e : gNo S (gR Mq120); (exact e); (rw [gOn_y e] at hgf2; exact absurd (congrArg Prod.snd hgf2).symm Bool.false_ne_true)
                      have hgx : gR M581 = gR Mq120 := by rw [gOn_n hgno] at hgf2; exact (congrArg Prod.fst hgf2).symm
                      exact ⟨_, rfl, hB592, kp595, kp593, kp594, by omega, by omega, by omega, Or.inr ⟨rfl, by rw [hgx]; exact gTu_f (S := S) (g := gR M) hdu (g120i0.trans (by rw [show (41 - mI Mq120 54 27).toNat = (40 - mI Mq120 54 27).toNat + 1 by omega]; exact gTk_f (by omega) hgno))⟩, hlt⟩
              refine vc_less [some (aR 54), none, some (aI s), some (aI x1), some (aI x2), some (aI 1), none, some (aI x556), some (aI 0), some (aI 0)] (lessL_keep (lessL_drop (lessL_keep (lessL_keep (lessL_keep (lessL_keep (lessL_drop (lessL_keep (lessL_keep (lessL_keep (lessL_nil))))))))))) ?_
              exact lp120 _ M 0 0 hB0 rfl rfl rfl (by omega) (by omega) (by omega) (by first | (rw [Int.sub_zero]; done) | (show gTk _ _ _ _ _ = gTk _ _ _ (1 - 0) _; rfl) | (rw [g120i0, show (41 - mI Mq120 54 27).toNat = (41 - mI M581 54 27).toNat + 1 by omega]; first | (rw [gTk_y (by omega) hgno (by rw [← hgx]; exact hP), ← hgx]; first | done | (congr 1; omega) | rfl) | (rw [gTk_n (by omega) hgno (by rw [← hgx]; exact hP), ← hgx]; first | done | (congr 1; omega) | rfl))) (by omega) (by omega) (by omega) (by omega) (by omega) (Nat.lt_succ_self _)
            · refine vc_aload_n dX12_goTurn_88 rfl ?_
              refine vc_getI dX12_goTurn_89 flX12_324 (s_54 hB0.1.1) rfl ?_
              have k603 : 0 ≤ mI M 54 25 ∧ mI M 54 25 ≤ 3 := b54_25 (M := M) hB0.1
              refine vc_goto dX12_goTurn_92 ?_
              refine vc_nameI (fun x604 ex604 => ?_)
              refine vc_istore dX12_goTurn_112 (by decide) rfl (show _ = [some (aR 54), some (aI t), some (aI s), some (aI x1), some (aI x2), some (aI 1), some (aI 1), some (aI x604), none, none] from rfl) ?_
              have hsd : x604 = (sdS (mI M 54 25) (mnS t s / 100)) := by unfold sdS; rw [hmd.1]; by_cases e1 : s % 2 ≠ 0 ∧ t / 100 ≠ 3; (rw [if_pos e1]; first | (exfalso; omega) | (rw [if_pos (by omega)]; first | done | omega) | (rw [if_neg (by omega), if_pos (by omega)]; first | done | omega) | (rw [if_neg (by omega), if_neg (by omega)]; first | done | omega)); (rw [if_neg e1]; first | (exfalso; omega) | (rw [if_pos (by omega)]; first | done | omega) | (rw [if_neg (by omega), if_pos (by omega)]; first | done | omega) | (rw [if_neg (by omega), if_neg (by omega)]; first | done | omega))
              have hdu : (1 : Int) = if (mnS t s) / 10 % 10 = 1 then 1 else (mnS t s) % 10 := by rw [hmd.2.1]; first | (rw [if_pos (by omega)]) | (rw [if_neg (by omega)])
              have hn4 : x2 = (mnS t s) % 10 := by rw [hmd.2.2]; first | (rw [if_pos (by omega)]; omega) | (rw [if_neg (by omega)]; omega)
              have hwh : x1 = 3 ↔ (mnS t s) / 100 = 3 := by rw [mn_3 p4]; omega
              refine vc_iconst dX12_goTurn_114 rfl ?_
              refine vc_istore dX12_goTurn_115 (by decide) rfl (show _ = [some (aR 54), some (aI t), some (aI s), some (aI x1), some (aI x2), some (aI 1), some (aI 1), some (aI x604), some (aI 0), none] from rfl) ?_
              refine vc_iconst dX12_goTurn_117 rfl ?_
              refine vc_istore dX12_goTurn_118 (by decide) rfl (show _ = [some (aR 54), some (aI t), some (aI s), some (aI x1), some (aI x2), some (aI 1), some (aI 1), some (aI x604), some (aI 0), some (aI 0)] from rfl) ?_
              have lp120 : ∀ (n120 : Nat) (Mq120 : Mem) (v8 : Int) (v9 : Int), (BF fS M Mq120) → (mI Mq120 57 = mI M 57) → (mI Mq120 63 = mI M 63) → (mI Mq120 55 = mI M 55) → (0 ≤ v8) → (0 ≤ v9) → (v9 ≤ 1) → (gTk S (gCt S (mnS t s) (sdS (mI M 54 25) (mnS t s / 100)) (laS s)) (41 - mI M 54 27).toNat (1) (gR M) = gTk S (gCt S (mnS t s) (sdS (mI M 54 25) (mnS t s / 100)) (laS s)) (41 - mI Mq120 54 27).toNat (1 - v9) (gR Mq120)) → (mI Mq120 54 25 = mI M 54 25) → (mI Mq120 54 32 = mI M 54 32) → (0 ≤ mI Mq120 54 27) → (mI Mq120 54 27 ≤ 40) → (mI Mq120 54 24 < S 1 6) → (40 - mI Mq120 54 27).toNat < n120 → VC l mdX12_goTurn 120 [some (aR 54), none, some (aI s), some (aI x1), some (aI x2), some (aI 1), none, some (aI x604), some (aI v8), some (aI v9)] [] Mq120 0 0 (fun q N => ∃ r : Int, q = some (aI r) ∧ BF fS M N ∧ mI N 55 = mI M 55 ∧ mI N 57 = mI M 57 ∧ mI N 63 = mI M 63 ∧ 0 ≤ r ∧ r ≤ 1 ∧ mI N 54 32 = mI M 54 32 ∧ ((r = 1 ∧ gTu S (mnS t s) (laS s) (gR M) = (gR N, true)) ∨ (r = 0 ∧ gTu S (mnS t s) (laS s) (gR M) = (gR N, false))) ∧ mI N 54 24 < S 1 6) := by
                intro n120
                induction n120 with
                | zero => intro Mq120 v8 v9 hQ120 kp120_57 kp120_63 kp120_55 g120_8a g120_9a g120_9b g120i0 g120i1 g120i2 g120i3 g120i4 g120i5 hm120; exact absurd hm120 (Nat.not_lt_zero _)
                | succ n120 ih120 =>
                  intro Mq120 v8 v9 hQ120 kp120_57 kp120_63 kp120_55 g120_8a g120_9a g120_9b g120i0 g120i1 g120i2 g120i3 g120i4 g120i5 hm120
                  refine vc_iload dX12_goTurn_120 rfl ?_
                  refine vc_if_ne dX12_goTurn_122 (fun h605 => ?_) (fun h605 => ?_)
                  · have hTq : TA (mI Mq120 55) S := by rw [kp120_55]; exact p5
                    refine vc_iload_n dX12_goTurn_200 rfl ?_
                    refine vc_iconst dX12_goTurn_201 rfl ?_
                    refine vc_icmp_eq dX12_goTurn_202 (fun h606 => ?_) (fun h606 => by exfalso; omega)
                    refine vc_aload_n dX12_goTurn_217 rfl ?_
                    refine vc_iload dX12_goTurn_218 rfl ?_
                    refine vc_putI dX12_goTurn_220 (plX12_324 _ rfl) (s_54 hQ120.1.1) rfl ?_
                    have kp607 : mI (sI Mq120 54 25 x604) 57 = mI M 57 := (kp_sI kp120_57 rfl)
                    have kp608 : mI (sI Mq120 54 25 x604) 63 = mI M 63 := (kp_sI kp120_63 rfl)
                    have kp609 : mI (sI Mq120 54 25 x604) 55 = mI M 55 := (kp_sI kp120_55 rfl)
                    have hB610 : BF fS M (sI Mq120 54 25 x604) := BF.w54_25 hQ120 rfl (by omega) (by omega)
                    refine vc_iconst dX12_goTurn_223 rfl ?_
                    refine vc_zret dX12_goTurn_224 rfl (by first | decide | omega) (Nat.le_of_ble_eq_true rfl) (Nat.le_of_ble_eq_true rfl) ?_
                    have k611 : mI (sI Mq120 54 25 x604) 54 24 = mI Mq120 54 24 := rfl
                    have k612 : mI (sI Mq120 54 25 x604) 54 25 = x604 := rfl
                    have k613 : mI (sI Mq120 54 25 x604) 54 27 = mI Mq120 54 27 := rfl
                    have k614 : mI (sI Mq120 54 25 x604) 54 32 = mI Mq120 54 32 := rfl
                    exact ⟨_, rfl, hB610, kp609, kp607, kp608, by omega, by omega, by omega, Or.inl ⟨rfl, (gTu_y (S := S) (g := gR M) (q := gR Mq120) hdu (g120i0.trans (by rw [show (41 - mI Mq120 54 27).toNat = (40 - mI Mq120 54 27).toNat + 1 by omega]; exact gTk_0 (by omega))) (by first | exact Or.inl (hwh.mp (by omega)) | exact Or.inr (by rcases hct with h2 | h2; (exact h2.2); (exfalso; omega)))).trans (by rw [show (gR M).2.1 = mI M 54 25 from rfl, ← hsd]; rfl)⟩, g120i5⟩
                  · have hTq : TA (mI Mq120 55) S := by rw [kp120_55]; exact p5
                    refine vc_aload_n dX12_goTurn_125 rfl ?_
                    refine vc_cVI dX12_goTurn_126 (sfX12_goOnF (M := Mq120) hQ120.1 S  (by exact hTq) (by exact g120i5) (by rw [kp120_57]; exact p7) (by exact p8)) rfl okX12_goOn viX12_goOn lkX12_348 (s_54 hQ120.1.1) cl_12 rfl (Nat.le_of_ble_eq_true rfl) ⟨rfl, rfl⟩ (Nat.le_of_ble_eq_true rfl) (Nat.le_of_ble_eq_true rfl) (Nat.le_of_ble_eq_true rfl) ?_
                    rintro x615 M616 ⟨hB617, kp618, kp619, kp620, h621, h622, h623, h624, h625, h626⟩
                    have hB627 : BF fS M M616 := BF.go hQ120 hB617
                    have kp628 : mI M616 57 = mI M 57 := kp_go kp120_57 kp619
                    have kp629 : mI M616 63 = mI M 63 := kp_go kp120_63 kp620
                    have kp630 : mI M616 55 = mI M 55 := kp_go kp120_55 kp618
                    have hgn := h625
                    have hlt := h626
                    have hTN : TA (mI M616 55) S := by rw [kp630]; exact p5
                    have kz := b54_27 (M := M616) hB627.1
                    have kz4 := b54_24 (M := M616) hB627.1
                    refine vc_if_ne dX12_goTurn_129 (fun h631 => ?_) (fun h631 => ?_)
                    · have hgy : gOn S (gR Mq120) = (gR M616, true) := by rcases hgn with h | h; (exact h.2); (exfalso; omega)
                      have hgno : ¬ gNo S (gR Mq120) := fun e => by rw [gOn_n e] at hgy; exact Bool.false_ne_true (congrArg Prod.snd hgy)
                      have hgx : gR M616 = gNx S (gR Mq120) := by rw [gOn_y hgno] at hgy; exact (congrArg Prod.fst hgy).symm
                      have hgc : mI M616 54 27 = mI Mq120 54 27 + 1 := congrArg (fun g : Gw => g.2.2.1) hgx
                      have hgf : mI M616 54 25 = mI Mq120 54 25 := congrArg (fun g : Gw => g.2.1) hgx
                      refine vc_iload dX12_goTurn_134 rfl ?_
                      refine vc_if_ne dX12_goTurn_136 (fun h632 => ?_) (fun h632 => by exfalso; omega)
                      refine vc_iload dX12_goTurn_157 rfl ?_
                      refine vc_if_eq dX12_goTurn_159 (fun h633 => by exfalso; omega) (fun h633 => ?_)
                      refine vc_aload_n dX12_goTurn_162 rfl ?_
                      refine vc_aload_n dX12_goTurn_163 rfl ?_
                      refine vc_getI dX12_goTurn_164 flX12_321 (s_54 hB627.1.1) rfl ?_
                      have k634 : 0 ≤ mI M616 54 24 ∧ mI M616 54 24 ≤ 15 := b54_24 (M := M616) hB627.1
                      refine vc_cVI dX12_goTurn_167 (sfX12_sightOfF (M := M616) hB627.1  (mI M616 54 24) (by omega) (by omega)) rfl okX12_sightOf viX12_sightOf lkX12_318 (s_54 hB627.1.1) cl_12 rfl (Nat.le_of_ble_eq_true rfl) ⟨rfl, rfl⟩ (Nat.le_of_ble_eq_true rfl) (Nat.le_of_ble_eq_true rfl) (Nat.le_of_ble_eq_true rfl) ?_
                      rintro x635 _ ⟨rfl, h636⟩
                      have hsi : x635 = siS S (mI M616 54 24) := h636.trans (hTN.si (by omega) hlt)
                      refine vc_iload dX12_goTurn_170 rfl ?_
                      refine vc_icmp_ne dX12_goTurn_172 (fun h637 => ?_) (fun h637 => ?_)
                      · have hP : ¬ gCt S (mnS t s) (sdS (mI M 54 25) (mnS t s / 100)) (laS s) (mI M616 54 24) := by unfold gCt; rw [hmd.2.1]; rintro (⟨h1, h2⟩ | ⟨h1, h2 | h2⟩) <;> first | omega | (have h3 := hwh.mpr h2; omega) | (rcases hct with h | h; (exfalso; omega); (exact h.2 h2))
                        refine vc_iconst dX12_goTurn_179 rfl ?_
                        refine vc_goto dX12_goTurn_180 ?_
                        refine vc_istore dX12_goTurn_195 (by decide) rfl (show _ = [some (aR 54), none, some (aI s), some (aI x1), some (aI x2), some (aI 1), none, some (aI x604), some (aI v8), some (aI 0)] from rfl) ?_
                        refine vc_goto dX12_goTurn_197 ?_
                        exact ih120 M616 v8 0 hB627 kp628 kp629 kp630 (by omega) (by omega) (by omega) (by first | (rw [Int.sub_zero]; done) | (show gTk _ _ _ _ _ = gTk _ _ _ (1 - 0) _; rfl) | (rw [g120i0, show (41 - mI Mq120 54 27).toNat = (41 - mI M616 54 27).toNat + 1 by omega]; first | (rw [gTk_y (by omega) hgno (by rw [← hgx]; exact hP), ← hgx]; first | done | (congr 1; omega) | rfl) | (rw [gTk_n (by omega) hgno (by rw [← hgx]; exact hP), ← hgx]; first | done | (congr 1; omega) | rfl))) (by omega) (by omega) (by omega) (by omega) (by omega) (by omega)
                      · have hP : gCt S (mnS t s) (sdS (mI M 54 25) (mnS t s / 100)) (laS s) (mI M616 54 24) := by unfold gCt; rw [hmd.2.1]; first | exact Or.inl ⟨by omega, by omega⟩ | exact Or.inr ⟨by omega, Or.inl (hwh.mp (by omega))⟩ | exact Or.inr ⟨by omega, Or.inr (by rcases hct with h | h; (exact h.2); (exfalso; omega))⟩
                        refine vc_iconst dX12_goTurn_175 rfl ?_
                        refine vc_goto dX12_goTurn_176 ?_
                        refine vc_istore dX12_goTurn_195 (by decide) rfl (show _ = [some (aR 54), none, some (aI s), some (aI x1), some (aI x2), some (aI 1), none, some (aI x604), some (aI v8), some (aI 1)] from rfl) ?_
                        refine vc_goto dX12_goTurn_197 ?_
                        exact ih120 M616 v8 1 hB627 kp628 kp629 kp630 (by omega) (by omega) (by omega) (by first | (rw [Int.sub_zero]; done) | (show gTk _ _ _ _ _ = gTk _ _ _ (1 - 0) _; rfl) | (rw [g120i0, show (41 - mI Mq120 54 27).toNat = (41 - mI M616 54 27).toNat + 1 by omega]; first | (rw [gTk_y (by omega) hgno (by rw [← hgx]; exact hP), ← hgx]; first | done | (congr 1; omega) | rfl) | (rw [gTk_n (by omega) hgno (by rw [← hgx]; exact hP), ← hgx]; first | done | (congr 1; omega) | rfl))) (by omega) (by omega) (by omega) (by omega) (by omega) (by omega)
                    · refine vc_iconst dX12_goTurn_132 rfl ?_
                      refine vc_zret dX12_goTurn_133 rfl (by first | decide | omega) (Nat.le_of_ble_eq_true rfl) (Nat.le_of_ble_eq_true rfl) ?_
                      have hgf2 : gOn S (gR Mq120) = (gR M616, false) := by rcases hgn with h | h; (exfalso; omega); (exact h.2)
                      have hgno : gNo S (gR Mq120) := by by_cases e : gNo S (gR Mq120); (exact e); (rw [gOn_y e] at hgf2; exact absurd (congrArg Prod.snd hgf2).symm Bool.false_ne_true)
                      have hgx : gR M616 = gR Mq120 := by rw [gOn_n hgno] at hgf2; exact (congrArg Prod.fst hgf2).symm
                      exact ⟨_, rfl, hB627, kp630, kp628, kp629, by omega, by omega, by omega, Or.inr ⟨rfl, by rw [hgx]; exact gTu_f (S := S) (g := gR M) hdu (g120i0.trans (by rw [show (41 - mI Mq120 54 27).toNat = (40 - mI Mq120 54 27).toNat + 1 by omega]; exact gTk_f (by omega) hgno))⟩, hlt⟩
              refine vc_less [some (aR 54), none, some (aI s), some (aI x1), some (aI x2), some (aI 1), none, some (aI x604), some (aI 0), some (aI 0)] (lessL_keep (lessL_drop (lessL_keep (lessL_keep (lessL_keep (lessL_keep (lessL_drop (lessL_keep (lessL_keep (lessL_keep (lessL_nil))))))))))) ?_
              exact lp120 _ M 0 0 hB0 rfl rfl rfl (by omega) (by omega) (by omega) (by first | (rw [Int.sub_zero]; done) | (show gTk _ _ _ _ _ = gTk _ _ _ (1 - 0) _; rfl) | (rw [g120i0, show (41 - mI Mq120 54 27).toNat = (41 - mI M616 54 27).toNat + 1 by omega]; first | (rw [gTk_y (by omega) hgno (by rw [← hgx]; exact hP), ← hgx]; first | done | (congr 1; omega) | rfl) | (rw [gTk_n (by omega) hgno (by rw [← hgx]; exact hP), ← hgx]; first | done | (congr 1; omega) | rfl))) (by omega) (by omega) (by omega) (by omega) (by omega) (Nat.lt_succ_self _)
          · refine vc_iconst dX12_goTurn_68 rfl ?_
            refine vc_goto dX12_goTurn_69 ?_
            refine vc_icmp_ne dX12_goTurn_73 (fun h638 => ?_) (fun h638 => by exfalso; omega)
            refine vc_iconst dX12_goTurn_80 rfl ?_
            refine vc_istore dX12_goTurn_81 (by decide) rfl (show _ = [some (aR 54), some (aI t), some (aI s), some (aI x1), some (aI x2), some (aI 1), some (aI 0), none, none, none] from rfl) ?_
            refine vc_iload_n dX12_goTurn_83 rfl ?_
            refine vc_iconst dX12_goTurn_84 rfl ?_
            refine vc_icmp_ne dX12_goTurn_85 (fun h639 => ?_) (fun h639 => ?_)
            · refine vc_aload_n dX12_goTurn_95 rfl ?_
              refine vc_getI dX12_goTurn_96 flX12_324 (s_54 hB0.1.1) rfl ?_
              have k640 : 0 ≤ mI M 54 25 ∧ mI M 54 25 ≤ 3 := b54_25 (M := M) hB0.1
              refine vc_iload dX12_goTurn_99 rfl ?_
              refine vc_if_eq dX12_goTurn_101 (fun h641 => ?_) (fun h641 => by exfalso; omega)
              refine vc_iconst dX12_goTurn_108 rfl ?_
              refine vc_iaddE dX12_goTurn_109 (by omega) (by omega) ?_
              refine vc_iconst dX12_goTurn_110 rfl ?_
              refine vc_iremE dX12_goTurn_111 (by omega) (by omega) ?_
              refine vc_nameI (fun x642 ex642 => ?_)
              refine vc_istore dX12_goTurn_112 (by decide) rfl (show _ = [some (aR 54), some (aI t), some (aI s), some (aI x1), some (aI x2), some (aI 1), some (aI 0), some (aI x642), none, none] from rfl) ?_
              have hsd : x642 = (sdS (mI M 54 25) (mnS t s / 100)) := by unfold sdS; rw [hmd.1]; by_cases e1 : s % 2 ≠ 0 ∧ t / 100 ≠ 3; (rw [if_pos e1]; first | (exfalso; omega) | (rw [if_pos (by omega)]; first | done | omega) | (rw [if_neg (by omega), if_pos (by omega)]; first | done | omega) | (rw [if_neg (by omega), if_neg (by omega)]; first | done | omega)); (rw [if_neg e1]; first | (exfalso; omega) | (rw [if_pos (by omega)]; first | done | omega) | (rw [if_neg (by omega), if_pos (by omega)]; first | done | omega) | (rw [if_neg (by omega), if_neg (by omega)]; first | done | omega))
              have hdu : (1 : Int) = if (mnS t s) / 10 % 10 = 1 then 1 else (mnS t s) % 10 := by rw [hmd.2.1]; first | (rw [if_pos (by omega)]) | (rw [if_neg (by omega)])
              have hn4 : x2 = (mnS t s) % 10 := by rw [hmd.2.2]; first | (rw [if_pos (by omega)]; omega) | (rw [if_neg (by omega)]; omega)
              have hwh : x1 = 3 ↔ (mnS t s) / 100 = 3 := by rw [mn_3 p4]; omega
              refine vc_iconst dX12_goTurn_114 rfl ?_
              refine vc_istore dX12_goTurn_115 (by decide) rfl (show _ = [some (aR 54), some (aI t), some (aI s), some (aI x1), some (aI x2), some (aI 1), some (aI 0), some (aI x642), some (aI 0), none] from rfl) ?_
              refine vc_iconst dX12_goTurn_117 rfl ?_
              refine vc_istore dX12_goTurn_118 (by decide) rfl (show _ = [some (aR 54), some (aI t), some (aI s), some (aI x1), some (aI x2), some (aI 1), some (aI 0), some (aI x642), some (aI 0), some (aI 0)] from rfl) ?_
              have lp120 : ∀ (n120 : Nat) (Mq120 : Mem) (v8 : Int) (v9 : Int), (BF fS M Mq120) → (mI Mq120 57 = mI M 57) → (mI Mq120 63 = mI M 63) → (mI Mq120 55 = mI M 55) → (0 ≤ v8) → (0 ≤ v9) → (v9 ≤ 1) → (gTk S (gCt S (mnS t s) (sdS (mI M 54 25) (mnS t s / 100)) (laS s)) (41 - mI M 54 27).toNat (1) (gR M) = gTk S (gCt S (mnS t s) (sdS (mI M 54 25) (mnS t s / 100)) (laS s)) (41 - mI Mq120 54 27).toNat (1 - v9) (gR Mq120)) → (mI Mq120 54 25 = mI M 54 25) → (mI Mq120 54 32 = mI M 54 32) → (0 ≤ mI Mq120 54 27) → (mI Mq120 54 27 ≤ 40) → (mI Mq120 54 24 < S 1 6) → (40 - mI Mq120 54 27).toNat < n120 → VC l mdX12_goTurn 120 [some (aR 54), none, some (aI s), some (aI x1), some (aI x2), some (aI 1), none, some (aI x642), some (aI v8), some (aI v9)] [] Mq120 0 0 (fun q N => ∃ r : Int, q = some (aI r) ∧ BF fS M N ∧ mI N 55 = mI M 55 ∧ mI N 57 = mI M 57 ∧ mI N 63 = mI M 63 ∧ 0 ≤ r ∧ r ≤ 1 ∧ mI N 54 32 = mI M 54 32 ∧ ((r = 1 ∧ gTu S (mnS t s) (laS s) (gR M) = (gR N, true)) ∨ (r = 0 ∧ gTu S (mnS t s) (laS s) (gR M) = (gR N, false))) ∧ mI N 54 24 < S 1 6) := by
                intro n120
                induction n120 with
                | zero => intro Mq120 v8 v9 hQ120 kp120_57 kp120_63 kp120_55 g120_8a g120_9a g120_9b g120i0 g120i1 g120i2 g120i3 g120i4 g120i5 hm120; exact absurd hm120 (Nat.not_lt_zero _)
                | succ n120 ih120 =>
                  intro Mq120 v8 v9 hQ120 kp120_57 kp120_63 kp120_55 g120_8a g120_9a g120_9b g120i0 g120i1 g120i2 g120i3 g120i4 g120i5 hm120
                  refine vc_iload dX12_goTurn_120 rfl ?_
                  refine vc_if_ne dX12_goTurn_122 (fun h643 => ?_) (fun h643 => ?_)
                  · have hTq : TA (mI Mq120 55) S := by rw [kp120_55]; exact p5
                    refine vc_iload_n dX12_goTurn_200 rfl ?_
                    refine vc_iconst dX12_goTurn_201 rfl ?_
                    refine vc_icmp_eq dX12_goTurn_202 (fun h644 => ?_) (fun h644 => ?_)
                    · refine vc_aload_n dX12_goTurn_217 rfl ?_
                      refine vc_iload dX12_goTurn_218 rfl ?_
                      refine vc_putI dX12_goTurn_220 (plX12_324 _ rfl) (s_54 hQ120.1.1) rfl ?_
                      have kp645 : mI (sI Mq120 54 25 x642) 57 = mI M 57 := (kp_sI kp120_57 rfl)
                      have kp646 : mI (sI Mq120 54 25 x642) 63 = mI M 63 := (kp_sI kp120_63 rfl)
                      have kp647 : mI (sI Mq120 54 25 x642) 55 = mI M 55 := (kp_sI kp120_55 rfl)
                      have hB648 : BF fS M (sI Mq120 54 25 x642) := BF.w54_25 hQ120 rfl (by omega) (by omega)
                      refine vc_iconst dX12_goTurn_223 rfl ?_
                      refine vc_zret dX12_goTurn_224 rfl (by first | decide | omega) (Nat.le_of_ble_eq_true rfl) (Nat.le_of_ble_eq_true rfl) ?_
                      have k649 : mI (sI Mq120 54 25 x642) 54 24 = mI Mq120 54 24 := rfl
                      have k650 : mI (sI Mq120 54 25 x642) 54 25 = x642 := rfl
                      have k651 : mI (sI Mq120 54 25 x642) 54 27 = mI Mq120 54 27 := rfl
                      have k652 : mI (sI Mq120 54 25 x642) 54 32 = mI Mq120 54 32 := rfl
                      exact ⟨_, rfl, hB648, kp647, kp645, kp646, by omega, by omega, by omega, Or.inl ⟨rfl, (gTu_y (S := S) (g := gR M) (q := gR Mq120) hdu (g120i0.trans (by rw [show (41 - mI Mq120 54 27).toNat = (40 - mI Mq120 54 27).toNat + 1 by omega]; exact gTk_0 (by omega))) (by first | exact Or.inl (hwh.mp (by omega)) | exact Or.inr (by rcases hct with h2 | h2; (exact h2.2); (exfalso; omega)))).trans (by rw [show (gR M).2.1 = mI M 54 25 from rfl, ← hsd]; rfl)⟩, g120i5⟩
                    · refine vc_aload_n dX12_goTurn_205 rfl ?_
                      refine vc_iload dX12_goTurn_206 rfl ?_
                      refine vc_iload_n dX12_goTurn_208 rfl ?_
                      refine vc_cVI dX12_goTurn_209 (sfX12_isCountedF (M := Mq120) hQ120.1 S x642 s (by omega) (by omega) (by omega) (by omega) (by exact hTq) (by exact g120i5)) rfl okX12_isCounted viX12_isCounted lkX12_352 (s_54 hQ120.1.1) cl_12 rfl (Nat.le_of_ble_eq_true rfl) ⟨rfl, rfl⟩ (Nat.le_of_ble_eq_true rfl) (Nat.le_of_ble_eq_true rfl) (Nat.le_of_ble_eq_true rfl) ?_
                      rintro x653 _ ⟨rfl, h654, h655, h656⟩
                      have hct : (x653 = 1 ∧ cntS S (mI Mq120 54 24) (sdS (mI M 54 25) (mnS t s / 100)) (laS s)) ∨ (x653 = 0 ∧ ¬ cntS S (mI Mq120 54 24) (sdS (mI M 54 25) (mnS t s / 100)) (laS s)) := by rw [← hsd]; exact h656
                      refine vc_if_ne dX12_goTurn_212 (fun h657 => ?_) (fun h657 => ?_)
                      · refine vc_aload_n dX12_goTurn_217 rfl ?_
                        refine vc_iload dX12_goTurn_218 rfl ?_
                        refine vc_putI dX12_goTurn_220 (plX12_324 _ rfl) (s_54 hQ120.1.1) rfl ?_
                        have kp658 : mI (sI Mq120 54 25 x642) 57 = mI M 57 := (kp_sI kp120_57 rfl)
                        have kp659 : mI (sI Mq120 54 25 x642) 63 = mI M 63 := (kp_sI kp120_63 rfl)
                        have kp660 : mI (sI Mq120 54 25 x642) 55 = mI M 55 := (kp_sI kp120_55 rfl)
                        have hB661 : BF fS M (sI Mq120 54 25 x642) := BF.w54_25 hQ120 rfl (by omega) (by omega)
                        refine vc_iconst dX12_goTurn_223 rfl ?_
                        refine vc_zret dX12_goTurn_224 rfl (by first | decide | omega) (Nat.le_of_ble_eq_true rfl) (Nat.le_of_ble_eq_true rfl) ?_
                        have k662 : mI (sI Mq120 54 25 x642) 54 24 = mI Mq120 54 24 := rfl
                        have k663 : mI (sI Mq120 54 25 x642) 54 25 = x642 := rfl
                        have k664 : mI (sI Mq120 54 25 x642) 54 27 = mI Mq120 54 27 := rfl
                        have k665 : mI (sI Mq120 54 25 x642) 54 32 = mI Mq120 54 32 := rfl
                        exact ⟨_, rfl, hB661, kp660, kp658, kp659, by omega, by omega, by omega, Or.inl ⟨rfl, (gTu_y (S := S) (g := gR M) (q := gR Mq120) hdu (g120i0.trans (by rw [show (41 - mI Mq120 54 27).toNat = (40 - mI Mq120 54 27).toNat + 1 by omega]; exact gTk_0 (by omega))) (by first | exact Or.inl (hwh.mp (by omega)) | exact Or.inr (by rcases hct with h2 | h2; (exact h2.2); (exfalso; omega)))).trans (by rw [show (gR M).2.1 = mI M 54 25 from rfl, ← hsd]; rfl)⟩, g120i5⟩
                      · refine vc_iconst dX12_goTurn_215 rfl ?_
                        refine vc_zret dX12_goTurn_216 rfl (by first | decide | omega) (Nat.le_of_ble_eq_true rfl) (Nat.le_of_ble_eq_true rfl) ?_
                        exact ⟨_, rfl, hQ120, kp120_55, kp120_57, kp120_63, by omega, by omega, by omega, Or.inr ⟨rfl, gTu_n (S := S) (g := gR M) (q := gR Mq120) hdu (g120i0.trans (by rw [show (41 - mI Mq120 54 27).toNat = (40 - mI Mq120 54 27).toNat + 1 by omega]; exact gTk_0 (by omega))) (by rintro (h | h); (have h9 := hwh.mpr h; omega); (rcases hct with h2 | h2; (exfalso; omega); (exact h2.2 h)))⟩, g120i5⟩
                  · have hTq : TA (mI Mq120 55) S := by rw [kp120_55]; exact p5
                    refine vc_aload_n dX12_goTurn_125 rfl ?_
                    refine vc_cVI dX12_goTurn_126 (sfX12_goOnF (M := Mq120) hQ120.1 S  (by exact hTq) (by exact g120i5) (by rw [kp120_57]; exact p7) (by exact p8)) rfl okX12_goOn viX12_goOn lkX12_348 (s_54 hQ120.1.1) cl_12 rfl (Nat.le_of_ble_eq_true rfl) ⟨rfl, rfl⟩ (Nat.le_of_ble_eq_true rfl) (Nat.le_of_ble_eq_true rfl) (Nat.le_of_ble_eq_true rfl) ?_
                    rintro x666 M667 ⟨hB668, kp669, kp670, kp671, h672, h673, h674, h675, h676, h677⟩
                    have hB678 : BF fS M M667 := BF.go hQ120 hB668
                    have kp679 : mI M667 57 = mI M 57 := kp_go kp120_57 kp670
                    have kp680 : mI M667 63 = mI M 63 := kp_go kp120_63 kp671
                    have kp681 : mI M667 55 = mI M 55 := kp_go kp120_55 kp669
                    have hgn := h676
                    have hlt := h677
                    have hTN : TA (mI M667 55) S := by rw [kp681]; exact p5
                    have kz := b54_27 (M := M667) hB678.1
                    have kz4 := b54_24 (M := M667) hB678.1
                    refine vc_if_ne dX12_goTurn_129 (fun h682 => ?_) (fun h682 => ?_)
                    · have hgy : gOn S (gR Mq120) = (gR M667, true) := by rcases hgn with h | h; (exact h.2); (exfalso; omega)
                      have hgno : ¬ gNo S (gR Mq120) := fun e => by rw [gOn_n e] at hgy; exact Bool.false_ne_true (congrArg Prod.snd hgy)
                      have hgx : gR M667 = gNx S (gR Mq120) := by rw [gOn_y hgno] at hgy; exact (congrArg Prod.fst hgy).symm
                      have hgc : mI M667 54 27 = mI Mq120 54 27 + 1 := congrArg (fun g : Gw => g.2.2.1) hgx
                      have hgf : mI M667 54 25 = mI Mq120 54 25 := congrArg (fun g : Gw => g.2.1) hgx
                      refine vc_iload dX12_goTurn_134 rfl ?_
                      refine vc_if_ne dX12_goTurn_136 (fun h683 => ?_) (fun h683 => by exfalso; omega)
                      refine vc_iload dX12_goTurn_157 rfl ?_
                      refine vc_if_eq dX12_goTurn_159 (fun h684 => by exfalso; omega) (fun h684 => ?_)
                      refine vc_aload_n dX12_goTurn_162 rfl ?_
                      refine vc_aload_n dX12_goTurn_163 rfl ?_
                      refine vc_getI dX12_goTurn_164 flX12_321 (s_54 hB678.1.1) rfl ?_
                      have k685 : 0 ≤ mI M667 54 24 ∧ mI M667 54 24 ≤ 15 := b54_24 (M := M667) hB678.1
                      refine vc_cVI dX12_goTurn_167 (sfX12_sightOfF (M := M667) hB678.1  (mI M667 54 24) (by omega) (by omega)) rfl okX12_sightOf viX12_sightOf lkX12_318 (s_54 hB678.1.1) cl_12 rfl (Nat.le_of_ble_eq_true rfl) ⟨rfl, rfl⟩ (Nat.le_of_ble_eq_true rfl) (Nat.le_of_ble_eq_true rfl) (Nat.le_of_ble_eq_true rfl) ?_
                      rintro x686 _ ⟨rfl, h687⟩
                      have hsi : x686 = siS S (mI M667 54 24) := h687.trans (hTN.si (by omega) hlt)
                      refine vc_iload dX12_goTurn_170 rfl ?_
                      refine vc_icmp_ne dX12_goTurn_172 (fun h688 => ?_) (fun h688 => ?_)
                      · have hP : ¬ gCt S (mnS t s) (sdS (mI M 54 25) (mnS t s / 100)) (laS s) (mI M667 54 24) := by unfold gCt; rw [hmd.2.1]; rintro (⟨h1, h2⟩ | ⟨h1, h2 | h2⟩) <;> first | omega | (have h3 := hwh.mpr h2; omega) | (rcases hct with h | h; (exfalso; omega); (exact h.2 h2))
                        refine vc_iconst dX12_goTurn_179 rfl ?_
                        refine vc_goto dX12_goTurn_180 ?_
                        refine vc_istore dX12_goTurn_195 (by decide) rfl (show _ = [some (aR 54), none, some (aI s), some (aI x1), some (aI x2), some (aI 1), none, some (aI x642), some (aI v8), some (aI 0)] from rfl) ?_
                        refine vc_goto dX12_goTurn_197 ?_
                        exact ih120 M667 v8 0 hB678 kp679 kp680 kp681 (by omega) (by omega) (by omega) (by first | (rw [Int.sub_zero]; done) | (show gTk _ _ _ _ _ = gTk _ _ _ (1 - 0) _; rfl) | (rw [g120i0, show (41 - mI Mq120 54 27).toNat = (41 - mI M667 54 27).toNat + 1 by omega]; first | (rw [gTk_y (by omega) hgno (by rw [← hgx]; exact hP), ← hgx]; first | done | (congr 1; omega) | rfl) | (rw [gTk_n (by omega) hgno (by rw [← hgx]; exact hP), ← hgx]; first | done | (congr 1; omega) | rfl))) (by omega) (by omega) (by omega) (by omega) (by omega) (by omega)
                      · have hP : gCt S (mnS t s) (sdS (mI M 54 25) (mnS t s / 100)) (laS s) (mI M667 54 24) := by unfold gCt; rw [hmd.2.1]; first | exact Or.inl ⟨by omega, by omega⟩ | exact Or.inr ⟨by omega, Or.inl (hwh.mp (by omega))⟩ | exact Or.inr ⟨by omega, Or.inr (by rcases hct with h | h; (exact h.2); (exfalso; omega))⟩
                        refine vc_iconst dX12_goTurn_175 rfl ?_
                        refine vc_goto dX12_goTurn_176 ?_
                        refine vc_istore dX12_goTurn_195 (by decide) rfl (show _ = [some (aR 54), none, some (aI s), some (aI x1), some (aI x2), some (aI 1), none, some (aI x642), some (aI v8), some (aI 1)] from rfl) ?_
                        refine vc_goto dX12_goTurn_197 ?_
                        exact ih120 M667 v8 1 hB678 kp679 kp680 kp681 (by omega) (by omega) (by omega) (by first | (rw [Int.sub_zero]; done) | (show gTk _ _ _ _ _ = gTk _ _ _ (1 - 0) _; rfl) | (rw [g120i0, show (41 - mI Mq120 54 27).toNat = (41 - mI M667 54 27).toNat + 1 by omega]; first | (rw [gTk_y (by omega) hgno (by rw [← hgx]; exact hP), ← hgx]; first | done | (congr 1; omega) | rfl) | (rw [gTk_n (by omega) hgno (by rw [← hgx]; exact hP), ← hgx]; first | done | (congr 1; omega) | rfl))) (by omega) (by omega) (by omega) (by omega) (by omega) (by omega)
                    · refine vc_iconst dX12_goTurn_132 rfl ?_
                      refine vc_zret dX12_goTurn_133 rfl (by first | decide | omega) (Nat.le_of_ble_eq_true rfl) (Nat.le_of_ble_eq_true rfl) ?_
                      have hgf2 : gOn S (gR Mq120) = (gR M667, false) := by rcases hgn with h | h; (exfalso; omega); (exact h.2)
                      have hgno : gNo S (gR Mq120) := by by_cases e : gNo S (gR Mq120); (exact e); (rw [gOn_y e] at hgf2; exact absurd (congrArg Prod.snd hgf2).symm Bool.false_ne_true)
                      have hgx : gR M667 = gR Mq120 := by rw [gOn_n hgno] at hgf2; exact (congrArg Prod.fst hgf2).symm
                      exact ⟨_, rfl, hB678, kp681, kp679, kp680, by omega, by omega, by omega, Or.inr ⟨rfl, by rw [hgx]; exact gTu_f (S := S) (g := gR M) hdu (g120i0.trans (by rw [show (41 - mI Mq120 54 27).toNat = (40 - mI Mq120 54 27).toNat + 1 by omega]; exact gTk_f (by omega) hgno))⟩, hlt⟩
              refine vc_less [some (aR 54), none, some (aI s), some (aI x1), some (aI x2), some (aI 1), none, some (aI x642), some (aI 0), some (aI 0)] (lessL_keep (lessL_drop (lessL_keep (lessL_keep (lessL_keep (lessL_keep (lessL_drop (lessL_keep (lessL_keep (lessL_keep (lessL_nil))))))))))) ?_
              exact lp120 _ M 0 0 hB0 rfl rfl rfl (by omega) (by omega) (by omega) (by first | (rw [Int.sub_zero]; done) | (show gTk _ _ _ _ _ = gTk _ _ _ (1 - 0) _; rfl) | (rw [g120i0, show (41 - mI Mq120 54 27).toNat = (41 - mI M667 54 27).toNat + 1 by omega]; first | (rw [gTk_y (by omega) hgno (by rw [← hgx]; exact hP), ← hgx]; first | done | (congr 1; omega) | rfl) | (rw [gTk_n (by omega) hgno (by rw [← hgx]; exact hP), ← hgx]; first | done | (congr 1; omega) | rfl))) (by omega) (by omega) (by omega) (by omega) (by omega) (Nat.lt_succ_self _)
            · refine vc_aload_n dX12_goTurn_88 rfl ?_
              refine vc_getI dX12_goTurn_89 flX12_324 (s_54 hB0.1.1) rfl ?_
              have k689 : 0 ≤ mI M 54 25 ∧ mI M 54 25 ≤ 3 := b54_25 (M := M) hB0.1
              refine vc_goto dX12_goTurn_92 ?_
              refine vc_nameI (fun x690 ex690 => ?_)
              refine vc_istore dX12_goTurn_112 (by decide) rfl (show _ = [some (aR 54), some (aI t), some (aI s), some (aI x1), some (aI x2), some (aI 1), some (aI 0), some (aI x690), none, none] from rfl) ?_
              have hsd : x690 = (sdS (mI M 54 25) (mnS t s / 100)) := by unfold sdS; rw [hmd.1]; by_cases e1 : s % 2 ≠ 0 ∧ t / 100 ≠ 3; (rw [if_pos e1]; first | (exfalso; omega) | (rw [if_pos (by omega)]; first | done | omega) | (rw [if_neg (by omega), if_pos (by omega)]; first | done | omega) | (rw [if_neg (by omega), if_neg (by omega)]; first | done | omega)); (rw [if_neg e1]; first | (exfalso; omega) | (rw [if_pos (by omega)]; first | done | omega) | (rw [if_neg (by omega), if_pos (by omega)]; first | done | omega) | (rw [if_neg (by omega), if_neg (by omega)]; first | done | omega))
              have hdu : (1 : Int) = if (mnS t s) / 10 % 10 = 1 then 1 else (mnS t s) % 10 := by rw [hmd.2.1]; first | (rw [if_pos (by omega)]) | (rw [if_neg (by omega)])
              have hn4 : x2 = (mnS t s) % 10 := by rw [hmd.2.2]; first | (rw [if_pos (by omega)]; omega) | (rw [if_neg (by omega)]; omega)
              have hwh : x1 = 3 ↔ (mnS t s) / 100 = 3 := by rw [mn_3 p4]; omega
              refine vc_iconst dX12_goTurn_114 rfl ?_
              refine vc_istore dX12_goTurn_115 (by decide) rfl (show _ = [some (aR 54), some (aI t), some (aI s), some (aI x1), some (aI x2), some (aI 1), some (aI 0), some (aI x690), some (aI 0), none] from rfl) ?_
              refine vc_iconst dX12_goTurn_117 rfl ?_
              refine vc_istore dX12_goTurn_118 (by decide) rfl (show _ = [some (aR 54), some (aI t), some (aI s), some (aI x1), some (aI x2), some (aI 1), some (aI 0), some (aI x690), some (aI 0), some (aI 0)] from rfl) ?_
              have lp120 : ∀ (n120 : Nat) (Mq120 : Mem) (v8 : Int) (v9 : Int), (BF fS M Mq120) → (mI Mq120 57 = mI M 57) → (mI Mq120 63 = mI M 63) → (mI Mq120 55 = mI M 55) → (0 ≤ v8) → (0 ≤ v9) → (v9 ≤ 1) → (gTk S (gCt S (mnS t s) (sdS (mI M 54 25) (mnS t s / 100)) (laS s)) (41 - mI M 54 27).toNat (1) (gR M) = gTk S (gCt S (mnS t s) (sdS (mI M 54 25) (mnS t s / 100)) (laS s)) (41 - mI Mq120 54 27).toNat (1 - v9) (gR Mq120)) → (mI Mq120 54 25 = mI M 54 25) → (mI Mq120 54 32 = mI M 54 32) → (0 ≤ mI Mq120 54 27) → (mI Mq120 54 27 ≤ 40) → (mI Mq120 54 24 < S 1 6) → (40 - mI Mq120 54 27).toNat < n120 → VC l mdX12_goTurn 120 [some (aR 54), none, some (aI s), some (aI x1), some (aI x2), some (aI 1), none, some (aI x690), some (aI v8), some (aI v9)] [] Mq120 0 0 (fun q N => ∃ r : Int, q = some (aI r) ∧ BF fS M N ∧ mI N 55 = mI M 55 ∧ mI N 57 = mI M 57 ∧ mI N 63 = mI M 63 ∧ 0 ≤ r ∧ r ≤ 1 ∧ mI N 54 32 = mI M 54 32 ∧ ((r = 1 ∧ gTu S (mnS t s) (laS s) (gR M) = (gR N, true)) ∨ (r = 0 ∧ gTu S (mnS t s) (laS s) (gR M) = (gR N, false))) ∧ mI N 54 24 < S 1 6) := by
                intro n120
                induction n120 with
                | zero => intro Mq120 v8 v9 hQ120 kp120_57 kp120_63 kp120_55 g120_8a g120_9a g120_9b g120i0 g120i1 g120i2 g120i3 g120i4 g120i5 hm120; exact absurd hm120 (Nat.not_lt_zero _)
                | succ n120 ih120 =>
                  intro Mq120 v8 v9 hQ120 kp120_57 kp120_63 kp120_55 g120_8a g120_9a g120_9b g120i0 g120i1 g120i2 g120i3 g120i4 g120i5 hm120
                  refine vc_iload dX12_goTurn_120 rfl ?_
                  refine vc_if_ne dX12_goTurn_122 (fun h691 => ?_) (fun h691 => ?_)
                  · have hTq : TA (mI Mq120 55) S := by rw [kp120_55]; exact p5
                    refine vc_iload_n dX12_goTurn_200 rfl ?_
                    refine vc_iconst dX12_goTurn_201 rfl ?_
                    refine vc_icmp_eq dX12_goTurn_202 (fun h692 => ?_) (fun h692 => by exfalso; omega)
                    refine vc_aload_n dX12_goTurn_217 rfl ?_
                    refine vc_iload dX12_goTurn_218 rfl ?_
                    refine vc_putI dX12_goTurn_220 (plX12_324 _ rfl) (s_54 hQ120.1.1) rfl ?_
                    have kp693 : mI (sI Mq120 54 25 x690) 57 = mI M 57 := (kp_sI kp120_57 rfl)
                    have kp694 : mI (sI Mq120 54 25 x690) 63 = mI M 63 := (kp_sI kp120_63 rfl)
                    have kp695 : mI (sI Mq120 54 25 x690) 55 = mI M 55 := (kp_sI kp120_55 rfl)
                    have hB696 : BF fS M (sI Mq120 54 25 x690) := BF.w54_25 hQ120 rfl (by omega) (by omega)
                    refine vc_iconst dX12_goTurn_223 rfl ?_
                    refine vc_zret dX12_goTurn_224 rfl (by first | decide | omega) (Nat.le_of_ble_eq_true rfl) (Nat.le_of_ble_eq_true rfl) ?_
                    have k697 : mI (sI Mq120 54 25 x690) 54 24 = mI Mq120 54 24 := rfl
                    have k698 : mI (sI Mq120 54 25 x690) 54 25 = x690 := rfl
                    have k699 : mI (sI Mq120 54 25 x690) 54 27 = mI Mq120 54 27 := rfl
                    have k700 : mI (sI Mq120 54 25 x690) 54 32 = mI Mq120 54 32 := rfl
                    exact ⟨_, rfl, hB696, kp695, kp693, kp694, by omega, by omega, by omega, Or.inl ⟨rfl, (gTu_y (S := S) (g := gR M) (q := gR Mq120) hdu (g120i0.trans (by rw [show (41 - mI Mq120 54 27).toNat = (40 - mI Mq120 54 27).toNat + 1 by omega]; exact gTk_0 (by omega))) (by first | exact Or.inl (hwh.mp (by omega)) | exact Or.inr (by rcases hct with h2 | h2; (exact h2.2); (exfalso; omega)))).trans (by rw [show (gR M).2.1 = mI M 54 25 from rfl, ← hsd]; rfl)⟩, g120i5⟩
                  · have hTq : TA (mI Mq120 55) S := by rw [kp120_55]; exact p5
                    refine vc_aload_n dX12_goTurn_125 rfl ?_
                    refine vc_cVI dX12_goTurn_126 (sfX12_goOnF (M := Mq120) hQ120.1 S  (by exact hTq) (by exact g120i5) (by rw [kp120_57]; exact p7) (by exact p8)) rfl okX12_goOn viX12_goOn lkX12_348 (s_54 hQ120.1.1) cl_12 rfl (Nat.le_of_ble_eq_true rfl) ⟨rfl, rfl⟩ (Nat.le_of_ble_eq_true rfl) (Nat.le_of_ble_eq_true rfl) (Nat.le_of_ble_eq_true rfl) ?_
                    rintro x701 M702 ⟨hB703, kp704, kp705, kp706, h707, h708, h709, h710, h711, h712⟩
                    have hB713 : BF fS M M702 := BF.go hQ120 hB703
                    have kp714 : mI M702 57 = mI M 57 := kp_go kp120_57 kp705
                    have kp715 : mI M702 63 = mI M 63 := kp_go kp120_63 kp706
                    have kp716 : mI M702 55 = mI M 55 := kp_go kp120_55 kp704
                    have hgn := h711
                    have hlt := h712
                    have hTN : TA (mI M702 55) S := by rw [kp716]; exact p5
                    have kz := b54_27 (M := M702) hB713.1
                    have kz4 := b54_24 (M := M702) hB713.1
                    refine vc_if_ne dX12_goTurn_129 (fun h717 => ?_) (fun h717 => ?_)
                    · have hgy : gOn S (gR Mq120) = (gR M702, true) := by rcases hgn with h | h; (exact h.2); (exfalso; omega)
                      have hgno : ¬ gNo S (gR Mq120) := fun e => by rw [gOn_n e] at hgy; exact Bool.false_ne_true (congrArg Prod.snd hgy)
                      have hgx : gR M702 = gNx S (gR Mq120) := by rw [gOn_y hgno] at hgy; exact (congrArg Prod.fst hgy).symm
                      have hgc : mI M702 54 27 = mI Mq120 54 27 + 1 := congrArg (fun g : Gw => g.2.2.1) hgx
                      have hgf : mI M702 54 25 = mI Mq120 54 25 := congrArg (fun g : Gw => g.2.1) hgx
                      refine vc_iload dX12_goTurn_134 rfl ?_
                      refine vc_if_ne dX12_goTurn_136 (fun h718 => ?_) (fun h718 => by exfalso; omega)
                      refine vc_iload dX12_goTurn_157 rfl ?_
                      refine vc_if_eq dX12_goTurn_159 (fun h719 => by exfalso; omega) (fun h719 => ?_)
                      refine vc_aload_n dX12_goTurn_162 rfl ?_
                      refine vc_aload_n dX12_goTurn_163 rfl ?_
                      refine vc_getI dX12_goTurn_164 flX12_321 (s_54 hB713.1.1) rfl ?_
                      have k720 : 0 ≤ mI M702 54 24 ∧ mI M702 54 24 ≤ 15 := b54_24 (M := M702) hB713.1
                      refine vc_cVI dX12_goTurn_167 (sfX12_sightOfF (M := M702) hB713.1  (mI M702 54 24) (by omega) (by omega)) rfl okX12_sightOf viX12_sightOf lkX12_318 (s_54 hB713.1.1) cl_12 rfl (Nat.le_of_ble_eq_true rfl) ⟨rfl, rfl⟩ (Nat.le_of_ble_eq_true rfl) (Nat.le_of_ble_eq_true rfl) (Nat.le_of_ble_eq_true rfl) ?_
                      rintro x721 _ ⟨rfl, h722⟩
                      have hsi : x721 = siS S (mI M702 54 24) := h722.trans (hTN.si (by omega) hlt)
                      refine vc_iload dX12_goTurn_170 rfl ?_
                      refine vc_icmp_ne dX12_goTurn_172 (fun h723 => ?_) (fun h723 => ?_)
                      · have hP : ¬ gCt S (mnS t s) (sdS (mI M 54 25) (mnS t s / 100)) (laS s) (mI M702 54 24) := by unfold gCt; rw [hmd.2.1]; rintro (⟨h1, h2⟩ | ⟨h1, h2 | h2⟩) <;> first | omega | (have h3 := hwh.mpr h2; omega) | (rcases hct with h | h; (exfalso; omega); (exact h.2 h2))
                        refine vc_iconst dX12_goTurn_179 rfl ?_
                        refine vc_goto dX12_goTurn_180 ?_
                        refine vc_istore dX12_goTurn_195 (by decide) rfl (show _ = [some (aR 54), none, some (aI s), some (aI x1), some (aI x2), some (aI 1), none, some (aI x690), some (aI v8), some (aI 0)] from rfl) ?_
                        refine vc_goto dX12_goTurn_197 ?_
                        exact ih120 M702 v8 0 hB713 kp714 kp715 kp716 (by omega) (by omega) (by omega) (by first | (rw [Int.sub_zero]; done) | (show gTk _ _ _ _ _ = gTk _ _ _ (1 - 0) _; rfl) | (rw [g120i0, show (41 - mI Mq120 54 27).toNat = (41 - mI M702 54 27).toNat + 1 by omega]; first | (rw [gTk_y (by omega) hgno (by rw [← hgx]; exact hP), ← hgx]; first | done | (congr 1; omega) | rfl) | (rw [gTk_n (by omega) hgno (by rw [← hgx]; exact hP), ← hgx]; first | done | (congr 1; omega) | rfl))) (by omega) (by omega) (by omega) (by omega) (by omega) (by omega)
                      · have hP : gCt S (mnS t s) (sdS (mI M 54 25) (mnS t s / 100)) (laS s) (mI M702 54 24) := by unfold gCt; rw [hmd.2.1]; first | exact Or.inl ⟨by omega, by omega⟩ | exact Or.inr ⟨by omega, Or.inl (hwh.mp (by omega))⟩ | exact Or.inr ⟨by omega, Or.inr (by rcases hct with h | h; (exact h.2); (exfalso; omega))⟩
                        refine vc_iconst dX12_goTurn_175 rfl ?_
                        refine vc_goto dX12_goTurn_176 ?_
                        refine vc_istore dX12_goTurn_195 (by decide) rfl (show _ = [some (aR 54), none, some (aI s), some (aI x1), some (aI x2), some (aI 1), none, some (aI x690), some (aI v8), some (aI 1)] from rfl) ?_
                        refine vc_goto dX12_goTurn_197 ?_
                        exact ih120 M702 v8 1 hB713 kp714 kp715 kp716 (by omega) (by omega) (by omega) (by first | (rw [Int.sub_zero]; done) | (show gTk _ _ _ _ _ = gTk _ _ _ (1 - 0) _; rfl) | (rw [g120i0, show (41 - mI Mq120 54 27).toNat = (41 - mI M702 54 27).toNat + 1 by omega]; first | (rw [gTk_y (by omega) hgno (by rw [← hgx]; exact hP), ← hgx]; first | done | (congr 1; omega) | rfl) | (rw [gTk_n (by omega) hgno (by rw [← hgx]; exact hP), ← hgx]; first | done | (congr 1; omega) | rfl))) (by omega) (by omega) (by omega) (by omega) (by omega) (by omega)
                    · refine vc_iconst dX12_goTurn_132 rfl ?_
                      refine vc_zret dX12_goTurn_133 rfl (by first | decide | omega) (Nat.le_of_ble_eq_true rfl) (Nat.le_of_ble_eq_true rfl) ?_
                      have hgf2 : gOn S (gR Mq120) = (gR M702, false) := by rcases hgn with h | h; (exfalso; omega); (exact h.2)
                      have hgno : gNo S (gR Mq120) := by by_cases e : gNo S (gR Mq120); (exact e); (rw [gOn_y e] at hgf2; exact absurd (congrArg Prod.snd hgf2).symm Bool.false_ne_true)
                      have hgx : gR M702 = gR Mq120 := by rw [gOn_n hgno] at hgf2; exact (congrArg Prod.fst hgf2).symm
                      exact ⟨_, rfl, hB713, kp716, kp714, kp715, by omega, by omega, by omega, Or.inr ⟨rfl, by rw [hgx]; exact gTu_f (S := S) (g := gR M) hdu (g120i0.trans (by rw [show (41 - mI Mq120 54 27).toNat = (40 - mI Mq120 54 27).toNat + 1 by omega]; exact gTk_f (by omega) hgno))⟩, hlt⟩
              refine vc_less [some (aR 54), none, some (aI s), some (aI x1), some (aI x2), some (aI 1), none, some (aI x690), some (aI 0), some (aI 0)] (lessL_keep (lessL_drop (lessL_keep (lessL_keep (lessL_keep (lessL_keep (lessL_drop (lessL_keep (lessL_keep (lessL_keep (lessL_nil))))))))))) ?_
              exact lp120 _ M 0 0 hB0 rfl rfl rfl (by omega) (by omega) (by omega) (by first | (rw [Int.sub_zero]; done) | (show gTk _ _ _ _ _ = gTk _ _ _ (1 - 0) _; rfl) | (rw [g120i0, show (41 - mI Mq120 54 27).toNat = (41 - mI M702 54 27).toNat + 1 by omega]; first | (rw [gTk_y (by omega) hgno (by rw [← hgx]; exact hP), ← hgx]; first | done | (congr 1; omega) | rfl) | (rw [gTk_n (by omega) hgno (by rw [← hgx]; exact hP), ← hgx]; first | done | (congr 1; omega) | rfl))) (by omega) (by omega) (by omega) (by omega) (by omega) (Nat.lt_succ_self _)
        · refine vc_iconst dX12_goTurn_57 rfl ?_
          refine vc_goto dX12_goTurn_58 ?_
          refine vc_iload_n dX12_goTurn_62 rfl ?_
          refine vc_iconst dX12_goTurn_63 rfl ?_
          refine vc_iandM dX12_goTurn_64 2 1 rfl (by decide) rfl ?_
          refine vc_if_ne dX12_goTurn_65 (fun h724 => ?_) (fun h724 => ?_)
          · refine vc_iconst dX12_goTurn_72 rfl ?_
            refine vc_icmp_ne dX12_goTurn_73 (fun h725 => ?_) (fun h725 => by exfalso; omega)
            refine vc_iconst dX12_goTurn_80 rfl ?_
            refine vc_istore dX12_goTurn_81 (by decide) rfl (show _ = [some (aR 54), some (aI t), some (aI s), some (aI x1), some (aI x2), some (aI 1), some (aI 0), none, none, none] from rfl) ?_
            refine vc_iload_n dX12_goTurn_83 rfl ?_
            refine vc_iconst dX12_goTurn_84 rfl ?_
            refine vc_icmp_ne dX12_goTurn_85 (fun h726 => ?_) (fun h726 => by exfalso; omega)
            refine vc_aload_n dX12_goTurn_95 rfl ?_
            refine vc_getI dX12_goTurn_96 flX12_324 (s_54 hB0.1.1) rfl ?_
            have k727 : 0 ≤ mI M 54 25 ∧ mI M 54 25 ≤ 3 := b54_25 (M := M) hB0.1
            refine vc_iload dX12_goTurn_99 rfl ?_
            refine vc_if_eq dX12_goTurn_101 (fun h728 => ?_) (fun h728 => by exfalso; omega)
            refine vc_iconst dX12_goTurn_108 rfl ?_
            refine vc_iaddE dX12_goTurn_109 (by omega) (by omega) ?_
            refine vc_iconst dX12_goTurn_110 rfl ?_
            refine vc_iremE dX12_goTurn_111 (by omega) (by omega) ?_
            refine vc_nameI (fun x729 ex729 => ?_)
            refine vc_istore dX12_goTurn_112 (by decide) rfl (show _ = [some (aR 54), some (aI t), some (aI s), some (aI x1), some (aI x2), some (aI 1), some (aI 0), some (aI x729), none, none] from rfl) ?_
            have hsd : x729 = (sdS (mI M 54 25) (mnS t s / 100)) := by unfold sdS; rw [hmd.1]; by_cases e1 : s % 2 ≠ 0 ∧ t / 100 ≠ 3; (rw [if_pos e1]; first | (exfalso; omega) | (rw [if_pos (by omega)]; first | done | omega) | (rw [if_neg (by omega), if_pos (by omega)]; first | done | omega) | (rw [if_neg (by omega), if_neg (by omega)]; first | done | omega)); (rw [if_neg e1]; first | (exfalso; omega) | (rw [if_pos (by omega)]; first | done | omega) | (rw [if_neg (by omega), if_pos (by omega)]; first | done | omega) | (rw [if_neg (by omega), if_neg (by omega)]; first | done | omega))
            have hdu : (1 : Int) = if (mnS t s) / 10 % 10 = 1 then 1 else (mnS t s) % 10 := by rw [hmd.2.1]; first | (rw [if_pos (by omega)]) | (rw [if_neg (by omega)])
            have hn4 : x2 = (mnS t s) % 10 := by rw [hmd.2.2]; first | (rw [if_pos (by omega)]; omega) | (rw [if_neg (by omega)]; omega)
            have hwh : x1 = 3 ↔ (mnS t s) / 100 = 3 := by rw [mn_3 p4]; omega
            refine vc_iconst dX12_goTurn_114 rfl ?_
            refine vc_istore dX12_goTurn_115 (by decide) rfl (show _ = [some (aR 54), some (aI t), some (aI s), some (aI x1), some (aI x2), some (aI 1), some (aI 0), some (aI x729), some (aI 0), none] from rfl) ?_
            refine vc_iconst dX12_goTurn_117 rfl ?_
            refine vc_istore dX12_goTurn_118 (by decide) rfl (show _ = [some (aR 54), some (aI t), some (aI s), some (aI x1), some (aI x2), some (aI 1), some (aI 0), some (aI x729), some (aI 0), some (aI 0)] from rfl) ?_
            have lp120 : ∀ (n120 : Nat) (Mq120 : Mem) (v8 : Int) (v9 : Int), (BF fS M Mq120) → (mI Mq120 57 = mI M 57) → (mI Mq120 63 = mI M 63) → (mI Mq120 55 = mI M 55) → (0 ≤ v8) → (0 ≤ v9) → (v9 ≤ 1) → (gTk S (gCt S (mnS t s) (sdS (mI M 54 25) (mnS t s / 100)) (laS s)) (41 - mI M 54 27).toNat (1) (gR M) = gTk S (gCt S (mnS t s) (sdS (mI M 54 25) (mnS t s / 100)) (laS s)) (41 - mI Mq120 54 27).toNat (1 - v9) (gR Mq120)) → (mI Mq120 54 25 = mI M 54 25) → (mI Mq120 54 32 = mI M 54 32) → (0 ≤ mI Mq120 54 27) → (mI Mq120 54 27 ≤ 40) → (mI Mq120 54 24 < S 1 6) → (40 - mI Mq120 54 27).toNat < n120 → VC l mdX12_goTurn 120 [some (aR 54), none, some (aI s), some (aI x1), some (aI x2), some (aI 1), none, some (aI x729), some (aI v8), some (aI v9)] [] Mq120 0 0 (fun q N => ∃ r : Int, q = some (aI r) ∧ BF fS M N ∧ mI N 55 = mI M 55 ∧ mI N 57 = mI M 57 ∧ mI N 63 = mI M 63 ∧ 0 ≤ r ∧ r ≤ 1 ∧ mI N 54 32 = mI M 54 32 ∧ ((r = 1 ∧ gTu S (mnS t s) (laS s) (gR M) = (gR N, true)) ∨ (r = 0 ∧ gTu S (mnS t s) (laS s) (gR M) = (gR N, false))) ∧ mI N 54 24 < S 1 6) := by
              intro n120
              induction n120 with
              | zero => intro Mq120 v8 v9 hQ120 kp120_57 kp120_63 kp120_55 g120_8a g120_9a g120_9b g120i0 g120i1 g120i2 g120i3 g120i4 g120i5 hm120; exact absurd hm120 (Nat.not_lt_zero _)
              | succ n120 ih120 =>
                intro Mq120 v8 v9 hQ120 kp120_57 kp120_63 kp120_55 g120_8a g120_9a g120_9b g120i0 g120i1 g120i2 g120i3 g120i4 g120i5 hm120
                refine vc_iload dX12_goTurn_120 rfl ?_
                refine vc_if_ne dX12_goTurn_122 (fun h730 => ?_) (fun h730 => ?_)
                · have hTq : TA (mI Mq120 55) S := by rw [kp120_55]; exact p5
                  refine vc_iload_n dX12_goTurn_200 rfl ?_
                  refine vc_iconst dX12_goTurn_201 rfl ?_
                  refine vc_icmp_eq dX12_goTurn_202 (fun h731 => by exfalso; omega) (fun h731 => ?_)
                  refine vc_aload_n dX12_goTurn_205 rfl ?_
                  refine vc_iload dX12_goTurn_206 rfl ?_
                  refine vc_iload_n dX12_goTurn_208 rfl ?_
                  refine vc_cVI dX12_goTurn_209 (sfX12_isCountedF (M := Mq120) hQ120.1 S x729 s (by omega) (by omega) (by omega) (by omega) (by exact hTq) (by exact g120i5)) rfl okX12_isCounted viX12_isCounted lkX12_352 (s_54 hQ120.1.1) cl_12 rfl (Nat.le_of_ble_eq_true rfl) ⟨rfl, rfl⟩ (Nat.le_of_ble_eq_true rfl) (Nat.le_of_ble_eq_true rfl) (Nat.le_of_ble_eq_true rfl) ?_
                  rintro x732 _ ⟨rfl, h733, h734, h735⟩
                  have hct : (x732 = 1 ∧ cntS S (mI Mq120 54 24) (sdS (mI M 54 25) (mnS t s / 100)) (laS s)) ∨ (x732 = 0 ∧ ¬ cntS S (mI Mq120 54 24) (sdS (mI M 54 25) (mnS t s / 100)) (laS s)) := by rw [← hsd]; exact h735
                  refine vc_if_ne dX12_goTurn_212 (fun h736 => ?_) (fun h736 => ?_)
                  · refine vc_aload_n dX12_goTurn_217 rfl ?_
                    refine vc_iload dX12_goTurn_218 rfl ?_
                    refine vc_putI dX12_goTurn_220 (plX12_324 _ rfl) (s_54 hQ120.1.1) rfl ?_
                    have kp737 : mI (sI Mq120 54 25 x729) 57 = mI M 57 := (kp_sI kp120_57 rfl)
                    have kp738 : mI (sI Mq120 54 25 x729) 63 = mI M 63 := (kp_sI kp120_63 rfl)
                    have kp739 : mI (sI Mq120 54 25 x729) 55 = mI M 55 := (kp_sI kp120_55 rfl)
                    have hB740 : BF fS M (sI Mq120 54 25 x729) := BF.w54_25 hQ120 rfl (by omega) (by omega)
                    refine vc_iconst dX12_goTurn_223 rfl ?_
                    refine vc_zret dX12_goTurn_224 rfl (by first | decide | omega) (Nat.le_of_ble_eq_true rfl) (Nat.le_of_ble_eq_true rfl) ?_
                    have k741 : mI (sI Mq120 54 25 x729) 54 24 = mI Mq120 54 24 := rfl
                    have k742 : mI (sI Mq120 54 25 x729) 54 25 = x729 := rfl
                    have k743 : mI (sI Mq120 54 25 x729) 54 27 = mI Mq120 54 27 := rfl
                    have k744 : mI (sI Mq120 54 25 x729) 54 32 = mI Mq120 54 32 := rfl
                    exact ⟨_, rfl, hB740, kp739, kp737, kp738, by omega, by omega, by omega, Or.inl ⟨rfl, (gTu_y (S := S) (g := gR M) (q := gR Mq120) hdu (g120i0.trans (by rw [show (41 - mI Mq120 54 27).toNat = (40 - mI Mq120 54 27).toNat + 1 by omega]; exact gTk_0 (by omega))) (by first | exact Or.inl (hwh.mp (by omega)) | exact Or.inr (by rcases hct with h2 | h2; (exact h2.2); (exfalso; omega)))).trans (by rw [show (gR M).2.1 = mI M 54 25 from rfl, ← hsd]; rfl)⟩, g120i5⟩
                  · refine vc_iconst dX12_goTurn_215 rfl ?_
                    refine vc_zret dX12_goTurn_216 rfl (by first | decide | omega) (Nat.le_of_ble_eq_true rfl) (Nat.le_of_ble_eq_true rfl) ?_
                    exact ⟨_, rfl, hQ120, kp120_55, kp120_57, kp120_63, by omega, by omega, by omega, Or.inr ⟨rfl, gTu_n (S := S) (g := gR M) (q := gR Mq120) hdu (g120i0.trans (by rw [show (41 - mI Mq120 54 27).toNat = (40 - mI Mq120 54 27).toNat + 1 by omega]; exact gTk_0 (by omega))) (by rintro (h | h); (have h9 := hwh.mpr h; omega); (rcases hct with h2 | h2; (exfalso; omega); (exact h2.2 h)))⟩, g120i5⟩
                · have hTq : TA (mI Mq120 55) S := by rw [kp120_55]; exact p5
                  refine vc_aload_n dX12_goTurn_125 rfl ?_
                  refine vc_cVI dX12_goTurn_126 (sfX12_goOnF (M := Mq120) hQ120.1 S  (by exact hTq) (by exact g120i5) (by rw [kp120_57]; exact p7) (by exact p8)) rfl okX12_goOn viX12_goOn lkX12_348 (s_54 hQ120.1.1) cl_12 rfl (Nat.le_of_ble_eq_true rfl) ⟨rfl, rfl⟩ (Nat.le_of_ble_eq_true rfl) (Nat.le_of_ble_eq_true rfl) (Nat.le_of_ble_eq_true rfl) ?_
                  rintro x745 M746 ⟨hB747, kp748, kp749, kp750, h751, h752, h753, h754, h755, h756⟩
                  have hB757 : BF fS M M746 := BF.go hQ120 hB747
                  have kp758 : mI M746 57 = mI M 57 := kp_go kp120_57 kp749
                  have kp759 : mI M746 63 = mI M 63 := kp_go kp120_63 kp750
                  have kp760 : mI M746 55 = mI M 55 := kp_go kp120_55 kp748
                  have hgn := h755
                  have hlt := h756
                  have hTN : TA (mI M746 55) S := by rw [kp760]; exact p5
                  have kz := b54_27 (M := M746) hB757.1
                  have kz4 := b54_24 (M := M746) hB757.1
                  refine vc_if_ne dX12_goTurn_129 (fun h761 => ?_) (fun h761 => ?_)
                  · have hgy : gOn S (gR Mq120) = (gR M746, true) := by rcases hgn with h | h; (exact h.2); (exfalso; omega)
                    have hgno : ¬ gNo S (gR Mq120) := fun e => by rw [gOn_n e] at hgy; exact Bool.false_ne_true (congrArg Prod.snd hgy)
                    have hgx : gR M746 = gNx S (gR Mq120) := by rw [gOn_y hgno] at hgy; exact (congrArg Prod.fst hgy).symm
                    have hgc : mI M746 54 27 = mI Mq120 54 27 + 1 := congrArg (fun g : Gw => g.2.2.1) hgx
                    have hgf : mI M746 54 25 = mI Mq120 54 25 := congrArg (fun g : Gw => g.2.1) hgx
                    refine vc_iload dX12_goTurn_134 rfl ?_
                    refine vc_if_ne dX12_goTurn_136 (fun h762 => ?_) (fun h762 => by exfalso; omega)
                    refine vc_iload dX12_goTurn_157 rfl ?_
                    refine vc_if_eq dX12_goTurn_159 (fun h763 => by exfalso; omega) (fun h763 => ?_)
                    refine vc_aload_n dX12_goTurn_162 rfl ?_
                    refine vc_aload_n dX12_goTurn_163 rfl ?_
                    refine vc_getI dX12_goTurn_164 flX12_321 (s_54 hB757.1.1) rfl ?_
                    have k764 : 0 ≤ mI M746 54 24 ∧ mI M746 54 24 ≤ 15 := b54_24 (M := M746) hB757.1
                    refine vc_cVI dX12_goTurn_167 (sfX12_sightOfF (M := M746) hB757.1  (mI M746 54 24) (by omega) (by omega)) rfl okX12_sightOf viX12_sightOf lkX12_318 (s_54 hB757.1.1) cl_12 rfl (Nat.le_of_ble_eq_true rfl) ⟨rfl, rfl⟩ (Nat.le_of_ble_eq_true rfl) (Nat.le_of_ble_eq_true rfl) (Nat.le_of_ble_eq_true rfl) ?_
                    rintro x765 _ ⟨rfl, h766⟩
                    have hsi : x765 = siS S (mI M746 54 24) := h766.trans (hTN.si (by omega) hlt)
                    refine vc_iload dX12_goTurn_170 rfl ?_
                    refine vc_icmp_ne dX12_goTurn_172 (fun h767 => ?_) (fun h767 => ?_)
                    · have hP : ¬ gCt S (mnS t s) (sdS (mI M 54 25) (mnS t s / 100)) (laS s) (mI M746 54 24) := by unfold gCt; rw [hmd.2.1]; rintro (⟨h1, h2⟩ | ⟨h1, h2 | h2⟩) <;> first | omega | (have h3 := hwh.mpr h2; omega) | (rcases hct with h | h; (exfalso; omega); (exact h.2 h2))
                      refine vc_iconst dX12_goTurn_179 rfl ?_
                      refine vc_goto dX12_goTurn_180 ?_
                      refine vc_istore dX12_goTurn_195 (by decide) rfl (show _ = [some (aR 54), none, some (aI s), some (aI x1), some (aI x2), some (aI 1), none, some (aI x729), some (aI v8), some (aI 0)] from rfl) ?_
                      refine vc_goto dX12_goTurn_197 ?_
                      exact ih120 M746 v8 0 hB757 kp758 kp759 kp760 (by omega) (by omega) (by omega) (by first | (rw [Int.sub_zero]; done) | (show gTk _ _ _ _ _ = gTk _ _ _ (1 - 0) _; rfl) | (rw [g120i0, show (41 - mI Mq120 54 27).toNat = (41 - mI M746 54 27).toNat + 1 by omega]; first | (rw [gTk_y (by omega) hgno (by rw [← hgx]; exact hP), ← hgx]; first | done | (congr 1; omega) | rfl) | (rw [gTk_n (by omega) hgno (by rw [← hgx]; exact hP), ← hgx]; first | done | (congr 1; omega) | rfl))) (by omega) (by omega) (by omega) (by omega) (by omega) (by omega)
                    · have hP : gCt S (mnS t s) (sdS (mI M 54 25) (mnS t s / 100)) (laS s) (mI M746 54 24) := by unfold gCt; rw [hmd.2.1]; first | exact Or.inl ⟨by omega, by omega⟩ | exact Or.inr ⟨by omega, Or.inl (hwh.mp (by omega))⟩ | exact Or.inr ⟨by omega, Or.inr (by rcases hct with h | h; (exact h.2); (exfalso; omega))⟩
                      refine vc_iconst dX12_goTurn_175 rfl ?_
                      refine vc_goto dX12_goTurn_176 ?_
                      refine vc_istore dX12_goTurn_195 (by decide) rfl (show _ = [some (aR 54), none, some (aI s), some (aI x1), some (aI x2), some (aI 1), none, some (aI x729), some (aI v8), some (aI 1)] from rfl) ?_
                      refine vc_goto dX12_goTurn_197 ?_
                      exact ih120 M746 v8 1 hB757 kp758 kp759 kp760 (by omega) (by omega) (by omega) (by first | (rw [Int.sub_zero]; done) | (show gTk _ _ _ _ _ = gTk _ _ _ (1 - 0) _; rfl) | (rw [g120i0, show (41 - mI Mq120 54 27).toNat = (41 - mI M746 54 27).toNat + 1 by omega]; first | (rw [gTk_y (by omega) hgno (by rw [← hgx]; exact hP), ← hgx]; first | done | (congr 1; omega) | rfl) | (rw [gTk_n (by omega) hgno (by rw [← hgx]; exact hP), ← hgx]; first | done | (congr 1; omega) | rfl))) (by omega) (by omega) (by omega) (by omega) (by omega) (by omega)
                  · refine vc_iconst dX12_goTurn_132 rfl ?_
                    refine vc_zret dX12_goTurn_133 rfl (by first | decide | omega) (Nat.le_of_ble_eq_true rfl) (Nat.le_of_ble_eq_true rfl) ?_
                    have hgf2 : gOn S (gR Mq120) = (gR M746, false) := by rcases hgn with h | h; (exfalso; omega); (exact h.2)
                    have hgno : gNo S (gR Mq120) := by by_cases e : gNo S (gR Mq120); (exact e); (rw [gOn_y e] at hgf2; exact absurd (congrArg Prod.snd hgf2).symm Bool.false_ne_true)
                    have hgx : gR M746 = gR Mq120 := by rw [gOn_n hgno] at hgf2; exact (congrArg Prod.fst hgf2).symm
                    exact ⟨_, rfl, hB757, kp760, kp758, kp759, by omega, by omega, by omega, Or.inr ⟨rfl, by rw [hgx]; exact gTu_f (S := S) (g := gR M) hdu (g120i0.trans (by rw [show (41 - mI Mq120 54 27).toNat = (40 - mI Mq120 54 27).toNat + 1 by omega]; exact gTk_f (by omega) hgno))⟩, hlt⟩
            refine vc_less [some (aR 54), none, some (aI s), some (aI x1), some (aI x2), some (aI 1), none, some (aI x729), some (aI 0), some (aI 0)] (lessL_keep (lessL_drop (lessL_keep (lessL_keep (lessL_keep (lessL_keep (lessL_drop (lessL_keep (lessL_keep (lessL_keep (lessL_nil))))))))))) ?_
            exact lp120 _ M 0 0 hB0 rfl rfl rfl (by omega) (by omega) (by omega) (by first | (rw [Int.sub_zero]; done) | (show gTk _ _ _ _ _ = gTk _ _ _ (1 - 0) _; rfl) | (rw [g120i0, show (41 - mI Mq120 54 27).toNat = (41 - mI M746 54 27).toNat + 1 by omega]; first | (rw [gTk_y (by omega) hgno (by rw [← hgx]; exact hP), ← hgx]; first | done | (congr 1; omega) | rfl) | (rw [gTk_n (by omega) hgno (by rw [← hgx]; exact hP), ← hgx]; first | done | (congr 1; omega) | rfl))) (by omega) (by omega) (by omega) (by omega) (by omega) (Nat.lt_succ_self _)
          · refine vc_iconst dX12_goTurn_68 rfl ?_
            refine vc_goto dX12_goTurn_69 ?_
            refine vc_icmp_ne dX12_goTurn_73 (fun h768 => by exfalso; omega) (fun h768 => ?_)
            refine vc_iconst dX12_goTurn_76 rfl ?_
            refine vc_goto dX12_goTurn_77 ?_
            refine vc_istore dX12_goTurn_81 (by decide) rfl (show _ = [some (aR 54), some (aI t), some (aI s), some (aI x1), some (aI x2), some (aI 1), some (aI 1), none, none, none] from rfl) ?_
            refine vc_iload_n dX12_goTurn_83 rfl ?_
            refine vc_iconst dX12_goTurn_84 rfl ?_
            refine vc_icmp_ne dX12_goTurn_85 (fun h769 => ?_) (fun h769 => by exfalso; omega)
            refine vc_aload_n dX12_goTurn_95 rfl ?_
            refine vc_getI dX12_goTurn_96 flX12_324 (s_54 hB0.1.1) rfl ?_
            have k770 : 0 ≤ mI M 54 25 ∧ mI M 54 25 ≤ 3 := b54_25 (M := M) hB0.1
            refine vc_iload dX12_goTurn_99 rfl ?_
            refine vc_if_eq dX12_goTurn_101 (fun h771 => by exfalso; omega) (fun h771 => ?_)
            refine vc_iconst dX12_goTurn_104 rfl ?_
            refine vc_goto dX12_goTurn_105 ?_
            refine vc_iaddE dX12_goTurn_109 (by omega) (by omega) ?_
            refine vc_iconst dX12_goTurn_110 rfl ?_
            refine vc_iremE dX12_goTurn_111 (by omega) (by omega) ?_
            refine vc_nameI (fun x772 ex772 => ?_)
            refine vc_istore dX12_goTurn_112 (by decide) rfl (show _ = [some (aR 54), some (aI t), some (aI s), some (aI x1), some (aI x2), some (aI 1), some (aI 1), some (aI x772), none, none] from rfl) ?_
            have hsd : x772 = (sdS (mI M 54 25) (mnS t s / 100)) := by unfold sdS; rw [hmd.1]; by_cases e1 : s % 2 ≠ 0 ∧ t / 100 ≠ 3; (rw [if_pos e1]; first | (exfalso; omega) | (rw [if_pos (by omega)]; first | done | omega) | (rw [if_neg (by omega), if_pos (by omega)]; first | done | omega) | (rw [if_neg (by omega), if_neg (by omega)]; first | done | omega)); (rw [if_neg e1]; first | (exfalso; omega) | (rw [if_pos (by omega)]; first | done | omega) | (rw [if_neg (by omega), if_pos (by omega)]; first | done | omega) | (rw [if_neg (by omega), if_neg (by omega)]; first | done | omega))
            have hdu : (1 : Int) = if (mnS t s) / 10 % 10 = 1 then 1 else (mnS t s) % 10 := by rw [hmd.2.1]; first | (rw [if_pos (by omega)]) | (rw [if_neg (by omega)])
            have hn4 : x2 = (mnS t s) % 10 := by rw [hmd.2.2]; first | (rw [if_pos (by omega)]; omega) | (rw [if_neg (by omega)]; omega)
            have hwh : x1 = 3 ↔ (mnS t s) / 100 = 3 := by rw [mn_3 p4]; omega
            refine vc_iconst dX12_goTurn_114 rfl ?_
            refine vc_istore dX12_goTurn_115 (by decide) rfl (show _ = [some (aR 54), some (aI t), some (aI s), some (aI x1), some (aI x2), some (aI 1), some (aI 1), some (aI x772), some (aI 0), none] from rfl) ?_
            refine vc_iconst dX12_goTurn_117 rfl ?_
            refine vc_istore dX12_goTurn_118 (by decide) rfl (show _ = [some (aR 54), some (aI t), some (aI s), some (aI x1), some (aI x2), some (aI 1), some (aI 1), some (aI x772), some (aI 0), some (aI 0)] from rfl) ?_
            have lp120 : ∀ (n120 : Nat) (Mq120 : Mem) (v8 : Int) (v9 : Int), (BF fS M Mq120) → (mI Mq120 57 = mI M 57) → (mI Mq120 63 = mI M 63) → (mI Mq120 55 = mI M 55) → (0 ≤ v8) → (0 ≤ v9) → (v9 ≤ 1) → (gTk S (gCt S (mnS t s) (sdS (mI M 54 25) (mnS t s / 100)) (laS s)) (41 - mI M 54 27).toNat (1) (gR M) = gTk S (gCt S (mnS t s) (sdS (mI M 54 25) (mnS t s / 100)) (laS s)) (41 - mI Mq120 54 27).toNat (1 - v9) (gR Mq120)) → (mI Mq120 54 25 = mI M 54 25) → (mI Mq120 54 32 = mI M 54 32) → (0 ≤ mI Mq120 54 27) → (mI Mq120 54 27 ≤ 40) → (mI Mq120 54 24 < S 1 6) → (40 - mI Mq120 54 27).toNat < n120 → VC l mdX12_goTurn 120 [some (aR 54), none, some (aI s), some (aI x1), some (aI x2), some (aI 1), none, some (aI x772), some (aI v8), some (aI v9)] [] Mq120 0 0 (fun q N => ∃ r : Int, q = some (aI r) ∧ BF fS M N ∧ mI N 55 = mI M 55 ∧ mI N 57 = mI M 57 ∧ mI N 63 = mI M 63 ∧ 0 ≤ r ∧ r ≤ 1 ∧ mI N 54 32 = mI M 54 32 ∧ ((r = 1 ∧ gTu S (mnS t s) (laS s) (gR M) = (gR N, true)) ∨ (r = 0 ∧ gTu S (mnS t s) (laS s) (gR M) = (gR N, false))) ∧ mI N 54 24 < S 1 6) := by
              intro n120
              induction n120 with
              | zero => intro Mq120 v8 v9 hQ120 kp120_57 kp120_63 kp120_55 g120_8a g120_9a g120_9b g120i0 g120i1 g120i2 g120i3 g120i4 g120i5 hm120; exact absurd hm120 (Nat.not_lt_zero _)
              | succ n120 ih120 =>
                intro Mq120 v8 v9 hQ120 kp120_57 kp120_63 kp120_55 g120_8a g120_9a g120_9b g120i0 g120i1 g120i2 g120i3 g120i4 g120i5 hm120
                refine vc_iload dX12_goTurn_120 rfl ?_
                refine vc_if_ne dX12_goTurn_122 (fun h773 => ?_) (fun h773 => ?_)
                · have hTq : TA (mI Mq120 55) S := by rw [kp120_55]; exact p5
                  refine vc_iload_n dX12_goTurn_200 rfl ?_
                  refine vc_iconst dX12_goTurn_201 rfl ?_
                  refine vc_icmp_eq dX12_goTurn_202 (fun h774 => by exfalso; omega) (fun h774 => ?_)
                  refine vc_aload_n dX12_goTurn_205 rfl ?_
                  refine vc_iload dX12_goTurn_206 rfl ?_
                  refine vc_iload_n dX12_goTurn_208 rfl ?_
                  refine vc_cVI dX12_goTurn_209 (sfX12_isCountedF (M := Mq120) hQ120.1 S x772 s (by omega) (by omega) (by omega) (by omega) (by exact hTq) (by exact g120i5)) rfl okX12_isCounted viX12_isCounted lkX12_352 (s_54 hQ120.1.1) cl_12 rfl (Nat.le_of_ble_eq_true rfl) ⟨rfl, rfl⟩ (Nat.le_of_ble_eq_true rfl) (Nat.le_of_ble_eq_true rfl) (Nat.le_of_ble_eq_true rfl) ?_
                  rintro x775 _ ⟨rfl, h776, h777, h778⟩
                  have hct : (x775 = 1 ∧ cntS S (mI Mq120 54 24) (sdS (mI M 54 25) (mnS t s / 100)) (laS s)) ∨ (x775 = 0 ∧ ¬ cntS S (mI Mq120 54 24) (sdS (mI M 54 25) (mnS t s / 100)) (laS s)) := by rw [← hsd]; exact h778
                  refine vc_if_ne dX12_goTurn_212 (fun h779 => ?_) (fun h779 => ?_)
                  · refine vc_aload_n dX12_goTurn_217 rfl ?_
                    refine vc_iload dX12_goTurn_218 rfl ?_
                    refine vc_putI dX12_goTurn_220 (plX12_324 _ rfl) (s_54 hQ120.1.1) rfl ?_
                    have kp780 : mI (sI Mq120 54 25 x772) 57 = mI M 57 := (kp_sI kp120_57 rfl)
                    have kp781 : mI (sI Mq120 54 25 x772) 63 = mI M 63 := (kp_sI kp120_63 rfl)
                    have kp782 : mI (sI Mq120 54 25 x772) 55 = mI M 55 := (kp_sI kp120_55 rfl)
                    have hB783 : BF fS M (sI Mq120 54 25 x772) := BF.w54_25 hQ120 rfl (by omega) (by omega)
                    refine vc_iconst dX12_goTurn_223 rfl ?_
                    refine vc_zret dX12_goTurn_224 rfl (by first | decide | omega) (Nat.le_of_ble_eq_true rfl) (Nat.le_of_ble_eq_true rfl) ?_
                    have k784 : mI (sI Mq120 54 25 x772) 54 24 = mI Mq120 54 24 := rfl
                    have k785 : mI (sI Mq120 54 25 x772) 54 25 = x772 := rfl
                    have k786 : mI (sI Mq120 54 25 x772) 54 27 = mI Mq120 54 27 := rfl
                    have k787 : mI (sI Mq120 54 25 x772) 54 32 = mI Mq120 54 32 := rfl
                    exact ⟨_, rfl, hB783, kp782, kp780, kp781, by omega, by omega, by omega, Or.inl ⟨rfl, (gTu_y (S := S) (g := gR M) (q := gR Mq120) hdu (g120i0.trans (by rw [show (41 - mI Mq120 54 27).toNat = (40 - mI Mq120 54 27).toNat + 1 by omega]; exact gTk_0 (by omega))) (by first | exact Or.inl (hwh.mp (by omega)) | exact Or.inr (by rcases hct with h2 | h2; (exact h2.2); (exfalso; omega)))).trans (by rw [show (gR M).2.1 = mI M 54 25 from rfl, ← hsd]; rfl)⟩, g120i5⟩
                  · refine vc_iconst dX12_goTurn_215 rfl ?_
                    refine vc_zret dX12_goTurn_216 rfl (by first | decide | omega) (Nat.le_of_ble_eq_true rfl) (Nat.le_of_ble_eq_true rfl) ?_
                    exact ⟨_, rfl, hQ120, kp120_55, kp120_57, kp120_63, by omega, by omega, by omega, Or.inr ⟨rfl, gTu_n (S := S) (g := gR M) (q := gR Mq120) hdu (g120i0.trans (by rw [show (41 - mI Mq120 54 27).toNat = (40 - mI Mq120 54 27).toNat + 1 by omega]; exact gTk_0 (by omega))) (by rintro (h | h); (have h9 := hwh.mpr h; omega); (rcases hct with h2 | h2; (exfalso; omega); (exact h2.2 h)))⟩, g120i5⟩
                · have hTq : TA (mI Mq120 55) S := by rw [kp120_55]; exact p5
                  refine vc_aload_n dX12_goTurn_125 rfl ?_
                  refine vc_cVI dX12_goTurn_126 (sfX12_goOnF (M := Mq120) hQ120.1 S  (by exact hTq) (by exact g120i5) (by rw [kp120_57]; exact p7) (by exact p8)) rfl okX12_goOn viX12_goOn lkX12_348 (s_54 hQ120.1.1) cl_12 rfl (Nat.le_of_ble_eq_true rfl) ⟨rfl, rfl⟩ (Nat.le_of_ble_eq_true rfl) (Nat.le_of_ble_eq_true rfl) (Nat.le_of_ble_eq_true rfl) ?_
                  rintro x788 M789 ⟨hB790, kp791, kp792, kp793, h794, h795, h796, h797, h798, h799⟩
                  have hB800 : BF fS M M789 := BF.go hQ120 hB790
                  have kp801 : mI M789 57 = mI M 57 := kp_go kp120_57 kp792
                  have kp802 : mI M789 63 = mI M 63 := kp_go kp120_63 kp793
                  have kp803 : mI M789 55 = mI M 55 := kp_go kp120_55 kp791
                  have hgn := h798
                  have hlt := h799
                  have hTN : TA (mI M789 55) S := by rw [kp803]; exact p5
                  have kz := b54_27 (M := M789) hB800.1
                  have kz4 := b54_24 (M := M789) hB800.1
                  refine vc_if_ne dX12_goTurn_129 (fun h804 => ?_) (fun h804 => ?_)
                  · have hgy : gOn S (gR Mq120) = (gR M789, true) := by rcases hgn with h | h; (exact h.2); (exfalso; omega)
                    have hgno : ¬ gNo S (gR Mq120) := fun e => by rw [gOn_n e] at hgy; exact Bool.false_ne_true (congrArg Prod.snd hgy)
                    have hgx : gR M789 = gNx S (gR Mq120) := by rw [gOn_y hgno] at hgy; exact (congrArg Prod.fst hgy).symm
                    have hgc : mI M789 54 27 = mI Mq120 54 27 + 1 := congrArg (fun g : Gw => g.2.2.1) hgx
                    have hgf : mI M789 54 25 = mI Mq120 54 25 := congrArg (fun g : Gw => g.2.1) hgx
                    refine vc_iload dX12_goTurn_134 rfl ?_
                    refine vc_if_ne dX12_goTurn_136 (fun h805 => ?_) (fun h805 => by exfalso; omega)
                    refine vc_iload dX12_goTurn_157 rfl ?_
                    refine vc_if_eq dX12_goTurn_159 (fun h806 => by exfalso; omega) (fun h806 => ?_)
                    refine vc_aload_n dX12_goTurn_162 rfl ?_
                    refine vc_aload_n dX12_goTurn_163 rfl ?_
                    refine vc_getI dX12_goTurn_164 flX12_321 (s_54 hB800.1.1) rfl ?_
                    have k807 : 0 ≤ mI M789 54 24 ∧ mI M789 54 24 ≤ 15 := b54_24 (M := M789) hB800.1
                    refine vc_cVI dX12_goTurn_167 (sfX12_sightOfF (M := M789) hB800.1  (mI M789 54 24) (by omega) (by omega)) rfl okX12_sightOf viX12_sightOf lkX12_318 (s_54 hB800.1.1) cl_12 rfl (Nat.le_of_ble_eq_true rfl) ⟨rfl, rfl⟩ (Nat.le_of_ble_eq_true rfl) (Nat.le_of_ble_eq_true rfl) (Nat.le_of_ble_eq_true rfl) ?_
                    rintro x808 _ ⟨rfl, h809⟩
                    have hsi : x808 = siS S (mI M789 54 24) := h809.trans (hTN.si (by omega) hlt)
                    refine vc_iload dX12_goTurn_170 rfl ?_
                    refine vc_icmp_ne dX12_goTurn_172 (fun h810 => ?_) (fun h810 => ?_)
                    · have hP : ¬ gCt S (mnS t s) (sdS (mI M 54 25) (mnS t s / 100)) (laS s) (mI M789 54 24) := by unfold gCt; rw [hmd.2.1]; rintro (⟨h1, h2⟩ | ⟨h1, h2 | h2⟩) <;> first | omega | (have h3 := hwh.mpr h2; omega) | (rcases hct with h | h; (exfalso; omega); (exact h.2 h2))
                      refine vc_iconst dX12_goTurn_179 rfl ?_
                      refine vc_goto dX12_goTurn_180 ?_
                      refine vc_istore dX12_goTurn_195 (by decide) rfl (show _ = [some (aR 54), none, some (aI s), some (aI x1), some (aI x2), some (aI 1), none, some (aI x772), some (aI v8), some (aI 0)] from rfl) ?_
                      refine vc_goto dX12_goTurn_197 ?_
                      exact ih120 M789 v8 0 hB800 kp801 kp802 kp803 (by omega) (by omega) (by omega) (by first | (rw [Int.sub_zero]; done) | (show gTk _ _ _ _ _ = gTk _ _ _ (1 - 0) _; rfl) | (rw [g120i0, show (41 - mI Mq120 54 27).toNat = (41 - mI M789 54 27).toNat + 1 by omega]; first | (rw [gTk_y (by omega) hgno (by rw [← hgx]; exact hP), ← hgx]; first | done | (congr 1; omega) | rfl) | (rw [gTk_n (by omega) hgno (by rw [← hgx]; exact hP), ← hgx]; first | done | (congr 1; omega) | rfl))) (by omega) (by omega) (by omega) (by omega) (by omega) (by omega)
                    · have hP : gCt S (mnS t s) (sdS (mI M 54 25) (mnS t s / 100)) (laS s) (mI M789 54 24) := by unfold gCt; rw [hmd.2.1]; first | exact Or.inl ⟨by omega, by omega⟩ | exact Or.inr ⟨by omega, Or.inl (hwh.mp (by omega))⟩ | exact Or.inr ⟨by omega, Or.inr (by rcases hct with h | h; (exact h.2); (exfalso; omega))⟩
                      refine vc_iconst dX12_goTurn_175 rfl ?_
                      refine vc_goto dX12_goTurn_176 ?_
                      refine vc_istore dX12_goTurn_195 (by decide) rfl (show _ = [some (aR 54), none, some (aI s), some (aI x1), some (aI x2), some (aI 1), none, some (aI x772), some (aI v8), some (aI 1)] from rfl) ?_
                      refine vc_goto dX12_goTurn_197 ?_
                      exact ih120 M789 v8 1 hB800 kp801 kp802 kp803 (by omega) (by omega) (by omega) (by first | (rw [Int.sub_zero]; done) | (show gTk _ _ _ _ _ = gTk _ _ _ (1 - 0) _; rfl) | (rw [g120i0, show (41 - mI Mq120 54 27).toNat = (41 - mI M789 54 27).toNat + 1 by omega]; first | (rw [gTk_y (by omega) hgno (by rw [← hgx]; exact hP), ← hgx]; first | done | (congr 1; omega) | rfl) | (rw [gTk_n (by omega) hgno (by rw [← hgx]; exact hP), ← hgx]; first | done | (congr 1; omega) | rfl))) (by omega) (by omega) (by omega) (by omega) (by omega) (by omega)
                  · refine vc_iconst dX12_goTurn_132 rfl ?_
                    refine vc_zret dX12_goTurn_133 rfl (by first | decide | omega) (Nat.le_of_ble_eq_true rfl) (Nat.le_of_ble_eq_true rfl) ?_
                    have hgf2 : gOn S (gR Mq120) = (gR M789, false) := by rcases hgn with h | h; (exfalso; omega); (exact h.2)
                    have hgno : gNo S (gR Mq120) := by by_cases e : gNo S (gR Mq120); (exact e); (rw [gOn_y e] at hgf2; exact absurd (congrArg Prod.snd hgf2).symm Bool.false_ne_true)
                    have hgx : gR M789 = gR Mq120 := by rw [gOn_n hgno] at hgf2; exact (congrArg Prod.fst hgf2).symm
                    exact ⟨_, rfl, hB800, kp803, kp801, kp802, by omega, by omega, by omega, Or.inr ⟨rfl, by rw [hgx]; exact gTu_f (S := S) (g := gR M) hdu (g120i0.trans (by rw [show (41 - mI Mq120 54 27).toNat = (40 - mI Mq120 54 27).toNat + 1 by omega]; exact gTk_f (by omega) hgno))⟩, hlt⟩
            refine vc_less [some (aR 54), none, some (aI s), some (aI x1), some (aI x2), some (aI 1), none, some (aI x772), some (aI 0), some (aI 0)] (lessL_keep (lessL_drop (lessL_keep (lessL_keep (lessL_keep (lessL_keep (lessL_drop (lessL_keep (lessL_keep (lessL_keep (lessL_nil))))))))))) ?_
            exact lp120 _ M 0 0 hB0 rfl rfl rfl (by omega) (by omega) (by omega) (by first | (rw [Int.sub_zero]; done) | (show gTk _ _ _ _ _ = gTk _ _ _ (1 - 0) _; rfl) | (rw [g120i0, show (41 - mI Mq120 54 27).toNat = (41 - mI M789 54 27).toNat + 1 by omega]; first | (rw [gTk_y (by omega) hgno (by rw [← hgx]; exact hP), ← hgx]; first | done | (congr 1; omega) | rfl) | (rw [gTk_n (by omega) hgno (by rw [← hgx]; exact hP), ← hgx]; first | done | (congr 1; omega) | rfl))) (by omega) (by omega) (by omega) (by omega) (by omega) (Nat.lt_succ_self _)
      · refine vc_iconst dX12_goTurn_46 rfl ?_
        refine vc_iload dX12_goTurn_47 rfl ?_
        refine vc_isubE dX12_goTurn_49 (by omega) (by omega) ?_
        refine vc_nameI (fun x811 ex811 => ?_)
        refine vc_istore dX12_goTurn_50 (by decide) rfl (show _ = [some (aR 54), some (aI t), some (aI s), some (aI x1), some (aI x811), some (aI 1), none, none, none, none] from rfl) ?_
        refine vc_iload_n dX12_goTurn_52 rfl ?_
        refine vc_iconst dX12_goTurn_53 rfl ?_
        refine vc_icmp_ne dX12_goTurn_54 (fun h812 => ?_) (fun h812 => ?_)
        · refine vc_iconst dX12_goTurn_61 rfl ?_
          refine vc_iload_n dX12_goTurn_62 rfl ?_
          refine vc_iconst dX12_goTurn_63 rfl ?_
          refine vc_iandM dX12_goTurn_64 2 1 rfl (by decide) rfl ?_
          refine vc_if_ne dX12_goTurn_65 (fun h813 => ?_) (fun h813 => ?_)
          · refine vc_iconst dX12_goTurn_72 rfl ?_
            refine vc_icmp_ne dX12_goTurn_73 (fun h814 => by exfalso; omega) (fun h814 => ?_)
            refine vc_iconst dX12_goTurn_76 rfl ?_
            refine vc_goto dX12_goTurn_77 ?_
            refine vc_istore dX12_goTurn_81 (by decide) rfl (show _ = [some (aR 54), some (aI t), some (aI s), some (aI x1), some (aI x811), some (aI 1), some (aI 1), none, none, none] from rfl) ?_
            refine vc_iload_n dX12_goTurn_83 rfl ?_
            refine vc_iconst dX12_goTurn_84 rfl ?_
            refine vc_icmp_ne dX12_goTurn_85 (fun h815 => ?_) (fun h815 => ?_)
            · refine vc_aload_n dX12_goTurn_95 rfl ?_
              refine vc_getI dX12_goTurn_96 flX12_324 (s_54 hB0.1.1) rfl ?_
              have k816 : 0 ≤ mI M 54 25 ∧ mI M 54 25 ≤ 3 := b54_25 (M := M) hB0.1
              refine vc_iload dX12_goTurn_99 rfl ?_
              refine vc_if_eq dX12_goTurn_101 (fun h817 => by exfalso; omega) (fun h817 => ?_)
              refine vc_iconst dX12_goTurn_104 rfl ?_
              refine vc_goto dX12_goTurn_105 ?_
              refine vc_iaddE dX12_goTurn_109 (by omega) (by omega) ?_
              refine vc_iconst dX12_goTurn_110 rfl ?_
              refine vc_iremE dX12_goTurn_111 (by omega) (by omega) ?_
              refine vc_nameI (fun x818 ex818 => ?_)
              refine vc_istore dX12_goTurn_112 (by decide) rfl (show _ = [some (aR 54), some (aI t), some (aI s), some (aI x1), some (aI x811), some (aI 1), some (aI 1), some (aI x818), none, none] from rfl) ?_
              have hsd : x818 = (sdS (mI M 54 25) (mnS t s / 100)) := by unfold sdS; rw [hmd.1]; by_cases e1 : s % 2 ≠ 0 ∧ t / 100 ≠ 3; (rw [if_pos e1]; first | (exfalso; omega) | (rw [if_pos (by omega)]; first | done | omega) | (rw [if_neg (by omega), if_pos (by omega)]; first | done | omega) | (rw [if_neg (by omega), if_neg (by omega)]; first | done | omega)); (rw [if_neg e1]; first | (exfalso; omega) | (rw [if_pos (by omega)]; first | done | omega) | (rw [if_neg (by omega), if_pos (by omega)]; first | done | omega) | (rw [if_neg (by omega), if_neg (by omega)]; first | done | omega))
              have hdu : (1 : Int) = if (mnS t s) / 10 % 10 = 1 then 1 else (mnS t s) % 10 := by rw [hmd.2.1]; first | (rw [if_pos (by omega)]) | (rw [if_neg (by omega)])
              have hn4 : x811 = (mnS t s) % 10 := by rw [hmd.2.2]; first | (rw [if_pos (by omega)]; omega) | (rw [if_neg (by omega)]; omega)
              have hwh : x1 = 3 ↔ (mnS t s) / 100 = 3 := by rw [mn_3 p4]; omega
              refine vc_iconst dX12_goTurn_114 rfl ?_
              refine vc_istore dX12_goTurn_115 (by decide) rfl (show _ = [some (aR 54), some (aI t), some (aI s), some (aI x1), some (aI x811), some (aI 1), some (aI 1), some (aI x818), some (aI 0), none] from rfl) ?_
              refine vc_iconst dX12_goTurn_117 rfl ?_
              refine vc_istore dX12_goTurn_118 (by decide) rfl (show _ = [some (aR 54), some (aI t), some (aI s), some (aI x1), some (aI x811), some (aI 1), some (aI 1), some (aI x818), some (aI 0), some (aI 0)] from rfl) ?_
              have lp120 : ∀ (n120 : Nat) (Mq120 : Mem) (v8 : Int) (v9 : Int), (BF fS M Mq120) → (mI Mq120 57 = mI M 57) → (mI Mq120 63 = mI M 63) → (mI Mq120 55 = mI M 55) → (0 ≤ v8) → (0 ≤ v9) → (v9 ≤ 1) → (gTk S (gCt S (mnS t s) (sdS (mI M 54 25) (mnS t s / 100)) (laS s)) (41 - mI M 54 27).toNat (1) (gR M) = gTk S (gCt S (mnS t s) (sdS (mI M 54 25) (mnS t s / 100)) (laS s)) (41 - mI Mq120 54 27).toNat (1 - v9) (gR Mq120)) → (mI Mq120 54 25 = mI M 54 25) → (mI Mq120 54 32 = mI M 54 32) → (0 ≤ mI Mq120 54 27) → (mI Mq120 54 27 ≤ 40) → (mI Mq120 54 24 < S 1 6) → (40 - mI Mq120 54 27).toNat < n120 → VC l mdX12_goTurn 120 [some (aR 54), none, some (aI s), some (aI x1), some (aI x811), some (aI 1), none, some (aI x818), some (aI v8), some (aI v9)] [] Mq120 0 0 (fun q N => ∃ r : Int, q = some (aI r) ∧ BF fS M N ∧ mI N 55 = mI M 55 ∧ mI N 57 = mI M 57 ∧ mI N 63 = mI M 63 ∧ 0 ≤ r ∧ r ≤ 1 ∧ mI N 54 32 = mI M 54 32 ∧ ((r = 1 ∧ gTu S (mnS t s) (laS s) (gR M) = (gR N, true)) ∨ (r = 0 ∧ gTu S (mnS t s) (laS s) (gR M) = (gR N, false))) ∧ mI N 54 24 < S 1 6) := by
                intro n120
                induction n120 with
                | zero => intro Mq120 v8 v9 hQ120 kp120_57 kp120_63 kp120_55 g120_8a g120_9a g120_9b g120i0 g120i1 g120i2 g120i3 g120i4 g120i5 hm120; exact absurd hm120 (Nat.not_lt_zero _)
                | succ n120 ih120 =>
                  intro Mq120 v8 v9 hQ120 kp120_57 kp120_63 kp120_55 g120_8a g120_9a g120_9b g120i0 g120i1 g120i2 g120i3 g120i4 g120i5 hm120
                  refine vc_iload dX12_goTurn_120 rfl ?_
                  refine vc_if_ne dX12_goTurn_122 (fun h819 => ?_) (fun h819 => ?_)
                  · have hTq : TA (mI Mq120 55) S := by rw [kp120_55]; exact p5
                    refine vc_iload_n dX12_goTurn_200 rfl ?_
                    refine vc_iconst dX12_goTurn_201 rfl ?_
                    refine vc_icmp_eq dX12_goTurn_202 (fun h820 => ?_) (fun h820 => ?_)
                    · refine vc_aload_n dX12_goTurn_217 rfl ?_
                      refine vc_iload dX12_goTurn_218 rfl ?_
                      refine vc_putI dX12_goTurn_220 (plX12_324 _ rfl) (s_54 hQ120.1.1) rfl ?_
                      have kp821 : mI (sI Mq120 54 25 x818) 57 = mI M 57 := (kp_sI kp120_57 rfl)
                      have kp822 : mI (sI Mq120 54 25 x818) 63 = mI M 63 := (kp_sI kp120_63 rfl)
                      have kp823 : mI (sI Mq120 54 25 x818) 55 = mI M 55 := (kp_sI kp120_55 rfl)
                      have hB824 : BF fS M (sI Mq120 54 25 x818) := BF.w54_25 hQ120 rfl (by omega) (by omega)
                      refine vc_iconst dX12_goTurn_223 rfl ?_
                      refine vc_zret dX12_goTurn_224 rfl (by first | decide | omega) (Nat.le_of_ble_eq_true rfl) (Nat.le_of_ble_eq_true rfl) ?_
                      have k825 : mI (sI Mq120 54 25 x818) 54 24 = mI Mq120 54 24 := rfl
                      have k826 : mI (sI Mq120 54 25 x818) 54 25 = x818 := rfl
                      have k827 : mI (sI Mq120 54 25 x818) 54 27 = mI Mq120 54 27 := rfl
                      have k828 : mI (sI Mq120 54 25 x818) 54 32 = mI Mq120 54 32 := rfl
                      exact ⟨_, rfl, hB824, kp823, kp821, kp822, by omega, by omega, by omega, Or.inl ⟨rfl, (gTu_y (S := S) (g := gR M) (q := gR Mq120) hdu (g120i0.trans (by rw [show (41 - mI Mq120 54 27).toNat = (40 - mI Mq120 54 27).toNat + 1 by omega]; exact gTk_0 (by omega))) (by first | exact Or.inl (hwh.mp (by omega)) | exact Or.inr (by rcases hct with h2 | h2; (exact h2.2); (exfalso; omega)))).trans (by rw [show (gR M).2.1 = mI M 54 25 from rfl, ← hsd]; rfl)⟩, g120i5⟩
                    · refine vc_aload_n dX12_goTurn_205 rfl ?_
                      refine vc_iload dX12_goTurn_206 rfl ?_
                      refine vc_iload_n dX12_goTurn_208 rfl ?_
                      refine vc_cVI dX12_goTurn_209 (sfX12_isCountedF (M := Mq120) hQ120.1 S x818 s (by omega) (by omega) (by omega) (by omega) (by exact hTq) (by exact g120i5)) rfl okX12_isCounted viX12_isCounted lkX12_352 (s_54 hQ120.1.1) cl_12 rfl (Nat.le_of_ble_eq_true rfl) ⟨rfl, rfl⟩ (Nat.le_of_ble_eq_true rfl) (Nat.le_of_ble_eq_true rfl) (Nat.le_of_ble_eq_true rfl) ?_
                      rintro x829 _ ⟨rfl, h830, h831, h832⟩
                      have hct : (x829 = 1 ∧ cntS S (mI Mq120 54 24) (sdS (mI M 54 25) (mnS t s / 100)) (laS s)) ∨ (x829 = 0 ∧ ¬ cntS S (mI Mq120 54 24) (sdS (mI M 54 25) (mnS t s / 100)) (laS s)) := by rw [← hsd]; exact h832
                      refine vc_if_ne dX12_goTurn_212 (fun h833 => ?_) (fun h833 => ?_)
                      · refine vc_aload_n dX12_goTurn_217 rfl ?_
                        refine vc_iload dX12_goTurn_218 rfl ?_
                        refine vc_putI dX12_goTurn_220 (plX12_324 _ rfl) (s_54 hQ120.1.1) rfl ?_
                        have kp834 : mI (sI Mq120 54 25 x818) 57 = mI M 57 := (kp_sI kp120_57 rfl)
                        have kp835 : mI (sI Mq120 54 25 x818) 63 = mI M 63 := (kp_sI kp120_63 rfl)
                        have kp836 : mI (sI Mq120 54 25 x818) 55 = mI M 55 := (kp_sI kp120_55 rfl)
                        have hB837 : BF fS M (sI Mq120 54 25 x818) := BF.w54_25 hQ120 rfl (by omega) (by omega)
                        refine vc_iconst dX12_goTurn_223 rfl ?_
                        refine vc_zret dX12_goTurn_224 rfl (by first | decide | omega) (Nat.le_of_ble_eq_true rfl) (Nat.le_of_ble_eq_true rfl) ?_
                        have k838 : mI (sI Mq120 54 25 x818) 54 24 = mI Mq120 54 24 := rfl
                        have k839 : mI (sI Mq120 54 25 x818) 54 25 = x818 := rfl
                        have k840 : mI (sI Mq120 54 25 x818) 54 27 = mI Mq120 54 27 := rfl
                        have k841 : mI (sI Mq120 54 25 x818) 54 32 = mI Mq120 54 32 := rfl
                        exact ⟨_, rfl, hB837, kp836, kp834, kp835, by omega, by omega, by omega, Or.inl ⟨rfl, (gTu_y (S := S) (g := gR M) (q := gR Mq120) hdu (g120i0.trans (by rw [show (41 - mI Mq120 54 27).toNat = (40 - mI Mq120 54 27).toNat + 1 by omega]; exact gTk_0 (by omega))) (by first | exact Or.inl (hwh.mp (by omega)) | exact Or.inr (by rcases hct with h2 | h2; (exact h2.2); (exfalso; omega)))).trans (by rw [show (gR M).2.1 = mI M 54 25 from rfl, ← hsd]; rfl)⟩, g120i5⟩
                      · refine vc_iconst dX12_goTurn_215 rfl ?_
                        refine vc_zret dX12_goTurn_216 rfl (by first | decide | omega) (Nat.le_of_ble_eq_true rfl) (Nat.le_of_ble_eq_true rfl) ?_
                        exact ⟨_, rfl, hQ120, kp120_55, kp120_57, kp120_63, by omega, by omega, by omega, Or.inr ⟨rfl, gTu_n (S := S) (g := gR M) (q := gR Mq120) hdu (g120i0.trans (by rw [show (41 - mI Mq120 54 27).toNat = (40 - mI Mq120 54 27).toNat + 1 by omega]; exact gTk_0 (by omega))) (by rintro (h | h); (have h9 := hwh.mpr h; omega); (rcases hct with h2 | h2; (exfalso; omega); (exact h2.2 h)))⟩, g120i5⟩
                  · have hTq : TA (mI Mq120 55) S := by rw [kp120_55]; exact p5
                    refine vc_aload_n dX12_goTurn_125 rfl ?_
                    refine vc_cVI dX12_goTurn_126 (sfX12_goOnF (M := Mq120) hQ120.1 S  (by exact hTq) (by exact g120i5) (by rw [kp120_57]; exact p7) (by exact p8)) rfl okX12_goOn viX12_goOn lkX12_348 (s_54 hQ120.1.1) cl_12 rfl (Nat.le_of_ble_eq_true rfl) ⟨rfl, rfl⟩ (Nat.le_of_ble_eq_true rfl) (Nat.le_of_ble_eq_true rfl) (Nat.le_of_ble_eq_true rfl) ?_
                    rintro x842 M843 ⟨hB844, kp845, kp846, kp847, h848, h849, h850, h851, h852, h853⟩
                    have hB854 : BF fS M M843 := BF.go hQ120 hB844
                    have kp855 : mI M843 57 = mI M 57 := kp_go kp120_57 kp846
                    have kp856 : mI M843 63 = mI M 63 := kp_go kp120_63 kp847
                    have kp857 : mI M843 55 = mI M 55 := kp_go kp120_55 kp845
                    have hgn := h852
                    have hlt := h853
                    have hTN : TA (mI M843 55) S := by rw [kp857]; exact p5
                    have kz := b54_27 (M := M843) hB854.1
                    have kz4 := b54_24 (M := M843) hB854.1
                    refine vc_if_ne dX12_goTurn_129 (fun h858 => ?_) (fun h858 => ?_)
                    · have hgy : gOn S (gR Mq120) = (gR M843, true) := by rcases hgn with h | h; (exact h.2); (exfalso; omega)
                      have hgno : ¬ gNo S (gR Mq120) := fun e => by rw [gOn_n e] at hgy; exact Bool.false_ne_true (congrArg Prod.snd hgy)
                      have hgx : gR M843 = gNx S (gR Mq120) := by rw [gOn_y hgno] at hgy; exact (congrArg Prod.fst hgy).symm
                      have hgc : mI M843 54 27 = mI Mq120 54 27 + 1 := congrArg (fun g : Gw => g.2.2.1) hgx
                      have hgf : mI M843 54 25 = mI Mq120 54 25 := congrArg (fun g : Gw => g.2.1) hgx
                      refine vc_iload dX12_goTurn_134 rfl ?_
                      refine vc_if_ne dX12_goTurn_136 (fun h859 => ?_) (fun h859 => by exfalso; omega)
                      refine vc_iload dX12_goTurn_157 rfl ?_
                      refine vc_if_eq dX12_goTurn_159 (fun h860 => by exfalso; omega) (fun h860 => ?_)
                      refine vc_aload_n dX12_goTurn_162 rfl ?_
                      refine vc_aload_n dX12_goTurn_163 rfl ?_
                      refine vc_getI dX12_goTurn_164 flX12_321 (s_54 hB854.1.1) rfl ?_
                      have k861 : 0 ≤ mI M843 54 24 ∧ mI M843 54 24 ≤ 15 := b54_24 (M := M843) hB854.1
                      refine vc_cVI dX12_goTurn_167 (sfX12_sightOfF (M := M843) hB854.1  (mI M843 54 24) (by omega) (by omega)) rfl okX12_sightOf viX12_sightOf lkX12_318 (s_54 hB854.1.1) cl_12 rfl (Nat.le_of_ble_eq_true rfl) ⟨rfl, rfl⟩ (Nat.le_of_ble_eq_true rfl) (Nat.le_of_ble_eq_true rfl) (Nat.le_of_ble_eq_true rfl) ?_
                      rintro x862 _ ⟨rfl, h863⟩
                      have hsi : x862 = siS S (mI M843 54 24) := h863.trans (hTN.si (by omega) hlt)
                      refine vc_iload dX12_goTurn_170 rfl ?_
                      refine vc_icmp_ne dX12_goTurn_172 (fun h864 => ?_) (fun h864 => ?_)
                      · have hP : ¬ gCt S (mnS t s) (sdS (mI M 54 25) (mnS t s / 100)) (laS s) (mI M843 54 24) := by unfold gCt; rw [hmd.2.1]; rintro (⟨h1, h2⟩ | ⟨h1, h2 | h2⟩) <;> first | omega | (have h3 := hwh.mpr h2; omega) | (rcases hct with h | h; (exfalso; omega); (exact h.2 h2))
                        refine vc_iconst dX12_goTurn_179 rfl ?_
                        refine vc_goto dX12_goTurn_180 ?_
                        refine vc_istore dX12_goTurn_195 (by decide) rfl (show _ = [some (aR 54), none, some (aI s), some (aI x1), some (aI x811), some (aI 1), none, some (aI x818), some (aI v8), some (aI 0)] from rfl) ?_
                        refine vc_goto dX12_goTurn_197 ?_
                        exact ih120 M843 v8 0 hB854 kp855 kp856 kp857 (by omega) (by omega) (by omega) (by first | (rw [Int.sub_zero]; done) | (show gTk _ _ _ _ _ = gTk _ _ _ (1 - 0) _; rfl) | (rw [g120i0, show (41 - mI Mq120 54 27).toNat = (41 - mI M843 54 27).toNat + 1 by omega]; first | (rw [gTk_y (by omega) hgno (by rw [← hgx]; exact hP), ← hgx]; first | done | (congr 1; omega) | rfl) | (rw [gTk_n (by omega) hgno (by rw [← hgx]; exact hP), ← hgx]; first | done | (congr 1; omega) | rfl))) (by omega) (by omega) (by omega) (by omega) (by omega) (by omega)
                      · have hP : gCt S (mnS t s) (sdS (mI M 54 25) (mnS t s / 100)) (laS s) (mI M843 54 24) := by unfold gCt; rw [hmd.2.1]; first | exact Or.inl ⟨by omega, by omega⟩ | exact Or.inr ⟨by omega, Or.inl (hwh.mp (by omega))⟩ | exact Or.inr ⟨by omega, Or.inr (by rcases hct with h | h; (exact h.2); (exfalso; omega))⟩
                        refine vc_iconst dX12_goTurn_175 rfl ?_
                        refine vc_goto dX12_goTurn_176 ?_
                        refine vc_istore dX12_goTurn_195 (by decide) rfl (show _ = [some (aR 54), none, some (aI s), some (aI x1), some (aI x811), some (aI 1), none, some (aI x818), some (aI v8), some (aI 1)] from rfl) ?_
                        refine vc_goto dX12_goTurn_197 ?_
                        exact ih120 M843 v8 1 hB854 kp855 kp856 kp857 (by omega) (by omega) (by omega) (by first | (rw [Int.sub_zero]; done) | (show gTk _ _ _ _ _ = gTk _ _ _ (1 - 0) _; rfl) | (rw [g120i0, show (41 - mI Mq120 54 27).toNat = (41 - mI M843 54 27).toNat + 1 by omega]; first | (rw [gTk_y (by omega) hgno (by rw [← hgx]; exact hP), ← hgx]; first | done | (congr 1; omega) | rfl) | (rw [gTk_n (by omega) hgno (by rw [← hgx]; exact hP), ← hgx]; first | done | (congr 1; omega) | rfl))) (by omega) (by omega) (by omega) (by omega) (by omega) (by omega)
                    · refine vc_iconst dX12_goTurn_132 rfl ?_
                      refine vc_zret dX12_goTurn_133 rfl (by first | decide | omega) (Nat.le_of_ble_eq_true rfl) (Nat.le_of_ble_eq_true rfl) ?_
                      have hgf2 : gOn S (gR Mq120) = (gR M843, false) := by rcases hgn with h | h; (exfalso; omega); (exact h.2)
                      have hgno : gNo S (gR Mq120) := by by_cases e : gNo S (gR Mq120); (exact e); (rw [gOn_y e] at hgf2; exact absurd (congrArg Prod.snd hgf2).symm Bool.false_ne_true)
                      have hgx : gR M843 = gR Mq120 := by rw [gOn_n hgno] at hgf2; exact (congrArg Prod.fst hgf2).symm
                      exact ⟨_, rfl, hB854, kp857, kp855, kp856, by omega, by omega, by omega, Or.inr ⟨rfl, by rw [hgx]; exact gTu_f (S := S) (g := gR M) hdu (g120i0.trans (by rw [show (41 - mI Mq120 54 27).toNat = (40 - mI Mq120 54 27).toNat + 1 by omega]; exact gTk_f (by omega) hgno))⟩, hlt⟩
              refine vc_less [some (aR 54), none, some (aI s), some (aI x1), some (aI x811), some (aI 1), none, some (aI x818), some (aI 0), some (aI 0)] (lessL_keep (lessL_drop (lessL_keep (lessL_keep (lessL_keep (lessL_keep (lessL_drop (lessL_keep (lessL_keep (lessL_keep (lessL_nil))))))))))) ?_
              exact lp120 _ M 0 0 hB0 rfl rfl rfl (by omega) (by omega) (by omega) (by first | (rw [Int.sub_zero]; done) | (show gTk _ _ _ _ _ = gTk _ _ _ (1 - 0) _; rfl) | (rw [g120i0, show (41 - mI Mq120 54 27).toNat = (41 - mI M843 54 27).toNat + 1 by omega]; first | (rw [gTk_y (by omega) hgno (by rw [← hgx]; exact hP), ← hgx]; first | done | (congr 1; omega) | rfl) | (rw [gTk_n (by omega) hgno (by rw [← hgx]; exact hP), ← hgx]; first | done | (congr 1; omega) | rfl))) (by omega) (by omega) (by omega) (by omega) (by omega) (Nat.lt_succ_self _)
            · refine vc_aload_n dX12_goTurn_88 rfl ?_
              refine vc_getI dX12_goTurn_89 flX12_324 (s_54 hB0.1.1) rfl ?_
              have k865 : 0 ≤ mI M 54 25 ∧ mI M 54 25 ≤ 3 := b54_25 (M := M) hB0.1
              refine vc_goto dX12_goTurn_92 ?_
              refine vc_nameI (fun x866 ex866 => ?_)
              refine vc_istore dX12_goTurn_112 (by decide) rfl (show _ = [some (aR 54), some (aI t), some (aI s), some (aI x1), some (aI x811), some (aI 1), some (aI 1), some (aI x866), none, none] from rfl) ?_
              have hsd : x866 = (sdS (mI M 54 25) (mnS t s / 100)) := by unfold sdS; rw [hmd.1]; by_cases e1 : s % 2 ≠ 0 ∧ t / 100 ≠ 3; (rw [if_pos e1]; first | (exfalso; omega) | (rw [if_pos (by omega)]; first | done | omega) | (rw [if_neg (by omega), if_pos (by omega)]; first | done | omega) | (rw [if_neg (by omega), if_neg (by omega)]; first | done | omega)); (rw [if_neg e1]; first | (exfalso; omega) | (rw [if_pos (by omega)]; first | done | omega) | (rw [if_neg (by omega), if_pos (by omega)]; first | done | omega) | (rw [if_neg (by omega), if_neg (by omega)]; first | done | omega))
              have hdu : (1 : Int) = if (mnS t s) / 10 % 10 = 1 then 1 else (mnS t s) % 10 := by rw [hmd.2.1]; first | (rw [if_pos (by omega)]) | (rw [if_neg (by omega)])
              have hn4 : x811 = (mnS t s) % 10 := by rw [hmd.2.2]; first | (rw [if_pos (by omega)]; omega) | (rw [if_neg (by omega)]; omega)
              have hwh : x1 = 3 ↔ (mnS t s) / 100 = 3 := by rw [mn_3 p4]; omega
              refine vc_iconst dX12_goTurn_114 rfl ?_
              refine vc_istore dX12_goTurn_115 (by decide) rfl (show _ = [some (aR 54), some (aI t), some (aI s), some (aI x1), some (aI x811), some (aI 1), some (aI 1), some (aI x866), some (aI 0), none] from rfl) ?_
              refine vc_iconst dX12_goTurn_117 rfl ?_
              refine vc_istore dX12_goTurn_118 (by decide) rfl (show _ = [some (aR 54), some (aI t), some (aI s), some (aI x1), some (aI x811), some (aI 1), some (aI 1), some (aI x866), some (aI 0), some (aI 0)] from rfl) ?_
              have lp120 : ∀ (n120 : Nat) (Mq120 : Mem) (v8 : Int) (v9 : Int), (BF fS M Mq120) → (mI Mq120 57 = mI M 57) → (mI Mq120 63 = mI M 63) → (mI Mq120 55 = mI M 55) → (0 ≤ v8) → (0 ≤ v9) → (v9 ≤ 1) → (gTk S (gCt S (mnS t s) (sdS (mI M 54 25) (mnS t s / 100)) (laS s)) (41 - mI M 54 27).toNat (1) (gR M) = gTk S (gCt S (mnS t s) (sdS (mI M 54 25) (mnS t s / 100)) (laS s)) (41 - mI Mq120 54 27).toNat (1 - v9) (gR Mq120)) → (mI Mq120 54 25 = mI M 54 25) → (mI Mq120 54 32 = mI M 54 32) → (0 ≤ mI Mq120 54 27) → (mI Mq120 54 27 ≤ 40) → (mI Mq120 54 24 < S 1 6) → (40 - mI Mq120 54 27).toNat < n120 → VC l mdX12_goTurn 120 [some (aR 54), none, some (aI s), some (aI x1), some (aI x811), some (aI 1), none, some (aI x866), some (aI v8), some (aI v9)] [] Mq120 0 0 (fun q N => ∃ r : Int, q = some (aI r) ∧ BF fS M N ∧ mI N 55 = mI M 55 ∧ mI N 57 = mI M 57 ∧ mI N 63 = mI M 63 ∧ 0 ≤ r ∧ r ≤ 1 ∧ mI N 54 32 = mI M 54 32 ∧ ((r = 1 ∧ gTu S (mnS t s) (laS s) (gR M) = (gR N, true)) ∨ (r = 0 ∧ gTu S (mnS t s) (laS s) (gR M) = (gR N, false))) ∧ mI N 54 24 < S 1 6) := by
                intro n120
                induction n120 with
                | zero => intro Mq120 v8 v9 hQ120 kp120_57 kp120_63 kp120_55 g120_8a g120_9a g120_9b g120i0 g120i1 g120i2 g120i3 g120i4 g120i5 hm120; exact absurd hm120 (Nat.not_lt_zero _)
                | succ n120 ih120 =>
                  intro Mq120 v8 v9 hQ120 kp120_57 kp120_63 kp120_55 g120_8a g120_9a g120_9b g120i0 g120i1 g120i2 g120i3 g120i4 g120i5 hm120
                  refine vc_iload dX12_goTurn_120 rfl ?_
                  refine vc_if_ne dX12_goTurn_122 (fun h867 => ?_) (fun h867 => ?_)
                  · have hTq : TA (mI Mq120 55) S := by rw [kp120_55]; exact p5
                    refine vc_iload_n dX12_goTurn_200 rfl ?_
                    refine vc_iconst dX12_goTurn_201 rfl ?_
                    refine vc_icmp_eq dX12_goTurn_202 (fun h868 => ?_) (fun h868 => by exfalso; omega)
                    refine vc_aload_n dX12_goTurn_217 rfl ?_
                    refine vc_iload dX12_goTurn_218 rfl ?_
                    refine vc_putI dX12_goTurn_220 (plX12_324 _ rfl) (s_54 hQ120.1.1) rfl ?_
                    have kp869 : mI (sI Mq120 54 25 x866) 57 = mI M 57 := (kp_sI kp120_57 rfl)
                    have kp870 : mI (sI Mq120 54 25 x866) 63 = mI M 63 := (kp_sI kp120_63 rfl)
                    have kp871 : mI (sI Mq120 54 25 x866) 55 = mI M 55 := (kp_sI kp120_55 rfl)
                    have hB872 : BF fS M (sI Mq120 54 25 x866) := BF.w54_25 hQ120 rfl (by omega) (by omega)
                    refine vc_iconst dX12_goTurn_223 rfl ?_
                    refine vc_zret dX12_goTurn_224 rfl (by first | decide | omega) (Nat.le_of_ble_eq_true rfl) (Nat.le_of_ble_eq_true rfl) ?_
                    have k873 : mI (sI Mq120 54 25 x866) 54 24 = mI Mq120 54 24 := rfl
                    have k874 : mI (sI Mq120 54 25 x866) 54 25 = x866 := rfl
                    have k875 : mI (sI Mq120 54 25 x866) 54 27 = mI Mq120 54 27 := rfl
                    have k876 : mI (sI Mq120 54 25 x866) 54 32 = mI Mq120 54 32 := rfl
                    exact ⟨_, rfl, hB872, kp871, kp869, kp870, by omega, by omega, by omega, Or.inl ⟨rfl, (gTu_y (S := S) (g := gR M) (q := gR Mq120) hdu (g120i0.trans (by rw [show (41 - mI Mq120 54 27).toNat = (40 - mI Mq120 54 27).toNat + 1 by omega]; exact gTk_0 (by omega))) (by first | exact Or.inl (hwh.mp (by omega)) | exact Or.inr (by rcases hct with h2 | h2; (exact h2.2); (exfalso; omega)))).trans (by rw [show (gR M).2.1 = mI M 54 25 from rfl, ← hsd]; rfl)⟩, g120i5⟩
                  · have hTq : TA (mI Mq120 55) S := by rw [kp120_55]; exact p5
                    refine vc_aload_n dX12_goTurn_125 rfl ?_
                    refine vc_cVI dX12_goTurn_126 (sfX12_goOnF (M := Mq120) hQ120.1 S  (by exact hTq) (by exact g120i5) (by rw [kp120_57]; exact p7) (by exact p8)) rfl okX12_goOn viX12_goOn lkX12_348 (s_54 hQ120.1.1) cl_12 rfl (Nat.le_of_ble_eq_true rfl) ⟨rfl, rfl⟩ (Nat.le_of_ble_eq_true rfl) (Nat.le_of_ble_eq_true rfl) (Nat.le_of_ble_eq_true rfl) ?_
                    rintro x877 M878 ⟨hB879, kp880, kp881, kp882, h883, h884, h885, h886, h887, h888⟩
                    have hB889 : BF fS M M878 := BF.go hQ120 hB879
                    have kp890 : mI M878 57 = mI M 57 := kp_go kp120_57 kp881
                    have kp891 : mI M878 63 = mI M 63 := kp_go kp120_63 kp882
                    have kp892 : mI M878 55 = mI M 55 := kp_go kp120_55 kp880
                    have hgn := h887
                    have hlt := h888
                    have hTN : TA (mI M878 55) S := by rw [kp892]; exact p5
                    have kz := b54_27 (M := M878) hB889.1
                    have kz4 := b54_24 (M := M878) hB889.1
                    refine vc_if_ne dX12_goTurn_129 (fun h893 => ?_) (fun h893 => ?_)
                    · have hgy : gOn S (gR Mq120) = (gR M878, true) := by rcases hgn with h | h; (exact h.2); (exfalso; omega)
                      have hgno : ¬ gNo S (gR Mq120) := fun e => by rw [gOn_n e] at hgy; exact Bool.false_ne_true (congrArg Prod.snd hgy)
                      have hgx : gR M878 = gNx S (gR Mq120) := by rw [gOn_y hgno] at hgy; exact (congrArg Prod.fst hgy).symm
                      have hgc : mI M878 54 27 = mI Mq120 54 27 + 1 := congrArg (fun g : Gw => g.2.2.1) hgx
                      have hgf : mI M878 54 25 = mI Mq120 54 25 := congrArg (fun g : Gw => g.2.1) hgx
                      refine vc_iload dX12_goTurn_134 rfl ?_
                      refine vc_if_ne dX12_goTurn_136 (fun h894 => ?_) (fun h894 => by exfalso; omega)
                      refine vc_iload dX12_goTurn_157 rfl ?_
                      refine vc_if_eq dX12_goTurn_159 (fun h895 => by exfalso; omega) (fun h895 => ?_)
                      refine vc_aload_n dX12_goTurn_162 rfl ?_
                      refine vc_aload_n dX12_goTurn_163 rfl ?_
                      refine vc_getI dX12_goTurn_164 flX12_321 (s_54 hB889.1.1) rfl ?_
                      have k896 : 0 ≤ mI M878 54 24 ∧ mI M878 54 24 ≤ 15 := b54_24 (M := M878) hB889.1
                      refine vc_cVI dX12_goTurn_167 (sfX12_sightOfF (M := M878) hB889.1  (mI M878 54 24) (by omega) (by omega)) rfl okX12_sightOf viX12_sightOf lkX12_318 (s_54 hB889.1.1) cl_12 rfl (Nat.le_of_ble_eq_true rfl) ⟨rfl, rfl⟩ (Nat.le_of_ble_eq_true rfl) (Nat.le_of_ble_eq_true rfl) (Nat.le_of_ble_eq_true rfl) ?_
                      rintro x897 _ ⟨rfl, h898⟩
                      have hsi : x897 = siS S (mI M878 54 24) := h898.trans (hTN.si (by omega) hlt)
                      refine vc_iload dX12_goTurn_170 rfl ?_
                      refine vc_icmp_ne dX12_goTurn_172 (fun h899 => ?_) (fun h899 => ?_)
                      · have hP : ¬ gCt S (mnS t s) (sdS (mI M 54 25) (mnS t s / 100)) (laS s) (mI M878 54 24) := by unfold gCt; rw [hmd.2.1]; rintro (⟨h1, h2⟩ | ⟨h1, h2 | h2⟩) <;> first | omega | (have h3 := hwh.mpr h2; omega) | (rcases hct with h | h; (exfalso; omega); (exact h.2 h2))
                        refine vc_iconst dX12_goTurn_179 rfl ?_
                        refine vc_goto dX12_goTurn_180 ?_
                        refine vc_istore dX12_goTurn_195 (by decide) rfl (show _ = [some (aR 54), none, some (aI s), some (aI x1), some (aI x811), some (aI 1), none, some (aI x866), some (aI v8), some (aI 0)] from rfl) ?_
                        refine vc_goto dX12_goTurn_197 ?_
                        exact ih120 M878 v8 0 hB889 kp890 kp891 kp892 (by omega) (by omega) (by omega) (by first | (rw [Int.sub_zero]; done) | (show gTk _ _ _ _ _ = gTk _ _ _ (1 - 0) _; rfl) | (rw [g120i0, show (41 - mI Mq120 54 27).toNat = (41 - mI M878 54 27).toNat + 1 by omega]; first | (rw [gTk_y (by omega) hgno (by rw [← hgx]; exact hP), ← hgx]; first | done | (congr 1; omega) | rfl) | (rw [gTk_n (by omega) hgno (by rw [← hgx]; exact hP), ← hgx]; first | done | (congr 1; omega) | rfl))) (by omega) (by omega) (by omega) (by omega) (by omega) (by omega)
                      · have hP : gCt S (mnS t s) (sdS (mI M 54 25) (mnS t s / 100)) (laS s) (mI M878 54 24) := by unfold gCt; rw [hmd.2.1]; first | exact Or.inl ⟨by omega, by omega⟩ | exact Or.inr ⟨by omega, Or.inl (hwh.mp (by omega))⟩ | exact Or.inr ⟨by omega, Or.inr (by rcases hct with h | h; (exact h.2); (exfalso; omega))⟩
                        refine vc_iconst dX12_goTurn_175 rfl ?_
                        refine vc_goto dX12_goTurn_176 ?_
                        refine vc_istore dX12_goTurn_195 (by decide) rfl (show _ = [some (aR 54), none, some (aI s), some (aI x1), some (aI x811), some (aI 1), none, some (aI x866), some (aI v8), some (aI 1)] from rfl) ?_
                        refine vc_goto dX12_goTurn_197 ?_
                        exact ih120 M878 v8 1 hB889 kp890 kp891 kp892 (by omega) (by omega) (by omega) (by first | (rw [Int.sub_zero]; done) | (show gTk _ _ _ _ _ = gTk _ _ _ (1 - 0) _; rfl) | (rw [g120i0, show (41 - mI Mq120 54 27).toNat = (41 - mI M878 54 27).toNat + 1 by omega]; first | (rw [gTk_y (by omega) hgno (by rw [← hgx]; exact hP), ← hgx]; first | done | (congr 1; omega) | rfl) | (rw [gTk_n (by omega) hgno (by rw [← hgx]; exact hP), ← hgx]; first | done | (congr 1; omega) | rfl))) (by omega) (by omega) (by omega) (by omega) (by omega) (by omega)
                    · refine vc_iconst dX12_goTurn_132 rfl ?_
                      refine vc_zret dX12_goTurn_133 rfl (by first | decide | omega) (Nat.le_of_ble_eq_true rfl) (Nat.le_of_ble_eq_true rfl) ?_
                      have hgf2 : gOn S (gR Mq120) = (gR M878, false) := by rcases hgn with h | h; (exfalso; omega); (exact h.2)
                      have hgno : gNo S (gR Mq120) := by by_cases e : gNo S (gR Mq120); (exact e); (rw [gOn_y e] at hgf2; exact absurd (congrArg Prod.snd hgf2).symm Bool.false_ne_true)
                      have hgx : gR M878 = gR Mq120 := by rw [gOn_n hgno] at hgf2; exact (congrArg Prod.fst hgf2).symm
                      exact ⟨_, rfl, hB889, kp892, kp890, kp891, by omega, by omega, by omega, Or.inr ⟨rfl, by rw [hgx]; exact gTu_f (S := S) (g := gR M) hdu (g120i0.trans (by rw [show (41 - mI Mq120 54 27).toNat = (40 - mI Mq120 54 27).toNat + 1 by omega]; exact gTk_f (by omega) hgno))⟩, hlt⟩
              refine vc_less [some (aR 54), none, some (aI s), some (aI x1), some (aI x811), some (aI 1), none, some (aI x866), some (aI 0), some (aI 0)] (lessL_keep (lessL_drop (lessL_keep (lessL_keep (lessL_keep (lessL_keep (lessL_drop (lessL_keep (lessL_keep (lessL_keep (lessL_nil))))))))))) ?_
              exact lp120 _ M 0 0 hB0 rfl rfl rfl (by omega) (by omega) (by omega) (by first | (rw [Int.sub_zero]; done) | (show gTk _ _ _ _ _ = gTk _ _ _ (1 - 0) _; rfl) | (rw [g120i0, show (41 - mI Mq120 54 27).toNat = (41 - mI M878 54 27).toNat + 1 by omega]; first | (rw [gTk_y (by omega) hgno (by rw [← hgx]; exact hP), ← hgx]; first | done | (congr 1; omega) | rfl) | (rw [gTk_n (by omega) hgno (by rw [← hgx]; exact hP), ← hgx]; first | done | (congr 1; omega) | rfl))) (by omega) (by omega) (by omega) (by omega) (by omega) (Nat.lt_succ_self _)
          · refine vc_iconst dX12_goTurn_68 rfl ?_
            refine vc_goto dX12_goTurn_69 ?_
            refine vc_icmp_ne dX12_goTurn_73 (fun h900 => ?_) (fun h900 => by exfalso; omega)
            refine vc_iconst dX12_goTurn_80 rfl ?_
            refine vc_istore dX12_goTurn_81 (by decide) rfl (show _ = [some (aR 54), some (aI t), some (aI s), some (aI x1), some (aI x811), some (aI 1), some (aI 0), none, none, none] from rfl) ?_
            refine vc_iload_n dX12_goTurn_83 rfl ?_
            refine vc_iconst dX12_goTurn_84 rfl ?_
            refine vc_icmp_ne dX12_goTurn_85 (fun h901 => ?_) (fun h901 => ?_)
            · refine vc_aload_n dX12_goTurn_95 rfl ?_
              refine vc_getI dX12_goTurn_96 flX12_324 (s_54 hB0.1.1) rfl ?_
              have k902 : 0 ≤ mI M 54 25 ∧ mI M 54 25 ≤ 3 := b54_25 (M := M) hB0.1
              refine vc_iload dX12_goTurn_99 rfl ?_
              refine vc_if_eq dX12_goTurn_101 (fun h903 => ?_) (fun h903 => by exfalso; omega)
              refine vc_iconst dX12_goTurn_108 rfl ?_
              refine vc_iaddE dX12_goTurn_109 (by omega) (by omega) ?_
              refine vc_iconst dX12_goTurn_110 rfl ?_
              refine vc_iremE dX12_goTurn_111 (by omega) (by omega) ?_
              refine vc_nameI (fun x904 ex904 => ?_)
              refine vc_istore dX12_goTurn_112 (by decide) rfl (show _ = [some (aR 54), some (aI t), some (aI s), some (aI x1), some (aI x811), some (aI 1), some (aI 0), some (aI x904), none, none] from rfl) ?_
              have hsd : x904 = (sdS (mI M 54 25) (mnS t s / 100)) := by unfold sdS; rw [hmd.1]; by_cases e1 : s % 2 ≠ 0 ∧ t / 100 ≠ 3; (rw [if_pos e1]; first | (exfalso; omega) | (rw [if_pos (by omega)]; first | done | omega) | (rw [if_neg (by omega), if_pos (by omega)]; first | done | omega) | (rw [if_neg (by omega), if_neg (by omega)]; first | done | omega)); (rw [if_neg e1]; first | (exfalso; omega) | (rw [if_pos (by omega)]; first | done | omega) | (rw [if_neg (by omega), if_pos (by omega)]; first | done | omega) | (rw [if_neg (by omega), if_neg (by omega)]; first | done | omega))
              have hdu : (1 : Int) = if (mnS t s) / 10 % 10 = 1 then 1 else (mnS t s) % 10 := by rw [hmd.2.1]; first | (rw [if_pos (by omega)]) | (rw [if_neg (by omega)])
              have hn4 : x811 = (mnS t s) % 10 := by rw [hmd.2.2]; first | (rw [if_pos (by omega)]; omega) | (rw [if_neg (by omega)]; omega)
              have hwh : x1 = 3 ↔ (mnS t s) / 100 = 3 := by rw [mn_3 p4]; omega
              refine vc_iconst dX12_goTurn_114 rfl ?_
              refine vc_istore dX12_goTurn_115 (by decide) rfl (show _ = [some (aR 54), some (aI t), some (aI s), some (aI x1), some (aI x811), some (aI 1), some (aI 0), some (aI x904), some (aI 0), none] from rfl) ?_
              refine vc_iconst dX12_goTurn_117 rfl ?_
              refine vc_istore dX12_goTurn_118 (by decide) rfl (show _ = [some (aR 54), some (aI t), some (aI s), some (aI x1), some (aI x811), some (aI 1), some (aI 0), some (aI x904), some (aI 0), some (aI 0)] from rfl) ?_
              have lp120 : ∀ (n120 : Nat) (Mq120 : Mem) (v8 : Int) (v9 : Int), (BF fS M Mq120) → (mI Mq120 57 = mI M 57) → (mI Mq120 63 = mI M 63) → (mI Mq120 55 = mI M 55) → (0 ≤ v8) → (0 ≤ v9) → (v9 ≤ 1) → (gTk S (gCt S (mnS t s) (sdS (mI M 54 25) (mnS t s / 100)) (laS s)) (41 - mI M 54 27).toNat (1) (gR M) = gTk S (gCt S (mnS t s) (sdS (mI M 54 25) (mnS t s / 100)) (laS s)) (41 - mI Mq120 54 27).toNat (1 - v9) (gR Mq120)) → (mI Mq120 54 25 = mI M 54 25) → (mI Mq120 54 32 = mI M 54 32) → (0 ≤ mI Mq120 54 27) → (mI Mq120 54 27 ≤ 40) → (mI Mq120 54 24 < S 1 6) → (40 - mI Mq120 54 27).toNat < n120 → VC l mdX12_goTurn 120 [some (aR 54), none, some (aI s), some (aI x1), some (aI x811), some (aI 1), none, some (aI x904), some (aI v8), some (aI v9)] [] Mq120 0 0 (fun q N => ∃ r : Int, q = some (aI r) ∧ BF fS M N ∧ mI N 55 = mI M 55 ∧ mI N 57 = mI M 57 ∧ mI N 63 = mI M 63 ∧ 0 ≤ r ∧ r ≤ 1 ∧ mI N 54 32 = mI M 54 32 ∧ ((r = 1 ∧ gTu S (mnS t s) (laS s) (gR M) = (gR N, true)) ∨ (r = 0 ∧ gTu S (mnS t s) (laS s) (gR M) = (gR N, false))) ∧ mI N 54 24 < S 1 6) := by
                intro n120
                induction n120 with
                | zero => intro Mq120 v8 v9 hQ120 kp120_57 kp120_63 kp120_55 g120_8a g120_9a g120_9b g120i0 g120i1 g120i2 g120i3 g120i4 g120i5 hm120; exact absurd hm120 (Nat.not_lt_zero _)
                | succ n120 ih120 =>
                  intro Mq120 v8 v9 hQ120 kp120_57 kp120_63 kp120_55 g120_8a g120_9a g120_9b g120i0 g120i1 g120i2 g120i3 g120i4 g120i5 hm120
                  refine vc_iload dX12_goTurn_120 rfl ?_
                  refine vc_if_ne dX12_goTurn_122 (fun h905 => ?_) (fun h905 => ?_)
                  · have hTq : TA (mI Mq120 55) S := by rw [kp120_55]; exact p5
                    refine vc_iload_n dX12_goTurn_200 rfl ?_
                    refine vc_iconst dX12_goTurn_201 rfl ?_
                    refine vc_icmp_eq dX12_goTurn_202 (fun h906 => ?_) (fun h906 => ?_)
                    · refine vc_aload_n dX12_goTurn_217 rfl ?_
                      refine vc_iload dX12_goTurn_218 rfl ?_
                      refine vc_putI dX12_goTurn_220 (plX12_324 _ rfl) (s_54 hQ120.1.1) rfl ?_
                      have kp907 : mI (sI Mq120 54 25 x904) 57 = mI M 57 := (kp_sI kp120_57 rfl)
                      have kp908 : mI (sI Mq120 54 25 x904) 63 = mI M 63 := (kp_sI kp120_63 rfl)
                      have kp909 : mI (sI Mq120 54 25 x904) 55 = mI M 55 := (kp_sI kp120_55 rfl)
                      have hB910 : BF fS M (sI Mq120 54 25 x904) := BF.w54_25 hQ120 rfl (by omega) (by omega)
                      refine vc_iconst dX12_goTurn_223 rfl ?_
                      refine vc_zret dX12_goTurn_224 rfl (by first | decide | omega) (Nat.le_of_ble_eq_true rfl) (Nat.le_of_ble_eq_true rfl) ?_
                      have k911 : mI (sI Mq120 54 25 x904) 54 24 = mI Mq120 54 24 := rfl
                      have k912 : mI (sI Mq120 54 25 x904) 54 25 = x904 := rfl
                      have k913 : mI (sI Mq120 54 25 x904) 54 27 = mI Mq120 54 27 := rfl
                      have k914 : mI (sI Mq120 54 25 x904) 54 32 = mI Mq120 54 32 := rfl
                      exact ⟨_, rfl, hB910, kp909, kp907, kp908, by omega, by omega, by omega, Or.inl ⟨rfl, (gTu_y (S := S) (g := gR M) (q := gR Mq120) hdu (g120i0.trans (by rw [show (41 - mI Mq120 54 27).toNat = (40 - mI Mq120 54 27).toNat + 1 by omega]; exact gTk_0 (by omega))) (by first | exact Or.inl (hwh.mp (by omega)) | exact Or.inr (by rcases hct with h2 | h2; (exact h2.2); (exfalso; omega)))).trans (by rw [show (gR M).2.1 = mI M 54 25 from rfl, ← hsd]; rfl)⟩, g120i5⟩
                    · refine vc_aload_n dX12_goTurn_205 rfl ?_
                      refine vc_iload dX12_goTurn_206 rfl ?_
                      refine vc_iload_n dX12_goTurn_208 rfl ?_
                      refine vc_cVI dX12_goTurn_209 (sfX12_isCountedF (M := Mq120) hQ120.1 S x904 s (by omega) (by omega) (by omega) (by omega) (by exact hTq) (by exact g120i5)) rfl okX12_isCounted viX12_isCounted lkX12_352 (s_54 hQ120.1.1) cl_12 rfl (Nat.le_of_ble_eq_true rfl) ⟨rfl, rfl⟩ (Nat.le_of_ble_eq_true rfl) (Nat.le_of_ble_eq_true rfl) (Nat.le_of_ble_eq_true rfl) ?_
                      rintro x915 _ ⟨rfl, h916, h917, h918⟩
                      have hct : (x915 = 1 ∧ cntS S (mI Mq120 54 24) (sdS (mI M 54 25) (mnS t s / 100)) (laS s)) ∨ (x915 = 0 ∧ ¬ cntS S (mI Mq120 54 24) (sdS (mI M 54 25) (mnS t s / 100)) (laS s)) := by rw [← hsd]; exact h918
                      refine vc_if_ne dX12_goTurn_212 (fun h919 => ?_) (fun h919 => ?_)
                      · refine vc_aload_n dX12_goTurn_217 rfl ?_
                        refine vc_iload dX12_goTurn_218 rfl ?_
                        refine vc_putI dX12_goTurn_220 (plX12_324 _ rfl) (s_54 hQ120.1.1) rfl ?_
                        have kp920 : mI (sI Mq120 54 25 x904) 57 = mI M 57 := (kp_sI kp120_57 rfl)
                        have kp921 : mI (sI Mq120 54 25 x904) 63 = mI M 63 := (kp_sI kp120_63 rfl)
                        have kp922 : mI (sI Mq120 54 25 x904) 55 = mI M 55 := (kp_sI kp120_55 rfl)
                        have hB923 : BF fS M (sI Mq120 54 25 x904) := BF.w54_25 hQ120 rfl (by omega) (by omega)
                        refine vc_iconst dX12_goTurn_223 rfl ?_
                        refine vc_zret dX12_goTurn_224 rfl (by first | decide | omega) (Nat.le_of_ble_eq_true rfl) (Nat.le_of_ble_eq_true rfl) ?_
                        have k924 : mI (sI Mq120 54 25 x904) 54 24 = mI Mq120 54 24 := rfl
                        have k925 : mI (sI Mq120 54 25 x904) 54 25 = x904 := rfl
                        have k926 : mI (sI Mq120 54 25 x904) 54 27 = mI Mq120 54 27 := rfl
                        have k927 : mI (sI Mq120 54 25 x904) 54 32 = mI Mq120 54 32 := rfl
                        exact ⟨_, rfl, hB923, kp922, kp920, kp921, by omega, by omega, by omega, Or.inl ⟨rfl, (gTu_y (S := S) (g := gR M) (q := gR Mq120) hdu (g120i0.trans (by rw [show (41 - mI Mq120 54 27).toNat = (40 - mI Mq120 54 27).toNat + 1 by omega]; exact gTk_0 (by omega))) (by first | exact Or.inl (hwh.mp (by omega)) | exact Or.inr (by rcases hct with h2 | h2; (exact h2.2); (exfalso; omega)))).trans (by rw [show (gR M).2.1 = mI M 54 25 from rfl, ← hsd]; rfl)⟩, g120i5⟩
                      · refine vc_iconst dX12_goTurn_215 rfl ?_
                        refine vc_zret dX12_goTurn_216 rfl (by first | decide | omega) (Nat.le_of_ble_eq_true rfl) (Nat.le_of_ble_eq_true rfl) ?_
                        exact ⟨_, rfl, hQ120, kp120_55, kp120_57, kp120_63, by omega, by omega, by omega, Or.inr ⟨rfl, gTu_n (S := S) (g := gR M) (q := gR Mq120) hdu (g120i0.trans (by rw [show (41 - mI Mq120 54 27).toNat = (40 - mI Mq120 54 27).toNat + 1 by omega]; exact gTk_0 (by omega))) (by rintro (h | h); (have h9 := hwh.mpr h; omega); (rcases hct with h2 | h2; (exfalso; omega); (exact h2.2 h)))⟩, g120i5⟩
                  · have hTq : TA (mI Mq120 55) S := by rw [kp120_55]; exact p5
                    refine vc_aload_n dX12_goTurn_125 rfl ?_
                    refine vc_cVI dX12_goTurn_126 (sfX12_goOnF (M := Mq120) hQ120.1 S  (by exact hTq) (by exact g120i5) (by rw [kp120_57]; exact p7) (by exact p8)) rfl okX12_goOn viX12_goOn lkX12_348 (s_54 hQ120.1.1) cl_12 rfl (Nat.le_of_ble_eq_true rfl) ⟨rfl, rfl⟩ (Nat.le_of_ble_eq_true rfl) (Nat.le_of_ble_eq_true rfl) (Nat.le_of_ble_eq_true rfl) ?_
                    rintro x928 M929 ⟨hB930, kp931, kp932, kp933, h934, h935, h936, h937, h938, h939⟩
                    have hB940 : BF fS M M929 := BF.go hQ120 hB930
                    have kp941 : mI M929 57 = mI M 57 := kp_go kp120_57 kp932
                    have kp942 : mI M929 63 = mI M 63 := kp_go kp120_63 kp933
                    have kp943 : mI M929 55 = mI M 55 := kp_go kp120_55 kp931
                    have hgn := h938
                    have hlt := h939
                    have hTN : TA (mI M929 55) S := by rw [kp943]; exact p5
                    have kz := b54_27 (M := M929) hB940.1
                    have kz4 := b54_24 (M := M929) hB940.1
                    refine vc_if_ne dX12_goTurn_129 (fun h944 => ?_) (fun h944 => ?_)
                    · have hgy : gOn S (gR Mq120) = (gR M929, true) := by rcases hgn with h | h; (exact h.2); (exfalso; omega)
                      have hgno : ¬ gNo S (gR Mq120) := fun e => by rw [gOn_n e] at hgy; exact Bool.false_ne_true (congrArg Prod.snd hgy)
                      have hgx : gR M929 = gNx S (gR Mq120) := by rw [gOn_y hgno] at hgy; exact (congrArg Prod.fst hgy).symm
                      have hgc : mI M929 54 27 = mI Mq120 54 27 + 1 := congrArg (fun g : Gw => g.2.2.1) hgx
                      have hgf : mI M929 54 25 = mI Mq120 54 25 := congrArg (fun g : Gw => g.2.1) hgx
                      refine vc_iload dX12_goTurn_134 rfl ?_
                      refine vc_if_ne dX12_goTurn_136 (fun h945 => ?_) (fun h945 => by exfalso; omega)
                      refine vc_iload dX12_goTurn_157 rfl ?_
                      refine vc_if_eq dX12_goTurn_159 (fun h946 => by exfalso; omega) (fun h946 => ?_)
                      refine vc_aload_n dX12_goTurn_162 rfl ?_
                      refine vc_aload_n dX12_goTurn_163 rfl ?_
                      refine vc_getI dX12_goTurn_164 flX12_321 (s_54 hB940.1.1) rfl ?_
                      have k947 : 0 ≤ mI M929 54 24 ∧ mI M929 54 24 ≤ 15 := b54_24 (M := M929) hB940.1
                      refine vc_cVI dX12_goTurn_167 (sfX12_sightOfF (M := M929) hB940.1  (mI M929 54 24) (by omega) (by omega)) rfl okX12_sightOf viX12_sightOf lkX12_318 (s_54 hB940.1.1) cl_12 rfl (Nat.le_of_ble_eq_true rfl) ⟨rfl, rfl⟩ (Nat.le_of_ble_eq_true rfl) (Nat.le_of_ble_eq_true rfl) (Nat.le_of_ble_eq_true rfl) ?_
                      rintro x948 _ ⟨rfl, h949⟩
                      have hsi : x948 = siS S (mI M929 54 24) := h949.trans (hTN.si (by omega) hlt)
                      refine vc_iload dX12_goTurn_170 rfl ?_
                      refine vc_icmp_ne dX12_goTurn_172 (fun h950 => ?_) (fun h950 => ?_)
                      · have hP : ¬ gCt S (mnS t s) (sdS (mI M 54 25) (mnS t s / 100)) (laS s) (mI M929 54 24) := by unfold gCt; rw [hmd.2.1]; rintro (⟨h1, h2⟩ | ⟨h1, h2 | h2⟩) <;> first | omega | (have h3 := hwh.mpr h2; omega) | (rcases hct with h | h; (exfalso; omega); (exact h.2 h2))
                        refine vc_iconst dX12_goTurn_179 rfl ?_
                        refine vc_goto dX12_goTurn_180 ?_
                        refine vc_istore dX12_goTurn_195 (by decide) rfl (show _ = [some (aR 54), none, some (aI s), some (aI x1), some (aI x811), some (aI 1), none, some (aI x904), some (aI v8), some (aI 0)] from rfl) ?_
                        refine vc_goto dX12_goTurn_197 ?_
                        exact ih120 M929 v8 0 hB940 kp941 kp942 kp943 (by omega) (by omega) (by omega) (by first | (rw [Int.sub_zero]; done) | (show gTk _ _ _ _ _ = gTk _ _ _ (1 - 0) _; rfl) | (rw [g120i0, show (41 - mI Mq120 54 27).toNat = (41 - mI M929 54 27).toNat + 1 by omega]; first | (rw [gTk_y (by omega) hgno (by rw [← hgx]; exact hP), ← hgx]; first | done | (congr 1; omega) | rfl) | (rw [gTk_n (by omega) hgno (by rw [← hgx]; exact hP), ← hgx]; first | done | (congr 1; omega) | rfl))) (by omega) (by omega) (by omega) (by omega) (by omega) (by omega)
                      · have hP : gCt S (mnS t s) (sdS (mI M 54 25) (mnS t s / 100)) (laS s) (mI M929 54 24) := by unfold gCt; rw [hmd.2.1]; first | exact Or.inl ⟨by omega, by omega⟩ | exact Or.inr ⟨by omega, Or.inl (hwh.mp (by omega))⟩ | exact Or.inr ⟨by omega, Or.inr (by rcases hct with h | h; (exact h.2); (exfalso; omega))⟩
                        refine vc_iconst dX12_goTurn_175 rfl ?_
                        refine vc_goto dX12_goTurn_176 ?_
                        refine vc_istore dX12_goTurn_195 (by decide) rfl (show _ = [some (aR 54), none, some (aI s), some (aI x1), some (aI x811), some (aI 1), none, some (aI x904), some (aI v8), some (aI 1)] from rfl) ?_
                        refine vc_goto dX12_goTurn_197 ?_
                        exact ih120 M929 v8 1 hB940 kp941 kp942 kp943 (by omega) (by omega) (by omega) (by first | (rw [Int.sub_zero]; done) | (show gTk _ _ _ _ _ = gTk _ _ _ (1 - 0) _; rfl) | (rw [g120i0, show (41 - mI Mq120 54 27).toNat = (41 - mI M929 54 27).toNat + 1 by omega]; first | (rw [gTk_y (by omega) hgno (by rw [← hgx]; exact hP), ← hgx]; first | done | (congr 1; omega) | rfl) | (rw [gTk_n (by omega) hgno (by rw [← hgx]; exact hP), ← hgx]; first | done | (congr 1; omega) | rfl))) (by omega) (by omega) (by omega) (by omega) (by omega) (by omega)
                    · refine vc_iconst dX12_goTurn_132 rfl ?_
                      refine vc_zret dX12_goTurn_133 rfl (by first | decide | omega) (Nat.le_of_ble_eq_true rfl) (Nat.le_of_ble_eq_true rfl) ?_
                      have hgf2 : gOn S (gR Mq120) = (gR M929, false) := by rcases hgn with h | h; (exfalso; omega); (exact h.2)
                      have hgno : gNo S (gR Mq120) := by by_cases e : gNo S (gR Mq120); (exact e); (rw [gOn_y e] at hgf2; exact absurd (congrArg Prod.snd hgf2).symm Bool.false_ne_true)
                      have hgx : gR M929 = gR Mq120 := by rw [gOn_n hgno] at hgf2; exact (congrArg Prod.fst hgf2).symm
                      exact ⟨_, rfl, hB940, kp943, kp941, kp942, by omega, by omega, by omega, Or.inr ⟨rfl, by rw [hgx]; exact gTu_f (S := S) (g := gR M) hdu (g120i0.trans (by rw [show (41 - mI Mq120 54 27).toNat = (40 - mI Mq120 54 27).toNat + 1 by omega]; exact gTk_f (by omega) hgno))⟩, hlt⟩
              refine vc_less [some (aR 54), none, some (aI s), some (aI x1), some (aI x811), some (aI 1), none, some (aI x904), some (aI 0), some (aI 0)] (lessL_keep (lessL_drop (lessL_keep (lessL_keep (lessL_keep (lessL_keep (lessL_drop (lessL_keep (lessL_keep (lessL_keep (lessL_nil))))))))))) ?_
              exact lp120 _ M 0 0 hB0 rfl rfl rfl (by omega) (by omega) (by omega) (by first | (rw [Int.sub_zero]; done) | (show gTk _ _ _ _ _ = gTk _ _ _ (1 - 0) _; rfl) | (rw [g120i0, show (41 - mI Mq120 54 27).toNat = (41 - mI M929 54 27).toNat + 1 by omega]; first | (rw [gTk_y (by omega) hgno (by rw [← hgx]; exact hP), ← hgx]; first | done | (congr 1; omega) | rfl) | (rw [gTk_n (by omega) hgno (by rw [← hgx]; exact hP), ← hgx]; first | done | (congr 1; omega) | rfl))) (by omega) (by omega) (by omega) (by omega) (by omega) (Nat.lt_succ_self _)
            · refine vc_aload_n dX12_goTurn_88 rfl ?_
              refine vc_getI dX12_goTurn_89 flX12_324 (s_54 hB0.1.1) rfl ?_
              have k951 : 0 ≤ mI M 54 25 ∧ mI M 54 25 ≤ 3 := b54_25 (M := M) hB0.1
              refine vc_goto dX12_goTurn_92 ?_
              refine vc_nameI (fun x952 ex952 => ?_)
              refine vc_istore dX12_goTurn_112 (by decide) rfl (show _ = [some (aR 54), some (aI t), some (aI s), some (aI x1), some (aI x811), some (aI 1), some (aI 0), some (aI x952), none, none] from rfl) ?_
              have hsd : x952 = (sdS (mI M 54 25) (mnS t s / 100)) := by unfold sdS; rw [hmd.1]; by_cases e1 : s % 2 ≠ 0 ∧ t / 100 ≠ 3; (rw [if_pos e1]; first | (exfalso; omega) | (rw [if_pos (by omega)]; first | done | omega) | (rw [if_neg (by omega), if_pos (by omega)]; first | done | omega) | (rw [if_neg (by omega), if_neg (by omega)]; first | done | omega)); (rw [if_neg e1]; first | (exfalso; omega) | (rw [if_pos (by omega)]; first | done | omega) | (rw [if_neg (by omega), if_pos (by omega)]; first | done | omega) | (rw [if_neg (by omega), if_neg (by omega)]; first | done | omega))
              have hdu : (1 : Int) = if (mnS t s) / 10 % 10 = 1 then 1 else (mnS t s) % 10 := by rw [hmd.2.1]; first | (rw [if_pos (by omega)]) | (rw [if_neg (by omega)])
              have hn4 : x811 = (mnS t s) % 10 := by rw [hmd.2.2]; first | (rw [if_pos (by omega)]; omega) | (rw [if_neg (by omega)]; omega)
              have hwh : x1 = 3 ↔ (mnS t s) / 100 = 3 := by rw [mn_3 p4]; omega
              refine vc_iconst dX12_goTurn_114 rfl ?_
              refine vc_istore dX12_goTurn_115 (by decide) rfl (show _ = [some (aR 54), some (aI t), some (aI s), some (aI x1), some (aI x811), some (aI 1), some (aI 0), some (aI x952), some (aI 0), none] from rfl) ?_
              refine vc_iconst dX12_goTurn_117 rfl ?_
              refine vc_istore dX12_goTurn_118 (by decide) rfl (show _ = [some (aR 54), some (aI t), some (aI s), some (aI x1), some (aI x811), some (aI 1), some (aI 0), some (aI x952), some (aI 0), some (aI 0)] from rfl) ?_
              have lp120 : ∀ (n120 : Nat) (Mq120 : Mem) (v8 : Int) (v9 : Int), (BF fS M Mq120) → (mI Mq120 57 = mI M 57) → (mI Mq120 63 = mI M 63) → (mI Mq120 55 = mI M 55) → (0 ≤ v8) → (0 ≤ v9) → (v9 ≤ 1) → (gTk S (gCt S (mnS t s) (sdS (mI M 54 25) (mnS t s / 100)) (laS s)) (41 - mI M 54 27).toNat (1) (gR M) = gTk S (gCt S (mnS t s) (sdS (mI M 54 25) (mnS t s / 100)) (laS s)) (41 - mI Mq120 54 27).toNat (1 - v9) (gR Mq120)) → (mI Mq120 54 25 = mI M 54 25) → (mI Mq120 54 32 = mI M 54 32) → (0 ≤ mI Mq120 54 27) → (mI Mq120 54 27 ≤ 40) → (mI Mq120 54 24 < S 1 6) → (40 - mI Mq120 54 27).toNat < n120 → VC l mdX12_goTurn 120 [some (aR 54), none, some (aI s), some (aI x1), some (aI x811), some (aI 1), none, some (aI x952), some (aI v8), some (aI v9)] [] Mq120 0 0 (fun q N => ∃ r : Int, q = some (aI r) ∧ BF fS M N ∧ mI N 55 = mI M 55 ∧ mI N 57 = mI M 57 ∧ mI N 63 = mI M 63 ∧ 0 ≤ r ∧ r ≤ 1 ∧ mI N 54 32 = mI M 54 32 ∧ ((r = 1 ∧ gTu S (mnS t s) (laS s) (gR M) = (gR N, true)) ∨ (r = 0 ∧ gTu S (mnS t s) (laS s) (gR M) = (gR N, false))) ∧ mI N 54 24 < S 1 6) := by
                intro n120
                induction n120 with
                | zero => intro Mq120 v8 v9 hQ120 kp120_57 kp120_63 kp120_55 g120_8a g120_9a g120_9b g120i0 g120i1 g120i2 g120i3 g120i4 g120i5 hm120; exact absurd hm120 (Nat.not_lt_zero _)
                | succ n120 ih120 =>
                  intro Mq120 v8 v9 hQ120 kp120_57 kp120_63 kp120_55 g120_8a g120_9a g120_9b g120i0 g120i1 g120i2 g120i3 g120i4 g120i5 hm120
                  refine vc_iload dX12_goTurn_120 rfl ?_
                  refine vc_if_ne dX12_goTurn_122 (fun h953 => ?_) (fun h953 => ?_)
                  · have hTq : TA (mI Mq120 55) S := by rw [kp120_55]; exact p5
                    refine vc_iload_n dX12_goTurn_200 rfl ?_
                    refine vc_iconst dX12_goTurn_201 rfl ?_
                    refine vc_icmp_eq dX12_goTurn_202 (fun h954 => ?_) (fun h954 => by exfalso; omega)
                    refine vc_aload_n dX12_goTurn_217 rfl ?_
                    refine vc_iload dX12_goTurn_218 rfl ?_
                    refine vc_putI dX12_goTurn_220 (plX12_324 _ rfl) (s_54 hQ120.1.1) rfl ?_
                    have kp955 : mI (sI Mq120 54 25 x952) 57 = mI M 57 := (kp_sI kp120_57 rfl)
                    have kp956 : mI (sI Mq120 54 25 x952) 63 = mI M 63 := (kp_sI kp120_63 rfl)
                    have kp957 : mI (sI Mq120 54 25 x952) 55 = mI M 55 := (kp_sI kp120_55 rfl)
                    have hB958 : BF fS M (sI Mq120 54 25 x952) := BF.w54_25 hQ120 rfl (by omega) (by omega)
                    refine vc_iconst dX12_goTurn_223 rfl ?_
                    refine vc_zret dX12_goTurn_224 rfl (by first | decide | omega) (Nat.le_of_ble_eq_true rfl) (Nat.le_of_ble_eq_true rfl) ?_
                    have k959 : mI (sI Mq120 54 25 x952) 54 24 = mI Mq120 54 24 := rfl
                    have k960 : mI (sI Mq120 54 25 x952) 54 25 = x952 := rfl
                    have k961 : mI (sI Mq120 54 25 x952) 54 27 = mI Mq120 54 27 := rfl
                    have k962 : mI (sI Mq120 54 25 x952) 54 32 = mI Mq120 54 32 := rfl
                    exact ⟨_, rfl, hB958, kp957, kp955, kp956, by omega, by omega, by omega, Or.inl ⟨rfl, (gTu_y (S := S) (g := gR M) (q := gR Mq120) hdu (g120i0.trans (by rw [show (41 - mI Mq120 54 27).toNat = (40 - mI Mq120 54 27).toNat + 1 by omega]; exact gTk_0 (by omega))) (by first | exact Or.inl (hwh.mp (by omega)) | exact Or.inr (by rcases hct with h2 | h2; (exact h2.2); (exfalso; omega)))).trans (by rw [show (gR M).2.1 = mI M 54 25 from rfl, ← hsd]; rfl)⟩, g120i5⟩
                  · have hTq : TA (mI Mq120 55) S := by rw [kp120_55]; exact p5
                    refine vc_aload_n dX12_goTurn_125 rfl ?_
                    refine vc_cVI dX12_goTurn_126 (sfX12_goOnF (M := Mq120) hQ120.1 S  (by exact hTq) (by exact g120i5) (by rw [kp120_57]; exact p7) (by exact p8)) rfl okX12_goOn viX12_goOn lkX12_348 (s_54 hQ120.1.1) cl_12 rfl (Nat.le_of_ble_eq_true rfl) ⟨rfl, rfl⟩ (Nat.le_of_ble_eq_true rfl) (Nat.le_of_ble_eq_true rfl) (Nat.le_of_ble_eq_true rfl) ?_
                    rintro x963 M964 ⟨hB965, kp966, kp967, kp968, h969, h970, h971, h972, h973, h974⟩
                    have hB975 : BF fS M M964 := BF.go hQ120 hB965
                    have kp976 : mI M964 57 = mI M 57 := kp_go kp120_57 kp967
                    have kp977 : mI M964 63 = mI M 63 := kp_go kp120_63 kp968
                    have kp978 : mI M964 55 = mI M 55 := kp_go kp120_55 kp966
                    have hgn := h973
                    have hlt := h974
                    have hTN : TA (mI M964 55) S := by rw [kp978]; exact p5
                    have kz := b54_27 (M := M964) hB975.1
                    have kz4 := b54_24 (M := M964) hB975.1
                    refine vc_if_ne dX12_goTurn_129 (fun h979 => ?_) (fun h979 => ?_)
                    · have hgy : gOn S (gR Mq120) = (gR M964, true) := by rcases hgn with h | h; (exact h.2); (exfalso; omega)
                      have hgno : ¬ gNo S (gR Mq120) := fun e => by rw [gOn_n e] at hgy; exact Bool.false_ne_true (congrArg Prod.snd hgy)
                      have hgx : gR M964 = gNx S (gR Mq120) := by rw [gOn_y hgno] at hgy; exact (congrArg Prod.fst hgy).symm
                      have hgc : mI M964 54 27 = mI Mq120 54 27 + 1 := congrArg (fun g : Gw => g.2.2.1) hgx
                      have hgf : mI M964 54 25 = mI Mq120 54 25 := congrArg (fun g : Gw => g.2.1) hgx
                      refine vc_iload dX12_goTurn_134 rfl ?_
                      refine vc_if_ne dX12_goTurn_136 (fun h980 => ?_) (fun h980 => by exfalso; omega)
                      refine vc_iload dX12_goTurn_157 rfl ?_
                      refine vc_if_eq dX12_goTurn_159 (fun h981 => by exfalso; omega) (fun h981 => ?_)
                      refine vc_aload_n dX12_goTurn_162 rfl ?_
                      refine vc_aload_n dX12_goTurn_163 rfl ?_
                      refine vc_getI dX12_goTurn_164 flX12_321 (s_54 hB975.1.1) rfl ?_
                      have k982 : 0 ≤ mI M964 54 24 ∧ mI M964 54 24 ≤ 15 := b54_24 (M := M964) hB975.1
                      refine vc_cVI dX12_goTurn_167 (sfX12_sightOfF (M := M964) hB975.1  (mI M964 54 24) (by omega) (by omega)) rfl okX12_sightOf viX12_sightOf lkX12_318 (s_54 hB975.1.1) cl_12 rfl (Nat.le_of_ble_eq_true rfl) ⟨rfl, rfl⟩ (Nat.le_of_ble_eq_true rfl) (Nat.le_of_ble_eq_true rfl) (Nat.le_of_ble_eq_true rfl) ?_
                      rintro x983 _ ⟨rfl, h984⟩
                      have hsi : x983 = siS S (mI M964 54 24) := h984.trans (hTN.si (by omega) hlt)
                      refine vc_iload dX12_goTurn_170 rfl ?_
                      refine vc_icmp_ne dX12_goTurn_172 (fun h985 => ?_) (fun h985 => ?_)
                      · have hP : ¬ gCt S (mnS t s) (sdS (mI M 54 25) (mnS t s / 100)) (laS s) (mI M964 54 24) := by unfold gCt; rw [hmd.2.1]; rintro (⟨h1, h2⟩ | ⟨h1, h2 | h2⟩) <;> first | omega | (have h3 := hwh.mpr h2; omega) | (rcases hct with h | h; (exfalso; omega); (exact h.2 h2))
                        refine vc_iconst dX12_goTurn_179 rfl ?_
                        refine vc_goto dX12_goTurn_180 ?_
                        refine vc_istore dX12_goTurn_195 (by decide) rfl (show _ = [some (aR 54), none, some (aI s), some (aI x1), some (aI x811), some (aI 1), none, some (aI x952), some (aI v8), some (aI 0)] from rfl) ?_
                        refine vc_goto dX12_goTurn_197 ?_
                        exact ih120 M964 v8 0 hB975 kp976 kp977 kp978 (by omega) (by omega) (by omega) (by first | (rw [Int.sub_zero]; done) | (show gTk _ _ _ _ _ = gTk _ _ _ (1 - 0) _; rfl) | (rw [g120i0, show (41 - mI Mq120 54 27).toNat = (41 - mI M964 54 27).toNat + 1 by omega]; first | (rw [gTk_y (by omega) hgno (by rw [← hgx]; exact hP), ← hgx]; first | done | (congr 1; omega) | rfl) | (rw [gTk_n (by omega) hgno (by rw [← hgx]; exact hP), ← hgx]; first | done | (congr 1; omega) | rfl))) (by omega) (by omega) (by omega) (by omega) (by omega) (by omega)
                      · have hP : gCt S (mnS t s) (sdS (mI M 54 25) (mnS t s / 100)) (laS s) (mI M964 54 24) := by unfold gCt; rw [hmd.2.1]; first | exact Or.inl ⟨by omega, by omega⟩ | exact Or.inr ⟨by omega, Or.inl (hwh.mp (by omega))⟩ | exact Or.inr ⟨by omega, Or.inr (by rcases hct with h | h; (exact h.2); (exfalso; omega))⟩
                        refine vc_iconst dX12_goTurn_175 rfl ?_
                        refine vc_goto dX12_goTurn_176 ?_
                        refine vc_istore dX12_goTurn_195 (by decide) rfl (show _ = [some (aR 54), none, some (aI s), some (aI x1), some (aI x811), some (aI 1), none, some (aI x952), some (aI v8), some (aI 1)] from rfl) ?_
                        refine vc_goto dX12_goTurn_197 ?_
                        exact ih120 M964 v8 1 hB975 kp976 kp977 kp978 (by omega) (by omega) (by omega) (by first | (rw [Int.sub_zero]; done) | (show gTk _ _ _ _ _ = gTk _ _ _ (1 - 0) _; rfl) | (rw [g120i0, show (41 - mI Mq120 54 27).toNat = (41 - mI M964 54 27).toNat + 1 by omega]; first | (rw [gTk_y (by omega) hgno (by rw [← hgx]; exact hP), ← hgx]; first | done | (congr 1; omega) | rfl) | (rw [gTk_n (by omega) hgno (by rw [← hgx]; exact hP), ← hgx]; first | done | (congr 1; omega) | rfl))) (by omega) (by omega) (by omega) (by omega) (by omega) (by omega)
                    · refine vc_iconst dX12_goTurn_132 rfl ?_
                      refine vc_zret dX12_goTurn_133 rfl (by first | decide | omega) (Nat.le_of_ble_eq_true rfl) (Nat.le_of_ble_eq_true rfl) ?_
                      have hgf2 : gOn S (gR Mq120) = (gR M964, false) := by rcases hgn with h | h; (exfalso; omega); (exact h.2)
                      have hgno : gNo S (gR Mq120) := by by_cases e : gNo S (gR Mq120); (exact e); (rw [gOn_y e] at hgf2; exact absurd (congrArg Prod.snd hgf2).symm Bool.false_ne_true)
                      have hgx : gR M964 = gR Mq120 := by rw [gOn_n hgno] at hgf2; exact (congrArg Prod.fst hgf2).symm
                      exact ⟨_, rfl, hB975, kp978, kp976, kp977, by omega, by omega, by omega, Or.inr ⟨rfl, by rw [hgx]; exact gTu_f (S := S) (g := gR M) hdu (g120i0.trans (by rw [show (41 - mI Mq120 54 27).toNat = (40 - mI Mq120 54 27).toNat + 1 by omega]; exact gTk_f (by omega) hgno))⟩, hlt⟩
              refine vc_less [some (aR 54), none, some (aI s), some (aI x1), some (aI x811), some (aI 1), none, some (aI x952), some (aI 0), some (aI 0)] (lessL_keep (lessL_drop (lessL_keep (lessL_keep (lessL_keep (lessL_keep (lessL_drop (lessL_keep (lessL_keep (lessL_keep (lessL_nil))))))))))) ?_
              exact lp120 _ M 0 0 hB0 rfl rfl rfl (by omega) (by omega) (by omega) (by first | (rw [Int.sub_zero]; done) | (show gTk _ _ _ _ _ = gTk _ _ _ (1 - 0) _; rfl) | (rw [g120i0, show (41 - mI Mq120 54 27).toNat = (41 - mI M964 54 27).toNat + 1 by omega]; first | (rw [gTk_y (by omega) hgno (by rw [← hgx]; exact hP), ← hgx]; first | done | (congr 1; omega) | rfl) | (rw [gTk_n (by omega) hgno (by rw [← hgx]; exact hP), ← hgx]; first | done | (congr 1; omega) | rfl))) (by omega) (by omega) (by omega) (by omega) (by omega) (Nat.lt_succ_self _)
        · refine vc_iconst dX12_goTurn_57 rfl ?_
          refine vc_goto dX12_goTurn_58 ?_
          refine vc_iload_n dX12_goTurn_62 rfl ?_
          refine vc_iconst dX12_goTurn_63 rfl ?_
          refine vc_iandM dX12_goTurn_64 2 1 rfl (by decide) rfl ?_
          refine vc_if_ne dX12_goTurn_65 (fun h986 => ?_) (fun h986 => ?_)
          · refine vc_iconst dX12_goTurn_72 rfl ?_
            refine vc_icmp_ne dX12_goTurn_73 (fun h987 => ?_) (fun h987 => by exfalso; omega)
            refine vc_iconst dX12_goTurn_80 rfl ?_
            refine vc_istore dX12_goTurn_81 (by decide) rfl (show _ = [some (aR 54), some (aI t), some (aI s), some (aI x1), some (aI x811), some (aI 1), some (aI 0), none, none, none] from rfl) ?_
            refine vc_iload_n dX12_goTurn_83 rfl ?_
            refine vc_iconst dX12_goTurn_84 rfl ?_
            refine vc_icmp_ne dX12_goTurn_85 (fun h988 => ?_) (fun h988 => by exfalso; omega)
            refine vc_aload_n dX12_goTurn_95 rfl ?_
            refine vc_getI dX12_goTurn_96 flX12_324 (s_54 hB0.1.1) rfl ?_
            have k989 : 0 ≤ mI M 54 25 ∧ mI M 54 25 ≤ 3 := b54_25 (M := M) hB0.1
            refine vc_iload dX12_goTurn_99 rfl ?_
            refine vc_if_eq dX12_goTurn_101 (fun h990 => ?_) (fun h990 => by exfalso; omega)
            refine vc_iconst dX12_goTurn_108 rfl ?_
            refine vc_iaddE dX12_goTurn_109 (by omega) (by omega) ?_
            refine vc_iconst dX12_goTurn_110 rfl ?_
            refine vc_iremE dX12_goTurn_111 (by omega) (by omega) ?_
            refine vc_nameI (fun x991 ex991 => ?_)
            refine vc_istore dX12_goTurn_112 (by decide) rfl (show _ = [some (aR 54), some (aI t), some (aI s), some (aI x1), some (aI x811), some (aI 1), some (aI 0), some (aI x991), none, none] from rfl) ?_
            have hsd : x991 = (sdS (mI M 54 25) (mnS t s / 100)) := by unfold sdS; rw [hmd.1]; by_cases e1 : s % 2 ≠ 0 ∧ t / 100 ≠ 3; (rw [if_pos e1]; first | (exfalso; omega) | (rw [if_pos (by omega)]; first | done | omega) | (rw [if_neg (by omega), if_pos (by omega)]; first | done | omega) | (rw [if_neg (by omega), if_neg (by omega)]; first | done | omega)); (rw [if_neg e1]; first | (exfalso; omega) | (rw [if_pos (by omega)]; first | done | omega) | (rw [if_neg (by omega), if_pos (by omega)]; first | done | omega) | (rw [if_neg (by omega), if_neg (by omega)]; first | done | omega))
            have hdu : (1 : Int) = if (mnS t s) / 10 % 10 = 1 then 1 else (mnS t s) % 10 := by rw [hmd.2.1]; first | (rw [if_pos (by omega)]) | (rw [if_neg (by omega)])
            have hn4 : x811 = (mnS t s) % 10 := by rw [hmd.2.2]; first | (rw [if_pos (by omega)]; omega) | (rw [if_neg (by omega)]; omega)
            have hwh : x1 = 3 ↔ (mnS t s) / 100 = 3 := by rw [mn_3 p4]; omega
            refine vc_iconst dX12_goTurn_114 rfl ?_
            refine vc_istore dX12_goTurn_115 (by decide) rfl (show _ = [some (aR 54), some (aI t), some (aI s), some (aI x1), some (aI x811), some (aI 1), some (aI 0), some (aI x991), some (aI 0), none] from rfl) ?_
            refine vc_iconst dX12_goTurn_117 rfl ?_
            refine vc_istore dX12_goTurn_118 (by decide) rfl (show _ = [some (aR 54), some (aI t), some (aI s), some (aI x1), some (aI x811), some (aI 1), some (aI 0), some (aI x991), some (aI 0), some (aI 0)] from rfl) ?_
            have lp120 : ∀ (n120 : Nat) (Mq120 : Mem) (v8 : Int) (v9 : Int), (BF fS M Mq120) → (mI Mq120 57 = mI M 57) → (mI Mq120 63 = mI M 63) → (mI Mq120 55 = mI M 55) → (0 ≤ v8) → (0 ≤ v9) → (v9 ≤ 1) → (gTk S (gCt S (mnS t s) (sdS (mI M 54 25) (mnS t s / 100)) (laS s)) (41 - mI M 54 27).toNat (1) (gR M) = gTk S (gCt S (mnS t s) (sdS (mI M 54 25) (mnS t s / 100)) (laS s)) (41 - mI Mq120 54 27).toNat (1 - v9) (gR Mq120)) → (mI Mq120 54 25 = mI M 54 25) → (mI Mq120 54 32 = mI M 54 32) → (0 ≤ mI Mq120 54 27) → (mI Mq120 54 27 ≤ 40) → (mI Mq120 54 24 < S 1 6) → (40 - mI Mq120 54 27).toNat < n120 → VC l mdX12_goTurn 120 [some (aR 54), none, some (aI s), some (aI x1), some (aI x811), some (aI 1), none, some (aI x991), some (aI v8), some (aI v9)] [] Mq120 0 0 (fun q N => ∃ r : Int, q = some (aI r) ∧ BF fS M N ∧ mI N 55 = mI M 55 ∧ mI N 57 = mI M 57 ∧ mI N 63 = mI M 63 ∧ 0 ≤ r ∧ r ≤ 1 ∧ mI N 54 32 = mI M 54 32 ∧ ((r = 1 ∧ gTu S (mnS t s) (laS s) (gR M) = (gR N, true)) ∨ (r = 0 ∧ gTu S (mnS t s) (laS s) (gR M) = (gR N, false))) ∧ mI N 54 24 < S 1 6) := by
              intro n120
              induction n120 with
              | zero => intro Mq120 v8 v9 hQ120 kp120_57 kp120_63 kp120_55 g120_8a g120_9a g120_9b g120i0 g120i1 g120i2 g120i3 g120i4 g120i5 hm120; exact absurd hm120 (Nat.not_lt_zero _)
              | succ n120 ih120 =>
                intro Mq120 v8 v9 hQ120 kp120_57 kp120_63 kp120_55 g120_8a g120_9a g120_9b g120i0 g120i1 g120i2 g120i3 g120i4 g120i5 hm120
                refine vc_iload dX12_goTurn_120 rfl ?_
                refine vc_if_ne dX12_goTurn_122 (fun h992 => ?_) (fun h992 => ?_)
                · have hTq : TA (mI Mq120 55) S := by rw [kp120_55]; exact p5
                  refine vc_iload_n dX12_goTurn_200 rfl ?_
                  refine vc_iconst dX12_goTurn_201 rfl ?_
                  refine vc_icmp_eq dX12_goTurn_202 (fun h993 => by exfalso; omega) (fun h993 => ?_)
                  refine vc_aload_n dX12_goTurn_205 rfl ?_
                  refine vc_iload dX12_goTurn_206 rfl ?_
                  refine vc_iload_n dX12_goTurn_208 rfl ?_
                  refine vc_cVI dX12_goTurn_209 (sfX12_isCountedF (M := Mq120) hQ120.1 S x991 s (by omega) (by omega) (by omega) (by omega) (by exact hTq) (by exact g120i5)) rfl okX12_isCounted viX12_isCounted lkX12_352 (s_54 hQ120.1.1) cl_12 rfl (Nat.le_of_ble_eq_true rfl) ⟨rfl, rfl⟩ (Nat.le_of_ble_eq_true rfl) (Nat.le_of_ble_eq_true rfl) (Nat.le_of_ble_eq_true rfl) ?_
                  rintro x994 _ ⟨rfl, h995, h996, h997⟩
                  have hct : (x994 = 1 ∧ cntS S (mI Mq120 54 24) (sdS (mI M 54 25) (mnS t s / 100)) (laS s)) ∨ (x994 = 0 ∧ ¬ cntS S (mI Mq120 54 24) (sdS (mI M 54 25) (mnS t s / 100)) (laS s)) := by rw [← hsd]; exact h997
                  refine vc_if_ne dX12_goTurn_212 (fun h998 => ?_) (fun h998 => ?_)
                  · refine vc_aload_n dX12_goTurn_217 rfl ?_
                    refine vc_iload dX12_goTurn_218 rfl ?_
                    refine vc_putI dX12_goTurn_220 (plX12_324 _ rfl) (s_54 hQ120.1.1) rfl ?_
                    have kp999 : mI (sI Mq120 54 25 x991) 57 = mI M 57 := (kp_sI kp120_57 rfl)
                    have kp1000 : mI (sI Mq120 54 25 x991) 63 = mI M 63 := (kp_sI kp120_63 rfl)
                    have kp1001 : mI (sI Mq120 54 25 x991) 55 = mI M 55 := (kp_sI kp120_55 rfl)
                    have hB1002 : BF fS M (sI Mq120 54 25 x991) := BF.w54_25 hQ120 rfl (by omega) (by omega)
                    refine vc_iconst dX12_goTurn_223 rfl ?_
                    refine vc_zret dX12_goTurn_224 rfl (by first | decide | omega) (Nat.le_of_ble_eq_true rfl) (Nat.le_of_ble_eq_true rfl) ?_
                    have k1003 : mI (sI Mq120 54 25 x991) 54 24 = mI Mq120 54 24 := rfl
                    have k1004 : mI (sI Mq120 54 25 x991) 54 25 = x991 := rfl
                    have k1005 : mI (sI Mq120 54 25 x991) 54 27 = mI Mq120 54 27 := rfl
                    have k1006 : mI (sI Mq120 54 25 x991) 54 32 = mI Mq120 54 32 := rfl
                    exact ⟨_, rfl, hB1002, kp1001, kp999, kp1000, by omega, by omega, by omega, Or.inl ⟨rfl, (gTu_y (S := S) (g := gR M) (q := gR Mq120) hdu (g120i0.trans (by rw [show (41 - mI Mq120 54 27).toNat = (40 - mI Mq120 54 27).toNat + 1 by omega]; exact gTk_0 (by omega))) (by first | exact Or.inl (hwh.mp (by omega)) | exact Or.inr (by rcases hct with h2 | h2; (exact h2.2); (exfalso; omega)))).trans (by rw [show (gR M).2.1 = mI M 54 25 from rfl, ← hsd]; rfl)⟩, g120i5⟩
                  · refine vc_iconst dX12_goTurn_215 rfl ?_
                    refine vc_zret dX12_goTurn_216 rfl (by first | decide | omega) (Nat.le_of_ble_eq_true rfl) (Nat.le_of_ble_eq_true rfl) ?_
                    exact ⟨_, rfl, hQ120, kp120_55, kp120_57, kp120_63, by omega, by omega, by omega, Or.inr ⟨rfl, gTu_n (S := S) (g := gR M) (q := gR Mq120) hdu (g120i0.trans (by rw [show (41 - mI Mq120 54 27).toNat = (40 - mI Mq120 54 27).toNat + 1 by omega]; exact gTk_0 (by omega))) (by rintro (h | h); (have h9 := hwh.mpr h; omega); (rcases hct with h2 | h2; (exfalso; omega); (exact h2.2 h)))⟩, g120i5⟩
                · have hTq : TA (mI Mq120 55) S := by rw [kp120_55]; exact p5
                  refine vc_aload_n dX12_goTurn_125 rfl ?_
                  refine vc_cVI dX12_goTurn_126 (sfX12_goOnF (M := Mq120) hQ120.1 S  (by exact hTq) (by exact g120i5) (by rw [kp120_57]; exact p7) (by exact p8)) rfl okX12_goOn viX12_goOn lkX12_348 (s_54 hQ120.1.1) cl_12 rfl (Nat.le_of_ble_eq_true rfl) ⟨rfl, rfl⟩ (Nat.le_of_ble_eq_true rfl) (Nat.le_of_ble_eq_true rfl) (Nat.le_of_ble_eq_true rfl) ?_
                  rintro x1007 M1008 ⟨hB1009, kp1010, kp1011, kp1012, h1013, h1014, h1015, h1016, h1017, h1018⟩
                  have hB1019 : BF fS M M1008 := BF.go hQ120 hB1009
                  have kp1020 : mI M1008 57 = mI M 57 := kp_go kp120_57 kp1011
                  have kp1021 : mI M1008 63 = mI M 63 := kp_go kp120_63 kp1012
                  have kp1022 : mI M1008 55 = mI M 55 := kp_go kp120_55 kp1010
                  have hgn := h1017
                  have hlt := h1018
                  have hTN : TA (mI M1008 55) S := by rw [kp1022]; exact p5
                  have kz := b54_27 (M := M1008) hB1019.1
                  have kz4 := b54_24 (M := M1008) hB1019.1
                  refine vc_if_ne dX12_goTurn_129 (fun h1023 => ?_) (fun h1023 => ?_)
                  · have hgy : gOn S (gR Mq120) = (gR M1008, true) := by rcases hgn with h | h; (exact h.2); (exfalso; omega)
                    have hgno : ¬ gNo S (gR Mq120) := fun e => by rw [gOn_n e] at hgy; exact Bool.false_ne_true (congrArg Prod.snd hgy)
                    have hgx : gR M1008 = gNx S (gR Mq120) := by rw [gOn_y hgno] at hgy; exact (congrArg Prod.fst hgy).symm
                    have hgc : mI M1008 54 27 = mI Mq120 54 27 + 1 := congrArg (fun g : Gw => g.2.2.1) hgx
                    have hgf : mI M1008 54 25 = mI Mq120 54 25 := congrArg (fun g : Gw => g.2.1) hgx
                    refine vc_iload dX12_goTurn_134 rfl ?_
                    refine vc_if_ne dX12_goTurn_136 (fun h1024 => ?_) (fun h1024 => by exfalso; omega)
                    refine vc_iload dX12_goTurn_157 rfl ?_
                    refine vc_if_eq dX12_goTurn_159 (fun h1025 => by exfalso; omega) (fun h1025 => ?_)
                    refine vc_aload_n dX12_goTurn_162 rfl ?_
                    refine vc_aload_n dX12_goTurn_163 rfl ?_
                    refine vc_getI dX12_goTurn_164 flX12_321 (s_54 hB1019.1.1) rfl ?_
                    have k1026 : 0 ≤ mI M1008 54 24 ∧ mI M1008 54 24 ≤ 15 := b54_24 (M := M1008) hB1019.1
                    refine vc_cVI dX12_goTurn_167 (sfX12_sightOfF (M := M1008) hB1019.1  (mI M1008 54 24) (by omega) (by omega)) rfl okX12_sightOf viX12_sightOf lkX12_318 (s_54 hB1019.1.1) cl_12 rfl (Nat.le_of_ble_eq_true rfl) ⟨rfl, rfl⟩ (Nat.le_of_ble_eq_true rfl) (Nat.le_of_ble_eq_true rfl) (Nat.le_of_ble_eq_true rfl) ?_
                    rintro x1027 _ ⟨rfl, h1028⟩
                    have hsi : x1027 = siS S (mI M1008 54 24) := h1028.trans (hTN.si (by omega) hlt)
                    refine vc_iload dX12_goTurn_170 rfl ?_
                    refine vc_icmp_ne dX12_goTurn_172 (fun h1029 => ?_) (fun h1029 => ?_)
                    · have hP : ¬ gCt S (mnS t s) (sdS (mI M 54 25) (mnS t s / 100)) (laS s) (mI M1008 54 24) := by unfold gCt; rw [hmd.2.1]; rintro (⟨h1, h2⟩ | ⟨h1, h2 | h2⟩) <;> first | omega | (have h3 := hwh.mpr h2; omega) | (rcases hct with h | h; (exfalso; omega); (exact h.2 h2))
                      refine vc_iconst dX12_goTurn_179 rfl ?_
                      refine vc_goto dX12_goTurn_180 ?_
                      refine vc_istore dX12_goTurn_195 (by decide) rfl (show _ = [some (aR 54), none, some (aI s), some (aI x1), some (aI x811), some (aI 1), none, some (aI x991), some (aI v8), some (aI 0)] from rfl) ?_
                      refine vc_goto dX12_goTurn_197 ?_
                      exact ih120 M1008 v8 0 hB1019 kp1020 kp1021 kp1022 (by omega) (by omega) (by omega) (by first | (rw [Int.sub_zero]; done) | (show gTk _ _ _ _ _ = gTk _ _ _ (1 - 0) _; rfl) | (rw [g120i0, show (41 - mI Mq120 54 27).toNat = (41 - mI M1008 54 27).toNat + 1 by omega]; first | (rw [gTk_y (by omega) hgno (by rw [← hgx]; exact hP), ← hgx]; first | done | (congr 1; omega) | rfl) | (rw [gTk_n (by omega) hgno (by rw [← hgx]; exact hP), ← hgx]; first | done | (congr 1; omega) | rfl))) (by omega) (by omega) (by omega) (by omega) (by omega) (by omega)
                    · have hP : gCt S (mnS t s) (sdS (mI M 54 25) (mnS t s / 100)) (laS s) (mI M1008 54 24) := by unfold gCt; rw [hmd.2.1]; first | exact Or.inl ⟨by omega, by omega⟩ | exact Or.inr ⟨by omega, Or.inl (hwh.mp (by omega))⟩ | exact Or.inr ⟨by omega, Or.inr (by rcases hct with h | h; (exact h.2); (exfalso; omega))⟩
                      refine vc_iconst dX12_goTurn_175 rfl ?_
                      refine vc_goto dX12_goTurn_176 ?_
                      refine vc_istore dX12_goTurn_195 (by decide) rfl (show _ = [some (aR 54), none, some (aI s), some (aI x1), some (aI x811), some (aI 1), none, some (aI x991), some (aI v8), some (aI 1)] from rfl) ?_
                      refine vc_goto dX12_goTurn_197 ?_
                      exact ih120 M1008 v8 1 hB1019 kp1020 kp1021 kp1022 (by omega) (by omega) (by omega) (by first | (rw [Int.sub_zero]; done) | (show gTk _ _ _ _ _ = gTk _ _ _ (1 - 0) _; rfl) | (rw [g120i0, show (41 - mI Mq120 54 27).toNat = (41 - mI M1008 54 27).toNat + 1 by omega]; first | (rw [gTk_y (by omega) hgno (by rw [← hgx]; exact hP), ← hgx]; first | done | (congr 1; omega) | rfl) | (rw [gTk_n (by omega) hgno (by rw [← hgx]; exact hP), ← hgx]; first | done | (congr 1; omega) | rfl))) (by omega) (by omega) (by omega) (by omega) (by omega) (by omega)
                  · refine vc_iconst dX12_goTurn_132 rfl ?_
                    refine vc_zret dX12_goTurn_133 rfl (by first | decide | omega) (Nat.le_of_ble_eq_true rfl) (Nat.le_of_ble_eq_true rfl) ?_
                    have hgf2 : gOn S (gR Mq120) = (gR M1008, false) := by rcases hgn with h | h; (exfalso; omega); (exact h.2)
                    have hgno : gNo S (gR Mq120) := by by_cases e : gNo S (gR Mq120); (exact e); (rw [gOn_y e] at hgf2; exact absurd (congrArg Prod.snd hgf2).symm Bool.false_ne_true)
                    have hgx : gR M1008 = gR Mq120 := by rw [gOn_n hgno] at hgf2; exact (congrArg Prod.fst hgf2).symm
                    exact ⟨_, rfl, hB1019, kp1022, kp1020, kp1021, by omega, by omega, by omega, Or.inr ⟨rfl, by rw [hgx]; exact gTu_f (S := S) (g := gR M) hdu (g120i0.trans (by rw [show (41 - mI Mq120 54 27).toNat = (40 - mI Mq120 54 27).toNat + 1 by omega]; exact gTk_f (by omega) hgno))⟩, hlt⟩
            refine vc_less [some (aR 54), none, some (aI s), some (aI x1), some (aI x811), some (aI 1), none, some (aI x991), some (aI 0), some (aI 0)] (lessL_keep (lessL_drop (lessL_keep (lessL_keep (lessL_keep (lessL_keep (lessL_drop (lessL_keep (lessL_keep (lessL_keep (lessL_nil))))))))))) ?_
            exact lp120 _ M 0 0 hB0 rfl rfl rfl (by omega) (by omega) (by omega) (by first | (rw [Int.sub_zero]; done) | (show gTk _ _ _ _ _ = gTk _ _ _ (1 - 0) _; rfl) | (rw [g120i0, show (41 - mI Mq120 54 27).toNat = (41 - mI M1008 54 27).toNat + 1 by omega]; first | (rw [gTk_y (by omega) hgno (by rw [← hgx]; exact hP), ← hgx]; first | done | (congr 1; omega) | rfl) | (rw [gTk_n (by omega) hgno (by rw [← hgx]; exact hP), ← hgx]; first | done | (congr 1; omega) | rfl))) (by omega) (by omega) (by omega) (by omega) (by omega) (Nat.lt_succ_self _)
          · refine vc_iconst dX12_goTurn_68 rfl ?_
            refine vc_goto dX12_goTurn_69 ?_
            refine vc_icmp_ne dX12_goTurn_73 (fun h1030 => by exfalso; omega) (fun h1030 => ?_)
            refine vc_iconst dX12_goTurn_76 rfl ?_
            refine vc_goto dX12_goTurn_77 ?_
            refine vc_istore dX12_goTurn_81 (by decide) rfl (show _ = [some (aR 54), some (aI t), some (aI s), some (aI x1), some (aI x811), some (aI 1), some (aI 1), none, none, none] from rfl) ?_
            refine vc_iload_n dX12_goTurn_83 rfl ?_
            refine vc_iconst dX12_goTurn_84 rfl ?_
            refine vc_icmp_ne dX12_goTurn_85 (fun h1031 => ?_) (fun h1031 => by exfalso; omega)
            refine vc_aload_n dX12_goTurn_95 rfl ?_
            refine vc_getI dX12_goTurn_96 flX12_324 (s_54 hB0.1.1) rfl ?_
            have k1032 : 0 ≤ mI M 54 25 ∧ mI M 54 25 ≤ 3 := b54_25 (M := M) hB0.1
            refine vc_iload dX12_goTurn_99 rfl ?_
            refine vc_if_eq dX12_goTurn_101 (fun h1033 => by exfalso; omega) (fun h1033 => ?_)
            refine vc_iconst dX12_goTurn_104 rfl ?_
            refine vc_goto dX12_goTurn_105 ?_
            refine vc_iaddE dX12_goTurn_109 (by omega) (by omega) ?_
            refine vc_iconst dX12_goTurn_110 rfl ?_
            refine vc_iremE dX12_goTurn_111 (by omega) (by omega) ?_
            refine vc_nameI (fun x1034 ex1034 => ?_)
            refine vc_istore dX12_goTurn_112 (by decide) rfl (show _ = [some (aR 54), some (aI t), some (aI s), some (aI x1), some (aI x811), some (aI 1), some (aI 1), some (aI x1034), none, none] from rfl) ?_
            have hsd : x1034 = (sdS (mI M 54 25) (mnS t s / 100)) := by unfold sdS; rw [hmd.1]; by_cases e1 : s % 2 ≠ 0 ∧ t / 100 ≠ 3; (rw [if_pos e1]; first | (exfalso; omega) | (rw [if_pos (by omega)]; first | done | omega) | (rw [if_neg (by omega), if_pos (by omega)]; first | done | omega) | (rw [if_neg (by omega), if_neg (by omega)]; first | done | omega)); (rw [if_neg e1]; first | (exfalso; omega) | (rw [if_pos (by omega)]; first | done | omega) | (rw [if_neg (by omega), if_pos (by omega)]; first | done | omega) | (rw [if_neg (by omega), if_neg (by omega)]; first | done | omega))
            have hdu : (1 : Int) = if (mnS t s) / 10 % 10 = 1 then 1 else (mnS t s) % 10 := by rw [hmd.2.1]; first | (rw [if_pos (by omega)]) | (rw [if_neg (by omega)])
            have hn4 : x811 = (mnS t s) % 10 := by rw [hmd.2.2]; first | (rw [if_pos (by omega)]; omega) | (rw [if_neg (by omega)]; omega)
            have hwh : x1 = 3 ↔ (mnS t s) / 100 = 3 := by rw [mn_3 p4]; omega
            refine vc_iconst dX12_goTurn_114 rfl ?_
            refine vc_istore dX12_goTurn_115 (by decide) rfl (show _ = [some (aR 54), some (aI t), some (aI s), some (aI x1), some (aI x811), some (aI 1), some (aI 1), some (aI x1034), some (aI 0), none] from rfl) ?_
            refine vc_iconst dX12_goTurn_117 rfl ?_
            refine vc_istore dX12_goTurn_118 (by decide) rfl (show _ = [some (aR 54), some (aI t), some (aI s), some (aI x1), some (aI x811), some (aI 1), some (aI 1), some (aI x1034), some (aI 0), some (aI 0)] from rfl) ?_
            have lp120 : ∀ (n120 : Nat) (Mq120 : Mem) (v8 : Int) (v9 : Int), (BF fS M Mq120) → (mI Mq120 57 = mI M 57) → (mI Mq120 63 = mI M 63) → (mI Mq120 55 = mI M 55) → (0 ≤ v8) → (0 ≤ v9) → (v9 ≤ 1) → (gTk S (gCt S (mnS t s) (sdS (mI M 54 25) (mnS t s / 100)) (laS s)) (41 - mI M 54 27).toNat (1) (gR M) = gTk S (gCt S (mnS t s) (sdS (mI M 54 25) (mnS t s / 100)) (laS s)) (41 - mI Mq120 54 27).toNat (1 - v9) (gR Mq120)) → (mI Mq120 54 25 = mI M 54 25) → (mI Mq120 54 32 = mI M 54 32) → (0 ≤ mI Mq120 54 27) → (mI Mq120 54 27 ≤ 40) → (mI Mq120 54 24 < S 1 6) → (40 - mI Mq120 54 27).toNat < n120 → VC l mdX12_goTurn 120 [some (aR 54), none, some (aI s), some (aI x1), some (aI x811), some (aI 1), none, some (aI x1034), some (aI v8), some (aI v9)] [] Mq120 0 0 (fun q N => ∃ r : Int, q = some (aI r) ∧ BF fS M N ∧ mI N 55 = mI M 55 ∧ mI N 57 = mI M 57 ∧ mI N 63 = mI M 63 ∧ 0 ≤ r ∧ r ≤ 1 ∧ mI N 54 32 = mI M 54 32 ∧ ((r = 1 ∧ gTu S (mnS t s) (laS s) (gR M) = (gR N, true)) ∨ (r = 0 ∧ gTu S (mnS t s) (laS s) (gR M) = (gR N, false))) ∧ mI N 54 24 < S 1 6) := by
              intro n120
              induction n120 with
              | zero => intro Mq120 v8 v9 hQ120 kp120_57 kp120_63 kp120_55 g120_8a g120_9a g120_9b g120i0 g120i1 g120i2 g120i3 g120i4 g120i5 hm120; exact absurd hm120 (Nat.not_lt_zero _)
              | succ n120 ih120 =>
                intro Mq120 v8 v9 hQ120 kp120_57 kp120_63 kp120_55 g120_8a g120_9a g120_9b g120i0 g120i1 g120i2 g120i3 g120i4 g120i5 hm120
                refine vc_iload dX12_goTurn_120 rfl ?_
                refine vc_if_ne dX12_goTurn_122 (fun h1035 => ?_) (fun h1035 => ?_)
                · have hTq : TA (mI Mq120 55) S := by rw [kp120_55]; exact p5
                  refine vc_iload_n dX12_goTurn_200 rfl ?_
                  refine vc_iconst dX12_goTurn_201 rfl ?_
                  refine vc_icmp_eq dX12_goTurn_202 (fun h1036 => by exfalso; omega) (fun h1036 => ?_)
                  refine vc_aload_n dX12_goTurn_205 rfl ?_
                  refine vc_iload dX12_goTurn_206 rfl ?_
                  refine vc_iload_n dX12_goTurn_208 rfl ?_
                  refine vc_cVI dX12_goTurn_209 (sfX12_isCountedF (M := Mq120) hQ120.1 S x1034 s (by omega) (by omega) (by omega) (by omega) (by exact hTq) (by exact g120i5)) rfl okX12_isCounted viX12_isCounted lkX12_352 (s_54 hQ120.1.1) cl_12 rfl (Nat.le_of_ble_eq_true rfl) ⟨rfl, rfl⟩ (Nat.le_of_ble_eq_true rfl) (Nat.le_of_ble_eq_true rfl) (Nat.le_of_ble_eq_true rfl) ?_
                  rintro x1037 _ ⟨rfl, h1038, h1039, h1040⟩
                  have hct : (x1037 = 1 ∧ cntS S (mI Mq120 54 24) (sdS (mI M 54 25) (mnS t s / 100)) (laS s)) ∨ (x1037 = 0 ∧ ¬ cntS S (mI Mq120 54 24) (sdS (mI M 54 25) (mnS t s / 100)) (laS s)) := by rw [← hsd]; exact h1040
                  refine vc_if_ne dX12_goTurn_212 (fun h1041 => ?_) (fun h1041 => ?_)
                  · refine vc_aload_n dX12_goTurn_217 rfl ?_
                    refine vc_iload dX12_goTurn_218 rfl ?_
                    refine vc_putI dX12_goTurn_220 (plX12_324 _ rfl) (s_54 hQ120.1.1) rfl ?_
                    have kp1042 : mI (sI Mq120 54 25 x1034) 57 = mI M 57 := (kp_sI kp120_57 rfl)
                    have kp1043 : mI (sI Mq120 54 25 x1034) 63 = mI M 63 := (kp_sI kp120_63 rfl)
                    have kp1044 : mI (sI Mq120 54 25 x1034) 55 = mI M 55 := (kp_sI kp120_55 rfl)
                    have hB1045 : BF fS M (sI Mq120 54 25 x1034) := BF.w54_25 hQ120 rfl (by omega) (by omega)
                    refine vc_iconst dX12_goTurn_223 rfl ?_
                    refine vc_zret dX12_goTurn_224 rfl (by first | decide | omega) (Nat.le_of_ble_eq_true rfl) (Nat.le_of_ble_eq_true rfl) ?_
                    have k1046 : mI (sI Mq120 54 25 x1034) 54 24 = mI Mq120 54 24 := rfl
                    have k1047 : mI (sI Mq120 54 25 x1034) 54 25 = x1034 := rfl
                    have k1048 : mI (sI Mq120 54 25 x1034) 54 27 = mI Mq120 54 27 := rfl
                    have k1049 : mI (sI Mq120 54 25 x1034) 54 32 = mI Mq120 54 32 := rfl
                    exact ⟨_, rfl, hB1045, kp1044, kp1042, kp1043, by omega, by omega, by omega, Or.inl ⟨rfl, (gTu_y (S := S) (g := gR M) (q := gR Mq120) hdu (g120i0.trans (by rw [show (41 - mI Mq120 54 27).toNat = (40 - mI Mq120 54 27).toNat + 1 by omega]; exact gTk_0 (by omega))) (by first | exact Or.inl (hwh.mp (by omega)) | exact Or.inr (by rcases hct with h2 | h2; (exact h2.2); (exfalso; omega)))).trans (by rw [show (gR M).2.1 = mI M 54 25 from rfl, ← hsd]; rfl)⟩, g120i5⟩
                  · refine vc_iconst dX12_goTurn_215 rfl ?_
                    refine vc_zret dX12_goTurn_216 rfl (by first | decide | omega) (Nat.le_of_ble_eq_true rfl) (Nat.le_of_ble_eq_true rfl) ?_
                    exact ⟨_, rfl, hQ120, kp120_55, kp120_57, kp120_63, by omega, by omega, by omega, Or.inr ⟨rfl, gTu_n (S := S) (g := gR M) (q := gR Mq120) hdu (g120i0.trans (by rw [show (41 - mI Mq120 54 27).toNat = (40 - mI Mq120 54 27).toNat + 1 by omega]; exact gTk_0 (by omega))) (by rintro (h | h); (have h9 := hwh.mpr h; omega); (rcases hct with h2 | h2; (exfalso; omega); (exact h2.2 h)))⟩, g120i5⟩
                · have hTq : TA (mI Mq120 55) S := by rw [kp120_55]; exact p5
                  refine vc_aload_n dX12_goTurn_125 rfl ?_
                  refine vc_cVI dX12_goTurn_126 (sfX12_goOnF (M := Mq120) hQ120.1 S  (by exact hTq) (by exact g120i5) (by rw [kp120_57]; exact p7) (by exact p8)) rfl okX12_goOn viX12_goOn lkX12_348 (s_54 hQ120.1.1) cl_12 rfl (Nat.le_of_ble_eq_true rfl) ⟨rfl, rfl⟩ (Nat.le_of_ble_eq_true rfl) (Nat.le_of_ble_eq_true rfl) (Nat.le_of_ble_eq_true rfl) ?_
                  rintro x1050 M1051 ⟨hB1052, kp1053, kp1054, kp1055, h1056, h1057, h1058, h1059, h1060, h1061⟩
                  have hB1062 : BF fS M M1051 := BF.go hQ120 hB1052
                  have kp1063 : mI M1051 57 = mI M 57 := kp_go kp120_57 kp1054
                  have kp1064 : mI M1051 63 = mI M 63 := kp_go kp120_63 kp1055
                  have kp1065 : mI M1051 55 = mI M 55 := kp_go kp120_55 kp1053
                  have hgn := h1060
                  have hlt := h1061
                  have hTN : TA (mI M1051 55) S := by rw [kp1065]; exact p5
                  have kz := b54_27 (M := M1051) hB1062.1
                  have kz4 := b54_24 (M := M1051) hB1062.1
                  refine vc_if_ne dX12_goTurn_129 (fun h1066 => ?_) (fun h1066 => ?_)
                  · have hgy : gOn S (gR Mq120) = (gR M1051, true) := by rcases hgn with h | h; (exact h.2); (exfalso; omega)
                    have hgno : ¬ gNo S (gR Mq120) := fun e => by rw [gOn_n e] at hgy; exact Bool.false_ne_true (congrArg Prod.snd hgy)
                    have hgx : gR M1051 = gNx S (gR Mq120) := by rw [gOn_y hgno] at hgy; exact (congrArg Prod.fst hgy).symm
                    have hgc : mI M1051 54 27 = mI Mq120 54 27 + 1 := congrArg (fun g : Gw => g.2.2.1) hgx
                    have hgf : mI M1051 54 25 = mI Mq120 54 25 := congrArg (fun g : Gw => g.2.1) hgx
                    refine vc_iload dX12_goTurn_134 rfl ?_
                    refine vc_if_ne dX12_goTurn_136 (fun h1067 => ?_) (fun h1067 => by exfalso; omega)
                    refine vc_iload dX12_goTurn_157 rfl ?_
                    refine vc_if_eq dX12_goTurn_159 (fun h1068 => by exfalso; omega) (fun h1068 => ?_)
                    refine vc_aload_n dX12_goTurn_162 rfl ?_
                    refine vc_aload_n dX12_goTurn_163 rfl ?_
                    refine vc_getI dX12_goTurn_164 flX12_321 (s_54 hB1062.1.1) rfl ?_
                    have k1069 : 0 ≤ mI M1051 54 24 ∧ mI M1051 54 24 ≤ 15 := b54_24 (M := M1051) hB1062.1
                    refine vc_cVI dX12_goTurn_167 (sfX12_sightOfF (M := M1051) hB1062.1  (mI M1051 54 24) (by omega) (by omega)) rfl okX12_sightOf viX12_sightOf lkX12_318 (s_54 hB1062.1.1) cl_12 rfl (Nat.le_of_ble_eq_true rfl) ⟨rfl, rfl⟩ (Nat.le_of_ble_eq_true rfl) (Nat.le_of_ble_eq_true rfl) (Nat.le_of_ble_eq_true rfl) ?_
                    rintro x1070 _ ⟨rfl, h1071⟩
                    have hsi : x1070 = siS S (mI M1051 54 24) := h1071.trans (hTN.si (by omega) hlt)
                    refine vc_iload dX12_goTurn_170 rfl ?_
                    refine vc_icmp_ne dX12_goTurn_172 (fun h1072 => ?_) (fun h1072 => ?_)
                    · have hP : ¬ gCt S (mnS t s) (sdS (mI M 54 25) (mnS t s / 100)) (laS s) (mI M1051 54 24) := by unfold gCt; rw [hmd.2.1]; rintro (⟨h1, h2⟩ | ⟨h1, h2 | h2⟩) <;> first | omega | (have h3 := hwh.mpr h2; omega) | (rcases hct with h | h; (exfalso; omega); (exact h.2 h2))
                      refine vc_iconst dX12_goTurn_179 rfl ?_
                      refine vc_goto dX12_goTurn_180 ?_
                      refine vc_istore dX12_goTurn_195 (by decide) rfl (show _ = [some (aR 54), none, some (aI s), some (aI x1), some (aI x811), some (aI 1), none, some (aI x1034), some (aI v8), some (aI 0)] from rfl) ?_
                      refine vc_goto dX12_goTurn_197 ?_
                      exact ih120 M1051 v8 0 hB1062 kp1063 kp1064 kp1065 (by omega) (by omega) (by omega) (by first | (rw [Int.sub_zero]; done) | (show gTk _ _ _ _ _ = gTk _ _ _ (1 - 0) _; rfl) | (rw [g120i0, show (41 - mI Mq120 54 27).toNat = (41 - mI M1051 54 27).toNat + 1 by omega]; first | (rw [gTk_y (by omega) hgno (by rw [← hgx]; exact hP), ← hgx]; first | done | (congr 1; omega) | rfl) | (rw [gTk_n (by omega) hgno (by rw [← hgx]; exact hP), ← hgx]; first | done | (congr 1; omega) | rfl))) (by omega) (by omega) (by omega) (by omega) (by omega) (by omega)
                    · have hP : gCt S (mnS t s) (sdS (mI M 54 25) (mnS t s / 100)) (laS s) (mI M1051 54 24) := by unfold gCt; rw [hmd.2.1]; first | exact Or.inl ⟨by omega, by omega⟩ | exact Or.inr ⟨by omega, Or.inl (hwh.mp (by omega))⟩ | exact Or.inr ⟨by omega, Or.inr (by rcases hct with h | h; (exact h.2); (exfalso; omega))⟩
                      refine vc_iconst dX12_goTurn_175 rfl ?_
                      refine vc_goto dX12_goTurn_176 ?_
                      refine vc_istore dX12_goTurn_195 (by decide) rfl (show _ = [some (aR 54), none, some (aI s), some (aI x1), some (aI x811), some (aI 1), none, some (aI x1034), some (aI v8), some (aI 1)] from rfl) ?_
                      refine vc_goto dX12_goTurn_197 ?_
                      exact ih120 M1051 v8 1 hB1062 kp1063 kp1064 kp1065 (by omega) (by omega) (by omega) (by first | (rw [Int.sub_zero]; done) | (show gTk _ _ _ _ _ = gTk _ _ _ (1 - 0) _; rfl) | (rw [g120i0, show (41 - mI Mq120 54 27).toNat = (41 - mI M1051 54 27).toNat + 1 by omega]; first | (rw [gTk_y (by omega) hgno (by rw [← hgx]; exact hP), ← hgx]; first | done | (congr 1; omega) | rfl) | (rw [gTk_n (by omega) hgno (by rw [← hgx]; exact hP), ← hgx]; first | done | (congr 1; omega) | rfl))) (by omega) (by omega) (by omega) (by omega) (by omega) (by omega)
                  · refine vc_iconst dX12_goTurn_132 rfl ?_
                    refine vc_zret dX12_goTurn_133 rfl (by first | decide | omega) (Nat.le_of_ble_eq_true rfl) (Nat.le_of_ble_eq_true rfl) ?_
                    have hgf2 : gOn S (gR Mq120) = (gR M1051, false) := by rcases hgn with h | h; (exfalso; omega); (exact h.2)
                    have hgno : gNo S (gR Mq120) := by by_cases e : gNo S (gR Mq120); (exact e); (rw [gOn_y e] at hgf2; exact absurd (congrArg Prod.snd hgf2).symm Bool.false_ne_true)
                    have hgx : gR M1051 = gR Mq120 := by rw [gOn_n hgno] at hgf2; exact (congrArg Prod.fst hgf2).symm
                    exact ⟨_, rfl, hB1062, kp1065, kp1063, kp1064, by omega, by omega, by omega, Or.inr ⟨rfl, by rw [hgx]; exact gTu_f (S := S) (g := gR M) hdu (g120i0.trans (by rw [show (41 - mI Mq120 54 27).toNat = (40 - mI Mq120 54 27).toNat + 1 by omega]; exact gTk_f (by omega) hgno))⟩, hlt⟩
            refine vc_less [some (aR 54), none, some (aI s), some (aI x1), some (aI x811), some (aI 1), none, some (aI x1034), some (aI 0), some (aI 0)] (lessL_keep (lessL_drop (lessL_keep (lessL_keep (lessL_keep (lessL_keep (lessL_drop (lessL_keep (lessL_keep (lessL_keep (lessL_nil))))))))))) ?_
            exact lp120 _ M 0 0 hB0 rfl rfl rfl (by omega) (by omega) (by omega) (by first | (rw [Int.sub_zero]; done) | (show gTk _ _ _ _ _ = gTk _ _ _ (1 - 0) _; rfl) | (rw [g120i0, show (41 - mI Mq120 54 27).toNat = (41 - mI M1051 54 27).toNat + 1 by omega]; first | (rw [gTk_y (by omega) hgno (by rw [← hgx]; exact hP), ← hgx]; first | done | (congr 1; omega) | rfl) | (rw [gTk_n (by omega) hgno (by rw [← hgx]; exact hP), ← hgx]; first | done | (congr 1; omega) | rfl))) (by omega) (by omega) (by omega) (by omega) (by omega) (Nat.lt_succ_self _)

