/-! TEXT on the empty tape, of the class (written by wip/whole/p53.py) -/
theorem tRead {M : Mem} (h : St M) : St (gRead M) := by
  unfold gRead gX5_init_75
  exact St.I (St.T (St.T (St.T (St.P (St.P (St.P (St.M h _) _ _ _ _) _ _ _ _) _ _ _ _) 75 _ _ (by decide)) 75 _ _ (by decide)) 75 _ _ (by decide)) _ _ _
theorem kRead {M : Mem} (hl : M.1.length = 75) : (gRead M).1[75]? = some (.inl 5) := sh_cp (sh_cp (sh_cp (sh_nw hl)))
theorem mI_gRead {M : Mem} (hl : M.1.length = 75) {a b : Nat} (ha : a < 75) : mI (gRead M) a b = mI M a b := by
  have hl1 : (mkC M (.inl 5)).1.length = 76 := ln_mk hl
  have hl2 : (cpy2 (mkC M (.inl 5)) 23 300 76 0).1.length = 77 := ln_cp hl1
  have hl3 : (cpy2 (cpy2 (mkC M (.inl 5)) 23 300 76 0) 24 10 77 10).1.length = 78 := ln_cp hl2
  unfold gRead gX5_init_75
  rw [mI_sI, if_neg (by omega)]
  show mI (cpy2 _ 25 120 78 0) a b = _
  rw [cp_mI hl3 (by omega), cp_mI hl2 (by omega), cp_mI hl1 (by omega), mI_mkC, if_neg (by omega)]
def gText (M : Mem) : Mem := sI (sR (gRead (sI (sI (sI (gX4_reads_z M ) 0 13 0) 0 14 (mI (sI (gX4_reads_z M ) 0 13 0) 22 7)) 0 15 (mI (sI (sI (gX4_reads_z M ) 0 13 0) 0 14 (mI (sI (gX4_reads_z M ) 0 13 0) 22 7)) 22 8))) 7 0 (some 75)) 1 10 1
set_option maxRecDepth 8000 in
theorem qX11_text_z {l : Launch} {M : Mem} (hS : St M) (zc : Zc M) (hl : M.1.length = 75) : Fn l mdX11_text [aR 0] M (some (aI 0)) (gText M) := by
  obtain ⟨z1_6, z1_7, z1_8, z1_9, z1_10, z1_11, z16_0, z16_3, z15_2, z0_13, z0_14, z0_15, z8_6⟩ := id zc
  have hl2 : (sI (sI (sI (gX4_reads_z M ) 0 13 0) 0 14 (mI (sI (gX4_reads_z M ) 0 13 0) 22 7)) 0 15 (mI (sI (sI (gX4_reads_z M ) 0 13 0) 0 14 (mI (sI (gX4_reads_z M ) 0 13 0) 22 7)) 22 8)).1.length = 75 := by rw [ls_sI, ls_sI, ls_sI, rdl]; exact hl
  refine Call.of [some (aR 0), none] rfl (Nat.le_of_ble_eq_true rfl) rfl ?_
  refine vc_aload_n dX11_text_0 rfl ?_
  refine vc_getR dX11_text_1 flX11_10 (s_0 hS) rfl (r_0_0 hS) ?_
  refine vc_getI dX11_text_4 flX11_136 (s_1 hS) rfl ?_
  refine vc_topI 0 z1_10 ?_
  refine vc_iconst dX11_text_7 rfl ?_
  refine vc_icmp_lt dX11_text_8 (fun h1 => ?_) (fun h1 => by exfalso; omega)
  refine vc_aload_n dX11_text_13 rfl ?_
  refine vc_getR dX11_text_14 flX11_38 (s_0 hS) rfl (r_0_5 hS) ?_
  refine vc_aload_n dX11_text_17 rfl ?_
  refine vc_getI dX11_text_18 flX11_103 (s_0 hS) rfl ?_
  refine vc_topI 0 z0_13 ?_
  refine vc_callVF dX11_text_21 (qX4_reads_z (M := M) hS ) rfl okX4_reads viX4_reads lkX11_139 (s_22 hS) cl_4 rfl (Nat.le_of_ble_eq_true rfl) ⟨rfl, rfl⟩ (Nat.le_of_ble_eq_true rfl) (Nat.le_of_ble_eq_true rfl) (Nat.le_of_ble_eq_true rfl) ?_
  refine vc_istore_n dX11_text_24 (by decide) rfl (show _ = [some (aR 0), some (aI 1)] from rfl) ?_
  refine vc_aload_n dX11_text_25 rfl ?_
  refine vc_iconst dX11_text_26 rfl ?_
  refine vc_putI dX11_text_27 (plX11_103 _ rfl) (s_0 (tX4_reads_z hS )) rfl ?_
  refine vc_aload_n dX11_text_30 rfl ?_
  refine vc_aload_n dX11_text_31 rfl ?_
  refine vc_getR dX11_text_32 flX11_38 (s_0 (St.I (tX4_reads_z hS ) _ _ _)) rfl (r_0_5 (St.I (tX4_reads_z hS ) _ _ _)) ?_
  refine vc_getI dX11_text_35 flX11_142 (s_22 (St.I (tX4_reads_z hS ) _ _ _)) rfl ?_
  refine vc_putI dX11_text_38 (plX11_107 _ rfl) (s_0 (St.I (tX4_reads_z hS ) _ _ _)) rfl ?_
  refine vc_aload_n dX11_text_41 rfl ?_
  refine vc_aload_n dX11_text_42 rfl ?_
  refine vc_getR dX11_text_43 flX11_38 (s_0 (St.I (St.I (tX4_reads_z hS ) _ _ _) _ _ _)) rfl (r_0_5 (St.I (St.I (tX4_reads_z hS ) _ _ _) _ _ _)) ?_
  refine vc_getI dX11_text_46 flX11_145 (s_22 (St.I (St.I (tX4_reads_z hS ) _ _ _) _ _ _)) rfl ?_
  refine vc_putI dX11_text_49 (plX11_110 _ rfl) (s_0 (St.I (St.I (tX4_reads_z hS ) _ _ _) _ _ _)) rfl ?_
  refine vc_iload_n dX11_text_52 rfl ?_
  refine vc_if_eq dX11_text_53 (fun h2 => by exfalso; omega) (fun h2 => ?_)
  refine vc_aload_n dX11_text_56 rfl ?_
  refine vc_getR dX11_text_57 flX11_10 (s_0 (St.I (St.I (St.I (tX4_reads_z hS ) _ _ _) _ _ _) _ _ _)) rfl (r_0_0 (St.I (St.I (St.I (tX4_reads_z hS ) _ _ _) _ _ _) _ _ _)) ?_
  refine vc_aload_n dX11_text_60 rfl ?_
  refine vc_getR dX11_text_61 flX11_38 (s_0 (St.I (St.I (St.I (tX4_reads_z hS ) _ _ _) _ _ _) _ _ _)) rfl (r_0_5 (St.I (St.I (St.I (tX4_reads_z hS ) _ _ _) _ _ _) _ _ _)) ?_
  refine vc_callVA dX11_text_64 (qX4_asRead_z (M := (sI (sI (sI (gX4_reads_z M ) 0 13 0) 0 14 (mI (sI (gX4_reads_z M ) 0 13 0) 22 7)) 0 15 (mI (sI (sI (gX4_reads_z M ) 0 13 0) 0 14 (mI (sI (gX4_reads_z M ) 0 13 0) 22 7)) 22 8))) (St.I (St.I (St.I (tX4_reads_z hS ) _ _ _) _ _ _) _ _ _) hl2 (by rw [mI_sI, if_neg (by decide), mI_sI, if_neg (by decide), mI_sI, if_neg (by decide)]; exact rd12 M) (by rw [mI_sI, if_neg (by decide), mI_sI, if_neg (by decide), mI_sI, if_neg (by decide)]; exact rd13 M)) rfl okX4_asRead viX4_asRead lkX11_148 (s_22 (St.I (St.I (St.I (tX4_reads_z hS ) _ _ _) _ _ _) _ _ _)) cl_4 rfl (Nat.le_of_ble_eq_true rfl) (Nat.le_of_ble_eq_true rfl) (Nat.le_of_ble_eq_true rfl) (Nat.le_of_ble_eq_true rfl) ?_
  refine vc_callVF dX11_text_67 (qX6_addText_z (M := (gRead (sI (sI (sI (gX4_reads_z M ) 0 13 0) 0 14 (mI (sI (gX4_reads_z M ) 0 13 0) 22 7)) 0 15 (mI (sI (sI (gX4_reads_z M ) 0 13 0) 0 14 (mI (sI (gX4_reads_z M ) 0 13 0) 22 7)) 22 8)))) (tRead (St.I (St.I (St.I (tX4_reads_z hS ) _ _ _) _ _ _) _ _ _)) (by rw [mI_gRead (M := (sI (sI (sI (gX4_reads_z M ) 0 13 0) 0 14 (mI (sI (gX4_reads_z M ) 0 13 0) 22 7)) 0 15 (mI (sI (sI (gX4_reads_z M ) 0 13 0) 0 14 (mI (sI (gX4_reads_z M ) 0 13 0) 22 7)) 22 8))) hl2 (by decide), mI_sI, if_neg (by decide), mI_sI, if_neg (by decide), mI_sI, if_neg (by decide), rd10]; exact z1_10) (kRead hl2)) rfl okX6_addText viX6_addText lkX11_152 (s_1 (tRead (St.I (St.I (St.I (tX4_reads_z hS ) _ _ _) _ _ _) _ _ _))) cl_6 rfl (Nat.le_of_ble_eq_true rfl) ⟨rfl, rfl⟩ (Nat.le_of_ble_eq_true rfl) (Nat.le_of_ble_eq_true rfl) (Nat.le_of_ble_eq_true rfl) ?_
  refine vc_goto dX11_text_70 ?_
  refine vc_iret dX11_text_74 rfl (Nat.le_of_ble_eq_true rfl) (Nat.le_of_ble_eq_true rfl) ?_
  exact ⟨rfl, rfl⟩
theorem tText {M : Mem} (hS : St M) : St (gText M) := (St.I (St.T7 (tRead (St.I (St.I (St.I (tX4_reads_z hS ) _ _ _) _ _ _) _ _ _)) _ _) _ _ _)
