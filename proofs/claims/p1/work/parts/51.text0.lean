/-! TEXT on the empty tape (written by wip/whole/p51.py) -/
set_option maxRecDepth 4000 in
theorem qX12_byteAt_z {l : Launch} {M : Mem} (hS : St M) (zb : mI M 54 6 = 0)  : Fn l mdX12_byteAt [aR 54, aI 0] M (some (aI ((-1)))) M := by
  refine Call.of [some (aR 54), some (aI 0)] rfl (Nat.le_of_ble_eq_true rfl) rfl ?_
  refine vc_iload_n dX12_byteAt_0 rfl ?_
  refine vc_aload_n dX12_byteAt_1 rfl ?_
  refine vc_getI dX12_byteAt_2 flX12_112 (s_54 hS) rfl ?_
  refine vc_topI 0 zb ?_
  refine vc_icmp_ge dX12_byteAt_5 (fun h1 => ?_) (fun h1 => by exfalso; omega)
  refine vc_iconst dX12_byteAt_17 rfl ?_
  refine vc_iret dX12_byteAt_18 rfl (Nat.le_of_ble_eq_true rfl) (Nat.le_of_ble_eq_true rfl) ?_
  exact ⟨rfl, rfl⟩

set_option maxRecDepth 4000 in
theorem qX12_nextToken_z {l : Launch} {M : Mem} (hS : St M) (za : mI M 54 6 = 0 ∧ mI M 54 9 = 0)  : Fn l mdX12_nextToken [aR 54] M none (sI (sI M 54 10 0) 54 11 0) := by
  obtain ⟨t6, t9⟩ := id za
  refine Call.of [some (aR 54), none] rfl (Nat.le_of_ble_eq_true rfl) rfl ?_
  refine vc_aload_n dX12_nextToken_0 rfl ?_
  refine vc_aload_n dX12_nextToken_1 rfl ?_
  refine vc_getI dX12_nextToken_2 flX12_119 (s_54 hS) rfl ?_
  refine vc_topI 0 t9 ?_
  refine vc_callVF dX12_nextToken_5 (qX12_byteAt_z (M := M) hS t6 ) rfl okX12_byteAt viX12_byteAt lkX12_122 (s_54 hS) cl_12 rfl (Nat.le_of_ble_eq_true rfl) ⟨rfl, rfl⟩ (Nat.le_of_ble_eq_true rfl) (Nat.le_of_ble_eq_true rfl) (Nat.le_of_ble_eq_true rfl) ?_
  refine vc_bipush dX12_nextToken_8 rfl ?_
  refine vc_icmp_eq dX12_nextToken_10 (fun h1 => by exfalso; omega) (fun h1 => ?_)
  refine vc_aload_n dX12_nextToken_13 rfl ?_
  refine vc_aload_n dX12_nextToken_14 rfl ?_
  refine vc_getI dX12_nextToken_15 flX12_119 (s_54 hS) rfl ?_
  refine vc_topI 0 t9 ?_
  refine vc_callVF dX12_nextToken_18 (qX12_byteAt_z (M := M) hS t6 ) rfl okX12_byteAt viX12_byteAt lkX12_122 (s_54 hS) cl_12 rfl (Nat.le_of_ble_eq_true rfl) ⟨rfl, rfl⟩ (Nat.le_of_ble_eq_true rfl) (Nat.le_of_ble_eq_true rfl) (Nat.le_of_ble_eq_true rfl) ?_
  refine vc_bipush dX12_nextToken_21 rfl ?_
  refine vc_icmp_ne dX12_nextToken_23 (fun h2 => ?_) (fun h2 => by exfalso; omega)
  refine vc_aload_n dX12_nextToken_39 rfl ?_
  refine vc_aload_n dX12_nextToken_40 rfl ?_
  refine vc_getI dX12_nextToken_41 flX12_119 (s_54 hS) rfl ?_
  refine vc_topI 0 t9 ?_
  refine vc_putI dX12_nextToken_44 (plX12_126 _ rfl) (s_54 hS) rfl ?_
  refine vc_aload_n dX12_nextToken_47 rfl ?_
  refine vc_aload_n dX12_nextToken_48 rfl ?_
  refine vc_getI dX12_nextToken_49 flX12_119 (s_54 (St.I hS _ _ _)) rfl ?_
  refine vc_topI (mI M 54 9) rfl ?_
  refine vc_topI 0 t9 ?_
  refine vc_callVF dX12_nextToken_52 (qX12_byteAt_z (M := (sI M 54 10 0)) (St.I hS _ _ _) t6 ) rfl okX12_byteAt viX12_byteAt lkX12_122 (s_54 (St.I hS _ _ _)) cl_12 rfl (Nat.le_of_ble_eq_true rfl) ⟨rfl, rfl⟩ (Nat.le_of_ble_eq_true rfl) (Nat.le_of_ble_eq_true rfl) (Nat.le_of_ble_eq_true rfl) ?_
  refine vc_istore_n dX12_nextToken_55 (by decide) rfl (show _ = [some (aR 54), some (aI (-1))] from rfl) ?_
  refine vc_iload_n dX12_nextToken_56 rfl ?_
  refine vc_if_ge dX12_nextToken_57 (fun h3 => by exfalso; omega) (fun h3 => ?_)
  refine vc_aload_n dX12_nextToken_60 rfl ?_
  refine vc_iconst dX12_nextToken_61 rfl ?_
  refine vc_putI dX12_nextToken_62 (plX12_129 _ rfl) (s_54 (St.I hS _ _ _)) rfl ?_
  refine vc_goto dX12_nextToken_65 ?_
  refine vc_vret dX12_nextToken_310 rfl (Nat.le_of_ble_eq_true rfl) (Nat.le_of_ble_eq_true rfl) ?_
  exact ⟨rfl, rfl⟩

set_option maxRecDepth 4000 in
theorem qX12_readText_z {l : Launch} {M : Mem} (hS : St M) (zm : Zm M)  : Fn l mdX12_readText [aR 54] M (some (aI (0))) (sI (sI (sI (sI (sI (sI (sI M 54 14 0) 57 0 0) 54 15 0) 54 21 0) 54 9 0) 54 10 0) 54 11 0) := by
  obtain ⟨z55_0, z55_1, z55_2, z55_3, z55_4, z55_5, z55_6, z55_7, z55_256, z54_6, z54_7, z54_8, z56_0⟩ := id zm
  refine Call.of [some (aR 54), none] rfl (Nat.le_of_ble_eq_true rfl) rfl ?_
  refine vc_aload_n dX12_readText_0 rfl ?_
  refine vc_sipush dX12_readText_1 rfl ?_
  refine vc_aload_n dX12_readText_4 rfl ?_
  refine vc_getR dX12_readText_5 flX12_7 (s_54 hS) rfl (r_54_0 hS) ?_
  refine vc_iconst dX12_readText_8 rfl ?_
  refine vc_iaload dX12_readText_9 (s_55 hS) (by omega) (by omega) ?_
  refine vc_topI (mI M 55 5) rfl ?_
  refine vc_topI 0 z55_5 ?_
  refine vc_imulE dX12_readText_10 (by omega) (by omega) ?_
  refine vc_topI 0 rfl ?_
  refine vc_putI dX12_readText_11 (plX12_167 _ rfl) (s_54 hS) rfl ?_
  refine vc_aload_n dX12_readText_14 rfl ?_
  refine vc_getR dX12_readText_15 flX12_16 (s_54 (St.I hS _ _ _)) rfl (r_54_2 (St.I hS _ _ _)) ?_
  refine vc_aload_n dX12_readText_18 rfl ?_
  refine vc_getI dX12_readText_19 flX12_167 (s_54 (St.I hS _ _ _)) rfl ?_
  refine vc_topI (0) rfl ?_
  refine vc_iconst dX12_readText_22 rfl ?_
  refine vc_iastore dX12_readText_23 (s_57 (St.I hS _ _ _)) (by omega) (by omega) ?_
  refine vc_mem (sI (sI M 54 14 0) 57 0 0) rfl ?_
  refine vc_aload_n dX12_readText_24 rfl ?_
  refine vc_iconst dX12_readText_25 rfl ?_
  refine vc_putI dX12_readText_26 (plX12_170 _ rfl) (s_54 (St.I (St.I hS _ _ _) _ _ _)) rfl ?_
  refine vc_aload_n dX12_readText_29 rfl ?_
  refine vc_iconst dX12_readText_30 rfl ?_
  refine vc_putI dX12_readText_31 (plX12_265 _ rfl) (s_54 (St.I (St.I (St.I hS _ _ _) _ _ _) _ _ _)) rfl ?_
  refine vc_aload_n dX12_readText_34 rfl ?_
  refine vc_iconst dX12_readText_35 rfl ?_
  refine vc_putI dX12_readText_36 (plX12_119 _ rfl) (s_54 (St.I (St.I (St.I (St.I hS _ _ _) _ _ _) _ _ _) _ _ _)) rfl ?_
  refine vc_aload_n dX12_readText_39 rfl ?_
  refine vc_callVU dX12_readText_40 (qX12_nextToken_z (M := (sI (sI (sI (sI (sI M 54 14 0) 57 0 0) 54 15 0) 54 21 0) 54 9 0)) (St.I (St.I (St.I (St.I (St.I hS _ _ _) _ _ _) _ _ _) _ _ _) _ _ _) ⟨z54_6, rfl⟩ ) rfl okX12_nextToken viX12_nextToken lkX12_193 (s_54 (St.I (St.I (St.I (St.I (St.I hS _ _ _) _ _ _) _ _ _) _ _ _) _ _ _)) cl_12 rfl (Nat.le_of_ble_eq_true rfl) ⟨rfl, rfl⟩ (Nat.le_of_ble_eq_true rfl) (Nat.le_of_ble_eq_true rfl) (Nat.le_of_ble_eq_true rfl) ?_
  refine vc_aload_n dX12_readText_43 rfl ?_
  refine vc_getI dX12_readText_44 flX12_129 (s_54 (St.I (St.I (St.I (St.I (St.I (St.I (St.I hS _ _ _) _ _ _) _ _ _) _ _ _) _ _ _) _ _ _) _ _ _)) rfl ?_
  refine vc_topI (0) rfl ?_
  refine vc_if_eq dX12_readText_47 (fun h1 => ?_) (fun h1 => by exfalso; omega)
  refine vc_iconst dX12_readText_64 rfl ?_
  refine vc_iret dX12_readText_65 rfl (Nat.le_of_ble_eq_true rfl) (Nat.le_of_ble_eq_true rfl) ?_
  exact ⟨rfl, rfl⟩

def fX12_text_z  : Int := 1 - 1
set_option maxRecDepth 4000 in
theorem qX12_text_z {l : Launch} {M : Mem} (hS : St M) (zm : Zm M)  : Fn l mdX12_text [aR 54] M (some (aI (fX12_text_z ))) (sI (sI (sI (sI (sI (sI (sI (sI (sI (sI (sI M 54 14 0) 57 0 0) 54 15 0) 54 21 0) 54 9 0) 54 10 0) 54 11 0) 54 7 0) 54 8 (-1)) 54 6 0) 55 5 1) := by
  obtain ⟨z55_0, z55_1, z55_2, z55_3, z55_4, z55_5, z55_6, z55_7, z55_256, z54_6, z54_7, z54_8, z56_0⟩ := id zm
  refine Call.of [some (aR 54)] rfl (Nat.le_of_ble_eq_true rfl) rfl ?_
  refine vc_aload_n dX12_text_0 rfl ?_
  refine vc_getR dX12_text_1 flX12_7 (s_54 hS) rfl (r_54_0 hS) ?_
  refine vc_iconst dX12_text_4 rfl ?_
  refine vc_iaload dX12_text_5 (s_55 hS) (by omega) (by omega) ?_
  refine vc_topI (mI M 55 5) rfl ?_
  refine vc_topI 0 z55_5 ?_
  refine vc_iconst dX12_text_6 rfl ?_
  refine vc_icmp_ne dX12_text_7 (fun h1 => ?_) (fun h1 => by exfalso; omega)
  refine vc_aload_n dX12_text_12 rfl ?_
  refine vc_aload_n dX12_text_13 rfl ?_
  refine vc_callVF dX12_text_14 (qX12_readText_z (M := M) hS zm ) rfl okX12_readText viX12_readText lkX12_278 (s_54 hS) cl_12 rfl (Nat.le_of_ble_eq_true rfl) ⟨rfl, rfl⟩ (Nat.le_of_ble_eq_true rfl) (Nat.le_of_ble_eq_true rfl) (Nat.le_of_ble_eq_true rfl) ?_
  refine vc_putI dX12_text_17 (plX12_25 _ rfl) (s_54 (St.I (St.I (St.I (St.I (St.I (St.I (St.I hS _ _ _) _ _ _) _ _ _) _ _ _) _ _ _) _ _ _) _ _ _)) rfl ?_
  refine vc_aload_n dX12_text_20 rfl ?_
  refine vc_aload_n dX12_text_21 rfl ?_
  refine vc_getI dX12_text_22 flX12_25 (s_54 (St.I (St.I (St.I (St.I (St.I (St.I (St.I (St.I hS _ _ _) _ _ _) _ _ _) _ _ _) _ _ _) _ _ _) _ _ _) _ _ _)) rfl ?_
  refine vc_topI (0) rfl ?_
  refine vc_if_ne dX12_text_25 (fun h2 => by exfalso; omega) (fun h2 => ?_)
  refine vc_iconst dX12_text_28 rfl ?_
  refine vc_goto dX12_text_29 ?_
  refine vc_putI dX12_text_36 (plX12_29 _ rfl) (s_54 (St.I (St.I (St.I (St.I (St.I (St.I (St.I (St.I hS _ _ _) _ _ _) _ _ _) _ _ _) _ _ _) _ _ _) _ _ _) _ _ _)) rfl ?_
  refine vc_aload_n dX12_text_39 rfl ?_
  refine vc_iconst dX12_text_40 rfl ?_
  refine vc_putI dX12_text_41 (plX12_112 _ rfl) (s_54 (St.I (St.I (St.I (St.I (St.I (St.I (St.I (St.I (St.I hS _ _ _) _ _ _) _ _ _) _ _ _) _ _ _) _ _ _) _ _ _) _ _ _) _ _ _)) rfl ?_
  refine vc_aload_n dX12_text_44 rfl ?_
  refine vc_getI dX12_text_45 flX12_25 (s_54 (St.I (St.I (St.I (St.I (St.I (St.I (St.I (St.I (St.I (St.I hS _ _ _) _ _ _) _ _ _) _ _ _) _ _ _) _ _ _) _ _ _) _ _ _) _ _ _) _ _ _)) rfl ?_
  refine vc_topI (0) rfl ?_
  refine vc_if_eq dX12_text_48 (fun h3 => ?_) (fun h3 => by exfalso; omega)
  refine vc_aload_n dX12_text_53 rfl ?_
  refine vc_getR dX12_text_54 flX12_7 (s_54 (St.I (St.I (St.I (St.I (St.I (St.I (St.I (St.I (St.I (St.I hS _ _ _) _ _ _) _ _ _) _ _ _) _ _ _) _ _ _) _ _ _) _ _ _) _ _ _) _ _ _)) rfl (r_54_0 (St.I (St.I (St.I (St.I (St.I (St.I (St.I (St.I (St.I (St.I hS _ _ _) _ _ _) _ _ _) _ _ _) _ _ _) _ _ _) _ _ _) _ _ _) _ _ _) _ _ _)) ?_
  refine vc_iconst dX12_text_57 rfl ?_
  refine vc_dup2 dX12_text_58 rfl rfl ?_
  refine vc_iaload dX12_text_59 (s_55 (St.I (St.I (St.I (St.I (St.I (St.I (St.I (St.I (St.I (St.I hS _ _ _) _ _ _) _ _ _) _ _ _) _ _ _) _ _ _) _ _ _) _ _ _) _ _ _) _ _ _)) (by omega) (by omega) ?_
  refine vc_topI (mI M 55 5) rfl ?_
  refine vc_topI 0 z55_5 ?_
  refine vc_iconst dX12_text_60 rfl ?_
  refine vc_iaddE dX12_text_61 (by omega) (by omega) ?_
  refine vc_topI 1 rfl ?_
  refine vc_iastore dX12_text_62 (s_55 (St.I (St.I (St.I (St.I (St.I (St.I (St.I (St.I (St.I (St.I hS _ _ _) _ _ _) _ _ _) _ _ _) _ _ _) _ _ _) _ _ _) _ _ _) _ _ _) _ _ _)) (by omega) (by omega) ?_
  refine vc_mem (sI (sI (sI (sI (sI (sI (sI (sI (sI (sI (sI M 54 14 0) 57 0 0) 54 15 0) 54 21 0) 54 9 0) 54 10 0) 54 11 0) 54 7 0) 54 8 (-1)) 54 6 0) 55 5 1) rfl ?_
  refine vc_aload_n dX12_text_63 rfl ?_
  refine vc_getR dX12_text_64 flX12_7 (s_54 (St.I (St.I (St.I (St.I (St.I (St.I (St.I (St.I (St.I (St.I (St.I hS _ _ _) _ _ _) _ _ _) _ _ _) _ _ _) _ _ _) _ _ _) _ _ _) _ _ _) _ _ _) _ _ _)) rfl (r_54_0 (St.I (St.I (St.I (St.I (St.I (St.I (St.I (St.I (St.I (St.I (St.I hS _ _ _) _ _ _) _ _ _) _ _ _) _ _ _) _ _ _) _ _ _) _ _ _) _ _ _) _ _ _) _ _ _)) ?_
  refine vc_iconst dX12_text_67 rfl ?_
  refine vc_iaload dX12_text_68 (s_55 (St.I (St.I (St.I (St.I (St.I (St.I (St.I (St.I (St.I (St.I (St.I hS _ _ _) _ _ _) _ _ _) _ _ _) _ _ _) _ _ _) _ _ _) _ _ _) _ _ _) _ _ _) _ _ _)) (by omega) (by omega) ?_
  refine vc_topI (1) rfl ?_
  refine vc_iconst dX12_text_69 rfl ?_
  refine vc_isubE dX12_text_70 (by omega) (by omega) ?_
  refine vc_iret dX12_text_71 rfl (Nat.le_of_ble_eq_true rfl) (Nat.le_of_ble_eq_true rfl) ?_
  exact ⟨rfl, rfl⟩

set_option maxRecDepth 4000 in
theorem qX4_part_z {l : Launch} {M : Mem} (hS : St M)   : Fn l mdX4_part [aR 22, aI 0] M none (sI (sI M 28 0 0) 26 0 0) := by
  refine Call.of [some (aR 22), some (aI 0), none, none, none, none] rfl (Nat.le_of_ble_eq_true rfl) rfl ?_
  refine vc_iconst dX4_part_0 rfl ?_
  refine vc_istore_n dX4_part_1 (by decide) rfl (show _ = [some (aR 22), some (aI 0), some (aI 0), none, none, none] from rfl) ?_
  refine vc_iconst dX4_part_2 rfl ?_
  refine vc_istore_n dX4_part_3 (by decide) rfl (show _ = [some (aR 22), some (aI 0), some (aI 0), some (aI 0), none, none] from rfl) ?_
  refine vc_iconst dX4_part_4 rfl ?_
  refine vc_istore dX4_part_5 (by decide) rfl (show _ = [some (aR 22), some (aI 0), some (aI 0), some (aI 0), some (aI 0), none] from rfl) ?_
  refine vc_iload dX4_part_7 rfl ?_
  refine vc_sipush dX4_part_9 rfl ?_
  refine vc_icmp_ge dX4_part_12 (fun h1 => by exfalso; omega) (fun h1 => ?_)
  refine vc_iload_n dX4_part_15 rfl ?_
  refine vc_iload_n dX4_part_16 rfl ?_
  refine vc_icmp_ge dX4_part_17 (fun h2 => ?_) (fun h2 => by exfalso; omega)
  refine vc_aload_n dX4_part_69 rfl ?_
  refine vc_getR dX4_part_70 flX4_30 (s_22 hS) rfl (r_22_6 hS) ?_
  refine vc_iload_n dX4_part_73 rfl ?_
  refine vc_iload_n dX4_part_74 rfl ?_
  refine vc_iastore dX4_part_75 (s_28 hS) (by omega) (by omega) ?_
  refine vc_mem (sI M 28 0 0) rfl ?_
  refine vc_aload_n dX4_part_76 rfl ?_
  refine vc_getR dX4_part_77 flX4_24 (s_22 (St.I hS _ _ _)) rfl (r_22_4 (St.I hS _ _ _)) ?_
  refine vc_iload_n dX4_part_80 rfl ?_
  refine vc_iconst dX4_part_81 rfl ?_
  refine vc_iastore dX4_part_82 (s_26 (St.I hS _ _ _)) (by omega) (by omega) ?_
  refine vc_mem (sI (sI M 28 0 0) 26 0 0) rfl ?_
  refine vc_vret dX4_part_83 rfl (Nat.le_of_ble_eq_true rfl) (Nat.le_of_ble_eq_true rfl) ?_
  exact ⟨rfl, rfl⟩

set_option maxRecDepth 4000 in
theorem qX4_takeToken_z {l : Launch} {M : Mem} (hS : St M) (zt : mI M 22 9 = (-1) ∧ mI M 26 0 = 0)  : Fn l mdX4_takeToken [aR 22] M (some (aI (1))) (sI (sI (sI M 22 9 0) 22 10 0) 22 11 (mI M 27 0)) := by
  obtain ⟨t9, k0⟩ := id zt
  refine Call.of [some (aR 22)] rfl (Nat.le_of_ble_eq_true rfl) rfl ?_
  refine vc_aload_n dX4_takeToken_0 rfl ?_
  refine vc_getI dX4_takeToken_1 flX4_62 (s_22 hS) rfl ?_
  refine vc_topI (-1) t9 ?_
  refine vc_sipush dX4_takeToken_4 rfl ?_
  refine vc_icmp_ge dX4_takeToken_7 (fun h1 => by exfalso; omega) (fun h1 => ?_)
  refine vc_aload_n dX4_takeToken_10 rfl ?_
  refine vc_dup dX4_takeToken_11 rfl ?_
  refine vc_getI dX4_takeToken_12 flX4_62 (s_22 hS) rfl ?_
  refine vc_topI (-1) t9 ?_
  refine vc_iconst dX4_takeToken_15 rfl ?_
  refine vc_iaddE dX4_takeToken_16 (by omega) (by omega) ?_
  refine vc_topI 0 rfl ?_
  refine vc_putI dX4_takeToken_17 (plX4_62 _ rfl) (s_22 hS) rfl ?_
  refine vc_aload_n dX4_takeToken_20 rfl ?_
  refine vc_aload_n dX4_takeToken_21 rfl ?_
  refine vc_getR dX4_takeToken_22 flX4_24 (s_22 (St.I hS _ _ _)) rfl (r_22_4 (St.I hS _ _ _)) ?_
  refine vc_aload_n dX4_takeToken_25 rfl ?_
  refine vc_getI dX4_takeToken_26 flX4_62 (s_22 (St.I hS _ _ _)) rfl ?_
  refine vc_topI (0) rfl ?_
  refine vc_iaload dX4_takeToken_29 (s_26 (St.I hS _ _ _)) (by omega) (by omega) ?_
  refine vc_topI (mI M 26 0) rfl ?_
  refine vc_topI 0 k0 ?_
  refine vc_putI dX4_takeToken_30 (plX4_69 _ rfl) (s_22 (St.I hS _ _ _)) rfl ?_
  refine vc_aload_n dX4_takeToken_33 rfl ?_
  refine vc_aload_n dX4_takeToken_34 rfl ?_
  refine vc_getR dX4_takeToken_35 flX4_27 (s_22 (St.I (St.I hS _ _ _) _ _ _)) rfl (r_22_5 (St.I (St.I hS _ _ _) _ _ _)) ?_
  refine vc_aload_n dX4_takeToken_38 rfl ?_
  refine vc_getI dX4_takeToken_39 flX4_62 (s_22 (St.I (St.I hS _ _ _) _ _ _)) rfl ?_
  refine vc_topI (0) rfl ?_
  refine vc_iaload dX4_takeToken_42 (s_27 (St.I (St.I hS _ _ _) _ _ _)) (by omega) (by omega) ?_
  refine vc_topI (mI M 27 0) rfl ?_
  refine vc_putI dX4_takeToken_43 (plX4_119 _ rfl) (s_22 (St.I (St.I hS _ _ _) _ _ _)) rfl ?_
  refine vc_iconst dX4_takeToken_46 rfl ?_
  refine vc_zret dX4_takeToken_47 rfl (by first | decide | omega) (Nat.le_of_ble_eq_true rfl) (Nat.le_of_ble_eq_true rfl) ?_
  exact ⟨rfl, rfl⟩

def gX4_reads_z (M : Mem)  : Mem := (sI (sI (sI (sI (flI (flI (sI (sI (sI (sI (sI (sI M 28 0 0) 26 0 0) 22 7 0) 22 8 (-1)) 22 12 0) 22 13 0) 24 10 (-1)) 25 120 0) 22 9 (-1)) 22 9 0) 22 10 0) 22 11 (mI (sI (flI (flI (sI (sI (sI (sI (sI (sI M 28 0 0) 26 0 0) 22 7 0) 22 8 (-1)) 22 12 0) 22 13 0) 24 10 (-1)) 25 120 0) 22 9 (-1)) 27 0))
set_option maxRecDepth 4000 in
theorem qX4_reads_z {l : Launch} {M : Mem} (hS : St M)   : Fn l mdX4_reads [aR 22, aI 0] M (some (aI (1))) (gX4_reads_z M ) := by
  refine Call.of [some (aR 22), some (aI 0), none, none] rfl (Nat.le_of_ble_eq_true rfl) rfl ?_
  refine vc_aload_n dX4_reads_0 rfl ?_
  refine vc_iload_n dX4_reads_1 rfl ?_
  refine vc_sipush dX4_reads_2 rfl ?_
  refine vc_mminI dX4_reads_5 lkX4_33 (Nat.le_of_ble_eq_true rfl) (Nat.le_of_ble_eq_true rfl) (Nat.le_of_ble_eq_true rfl) ?_
  refine vc_topI 0 rfl ?_
  refine vc_callVU dX4_reads_8 (qX4_part_z (M := M) hS ) rfl okX4_part viX4_part lkX4_39 (s_22 hS) cl_4 rfl (Nat.le_of_ble_eq_true rfl) ⟨rfl, rfl⟩ (Nat.le_of_ble_eq_true rfl) (Nat.le_of_ble_eq_true rfl) (Nat.le_of_ble_eq_true rfl) ?_
  refine vc_aload_n dX4_reads_11 rfl ?_
  refine vc_iconst dX4_reads_12 rfl ?_
  refine vc_putI dX4_reads_13 (plX4_43 _ rfl) (s_22 (St.I (St.I hS _ _ _) _ _ _)) rfl ?_
  refine vc_aload_n dX4_reads_16 rfl ?_
  refine vc_iconst dX4_reads_17 rfl ?_
  refine vc_putI dX4_reads_18 (plX4_47 _ rfl) (s_22 (St.I (St.I (St.I hS _ _ _) _ _ _) _ _ _)) rfl ?_
  refine vc_aload_n dX4_reads_21 rfl ?_
  refine vc_iconst dX4_reads_22 rfl ?_
  refine vc_putI dX4_reads_23 (plX4_50 _ rfl) (s_22 (St.I (St.I (St.I (St.I hS _ _ _) _ _ _) _ _ _) _ _ _)) rfl ?_
  refine vc_aload_n dX4_reads_26 rfl ?_
  refine vc_iconst dX4_reads_27 rfl ?_
  refine vc_putI dX4_reads_28 (plX4_53 _ rfl) (s_22 (St.I (St.I (St.I (St.I (St.I hS _ _ _) _ _ _) _ _ _) _ _ _) _ _ _)) rfl ?_
  refine vc_aload_n dX4_reads_31 rfl ?_
  refine vc_getR dX4_reads_32 flX4_18 (s_22 (St.I (St.I (St.I (St.I (St.I (St.I hS _ _ _) _ _ _) _ _ _) _ _ _) _ _ _) _ _ _)) rfl (r_22_2 (St.I (St.I (St.I (St.I (St.I (St.I hS _ _ _) _ _ _) _ _ _) _ _ _) _ _ _) _ _ _)) ?_
  refine vc_iconst dX4_reads_35 rfl ?_
  refine vc_callSU dX4_reads_36 (qJ7_fill_53178 (M := (sI (sI (sI (sI (sI (sI M 28 0 0) 26 0 0) 22 7 0) 22 8 (-1)) 22 12 0) 22 13 0)) 24 10 (s_24 (St.I (St.I (St.I (St.I (St.I (St.I hS _ _ _) _ _ _) _ _ _) _ _ _) _ _ _) _ _ _)) (by decide) (-1)) rfl okJ7_fill_53178 stJ7_fill_53178 lkX4_56 rfl (Nat.le_of_ble_eq_true rfl) ⟨rfl, rfl⟩ (Nat.le_of_ble_eq_true rfl) (Nat.le_of_ble_eq_true rfl) (Nat.le_of_ble_eq_true rfl) ?_
  refine vc_aload_n dX4_reads_39 rfl ?_
  refine vc_getR dX4_reads_40 flX4_21 (s_22 (St.F (St.I (St.I (St.I (St.I (St.I (St.I hS _ _ _) _ _ _) _ _ _) _ _ _) _ _ _) _ _ _) _ _ _)) rfl (r_22_3 (St.F (St.I (St.I (St.I (St.I (St.I (St.I hS _ _ _) _ _ _) _ _ _) _ _ _) _ _ _) _ _ _) _ _ _)) ?_
  refine vc_iconst dX4_reads_43 rfl ?_
  refine vc_callSU dX4_reads_44 (qJ7_fill_53178 (M := (flI (sI (sI (sI (sI (sI (sI M 28 0 0) 26 0 0) 22 7 0) 22 8 (-1)) 22 12 0) 22 13 0) 24 10 (-1))) 25 120 (s_25 (St.F (St.I (St.I (St.I (St.I (St.I (St.I hS _ _ _) _ _ _) _ _ _) _ _ _) _ _ _) _ _ _) _ _ _)) (by decide) 0) rfl okJ7_fill_53178 stJ7_fill_53178 lkX4_56 rfl (Nat.le_of_ble_eq_true rfl) ⟨rfl, rfl⟩ (Nat.le_of_ble_eq_true rfl) (Nat.le_of_ble_eq_true rfl) (Nat.le_of_ble_eq_true rfl) ?_
  refine vc_aload_n dX4_reads_47 rfl ?_
  refine vc_iconst dX4_reads_48 rfl ?_
  refine vc_putI dX4_reads_49 (plX4_62 _ rfl) (s_22 (St.F (St.F (St.I (St.I (St.I (St.I (St.I (St.I hS _ _ _) _ _ _) _ _ _) _ _ _) _ _ _) _ _ _) _ _ _) _ _ _)) rfl ?_
  refine vc_aload_n dX4_reads_52 rfl ?_
  refine vc_callVF dX4_reads_53 (qX4_takeToken_z (M := (sI (flI (flI (sI (sI (sI (sI (sI (sI M 28 0 0) 26 0 0) 22 7 0) 22 8 (-1)) 22 12 0) 22 13 0) 24 10 (-1)) 25 120 0) 22 9 (-1))) (St.I (St.F (St.F (St.I (St.I (St.I (St.I (St.I (St.I hS _ _ _) _ _ _) _ _ _) _ _ _) _ _ _) _ _ _) _ _ _) _ _ _) _ _ _) ⟨rfl, rfl⟩ ) rfl okX4_takeToken viX4_takeToken lkX4_65 (s_22 (St.I (St.F (St.F (St.I (St.I (St.I (St.I (St.I (St.I hS _ _ _) _ _ _) _ _ _) _ _ _) _ _ _) _ _ _) _ _ _) _ _ _) _ _ _)) cl_4 rfl (Nat.le_of_ble_eq_true rfl) ⟨rfl, rfl⟩ (Nat.le_of_ble_eq_true rfl) (Nat.le_of_ble_eq_true rfl) (Nat.le_of_ble_eq_true rfl) ?_
  refine vc_pop dX4_reads_56 rfl ?_
  refine vc_iconst dX4_reads_57 rfl ?_
  refine vc_istore_n dX4_reads_58 (by decide) rfl (show _ = [some (aR 22), some (aI 0), some (aI 1), none] from rfl) ?_
  refine vc_iconst dX4_reads_59 rfl ?_
  refine vc_istore_n dX4_reads_60 (by decide) rfl (show _ = [some (aR 22), some (aI 0), some (aI 1), some (aI 0)] from rfl) ?_
  refine vc_iload_n dX4_reads_61 rfl ?_
  refine vc_bipush dX4_reads_62 rfl ?_
  refine vc_icmp_gt dX4_reads_64 (fun h1 => by exfalso; omega) (fun h1 => ?_)
  refine vc_iload_n dX4_reads_67 rfl ?_
  refine vc_if_eq dX4_reads_68 (fun h2 => by exfalso; omega) (fun h2 => ?_)
  refine vc_aload_n dX4_reads_71 rfl ?_
  refine vc_getI dX4_reads_72 flX4_69 (s_22 (St.I (St.I (St.I (St.I (St.F (St.F (St.I (St.I (St.I (St.I (St.I (St.I hS _ _ _) _ _ _) _ _ _) _ _ _) _ _ _) _ _ _) _ _ _) _ _ _) _ _ _) _ _ _) _ _ _) _ _ _)) rfl ?_
  refine vc_topI (0) rfl ?_
  refine vc_if_eq dX4_reads_75 (fun h3 => ?_) (fun h3 => by exfalso; omega)
  refine vc_iload_n dX4_reads_89 rfl ?_
  refine vc_zret dX4_reads_90 rfl (by first | decide | omega) (Nat.le_of_ble_eq_true rfl) (Nat.le_of_ble_eq_true rfl) ?_
  exact ⟨rfl, rfl⟩
theorem tX4_reads_z {M : Mem} (hS : St M)  : St (gX4_reads_z M ) := by
  unfold gX4_reads_z
  all_goals first | exact (St.I (St.I (St.I (St.I (St.F (St.F (St.I (St.I (St.I (St.I (St.I (St.I hS _ _ _) _ _ _) _ _ _) _ _ _) _ _ _) _ _ _) _ _ _) _ _ _) _ _ _) _ _ _) _ _ _) _ _ _)

theorem rdl (M : Mem) : (gX4_reads_z M).1 = M.1 := rfl
theorem rd12 (M : Mem) : mI (gX4_reads_z M) 22 12 = 0 := rfl
theorem rd13 (M : Mem) : mI (gX4_reads_z M) 22 13 = 0 := rfl
theorem rd10 (M : Mem) : mI (gX4_reads_z M) 1 10 = mI M 1 10 := rfl
