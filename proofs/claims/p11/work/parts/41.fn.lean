/-! FEED (written by wip/whole/p41.py) -/
def gX11_putBytes (M : Mem) (v : Int) : Mem := (sI (sI (sI (sI (sI (sI (sI (sI M 21 ((mI M 0 13).toNat) ((v / 16777216) % 256)) 0 13 ((mI M 0 13) + 1)) 21 (((mI M 0 13) + 1).toNat) ((v / 65536) % 256)) 0 13 (((mI M 0 13) + 1) + 1)) 21 ((((mI M 0 13) + 1) + 1).toNat) ((v / 256) % 256)) 0 13 ((((mI M 0 13) + 1) + 1) + 1)) 21 (((((mI M 0 13) + 1) + 1) + 1).toNat) ((v / 1) % 256)) 0 13 (((((mI M 0 13) + 1) + 1) + 1) + 1))
set_option maxRecDepth 4000 in
theorem qX11_putBytes {l : Launch} {M : Mem} (hS : St M) (hf : 0 ≤ mI M 0 13 ∧ mI M 0 13 ≤ 296) (v : Int) : Fn l mdX11_putBytes [aR 0, aI v] M none (gX11_putBytes M v) := by
  refine Call.of [some (aR 0), some (aI v), none] rfl (Nat.le_of_ble_eq_true rfl) rfl ?_
  refine vc_bipush dX11_putBytes_0 rfl ?_
  refine vc_istore_n dX11_putBytes_2 (by decide) rfl (show _ = [some (aR 0), some (aI v), some (aI 24)] from rfl) ?_
  refine vc_iload_n dX11_putBytes_3 rfl ?_
  refine vc_if_lt dX11_putBytes_4 (fun h1 => by exfalso; omega) (fun h1 => ?_)
  refine vc_aload_n dX11_putBytes_7 rfl ?_
  refine vc_getI dX11_putBytes_8 flX11_103 (s_0 hS) rfl ?_
  refine vc_sipush dX11_putBytes_11 rfl ?_
  refine vc_icmp_ge dX11_putBytes_14 (fun h2 => by exfalso; omega) (fun h2 => ?_)
  refine vc_aload_n dX11_putBytes_17 rfl ?_
  refine vc_getR dX11_putBytes_18 flX11_29 (s_0 hS) rfl (r_0_4 hS) ?_
  refine vc_aload_n dX11_putBytes_21 rfl ?_
  refine vc_getI dX11_putBytes_22 flX11_103 (s_0 hS) rfl ?_
  refine vc_iload_n dX11_putBytes_25 rfl ?_
  refine vc_iload_n dX11_putBytes_26 rfl ?_
  refine vc_ishrC dX11_putBytes_27 16777216 24 rfl (by decide) rfl ?_
  refine vc_sipush dX11_putBytes_28 rfl ?_
  refine vc_iandM dX11_putBytes_31 256 8 rfl (by decide) rfl ?_
  refine vc_iastore dX11_putBytes_32 (s_21 hS) (by omega) (by omega) ?_
  refine vc_aload_n dX11_putBytes_33 rfl ?_
  refine vc_dup dX11_putBytes_34 rfl ?_
  refine vc_getI dX11_putBytes_35 flX11_103 (s_0 (St.I hS _ _ _)) rfl ?_
  refine vc_topI (mI M 0 13) rfl ?_
  refine vc_iconst dX11_putBytes_38 rfl ?_
  refine vc_iaddE dX11_putBytes_39 (by omega) (by omega) ?_
  refine vc_putI dX11_putBytes_40 (plX11_103 _ rfl) (s_0 (St.I hS _ _ _)) rfl ?_
  refine vc_iincE dX11_putBytes_43 rfl (by omega) (by omega) (by decide) rfl (show _ = [some (aR 0), some (aI v), some (aI 16)] from rfl) ?_
  refine vc_goto dX11_putBytes_46 ?_
  refine vc_iload_n dX11_putBytes_3 rfl ?_
  refine vc_if_lt dX11_putBytes_4 (fun h3 => by exfalso; omega) (fun h3 => ?_)
  refine vc_aload_n dX11_putBytes_7 rfl ?_
  refine vc_getI dX11_putBytes_8 flX11_103 (s_0 (St.I (St.I hS _ _ _) _ _ _)) rfl ?_
  refine vc_topI ((mI M 0 13) + 1) rfl ?_
  refine vc_sipush dX11_putBytes_11 rfl ?_
  refine vc_icmp_ge dX11_putBytes_14 (fun h4 => by exfalso; omega) (fun h4 => ?_)
  refine vc_aload_n dX11_putBytes_17 rfl ?_
  refine vc_getR dX11_putBytes_18 flX11_29 (s_0 (St.I (St.I hS _ _ _) _ _ _)) rfl (r_0_4 (St.I (St.I hS _ _ _) _ _ _)) ?_
  refine vc_aload_n dX11_putBytes_21 rfl ?_
  refine vc_getI dX11_putBytes_22 flX11_103 (s_0 (St.I (St.I hS _ _ _) _ _ _)) rfl ?_
  refine vc_topI ((mI M 0 13) + 1) rfl ?_
  refine vc_iload_n dX11_putBytes_25 rfl ?_
  refine vc_iload_n dX11_putBytes_26 rfl ?_
  refine vc_ishrC dX11_putBytes_27 65536 16 rfl (by decide) rfl ?_
  refine vc_sipush dX11_putBytes_28 rfl ?_
  refine vc_iandM dX11_putBytes_31 256 8 rfl (by decide) rfl ?_
  refine vc_iastore dX11_putBytes_32 (s_21 (St.I (St.I hS _ _ _) _ _ _)) (by omega) (by omega) ?_
  refine vc_aload_n dX11_putBytes_33 rfl ?_
  refine vc_dup dX11_putBytes_34 rfl ?_
  refine vc_getI dX11_putBytes_35 flX11_103 (s_0 (St.I (St.I (St.I hS _ _ _) _ _ _) _ _ _)) rfl ?_
  refine vc_topI ((mI M 0 13) + 1) rfl ?_
  refine vc_iconst dX11_putBytes_38 rfl ?_
  refine vc_iaddE dX11_putBytes_39 (by omega) (by omega) ?_
  refine vc_putI dX11_putBytes_40 (plX11_103 _ rfl) (s_0 (St.I (St.I (St.I hS _ _ _) _ _ _) _ _ _)) rfl ?_
  refine vc_iincE dX11_putBytes_43 rfl (by omega) (by omega) (by decide) rfl (show _ = [some (aR 0), some (aI v), some (aI 8)] from rfl) ?_
  refine vc_goto dX11_putBytes_46 ?_
  refine vc_iload_n dX11_putBytes_3 rfl ?_
  refine vc_if_lt dX11_putBytes_4 (fun h5 => by exfalso; omega) (fun h5 => ?_)
  refine vc_aload_n dX11_putBytes_7 rfl ?_
  refine vc_getI dX11_putBytes_8 flX11_103 (s_0 (St.I (St.I (St.I (St.I hS _ _ _) _ _ _) _ _ _) _ _ _)) rfl ?_
  refine vc_topI (((mI M 0 13) + 1) + 1) rfl ?_
  refine vc_sipush dX11_putBytes_11 rfl ?_
  refine vc_icmp_ge dX11_putBytes_14 (fun h6 => by exfalso; omega) (fun h6 => ?_)
  refine vc_aload_n dX11_putBytes_17 rfl ?_
  refine vc_getR dX11_putBytes_18 flX11_29 (s_0 (St.I (St.I (St.I (St.I hS _ _ _) _ _ _) _ _ _) _ _ _)) rfl (r_0_4 (St.I (St.I (St.I (St.I hS _ _ _) _ _ _) _ _ _) _ _ _)) ?_
  refine vc_aload_n dX11_putBytes_21 rfl ?_
  refine vc_getI dX11_putBytes_22 flX11_103 (s_0 (St.I (St.I (St.I (St.I hS _ _ _) _ _ _) _ _ _) _ _ _)) rfl ?_
  refine vc_topI (((mI M 0 13) + 1) + 1) rfl ?_
  refine vc_iload_n dX11_putBytes_25 rfl ?_
  refine vc_iload_n dX11_putBytes_26 rfl ?_
  refine vc_ishrC dX11_putBytes_27 256 8 rfl (by decide) rfl ?_
  refine vc_sipush dX11_putBytes_28 rfl ?_
  refine vc_iandM dX11_putBytes_31 256 8 rfl (by decide) rfl ?_
  refine vc_iastore dX11_putBytes_32 (s_21 (St.I (St.I (St.I (St.I hS _ _ _) _ _ _) _ _ _) _ _ _)) (by omega) (by omega) ?_
  refine vc_aload_n dX11_putBytes_33 rfl ?_
  refine vc_dup dX11_putBytes_34 rfl ?_
  refine vc_getI dX11_putBytes_35 flX11_103 (s_0 (St.I (St.I (St.I (St.I (St.I hS _ _ _) _ _ _) _ _ _) _ _ _) _ _ _)) rfl ?_
  refine vc_topI (((mI M 0 13) + 1) + 1) rfl ?_
  refine vc_iconst dX11_putBytes_38 rfl ?_
  refine vc_iaddE dX11_putBytes_39 (by omega) (by omega) ?_
  refine vc_putI dX11_putBytes_40 (plX11_103 _ rfl) (s_0 (St.I (St.I (St.I (St.I (St.I hS _ _ _) _ _ _) _ _ _) _ _ _) _ _ _)) rfl ?_
  refine vc_iincE dX11_putBytes_43 rfl (by omega) (by omega) (by decide) rfl (show _ = [some (aR 0), some (aI v), some (aI 0)] from rfl) ?_
  refine vc_goto dX11_putBytes_46 ?_
  refine vc_iload_n dX11_putBytes_3 rfl ?_
  refine vc_if_lt dX11_putBytes_4 (fun h7 => by exfalso; omega) (fun h7 => ?_)
  refine vc_aload_n dX11_putBytes_7 rfl ?_
  refine vc_getI dX11_putBytes_8 flX11_103 (s_0 (St.I (St.I (St.I (St.I (St.I (St.I hS _ _ _) _ _ _) _ _ _) _ _ _) _ _ _) _ _ _)) rfl ?_
  refine vc_topI ((((mI M 0 13) + 1) + 1) + 1) rfl ?_
  refine vc_sipush dX11_putBytes_11 rfl ?_
  refine vc_icmp_ge dX11_putBytes_14 (fun h8 => by exfalso; omega) (fun h8 => ?_)
  refine vc_aload_n dX11_putBytes_17 rfl ?_
  refine vc_getR dX11_putBytes_18 flX11_29 (s_0 (St.I (St.I (St.I (St.I (St.I (St.I hS _ _ _) _ _ _) _ _ _) _ _ _) _ _ _) _ _ _)) rfl (r_0_4 (St.I (St.I (St.I (St.I (St.I (St.I hS _ _ _) _ _ _) _ _ _) _ _ _) _ _ _) _ _ _)) ?_
  refine vc_aload_n dX11_putBytes_21 rfl ?_
  refine vc_getI dX11_putBytes_22 flX11_103 (s_0 (St.I (St.I (St.I (St.I (St.I (St.I hS _ _ _) _ _ _) _ _ _) _ _ _) _ _ _) _ _ _)) rfl ?_
  refine vc_topI ((((mI M 0 13) + 1) + 1) + 1) rfl ?_
  refine vc_iload_n dX11_putBytes_25 rfl ?_
  refine vc_iload_n dX11_putBytes_26 rfl ?_
  refine vc_ishrC dX11_putBytes_27 1 0 rfl (by decide) rfl ?_
  refine vc_sipush dX11_putBytes_28 rfl ?_
  refine vc_iandM dX11_putBytes_31 256 8 rfl (by decide) rfl ?_
  refine vc_iastore dX11_putBytes_32 (s_21 (St.I (St.I (St.I (St.I (St.I (St.I hS _ _ _) _ _ _) _ _ _) _ _ _) _ _ _) _ _ _)) (by omega) (by omega) ?_
  refine vc_aload_n dX11_putBytes_33 rfl ?_
  refine vc_dup dX11_putBytes_34 rfl ?_
  refine vc_getI dX11_putBytes_35 flX11_103 (s_0 (St.I (St.I (St.I (St.I (St.I (St.I (St.I hS _ _ _) _ _ _) _ _ _) _ _ _) _ _ _) _ _ _) _ _ _)) rfl ?_
  refine vc_topI ((((mI M 0 13) + 1) + 1) + 1) rfl ?_
  refine vc_iconst dX11_putBytes_38 rfl ?_
  refine vc_iaddE dX11_putBytes_39 (by omega) (by omega) ?_
  refine vc_putI dX11_putBytes_40 (plX11_103 _ rfl) (s_0 (St.I (St.I (St.I (St.I (St.I (St.I (St.I hS _ _ _) _ _ _) _ _ _) _ _ _) _ _ _) _ _ _) _ _ _)) rfl ?_
  refine vc_iincE dX11_putBytes_43 rfl (by omega) (by omega) (by decide) rfl (show _ = [some (aR 0), some (aI v), some (aI (-8))] from rfl) ?_
  refine vc_goto dX11_putBytes_46 ?_
  refine vc_iload_n dX11_putBytes_3 rfl ?_
  refine vc_if_lt dX11_putBytes_4 (fun h9 => ?_) (fun h9 => by exfalso; omega)
  refine vc_vret dX11_putBytes_49 rfl (Nat.le_of_ble_eq_true rfl) (Nat.le_of_ble_eq_true rfl) ?_
  exact ⟨rfl, rfl⟩
theorem tX11_putBytes {M : Mem} (hS : St M) (v : Int) : St (gX11_putBytes M v) := by
  unfold gX11_putBytes
  all_goals first | exact (St.I (St.I (St.I (St.I (St.I (St.I (St.I (St.I hS _ _ _) _ _ _) _ _ _) _ _ _) _ _ _) _ _ _) _ _ _) _ _ _)

def gX12_four (M : Mem) (v : Int) : Mem := (sI (sI (sI (sI (sI (sI (sI (sI M 59 ((mI M 54 6).toNat) ((v / 16777216) % 256)) 54 6 ((mI M 54 6) + 1)) 59 (((mI M 54 6) + 1).toNat) ((v / 65536) % 256)) 54 6 (((mI M 54 6) + 1) + 1)) 59 ((((mI M 54 6) + 1) + 1).toNat) ((v / 256) % 256)) 54 6 ((((mI M 54 6) + 1) + 1) + 1)) 59 (((((mI M 54 6) + 1) + 1) + 1).toNat) ((v / 1) % 256)) 54 6 (((((mI M 54 6) + 1) + 1) + 1) + 1))
set_option maxRecDepth 4000 in
theorem qX12_four {l : Launch} {M : Mem} (hS : St M) (hp : 0 ≤ mI M 54 6 ∧ mI M 54 6 ≤ 296) (v : Int) : Fn l mdX12_four [aR 54, aI v] M none (gX12_four M v) := by
  refine Call.of [some (aR 54), some (aI v), none] rfl (Nat.le_of_ble_eq_true rfl) rfl ?_
  refine vc_bipush dX12_four_0 rfl ?_
  refine vc_istore_n dX12_four_2 (by decide) rfl (show _ = [some (aR 54), some (aI v), some (aI 24)] from rfl) ?_
  refine vc_iload_n dX12_four_3 rfl ?_
  refine vc_if_lt dX12_four_4 (fun h1 => by exfalso; omega) (fun h1 => ?_)
  refine vc_aload_n dX12_four_7 rfl ?_
  refine vc_getR dX12_four_8 flX12_22 (s_54 hS) rfl (r_54_5 hS) ?_
  refine vc_aload_n dX12_four_11 rfl ?_
  refine vc_getI dX12_four_12 flX12_112 (s_54 hS) rfl ?_
  refine vc_iload_n dX12_four_15 rfl ?_
  refine vc_iload_n dX12_four_16 rfl ?_
  refine vc_ishrC dX12_four_17 16777216 24 rfl (by decide) rfl ?_
  refine vc_sipush dX12_four_18 rfl ?_
  refine vc_iandM dX12_four_21 256 8 rfl (by decide) rfl ?_
  refine vc_iastore dX12_four_22 (s_59 hS) (by omega) (by omega) ?_
  refine vc_aload_n dX12_four_23 rfl ?_
  refine vc_dup dX12_four_24 rfl ?_
  refine vc_getI dX12_four_25 flX12_112 (s_54 (St.I hS _ _ _)) rfl ?_
  refine vc_topI (mI M 54 6) rfl ?_
  refine vc_iconst dX12_four_28 rfl ?_
  refine vc_iaddE dX12_four_29 (by omega) (by omega) ?_
  refine vc_putI dX12_four_30 (plX12_112 _ rfl) (s_54 (St.I hS _ _ _)) rfl ?_
  refine vc_iincE dX12_four_33 rfl (by omega) (by omega) (by decide) rfl (show _ = [some (aR 54), some (aI v), some (aI 16)] from rfl) ?_
  refine vc_goto dX12_four_36 ?_
  refine vc_iload_n dX12_four_3 rfl ?_
  refine vc_if_lt dX12_four_4 (fun h2 => by exfalso; omega) (fun h2 => ?_)
  refine vc_aload_n dX12_four_7 rfl ?_
  refine vc_getR dX12_four_8 flX12_22 (s_54 (St.I (St.I hS _ _ _) _ _ _)) rfl (r_54_5 (St.I (St.I hS _ _ _) _ _ _)) ?_
  refine vc_aload_n dX12_four_11 rfl ?_
  refine vc_getI dX12_four_12 flX12_112 (s_54 (St.I (St.I hS _ _ _) _ _ _)) rfl ?_
  refine vc_topI ((mI M 54 6) + 1) rfl ?_
  refine vc_iload_n dX12_four_15 rfl ?_
  refine vc_iload_n dX12_four_16 rfl ?_
  refine vc_ishrC dX12_four_17 65536 16 rfl (by decide) rfl ?_
  refine vc_sipush dX12_four_18 rfl ?_
  refine vc_iandM dX12_four_21 256 8 rfl (by decide) rfl ?_
  refine vc_iastore dX12_four_22 (s_59 (St.I (St.I hS _ _ _) _ _ _)) (by omega) (by omega) ?_
  refine vc_aload_n dX12_four_23 rfl ?_
  refine vc_dup dX12_four_24 rfl ?_
  refine vc_getI dX12_four_25 flX12_112 (s_54 (St.I (St.I (St.I hS _ _ _) _ _ _) _ _ _)) rfl ?_
  refine vc_topI ((mI M 54 6) + 1) rfl ?_
  refine vc_iconst dX12_four_28 rfl ?_
  refine vc_iaddE dX12_four_29 (by omega) (by omega) ?_
  refine vc_putI dX12_four_30 (plX12_112 _ rfl) (s_54 (St.I (St.I (St.I hS _ _ _) _ _ _) _ _ _)) rfl ?_
  refine vc_iincE dX12_four_33 rfl (by omega) (by omega) (by decide) rfl (show _ = [some (aR 54), some (aI v), some (aI 8)] from rfl) ?_
  refine vc_goto dX12_four_36 ?_
  refine vc_iload_n dX12_four_3 rfl ?_
  refine vc_if_lt dX12_four_4 (fun h3 => by exfalso; omega) (fun h3 => ?_)
  refine vc_aload_n dX12_four_7 rfl ?_
  refine vc_getR dX12_four_8 flX12_22 (s_54 (St.I (St.I (St.I (St.I hS _ _ _) _ _ _) _ _ _) _ _ _)) rfl (r_54_5 (St.I (St.I (St.I (St.I hS _ _ _) _ _ _) _ _ _) _ _ _)) ?_
  refine vc_aload_n dX12_four_11 rfl ?_
  refine vc_getI dX12_four_12 flX12_112 (s_54 (St.I (St.I (St.I (St.I hS _ _ _) _ _ _) _ _ _) _ _ _)) rfl ?_
  refine vc_topI (((mI M 54 6) + 1) + 1) rfl ?_
  refine vc_iload_n dX12_four_15 rfl ?_
  refine vc_iload_n dX12_four_16 rfl ?_
  refine vc_ishrC dX12_four_17 256 8 rfl (by decide) rfl ?_
  refine vc_sipush dX12_four_18 rfl ?_
  refine vc_iandM dX12_four_21 256 8 rfl (by decide) rfl ?_
  refine vc_iastore dX12_four_22 (s_59 (St.I (St.I (St.I (St.I hS _ _ _) _ _ _) _ _ _) _ _ _)) (by omega) (by omega) ?_
  refine vc_aload_n dX12_four_23 rfl ?_
  refine vc_dup dX12_four_24 rfl ?_
  refine vc_getI dX12_four_25 flX12_112 (s_54 (St.I (St.I (St.I (St.I (St.I hS _ _ _) _ _ _) _ _ _) _ _ _) _ _ _)) rfl ?_
  refine vc_topI (((mI M 54 6) + 1) + 1) rfl ?_
  refine vc_iconst dX12_four_28 rfl ?_
  refine vc_iaddE dX12_four_29 (by omega) (by omega) ?_
  refine vc_putI dX12_four_30 (plX12_112 _ rfl) (s_54 (St.I (St.I (St.I (St.I (St.I hS _ _ _) _ _ _) _ _ _) _ _ _) _ _ _)) rfl ?_
  refine vc_iincE dX12_four_33 rfl (by omega) (by omega) (by decide) rfl (show _ = [some (aR 54), some (aI v), some (aI 0)] from rfl) ?_
  refine vc_goto dX12_four_36 ?_
  refine vc_iload_n dX12_four_3 rfl ?_
  refine vc_if_lt dX12_four_4 (fun h4 => by exfalso; omega) (fun h4 => ?_)
  refine vc_aload_n dX12_four_7 rfl ?_
  refine vc_getR dX12_four_8 flX12_22 (s_54 (St.I (St.I (St.I (St.I (St.I (St.I hS _ _ _) _ _ _) _ _ _) _ _ _) _ _ _) _ _ _)) rfl (r_54_5 (St.I (St.I (St.I (St.I (St.I (St.I hS _ _ _) _ _ _) _ _ _) _ _ _) _ _ _) _ _ _)) ?_
  refine vc_aload_n dX12_four_11 rfl ?_
  refine vc_getI dX12_four_12 flX12_112 (s_54 (St.I (St.I (St.I (St.I (St.I (St.I hS _ _ _) _ _ _) _ _ _) _ _ _) _ _ _) _ _ _)) rfl ?_
  refine vc_topI ((((mI M 54 6) + 1) + 1) + 1) rfl ?_
  refine vc_iload_n dX12_four_15 rfl ?_
  refine vc_iload_n dX12_four_16 rfl ?_
  refine vc_ishrC dX12_four_17 1 0 rfl (by decide) rfl ?_
  refine vc_sipush dX12_four_18 rfl ?_
  refine vc_iandM dX12_four_21 256 8 rfl (by decide) rfl ?_
  refine vc_iastore dX12_four_22 (s_59 (St.I (St.I (St.I (St.I (St.I (St.I hS _ _ _) _ _ _) _ _ _) _ _ _) _ _ _) _ _ _)) (by omega) (by omega) ?_
  refine vc_aload_n dX12_four_23 rfl ?_
  refine vc_dup dX12_four_24 rfl ?_
  refine vc_getI dX12_four_25 flX12_112 (s_54 (St.I (St.I (St.I (St.I (St.I (St.I (St.I hS _ _ _) _ _ _) _ _ _) _ _ _) _ _ _) _ _ _) _ _ _)) rfl ?_
  refine vc_topI ((((mI M 54 6) + 1) + 1) + 1) rfl ?_
  refine vc_iconst dX12_four_28 rfl ?_
  refine vc_iaddE dX12_four_29 (by omega) (by omega) ?_
  refine vc_putI dX12_four_30 (plX12_112 _ rfl) (s_54 (St.I (St.I (St.I (St.I (St.I (St.I (St.I hS _ _ _) _ _ _) _ _ _) _ _ _) _ _ _) _ _ _) _ _ _)) rfl ?_
  refine vc_iincE dX12_four_33 rfl (by omega) (by omega) (by decide) rfl (show _ = [some (aR 54), some (aI v), some (aI (-8))] from rfl) ?_
  refine vc_goto dX12_four_36 ?_
  refine vc_iload_n dX12_four_3 rfl ?_
  refine vc_if_lt dX12_four_4 (fun h5 => ?_) (fun h5 => by exfalso; omega)
  refine vc_vret dX12_four_39 rfl (Nat.le_of_ble_eq_true rfl) (Nat.le_of_ble_eq_true rfl) ?_
  exact ⟨rfl, rfl⟩
theorem tX12_four {M : Mem} (hS : St M) (v : Int) : St (gX12_four M v) := by
  unfold gX12_four
  all_goals first | exact (St.I (St.I (St.I (St.I (St.I (St.I (St.I (St.I hS _ _ _) _ _ _) _ _ _) _ _ _) _ _ _) _ _ _) _ _ _) _ _ _)

theorem pb_fed (M : Mem) (v : Int) : mI (gX11_putBytes M v) 0 13 = mI M 0 13 + 4 := by show mI M 0 13 + 1 + 1 + 1 + 1 = _; omega
theorem fo_fed (M : Mem) (v : Int) : mI (gX12_four M v) 54 6 = mI M 54 6 + 4 := by show mI M 54 6 + 1 + 1 + 1 + 1 = _; omega
def gX11_feed (M : Mem) (a b c d e : Int) : Mem := if 280 < mI M 0 13 then M else gX11_putBytes (gX11_putBytes (gX11_putBytes (gX11_putBytes (gX11_putBytes M a) b) c) d) e
def fX11_feed (M : Mem) (a b c d e : Int) : Int := if 280 < mI M 0 13 then -1 else mI M 0 13 + 20
set_option maxRecDepth 4000 in
theorem qX11_feed {l : Launch} {M : Mem} (hS : St M) (hf : 0 ≤ mI M 0 13 ∧ mI M 0 13 ≤ 300) (a b c d e : Int) : Fn l mdX11_feed [aR 0, aI a, aI b, aI c, aI d, aI e] M (some (aI (fX11_feed M a b c d e))) (gX11_feed M a b c d e) := by
  refine Call.of [some (aR 0), some (aI a), some (aI b), some (aI c), some (aI d), some (aI e)] rfl (Nat.le_of_ble_eq_true rfl) rfl ?_
  refine vc_aload_n dX11_feed_0 rfl ?_
  refine vc_getI dX11_feed_1 flX11_103 (s_0 hS) rfl ?_
  refine vc_bipush dX11_feed_4 rfl ?_
  refine vc_iaddE dX11_feed_6 (by omega) (by omega) ?_
  refine vc_sipush dX11_feed_7 rfl ?_
  refine vc_icmp_le dX11_feed_10 (fun h1 => ?_) (fun h1 => ?_)
  · refine vc_aload_n dX11_feed_15 rfl ?_
    refine vc_iload_n dX11_feed_16 rfl ?_
    refine vc_callVU dX11_feed_17 (qX11_putBytes (M := M) hS (by omega) a) rfl okX11_putBytes viX11_putBytes lkX11_132 (s_0 hS) cl_11 rfl (Nat.le_of_ble_eq_true rfl) ⟨rfl, rfl⟩ (Nat.le_of_ble_eq_true rfl) (Nat.le_of_ble_eq_true rfl) (Nat.le_of_ble_eq_true rfl) ?_
    refine vc_aload_n dX11_feed_20 rfl ?_
    refine vc_iload_n dX11_feed_21 rfl ?_
    refine vc_callVU dX11_feed_22 (qX11_putBytes (M := (gX11_putBytes M a)) (tX11_putBytes hS a) (by rw [pb_fed]; omega) b) rfl okX11_putBytes viX11_putBytes lkX11_132 (s_0 (tX11_putBytes hS a)) cl_11 rfl (Nat.le_of_ble_eq_true rfl) ⟨rfl, rfl⟩ (Nat.le_of_ble_eq_true rfl) (Nat.le_of_ble_eq_true rfl) (Nat.le_of_ble_eq_true rfl) ?_
    refine vc_aload_n dX11_feed_25 rfl ?_
    refine vc_iload_n dX11_feed_26 rfl ?_
    refine vc_callVU dX11_feed_27 (qX11_putBytes (M := (gX11_putBytes (gX11_putBytes M a) b)) (tX11_putBytes (tX11_putBytes hS a) b) (by rw [pb_fed, pb_fed]; omega) c) rfl okX11_putBytes viX11_putBytes lkX11_132 (s_0 (tX11_putBytes (tX11_putBytes hS a) b)) cl_11 rfl (Nat.le_of_ble_eq_true rfl) ⟨rfl, rfl⟩ (Nat.le_of_ble_eq_true rfl) (Nat.le_of_ble_eq_true rfl) (Nat.le_of_ble_eq_true rfl) ?_
    refine vc_aload_n dX11_feed_30 rfl ?_
    refine vc_iload dX11_feed_31 rfl ?_
    refine vc_callVU dX11_feed_33 (qX11_putBytes (M := (gX11_putBytes (gX11_putBytes (gX11_putBytes M a) b) c)) (tX11_putBytes (tX11_putBytes (tX11_putBytes hS a) b) c) (by rw [pb_fed, pb_fed, pb_fed]; omega) d) rfl okX11_putBytes viX11_putBytes lkX11_132 (s_0 (tX11_putBytes (tX11_putBytes (tX11_putBytes hS a) b) c)) cl_11 rfl (Nat.le_of_ble_eq_true rfl) ⟨rfl, rfl⟩ (Nat.le_of_ble_eq_true rfl) (Nat.le_of_ble_eq_true rfl) (Nat.le_of_ble_eq_true rfl) ?_
    refine vc_aload_n dX11_feed_36 rfl ?_
    refine vc_iload dX11_feed_37 rfl ?_
    refine vc_callVU dX11_feed_39 (qX11_putBytes (M := (gX11_putBytes (gX11_putBytes (gX11_putBytes (gX11_putBytes M a) b) c) d)) (tX11_putBytes (tX11_putBytes (tX11_putBytes (tX11_putBytes hS a) b) c) d) (by rw [pb_fed, pb_fed, pb_fed, pb_fed]; omega) e) rfl okX11_putBytes viX11_putBytes lkX11_132 (s_0 (tX11_putBytes (tX11_putBytes (tX11_putBytes (tX11_putBytes hS a) b) c) d)) cl_11 rfl (Nat.le_of_ble_eq_true rfl) ⟨rfl, rfl⟩ (Nat.le_of_ble_eq_true rfl) (Nat.le_of_ble_eq_true rfl) (Nat.le_of_ble_eq_true rfl) ?_
    refine vc_aload_n dX11_feed_42 rfl ?_
    refine vc_getI dX11_feed_43 flX11_103 (s_0 (tX11_putBytes (tX11_putBytes (tX11_putBytes (tX11_putBytes (tX11_putBytes hS a) b) c) d) e)) rfl ?_
    refine vc_iret dX11_feed_46 rfl (Nat.le_of_ble_eq_true rfl) (Nat.le_of_ble_eq_true rfl) ?_
    have hh : ¬ 280 < mI M 0 13 := by omega
    exact ⟨by show some (aI _) = some (aI (fX11_feed M a b c d e)); rw [fX11_feed, if_neg hh, pb_fed, pb_fed, pb_fed, pb_fed, pb_fed]; congr 2; omega, by show _ = gX11_feed M a b c d e; rw [gX11_feed, if_neg hh]⟩
  · refine vc_iconst dX11_feed_13 rfl ?_
    refine vc_iret dX11_feed_14 rfl (Nat.le_of_ble_eq_true rfl) (Nat.le_of_ble_eq_true rfl) ?_
    have hh : 280 < mI M 0 13 := by omega
    exact ⟨by show some (aI (-1)) = some (aI (fX11_feed M a b c d e)); rw [fX11_feed, if_pos hh], by show _ = gX11_feed M a b c d e; rw [gX11_feed, if_pos hh]⟩
def gX12_feed (M : Mem) (a b c d e : Int) : Mem := if 280 < mI M 54 6 then M else gX12_four (gX12_four (gX12_four (gX12_four (gX12_four M a) b) c) d) e
def fX12_feed (M : Mem) (a b c d e : Int) : Int := if 280 < mI M 54 6 then -1 else mI M 54 6 + 20
set_option maxRecDepth 4000 in
theorem qX12_feed {l : Launch} {M : Mem} (hS : St M) (hf : 0 ≤ mI M 54 6 ∧ mI M 54 6 ≤ 300) (a b c d e : Int) : Fn l mdX12_feed [aR 54, aI a, aI b, aI c, aI d, aI e] M (some (aI (fX12_feed M a b c d e))) (gX12_feed M a b c d e) := by
  refine Call.of [some (aR 54), some (aI a), some (aI b), some (aI c), some (aI d), some (aI e)] rfl (Nat.le_of_ble_eq_true rfl) rfl ?_
  refine vc_aload_n dX12_feed_0 rfl ?_
  refine vc_getI dX12_feed_1 flX12_112 (s_54 hS) rfl ?_
  refine vc_bipush dX12_feed_4 rfl ?_
  refine vc_iaddE dX12_feed_6 (by omega) (by omega) ?_
  refine vc_sipush dX12_feed_7 rfl ?_
  refine vc_icmp_le dX12_feed_10 (fun h1 => ?_) (fun h1 => ?_)
  · refine vc_aload_n dX12_feed_15 rfl ?_
    refine vc_iload_n dX12_feed_16 rfl ?_
    refine vc_callVU dX12_feed_17 (qX12_four (M := M) hS (by omega) a) rfl okX12_four viX12_four lkX12_115 (s_54 hS) cl_12 rfl (Nat.le_of_ble_eq_true rfl) ⟨rfl, rfl⟩ (Nat.le_of_ble_eq_true rfl) (Nat.le_of_ble_eq_true rfl) (Nat.le_of_ble_eq_true rfl) ?_
    refine vc_aload_n dX12_feed_20 rfl ?_
    refine vc_iload_n dX12_feed_21 rfl ?_
    refine vc_callVU dX12_feed_22 (qX12_four (M := (gX12_four M a)) (tX12_four hS a) (by rw [fo_fed]; omega) b) rfl okX12_four viX12_four lkX12_115 (s_54 (tX12_four hS a)) cl_12 rfl (Nat.le_of_ble_eq_true rfl) ⟨rfl, rfl⟩ (Nat.le_of_ble_eq_true rfl) (Nat.le_of_ble_eq_true rfl) (Nat.le_of_ble_eq_true rfl) ?_
    refine vc_aload_n dX12_feed_25 rfl ?_
    refine vc_iload_n dX12_feed_26 rfl ?_
    refine vc_callVU dX12_feed_27 (qX12_four (M := (gX12_four (gX12_four M a) b)) (tX12_four (tX12_four hS a) b) (by rw [fo_fed, fo_fed]; omega) c) rfl okX12_four viX12_four lkX12_115 (s_54 (tX12_four (tX12_four hS a) b)) cl_12 rfl (Nat.le_of_ble_eq_true rfl) ⟨rfl, rfl⟩ (Nat.le_of_ble_eq_true rfl) (Nat.le_of_ble_eq_true rfl) (Nat.le_of_ble_eq_true rfl) ?_
    refine vc_aload_n dX12_feed_30 rfl ?_
    refine vc_iload dX12_feed_31 rfl ?_
    refine vc_callVU dX12_feed_33 (qX12_four (M := (gX12_four (gX12_four (gX12_four M a) b) c)) (tX12_four (tX12_four (tX12_four hS a) b) c) (by rw [fo_fed, fo_fed, fo_fed]; omega) d) rfl okX12_four viX12_four lkX12_115 (s_54 (tX12_four (tX12_four (tX12_four hS a) b) c)) cl_12 rfl (Nat.le_of_ble_eq_true rfl) ⟨rfl, rfl⟩ (Nat.le_of_ble_eq_true rfl) (Nat.le_of_ble_eq_true rfl) (Nat.le_of_ble_eq_true rfl) ?_
    refine vc_aload_n dX12_feed_36 rfl ?_
    refine vc_iload dX12_feed_37 rfl ?_
    refine vc_callVU dX12_feed_39 (qX12_four (M := (gX12_four (gX12_four (gX12_four (gX12_four M a) b) c) d)) (tX12_four (tX12_four (tX12_four (tX12_four hS a) b) c) d) (by rw [fo_fed, fo_fed, fo_fed, fo_fed]; omega) e) rfl okX12_four viX12_four lkX12_115 (s_54 (tX12_four (tX12_four (tX12_four (tX12_four hS a) b) c) d)) cl_12 rfl (Nat.le_of_ble_eq_true rfl) ⟨rfl, rfl⟩ (Nat.le_of_ble_eq_true rfl) (Nat.le_of_ble_eq_true rfl) (Nat.le_of_ble_eq_true rfl) ?_
    refine vc_aload_n dX12_feed_42 rfl ?_
    refine vc_getI dX12_feed_43 flX12_112 (s_54 (tX12_four (tX12_four (tX12_four (tX12_four (tX12_four hS a) b) c) d) e)) rfl ?_
    refine vc_iret dX12_feed_46 rfl (Nat.le_of_ble_eq_true rfl) (Nat.le_of_ble_eq_true rfl) ?_
    have hh : ¬ 280 < mI M 54 6 := by omega
    exact ⟨by show some (aI _) = some (aI (fX12_feed M a b c d e)); rw [fX12_feed, if_neg hh, fo_fed, fo_fed, fo_fed, fo_fed, fo_fed]; congr 2; omega, by show _ = gX12_feed M a b c d e; rw [gX12_feed, if_neg hh]⟩
  · refine vc_iconst dX12_feed_13 rfl ?_
    refine vc_iret dX12_feed_14 rfl (Nat.le_of_ble_eq_true rfl) (Nat.le_of_ble_eq_true rfl) ?_
    have hh : 280 < mI M 54 6 := by omega
    exact ⟨by show some (aI (-1)) = some (aI (fX12_feed M a b c d e)); rw [fX12_feed, if_pos hh], by show _ = gX12_feed M a b c d e; rw [gX12_feed, if_pos hh]⟩
/-! IMAGE AND BACK, of the class (written by wip/whole/p42.py) -/
/-! IMAGE AND BACK, of the reference (written by wip/whole/p43.py) -/
theorem mem_ext {M M2 : Mem} (h : M.1 = M2.1) (h1 : ∀ a b, mI M a b = mI M2 a b) (h2 : ∀ a b, mJ M a b = mJ M2 a b) (h3 : ∀ a b, mR M a b = mR M2 a b) : M = M2 := by
  obtain ⟨s1, i1, j1, r1⟩ := M
  obtain ⟨s2, i2, j2, r2⟩ := M2
  have e1 : i1 = i2 := funext fun a => funext fun b => h1 a b
  have e2 : j1 = j2 := funext fun a => funext fun b => h2 a b
  have e3 : r1 = r2 := funext fun a => funext fun b => h3 a b
  cases h; cases e1; cases e2; cases e3; rfl
theorem cpI_0 (M : Mem) (t f : Nat) : cpI M t f 0 0 0 = M := by
  refine mem_ext rfl (fun a b => ?_) (fun _ _ => rfl) (fun _ _ => rfl)
  rw [mI_cpI, if_neg (by omega)]
theorem cpI_step (M : Mem) (t f k : Nat) : sI (cpI M t f 0 0 k) t k (mI M f k) = cpI M t f 0 0 (k + 1) := by
  refine mem_ext rfl (fun a b => ?_) (fun _ _ => rfl) (fun _ _ => rfl)
  rw [mI_sI, mI_cpI, mI_cpI]
  by_cases h1 : a = t ∧ b = k
  · obtain ⟨rfl, rfl⟩ := h1
    rw [if_pos ⟨rfl, rfl⟩, if_pos (by omega)]
    congr 1
    omega
  · rw [if_neg h1]
    by_cases h2 : a = t ∧ 0 ≤ b ∧ b < 0 + k
    · rw [if_pos h2, if_pos (by omega)]
    · rw [if_neg h2, if_neg (by omega)]
set_option maxRecDepth 4000 in
theorem qX12_copy_i {l : Launch} {M : Mem} (hs1 : M.1[55]? = some (.inr (0, 589))) (hs2 : M.1[56]? = some (.inr (0, 589))) : Fn l mdX12_copy [aR 55, aR 56] M none (cpI M 56 55 0 0 589) := by
  have loop : ∀ (n k : Nat), k + n = 589 → VC l mdX12_copy 2 [some (aR 55), some (aR 56), some (aI (k : Int))] [] (cpI M 56 55 0 0 k) 0 0 (fun r M2 => r = none ∧ M2 = cpI M 56 55 0 0 589) := by
    intro n
    induction n with
    | zero =>
      intro k hk
      have e : k = 589 := by omega
      subst e
      refine vc_iload_n dX12_copy_2 rfl ?_
      refine vc_sipush dX12_copy_3 rfl ?_
      refine vc_icmp_ge dX12_copy_6 (fun h1 => ?_) (fun h1 => by exfalso; omega)
      refine vc_vret dX12_copy_21 rfl (Nat.le_of_ble_eq_true rfl) (Nat.le_of_ble_eq_true rfl) ?_
      exact ⟨rfl, rfl⟩
    | succ n ih =>
      intro k hk
      refine vc_iload_n dX12_copy_2 rfl ?_
      refine vc_sipush dX12_copy_3 rfl ?_
      refine vc_icmp_ge dX12_copy_6 (fun h2 => by exfalso; omega) (fun h2 => ?_)
      refine vc_aload_n dX12_copy_9 rfl ?_
      refine vc_iload_n dX12_copy_10 rfl ?_
      refine vc_aload_n dX12_copy_11 rfl ?_
      refine vc_iload_n dX12_copy_12 rfl ?_
      refine vc_iaload dX12_copy_13 hs1 (by omega) (by omega) ?_
      refine vc_iastore dX12_copy_14 hs2 (by omega) (by omega) ?_
      refine vc_iincE dX12_copy_15 rfl (by omega) (by omega) (by decide) rfl (show _ = [some (aR 55), some (aR 56), some (aI ((k : Int) + 1))] from rfl) ?_
      refine vc_goto dX12_copy_18 ?_
      have e1 : sI (cpI M 56 55 0 0 k) 56 (k : Int).toNat (mI (cpI M 56 55 0 0 k) 55 (k : Int).toNat) = cpI M 56 55 0 0 (k + 1) := by
        rw [Int.toNat_natCast, show mI (cpI M 56 55 0 0 k) 55 k = mI M 55 k from rfl, cpI_step]
      rw [e1, show (k : Int) + 1 = ((k + 1 : Nat) : Int) by omega]
      exact ih (k + 1) (by omega)
  refine Call.of [some (aR 55), some (aR 56), none] rfl (Nat.le_of_ble_eq_true rfl) rfl ?_
  refine vc_iconst dX12_copy_0 rfl ?_
  refine vc_istore_n dX12_copy_1 (by decide) rfl (show _ = [some (aR 55), some (aR 56), some (aI 0)] from rfl) ?_
  have h0 := loop 589 0 rfl
  rw [cpI_0] at h0
  exact h0
set_option maxRecDepth 4000 in
theorem qX12_copy_b {l : Launch} {M : Mem} (hs1 : M.1[56]? = some (.inr (0, 589))) (hs2 : M.1[55]? = some (.inr (0, 589))) : Fn l mdX12_copy [aR 56, aR 55] M none (cpI M 55 56 0 0 589) := by
  have loop : ∀ (n k : Nat), k + n = 589 → VC l mdX12_copy 2 [some (aR 56), some (aR 55), some (aI (k : Int))] [] (cpI M 55 56 0 0 k) 0 0 (fun r M2 => r = none ∧ M2 = cpI M 55 56 0 0 589) := by
    intro n
    induction n with
    | zero =>
      intro k hk
      have e : k = 589 := by omega
      subst e
      refine vc_iload_n dX12_copy_2 rfl ?_
      refine vc_sipush dX12_copy_3 rfl ?_
      refine vc_icmp_ge dX12_copy_6 (fun h1 => ?_) (fun h1 => by exfalso; omega)
      refine vc_vret dX12_copy_21 rfl (Nat.le_of_ble_eq_true rfl) (Nat.le_of_ble_eq_true rfl) ?_
      exact ⟨rfl, rfl⟩
    | succ n ih =>
      intro k hk
      refine vc_iload_n dX12_copy_2 rfl ?_
      refine vc_sipush dX12_copy_3 rfl ?_
      refine vc_icmp_ge dX12_copy_6 (fun h2 => by exfalso; omega) (fun h2 => ?_)
      refine vc_aload_n dX12_copy_9 rfl ?_
      refine vc_iload_n dX12_copy_10 rfl ?_
      refine vc_aload_n dX12_copy_11 rfl ?_
      refine vc_iload_n dX12_copy_12 rfl ?_
      refine vc_iaload dX12_copy_13 hs1 (by omega) (by omega) ?_
      refine vc_iastore dX12_copy_14 hs2 (by omega) (by omega) ?_
      refine vc_iincE dX12_copy_15 rfl (by omega) (by omega) (by decide) rfl (show _ = [some (aR 56), some (aR 55), some (aI ((k : Int) + 1))] from rfl) ?_
      refine vc_goto dX12_copy_18 ?_
      have e1 : sI (cpI M 55 56 0 0 k) 55 (k : Int).toNat (mI (cpI M 55 56 0 0 k) 56 (k : Int).toNat) = cpI M 55 56 0 0 (k + 1) := by
        rw [Int.toNat_natCast, show mI (cpI M 55 56 0 0 k) 56 k = mI M 56 k from rfl, cpI_step]
      rw [e1, show (k : Int) + 1 = ((k + 1 : Nat) : Int) by omega]
      exact ih (k + 1) (by omega)
  refine Call.of [some (aR 56), some (aR 55), none] rfl (Nat.le_of_ble_eq_true rfl) rfl ?_
  refine vc_iconst dX12_copy_0 rfl ?_
  refine vc_istore_n dX12_copy_1 (by decide) rfl (show _ = [some (aR 56), some (aR 55), some (aI 0)] from rfl) ?_
  have h0 := loop 589 0 rfl
  rw [cpI_0] at h0
  exact h0
def fX12_image (M : Mem)  : Int := mI (cpI M 56 55 0 0 589) 55 0
def gX12_image (M : Mem)  : Mem := (cpI M 56 55 0 0 589)
set_option maxRecDepth 4000 in
theorem qX12_image {l : Launch} {M : Mem} (hS : St M)   : Fn l mdX12_image [aR 54] M (some (aI (fX12_image M ))) (gX12_image M ) := by
  refine Call.of [some (aR 54)] rfl (Nat.le_of_ble_eq_true rfl) rfl ?_
  refine vc_aload_n dX12_image_0 rfl ?_
  refine vc_getR dX12_image_1 flX12_7 (s_54 hS) rfl (r_54_0 hS) ?_
  refine vc_aload_n dX12_image_4 rfl ?_
  refine vc_getR dX12_image_5 flX12_13 (s_54 hS) rfl (r_54_1 hS) ?_
  refine vc_callSU dX12_image_8 (qX12_copy_i (M := M) (s_55 hS) (s_56 hS)) rfl okX12_copy stX12_copy lkX12_79 rfl (Nat.le_of_ble_eq_true rfl) ⟨rfl, rfl⟩ (Nat.le_of_ble_eq_true rfl) (Nat.le_of_ble_eq_true rfl) (Nat.le_of_ble_eq_true rfl) ?_
  refine vc_aload_n dX12_image_11 rfl ?_
  refine vc_getR dX12_image_12 flX12_7 (s_54 (St.C hS _ _ _ _ _)) rfl (r_54_0 (St.C hS _ _ _ _ _)) ?_
  refine vc_iconst dX12_image_15 rfl ?_
  refine vc_iaload dX12_image_16 (s_55 (St.C hS _ _ _ _ _)) (by omega) (by omega) ?_
  refine vc_topI (mI (cpI M 56 55 0 0 589) 55 0) rfl ?_
  refine vc_iret dX12_image_17 rfl (Nat.le_of_ble_eq_true rfl) (Nat.le_of_ble_eq_true rfl) ?_
  exact ⟨rfl, rfl⟩
theorem tX12_image {M : Mem} (hS : St M)  : St (gX12_image M ) := by
  unfold gX12_image
  all_goals first | exact (St.C hS _ _ _ _ _)

def fX12_back (M : Mem)  : Int := mI (cpI M 55 56 0 0 589) 55 0
def gX12_back (M : Mem)  : Mem := (cpI M 55 56 0 0 589)
set_option maxRecDepth 4000 in
theorem qX12_back {l : Launch} {M : Mem} (hS : St M)   : Fn l mdX12_back [aR 54] M (some (aI (fX12_back M ))) (gX12_back M ) := by
  refine Call.of [some (aR 54)] rfl (Nat.le_of_ble_eq_true rfl) rfl ?_
  refine vc_aload_n dX12_back_0 rfl ?_
  refine vc_getR dX12_back_1 flX12_13 (s_54 hS) rfl (r_54_1 hS) ?_
  refine vc_aload_n dX12_back_4 rfl ?_
  refine vc_getR dX12_back_5 flX12_7 (s_54 hS) rfl (r_54_0 hS) ?_
  refine vc_callSU dX12_back_8 (qX12_copy_b (M := M) (s_56 hS) (s_55 hS)) rfl okX12_copy stX12_copy lkX12_79 rfl (Nat.le_of_ble_eq_true rfl) ⟨rfl, rfl⟩ (Nat.le_of_ble_eq_true rfl) (Nat.le_of_ble_eq_true rfl) (Nat.le_of_ble_eq_true rfl) ?_
  refine vc_aload_n dX12_back_11 rfl ?_
  refine vc_getR dX12_back_12 flX12_7 (s_54 (St.C hS _ _ _ _ _)) rfl (r_54_0 (St.C hS _ _ _ _ _)) ?_
  refine vc_iconst dX12_back_15 rfl ?_
  refine vc_iaload dX12_back_16 (s_55 (St.C hS _ _ _ _ _)) (by omega) (by omega) ?_
  refine vc_topI (mI (cpI M 55 56 0 0 589) 55 0) rfl ?_
  refine vc_iret dX12_back_17 rfl (Nat.le_of_ble_eq_true rfl) (Nat.le_of_ble_eq_true rfl) ?_
  exact ⟨rfl, rfl⟩
theorem tX12_back {M : Mem} (hS : St M)  : St (gX12_back M ) := by
  unfold gX12_back
  all_goals first | exact (St.C hS _ _ _ _ _)
/-! POWERS, LOWEST TERMS, of both (written by wip/whole/p44.py) -/
def powW (b : Int) : Nat → Int
  | 0 => 1
  | n + 1 => wL (powW b n * b)
theorem lessL_nil {L : List (Option AV)} : lessL [] L := fun i v h => by simp at h
theorem lessL_keep {x : Option AV} {L' L : List (Option AV)} (h : lessL L' L) : lessL (x :: L') (x :: L) := fun i v hv => by
  cases i with
  | zero => exact hv
  | succ i => rw [List.getElem?_cons_succ] at hv ⊢; exact h i v hv
theorem lessL_drop {x : Option AV} {L' L : List (Option AV)} (h : lessL L' L) : lessL (none :: L') (x :: L) := fun i v hv => by
  cases i with
  | zero => simp at hv
  | succ i => rw [List.getElem?_cons_succ] at hv ⊢; exact h i v hv
/-- the upper or the lower one of U by W in lowest terms -/
def lowT (U W : Nat) (low : Int) : Int := if W = 0 then (if low = 0 then 0 else 1) else if low = 0 then (U : Int) / (Nat.gcd U W : Nat) else (W : Int) / (Nat.gcd U W : Nat)
theorem gcd_next (a b : Nat) : Nat.gcd b (a % b) = Nat.gcd a b := by
  rw [Nat.gcd_comm b (a % b), ← Nat.gcd_rec b a, Nat.gcd_comm]
theorem qX11_power {l : Launch} {M : Mem} (b e : Int) (he : e ≤ 1000) : Fn l mdX11_power [aL b, aI e] M (some (aL (powW b e.toNat))) M := by
  have loop : ∀ (n k : Nat), k + n = e.toNat → VC l mdX11_power 5 [some (aL b), none, some (aI e), some (aL (powW b k)), none, some (aI (k : Int))] [] M 0 0 (fun r M2 => r = some (aL (powW b e.toNat)) ∧ M2 = M) := by
    intro n
    induction n with
    | zero =>
      intro k hk
      refine vc_iload dX11_power_5 rfl ?_
      refine vc_iload_n dX11_power_7 rfl ?_
      refine vc_icmp_ge dX11_power_8 (fun h1 => ?_) (fun h1 => by exfalso; omega)
      refine vc_lload_n dX11_power_21 rfl ?_
      refine vc_lret dX11_power_22 rfl (Nat.le_of_ble_eq_true rfl) (Nat.le_of_ble_eq_true rfl) ?_
      exact ⟨by rw [show k = e.toNat by omega], rfl⟩
    | succ n ih =>
      intro k hk
      refine vc_iload dX11_power_5 rfl ?_
      refine vc_iload_n dX11_power_7 rfl ?_
      refine vc_icmp_ge dX11_power_8 (fun h1 => by exfalso; omega) (fun h1 => ?_)
      refine vc_lload_n dX11_power_11 rfl ?_
      refine vc_lload_n dX11_power_12 rfl ?_
      refine vc_lmul dX11_power_13 ?_
      refine vc_lstore_n dX11_power_14 (by decide) rfl rfl (show _ = [some (aL b), none, some (aI e), some (aL (wL ((powW b k) * b))), none, some (aI (k : Int))] from rfl) ?_
      refine vc_iincE dX11_power_15 rfl (by omega) (by omega) (by decide) rfl (show _ = [some (aL b), none, some (aI e), some (aL (wL ((powW b k) * b))), none, some (aI ((k : Int) + 1))] from rfl) ?_
      refine vc_goto dX11_power_18 ?_
      rw [show (k : Int) + 1 = ((k + 1 : Nat) : Int) by omega]
      exact ih (k + 1) (by omega)
  refine Call.of [some (aL b), none, some (aI e), none, none, none] rfl (Nat.le_of_ble_eq_true rfl) rfl ?_
  refine vc_lconst dX11_power_0 ?_
  refine vc_topL 1 rfl ?_
  refine vc_lstore_n dX11_power_1 (by decide) rfl rfl (show _ = [some (aL b), none, some (aI e), some (aL 1), none, none] from rfl) ?_
  refine vc_iconst dX11_power_2 rfl ?_
  refine vc_istore dX11_power_3 (by decide) rfl (show _ = [some (aL b), none, some (aI e), some (aL 1), none, some (aI 0)] from rfl) ?_
  exact loop e.toNat 0 (by omega)
theorem qX12_power {l : Launch} {M : Mem} (b e : Int) (he : e ≤ 1000) : Fn l mdX12_power [aL b, aI e] M (some (aL (powW b e.toNat))) M := by
  have loop : ∀ (n k : Nat), k + n = e.toNat → VC l mdX12_power 5 [some (aL b), none, some (aI e), some (aL (powW b k)), none, some (aI (k : Int))] [] M 0 0 (fun r M2 => r = some (aL (powW b e.toNat)) ∧ M2 = M) := by
    intro n
    induction n with
    | zero =>
      intro k hk
      refine vc_iload dX12_power_5 rfl ?_
      refine vc_iload_n dX12_power_7 rfl ?_
      refine vc_icmp_ge dX12_power_8 (fun h1 => ?_) (fun h1 => by exfalso; omega)
      refine vc_lload_n dX12_power_21 rfl ?_
      refine vc_lret dX12_power_22 rfl (Nat.le_of_ble_eq_true rfl) (Nat.le_of_ble_eq_true rfl) ?_
      exact ⟨by rw [show k = e.toNat by omega], rfl⟩
    | succ n ih =>
      intro k hk
      refine vc_iload dX12_power_5 rfl ?_
      refine vc_iload_n dX12_power_7 rfl ?_
      refine vc_icmp_ge dX12_power_8 (fun h1 => by exfalso; omega) (fun h1 => ?_)
      refine vc_lload_n dX12_power_11 rfl ?_
      refine vc_lload_n dX12_power_12 rfl ?_
      refine vc_lmul dX12_power_13 ?_
      refine vc_lstore_n dX12_power_14 (by decide) rfl rfl (show _ = [some (aL b), none, some (aI e), some (aL (wL ((powW b k) * b))), none, some (aI (k : Int))] from rfl) ?_
      refine vc_iincE dX12_power_15 rfl (by omega) (by omega) (by decide) rfl (show _ = [some (aL b), none, some (aI e), some (aL (wL ((powW b k) * b))), none, some (aI ((k : Int) + 1))] from rfl) ?_
      refine vc_goto dX12_power_18 ?_
      rw [show (k : Int) + 1 = ((k + 1 : Nat) : Int) by omega]
      exact ih (k + 1) (by omega)
  refine Call.of [some (aL b), none, some (aI e), none, none, none] rfl (Nat.le_of_ble_eq_true rfl) rfl ?_
  refine vc_lconst dX12_power_0 ?_
  refine vc_topL 1 rfl ?_
  refine vc_lstore_n dX12_power_1 (by decide) rfl rfl (show _ = [some (aL b), none, some (aI e), some (aL 1), none, none] from rfl) ?_
  refine vc_iconst dX12_power_2 rfl ?_
  refine vc_istore dX12_power_3 (by decide) rfl (show _ = [some (aL b), none, some (aI e), some (aL 1), none, some (aI 0)] from rfl) ?_
  exact loop e.toNat 0 (by omega)
theorem qX12_common {l : Launch} {M : Mem} (U W : Nat) : Fn l mdX12_common [aL (U : Int), aL (W : Int)] M (some (aL (Nat.gcd U W : Nat))) M := by
  have loop : ∀ (n a b : Nat), b ≤ n → Nat.gcd a b = Nat.gcd U W → VC l mdX12_common 6 [some (aL (U : Int)), none, some (aL (W : Int)), none, some (aL (a : Int)), none, some (aL (b : Int)), none, none, none] [] M 0 0 (fun r M2 => r = some (aL (Nat.gcd U W : Nat)) ∧ M2 = M) := by
    intro n
    induction n with
    | zero =>
      intro a b hb hg
      refine vc_lload dX12_common_6 rfl ?_
      refine vc_lconst dX12_common_8 ?_
      refine vc_topL 0 rfl ?_
      refine vc_lif_eq dX12_common_9 dX12_common_10 (fun h1 => ?_) (fun h1 => by exfalso; omega)
      refine vc_lload dX12_common_31 rfl ?_
      refine vc_lret dX12_common_33 rfl (Nat.le_of_ble_eq_true rfl) (Nat.le_of_ble_eq_true rfl) ?_
      exact ⟨by rw [← hg, show b = 0 by omega, Nat.gcd_zero_right], rfl⟩
    | succ n ih =>
      intro a b hb hg
      refine vc_lload dX12_common_6 rfl ?_
      refine vc_lconst dX12_common_8 ?_
      refine vc_topL 0 rfl ?_
      refine vc_lif_eq dX12_common_9 dX12_common_10 (fun h1 => ?_) (fun h1 => ?_)
      · refine vc_lload dX12_common_31 rfl ?_
        refine vc_lret dX12_common_33 rfl (Nat.le_of_ble_eq_true rfl) (Nat.le_of_ble_eq_true rfl) ?_
        exact ⟨by rw [← hg, show b = 0 by omega, Nat.gcd_zero_right], rfl⟩
      · refine vc_lload dX12_common_13 rfl ?_
        refine vc_lload dX12_common_15 rfl ?_
        refine vc_lremE dX12_common_17 (by omega) (by omega) ?_
        refine vc_lstore dX12_common_18 (by decide) rfl rfl (show _ = [some (aL (U : Int)), none, some (aL (W : Int)), none, some (aL (a : Int)), none, some (aL (b : Int)), none, some (aL ((a : Int) % (b : Int))), none] from rfl) ?_
        refine vc_lload dX12_common_20 rfl ?_
        refine vc_lstore dX12_common_22 (by decide) rfl rfl (show _ = [some (aL (U : Int)), none, some (aL (W : Int)), none, some (aL (b : Int)), none, some (aL (b : Int)), none, some (aL ((a : Int) % (b : Int))), none] from rfl) ?_
        refine vc_lload dX12_common_24 rfl ?_
        refine vc_lstore dX12_common_26 (by decide) rfl rfl (show _ = [some (aL (U : Int)), none, some (aL (W : Int)), none, some (aL (b : Int)), none, some (aL ((a : Int) % (b : Int))), none, some (aL ((a : Int) % (b : Int))), none] from rfl) ?_
        refine vc_goto dX12_common_28 ?_
        refine vc_less [some (aL (U : Int)), none, some (aL (W : Int)), none, some (aL (b : Int)), none, some (aL ((a : Int) % (b : Int))), none, none, none] (lessL_keep (lessL_drop (lessL_keep (lessL_drop (lessL_keep (lessL_drop (lessL_keep (lessL_drop (lessL_drop (lessL_drop lessL_nil)))))))))) ?_
        have hb0 : 0 < b := by omega
        have hlt := Nat.mod_lt a hb0
        rw [show (a : Int) % (b : Int) = ((a % b : Nat) : Int) from (Int.natCast_emod a b).symm]
        exact ih b (a % b) (by omega) (by rw [gcd_next]; exact hg)
  refine Call.of [some (aL (U : Int)), none, some (aL (W : Int)), none, none, none, none, none, none, none] rfl (Nat.le_of_ble_eq_true rfl) rfl ?_
  refine vc_lload_n dX12_common_0 rfl ?_
  refine vc_lstore dX12_common_1 (by decide) rfl rfl (show _ = [some (aL (U : Int)), none, some (aL (W : Int)), none, some (aL (U : Int)), none, none, none, none, none] from rfl) ?_
  refine vc_lload_n dX12_common_3 rfl ?_
  refine vc_lstore dX12_common_4 (by decide) rfl rfl (show _ = [some (aL (U : Int)), none, some (aL (W : Int)), none, some (aL (U : Int)), none, some (aL (W : Int)), none, none, none] from rfl) ?_
  exact loop W U W (Nat.le_refl W) rfl
theorem qX12_part {l : Launch} {M : Mem} (U W : Nat) (low : Int) : Fn l mdX12_part [aL (U : Int), aL (W : Int), aI low] M (some (aL (lowT U W low))) M := by
  have hg : ¬ W = 0 → 0 < Nat.gcd U W := fun h => Nat.gcd_pos_of_pos_right U (by omega)
  refine Call.of [some (aL (U : Int)), none, some (aL (W : Int)), none, some (aI low)] rfl (Nat.le_of_ble_eq_true rfl) rfl ?_
  refine vc_lload_n dX12_part_0 rfl ?_
  refine vc_lconst dX12_part_1 ?_
  refine vc_topL 0 rfl ?_
  refine vc_lif_ne dX12_part_2 dX12_part_3 (fun h1 => ?_) (fun h1 => ?_)
  · refine vc_iload dX12_part_17 rfl ?_
    refine vc_if_eq dX12_part_19 (fun h2 => ?_) (fun h2 => ?_)
    · refine vc_lload_n dX12_part_26 rfl ?_
      refine vc_lload_n dX12_part_27 rfl ?_
      refine vc_lload_n dX12_part_28 rfl ?_
      refine vc_callSF dX12_part_29 (qX12_common (M := M) U W) rfl okX12_common stX12_common lkX12_461 rfl (Nat.le_of_ble_eq_true rfl) ⟨rfl, rfl⟩ (Nat.le_of_ble_eq_true rfl) (Nat.le_of_ble_eq_true rfl) (Nat.le_of_ble_eq_true rfl) ?_
      refine vc_ldivE dX12_part_32 (by first | omega | (have h9 := hg (by omega); omega)) (by first | omega | (have h9 := hg (by omega); omega)) ?_
      refine vc_lret dX12_part_33 rfl (Nat.le_of_ble_eq_true rfl) (Nat.le_of_ble_eq_true rfl) ?_
      refine ⟨?_, rfl⟩
      unfold lowT
      repeat' split
      all_goals first | rfl | (exfalso; omega) | (exfalso; have h9 := hg (by omega); omega)
    · refine vc_lload_n dX12_part_22 rfl ?_
      refine vc_goto dX12_part_23 ?_
      refine vc_lload_n dX12_part_27 rfl ?_
      refine vc_lload_n dX12_part_28 rfl ?_
      refine vc_callSF dX12_part_29 (qX12_common (M := M) U W) rfl okX12_common stX12_common lkX12_461 rfl (Nat.le_of_ble_eq_true rfl) ⟨rfl, rfl⟩ (Nat.le_of_ble_eq_true rfl) (Nat.le_of_ble_eq_true rfl) (Nat.le_of_ble_eq_true rfl) ?_
      refine vc_ldivE dX12_part_32 (by first | omega | (have h9 := hg (by omega); omega)) (by first | omega | (have h9 := hg (by omega); omega)) ?_
      refine vc_lret dX12_part_33 rfl (Nat.le_of_ble_eq_true rfl) (Nat.le_of_ble_eq_true rfl) ?_
      refine ⟨?_, rfl⟩
      unfold lowT
      repeat' split
      all_goals first | rfl | (exfalso; omega) | (exfalso; have h9 := hg (by omega); omega)
  · refine vc_iload dX12_part_6 rfl ?_
    refine vc_if_eq dX12_part_8 (fun h3 => ?_) (fun h3 => ?_)
    · refine vc_lconst dX12_part_15 ?_
      refine vc_topL 0 rfl ?_
      refine vc_lret dX12_part_16 rfl (Nat.le_of_ble_eq_true rfl) (Nat.le_of_ble_eq_true rfl) ?_
      refine ⟨?_, rfl⟩
      unfold lowT
      repeat' split
      all_goals first | rfl | (exfalso; omega) | (exfalso; have h9 := hg (by omega); omega)
    · refine vc_lconst dX12_part_11 ?_
      refine vc_topL 1 rfl ?_
      refine vc_goto dX12_part_12 ?_
      refine vc_lret dX12_part_16 rfl (Nat.le_of_ble_eq_true rfl) (Nat.le_of_ble_eq_true rfl) ?_
      refine ⟨?_, rfl⟩
      unfold lowT
      repeat' split
      all_goals first | rfl | (exfalso; omega) | (exfalso; have h9 := hg (by omega); omega)
set_option maxRecDepth 4000 in
theorem qX11_inLowestTerms {l : Launch} {M : Mem} (U W : Nat) (hW : W < 2 ^ 63) (low : Int) : Fn l mdX11_inLowestTerms [aL (U : Int), aL (W : Int), aI low] M (some (aL (lowT U W low))) M := by
  have hg : ¬ W = 0 → 0 < Nat.gcd U W := fun h => Nat.gcd_pos_of_pos_right U (by omega)
  have fin : VC l mdX11_inLowestTerms 45 [some (aL (U : Int)), none, some (aL (W : Int)), none, some (aI low), some (aL ((Nat.gcd U W : Nat) : Int)), none, none, none, none, none, none] [] M 0 0 (fun r M2 => r = some (aL (lowT U W low)) ∧ M2 = M) := by
    refine vc_lload_n dX11_inLowestTerms_45 rfl ?_
    refine vc_lconst dX11_inLowestTerms_46 ?_
    refine vc_topL 0 rfl ?_
    refine vc_lif_eq dX11_inLowestTerms_47 dX11_inLowestTerms_48 (fun h1 => ?_) (fun h1 => ?_)
    · refine vc_iload dX11_inLowestTerms_58 rfl ?_
      refine vc_if_eq dX11_inLowestTerms_60 (fun h2 => ?_) (fun h2 => ?_)
      · refine vc_lconst dX11_inLowestTerms_67 ?_
        refine vc_topL 0 rfl ?_
        refine vc_lret dX11_inLowestTerms_68 rfl (Nat.le_of_ble_eq_true rfl) (Nat.le_of_ble_eq_true rfl) ?_
        refine ⟨?_, rfl⟩
        unfold lowT
        repeat' split
        all_goals first | rfl | (exfalso; omega) | (exfalso; have h9 := hg (by omega); omega)
      · refine vc_lconst dX11_inLowestTerms_63 ?_
        refine vc_topL 1 rfl ?_
        refine vc_goto dX11_inLowestTerms_64 ?_
        refine vc_lret dX11_inLowestTerms_68 rfl (Nat.le_of_ble_eq_true rfl) (Nat.le_of_ble_eq_true rfl) ?_
        refine ⟨?_, rfl⟩
        unfold lowT
        repeat' split
        all_goals first | rfl | (exfalso; omega) | (exfalso; have h9 := hg (by omega); omega)
    · refine vc_lload dX11_inLowestTerms_51 rfl ?_
      refine vc_lconst dX11_inLowestTerms_53 ?_
      refine vc_topL 0 rfl ?_
      refine vc_lif_ne dX11_inLowestTerms_54 dX11_inLowestTerms_55 (fun h3 => ?_) (fun h3 => ?_)
      · refine vc_iload dX11_inLowestTerms_69 rfl ?_
        refine vc_if_eq dX11_inLowestTerms_71 (fun h4 => ?_) (fun h4 => ?_)
        · refine vc_lload_n dX11_inLowestTerms_81 rfl ?_
          refine vc_lload dX11_inLowestTerms_82 rfl ?_
          refine vc_ldivE dX11_inLowestTerms_84 (by first | omega | (have h9 := hg (by omega); omega)) (by first | omega | (have h9 := hg (by omega); omega)) ?_
          refine vc_lret dX11_inLowestTerms_85 rfl (Nat.le_of_ble_eq_true rfl) (Nat.le_of_ble_eq_true rfl) ?_
          refine ⟨?_, rfl⟩
          unfold lowT
          repeat' split
          all_goals first | rfl | (exfalso; omega) | (exfalso; have h9 := hg (by omega); omega)
        · refine vc_lload_n dX11_inLowestTerms_74 rfl ?_
          refine vc_lload dX11_inLowestTerms_75 rfl ?_
          refine vc_ldivE dX11_inLowestTerms_77 (by first | omega | (have h9 := hg (by omega); omega)) (by first | omega | (have h9 := hg (by omega); omega)) ?_
          refine vc_goto dX11_inLowestTerms_78 ?_
          refine vc_lret dX11_inLowestTerms_85 rfl (Nat.le_of_ble_eq_true rfl) (Nat.le_of_ble_eq_true rfl) ?_
          refine ⟨?_, rfl⟩
          unfold lowT
          repeat' split
          all_goals first | rfl | (exfalso; omega) | (exfalso; have h9 := hg (by omega); omega)
      · refine vc_iload dX11_inLowestTerms_58 rfl ?_
        refine vc_if_eq dX11_inLowestTerms_60 (fun h5 => ?_) (fun h5 => ?_)
        · refine vc_lconst dX11_inLowestTerms_67 ?_
          refine vc_topL 0 rfl ?_
          refine vc_lret dX11_inLowestTerms_68 rfl (Nat.le_of_ble_eq_true rfl) (Nat.le_of_ble_eq_true rfl) ?_
          refine ⟨?_, rfl⟩
          unfold lowT
          repeat' split
          all_goals first | rfl | (exfalso; omega) | (exfalso; have h9 := hg (by omega); omega)
        · refine vc_lconst dX11_inLowestTerms_63 ?_
          refine vc_topL 1 rfl ?_
          refine vc_goto dX11_inLowestTerms_64 ?_
          refine vc_lret dX11_inLowestTerms_68 rfl (Nat.le_of_ble_eq_true rfl) (Nat.le_of_ble_eq_true rfl) ?_
          refine ⟨?_, rfl⟩
          unfold lowT
          repeat' split
          all_goals first | rfl | (exfalso; omega) | (exfalso; have h9 := hg (by omega); omega)
  have loop : ∀ (k i a b : Nat), b ≤ a → a * b < 2 ^ k → i + k ≤ 1000 → Nat.gcd a b = Nat.gcd U W → VC l mdX11_inLowestTerms 9 [some (aL (U : Int)), none, some (aL (W : Int)), none, some (aI low), some (aL (a : Int)), none, some (aL (b : Int)), none, some (aI (i : Int)), none, none] [] M 0 0 (fun r M2 => r = some (aL (lowT U W low)) ∧ M2 = M) := by
    intro k
    induction k with
    | zero =>
      intro i a b hba hab hi hgc
      have hb0 : b = 0 := by
        rcases Nat.eq_zero_or_pos b with h | h
        · exact h
        · have := Nat.mul_pos (Nat.lt_of_lt_of_le h hba) h
          omega
      subst hb0
      rw [Nat.gcd_zero_right] at hgc
      refine vc_iload dX11_inLowestTerms_9 rfl ?_
      refine vc_sipush dX11_inLowestTerms_11 rfl ?_
      refine vc_icmp_ge dX11_inLowestTerms_14 (fun h1 => ?_) (fun h1 => ?_)
      · refine vc_less [some (aL (U : Int)), none, some (aL (W : Int)), none, some (aI low), some (aL (a : Int)), none, none, none, none, none, none] (lessL_keep (lessL_drop (lessL_keep (lessL_drop (lessL_keep (lessL_keep (lessL_drop (lessL_drop (lessL_drop (lessL_drop (lessL_drop (lessL_drop lessL_nil)))))))))))) ?_
        rw [hgc]
        exact fin
      · refine vc_lload dX11_inLowestTerms_17 rfl ?_
        refine vc_lconst dX11_inLowestTerms_19 ?_
        refine vc_topL 0 rfl ?_
        refine vc_lif_eq dX11_inLowestTerms_20 dX11_inLowestTerms_21 (fun h2 => ?_) (fun h2 => by exfalso; omega)
        refine vc_less [some (aL (U : Int)), none, some (aL (W : Int)), none, some (aI low), some (aL (a : Int)), none, none, none, none, none, none] (lessL_keep (lessL_drop (lessL_keep (lessL_drop (lessL_keep (lessL_keep (lessL_drop (lessL_drop (lessL_drop (lessL_drop (lessL_drop (lessL_drop lessL_nil)))))))))))) ?_
        rw [hgc]
        exact fin
    | succ k ih =>
      intro i a b hba hab hi hgc
      refine vc_iload dX11_inLowestTerms_9 rfl ?_
      refine vc_sipush dX11_inLowestTerms_11 rfl ?_
      refine vc_icmp_ge dX11_inLowestTerms_14 (fun h1 => by exfalso; omega) (fun h1 => ?_)
      refine vc_lload dX11_inLowestTerms_17 rfl ?_
      refine vc_lconst dX11_inLowestTerms_19 ?_
      refine vc_topL 0 rfl ?_
      refine vc_lif_eq dX11_inLowestTerms_20 dX11_inLowestTerms_21 (fun h2 => ?_) (fun h2 => ?_)
      · have hb0 : b = 0 := by omega
        rw [hb0, Nat.gcd_zero_right] at hgc
        refine vc_less [some (aL (U : Int)), none, some (aL (W : Int)), none, some (aI low), some (aL (a : Int)), none, none, none, none, none, none] (lessL_keep (lessL_drop (lessL_keep (lessL_drop (lessL_keep (lessL_keep (lessL_drop (lessL_drop (lessL_drop (lessL_drop (lessL_drop (lessL_drop lessL_nil)))))))))))) ?_
        rw [hgc]
        exact fin
      · refine vc_lload dX11_inLowestTerms_24 rfl ?_
        refine vc_lload dX11_inLowestTerms_26 rfl ?_
        refine vc_lremE dX11_inLowestTerms_28 (by omega) (by omega) ?_
        refine vc_lstore dX11_inLowestTerms_29 (by decide) rfl rfl (show _ = [some (aL (U : Int)), none, some (aL (W : Int)), none, some (aI low), some (aL (a : Int)), none, some (aL (b : Int)), none, some (aI (i : Int)), some (aL ((a : Int) % (b : Int))), none] from rfl) ?_
        refine vc_lload dX11_inLowestTerms_31 rfl ?_
        refine vc_lstore dX11_inLowestTerms_33 (by decide) rfl rfl (show _ = [some (aL (U : Int)), none, some (aL (W : Int)), none, some (aI low), some (aL (b : Int)), none, some (aL (b : Int)), none, some (aI (i : Int)), some (aL ((a : Int) % (b : Int))), none] from rfl) ?_
        refine vc_lload dX11_inLowestTerms_35 rfl ?_
        refine vc_lstore dX11_inLowestTerms_37 (by decide) rfl rfl (show _ = [some (aL (U : Int)), none, some (aL (W : Int)), none, some (aI low), some (aL (b : Int)), none, some (aL ((a : Int) % (b : Int))), none, some (aI (i : Int)), some (aL ((a : Int) % (b : Int))), none] from rfl) ?_
        refine vc_iincE dX11_inLowestTerms_39 rfl (by omega) (by omega) (by decide) rfl (show _ = [some (aL (U : Int)), none, some (aL (W : Int)), none, some (aI low), some (aL (b : Int)), none, some (aL ((a : Int) % (b : Int))), none, some (aI ((i : Int) + 1)), some (aL ((a : Int) % (b : Int))), none] from rfl) ?_
        refine vc_goto dX11_inLowestTerms_42 ?_
        refine vc_less [some (aL (U : Int)), none, some (aL (W : Int)), none, some (aI low), some (aL (b : Int)), none, some (aL ((a : Int) % (b : Int))), none, some (aI ((i : Int) + 1)), none, none] (lessL_keep (lessL_drop (lessL_keep (lessL_drop (lessL_keep (lessL_keep (lessL_drop (lessL_keep (lessL_drop (lessL_keep (lessL_drop (lessL_drop lessL_nil)))))))))))) ?_
        have hb0 : 0 < b := by omega
        have hlt := Nat.mod_lt a hb0
        have hdv := Nat.div_add_mod a b
        have hq : 1 ≤ a / b := (Nat.le_div_iff_mul_le hb0).mpr (by omega)
        have h2 : 2 * (b * (a % b)) ≤ a * b := by
          have e1 : b * 1 ≤ b * (a / b) := Nat.mul_le_mul_left b hq
          have e2 : (b + a % b) * b ≤ a * b := Nat.mul_le_mul_right b (by omega)
          have e3 : b * (a % b) ≤ b * b := Nat.mul_le_mul_left b (by omega)
          rw [Nat.add_mul, Nat.mul_comm (a % b) b] at e2
          omega
        rw [show (a : Int) % (b : Int) = ((a % b : Nat) : Int) from (Int.natCast_emod a b).symm, show (i : Int) + 1 = ((i + 1 : Nat) : Int) by omega]
        exact ih (i + 1) b (a % b) (by omega) (by rw [Nat.pow_succ] at hab; omega) (by omega) (by rw [gcd_next]; exact hgc)
  refine Call.of [some (aL (U : Int)), none, some (aL (W : Int)), none, some (aI low), none, none, none, none, none, none, none] rfl (Nat.le_of_ble_eq_true rfl) rfl ?_
  refine vc_lload_n dX11_inLowestTerms_0 rfl ?_
  refine vc_lstore dX11_inLowestTerms_1 (by decide) rfl rfl (show _ = [some (aL (U : Int)), none, some (aL (W : Int)), none, some (aI low), some (aL (U : Int)), none, none, none, none, none, none] from rfl) ?_
  refine vc_lload_n dX11_inLowestTerms_3 rfl ?_
  refine vc_lstore dX11_inLowestTerms_4 (by decide) rfl rfl (show _ = [some (aL (U : Int)), none, some (aL (W : Int)), none, some (aI low), some (aL (U : Int)), none, some (aL (W : Int)), none, none, none, none] from rfl) ?_
  refine vc_iconst dX11_inLowestTerms_6 rfl ?_
  refine vc_istore dX11_inLowestTerms_7 (by decide) rfl (show _ = [some (aL (U : Int)), none, some (aL (W : Int)), none, some (aI low), some (aL (U : Int)), none, some (aL (W : Int)), none, some (aI 0), none, none] from rfl) ?_
  refine vc_iload dX11_inLowestTerms_9 rfl ?_
  refine vc_sipush dX11_inLowestTerms_11 rfl ?_
  refine vc_icmp_ge dX11_inLowestTerms_14 (fun h1 => by exfalso; omega) (fun h1 => ?_)
  refine vc_lload dX11_inLowestTerms_17 rfl ?_
  refine vc_lconst dX11_inLowestTerms_19 ?_
  refine vc_topL 0 rfl ?_
  refine vc_lif_eq dX11_inLowestTerms_20 dX11_inLowestTerms_21 (fun h2 => ?_) (fun h2 => ?_)
  · have hw0 : W = 0 := by omega
    refine vc_less [some (aL (U : Int)), none, some (aL (W : Int)), none, some (aI low), some (aL (U : Int)), none, none, none, none, none, none] (lessL_keep (lessL_drop (lessL_keep (lessL_drop (lessL_keep (lessL_keep (lessL_drop (lessL_drop (lessL_drop (lessL_drop (lessL_drop (lessL_drop lessL_nil)))))))))))) ?_
    have e0 : U = Nat.gcd U W := by rw [hw0, Nat.gcd_zero_right]
    have f2 := fin
    rw [← e0] at f2
    exact f2
  · refine vc_lload dX11_inLowestTerms_24 rfl ?_
    refine vc_lload dX11_inLowestTerms_26 rfl ?_
    refine vc_lremE dX11_inLowestTerms_28 (by omega) (by omega) ?_
    refine vc_lstore dX11_inLowestTerms_29 (by decide) rfl rfl (show _ = [some (aL (U : Int)), none, some (aL (W : Int)), none, some (aI low), some (aL (U : Int)), none, some (aL (W : Int)), none, some (aI 0), some (aL ((U : Int) % (W : Int))), none] from rfl) ?_
    refine vc_lload dX11_inLowestTerms_31 rfl ?_
    refine vc_lstore dX11_inLowestTerms_33 (by decide) rfl rfl (show _ = [some (aL (U : Int)), none, some (aL (W : Int)), none, some (aI low), some (aL (W : Int)), none, some (aL (W : Int)), none, some (aI 0), some (aL ((U : Int) % (W : Int))), none] from rfl) ?_
    refine vc_lload dX11_inLowestTerms_35 rfl ?_
    refine vc_lstore dX11_inLowestTerms_37 (by decide) rfl rfl (show _ = [some (aL (U : Int)), none, some (aL (W : Int)), none, some (aI low), some (aL (W : Int)), none, some (aL ((U : Int) % (W : Int))), none, some (aI 0), some (aL ((U : Int) % (W : Int))), none] from rfl) ?_
    refine vc_iincE dX11_inLowestTerms_39 rfl (by omega) (by omega) (by decide) rfl (show _ = [some (aL (U : Int)), none, some (aL (W : Int)), none, some (aI low), some (aL (W : Int)), none, some (aL ((U : Int) % (W : Int))), none, some (aI 1), some (aL ((U : Int) % (W : Int))), none] from rfl) ?_
    refine vc_goto dX11_inLowestTerms_42 ?_
    refine vc_less [some (aL (U : Int)), none, some (aL (W : Int)), none, some (aI low), some (aL (W : Int)), none, some (aL ((U : Int) % (W : Int))), none, some (aI 1), none, none] (lessL_keep (lessL_drop (lessL_keep (lessL_drop (lessL_keep (lessL_keep (lessL_drop (lessL_keep (lessL_drop (lessL_keep (lessL_drop (lessL_drop lessL_nil)))))))))))) ?_
    have hb0 : 0 < W := by omega
    have hlt := Nat.mod_lt U hb0
    rw [show (U : Int) % (W : Int) = ((U % W : Nat) : Int) from (Int.natCast_emod U W).symm]
    refine loop 126 1 W (U % W) (by omega) ?_ (by omega) (gcd_next U W)
    have e1 : W * (U % W) < W * W := Nat.mul_lt_mul_of_pos_left hlt hb0
    have e2 : W * W ≤ 2 ^ 63 * 2 ^ 63 := Nat.mul_le_mul (Nat.le_of_lt hW) (Nat.le_of_lt hW)
    have e3 : (2 : Nat) ^ 63 * 2 ^ 63 = 2 ^ 126 := by rw [← Nat.pow_add]
    omega
/-! LISTEN, of both (written by wip/whole/p45.py) -/
theorem pow_bd {x : Int} (h0 : 0 ≤ x) (h1 : x ≤ 100) : ∀ k : Nat, 0 ≤ x ^ k ∧ x ^ k ≤ 100 ^ k
  | 0 => by simp
  | k + 1 => by
    obtain ⟨a, b⟩ := pow_bd h0 h1 k
    rw [Int.pow_succ, Int.pow_succ]
    exact ⟨Int.mul_nonneg a h0, Int.mul_le_mul b h1 h0 (Int.le_trans a b)⟩
theorem pow100 {k : Nat} (h : k ≤ 6) : (100 : Int) ^ k ≤ 1000000000000 := by
  match k, h with
  | 0, _ => decide
  | 1, _ => decide
  | 2, _ => decide
  | 3, _ => decide
  | 4, _ => decide
  | 5, _ => decide
  | 6, _ => decide
theorem powW_eq {x : Int} (h0 : 0 ≤ x) (h1 : x ≤ 100) : ∀ k : Nat, k ≤ 6 → powW x k = x ^ k
  | 0, _ => by simp [powW]
  | k + 1, h => by
    have e := powW_eq h0 h1 k (by omega)
    have b1 := pow_bd h0 h1 (k + 1)
    have b2 := pow100 h
    show wL (powW x k * x) = _
    rw [e, ← Int.pow_succ]
    show wL (x ^ (k + 1)) = x ^ (k + 1)
    exact wL_id (by omega) (by omega)
theorem mul_bd {u v : Int} (h1 : 0 ≤ u) (h2 : u ≤ 10) (h3 : 0 ≤ v) (h4 : v ≤ 10) : 0 ≤ u * v ∧ u * v ≤ 100 := ⟨Int.mul_nonneg h1 h3, Int.le_trans (Int.mul_le_mul h2 h4 h3 (by decide)) (by decide)⟩
theorem prod_bd {p q r : Int} (hp : 0 ≤ p ∧ p ≤ 100) (hq : 0 ≤ q ∧ q ≤ 100) (hr : 0 ≤ r ∧ r ≤ 100) (i j k : Nat) (h : i + j + k ≤ 6) : (0 ≤ p ^ i * q ^ j ∧ p ^ i * q ^ j ≤ 1000000000000) ∧ 0 ≤ p ^ i * q ^ j * r ^ k ∧ p ^ i * q ^ j * r ^ k ≤ 1000000000000 := by
  obtain ⟨a1, a2⟩ := pow_bd hp.1 hp.2 i
  obtain ⟨b1, b2⟩ := pow_bd hq.1 hq.2 j
  obtain ⟨c1, c2⟩ := pow_bd hr.1 hr.2 k
  have z : (0 : Int) ≤ 100 ^ i := Int.le_trans a1 a2
  have z2 : (0 : Int) ≤ 100 ^ i * 100 ^ j := Int.mul_nonneg z (Int.le_trans b1 b2)
  have d : p ^ i * q ^ j ≤ 100 ^ i * 100 ^ j := Int.mul_le_mul a2 b2 b1 z
  have d1 : 0 ≤ p ^ i * q ^ j := Int.mul_nonneg a1 b1
  have f : p ^ i * q ^ j * r ^ k ≤ 100 ^ i * 100 ^ j * 100 ^ k := Int.mul_le_mul d c2 c1 z2
  have f1 : 0 ≤ p ^ i * q ^ j * r ^ k := Int.mul_nonneg d1 c1
  rw [← Int.pow_add] at d f
  rw [← Int.pow_add] at f
  have g1 := pow100 (k := i + j) (by omega)
  have g2 := pow100 (k := i + j + k) h
  exact ⟨⟨d1, by omega⟩, f1, by omega⟩
def keptZ (n a b both one : Int) : Int := (100 - (10 - a) * (10 - a)) ^ both.toNat * (100 - (10 - a) * (10 - b)) ^ one.toNat * (100 - (10 - b) * (10 - b)) ^ (n - both - one).toNat
def lsI (n m a b both : Int) : Nat → Int → Int → Int
  | 0, _, best => best
  | k + 1, one, best => if one ≤ n - both ∧ one ≤ 2 * (m - both) then lsI n m a b both k (one + 1) (maxZ best (keptZ n a b both one)) else best
def lsO (n m a b : Int) : Nat → Int → Int → Int
  | 0, _, best => best
  | k + 1, both, best => if both ≤ n ∧ both ≤ m then lsO n m a b k (both + 1) (lsI n m a b both 8 0 best) else best
def okLs (n m a b : Int) : Prop := 1 ≤ n ∧ n ≤ 6 ∧ 0 ≤ m ∧ m ≤ 6 ∧ 0 ≤ a ∧ a ≤ 10 ∧ 0 ≤ b ∧ b ≤ 10
theorem kept_bd {n m a b both one : Int} (h : okLs n m a b) (h1 : 0 ≤ both) (h2 : 0 ≤ one) (h3 : one ≤ n - both) : (0 ≤ (100 - (10 - a) * (10 - a)) ^ both.toNat * (100 - (10 - a) * (10 - b)) ^ one.toNat ∧ (100 - (10 - a) * (10 - a)) ^ both.toNat * (100 - (10 - a) * (10 - b)) ^ one.toNat ≤ 1000000000000) ∧ 0 ≤ (100 - (10 - a) * (10 - a)) ^ both.toNat * (100 - (10 - a) * (10 - b)) ^ one.toNat * (100 - (10 - b) * (10 - b)) ^ (n - both - one).toNat ∧ (100 - (10 - a) * (10 - a)) ^ both.toNat * (100 - (10 - a) * (10 - b)) ^ one.toNat * (100 - (10 - b) * (10 - b)) ^ (n - both - one).toNat ≤ 1000000000000 := by
  obtain ⟨a1, a2, a3, a4, a5, a6, a7, a8⟩ := h
  have m1 := mul_bd (u := 10 - a) (v := 10 - a) (by omega) (by omega) (by omega) (by omega)
  have m2 := mul_bd (u := 10 - a) (v := 10 - b) (by omega) (by omega) (by omega) (by omega)
  have m3 := mul_bd (u := 10 - b) (v := 10 - b) (by omega) (by omega) (by omega) (by omega)
  exact prod_bd ⟨by omega, by omega⟩ ⟨by omega, by omega⟩ ⟨by omega, by omega⟩ _ _ _ (by omega)
theorem lsI_bd {n m a b both : Int} (h : okLs n m a b) (h1 : 0 ≤ both) : ∀ (k : Nat) (one best : Int), 0 ≤ one → 0 ≤ best → best ≤ 1000000000000 → 0 ≤ lsI n m a b both k one best ∧ lsI n m a b both k one best ≤ 1000000000000
  | 0, one, best, _, h3, h4 => ⟨h3, h4⟩
  | k + 1, one, best, h2, h3, h4 => by
    unfold lsI
    split
    · rename_i hc
      have hk := (kept_bd h h1 h2 hc.1).2
      refine lsI_bd h h1 k (one + 1) _ (by omega) ?_ ?_
      · unfold maxZ
        split
        · exact hk.1
        · exact h3
      · unfold maxZ
        split
        · exact hk.2
        · exact h4
    · exact ⟨h3, h4⟩
theorem lsO_bd {n m a b : Int} (h : okLs n m a b) : ∀ (k : Nat) (both best : Int), 0 ≤ both → 0 ≤ best → best ≤ 1000000000000 → 0 ≤ lsO n m a b k both best ∧ lsO n m a b k both best ≤ 1000000000000
  | 0, both, best, _, h3, h4 => ⟨h3, h4⟩
  | k + 1, both, best, h2, h3, h4 => by
    unfold lsO
    split
    · have hk := lsI_bd h h2 8 0 best (by decide) h3 h4
      exact lsO_bd h k (both + 1) _ (by omega) hk.1 hk.2
    · exact ⟨h3, h4⟩
/-- what listen answers -/
def fLis (n m a b low : Int) : Int := if 1 ≤ n ∧ n ≤ 6 ∧ 0 ≤ m ∧ m ≤ 6 ∧ 0 ≤ a ∧ a ≤ 10 ∧ 0 ≤ b ∧ b ≤ 10 then lowT (lsO n m a b 8 0 0).toNat ((100 : Int) ^ n.toNat).toNat low else -1
theorem qX11_termsZ {l : Launch} {M : Mem} (u w low : Int) (hu : 0 ≤ u) (hw : 0 ≤ w) (hw2 : w < 9223372036854775808) : Fn l mdX11_inLowestTerms [aL u, aL w, aI low] M (some (aL (lowT u.toNat w.toNat low))) M := by
  have h := qX11_inLowestTerms (l := l) (M := M) u.toNat w.toNat (by omega) low
  rw [Int.toNat_of_nonneg hu, Int.toNat_of_nonneg hw] at h
  exact h
theorem qX12_partZ {l : Launch} {M : Mem} (u w low : Int) (hu : 0 ≤ u) (hw : 0 ≤ w) : Fn l mdX12_part [aL u, aL w, aI low] M (some (aL (lowT u.toNat w.toNat low))) M := by
  have h := qX12_part (l := l) (M := M) u.toNat w.toNat low
  rw [Int.toNat_of_nonneg hu, Int.toNat_of_nonneg hw] at h
  exact h
theorem slip_iff (d : Int) : fX11_isSlip d = 0 ↔ ¬ (0 ≤ d ∧ d ≤ 10) := by unfold fX11_isSlip; split; (constructor <;> intro _ <;> first | rfl | omega); split <;> (constructor <;> intro _ <;> first | rfl | omega)
theorem qX11_powerE {l : Launch} {M : Mem} (b e : Int) (h0 : 0 ≤ b) (h1 : b ≤ 100) (h2 : e ≤ 6) : Fn l mdX11_power [aL b, aI e] M (some (aL (b ^ e.toNat))) M := by
  have h := qX11_power (l := l) (M := M) b e (by omega)
  rw [powW_eq h0 h1 e.toNat (by omega)] at h
  exact h
theorem qX12_powerE {l : Launch} {M : Mem} (b e : Int) (h0 : 0 ≤ b) (h1 : b ≤ 100) (h2 : e ≤ 6) : Fn l mdX12_power [aL b, aI e] M (some (aL (b ^ e.toNat))) M := by
  have h := qX12_power (l := l) (M := M) b e (by omega)
  rw [powW_eq h0 h1 e.toNat (by omega)] at h
  exact h
set_option maxRecDepth 4000 in
theorem qX11_listen {l : Launch} {M : Mem} (hS : St M) (n m a b low : Int) : Fn l mdX11_listen [aR 0, aI n, aI m, aI a, aI b, aI low] M (some (aL (fLis n m a b low))) M := by
  have main : okLs n m a b → VC l mdX11_listen 46 [some (aR 0), some (aI n), some (aI m), some (aI a), some (aI b), some (aI low), some (aL 0), none, some (aI 0), none, none, none] [] M 0 0 (fun r M2 => r = some (aL (fLis n m a b low)) ∧ M2 = M) := by
    intro hok
    obtain ⟨a1, a2, a3, a4, a5, a6, a7, a8⟩ := id hok
    have m1 := mul_bd (u := 10 - a) (v := 10 - a) (by omega) (by omega) (by omega) (by omega)
    have m2 := mul_bd (u := 10 - a) (v := 10 - b) (by omega) (by omega) (by omega) (by omega)
    have m3 := mul_bd (u := 10 - b) (v := 10 - b) (by omega) (by omega) (by omega) (by omega)
    have fin : ∀ best : Int, best = lsO n m a b 8 0 0 → 0 ≤ best → best ≤ 1000000000000 → VC l mdX11_listen 168 [some (aR 0), some (aI n), some (aI m), some (aI a), some (aI b), some (aI low), some (aL best), none, none, none, none, none] [] M 0 0 (fun r M2 => r = some (aL (fLis n m a b low)) ∧ M2 = M) := by
      intro best eb hb1 hb2
      have p1 := pow_bd (x := 100) (by decide) (by decide) n.toNat
      have p2 := pow100 (k := n.toNat) (by omega)
      refine vc_lload dX11_listen_168 rfl ?_
      refine vc_ldc2 dX11_listen_170 rfl klX11_320 ?_
      refine vc_iload_n dX11_listen_173 rfl ?_
      refine vc_callSF dX11_listen_174 (qX11_powerE (M := M) 100 n (by omega) (by omega) (by omega)) rfl okX11_power stX11_power lkX11_310 rfl (Nat.le_of_ble_eq_true rfl) ⟨rfl, rfl⟩ (Nat.le_of_ble_eq_true rfl) (Nat.le_of_ble_eq_true rfl) (Nat.le_of_ble_eq_true rfl) ?_
      refine vc_iload dX11_listen_177 rfl ?_
      refine vc_callSF dX11_listen_179 (qX11_termsZ (M := M) best (100 ^ n.toNat) low (by omega) (by omega) (by omega)) rfl okX11_inLowestTerms stX11_inLowestTerms lkX11_252 rfl (Nat.le_of_ble_eq_true rfl) ⟨rfl, rfl⟩ (Nat.le_of_ble_eq_true rfl) (Nat.le_of_ble_eq_true rfl) (Nat.le_of_ble_eq_true rfl) ?_
      refine vc_lret dX11_listen_182 rfl (Nat.le_of_ble_eq_true rfl) (Nat.le_of_ble_eq_true rfl) ?_
      refine ⟨?_, rfl⟩
      rw [eb, fLis, if_pos ⟨a1, a2, a3, a4, a5, a6, a7, a8⟩]
    have inner : ∀ (both : Int), 0 ≤ both → both ≤ n → both ≤ m → ∀ (k : Nat) (one best : Int), 0 ≤ one → one + k = 8 → 0 ≤ best → best ≤ 1000000000000 → VC l mdX11_listen 162 [some (aR 0), some (aI n), some (aI m), some (aI a), some (aI b), some (aI low), some (aL (lsI n m a b both k one best)), none, some (aI both), none, none, none] [] M 0 0 (fun r M2 => r = some (aL (fLis n m a b low)) ∧ M2 = M) → VC l mdX11_listen 61 [some (aR 0), some (aI n), some (aI m), some (aI a), some (aI b), some (aI low), some (aL best), none, some (aI both), some (aI one), none, none] [] M 0 0 (fun r M2 => r = some (aL (fLis n m a b low)) ∧ M2 = M) := by
      intro both hb0 hbn hbm k
      induction k with
      | zero =>
        intro one best g1 g2 g3 g4 kk
        refine vc_iload dX11_listen_61 rfl ?_
        refine vc_iload_n dX11_listen_63 rfl ?_
        refine vc_iload dX11_listen_64 rfl ?_
        refine vc_isubE dX11_listen_66 (by omega) (by omega) ?_
        refine vc_icmp_gt dX11_listen_67 (fun h1 => ?_) (fun h1 => by exfalso; omega)
        refine vc_less [some (aR 0), some (aI n), some (aI m), some (aI a), some (aI b), some (aI low), some (aL best), none, some (aI both), none, none, none] (lessL_keep (lessL_keep (lessL_keep (lessL_keep (lessL_keep (lessL_keep (lessL_keep (lessL_drop (lessL_keep (lessL_drop (lessL_drop (lessL_drop lessL_nil)))))))))))) ?_
        exact kk
      | succ k ih =>
        intro one best g1 g2 g3 g4 kk
        refine vc_iload dX11_listen_61 rfl ?_
        refine vc_iload_n dX11_listen_63 rfl ?_
        refine vc_iload dX11_listen_64 rfl ?_
        refine vc_isubE dX11_listen_66 (by omega) (by omega) ?_
        refine vc_icmp_gt dX11_listen_67 (fun h1 => ?_) (fun h1 => ?_)
        · refine vc_less [some (aR 0), some (aI n), some (aI m), some (aI a), some (aI b), some (aI low), some (aL best), none, some (aI both), none, none, none] (lessL_keep (lessL_keep (lessL_keep (lessL_keep (lessL_keep (lessL_keep (lessL_keep (lessL_drop (lessL_keep (lessL_drop (lessL_drop (lessL_drop lessL_nil)))))))))))) ?_
          have e0 : lsI n m a b both (k + 1) one best = best := by unfold lsI; rw [if_neg (by omega)]
          rw [e0] at kk
          exact kk
        · refine vc_iload dX11_listen_70 rfl ?_
          refine vc_iconst dX11_listen_72 rfl ?_
          refine vc_iload_n dX11_listen_73 rfl ?_
          refine vc_iload dX11_listen_74 rfl ?_
          refine vc_isubE dX11_listen_76 (by omega) (by omega) ?_
          refine vc_imulE dX11_listen_77 (by omega) (by omega) ?_
          refine vc_icmp_gt dX11_listen_78 (fun h2 => ?_) (fun h2 => ?_)
          · refine vc_less [some (aR 0), some (aI n), some (aI m), some (aI a), some (aI b), some (aI low), some (aL best), none, some (aI both), none, none, none] (lessL_keep (lessL_keep (lessL_keep (lessL_keep (lessL_keep (lessL_keep (lessL_keep (lessL_drop (lessL_keep (lessL_drop (lessL_drop (lessL_drop lessL_nil)))))))))))) ?_
            have e0 : lsI n m a b both (k + 1) one best = best := by unfold lsI; rw [if_neg (by omega)]
            rw [e0] at kk
            exact kk
          · refine vc_bipush dX11_listen_81 rfl ?_
            refine vc_bipush dX11_listen_83 rfl ?_
            refine vc_iload_n dX11_listen_85 rfl ?_
            refine vc_isubE dX11_listen_86 (by omega) (by omega) ?_
            refine vc_bipush dX11_listen_87 rfl ?_
            refine vc_iload_n dX11_listen_89 rfl ?_
            refine vc_isubE dX11_listen_90 (by omega) (by omega) ?_
            refine vc_imulE dX11_listen_91 (by omega) (by omega) ?_
            refine vc_isubE dX11_listen_92 (by omega) (by omega) ?_
            refine vc_i2l dX11_listen_93 ?_
            refine vc_iload dX11_listen_94 rfl ?_
            have hkb := kept_bd hok hb0 g1 (show one ≤ n - both by omega)
            refine vc_callSF dX11_listen_96 (qX11_powerE (M := M) (100 - ((10 - a) * (10 - a))) both (by omega) (by omega) (by omega)) rfl okX11_power stX11_power lkX11_310 rfl (Nat.le_of_ble_eq_true rfl) ⟨rfl, rfl⟩ (Nat.le_of_ble_eq_true rfl) (Nat.le_of_ble_eq_true rfl) (Nat.le_of_ble_eq_true rfl) ?_
            refine vc_bipush dX11_listen_99 rfl ?_
            refine vc_bipush dX11_listen_101 rfl ?_
            refine vc_iload_n dX11_listen_103 rfl ?_
            refine vc_isubE dX11_listen_104 (by omega) (by omega) ?_
            refine vc_bipush dX11_listen_105 rfl ?_
            refine vc_iload dX11_listen_107 rfl ?_
            refine vc_isubE dX11_listen_109 (by omega) (by omega) ?_
            refine vc_imulE dX11_listen_110 (by omega) (by omega) ?_
            refine vc_isubE dX11_listen_111 (by omega) (by omega) ?_
            refine vc_i2l dX11_listen_112 ?_
            refine vc_iload dX11_listen_113 rfl ?_
            refine vc_callSF dX11_listen_115 (qX11_powerE (M := M) (100 - ((10 - a) * (10 - b))) one (by omega) (by omega) (by omega)) rfl okX11_power stX11_power lkX11_310 rfl (Nat.le_of_ble_eq_true rfl) ⟨rfl, rfl⟩ (Nat.le_of_ble_eq_true rfl) (Nat.le_of_ble_eq_true rfl) (Nat.le_of_ble_eq_true rfl) ?_
            refine vc_lmulE dX11_listen_118 (by omega) (by omega) ?_
            refine vc_bipush dX11_listen_119 rfl ?_
            refine vc_bipush dX11_listen_121 rfl ?_
            refine vc_iload dX11_listen_123 rfl ?_
            refine vc_isubE dX11_listen_125 (by omega) (by omega) ?_
            refine vc_bipush dX11_listen_126 rfl ?_
            refine vc_iload dX11_listen_128 rfl ?_
            refine vc_isubE dX11_listen_130 (by omega) (by omega) ?_
            refine vc_imulE dX11_listen_131 (by omega) (by omega) ?_
            refine vc_isubE dX11_listen_132 (by omega) (by omega) ?_
            refine vc_i2l dX11_listen_133 ?_
            refine vc_iload_n dX11_listen_134 rfl ?_
            refine vc_iload dX11_listen_135 rfl ?_
            refine vc_isubE dX11_listen_137 (by omega) (by omega) ?_
            refine vc_iload dX11_listen_138 rfl ?_
            refine vc_isubE dX11_listen_140 (by omega) (by omega) ?_
            refine vc_callSF dX11_listen_141 (qX11_powerE (M := M) (100 - ((10 - b) * (10 - b))) ((n - both) - one) (by omega) (by omega) (by omega)) rfl okX11_power stX11_power lkX11_310 rfl (Nat.le_of_ble_eq_true rfl) ⟨rfl, rfl⟩ (Nat.le_of_ble_eq_true rfl) (Nat.le_of_ble_eq_true rfl) (Nat.le_of_ble_eq_true rfl) ?_
            refine vc_lmulE dX11_listen_144 (by omega) (by omega) ?_
            refine vc_lstore dX11_listen_145 (by decide) rfl rfl (show _ = [some (aR 0), some (aI n), some (aI m), some (aI a), some (aI b), some (aI low), some (aL best), none, some (aI both), some (aI one), some (aL ((((100 - ((10 - a) * (10 - a))) ^ both.toNat) * ((100 - ((10 - a) * (10 - b))) ^ one.toNat)) * ((100 - ((10 - b) * (10 - b))) ^ ((n - both) - one).toNat))), none] from rfl) ?_
            refine vc_lload dX11_listen_147 rfl ?_
            refine vc_lload dX11_listen_149 rfl ?_
            refine vc_mmaxL dX11_listen_151 lkX11_314 (Nat.le_of_ble_eq_true rfl) (Nat.le_of_ble_eq_true rfl) (Nat.le_of_ble_eq_true rfl) ?_
            refine vc_lstore dX11_listen_154 (by decide) rfl rfl (show _ = [some (aR 0), some (aI n), some (aI m), some (aI a), some (aI b), some (aI low), some (aL (maxZ best ((((100 - ((10 - a) * (10 - a))) ^ both.toNat) * ((100 - ((10 - a) * (10 - b))) ^ one.toNat)) * ((100 - ((10 - b) * (10 - b))) ^ ((n - both) - one).toNat)))), none, some (aI both), some (aI one), some (aL ((((100 - ((10 - a) * (10 - a))) ^ both.toNat) * ((100 - ((10 - a) * (10 - b))) ^ one.toNat)) * ((100 - ((10 - b) * (10 - b))) ^ ((n - both) - one).toNat))), none] from rfl) ?_
            refine vc_iincE dX11_listen_156 rfl (by omega) (by omega) (by decide) rfl (show _ = [some (aR 0), some (aI n), some (aI m), some (aI a), some (aI b), some (aI low), some (aL (maxZ best ((((100 - ((10 - a) * (10 - a))) ^ both.toNat) * ((100 - ((10 - a) * (10 - b))) ^ one.toNat)) * ((100 - ((10 - b) * (10 - b))) ^ ((n - both) - one).toNat)))), none, some (aI both), some (aI (one + 1)), some (aL ((((100 - ((10 - a) * (10 - a))) ^ both.toNat) * ((100 - ((10 - a) * (10 - b))) ^ one.toNat)) * ((100 - ((10 - b) * (10 - b))) ^ ((n - both) - one).toNat))), none] from rfl) ?_
            refine vc_goto dX11_listen_159 ?_
            refine vc_less [some (aR 0), some (aI n), some (aI m), some (aI a), some (aI b), some (aI low), some (aL (maxZ best ((((100 - ((10 - a) * (10 - a))) ^ both.toNat) * ((100 - ((10 - a) * (10 - b))) ^ one.toNat)) * ((100 - ((10 - b) * (10 - b))) ^ ((n - both) - one).toNat)))), none, some (aI both), some (aI (one + 1)), none, none] (lessL_keep (lessL_keep (lessL_keep (lessL_keep (lessL_keep (lessL_keep (lessL_keep (lessL_drop (lessL_keep (lessL_keep (lessL_drop (lessL_drop lessL_nil)))))))))))) ?_
            have hc : one ≤ n - both ∧ one ≤ 2 * (m - both) := ⟨by omega, by omega⟩
            have hk := (kept_bd hok hb0 g1 hc.1).2
            unfold lsI at kk
            rw [if_pos hc] at kk
            refine ih (one + 1) (maxZ best (keptZ n a b both one)) (by omega) (by omega) ?_ ?_ kk
            · unfold maxZ; split
              · exact hk.1
              · exact g3
            · unfold maxZ; split
              · exact hk.2
              · exact g4
    have outer : ∀ (k : Nat) (both best : Int), 0 ≤ both → both + k = 8 → 0 ≤ best → best ≤ 1000000000000 → lsO n m a b k both best = lsO n m a b 8 0 0 → VC l mdX11_listen 46 [some (aR 0), some (aI n), some (aI m), some (aI a), some (aI b), some (aI low), some (aL best), none, some (aI both), none, none, none] [] M 0 0 (fun r M2 => r = some (aL (fLis n m a b low)) ∧ M2 = M) := by
      intro k
      induction k with
      | zero =>
        intro both best g1 g2 g3 g4 he
        refine vc_iload dX11_listen_46 rfl ?_
        refine vc_iload_n dX11_listen_48 rfl ?_
        refine vc_icmp_gt dX11_listen_49 (fun h1 => ?_) (fun h1 => by exfalso; omega)
        refine vc_less [some (aR 0), some (aI n), some (aI m), some (aI a), some (aI b), some (aI low), some (aL best), none, none, none, none, none] (lessL_keep (lessL_keep (lessL_keep (lessL_keep (lessL_keep (lessL_keep (lessL_keep (lessL_drop (lessL_drop (lessL_drop (lessL_drop (lessL_drop lessL_nil)))))))))))) ?_
        exact fin best he g3 g4
      | succ k ih =>
        intro both best g1 g2 g3 g4 he
        refine vc_iload dX11_listen_46 rfl ?_
        refine vc_iload_n dX11_listen_48 rfl ?_
        refine vc_icmp_gt dX11_listen_49 (fun h1 => ?_) (fun h1 => ?_)
        · refine vc_less [some (aR 0), some (aI n), some (aI m), some (aI a), some (aI b), some (aI low), some (aL best), none, none, none, none, none] (lessL_keep (lessL_keep (lessL_keep (lessL_keep (lessL_keep (lessL_keep (lessL_keep (lessL_drop (lessL_drop (lessL_drop (lessL_drop (lessL_drop lessL_nil)))))))))))) ?_
          have e0 : lsO n m a b (k + 1) both best = best := by unfold lsO; rw [if_neg (by omega)]
          exact fin best (by rw [← he, e0]) g3 g4
        · refine vc_iload dX11_listen_52 rfl ?_
          refine vc_iload_n dX11_listen_54 rfl ?_
          refine vc_icmp_gt dX11_listen_55 (fun h2 => ?_) (fun h2 => ?_)
          · refine vc_less [some (aR 0), some (aI n), some (aI m), some (aI a), some (aI b), some (aI low), some (aL best), none, none, none, none, none] (lessL_keep (lessL_keep (lessL_keep (lessL_keep (lessL_keep (lessL_keep (lessL_keep (lessL_drop (lessL_drop (lessL_drop (lessL_drop (lessL_drop lessL_nil)))))))))))) ?_
            have e0 : lsO n m a b (k + 1) both best = best := by unfold lsO; rw [if_neg (by omega)]
            exact fin best (by rw [← he, e0]) g3 g4
          · refine vc_iconst dX11_listen_58 rfl ?_
            refine vc_istore dX11_listen_59 (by decide) rfl (show _ = [some (aR 0), some (aI n), some (aI m), some (aI a), some (aI b), some (aI low), some (aL best), none, some (aI both), some (aI 0), none, none] from rfl) ?_
            have hc : both ≤ n ∧ both ≤ m := ⟨by omega, by omega⟩
            have hk := lsI_bd hok g1 8 0 best (by decide) g3 g4
            unfold lsO at he
            rw [if_pos hc] at he
            refine inner both g1 hc.1 hc.2 8 0 best (by decide) (by decide) g3 g4 ?_
            refine vc_iincE dX11_listen_162 rfl (by omega) (by omega) (by decide) rfl (show _ = [some (aR 0), some (aI n), some (aI m), some (aI a), some (aI b), some (aI low), some (aL (lsI n m a b both 8 0 best)), none, some (aI (both + 1)), none, none, none] from rfl) ?_
            refine vc_goto dX11_listen_165 ?_
            exact ih (both + 1) _ (by omega) (by omega) hk.1 hk.2 (he.trans (by rfl))
    exact outer 8 0 0 (by decide) (by decide) (by decide) (by decide) rfl
  refine Call.of [some (aR 0), some (aI n), some (aI m), some (aI a), some (aI b), some (aI low), none, none, none, none, none, none] rfl (Nat.le_of_ble_eq_true rfl) rfl ?_
  refine vc_iload_n dX11_listen_0 rfl ?_
  refine vc_iconst dX11_listen_1 rfl ?_
  refine vc_icmp_lt dX11_listen_2 (fun h1 => ?_) (fun h1 => ?_)
  · refine vc_ldc2 dX11_listen_36 rfl klX11_239 ?_
    refine vc_lret dX11_listen_39 rfl (Nat.le_of_ble_eq_true rfl) (Nat.le_of_ble_eq_true rfl) ?_
    refine ⟨?_, rfl⟩
    rw [fLis, if_neg (by omega)]
  · refine vc_iload_n dX11_listen_5 rfl ?_
    refine vc_bipush dX11_listen_6 rfl ?_
    refine vc_icmp_gt dX11_listen_8 (fun h2 => ?_) (fun h2 => ?_)
    · refine vc_ldc2 dX11_listen_36 rfl klX11_239 ?_
      refine vc_lret dX11_listen_39 rfl (Nat.le_of_ble_eq_true rfl) (Nat.le_of_ble_eq_true rfl) ?_
      refine ⟨?_, rfl⟩
      rw [fLis, if_neg (by omega)]
    · refine vc_iload_n dX11_listen_11 rfl ?_
      refine vc_if_lt dX11_listen_12 (fun h3 => ?_) (fun h3 => ?_)
      · refine vc_ldc2 dX11_listen_36 rfl klX11_239 ?_
        refine vc_lret dX11_listen_39 rfl (Nat.le_of_ble_eq_true rfl) (Nat.le_of_ble_eq_true rfl) ?_
        refine ⟨?_, rfl⟩
        rw [fLis, if_neg (by omega)]
      · refine vc_iload_n dX11_listen_15 rfl ?_
        refine vc_bipush dX11_listen_16 rfl ?_
        refine vc_icmp_gt dX11_listen_18 (fun h4 => ?_) (fun h4 => ?_)
        · refine vc_ldc2 dX11_listen_36 rfl klX11_239 ?_
          refine vc_lret dX11_listen_39 rfl (Nat.le_of_ble_eq_true rfl) (Nat.le_of_ble_eq_true rfl) ?_
          refine ⟨?_, rfl⟩
          rw [fLis, if_neg (by omega)]
        · refine vc_iload_n dX11_listen_21 rfl ?_
          refine vc_callSF dX11_listen_22 (qX11_isSlip (M := M) a) rfl okX11_isSlip stX11_isSlip lkX11_307 rfl (Nat.le_of_ble_eq_true rfl) ⟨rfl, rfl⟩ (Nat.le_of_ble_eq_true rfl) (Nat.le_of_ble_eq_true rfl) (Nat.le_of_ble_eq_true rfl) ?_
          refine vc_if_eq dX11_listen_25 (fun h5 => ?_) (fun h5 => ?_)
          · refine vc_ldc2 dX11_listen_36 rfl klX11_239 ?_
            refine vc_lret dX11_listen_39 rfl (Nat.le_of_ble_eq_true rfl) (Nat.le_of_ble_eq_true rfl) ?_
            refine ⟨?_, rfl⟩
            simp only [slip_iff] at *
            rw [fLis, if_neg (by omega)]
          · refine vc_iload dX11_listen_28 rfl ?_
            refine vc_callSF dX11_listen_30 (qX11_isSlip (M := M) b) rfl okX11_isSlip stX11_isSlip lkX11_307 rfl (Nat.le_of_ble_eq_true rfl) ⟨rfl, rfl⟩ (Nat.le_of_ble_eq_true rfl) (Nat.le_of_ble_eq_true rfl) (Nat.le_of_ble_eq_true rfl) ?_
            refine vc_if_ne dX11_listen_33 (fun h6 => ?_) (fun h6 => ?_)
            · refine vc_lconst dX11_listen_40 ?_
              refine vc_topL 0 rfl ?_
              refine vc_lstore dX11_listen_41 (by decide) rfl rfl (show _ = [some (aR 0), some (aI n), some (aI m), some (aI a), some (aI b), some (aI low), some (aL 0), none, none, none, none, none] from rfl) ?_
              refine vc_iconst dX11_listen_43 rfl ?_
              refine vc_istore dX11_listen_44 (by decide) rfl (show _ = [some (aR 0), some (aI n), some (aI m), some (aI a), some (aI b), some (aI low), some (aL 0), none, some (aI 0), none, none, none] from rfl) ?_
              simp only [slip_iff] at *
              exact main ⟨by omega, by omega, by omega, by omega, by omega, by omega, by omega, by omega⟩
            · refine vc_ldc2 dX11_listen_36 rfl klX11_239 ?_
              refine vc_lret dX11_listen_39 rfl (Nat.le_of_ble_eq_true rfl) (Nat.le_of_ble_eq_true rfl) ?_
              refine ⟨?_, rfl⟩
              simp only [slip_iff] at *
              rw [fLis, if_neg (by omega)]
set_option maxRecDepth 4000 in
theorem qX12_listen {l : Launch} {M : Mem} (hS : St M) (n m a b low : Int) : Fn l mdX12_listen [aR 54, aI n, aI m, aI a, aI b, aI low] M (some (aL (fLis n m a b low))) M := by
  have main : okLs n m a b → VC l mdX12_listen 51 [some (aR 54), some (aI n), some (aI m), some (aI a), some (aI b), some (aI low), some (aL 0), none, some (aI 0), none, none, none] [] M 0 0 (fun r M2 => r = some (aL (fLis n m a b low)) ∧ M2 = M) := by
    intro hok
    obtain ⟨a1, a2, a3, a4, a5, a6, a7, a8⟩ := id hok
    have m1 := mul_bd (u := 10 - a) (v := 10 - a) (by omega) (by omega) (by omega) (by omega)
    have m2 := mul_bd (u := 10 - a) (v := 10 - b) (by omega) (by omega) (by omega) (by omega)
    have m3 := mul_bd (u := 10 - b) (v := 10 - b) (by omega) (by omega) (by omega) (by omega)
    have fin : ∀ best : Int, best = lsO n m a b 8 0 0 → 0 ≤ best → best ≤ 1000000000000 → VC l mdX12_listen 176 [some (aR 54), some (aI n), some (aI m), some (aI a), some (aI b), some (aI low), some (aL best), none, none, none, none, none] [] M 0 0 (fun r M2 => r = some (aL (fLis n m a b low)) ∧ M2 = M) := by
      intro best eb hb1 hb2
      have p1 := pow_bd (x := 100) (by decide) (by decide) n.toNat
      have p2 := pow100 (k := n.toNat) (by omega)
      refine vc_lload dX12_listen_176 rfl ?_
      refine vc_ldc2 dX12_listen_178 rfl klX12_522 ?_
      refine vc_iload_n dX12_listen_181 rfl ?_
      refine vc_callSF dX12_listen_182 (qX12_powerE (M := M) 100 n (by omega) (by omega) (by omega)) rfl okX12_power stX12_power lkX12_518 rfl (Nat.le_of_ble_eq_true rfl) ⟨rfl, rfl⟩ (Nat.le_of_ble_eq_true rfl) (Nat.le_of_ble_eq_true rfl) (Nat.le_of_ble_eq_true rfl) ?_
      refine vc_iload dX12_listen_185 rfl ?_
      refine vc_callSF dX12_listen_187 (qX12_partZ (M := M) best (100 ^ n.toNat) low (by omega) (by omega)) rfl okX12_part stX12_part lkX12_476 rfl (Nat.le_of_ble_eq_true rfl) ⟨rfl, rfl⟩ (Nat.le_of_ble_eq_true rfl) (Nat.le_of_ble_eq_true rfl) (Nat.le_of_ble_eq_true rfl) ?_
      refine vc_lret dX12_listen_190 rfl (Nat.le_of_ble_eq_true rfl) (Nat.le_of_ble_eq_true rfl) ?_
      refine ⟨?_, rfl⟩
      rw [eb, fLis, if_pos ⟨a1, a2, a3, a4, a5, a6, a7, a8⟩]
    have inner : ∀ (both : Int), 0 ≤ both → both ≤ n → both ≤ m → ∀ (k : Nat) (one best : Int), 0 ≤ one → one + k = 8 → 0 ≤ best → best ≤ 1000000000000 → VC l mdX12_listen 170 [some (aR 54), some (aI n), some (aI m), some (aI a), some (aI b), some (aI low), some (aL (lsI n m a b both k one best)), none, some (aI both), none, none, none] [] M 0 0 (fun r M2 => r = some (aL (fLis n m a b low)) ∧ M2 = M) → VC l mdX12_listen 66 [some (aR 54), some (aI n), some (aI m), some (aI a), some (aI b), some (aI low), some (aL best), none, some (aI both), some (aI one), none, none] [] M 0 0 (fun r M2 => r = some (aL (fLis n m a b low)) ∧ M2 = M) := by
      intro both hb0 hbn hbm k
      induction k with
      | zero =>
        intro one best g1 g2 g3 g4 kk
        refine vc_iload dX12_listen_66 rfl ?_
        refine vc_iload dX12_listen_68 rfl ?_
        refine vc_iaddE dX12_listen_70 (by omega) (by omega) ?_
        refine vc_iload_n dX12_listen_71 rfl ?_
        refine vc_icmp_gt dX12_listen_72 (fun h1 => ?_) (fun h1 => by exfalso; omega)
        refine vc_less [some (aR 54), some (aI n), some (aI m), some (aI a), some (aI b), some (aI low), some (aL best), none, some (aI both), none, none, none] (lessL_keep (lessL_keep (lessL_keep (lessL_keep (lessL_keep (lessL_keep (lessL_keep (lessL_drop (lessL_keep (lessL_drop (lessL_drop (lessL_drop lessL_nil)))))))))))) ?_
        exact kk
      | succ k ih =>
        intro one best g1 g2 g3 g4 kk
        refine vc_iload dX12_listen_66 rfl ?_
        refine vc_iload dX12_listen_68 rfl ?_
        refine vc_iaddE dX12_listen_70 (by omega) (by omega) ?_
        refine vc_iload_n dX12_listen_71 rfl ?_
        refine vc_icmp_gt dX12_listen_72 (fun h1 => ?_) (fun h1 => ?_)
        · refine vc_less [some (aR 54), some (aI n), some (aI m), some (aI a), some (aI b), some (aI low), some (aL best), none, some (aI both), none, none, none] (lessL_keep (lessL_keep (lessL_keep (lessL_keep (lessL_keep (lessL_keep (lessL_keep (lessL_drop (lessL_keep (lessL_drop (lessL_drop (lessL_drop lessL_nil)))))))))))) ?_
          have e0 : lsI n m a b both (k + 1) one best = best := by unfold lsI; rw [if_neg (by omega)]
          rw [e0] at kk
          exact kk
        · refine vc_iload dX12_listen_75 rfl ?_
          refine vc_iconst dX12_listen_77 rfl ?_
          refine vc_iload_n dX12_listen_78 rfl ?_
          refine vc_iload dX12_listen_79 rfl ?_
          refine vc_isubE dX12_listen_81 (by omega) (by omega) ?_
          refine vc_imulE dX12_listen_82 (by omega) (by omega) ?_
          refine vc_icmp_gt dX12_listen_83 (fun h2 => ?_) (fun h2 => ?_)
          · refine vc_less [some (aR 54), some (aI n), some (aI m), some (aI a), some (aI b), some (aI low), some (aL best), none, some (aI both), none, none, none] (lessL_keep (lessL_keep (lessL_keep (lessL_keep (lessL_keep (lessL_keep (lessL_keep (lessL_drop (lessL_keep (lessL_drop (lessL_drop (lessL_drop lessL_nil)))))))))))) ?_
            have e0 : lsI n m a b both (k + 1) one best = best := by unfold lsI; rw [if_neg (by omega)]
            rw [e0] at kk
            exact kk
          · refine vc_bipush dX12_listen_86 rfl ?_
            refine vc_bipush dX12_listen_88 rfl ?_
            refine vc_iload_n dX12_listen_90 rfl ?_
            refine vc_isubE dX12_listen_91 (by omega) (by omega) ?_
            refine vc_bipush dX12_listen_92 rfl ?_
            refine vc_iload_n dX12_listen_94 rfl ?_
            refine vc_isubE dX12_listen_95 (by omega) (by omega) ?_
            refine vc_imulE dX12_listen_96 (by omega) (by omega) ?_
            refine vc_isubE dX12_listen_97 (by omega) (by omega) ?_
            refine vc_i2l dX12_listen_98 ?_
            refine vc_iload dX12_listen_99 rfl ?_
            have hkb := kept_bd hok hb0 g1 (show one ≤ n - both by omega)
            refine vc_callSF dX12_listen_101 (qX12_powerE (M := M) (100 - ((10 - a) * (10 - a))) both (by omega) (by omega) (by omega)) rfl okX12_power stX12_power lkX12_518 rfl (Nat.le_of_ble_eq_true rfl) ⟨rfl, rfl⟩ (Nat.le_of_ble_eq_true rfl) (Nat.le_of_ble_eq_true rfl) (Nat.le_of_ble_eq_true rfl) ?_
            refine vc_bipush dX12_listen_104 rfl ?_
            refine vc_bipush dX12_listen_106 rfl ?_
            refine vc_iload_n dX12_listen_108 rfl ?_
            refine vc_isubE dX12_listen_109 (by omega) (by omega) ?_
            refine vc_bipush dX12_listen_110 rfl ?_
            refine vc_iload dX12_listen_112 rfl ?_
            refine vc_isubE dX12_listen_114 (by omega) (by omega) ?_
            refine vc_imulE dX12_listen_115 (by omega) (by omega) ?_
            refine vc_isubE dX12_listen_116 (by omega) (by omega) ?_
            refine vc_i2l dX12_listen_117 ?_
            refine vc_iload dX12_listen_118 rfl ?_
            refine vc_callSF dX12_listen_120 (qX12_powerE (M := M) (100 - ((10 - a) * (10 - b))) one (by omega) (by omega) (by omega)) rfl okX12_power stX12_power lkX12_518 rfl (Nat.le_of_ble_eq_true rfl) ⟨rfl, rfl⟩ (Nat.le_of_ble_eq_true rfl) (Nat.le_of_ble_eq_true rfl) (Nat.le_of_ble_eq_true rfl) ?_
            refine vc_lmulE dX12_listen_123 (by omega) (by omega) ?_
            refine vc_bipush dX12_listen_124 rfl ?_
            refine vc_bipush dX12_listen_126 rfl ?_
            refine vc_iload dX12_listen_128 rfl ?_
            refine vc_isubE dX12_listen_130 (by omega) (by omega) ?_
            refine vc_bipush dX12_listen_131 rfl ?_
            refine vc_iload dX12_listen_133 rfl ?_
            refine vc_isubE dX12_listen_135 (by omega) (by omega) ?_
            refine vc_imulE dX12_listen_136 (by omega) (by omega) ?_
            refine vc_isubE dX12_listen_137 (by omega) (by omega) ?_
            refine vc_i2l dX12_listen_138 ?_
            refine vc_iload_n dX12_listen_139 rfl ?_
            refine vc_iload dX12_listen_140 rfl ?_
            refine vc_isubE dX12_listen_142 (by omega) (by omega) ?_
            refine vc_iload dX12_listen_143 rfl ?_
            refine vc_isubE dX12_listen_145 (by omega) (by omega) ?_
            refine vc_callSF dX12_listen_146 (qX12_powerE (M := M) (100 - ((10 - b) * (10 - b))) ((n - both) - one) (by omega) (by omega) (by omega)) rfl okX12_power stX12_power lkX12_518 rfl (Nat.le_of_ble_eq_true rfl) ⟨rfl, rfl⟩ (Nat.le_of_ble_eq_true rfl) (Nat.le_of_ble_eq_true rfl) (Nat.le_of_ble_eq_true rfl) ?_
            refine vc_lmulE dX12_listen_149 (by omega) (by omega) ?_
            refine vc_lstore dX12_listen_150 (by decide) rfl rfl (show _ = [some (aR 54), some (aI n), some (aI m), some (aI a), some (aI b), some (aI low), some (aL best), none, some (aI both), some (aI one), some (aL ((((100 - ((10 - a) * (10 - a))) ^ both.toNat) * ((100 - ((10 - a) * (10 - b))) ^ one.toNat)) * ((100 - ((10 - b) * (10 - b))) ^ ((n - both) - one).toNat))), none] from rfl) ?_
            refine vc_lload dX12_listen_152 rfl ?_
            refine vc_lload dX12_listen_154 rfl ?_
            refine vc_lif_le dX12_listen_156 dX12_listen_157 (fun h3 => ?_) (fun h3 => ?_)
            · refine vc_iincE dX12_listen_164 rfl (by omega) (by omega) (by decide) rfl (show _ = [some (aR 54), some (aI n), some (aI m), some (aI a), some (aI b), some (aI low), some (aL best), none, some (aI both), some (aI (one + 1)), some (aL ((((100 - ((10 - a) * (10 - a))) ^ both.toNat) * ((100 - ((10 - a) * (10 - b))) ^ one.toNat)) * ((100 - ((10 - b) * (10 - b))) ^ ((n - both) - one).toNat))), none] from rfl) ?_
              refine vc_goto dX12_listen_167 ?_
              refine vc_less [some (aR 54), some (aI n), some (aI m), some (aI a), some (aI b), some (aI low), some (aL best), none, some (aI both), some (aI (one + 1)), none, none] (lessL_keep (lessL_keep (lessL_keep (lessL_keep (lessL_keep (lessL_keep (lessL_keep (lessL_drop (lessL_keep (lessL_keep (lessL_drop (lessL_drop lessL_nil)))))))))))) ?_
              have hc : one ≤ n - both ∧ one ≤ 2 * (m - both) := ⟨by omega, by omega⟩
              have hk := (kept_bd hok hb0 g1 hc.1).2
              unfold lsI at kk
              rw [if_pos hc] at kk
              rw [show maxZ best (keptZ n a b both one) = best by unfold maxZ; rw [if_neg (by unfold keptZ; omega)]] at kk
              exact ih (one + 1) best (by omega) (by omega) g3 g4 kk
            · refine vc_lload dX12_listen_160 rfl ?_
              refine vc_lstore dX12_listen_162 (by decide) rfl rfl (show _ = [some (aR 54), some (aI n), some (aI m), some (aI a), some (aI b), some (aI low), some (aL ((((100 - ((10 - a) * (10 - a))) ^ both.toNat) * ((100 - ((10 - a) * (10 - b))) ^ one.toNat)) * ((100 - ((10 - b) * (10 - b))) ^ ((n - both) - one).toNat))), none, some (aI both), some (aI one), some (aL ((((100 - ((10 - a) * (10 - a))) ^ both.toNat) * ((100 - ((10 - a) * (10 - b))) ^ one.toNat)) * ((100 - ((10 - b) * (10 - b))) ^ ((n - both) - one).toNat))), none] from rfl) ?_
              refine vc_iincE dX12_listen_164 rfl (by omega) (by omega) (by decide) rfl (show _ = [some (aR 54), some (aI n), some (aI m), some (aI a), some (aI b), some (aI low), some (aL ((((100 - ((10 - a) * (10 - a))) ^ both.toNat) * ((100 - ((10 - a) * (10 - b))) ^ one.toNat)) * ((100 - ((10 - b) * (10 - b))) ^ ((n - both) - one).toNat))), none, some (aI both), some (aI (one + 1)), some (aL ((((100 - ((10 - a) * (10 - a))) ^ both.toNat) * ((100 - ((10 - a) * (10 - b))) ^ one.toNat)) * ((100 - ((10 - b) * (10 - b))) ^ ((n - both) - one).toNat))), none] from rfl) ?_
              refine vc_goto dX12_listen_167 ?_
              refine vc_less [some (aR 54), some (aI n), some (aI m), some (aI a), some (aI b), some (aI low), some (aL ((((100 - ((10 - a) * (10 - a))) ^ both.toNat) * ((100 - ((10 - a) * (10 - b))) ^ one.toNat)) * ((100 - ((10 - b) * (10 - b))) ^ ((n - both) - one).toNat))), none, some (aI both), some (aI (one + 1)), none, none] (lessL_keep (lessL_keep (lessL_keep (lessL_keep (lessL_keep (lessL_keep (lessL_keep (lessL_drop (lessL_keep (lessL_keep (lessL_drop (lessL_drop lessL_nil)))))))))))) ?_
              have hc : one ≤ n - both ∧ one ≤ 2 * (m - both) := ⟨by omega, by omega⟩
              have hk := (kept_bd hok hb0 g1 hc.1).2
              unfold lsI at kk
              rw [if_pos hc] at kk
              rw [show maxZ best (keptZ n a b both one) = keptZ n a b both one by unfold maxZ; rw [if_pos (by unfold keptZ; omega)]] at kk
              exact ih (one + 1) (keptZ n a b both one) (by omega) (by omega) hk.1 hk.2 kk
    have outer : ∀ (k : Nat) (both best : Int), 0 ≤ both → both + k = 8 → 0 ≤ best → best ≤ 1000000000000 → lsO n m a b k both best = lsO n m a b 8 0 0 → VC l mdX12_listen 51 [some (aR 54), some (aI n), some (aI m), some (aI a), some (aI b), some (aI low), some (aL best), none, some (aI both), none, none, none] [] M 0 0 (fun r M2 => r = some (aL (fLis n m a b low)) ∧ M2 = M) := by
      intro k
      induction k with
      | zero =>
        intro both best g1 g2 g3 g4 he
        refine vc_iload dX12_listen_51 rfl ?_
        refine vc_iload_n dX12_listen_53 rfl ?_
        refine vc_icmp_gt dX12_listen_54 (fun h1 => ?_) (fun h1 => by exfalso; omega)
        refine vc_less [some (aR 54), some (aI n), some (aI m), some (aI a), some (aI b), some (aI low), some (aL best), none, none, none, none, none] (lessL_keep (lessL_keep (lessL_keep (lessL_keep (lessL_keep (lessL_keep (lessL_keep (lessL_drop (lessL_drop (lessL_drop (lessL_drop (lessL_drop lessL_nil)))))))))))) ?_
        exact fin best he g3 g4
      | succ k ih =>
        intro both best g1 g2 g3 g4 he
        refine vc_iload dX12_listen_51 rfl ?_
        refine vc_iload_n dX12_listen_53 rfl ?_
        refine vc_icmp_gt dX12_listen_54 (fun h1 => ?_) (fun h1 => ?_)
        · refine vc_less [some (aR 54), some (aI n), some (aI m), some (aI a), some (aI b), some (aI low), some (aL best), none, none, none, none, none] (lessL_keep (lessL_keep (lessL_keep (lessL_keep (lessL_keep (lessL_keep (lessL_keep (lessL_drop (lessL_drop (lessL_drop (lessL_drop (lessL_drop lessL_nil)))))))))))) ?_
          have e0 : lsO n m a b (k + 1) both best = best := by unfold lsO; rw [if_neg (by omega)]
          exact fin best (by rw [← he, e0]) g3 g4
        · refine vc_iload dX12_listen_57 rfl ?_
          refine vc_iload_n dX12_listen_59 rfl ?_
          refine vc_icmp_gt dX12_listen_60 (fun h2 => ?_) (fun h2 => ?_)
          · refine vc_less [some (aR 54), some (aI n), some (aI m), some (aI a), some (aI b), some (aI low), some (aL best), none, none, none, none, none] (lessL_keep (lessL_keep (lessL_keep (lessL_keep (lessL_keep (lessL_keep (lessL_keep (lessL_drop (lessL_drop (lessL_drop (lessL_drop (lessL_drop lessL_nil)))))))))))) ?_
            have e0 : lsO n m a b (k + 1) both best = best := by unfold lsO; rw [if_neg (by omega)]
            exact fin best (by rw [← he, e0]) g3 g4
          · refine vc_iconst dX12_listen_63 rfl ?_
            refine vc_istore dX12_listen_64 (by decide) rfl (show _ = [some (aR 54), some (aI n), some (aI m), some (aI a), some (aI b), some (aI low), some (aL best), none, some (aI both), some (aI 0), none, none] from rfl) ?_
            have hc : both ≤ n ∧ both ≤ m := ⟨by omega, by omega⟩
            have hk := lsI_bd hok g1 8 0 best (by decide) g3 g4
            unfold lsO at he
            rw [if_pos hc] at he
            refine inner both g1 hc.1 hc.2 8 0 best (by decide) (by decide) g3 g4 ?_
            refine vc_iincE dX12_listen_170 rfl (by omega) (by omega) (by decide) rfl (show _ = [some (aR 54), some (aI n), some (aI m), some (aI a), some (aI b), some (aI low), some (aL (lsI n m a b both 8 0 best)), none, some (aI (both + 1)), none, none, none] from rfl) ?_
            refine vc_goto dX12_listen_173 ?_
            exact ih (both + 1) _ (by omega) (by omega) hk.1 hk.2 (he.trans (by rfl))
    exact outer 8 0 0 (by decide) (by decide) (by decide) (by decide) rfl
  refine Call.of [some (aR 54), some (aI n), some (aI m), some (aI a), some (aI b), some (aI low), none, none, none, none, none, none] rfl (Nat.le_of_ble_eq_true rfl) rfl ?_
  refine vc_iload_n dX12_listen_0 rfl ?_
  refine vc_iconst dX12_listen_1 rfl ?_
  refine vc_bipush dX12_listen_2 rfl ?_
  refine vc_callSF dX12_listen_4 (qX12_isIn (M := M) n 1 6) rfl okX12_isIn stX12_isIn lkX12_83 rfl (Nat.le_of_ble_eq_true rfl) ⟨rfl, rfl⟩ (Nat.le_of_ble_eq_true rfl) (Nat.le_of_ble_eq_true rfl) (Nat.le_of_ble_eq_true rfl) ?_
  refine vc_if_eq dX12_listen_7 (fun h1 => ?_) (fun h1 => ?_)
  · refine vc_ldc2 dX12_listen_41 rfl klX12_474 ?_
    refine vc_lret dX12_listen_44 rfl (Nat.le_of_ble_eq_true rfl) (Nat.le_of_ble_eq_true rfl) ?_
    refine ⟨?_, rfl⟩
    simp only [isIn_iff] at *
    rw [fLis, if_neg (by omega)]
  · refine vc_iload_n dX12_listen_10 rfl ?_
    refine vc_iconst dX12_listen_11 rfl ?_
    refine vc_bipush dX12_listen_12 rfl ?_
    refine vc_callSF dX12_listen_14 (qX12_isIn (M := M) m 0 6) rfl okX12_isIn stX12_isIn lkX12_83 rfl (Nat.le_of_ble_eq_true rfl) ⟨rfl, rfl⟩ (Nat.le_of_ble_eq_true rfl) (Nat.le_of_ble_eq_true rfl) (Nat.le_of_ble_eq_true rfl) ?_
    refine vc_if_eq dX12_listen_17 (fun h2 => ?_) (fun h2 => ?_)
    · refine vc_ldc2 dX12_listen_41 rfl klX12_474 ?_
      refine vc_lret dX12_listen_44 rfl (Nat.le_of_ble_eq_true rfl) (Nat.le_of_ble_eq_true rfl) ?_
      refine ⟨?_, rfl⟩
      simp only [isIn_iff] at *
      rw [fLis, if_neg (by omega)]
    · refine vc_iload_n dX12_listen_20 rfl ?_
      refine vc_iconst dX12_listen_21 rfl ?_
      refine vc_bipush dX12_listen_22 rfl ?_
      refine vc_callSF dX12_listen_24 (qX12_isIn (M := M) a 0 10) rfl okX12_isIn stX12_isIn lkX12_83 rfl (Nat.le_of_ble_eq_true rfl) ⟨rfl, rfl⟩ (Nat.le_of_ble_eq_true rfl) (Nat.le_of_ble_eq_true rfl) (Nat.le_of_ble_eq_true rfl) ?_
      refine vc_if_eq dX12_listen_27 (fun h3 => ?_) (fun h3 => ?_)
      · refine vc_ldc2 dX12_listen_41 rfl klX12_474 ?_
        refine vc_lret dX12_listen_44 rfl (Nat.le_of_ble_eq_true rfl) (Nat.le_of_ble_eq_true rfl) ?_
        refine ⟨?_, rfl⟩
        simp only [isIn_iff] at *
        rw [fLis, if_neg (by omega)]
      · refine vc_iload dX12_listen_30 rfl ?_
        refine vc_iconst dX12_listen_32 rfl ?_
        refine vc_bipush dX12_listen_33 rfl ?_
        refine vc_callSF dX12_listen_35 (qX12_isIn (M := M) b 0 10) rfl okX12_isIn stX12_isIn lkX12_83 rfl (Nat.le_of_ble_eq_true rfl) ⟨rfl, rfl⟩ (Nat.le_of_ble_eq_true rfl) (Nat.le_of_ble_eq_true rfl) (Nat.le_of_ble_eq_true rfl) ?_
        refine vc_if_ne dX12_listen_38 (fun h4 => ?_) (fun h4 => ?_)
        · refine vc_lconst dX12_listen_45 ?_
          refine vc_topL 0 rfl ?_
          refine vc_lstore dX12_listen_46 (by decide) rfl rfl (show _ = [some (aR 54), some (aI n), some (aI m), some (aI a), some (aI b), some (aI low), some (aL 0), none, none, none, none, none] from rfl) ?_
          refine vc_iconst dX12_listen_48 rfl ?_
          refine vc_istore dX12_listen_49 (by decide) rfl (show _ = [some (aR 54), some (aI n), some (aI m), some (aI a), some (aI b), some (aI low), some (aL 0), none, some (aI 0), none, none, none] from rfl) ?_
          simp only [isIn_iff] at *
          exact main ⟨by omega, by omega, by omega, by omega, by omega, by omega, by omega, by omega⟩
        · refine vc_ldc2 dX12_listen_41 rfl klX12_474 ?_
          refine vc_lret dX12_listen_44 rfl (Nat.le_of_ble_eq_true rfl) (Nat.le_of_ble_eq_true rfl) ?_
          refine ⟨?_, rfl⟩
          simp only [isIn_iff] at *
          rw [fLis, if_neg (by omega)]
/-! CONSTRUCTORS (written by wip/whole/p50.py) -/
section VCQ
variable {l : Launch} {D : MD} {pc pc' : Nat} {L : List (Option AV)} {st : List AV} {M : Mem} {kc ks : Nat} {Q : Option AV → Mem → Prop}
theorem ls_sR (k j : Nat) (v : Option Nat) : (sR M k j v).1 = M.1 := rfl
theorem ls_sI (k j : Nat) (v : Int) : (sI M k j v).1 = M.1 := rfl
theorem ls_sJ (k j : Nat) (v : Int) : (sJ M k j v).1 = M.1 := rfl
theorem rp_new {k j r : Nat} : mR (sR M k j (some r)) k j = some r := if_pos ⟨rfl, rfl⟩
theorem rp_sR {k j r k2 j2 : Nat} {v : Option Nat} (h : mR M k j = some r) (hne : ¬ (k = k2 ∧ j = j2)) : mR (sR M k2 j2 v) k j = some r := (if_neg hne).trans h
theorem rp_mk {sh : Sh} {k j r n : Nat} (hl : M.1.length = n) (h : mR M k j = some r) (hne : k ≠ n) : mR (mkC M sh) k j = some r := by rw [mR_mkC, hl, if_neg hne]; exact h
theorem ln_mk {sh : Sh} {n : Nat} (h : M.1.length = n) : (mkC M sh).1.length = n + 1 := by rw [mkC_len, h]
theorem sh_mk {sh x : Sh} {k : Nat} (h : M.1[k]? = some x) : (mkC M sh).1[k]? = some x := by
  show (M.1 ++ [sh])[k]? = _
  rw [List.getElem?_append_left (List.getElem?_eq_some_iff.mp h).1]
  exact h
theorem sh_nw {sh : Sh} {q : Nat} (h : M.1.length = q) : (mkC M sh).1[q]? = some sh := by
  subst h
  show (M.1 ++ [sh])[M.1.length]? = _
  simp
theorem vc_newIq (N q : Nat) {n : Int} (hd : At (mB D) pc (.newarray .int) 2 pc') (hn : n = (N : Int)) (hq : M.1.length = q) (hb : N ≤ 100000) (h1 : kc + 1 ≤ mC D) (h2 : ks + N ≤ mS D) (kk : VC l D pc' L (aR q :: st) (mkC M (.inr (0, N))) (kc + 1) (ks + N) Q) : VC l D pc L (aI n :: st) M kc ks Q := by
  subst hq; subst hn
  exact vc_newI hd (by omega) (by omega) h1 (by simpa using h2) (by simpa using kk)
theorem vc_newJq (N q : Nat) {n : Int} (hd : At (mB D) pc (.newarray .long) 2 pc') (hn : n = (N : Int)) (hq : M.1.length = q) (hb : N ≤ 100000) (h1 : kc + 1 ≤ mC D) (h2 : ks + N ≤ mS D) (kk : VC l D pc' L (aR q :: st) (mkC M (.inr (1, N))) (kc + 1) (ks + N) Q) : VC l D pc L (aI n :: st) M kc ks Q := by
  subst hq; subst hn
  exact vc_newJ hd (by omega) (by omega) h1 (by simpa using h2) (by simpa using kk)
theorem vc_newZq (N q : Nat) {n : Int} (hd : At (mB D) pc (.newarray .boolean) 2 pc') (hn : n = (N : Int)) (hq : M.1.length = q) (hb : N ≤ 100000) (h1 : kc + 1 ≤ mC D) (h2 : ks + N ≤ mS D) (kk : VC l D pc' L (aR q :: st) (mkC M (.inr (2, N))) (kc + 1) (ks + N) Q) : VC l D pc L (aI n :: st) M kc ks Q := by
  subst hq; subst hn
  exact vc_newZ hd (by omega) (by omega) h1 (by simpa using h2) (by simpa using kk)
theorem vc_newTq (N q : Nat) {n : Int} {idx : Nat} (hd : At (mB D) pc (.anewarray idx) 3 pc') (hlk : Cond.classLink (mY D).cls idx RX5 ∈ tblG) (hn : n = (N : Int)) (hq : M.1.length = q) (hb : N ≤ 100000) (h1 : kc + 1 ≤ mC D) (h2 : ks + N ≤ mS D) (kk : VC l D pc' L (aR q :: st) (mkC M (.inr (3, N))) (kc + 1) (ks + N) Q) : VC l D pc L (aI n :: st) M kc ks Q := by
  subst hq; subst hn
  exact vc_newT hd hlk (by omega) (by omega) h1 (by simpa using h2) (by simpa using kk)
theorem vc_newOq (q : Nat) {idx ci : Nat} {CC : String} {T : u_T} {N : Nat} (hd : At (mB D) pc (.new idx) 3 pc') (hq : M.1.length = q) (hci : vwCl[ci]? = some (CC, T, N)) (hlk : Cond.classLink (mY D).cls idx CC ∈ tblG) (hins : Cond.instantiable CC N ∈ tblG) (hini : Cond.initialized CC ∈ tblG) (h1 : kc + 1 ≤ mC D) (h2 : ks + N ≤ mS D) (kk : VC l D pc' L (aR q :: st) (mkC M (.inl ci)) (kc + 1) (ks + N) Q) : VC l D pc L st M kc ks Q := by
  subst hq
  exact vc_new hd hci hlk hins hini h1 h2 kk
variable {D' : MD} {as : List AV} {M2 : Mem}
theorem vc_callIU {idx k n : Nat} {stk : List AV} (hd : At (mB D) pc (.invokespecial idx) 3 pc') (hcall : Fn l D' (aR k :: as) M none M2) (hstk : as.reverse ++ aR k :: st = stk) (hm : MOk D' n) (hv : Cond.instanceMethod (mY D') ∈ tblG) (hnm : (mY D').name = "<init>") (hret : mT D' = none) (hlk : LkM (mY D).cls idx D') (hlen : as.length = n) (hlev : mV D' < mV D) (hc1 : kc + mC D' ≤ mC D) (hc2 : ks + mS D' ≤ mS D) (hsum : (st.map catA).sum ≤ 8) (kk : VC l D pc' L st M2 (kc + mC D') (ks + mS D') Q) : VC l D pc L stk M kc ks Q :=
  vc_callI hd hm hv hnm hret hlk hlen hlev hc1 hc2 hsum _ hstk hcall (fun r M' h _ => by obtain ⟨rfl, rfl⟩ := h; exact kk)
end VCQ
/-- a row of ints filled -/
def flI (M : Mem) (k n : Nat) (v : Int) : Mem := (M.1, fun a b => if a = k ∧ b < n then v else mI M a b, M.2.2)
theorem mI_flI (M : Mem) (k n : Nat) (v : Int) (a b : Nat) : mI (flI M k n v) a b = if a = k ∧ b < n then v else mI M a b := rfl
theorem mR_flI (M : Mem) (k n : Nat) (v : Int) (a b : Nat) : mR (flI M k n v) a b = mR M a b := rfl
theorem flI_0 (M : Mem) (k : Nat) (v : Int) : flI M k 0 v = M := by
  refine mem_ext rfl (fun a b => ?_) (fun _ _ => rfl) (fun _ _ => rfl)
  rw [mI_flI, if_neg (by omega)]
theorem flI_step (M : Mem) (k n : Nat) (v : Int) : sI (flI M k n v) k n v = flI M k (n + 1) v := by
  refine mem_ext rfl (fun a b => ?_) (fun _ _ => rfl) (fun _ _ => rfl)
  rw [mI_sI, mI_flI, mI_flI]
  by_cases h1 : a = k ∧ b = n
  · rw [if_pos h1, if_pos (by omega)]
  · rw [if_neg h1]
    by_cases h2 : a = k ∧ b < n
    · rw [if_pos h2, if_pos (by omega)]
    · rw [if_neg h2, if_neg (by omega)]
theorem St.F {M : Mem} (h : St M) (k n : Nat) (v : Int) : St (flI M k n v) := h
theorem qJ7_fill_53178 {l : Launch} {M : Mem} (k n : Nat) (hs : M.1[k]? = some (.inr (0, n))) (hn : n ≤ 100000) (v : Int) : Fn l mdJ7_fill_53178 [aR k, aI v] M none (flI M k n v) := by
  have loop : ∀ (j i : Nat), i + j = n → VC l mdJ7_fill_53178 5 [some (aR k), some (aI v), some (aI (i : Int)), some (aI (n : Int))] [] (flI M k i v) 0 0 (fun r M2 => r = none ∧ M2 = flI M k n v) := by
    intro j
    induction j with
    | zero =>
      intro i hi
      have e : i = n := by omega
      subst e
      refine vc_iload_n dJ7_fill_53178_5 rfl ?_
      refine vc_iload_n dJ7_fill_53178_6 rfl ?_
      refine vc_icmp_ge dJ7_fill_53178_7 (fun h1 => ?_) (fun h1 => by exfalso; omega)
      refine vc_vret dJ7_fill_53178_20 rfl (Nat.le_of_ble_eq_true rfl) (Nat.le_of_ble_eq_true rfl) ?_
      exact ⟨rfl, rfl⟩
    | succ j ih =>
      intro i hi
      refine vc_iload_n dJ7_fill_53178_5 rfl ?_
      refine vc_iload_n dJ7_fill_53178_6 rfl ?_
      refine vc_icmp_ge dJ7_fill_53178_7 (fun h1 => by exfalso; omega) (fun h1 => ?_)
      refine vc_aload_n dJ7_fill_53178_10 rfl ?_
      refine vc_iload_n dJ7_fill_53178_11 rfl ?_
      refine vc_iload_n dJ7_fill_53178_12 rfl ?_
      refine vc_iastore dJ7_fill_53178_13 hs (by omega) (by omega) ?_
      refine vc_iincE dJ7_fill_53178_14 rfl (by omega) (by omega) (by decide) rfl (show _ = [some (aR k), some (aI v), some (aI ((i : Int) + 1)), some (aI (n : Int))] from rfl) ?_
      refine vc_goto dJ7_fill_53178_17 ?_
      rw [show (i : Int).toNat = i from Int.toNat_natCast i, flI_step, show (i : Int) + 1 = ((i + 1 : Nat) : Int) by omega]
      exact ih (i + 1) (by omega)
  refine Call.of [some (aR k), some (aI v), none, none] (by decide +kernel) (Nat.le_of_ble_eq_true rfl) rfl ?_
  refine vc_iconst dJ7_fill_53178_0 rfl ?_
  refine vc_istore_n dJ7_fill_53178_1 (by decide) rfl (show _ = [some (aR k), some (aI v), some (aI 0), none] from rfl) ?_
  refine vc_aload_n dJ7_fill_53178_2 rfl ?_
  refine vc_alen dJ7_fill_53178_3 hs (by simp; omega) ?_
  refine vc_istore_n dJ7_fill_53178_4 (by decide) rfl (show _ = [some (aR k), some (aI v), some (aI 0), some (aI (n : Int))] from rfl) ?_
  have h0 := loop n 0 (by omega)
  rw [flI_0] at h0
  exact h0
def gX6_init_1 (M : Mem) : Mem := sI (sI (flI (sR (mkC (sR (mkC (sR (mkC (sR (mkC (sR (mkC (sR (mkC M (.inr (0, 16))) 1 0 (some 2)) (.inr (0, 64))) 1 1 (some 3)) (.inr (0, 64))) 1 2 (some 4)) (.inr (0, 24))) 1 3 (some 5)) (.inr (0, 72))) 1 4 (some 6)) (.inr (3, 4))) 1 5 (some 7)) 3 64 (-1)) 1 7 (-1)) 1 11 (-1)
set_option maxRecDepth 8000 in
theorem qX6_init_1 {l : Launch} {M : Mem} (hl : M.1.length = 2) (hk : M.1[1]? = some (.inl 6)) : Fn l mdX6_init [aR 1] M none (gX6_init_1 M) := by
  refine Call.of [some (aR 1)] rfl (Nat.le_of_ble_eq_true rfl) rfl ?_
  refine vc_aload_n dX6_init_0 rfl ?_
  refine vc_objInit dX6_init_1 oiX6_3 (Nat.le_of_ble_eq_true rfl) ?_
  refine vc_aload_n dX6_init_4 rfl ?_
  refine vc_bipush dX6_init_5 rfl ?_
  refine vc_newIq 16 2 dX6_init_7 rfl hl (Nat.le_of_ble_eq_true rfl) (Nat.le_of_ble_eq_true rfl) (Nat.le_of_ble_eq_true rfl) ?_
  refine vc_putR dX6_init_9 (plX6_9 _ rfl rfl) (sh_mk hk) rfl ?_
  refine vc_aload_n dX6_init_12 rfl ?_
  refine vc_bipush dX6_init_13 rfl ?_
  refine vc_newIq 64 3 dX6_init_15 rfl (ln_mk hl) (Nat.le_of_ble_eq_true rfl) (Nat.le_of_ble_eq_true rfl) (Nat.le_of_ble_eq_true rfl) ?_
  refine vc_putR dX6_init_17 (plX6_15 _ rfl rfl) (sh_mk (sh_mk hk)) rfl ?_
  refine vc_aload_n dX6_init_20 rfl ?_
  refine vc_bipush dX6_init_21 rfl ?_
  refine vc_newIq 64 4 dX6_init_23 rfl (ln_mk (ln_mk hl)) (Nat.le_of_ble_eq_true rfl) (Nat.le_of_ble_eq_true rfl) (Nat.le_of_ble_eq_true rfl) ?_
  refine vc_putR dX6_init_25 (plX6_18 _ rfl rfl) (sh_mk (sh_mk (sh_mk hk))) rfl ?_
  refine vc_aload_n dX6_init_28 rfl ?_
  refine vc_bipush dX6_init_29 rfl ?_
  refine vc_newIq 24 5 dX6_init_31 rfl (ln_mk (ln_mk (ln_mk hl))) (Nat.le_of_ble_eq_true rfl) (Nat.le_of_ble_eq_true rfl) (Nat.le_of_ble_eq_true rfl) ?_
  refine vc_putR dX6_init_33 (plX6_21 _ rfl rfl) (sh_mk (sh_mk (sh_mk (sh_mk hk)))) rfl ?_
  refine vc_aload_n dX6_init_36 rfl ?_
  refine vc_bipush dX6_init_37 rfl ?_
  refine vc_newIq 72 6 dX6_init_39 rfl (ln_mk (ln_mk (ln_mk (ln_mk hl)))) (Nat.le_of_ble_eq_true rfl) (Nat.le_of_ble_eq_true rfl) (Nat.le_of_ble_eq_true rfl) ?_
  refine vc_putR dX6_init_41 (plX6_24 _ rfl rfl) (sh_mk (sh_mk (sh_mk (sh_mk (sh_mk hk))))) rfl ?_
  refine vc_aload_n dX6_init_44 rfl ?_
  refine vc_iconst dX6_init_45 rfl ?_
  refine vc_newTq 4 7 dX6_init_46 clX6_27 rfl (ln_mk (ln_mk (ln_mk (ln_mk (ln_mk hl))))) (Nat.le_of_ble_eq_true rfl) (Nat.le_of_ble_eq_true rfl) (Nat.le_of_ble_eq_true rfl) ?_
  refine vc_putR dX6_init_49 (plX6_29 _ rfl rfl) (sh_mk (sh_mk (sh_mk (sh_mk (sh_mk (sh_mk hk)))))) rfl ?_
  refine vc_aload_n dX6_init_52 rfl ?_
  refine vc_getR dX6_init_53 flX6_15 (sh_mk (sh_mk (sh_mk (sh_mk (sh_mk (sh_mk hk)))))) rfl (rp_sR (rp_mk (ln_mk (ln_mk (ln_mk (ln_mk (ln_mk hl))))) (rp_sR (rp_mk (ln_mk (ln_mk (ln_mk (ln_mk hl)))) (rp_sR (rp_mk (ln_mk (ln_mk (ln_mk hl))) (rp_sR (rp_mk (ln_mk (ln_mk hl)) rp_new (by decide)) (by decide)) (by decide)) (by decide)) (by decide)) (by decide)) (by decide)) (by decide)) ?_
  refine vc_iconst dX6_init_56 rfl ?_
  refine vc_callSU dX6_init_57 (qJ7_fill_53178 (M := (sR (mkC (sR (mkC (sR (mkC (sR (mkC (sR (mkC (sR (mkC M (.inr (0, 16))) 1 0 (some 2)) (.inr (0, 64))) 1 1 (some 3)) (.inr (0, 64))) 1 2 (some 4)) (.inr (0, 24))) 1 3 (some 5)) (.inr (0, 72))) 1 4 (some 6)) (.inr (3, 4))) 1 5 (some 7))) 3 64 (sh_mk (sh_mk (sh_mk (sh_mk (sh_nw (ln_mk hl)))))) (by decide) (-1)) rfl okJ7_fill_53178 stJ7_fill_53178 lkX6_33 rfl (Nat.le_of_ble_eq_true rfl) ⟨rfl, rfl⟩ (Nat.le_of_ble_eq_true rfl) (Nat.le_of_ble_eq_true rfl) (Nat.le_of_ble_eq_true rfl) ?_
  refine vc_aload_n dX6_init_60 rfl ?_
  refine vc_iconst dX6_init_61 rfl ?_
  refine vc_putI dX6_init_62 (plX6_39 _ rfl) (sh_mk (sh_mk (sh_mk (sh_mk (sh_mk (sh_mk hk)))))) rfl ?_
  refine vc_aload_n dX6_init_65 rfl ?_
  refine vc_iconst dX6_init_66 rfl ?_
  refine vc_putI dX6_init_67 (plX6_43 _ rfl) (sh_mk (sh_mk (sh_mk (sh_mk (sh_mk (sh_mk hk)))))) rfl ?_
  refine vc_vret dX6_init_70 rfl (Nat.le_of_ble_eq_true rfl) (Nat.le_of_ble_eq_true rfl) ?_
  exact ⟨rfl, rfl⟩
theorem lX6_init_1 {M : Mem} (hl : M.1.length = 2) : (gX6_init_1 M).1.length = 8 := (ln_mk (ln_mk (ln_mk (ln_mk (ln_mk (ln_mk hl))))))
theorem xX6_init_1 {M : Mem} {k : Nat} {x : Sh} (h : M.1[k]? = some x) : (gX6_init_1 M).1[k]? = some x := (sh_mk (sh_mk (sh_mk (sh_mk (sh_mk (sh_mk h))))))
theorem yX6_init_1 {M : Mem} {j r : Nat} (hl : M.1.length = 2) (h : mR M 0 j = some r) : mR (gX6_init_1 M) 0 j = some r := by
  unfold gX6_init_1
  simp [mR_sR, mR_mkC, mR_sI, mR_flI, mkC_len, ls_sR, ls_sI, hl, h]
def gX6_init_8 (M : Mem) : Mem := sI (sI (flI (sR (mkC (sR (mkC (sR (mkC (sR (mkC (sR (mkC (sR (mkC M (.inr (0, 16))) 8 0 (some 9)) (.inr (0, 64))) 8 1 (some 10)) (.inr (0, 64))) 8 2 (some 11)) (.inr (0, 24))) 8 3 (some 12)) (.inr (0, 72))) 8 4 (some 13)) (.inr (3, 4))) 8 5 (some 14)) 10 64 (-1)) 8 7 (-1)) 8 11 (-1)
set_option maxRecDepth 8000 in
theorem qX6_init_8 {l : Launch} {M : Mem} (hl : M.1.length = 9) (hk : M.1[8]? = some (.inl 6)) : Fn l mdX6_init [aR 8] M none (gX6_init_8 M) := by
  refine Call.of [some (aR 8)] rfl (Nat.le_of_ble_eq_true rfl) rfl ?_
  refine vc_aload_n dX6_init_0 rfl ?_
  refine vc_objInit dX6_init_1 oiX6_3 (Nat.le_of_ble_eq_true rfl) ?_
  refine vc_aload_n dX6_init_4 rfl ?_
  refine vc_bipush dX6_init_5 rfl ?_
  refine vc_newIq 16 9 dX6_init_7 rfl hl (Nat.le_of_ble_eq_true rfl) (Nat.le_of_ble_eq_true rfl) (Nat.le_of_ble_eq_true rfl) ?_
  refine vc_putR dX6_init_9 (plX6_9 _ rfl rfl) (sh_mk hk) rfl ?_
  refine vc_aload_n dX6_init_12 rfl ?_
  refine vc_bipush dX6_init_13 rfl ?_
  refine vc_newIq 64 10 dX6_init_15 rfl (ln_mk hl) (Nat.le_of_ble_eq_true rfl) (Nat.le_of_ble_eq_true rfl) (Nat.le_of_ble_eq_true rfl) ?_
  refine vc_putR dX6_init_17 (plX6_15 _ rfl rfl) (sh_mk (sh_mk hk)) rfl ?_
  refine vc_aload_n dX6_init_20 rfl ?_
  refine vc_bipush dX6_init_21 rfl ?_
  refine vc_newIq 64 11 dX6_init_23 rfl (ln_mk (ln_mk hl)) (Nat.le_of_ble_eq_true rfl) (Nat.le_of_ble_eq_true rfl) (Nat.le_of_ble_eq_true rfl) ?_
  refine vc_putR dX6_init_25 (plX6_18 _ rfl rfl) (sh_mk (sh_mk (sh_mk hk))) rfl ?_
  refine vc_aload_n dX6_init_28 rfl ?_
  refine vc_bipush dX6_init_29 rfl ?_
  refine vc_newIq 24 12 dX6_init_31 rfl (ln_mk (ln_mk (ln_mk hl))) (Nat.le_of_ble_eq_true rfl) (Nat.le_of_ble_eq_true rfl) (Nat.le_of_ble_eq_true rfl) ?_
  refine vc_putR dX6_init_33 (plX6_21 _ rfl rfl) (sh_mk (sh_mk (sh_mk (sh_mk hk)))) rfl ?_
  refine vc_aload_n dX6_init_36 rfl ?_
  refine vc_bipush dX6_init_37 rfl ?_
  refine vc_newIq 72 13 dX6_init_39 rfl (ln_mk (ln_mk (ln_mk (ln_mk hl)))) (Nat.le_of_ble_eq_true rfl) (Nat.le_of_ble_eq_true rfl) (Nat.le_of_ble_eq_true rfl) ?_
  refine vc_putR dX6_init_41 (plX6_24 _ rfl rfl) (sh_mk (sh_mk (sh_mk (sh_mk (sh_mk hk))))) rfl ?_
  refine vc_aload_n dX6_init_44 rfl ?_
  refine vc_iconst dX6_init_45 rfl ?_
  refine vc_newTq 4 14 dX6_init_46 clX6_27 rfl (ln_mk (ln_mk (ln_mk (ln_mk (ln_mk hl))))) (Nat.le_of_ble_eq_true rfl) (Nat.le_of_ble_eq_true rfl) (Nat.le_of_ble_eq_true rfl) ?_
  refine vc_putR dX6_init_49 (plX6_29 _ rfl rfl) (sh_mk (sh_mk (sh_mk (sh_mk (sh_mk (sh_mk hk)))))) rfl ?_
  refine vc_aload_n dX6_init_52 rfl ?_
  refine vc_getR dX6_init_53 flX6_15 (sh_mk (sh_mk (sh_mk (sh_mk (sh_mk (sh_mk hk)))))) rfl (rp_sR (rp_mk (ln_mk (ln_mk (ln_mk (ln_mk (ln_mk hl))))) (rp_sR (rp_mk (ln_mk (ln_mk (ln_mk (ln_mk hl)))) (rp_sR (rp_mk (ln_mk (ln_mk (ln_mk hl))) (rp_sR (rp_mk (ln_mk (ln_mk hl)) rp_new (by decide)) (by decide)) (by decide)) (by decide)) (by decide)) (by decide)) (by decide)) (by decide)) ?_
  refine vc_iconst dX6_init_56 rfl ?_
  refine vc_callSU dX6_init_57 (qJ7_fill_53178 (M := (sR (mkC (sR (mkC (sR (mkC (sR (mkC (sR (mkC (sR (mkC M (.inr (0, 16))) 8 0 (some 9)) (.inr (0, 64))) 8 1 (some 10)) (.inr (0, 64))) 8 2 (some 11)) (.inr (0, 24))) 8 3 (some 12)) (.inr (0, 72))) 8 4 (some 13)) (.inr (3, 4))) 8 5 (some 14))) 10 64 (sh_mk (sh_mk (sh_mk (sh_mk (sh_nw (ln_mk hl)))))) (by decide) (-1)) rfl okJ7_fill_53178 stJ7_fill_53178 lkX6_33 rfl (Nat.le_of_ble_eq_true rfl) ⟨rfl, rfl⟩ (Nat.le_of_ble_eq_true rfl) (Nat.le_of_ble_eq_true rfl) (Nat.le_of_ble_eq_true rfl) ?_
  refine vc_aload_n dX6_init_60 rfl ?_
  refine vc_iconst dX6_init_61 rfl ?_
  refine vc_putI dX6_init_62 (plX6_39 _ rfl) (sh_mk (sh_mk (sh_mk (sh_mk (sh_mk (sh_mk hk)))))) rfl ?_
  refine vc_aload_n dX6_init_65 rfl ?_
  refine vc_iconst dX6_init_66 rfl ?_
  refine vc_putI dX6_init_67 (plX6_43 _ rfl) (sh_mk (sh_mk (sh_mk (sh_mk (sh_mk (sh_mk hk)))))) rfl ?_
  refine vc_vret dX6_init_70 rfl (Nat.le_of_ble_eq_true rfl) (Nat.le_of_ble_eq_true rfl) ?_
  exact ⟨rfl, rfl⟩
theorem lX6_init_8 {M : Mem} (hl : M.1.length = 9) : (gX6_init_8 M).1.length = 15 := (ln_mk (ln_mk (ln_mk (ln_mk (ln_mk (ln_mk hl))))))
theorem xX6_init_8 {M : Mem} {k : Nat} {x : Sh} (h : M.1[k]? = some x) : (gX6_init_8 M).1[k]? = some x := (sh_mk (sh_mk (sh_mk (sh_mk (sh_mk (sh_mk h))))))
theorem yX6_init_8 {M : Mem} {j r : Nat} (hl : M.1.length = 9) (h : mR M 0 j = some r) : mR (gX6_init_8 M) 0 j = some r := by
  unfold gX6_init_8
  simp [mR_sR, mR_mkC, mR_sI, mR_flI, mkC_len, ls_sR, ls_sI, hl, h]
def gX8_init_15 (M : Mem) : Mem := sI (sI (sR (mkC (sR (mkC M (.inr (0, 10))) 15 0 (some 16)) (.inr (0, 300))) 15 1 (some 17)) 16 0 (-1)) 16 3 29
set_option maxRecDepth 8000 in
theorem qX8_init_15 {l : Launch} {M : Mem} (hl : M.1.length = 16) (hk : M.1[15]? = some (.inl 8)) : Fn l mdX8_init [aR 15] M none (gX8_init_15 M) := by
  refine Call.of [some (aR 15)] rfl (Nat.le_of_ble_eq_true rfl) rfl ?_
  refine vc_aload_n dX8_init_0 rfl ?_
  refine vc_objInit dX8_init_1 oiX8_3 (Nat.le_of_ble_eq_true rfl) ?_
  refine vc_aload_n dX8_init_4 rfl ?_
  refine vc_bipush dX8_init_5 rfl ?_
  refine vc_newIq 10 16 dX8_init_7 rfl hl (Nat.le_of_ble_eq_true rfl) (Nat.le_of_ble_eq_true rfl) (Nat.le_of_ble_eq_true rfl) ?_
  refine vc_putR dX8_init_9 (plX8_9 _ rfl rfl) (sh_mk hk) rfl ?_
  refine vc_aload_n dX8_init_12 rfl ?_
  refine vc_sipush dX8_init_13 rfl ?_
  refine vc_newIq 300 17 dX8_init_16 rfl (ln_mk hl) (Nat.le_of_ble_eq_true rfl) (Nat.le_of_ble_eq_true rfl) (Nat.le_of_ble_eq_true rfl) ?_
  refine vc_putR dX8_init_18 (plX8_15 _ rfl rfl) (sh_mk (sh_mk hk)) rfl ?_
  refine vc_aload_n dX8_init_21 rfl ?_
  refine vc_getR dX8_init_22 flX8_9 (sh_mk (sh_mk hk)) rfl (rp_sR (rp_mk (ln_mk hl) rp_new (by decide)) (by decide)) ?_
  refine vc_iconst dX8_init_25 rfl ?_
  refine vc_iconst dX8_init_26 rfl ?_
  refine vc_iastore dX8_init_27 (sh_mk (sh_nw hl)) (by omega) (by omega) ?_
  refine vc_mem (sI (sR (mkC (sR (mkC M (.inr (0, 10))) 15 0 (some 16)) (.inr (0, 300))) 15 1 (some 17)) 16 0 (-1)) rfl ?_
  refine vc_aload_n dX8_init_28 rfl ?_
  refine vc_getR dX8_init_29 flX8_9 (sh_mk (sh_mk hk)) rfl (rp_sR (rp_mk (ln_mk hl) rp_new (by decide)) (by decide)) ?_
  refine vc_iconst dX8_init_32 rfl ?_
  refine vc_bipush dX8_init_33 rfl ?_
  refine vc_iastore dX8_init_35 (sh_mk (sh_nw hl)) (by omega) (by omega) ?_
  refine vc_mem (sI (sI (sR (mkC (sR (mkC M (.inr (0, 10))) 15 0 (some 16)) (.inr (0, 300))) 15 1 (some 17)) 16 0 (-1)) 16 3 29) rfl ?_
  refine vc_vret dX8_init_36 rfl (Nat.le_of_ble_eq_true rfl) (Nat.le_of_ble_eq_true rfl) ?_
  exact ⟨rfl, rfl⟩
theorem lX8_init_15 {M : Mem} (hl : M.1.length = 16) : (gX8_init_15 M).1.length = 18 := (ln_mk (ln_mk hl))
theorem xX8_init_15 {M : Mem} {k : Nat} {x : Sh} (h : M.1[k]? = some x) : (gX8_init_15 M).1[k]? = some x := (sh_mk (sh_mk h))
theorem yX8_init_15 {M : Mem} {j r : Nat} (hl : M.1.length = 16) (h : mR M 0 j = some r) : mR (gX8_init_15 M) 0 j = some r := by
  unfold gX8_init_15
  simp [mR_sR, mR_mkC, mR_sI, mR_flI, mkC_len, ls_sR, ls_sI, hl, h]
def gX8_init_18 (M : Mem) : Mem := sI (sI (sR (mkC (sR (mkC M (.inr (0, 10))) 18 0 (some 19)) (.inr (0, 300))) 18 1 (some 20)) 19 0 (-1)) 19 3 29
set_option maxRecDepth 8000 in
theorem qX8_init_18 {l : Launch} {M : Mem} (hl : M.1.length = 19) (hk : M.1[18]? = some (.inl 8)) : Fn l mdX8_init [aR 18] M none (gX8_init_18 M) := by
  refine Call.of [some (aR 18)] rfl (Nat.le_of_ble_eq_true rfl) rfl ?_
  refine vc_aload_n dX8_init_0 rfl ?_
  refine vc_objInit dX8_init_1 oiX8_3 (Nat.le_of_ble_eq_true rfl) ?_
  refine vc_aload_n dX8_init_4 rfl ?_
  refine vc_bipush dX8_init_5 rfl ?_
  refine vc_newIq 10 19 dX8_init_7 rfl hl (Nat.le_of_ble_eq_true rfl) (Nat.le_of_ble_eq_true rfl) (Nat.le_of_ble_eq_true rfl) ?_
  refine vc_putR dX8_init_9 (plX8_9 _ rfl rfl) (sh_mk hk) rfl ?_
  refine vc_aload_n dX8_init_12 rfl ?_
  refine vc_sipush dX8_init_13 rfl ?_
  refine vc_newIq 300 20 dX8_init_16 rfl (ln_mk hl) (Nat.le_of_ble_eq_true rfl) (Nat.le_of_ble_eq_true rfl) (Nat.le_of_ble_eq_true rfl) ?_
  refine vc_putR dX8_init_18 (plX8_15 _ rfl rfl) (sh_mk (sh_mk hk)) rfl ?_
  refine vc_aload_n dX8_init_21 rfl ?_
  refine vc_getR dX8_init_22 flX8_9 (sh_mk (sh_mk hk)) rfl (rp_sR (rp_mk (ln_mk hl) rp_new (by decide)) (by decide)) ?_
  refine vc_iconst dX8_init_25 rfl ?_
  refine vc_iconst dX8_init_26 rfl ?_
  refine vc_iastore dX8_init_27 (sh_mk (sh_nw hl)) (by omega) (by omega) ?_
  refine vc_mem (sI (sR (mkC (sR (mkC M (.inr (0, 10))) 18 0 (some 19)) (.inr (0, 300))) 18 1 (some 20)) 19 0 (-1)) rfl ?_
  refine vc_aload_n dX8_init_28 rfl ?_
  refine vc_getR dX8_init_29 flX8_9 (sh_mk (sh_mk hk)) rfl (rp_sR (rp_mk (ln_mk hl) rp_new (by decide)) (by decide)) ?_
  refine vc_iconst dX8_init_32 rfl ?_
  refine vc_bipush dX8_init_33 rfl ?_
  refine vc_iastore dX8_init_35 (sh_mk (sh_nw hl)) (by omega) (by omega) ?_
  refine vc_mem (sI (sI (sR (mkC (sR (mkC M (.inr (0, 10))) 18 0 (some 19)) (.inr (0, 300))) 18 1 (some 20)) 19 0 (-1)) 19 3 29) rfl ?_
  refine vc_vret dX8_init_36 rfl (Nat.le_of_ble_eq_true rfl) (Nat.le_of_ble_eq_true rfl) ?_
  exact ⟨rfl, rfl⟩
theorem lX8_init_18 {M : Mem} (hl : M.1.length = 19) : (gX8_init_18 M).1.length = 21 := (ln_mk (ln_mk hl))
theorem xX8_init_18 {M : Mem} {k : Nat} {x : Sh} (h : M.1[k]? = some x) : (gX8_init_18 M).1[k]? = some x := (sh_mk (sh_mk h))
theorem yX8_init_18 {M : Mem} {j r : Nat} (hl : M.1.length = 19) (h : mR M 0 j = some r) : mR (gX8_init_18 M) 0 j = some r := by
  unfold gX8_init_18
  simp [mR_sR, mR_mkC, mR_sI, mR_flI, mkC_len, ls_sR, ls_sI, hl, h]
def gX4_init_0 (M : Mem) : Mem := sR (mkC (sR (mkC (sR (mkC (sR (mkC (sR (mkC (sR (mkC (sR M 22 0 (some 21)) (.inr (0, 300))) 22 1 (some 23)) (.inr (0, 10))) 22 2 (some 24)) (.inr (0, 120))) 22 3 (some 25)) (.inr (0, 301))) 22 4 (some 26)) (.inr (0, 301))) 22 5 (some 27)) (.inr (0, 301))) 22 6 (some 28)
set_option maxRecDepth 8000 in
theorem qX4_init_0 {l : Launch} {M : Mem} (hl : M.1.length = 23) (hk : M.1[22]? = some (.inl 4)) : Fn l mdX4_init [aR 22, aR 21] M none (gX4_init_0 M) := by
  refine Call.of [some (aR 22), some (aR 21)] rfl (Nat.le_of_ble_eq_true rfl) rfl ?_
  refine vc_aload_n dX4_init_0 rfl ?_
  refine vc_objInit dX4_init_1 oiX4_3 (Nat.le_of_ble_eq_true rfl) ?_
  refine vc_aload_n dX4_init_4 rfl ?_
  refine vc_aload_n dX4_init_5 rfl ?_
  refine vc_putR dX4_init_6 (plX4_9 _ rfl rfl) hk rfl ?_
  refine vc_aload_n dX4_init_9 rfl ?_
  refine vc_sipush dX4_init_10 rfl ?_
  refine vc_newIq 300 23 dX4_init_13 rfl hl (Nat.le_of_ble_eq_true rfl) (Nat.le_of_ble_eq_true rfl) (Nat.le_of_ble_eq_true rfl) ?_
  refine vc_putR dX4_init_15 (plX4_15 _ rfl rfl) (sh_mk hk) rfl ?_
  refine vc_aload_n dX4_init_18 rfl ?_
  refine vc_bipush dX4_init_19 rfl ?_
  refine vc_newIq 10 24 dX4_init_21 rfl (ln_mk hl) (Nat.le_of_ble_eq_true rfl) (Nat.le_of_ble_eq_true rfl) (Nat.le_of_ble_eq_true rfl) ?_
  refine vc_putR dX4_init_23 (plX4_18 _ rfl rfl) (sh_mk (sh_mk hk)) rfl ?_
  refine vc_aload_n dX4_init_26 rfl ?_
  refine vc_bipush dX4_init_27 rfl ?_
  refine vc_newIq 120 25 dX4_init_29 rfl (ln_mk (ln_mk hl)) (Nat.le_of_ble_eq_true rfl) (Nat.le_of_ble_eq_true rfl) (Nat.le_of_ble_eq_true rfl) ?_
  refine vc_putR dX4_init_31 (plX4_21 _ rfl rfl) (sh_mk (sh_mk (sh_mk hk))) rfl ?_
  refine vc_aload_n dX4_init_34 rfl ?_
  refine vc_sipush dX4_init_35 rfl ?_
  refine vc_newIq 301 26 dX4_init_38 rfl (ln_mk (ln_mk (ln_mk hl))) (Nat.le_of_ble_eq_true rfl) (Nat.le_of_ble_eq_true rfl) (Nat.le_of_ble_eq_true rfl) ?_
  refine vc_putR dX4_init_40 (plX4_24 _ rfl rfl) (sh_mk (sh_mk (sh_mk (sh_mk hk)))) rfl ?_
  refine vc_aload_n dX4_init_43 rfl ?_
  refine vc_sipush dX4_init_44 rfl ?_
  refine vc_newIq 301 27 dX4_init_47 rfl (ln_mk (ln_mk (ln_mk (ln_mk hl)))) (Nat.le_of_ble_eq_true rfl) (Nat.le_of_ble_eq_true rfl) (Nat.le_of_ble_eq_true rfl) ?_
  refine vc_putR dX4_init_49 (plX4_27 _ rfl rfl) (sh_mk (sh_mk (sh_mk (sh_mk (sh_mk hk))))) rfl ?_
  refine vc_aload_n dX4_init_52 rfl ?_
  refine vc_sipush dX4_init_53 rfl ?_
  refine vc_newIq 301 28 dX4_init_56 rfl (ln_mk (ln_mk (ln_mk (ln_mk (ln_mk hl))))) (Nat.le_of_ble_eq_true rfl) (Nat.le_of_ble_eq_true rfl) (Nat.le_of_ble_eq_true rfl) ?_
  refine vc_putR dX4_init_58 (plX4_30 _ rfl rfl) (sh_mk (sh_mk (sh_mk (sh_mk (sh_mk (sh_mk hk)))))) rfl ?_
  refine vc_vret dX4_init_61 rfl (Nat.le_of_ble_eq_true rfl) (Nat.le_of_ble_eq_true rfl) ?_
  exact ⟨rfl, rfl⟩
theorem lX4_init_0 {M : Mem} (hl : M.1.length = 23) : (gX4_init_0 M).1.length = 29 := (ln_mk (ln_mk (ln_mk (ln_mk (ln_mk (ln_mk hl))))))
theorem xX4_init_0 {M : Mem} {k : Nat} {x : Sh} (h : M.1[k]? = some x) : (gX4_init_0 M).1[k]? = some x := (sh_mk (sh_mk (sh_mk (sh_mk (sh_mk (sh_mk h))))))
theorem yX4_init_0 {M : Mem} {j r : Nat} (hl : M.1.length = 23) (h : mR M 0 j = some r) : mR (gX4_init_0 M) 0 j = some r := by
  unfold gX4_init_0
  simp [mR_sR, mR_mkC, mR_sI, mR_flI, mkC_len, ls_sR, ls_sI, hl, h]
def gX2_init_0 (M : Mem) : Mem := sR (mkC (sR (mkC (sR (sR M 29 0 (some 1)) 29 1 (some 15)) (.inr (0, 9))) 29 2 (some 30)) (.inr (0, 40))) 29 3 (some 31)
set_option maxRecDepth 8000 in
theorem qX2_init_0 {l : Launch} {M : Mem} (hl : M.1.length = 30) (hk : M.1[29]? = some (.inl 2)) : Fn l mdX2_init [aR 29, aR 1, aR 15] M none (gX2_init_0 M) := by
  refine Call.of [some (aR 29), some (aR 1), some (aR 15)] rfl (Nat.le_of_ble_eq_true rfl) rfl ?_
  refine vc_aload_n dX2_init_0 rfl ?_
  refine vc_objInit dX2_init_1 oiX2_3 (Nat.le_of_ble_eq_true rfl) ?_
  refine vc_aload_n dX2_init_4 rfl ?_
  refine vc_aload_n dX2_init_5 rfl ?_
  refine vc_putR dX2_init_6 (plX2_9 _ rfl rfl) hk rfl ?_
  refine vc_aload_n dX2_init_9 rfl ?_
  refine vc_aload_n dX2_init_10 rfl ?_
  refine vc_putR dX2_init_11 (plX2_15 _ rfl rfl) hk rfl ?_
  refine vc_aload_n dX2_init_14 rfl ?_
  refine vc_bipush dX2_init_15 rfl ?_
  refine vc_newIq 9 30 dX2_init_17 rfl hl (Nat.le_of_ble_eq_true rfl) (Nat.le_of_ble_eq_true rfl) (Nat.le_of_ble_eq_true rfl) ?_
  refine vc_putR dX2_init_19 (plX2_19 _ rfl rfl) (sh_mk hk) rfl ?_
  refine vc_aload_n dX2_init_22 rfl ?_
  refine vc_bipush dX2_init_23 rfl ?_
  refine vc_newIq 40 31 dX2_init_25 rfl (ln_mk hl) (Nat.le_of_ble_eq_true rfl) (Nat.le_of_ble_eq_true rfl) (Nat.le_of_ble_eq_true rfl) ?_
  refine vc_putR dX2_init_27 (plX2_23 _ rfl rfl) (sh_mk (sh_mk hk)) rfl ?_
  refine vc_vret dX2_init_30 rfl (Nat.le_of_ble_eq_true rfl) (Nat.le_of_ble_eq_true rfl) ?_
  exact ⟨rfl, rfl⟩
theorem lX2_init_0 {M : Mem} (hl : M.1.length = 30) : (gX2_init_0 M).1.length = 32 := (ln_mk (ln_mk hl))
theorem xX2_init_0 {M : Mem} {k : Nat} {x : Sh} (h : M.1[k]? = some x) : (gX2_init_0 M).1[k]? = some x := (sh_mk (sh_mk h))
theorem yX2_init_0 {M : Mem} {j r : Nat} (hl : M.1.length = 30) (h : mR M 0 j = some r) : mR (gX2_init_0 M) 0 j = some r := by
  unfold gX2_init_0
  simp [mR_sR, mR_mkC, mR_sI, mR_flI, mkC_len, ls_sR, ls_sI, hl, h]
def gX1_init_0 (M : Mem) : Mem := sR (mkC (sR M 32 0 (some 1)) (.inr (0, 40))) 32 1 (some 33)
set_option maxRecDepth 8000 in
theorem qX1_init_0 {l : Launch} {M : Mem} (hl : M.1.length = 33) (hk : M.1[32]? = some (.inl 1)) : Fn l mdX1_init [aR 32, aR 1] M none (gX1_init_0 M) := by
  refine Call.of [some (aR 32), some (aR 1)] rfl (Nat.le_of_ble_eq_true rfl) rfl ?_
  refine vc_aload_n dX1_init_0 rfl ?_
  refine vc_objInit dX1_init_1 oiX1_3 (Nat.le_of_ble_eq_true rfl) ?_
  refine vc_aload_n dX1_init_4 rfl ?_
  refine vc_aload_n dX1_init_5 rfl ?_
  refine vc_putR dX1_init_6 (plX1_9 _ rfl rfl) hk rfl ?_
  refine vc_aload_n dX1_init_9 rfl ?_
  refine vc_bipush dX1_init_10 rfl ?_
  refine vc_newIq 40 33 dX1_init_12 rfl hl (Nat.le_of_ble_eq_true rfl) (Nat.le_of_ble_eq_true rfl) (Nat.le_of_ble_eq_true rfl) ?_
  refine vc_putR dX1_init_14 (plX1_15 _ rfl rfl) (sh_mk hk) rfl ?_
  refine vc_vret dX1_init_17 rfl (Nat.le_of_ble_eq_true rfl) (Nat.le_of_ble_eq_true rfl) ?_
  exact ⟨rfl, rfl⟩
theorem lX1_init_0 {M : Mem} (hl : M.1.length = 33) : (gX1_init_0 M).1.length = 34 := (ln_mk hl)
theorem xX1_init_0 {M : Mem} {k : Nat} {x : Sh} (h : M.1[k]? = some x) : (gX1_init_0 M).1[k]? = some x := (sh_mk h)
theorem yX1_init_0 {M : Mem} {j r : Nat} (hl : M.1.length = 33) (h : mR M 0 j = some r) : mR (gX1_init_0 M) 0 j = some r := by
  unfold gX1_init_0
  simp [mR_sR, mR_mkC, mR_sI, mR_flI, mkC_len, ls_sR, ls_sI, hl, h]
def gX9_init_0 (M : Mem) : Mem := sR (sR (sR (sR M 34 0 (some 1)) 34 1 (some 15)) 34 2 (some 29)) 34 3 (some 32)
set_option maxRecDepth 8000 in
theorem qX9_init_0 {l : Launch} {M : Mem} (hl : M.1.length = 35) (hk : M.1[34]? = some (.inl 9)) : Fn l mdX9_init [aR 34, aR 1, aR 15, aR 29, aR 32] M none (gX9_init_0 M) := by
  refine Call.of [some (aR 34), some (aR 1), some (aR 15), some (aR 29), some (aR 32)] rfl (Nat.le_of_ble_eq_true rfl) rfl ?_
  refine vc_aload_n dX9_init_0 rfl ?_
  refine vc_objInit dX9_init_1 oiX9_3 (Nat.le_of_ble_eq_true rfl) ?_
  refine vc_aload_n dX9_init_4 rfl ?_
  refine vc_aload_n dX9_init_5 rfl ?_
  refine vc_putR dX9_init_6 (plX9_9 _ rfl rfl) hk rfl ?_
  refine vc_aload_n dX9_init_9 rfl ?_
  refine vc_aload_n dX9_init_10 rfl ?_
  refine vc_putR dX9_init_11 (plX9_15 _ rfl rfl) hk rfl ?_
  refine vc_aload_n dX9_init_14 rfl ?_
  refine vc_aload_n dX9_init_15 rfl ?_
  refine vc_putR dX9_init_16 (plX9_19 _ rfl rfl) hk rfl ?_
  refine vc_aload_n dX9_init_19 rfl ?_
  refine vc_aload dX9_init_20 rfl ?_
  refine vc_putR dX9_init_22 (plX9_23 _ rfl rfl) hk rfl ?_
  refine vc_vret dX9_init_25 rfl (Nat.le_of_ble_eq_true rfl) (Nat.le_of_ble_eq_true rfl) ?_
  exact ⟨rfl, rfl⟩
theorem lX9_init_0 {M : Mem} (hl : M.1.length = 35) : (gX9_init_0 M).1.length = 35 := hl
theorem xX9_init_0 {M : Mem} {k : Nat} {x : Sh} (h : M.1[k]? = some x) : (gX9_init_0 M).1[k]? = some x := h
theorem yX9_init_0 {M : Mem} {j r : Nat} (hl : M.1.length = 35) (h : mR M 0 j = some r) : mR (gX9_init_0 M) 0 j = some r := by
  unfold gX9_init_0
  simp [mR_sR, mR_mkC, mR_sI, mR_flI, mkC_len, ls_sR, ls_sI, hl, h]
def gX10_init_0 (M : Mem) : Mem := sR (mkC (sR (mkC (sR (mkC (sR (mkC (sR (sR (sR M 35 0 (some 1)) 35 1 (some 29)) 35 2 (some 32)) (.inr (0, 8))) 35 3 (some 36)) (.inr (0, 8))) 35 4 (some 37)) (.inr (0, 8))) 35 5 (some 38)) (.inr (1, 16))) 35 6 (some 39)
set_option maxRecDepth 8000 in
theorem qX10_init_0 {l : Launch} {M : Mem} (hl : M.1.length = 36) (hk : M.1[35]? = some (.inl 10)) : Fn l mdX10_init [aR 35, aR 1, aR 29, aR 32] M none (gX10_init_0 M) := by
  refine Call.of [some (aR 35), some (aR 1), some (aR 29), some (aR 32)] rfl (Nat.le_of_ble_eq_true rfl) rfl ?_
  refine vc_aload_n dX10_init_0 rfl ?_
  refine vc_objInit dX10_init_1 oiX10_3 (Nat.le_of_ble_eq_true rfl) ?_
  refine vc_aload_n dX10_init_4 rfl ?_
  refine vc_aload_n dX10_init_5 rfl ?_
  refine vc_putR dX10_init_6 (plX10_9 _ rfl rfl) hk rfl ?_
  refine vc_aload_n dX10_init_9 rfl ?_
  refine vc_aload_n dX10_init_10 rfl ?_
  refine vc_putR dX10_init_11 (plX10_15 _ rfl rfl) hk rfl ?_
  refine vc_aload_n dX10_init_14 rfl ?_
  refine vc_aload_n dX10_init_15 rfl ?_
  refine vc_putR dX10_init_16 (plX10_19 _ rfl rfl) hk rfl ?_
  refine vc_aload_n dX10_init_19 rfl ?_
  refine vc_bipush dX10_init_20 rfl ?_
  refine vc_newIq 8 36 dX10_init_22 rfl hl (Nat.le_of_ble_eq_true rfl) (Nat.le_of_ble_eq_true rfl) (Nat.le_of_ble_eq_true rfl) ?_
  refine vc_putR dX10_init_24 (plX10_23 _ rfl rfl) (sh_mk hk) rfl ?_
  refine vc_aload_n dX10_init_27 rfl ?_
  refine vc_bipush dX10_init_28 rfl ?_
  refine vc_newIq 8 37 dX10_init_30 rfl (ln_mk hl) (Nat.le_of_ble_eq_true rfl) (Nat.le_of_ble_eq_true rfl) (Nat.le_of_ble_eq_true rfl) ?_
  refine vc_putR dX10_init_32 (plX10_27 _ rfl rfl) (sh_mk (sh_mk hk)) rfl ?_
  refine vc_aload_n dX10_init_35 rfl ?_
  refine vc_bipush dX10_init_36 rfl ?_
  refine vc_newIq 8 38 dX10_init_38 rfl (ln_mk (ln_mk hl)) (Nat.le_of_ble_eq_true rfl) (Nat.le_of_ble_eq_true rfl) (Nat.le_of_ble_eq_true rfl) ?_
  refine vc_putR dX10_init_40 (plX10_30 _ rfl rfl) (sh_mk (sh_mk (sh_mk hk))) rfl ?_
  refine vc_aload_n dX10_init_43 rfl ?_
  refine vc_bipush dX10_init_44 rfl ?_
  refine vc_newJq 16 39 dX10_init_46 rfl (ln_mk (ln_mk (ln_mk hl))) (Nat.le_of_ble_eq_true rfl) (Nat.le_of_ble_eq_true rfl) (Nat.le_of_ble_eq_true rfl) ?_
  refine vc_putR dX10_init_48 (plX10_33 _ rfl rfl) (sh_mk (sh_mk (sh_mk (sh_mk hk)))) rfl ?_
  refine vc_vret dX10_init_51 rfl (Nat.le_of_ble_eq_true rfl) (Nat.le_of_ble_eq_true rfl) ?_
  exact ⟨rfl, rfl⟩
theorem lX10_init_0 {M : Mem} (hl : M.1.length = 36) : (gX10_init_0 M).1.length = 40 := (ln_mk (ln_mk (ln_mk (ln_mk hl))))
theorem xX10_init_0 {M : Mem} {k : Nat} {x : Sh} (h : M.1[k]? = some x) : (gX10_init_0 M).1[k]? = some x := (sh_mk (sh_mk (sh_mk (sh_mk h))))
theorem yX10_init_0 {M : Mem} {j r : Nat} (hl : M.1.length = 36) (h : mR M 0 j = some r) : mR (gX10_init_0 M) 0 j = some r := by
  unfold gX10_init_0
  simp [mR_sR, mR_mkC, mR_sI, mR_flI, mkC_len, ls_sR, ls_sI, hl, h]
def gX7_init_0 (M : Mem) : Mem := sR (mkC (sR (mkC (sR (mkC (sR (mkC (sR (mkC (sR (sR (sR (sR M 40 0 (some 1)) 40 1 (some 15)) 40 2 (some 29)) 40 3 (some 35)) (.inr (0, 64))) 40 4 (some 41)) (.inr (0, 256))) 40 5 (some 42)) (.inr (0, 5))) 40 6 (some 43)) (.inr (0, 5))) 40 7 (some 44)) (.inr (0, 5))) 40 8 (some 45)
set_option maxRecDepth 8000 in
theorem qX7_init_0 {l : Launch} {M : Mem} (hl : M.1.length = 41) (hk : M.1[40]? = some (.inl 7)) : Fn l mdX7_init [aR 40, aR 1, aR 15, aR 29, aR 35] M none (gX7_init_0 M) := by
  refine Call.of [some (aR 40), some (aR 1), some (aR 15), some (aR 29), some (aR 35)] rfl (Nat.le_of_ble_eq_true rfl) rfl ?_
  refine vc_aload_n dX7_init_0 rfl ?_
  refine vc_objInit dX7_init_1 oiX7_3 (Nat.le_of_ble_eq_true rfl) ?_
  refine vc_aload_n dX7_init_4 rfl ?_
  refine vc_aload_n dX7_init_5 rfl ?_
  refine vc_putR dX7_init_6 (plX7_9 _ rfl rfl) hk rfl ?_
  refine vc_aload_n dX7_init_9 rfl ?_
  refine vc_aload_n dX7_init_10 rfl ?_
  refine vc_putR dX7_init_11 (plX7_15 _ rfl rfl) hk rfl ?_
  refine vc_aload_n dX7_init_14 rfl ?_
  refine vc_aload_n dX7_init_15 rfl ?_
  refine vc_putR dX7_init_16 (plX7_19 _ rfl rfl) hk rfl ?_
  refine vc_aload_n dX7_init_19 rfl ?_
  refine vc_aload dX7_init_20 rfl ?_
  refine vc_putR dX7_init_22 (plX7_23 _ rfl rfl) hk rfl ?_
  refine vc_aload_n dX7_init_25 rfl ?_
  refine vc_bipush dX7_init_26 rfl ?_
  refine vc_newIq 64 41 dX7_init_28 rfl hl (Nat.le_of_ble_eq_true rfl) (Nat.le_of_ble_eq_true rfl) (Nat.le_of_ble_eq_true rfl) ?_
  refine vc_putR dX7_init_30 (plX7_27 _ rfl rfl) (sh_mk hk) rfl ?_
  refine vc_aload_n dX7_init_33 rfl ?_
  refine vc_sipush dX7_init_34 rfl ?_
  refine vc_newIq 256 42 dX7_init_37 rfl (ln_mk hl) (Nat.le_of_ble_eq_true rfl) (Nat.le_of_ble_eq_true rfl) (Nat.le_of_ble_eq_true rfl) ?_
  refine vc_putR dX7_init_39 (plX7_31 _ rfl rfl) (sh_mk (sh_mk hk)) rfl ?_
  refine vc_aload_n dX7_init_42 rfl ?_
  refine vc_iconst dX7_init_43 rfl ?_
  refine vc_newIq 5 43 dX7_init_44 rfl (ln_mk (ln_mk hl)) (Nat.le_of_ble_eq_true rfl) (Nat.le_of_ble_eq_true rfl) (Nat.le_of_ble_eq_true rfl) ?_
  refine vc_putR dX7_init_46 (plX7_34 _ rfl rfl) (sh_mk (sh_mk (sh_mk hk))) rfl ?_
  refine vc_aload_n dX7_init_49 rfl ?_
  refine vc_iconst dX7_init_50 rfl ?_
  refine vc_newIq 5 44 dX7_init_51 rfl (ln_mk (ln_mk (ln_mk hl))) (Nat.le_of_ble_eq_true rfl) (Nat.le_of_ble_eq_true rfl) (Nat.le_of_ble_eq_true rfl) ?_
  refine vc_putR dX7_init_53 (plX7_37 _ rfl rfl) (sh_mk (sh_mk (sh_mk (sh_mk hk)))) rfl ?_
  refine vc_aload_n dX7_init_56 rfl ?_
  refine vc_iconst dX7_init_57 rfl ?_
  refine vc_newIq 5 45 dX7_init_58 rfl (ln_mk (ln_mk (ln_mk (ln_mk hl)))) (Nat.le_of_ble_eq_true rfl) (Nat.le_of_ble_eq_true rfl) (Nat.le_of_ble_eq_true rfl) ?_
  refine vc_putR dX7_init_60 (plX7_40 _ rfl rfl) (sh_mk (sh_mk (sh_mk (sh_mk (sh_mk hk))))) rfl ?_
  refine vc_vret dX7_init_63 rfl (Nat.le_of_ble_eq_true rfl) (Nat.le_of_ble_eq_true rfl) ?_
  exact ⟨rfl, rfl⟩
theorem lX7_init_0 {M : Mem} (hl : M.1.length = 41) : (gX7_init_0 M).1.length = 46 := (ln_mk (ln_mk (ln_mk (ln_mk (ln_mk hl)))))
theorem xX7_init_0 {M : Mem} {k : Nat} {x : Sh} (h : M.1[k]? = some x) : (gX7_init_0 M).1[k]? = some x := (sh_mk (sh_mk (sh_mk (sh_mk (sh_mk h)))))
theorem yX7_init_0 {M : Mem} {j r : Nat} (hl : M.1.length = 41) (h : mR M 0 j = some r) : mR (gX7_init_0 M) 0 j = some r := by
  unfold gX7_init_0
  simp [mR_sR, mR_mkC, mR_sI, mR_flI, mkC_len, ls_sR, ls_sI, hl, h]
def gX0_init_0 (M : Mem) : Mem := sR (mkC (sR (mkC (sR (mkC (sR (sR M 46 0 (some 1)) 46 1 (some 32)) (.inr (0, 3456))) 46 2 (some 47)) (.inr (0, 32))) 46 3 (some 48)) (.inr (0, 3))) 46 4 (some 49)
set_option maxRecDepth 8000 in
theorem qX0_init_0 {l : Launch} {M : Mem} (hl : M.1.length = 47) (hk : M.1[46]? = some (.inl 0)) : Fn l mdX0_init [aR 46, aR 1, aR 32] M none (gX0_init_0 M) := by
  refine Call.of [some (aR 46), some (aR 1), some (aR 32)] rfl (Nat.le_of_ble_eq_true rfl) rfl ?_
  refine vc_aload_n dX0_init_0 rfl ?_
  refine vc_objInit dX0_init_1 oiX0_3 (Nat.le_of_ble_eq_true rfl) ?_
  refine vc_aload_n dX0_init_4 rfl ?_
  refine vc_aload_n dX0_init_5 rfl ?_
  refine vc_putR dX0_init_6 (plX0_9 _ rfl rfl) hk rfl ?_
  refine vc_aload_n dX0_init_9 rfl ?_
  refine vc_aload_n dX0_init_10 rfl ?_
  refine vc_putR dX0_init_11 (plX0_15 _ rfl rfl) hk rfl ?_
  refine vc_aload_n dX0_init_14 rfl ?_
  refine vc_sipush dX0_init_15 rfl ?_
  refine vc_newIq 3456 47 dX0_init_18 rfl hl (Nat.le_of_ble_eq_true rfl) (Nat.le_of_ble_eq_true rfl) (Nat.le_of_ble_eq_true rfl) ?_
  refine vc_putR dX0_init_20 (plX0_19 _ rfl rfl) (sh_mk hk) rfl ?_
  refine vc_aload_n dX0_init_23 rfl ?_
  refine vc_bipush dX0_init_24 rfl ?_
  refine vc_newIq 32 48 dX0_init_26 rfl (ln_mk hl) (Nat.le_of_ble_eq_true rfl) (Nat.le_of_ble_eq_true rfl) (Nat.le_of_ble_eq_true rfl) ?_
  refine vc_putR dX0_init_28 (plX0_23 _ rfl rfl) (sh_mk (sh_mk hk)) rfl ?_
  refine vc_aload_n dX0_init_31 rfl ?_
  refine vc_iconst dX0_init_32 rfl ?_
  refine vc_newIq 3 49 dX0_init_33 rfl (ln_mk (ln_mk hl)) (Nat.le_of_ble_eq_true rfl) (Nat.le_of_ble_eq_true rfl) (Nat.le_of_ble_eq_true rfl) ?_
  refine vc_putR dX0_init_35 (plX0_26 _ rfl rfl) (sh_mk (sh_mk (sh_mk hk))) rfl ?_
  refine vc_vret dX0_init_38 rfl (Nat.le_of_ble_eq_true rfl) (Nat.le_of_ble_eq_true rfl) ?_
  exact ⟨rfl, rfl⟩
theorem lX0_init_0 {M : Mem} (hl : M.1.length = 47) : (gX0_init_0 M).1.length = 50 := (ln_mk (ln_mk (ln_mk hl)))
theorem xX0_init_0 {M : Mem} {k : Nat} {x : Sh} (h : M.1[k]? = some x) : (gX0_init_0 M).1[k]? = some x := (sh_mk (sh_mk (sh_mk h)))
theorem yX0_init_0 {M : Mem} {j r : Nat} (hl : M.1.length = 47) (h : mR M 0 j = some r) : mR (gX0_init_0 M) 0 j = some r := by
  unfold gX0_init_0
  simp [mR_sR, mR_mkC, mR_sI, mR_flI, mkC_len, ls_sR, ls_sI, hl, h]
def gX3_init_0 (M : Mem) : Mem := sR (mkC (sR (mkC (sR (mkC (sR M 50 0 (some 1)) (.inr (0, 16))) 50 1 (some 51)) (.inr (0, 16))) 50 2 (some 52)) (.inr (0, 64))) 50 3 (some 53)
set_option maxRecDepth 8000 in
theorem qX3_init_0 {l : Launch} {M : Mem} (hl : M.1.length = 51) (hk : M.1[50]? = some (.inl 3)) : Fn l mdX3_init [aR 50, aR 1] M none (gX3_init_0 M) := by
  refine Call.of [some (aR 50), some (aR 1)] rfl (Nat.le_of_ble_eq_true rfl) rfl ?_
  refine vc_aload_n dX3_init_0 rfl ?_
  refine vc_objInit dX3_init_1 oiX3_3 (Nat.le_of_ble_eq_true rfl) ?_
  refine vc_aload_n dX3_init_4 rfl ?_
  refine vc_aload_n dX3_init_5 rfl ?_
  refine vc_putR dX3_init_6 (plX3_9 _ rfl rfl) hk rfl ?_
  refine vc_aload_n dX3_init_9 rfl ?_
  refine vc_bipush dX3_init_10 rfl ?_
  refine vc_newIq 16 51 dX3_init_12 rfl hl (Nat.le_of_ble_eq_true rfl) (Nat.le_of_ble_eq_true rfl) (Nat.le_of_ble_eq_true rfl) ?_
  refine vc_putR dX3_init_14 (plX3_15 _ rfl rfl) (sh_mk hk) rfl ?_
  refine vc_aload_n dX3_init_17 rfl ?_
  refine vc_bipush dX3_init_18 rfl ?_
  refine vc_newIq 16 52 dX3_init_20 rfl (ln_mk hl) (Nat.le_of_ble_eq_true rfl) (Nat.le_of_ble_eq_true rfl) (Nat.le_of_ble_eq_true rfl) ?_
  refine vc_putR dX3_init_22 (plX3_19 _ rfl rfl) (sh_mk (sh_mk hk)) rfl ?_
  refine vc_aload_n dX3_init_25 rfl ?_
  refine vc_bipush dX3_init_26 rfl ?_
  refine vc_newIq 64 53 dX3_init_28 rfl (ln_mk (ln_mk hl)) (Nat.le_of_ble_eq_true rfl) (Nat.le_of_ble_eq_true rfl) (Nat.le_of_ble_eq_true rfl) ?_
  refine vc_putR dX3_init_30 (plX3_22 _ rfl rfl) (sh_mk (sh_mk (sh_mk hk))) rfl ?_
  refine vc_vret dX3_init_33 rfl (Nat.le_of_ble_eq_true rfl) (Nat.le_of_ble_eq_true rfl) ?_
  exact ⟨rfl, rfl⟩
theorem lX3_init_0 {M : Mem} (hl : M.1.length = 51) : (gX3_init_0 M).1.length = 54 := (ln_mk (ln_mk (ln_mk hl)))
theorem xX3_init_0 {M : Mem} {k : Nat} {x : Sh} (h : M.1[k]? = some x) : (gX3_init_0 M).1[k]? = some x := (sh_mk (sh_mk (sh_mk h)))
theorem yX3_init_0 {M : Mem} {j r : Nat} (hl : M.1.length = 51) (h : mR M 0 j = some r) : mR (gX3_init_0 M) 0 j = some r := by
  unfold gX3_init_0
  simp [mR_sR, mR_mkC, mR_sI, mR_flI, mkC_len, ls_sR, ls_sI, hl, h]
def gX11_init (M : Mem) : Mem := sI (sI (sI (sR (gX3_init_0 (mkC (sR (gX0_init_0 (mkC (sR (gX7_init_0 (mkC (sR (gX10_init_0 (mkC (sR (gX9_init_0 (mkC (sR (gX1_init_0 (mkC (sR (gX2_init_0 (mkC (sR (gX4_init_0 (mkC (sR (mkC (sR (gX8_init_18 (mkC (sR (gX8_init_15 (mkC (sR (gX6_init_8 (mkC (sR (gX6_init_1 (mkC M (.inl 6))) 0 0 (some 1)) (.inl 6))) 0 1 (some 8)) (.inl 8))) 0 2 (some 15)) (.inl 8))) 0 3 (some 18)) (.inr (0, 300))) 0 4 (some 21)) (.inl 4))) 0 5 (some 22)) (.inl 2))) 0 6 (some 29)) (.inl 1))) 0 7 (some 32)) (.inl 9))) 0 8 (some 34)) (.inl 10))) 0 9 (some 35)) (.inl 7))) 0 10 (some 40)) (.inl 0))) 0 11 (some 46)) (.inl 3))) 0 12 (some 50)) 0 13 0) 0 14 (-1)) 0 15 (-1)
set_option maxRecDepth 8000 in
theorem qX11_init {l : Launch} {M : Mem} (hl : M.1.length = 1) (hk : M.1[0]? = some (.inl 11)) : Fn l mdX11_init [aR 0] M none (gX11_init M) := by
  refine Call.of [some (aR 0)] rfl (Nat.le_of_ble_eq_true rfl) rfl ?_
  refine vc_aload_n dX11_init_0 rfl ?_
  refine vc_objInit dX11_init_1 oiX11_1 (Nat.le_of_ble_eq_true rfl) ?_
  refine vc_aload_n dX11_init_4 rfl ?_
  refine vc_newOq 1 dX11_init_5 hl cl_6 clX11_7 iaX6 iiX6 (Nat.le_of_ble_eq_true rfl) (Nat.le_of_ble_eq_true rfl) ?_
  refine vc_dup dX11_init_8 rfl ?_
  refine vc_callIU dX11_init_9 (qX6_init_1 (ln_mk hl) (sh_nw hl)) rfl okX6_init inX6_init rfl rfl lkX11_9 rfl (Nat.le_of_ble_eq_true rfl) (Nat.le_of_ble_eq_true rfl) (Nat.le_of_ble_eq_true rfl) (Nat.le_of_ble_eq_true rfl) ?_
  refine vc_putR dX11_init_12 (plX11_10 _ rfl rfl) (xX6_init_1 (sh_mk hk)) rfl ?_
  refine vc_aload_n dX11_init_15 rfl ?_
  refine vc_newOq 8 dX11_init_16 (lX6_init_1 (ln_mk hl)) cl_6 clX11_7 iaX6 iiX6 (Nat.le_of_ble_eq_true rfl) (Nat.le_of_ble_eq_true rfl) ?_
  refine vc_dup dX11_init_19 rfl ?_
  refine vc_callIU dX11_init_20 (qX6_init_8 (ln_mk (lX6_init_1 (ln_mk hl))) (sh_nw (lX6_init_1 (ln_mk hl)))) rfl okX6_init inX6_init rfl rfl lkX11_9 rfl (Nat.le_of_ble_eq_true rfl) (Nat.le_of_ble_eq_true rfl) (Nat.le_of_ble_eq_true rfl) (Nat.le_of_ble_eq_true rfl) ?_
  refine vc_putR dX11_init_23 (plX11_16 _ rfl rfl) (xX6_init_8 (sh_mk (xX6_init_1 (sh_mk hk)))) rfl ?_
  refine vc_aload_n dX11_init_26 rfl ?_
  refine vc_newOq 15 dX11_init_27 (lX6_init_8 (ln_mk (lX6_init_1 (ln_mk hl)))) cl_8 clX11_19 iaX8 iiX8 (Nat.le_of_ble_eq_true rfl) (Nat.le_of_ble_eq_true rfl) ?_
  refine vc_dup dX11_init_30 rfl ?_
  refine vc_callIU dX11_init_31 (qX8_init_15 (ln_mk (lX6_init_8 (ln_mk (lX6_init_1 (ln_mk hl))))) (sh_nw (lX6_init_8 (ln_mk (lX6_init_1 (ln_mk hl)))))) rfl okX8_init inX8_init rfl rfl lkX11_21 rfl (Nat.le_of_ble_eq_true rfl) (Nat.le_of_ble_eq_true rfl) (Nat.le_of_ble_eq_true rfl) (Nat.le_of_ble_eq_true rfl) ?_
  refine vc_putR dX11_init_34 (plX11_22 _ rfl rfl) (xX8_init_15 (sh_mk (xX6_init_8 (sh_mk (xX6_init_1 (sh_mk hk)))))) rfl ?_
  refine vc_aload_n dX11_init_37 rfl ?_
  refine vc_newOq 18 dX11_init_38 (lX8_init_15 (ln_mk (lX6_init_8 (ln_mk (lX6_init_1 (ln_mk hl)))))) cl_8 clX11_19 iaX8 iiX8 (Nat.le_of_ble_eq_true rfl) (Nat.le_of_ble_eq_true rfl) ?_
  refine vc_dup dX11_init_41 rfl ?_
  refine vc_callIU dX11_init_42 (qX8_init_18 (ln_mk (lX8_init_15 (ln_mk (lX6_init_8 (ln_mk (lX6_init_1 (ln_mk hl))))))) (sh_nw (lX8_init_15 (ln_mk (lX6_init_8 (ln_mk (lX6_init_1 (ln_mk hl)))))))) rfl okX8_init inX8_init rfl rfl lkX11_21 rfl (Nat.le_of_ble_eq_true rfl) (Nat.le_of_ble_eq_true rfl) (Nat.le_of_ble_eq_true rfl) (Nat.le_of_ble_eq_true rfl) ?_
  refine vc_putR dX11_init_45 (plX11_26 _ rfl rfl) (xX8_init_18 (sh_mk (xX8_init_15 (sh_mk (xX6_init_8 (sh_mk (xX6_init_1 (sh_mk hk)))))))) rfl ?_
  refine vc_aload_n dX11_init_48 rfl ?_
  refine vc_sipush dX11_init_49 rfl ?_
  refine vc_newIq 300 21 dX11_init_52 rfl (lX8_init_18 (ln_mk (lX8_init_15 (ln_mk (lX6_init_8 (ln_mk (lX6_init_1 (ln_mk hl)))))))) (Nat.le_of_ble_eq_true rfl) (Nat.le_of_ble_eq_true rfl) (Nat.le_of_ble_eq_true rfl) ?_
  refine vc_putR dX11_init_54 (plX11_29 _ rfl rfl) (sh_mk (xX8_init_18 (sh_mk (xX8_init_15 (sh_mk (xX6_init_8 (sh_mk (xX6_init_1 (sh_mk hk))))))))) rfl ?_
  refine vc_aload_n dX11_init_57 rfl ?_
  refine vc_newOq 22 dX11_init_58 (ln_mk (lX8_init_18 (ln_mk (lX8_init_15 (ln_mk (lX6_init_8 (ln_mk (lX6_init_1 (ln_mk hl))))))))) cl_4 clX11_33 iaX4 iiX4 (Nat.le_of_ble_eq_true rfl) (Nat.le_of_ble_eq_true rfl) ?_
  refine vc_dup dX11_init_61 rfl ?_
  refine vc_aload_n dX11_init_62 rfl ?_
  refine vc_getR dX11_init_63 flX11_29 (sh_mk (sh_mk (xX8_init_18 (sh_mk (xX8_init_15 (sh_mk (xX6_init_8 (sh_mk (xX6_init_1 (sh_mk hk)))))))))) rfl (rp_mk (ln_mk (lX8_init_18 (ln_mk (lX8_init_15 (ln_mk (lX6_init_8 (ln_mk (lX6_init_1 (ln_mk hl))))))))) rp_new (by decide)) ?_
  refine vc_callIU dX11_init_66 (qX4_init_0 (ln_mk (ln_mk (lX8_init_18 (ln_mk (lX8_init_15 (ln_mk (lX6_init_8 (ln_mk (lX6_init_1 (ln_mk hl)))))))))) (sh_nw (ln_mk (lX8_init_18 (ln_mk (lX8_init_15 (ln_mk (lX6_init_8 (ln_mk (lX6_init_1 (ln_mk hl))))))))))) rfl okX4_init inX4_init rfl rfl lkX11_35 rfl (Nat.le_of_ble_eq_true rfl) (Nat.le_of_ble_eq_true rfl) (Nat.le_of_ble_eq_true rfl) (Nat.le_of_ble_eq_true rfl) ?_
  refine vc_putR dX11_init_69 (plX11_38 _ rfl rfl) (xX4_init_0 (sh_mk (sh_mk (xX8_init_18 (sh_mk (xX8_init_15 (sh_mk (xX6_init_8 (sh_mk (xX6_init_1 (sh_mk hk))))))))))) rfl ?_
  refine vc_aload_n dX11_init_72 rfl ?_
  refine vc_newOq 29 dX11_init_73 (lX4_init_0 (ln_mk (ln_mk (lX8_init_18 (ln_mk (lX8_init_15 (ln_mk (lX6_init_8 (ln_mk (lX6_init_1 (ln_mk hl))))))))))) cl_2 clX11_42 iaX2 iiX2 (Nat.le_of_ble_eq_true rfl) (Nat.le_of_ble_eq_true rfl) ?_
  refine vc_dup dX11_init_76 rfl ?_
  refine vc_aload_n dX11_init_77 rfl ?_
  refine vc_getR dX11_init_78 flX11_10 (sh_mk (xX4_init_0 (sh_mk (sh_mk (xX8_init_18 (sh_mk (xX8_init_15 (sh_mk (xX6_init_8 (sh_mk (xX6_init_1 (sh_mk hk)))))))))))) rfl (rp_mk (lX4_init_0 (ln_mk (ln_mk (lX8_init_18 (ln_mk (lX8_init_15 (ln_mk (lX6_init_8 (ln_mk (lX6_init_1 (ln_mk hl))))))))))) (rp_sR (yX4_init_0 (ln_mk (ln_mk (lX8_init_18 (ln_mk (lX8_init_15 (ln_mk (lX6_init_8 (ln_mk (lX6_init_1 (ln_mk hl)))))))))) (rp_mk (ln_mk (lX8_init_18 (ln_mk (lX8_init_15 (ln_mk (lX6_init_8 (ln_mk (lX6_init_1 (ln_mk hl))))))))) (rp_sR (rp_mk (lX8_init_18 (ln_mk (lX8_init_15 (ln_mk (lX6_init_8 (ln_mk (lX6_init_1 (ln_mk hl)))))))) (rp_sR (yX8_init_18 (ln_mk (lX8_init_15 (ln_mk (lX6_init_8 (ln_mk (lX6_init_1 (ln_mk hl))))))) (rp_mk (lX8_init_15 (ln_mk (lX6_init_8 (ln_mk (lX6_init_1 (ln_mk hl)))))) (rp_sR (yX8_init_15 (ln_mk (lX6_init_8 (ln_mk (lX6_init_1 (ln_mk hl))))) (rp_mk (lX6_init_8 (ln_mk (lX6_init_1 (ln_mk hl)))) (rp_sR (yX6_init_8 (ln_mk (lX6_init_1 (ln_mk hl))) (rp_mk (lX6_init_1 (ln_mk hl)) rp_new (by decide))) (by decide)) (by decide))) (by decide)) (by decide))) (by decide)) (by decide)) (by decide)) (by decide))) (by decide)) (by decide)) ?_
  refine vc_aload_n dX11_init_81 rfl ?_
  refine vc_getR dX11_init_82 flX11_22 (sh_mk (xX4_init_0 (sh_mk (sh_mk (xX8_init_18 (sh_mk (xX8_init_15 (sh_mk (xX6_init_8 (sh_mk (xX6_init_1 (sh_mk hk)))))))))))) rfl (rp_mk (lX4_init_0 (ln_mk (ln_mk (lX8_init_18 (ln_mk (lX8_init_15 (ln_mk (lX6_init_8 (ln_mk (lX6_init_1 (ln_mk hl))))))))))) (rp_sR (yX4_init_0 (ln_mk (ln_mk (lX8_init_18 (ln_mk (lX8_init_15 (ln_mk (lX6_init_8 (ln_mk (lX6_init_1 (ln_mk hl)))))))))) (rp_mk (ln_mk (lX8_init_18 (ln_mk (lX8_init_15 (ln_mk (lX6_init_8 (ln_mk (lX6_init_1 (ln_mk hl))))))))) (rp_sR (rp_mk (lX8_init_18 (ln_mk (lX8_init_15 (ln_mk (lX6_init_8 (ln_mk (lX6_init_1 (ln_mk hl)))))))) (rp_sR (yX8_init_18 (ln_mk (lX8_init_15 (ln_mk (lX6_init_8 (ln_mk (lX6_init_1 (ln_mk hl))))))) (rp_mk (lX8_init_15 (ln_mk (lX6_init_8 (ln_mk (lX6_init_1 (ln_mk hl)))))) rp_new (by decide))) (by decide)) (by decide)) (by decide)) (by decide))) (by decide)) (by decide)) ?_
  refine vc_callIU dX11_init_85 (qX2_init_0 (ln_mk (lX4_init_0 (ln_mk (ln_mk (lX8_init_18 (ln_mk (lX8_init_15 (ln_mk (lX6_init_8 (ln_mk (lX6_init_1 (ln_mk hl)))))))))))) (sh_nw (lX4_init_0 (ln_mk (ln_mk (lX8_init_18 (ln_mk (lX8_init_15 (ln_mk (lX6_init_8 (ln_mk (lX6_init_1 (ln_mk hl))))))))))))) rfl okX2_init inX2_init rfl rfl lkX11_44 rfl (Nat.le_of_ble_eq_true rfl) (Nat.le_of_ble_eq_true rfl) (Nat.le_of_ble_eq_true rfl) (Nat.le_of_ble_eq_true rfl) ?_
  refine vc_putR dX11_init_88 (plX11_47 _ rfl rfl) (xX2_init_0 (sh_mk (xX4_init_0 (sh_mk (sh_mk (xX8_init_18 (sh_mk (xX8_init_15 (sh_mk (xX6_init_8 (sh_mk (xX6_init_1 (sh_mk hk))))))))))))) rfl ?_
  refine vc_aload_n dX11_init_91 rfl ?_
  refine vc_newOq 32 dX11_init_92 (lX2_init_0 (ln_mk (lX4_init_0 (ln_mk (ln_mk (lX8_init_18 (ln_mk (lX8_init_15 (ln_mk (lX6_init_8 (ln_mk (lX6_init_1 (ln_mk hl))))))))))))) cl_1 clX11_51 iaX1 iiX1 (Nat.le_of_ble_eq_true rfl) (Nat.le_of_ble_eq_true rfl) ?_
  refine vc_dup dX11_init_95 rfl ?_
  refine vc_aload_n dX11_init_96 rfl ?_
  refine vc_getR dX11_init_97 flX11_10 (sh_mk (xX2_init_0 (sh_mk (xX4_init_0 (sh_mk (sh_mk (xX8_init_18 (sh_mk (xX8_init_15 (sh_mk (xX6_init_8 (sh_mk (xX6_init_1 (sh_mk hk)))))))))))))) rfl (rp_mk (lX2_init_0 (ln_mk (lX4_init_0 (ln_mk (ln_mk (lX8_init_18 (ln_mk (lX8_init_15 (ln_mk (lX6_init_8 (ln_mk (lX6_init_1 (ln_mk hl))))))))))))) (rp_sR (yX2_init_0 (ln_mk (lX4_init_0 (ln_mk (ln_mk (lX8_init_18 (ln_mk (lX8_init_15 (ln_mk (lX6_init_8 (ln_mk (lX6_init_1 (ln_mk hl)))))))))))) (rp_mk (lX4_init_0 (ln_mk (ln_mk (lX8_init_18 (ln_mk (lX8_init_15 (ln_mk (lX6_init_8 (ln_mk (lX6_init_1 (ln_mk hl))))))))))) (rp_sR (yX4_init_0 (ln_mk (ln_mk (lX8_init_18 (ln_mk (lX8_init_15 (ln_mk (lX6_init_8 (ln_mk (lX6_init_1 (ln_mk hl)))))))))) (rp_mk (ln_mk (lX8_init_18 (ln_mk (lX8_init_15 (ln_mk (lX6_init_8 (ln_mk (lX6_init_1 (ln_mk hl))))))))) (rp_sR (rp_mk (lX8_init_18 (ln_mk (lX8_init_15 (ln_mk (lX6_init_8 (ln_mk (lX6_init_1 (ln_mk hl)))))))) (rp_sR (yX8_init_18 (ln_mk (lX8_init_15 (ln_mk (lX6_init_8 (ln_mk (lX6_init_1 (ln_mk hl))))))) (rp_mk (lX8_init_15 (ln_mk (lX6_init_8 (ln_mk (lX6_init_1 (ln_mk hl)))))) (rp_sR (yX8_init_15 (ln_mk (lX6_init_8 (ln_mk (lX6_init_1 (ln_mk hl))))) (rp_mk (lX6_init_8 (ln_mk (lX6_init_1 (ln_mk hl)))) (rp_sR (yX6_init_8 (ln_mk (lX6_init_1 (ln_mk hl))) (rp_mk (lX6_init_1 (ln_mk hl)) rp_new (by decide))) (by decide)) (by decide))) (by decide)) (by decide))) (by decide)) (by decide)) (by decide)) (by decide))) (by decide)) (by decide))) (by decide)) (by decide)) ?_
  refine vc_callIU dX11_init_100 (qX1_init_0 (ln_mk (lX2_init_0 (ln_mk (lX4_init_0 (ln_mk (ln_mk (lX8_init_18 (ln_mk (lX8_init_15 (ln_mk (lX6_init_8 (ln_mk (lX6_init_1 (ln_mk hl)))))))))))))) (sh_nw (lX2_init_0 (ln_mk (lX4_init_0 (ln_mk (ln_mk (lX8_init_18 (ln_mk (lX8_init_15 (ln_mk (lX6_init_8 (ln_mk (lX6_init_1 (ln_mk hl))))))))))))))) rfl okX1_init inX1_init rfl rfl lkX11_53 rfl (Nat.le_of_ble_eq_true rfl) (Nat.le_of_ble_eq_true rfl) (Nat.le_of_ble_eq_true rfl) (Nat.le_of_ble_eq_true rfl) ?_
  refine vc_putR dX11_init_103 (plX11_56 _ rfl rfl) (xX1_init_0 (sh_mk (xX2_init_0 (sh_mk (xX4_init_0 (sh_mk (sh_mk (xX8_init_18 (sh_mk (xX8_init_15 (sh_mk (xX6_init_8 (sh_mk (xX6_init_1 (sh_mk hk))))))))))))))) rfl ?_
  refine vc_aload_n dX11_init_106 rfl ?_
  refine vc_newOq 34 dX11_init_107 (lX1_init_0 (ln_mk (lX2_init_0 (ln_mk (lX4_init_0 (ln_mk (ln_mk (lX8_init_18 (ln_mk (lX8_init_15 (ln_mk (lX6_init_8 (ln_mk (lX6_init_1 (ln_mk hl))))))))))))))) cl_9 clX11_60 iaX9 iiX9 (Nat.le_of_ble_eq_true rfl) (Nat.le_of_ble_eq_true rfl) ?_
  refine vc_dup dX11_init_110 rfl ?_
  refine vc_aload_n dX11_init_111 rfl ?_
  refine vc_getR dX11_init_112 flX11_10 (sh_mk (xX1_init_0 (sh_mk (xX2_init_0 (sh_mk (xX4_init_0 (sh_mk (sh_mk (xX8_init_18 (sh_mk (xX8_init_15 (sh_mk (xX6_init_8 (sh_mk (xX6_init_1 (sh_mk hk)))))))))))))))) rfl (rp_mk (lX1_init_0 (ln_mk (lX2_init_0 (ln_mk (lX4_init_0 (ln_mk (ln_mk (lX8_init_18 (ln_mk (lX8_init_15 (ln_mk (lX6_init_8 (ln_mk (lX6_init_1 (ln_mk hl))))))))))))))) (rp_sR (yX1_init_0 (ln_mk (lX2_init_0 (ln_mk (lX4_init_0 (ln_mk (ln_mk (lX8_init_18 (ln_mk (lX8_init_15 (ln_mk (lX6_init_8 (ln_mk (lX6_init_1 (ln_mk hl)))))))))))))) (rp_mk (lX2_init_0 (ln_mk (lX4_init_0 (ln_mk (ln_mk (lX8_init_18 (ln_mk (lX8_init_15 (ln_mk (lX6_init_8 (ln_mk (lX6_init_1 (ln_mk hl))))))))))))) (rp_sR (yX2_init_0 (ln_mk (lX4_init_0 (ln_mk (ln_mk (lX8_init_18 (ln_mk (lX8_init_15 (ln_mk (lX6_init_8 (ln_mk (lX6_init_1 (ln_mk hl)))))))))))) (rp_mk (lX4_init_0 (ln_mk (ln_mk (lX8_init_18 (ln_mk (lX8_init_15 (ln_mk (lX6_init_8 (ln_mk (lX6_init_1 (ln_mk hl))))))))))) (rp_sR (yX4_init_0 (ln_mk (ln_mk (lX8_init_18 (ln_mk (lX8_init_15 (ln_mk (lX6_init_8 (ln_mk (lX6_init_1 (ln_mk hl)))))))))) (rp_mk (ln_mk (lX8_init_18 (ln_mk (lX8_init_15 (ln_mk (lX6_init_8 (ln_mk (lX6_init_1 (ln_mk hl))))))))) (rp_sR (rp_mk (lX8_init_18 (ln_mk (lX8_init_15 (ln_mk (lX6_init_8 (ln_mk (lX6_init_1 (ln_mk hl)))))))) (rp_sR (yX8_init_18 (ln_mk (lX8_init_15 (ln_mk (lX6_init_8 (ln_mk (lX6_init_1 (ln_mk hl))))))) (rp_mk (lX8_init_15 (ln_mk (lX6_init_8 (ln_mk (lX6_init_1 (ln_mk hl)))))) (rp_sR (yX8_init_15 (ln_mk (lX6_init_8 (ln_mk (lX6_init_1 (ln_mk hl))))) (rp_mk (lX6_init_8 (ln_mk (lX6_init_1 (ln_mk hl)))) (rp_sR (yX6_init_8 (ln_mk (lX6_init_1 (ln_mk hl))) (rp_mk (lX6_init_1 (ln_mk hl)) rp_new (by decide))) (by decide)) (by decide))) (by decide)) (by decide))) (by decide)) (by decide)) (by decide)) (by decide))) (by decide)) (by decide))) (by decide)) (by decide))) (by decide)) (by decide)) ?_
  refine vc_aload_n dX11_init_115 rfl ?_
  refine vc_getR dX11_init_116 flX11_22 (sh_mk (xX1_init_0 (sh_mk (xX2_init_0 (sh_mk (xX4_init_0 (sh_mk (sh_mk (xX8_init_18 (sh_mk (xX8_init_15 (sh_mk (xX6_init_8 (sh_mk (xX6_init_1 (sh_mk hk)))))))))))))))) rfl (rp_mk (lX1_init_0 (ln_mk (lX2_init_0 (ln_mk (lX4_init_0 (ln_mk (ln_mk (lX8_init_18 (ln_mk (lX8_init_15 (ln_mk (lX6_init_8 (ln_mk (lX6_init_1 (ln_mk hl))))))))))))))) (rp_sR (yX1_init_0 (ln_mk (lX2_init_0 (ln_mk (lX4_init_0 (ln_mk (ln_mk (lX8_init_18 (ln_mk (lX8_init_15 (ln_mk (lX6_init_8 (ln_mk (lX6_init_1 (ln_mk hl)))))))))))))) (rp_mk (lX2_init_0 (ln_mk (lX4_init_0 (ln_mk (ln_mk (lX8_init_18 (ln_mk (lX8_init_15 (ln_mk (lX6_init_8 (ln_mk (lX6_init_1 (ln_mk hl))))))))))))) (rp_sR (yX2_init_0 (ln_mk (lX4_init_0 (ln_mk (ln_mk (lX8_init_18 (ln_mk (lX8_init_15 (ln_mk (lX6_init_8 (ln_mk (lX6_init_1 (ln_mk hl)))))))))))) (rp_mk (lX4_init_0 (ln_mk (ln_mk (lX8_init_18 (ln_mk (lX8_init_15 (ln_mk (lX6_init_8 (ln_mk (lX6_init_1 (ln_mk hl))))))))))) (rp_sR (yX4_init_0 (ln_mk (ln_mk (lX8_init_18 (ln_mk (lX8_init_15 (ln_mk (lX6_init_8 (ln_mk (lX6_init_1 (ln_mk hl)))))))))) (rp_mk (ln_mk (lX8_init_18 (ln_mk (lX8_init_15 (ln_mk (lX6_init_8 (ln_mk (lX6_init_1 (ln_mk hl))))))))) (rp_sR (rp_mk (lX8_init_18 (ln_mk (lX8_init_15 (ln_mk (lX6_init_8 (ln_mk (lX6_init_1 (ln_mk hl)))))))) (rp_sR (yX8_init_18 (ln_mk (lX8_init_15 (ln_mk (lX6_init_8 (ln_mk (lX6_init_1 (ln_mk hl))))))) (rp_mk (lX8_init_15 (ln_mk (lX6_init_8 (ln_mk (lX6_init_1 (ln_mk hl)))))) rp_new (by decide))) (by decide)) (by decide)) (by decide)) (by decide))) (by decide)) (by decide))) (by decide)) (by decide))) (by decide)) (by decide)) ?_
  refine vc_aload_n dX11_init_119 rfl ?_
  refine vc_getR dX11_init_120 flX11_47 (sh_mk (xX1_init_0 (sh_mk (xX2_init_0 (sh_mk (xX4_init_0 (sh_mk (sh_mk (xX8_init_18 (sh_mk (xX8_init_15 (sh_mk (xX6_init_8 (sh_mk (xX6_init_1 (sh_mk hk)))))))))))))))) rfl (rp_mk (lX1_init_0 (ln_mk (lX2_init_0 (ln_mk (lX4_init_0 (ln_mk (ln_mk (lX8_init_18 (ln_mk (lX8_init_15 (ln_mk (lX6_init_8 (ln_mk (lX6_init_1 (ln_mk hl))))))))))))))) (rp_sR (yX1_init_0 (ln_mk (lX2_init_0 (ln_mk (lX4_init_0 (ln_mk (ln_mk (lX8_init_18 (ln_mk (lX8_init_15 (ln_mk (lX6_init_8 (ln_mk (lX6_init_1 (ln_mk hl)))))))))))))) (rp_mk (lX2_init_0 (ln_mk (lX4_init_0 (ln_mk (ln_mk (lX8_init_18 (ln_mk (lX8_init_15 (ln_mk (lX6_init_8 (ln_mk (lX6_init_1 (ln_mk hl))))))))))))) rp_new (by decide))) (by decide)) (by decide)) ?_
  refine vc_aload_n dX11_init_123 rfl ?_
  refine vc_getR dX11_init_124 flX11_56 (sh_mk (xX1_init_0 (sh_mk (xX2_init_0 (sh_mk (xX4_init_0 (sh_mk (sh_mk (xX8_init_18 (sh_mk (xX8_init_15 (sh_mk (xX6_init_8 (sh_mk (xX6_init_1 (sh_mk hk)))))))))))))))) rfl (rp_mk (lX1_init_0 (ln_mk (lX2_init_0 (ln_mk (lX4_init_0 (ln_mk (ln_mk (lX8_init_18 (ln_mk (lX8_init_15 (ln_mk (lX6_init_8 (ln_mk (lX6_init_1 (ln_mk hl))))))))))))))) rp_new (by decide)) ?_
  refine vc_callIU dX11_init_127 (qX9_init_0 (ln_mk (lX1_init_0 (ln_mk (lX2_init_0 (ln_mk (lX4_init_0 (ln_mk (ln_mk (lX8_init_18 (ln_mk (lX8_init_15 (ln_mk (lX6_init_8 (ln_mk (lX6_init_1 (ln_mk hl)))))))))))))))) (sh_nw (lX1_init_0 (ln_mk (lX2_init_0 (ln_mk (lX4_init_0 (ln_mk (ln_mk (lX8_init_18 (ln_mk (lX8_init_15 (ln_mk (lX6_init_8 (ln_mk (lX6_init_1 (ln_mk hl))))))))))))))))) rfl okX9_init inX9_init rfl rfl lkX11_62 rfl (Nat.le_of_ble_eq_true rfl) (Nat.le_of_ble_eq_true rfl) (Nat.le_of_ble_eq_true rfl) (Nat.le_of_ble_eq_true rfl) ?_
  refine vc_putR dX11_init_130 (plX11_65 _ rfl rfl) (xX9_init_0 (sh_mk (xX1_init_0 (sh_mk (xX2_init_0 (sh_mk (xX4_init_0 (sh_mk (sh_mk (xX8_init_18 (sh_mk (xX8_init_15 (sh_mk (xX6_init_8 (sh_mk (xX6_init_1 (sh_mk hk))))))))))))))))) rfl ?_
  refine vc_aload_n dX11_init_133 rfl ?_
  refine vc_newOq 35 dX11_init_134 (lX9_init_0 (ln_mk (lX1_init_0 (ln_mk (lX2_init_0 (ln_mk (lX4_init_0 (ln_mk (ln_mk (lX8_init_18 (ln_mk (lX8_init_15 (ln_mk (lX6_init_8 (ln_mk (lX6_init_1 (ln_mk hl))))))))))))))))) cl_10 clX11_69 iaX10 iiX10 (Nat.le_of_ble_eq_true rfl) (Nat.le_of_ble_eq_true rfl) ?_
  refine vc_dup dX11_init_137 rfl ?_
  refine vc_aload_n dX11_init_138 rfl ?_
  refine vc_getR dX11_init_139 flX11_10 (sh_mk (xX9_init_0 (sh_mk (xX1_init_0 (sh_mk (xX2_init_0 (sh_mk (xX4_init_0 (sh_mk (sh_mk (xX8_init_18 (sh_mk (xX8_init_15 (sh_mk (xX6_init_8 (sh_mk (xX6_init_1 (sh_mk hk)))))))))))))))))) rfl (rp_mk (lX9_init_0 (ln_mk (lX1_init_0 (ln_mk (lX2_init_0 (ln_mk (lX4_init_0 (ln_mk (ln_mk (lX8_init_18 (ln_mk (lX8_init_15 (ln_mk (lX6_init_8 (ln_mk (lX6_init_1 (ln_mk hl))))))))))))))))) (rp_sR (yX9_init_0 (ln_mk (lX1_init_0 (ln_mk (lX2_init_0 (ln_mk (lX4_init_0 (ln_mk (ln_mk (lX8_init_18 (ln_mk (lX8_init_15 (ln_mk (lX6_init_8 (ln_mk (lX6_init_1 (ln_mk hl)))))))))))))))) (rp_mk (lX1_init_0 (ln_mk (lX2_init_0 (ln_mk (lX4_init_0 (ln_mk (ln_mk (lX8_init_18 (ln_mk (lX8_init_15 (ln_mk (lX6_init_8 (ln_mk (lX6_init_1 (ln_mk hl))))))))))))))) (rp_sR (yX1_init_0 (ln_mk (lX2_init_0 (ln_mk (lX4_init_0 (ln_mk (ln_mk (lX8_init_18 (ln_mk (lX8_init_15 (ln_mk (lX6_init_8 (ln_mk (lX6_init_1 (ln_mk hl)))))))))))))) (rp_mk (lX2_init_0 (ln_mk (lX4_init_0 (ln_mk (ln_mk (lX8_init_18 (ln_mk (lX8_init_15 (ln_mk (lX6_init_8 (ln_mk (lX6_init_1 (ln_mk hl))))))))))))) (rp_sR (yX2_init_0 (ln_mk (lX4_init_0 (ln_mk (ln_mk (lX8_init_18 (ln_mk (lX8_init_15 (ln_mk (lX6_init_8 (ln_mk (lX6_init_1 (ln_mk hl)))))))))))) (rp_mk (lX4_init_0 (ln_mk (ln_mk (lX8_init_18 (ln_mk (lX8_init_15 (ln_mk (lX6_init_8 (ln_mk (lX6_init_1 (ln_mk hl))))))))))) (rp_sR (yX4_init_0 (ln_mk (ln_mk (lX8_init_18 (ln_mk (lX8_init_15 (ln_mk (lX6_init_8 (ln_mk (lX6_init_1 (ln_mk hl)))))))))) (rp_mk (ln_mk (lX8_init_18 (ln_mk (lX8_init_15 (ln_mk (lX6_init_8 (ln_mk (lX6_init_1 (ln_mk hl))))))))) (rp_sR (rp_mk (lX8_init_18 (ln_mk (lX8_init_15 (ln_mk (lX6_init_8 (ln_mk (lX6_init_1 (ln_mk hl)))))))) (rp_sR (yX8_init_18 (ln_mk (lX8_init_15 (ln_mk (lX6_init_8 (ln_mk (lX6_init_1 (ln_mk hl))))))) (rp_mk (lX8_init_15 (ln_mk (lX6_init_8 (ln_mk (lX6_init_1 (ln_mk hl)))))) (rp_sR (yX8_init_15 (ln_mk (lX6_init_8 (ln_mk (lX6_init_1 (ln_mk hl))))) (rp_mk (lX6_init_8 (ln_mk (lX6_init_1 (ln_mk hl)))) (rp_sR (yX6_init_8 (ln_mk (lX6_init_1 (ln_mk hl))) (rp_mk (lX6_init_1 (ln_mk hl)) rp_new (by decide))) (by decide)) (by decide))) (by decide)) (by decide))) (by decide)) (by decide)) (by decide)) (by decide))) (by decide)) (by decide))) (by decide)) (by decide))) (by decide)) (by decide))) (by decide)) (by decide)) ?_
  refine vc_aload_n dX11_init_142 rfl ?_
  refine vc_getR dX11_init_143 flX11_47 (sh_mk (xX9_init_0 (sh_mk (xX1_init_0 (sh_mk (xX2_init_0 (sh_mk (xX4_init_0 (sh_mk (sh_mk (xX8_init_18 (sh_mk (xX8_init_15 (sh_mk (xX6_init_8 (sh_mk (xX6_init_1 (sh_mk hk)))))))))))))))))) rfl (rp_mk (lX9_init_0 (ln_mk (lX1_init_0 (ln_mk (lX2_init_0 (ln_mk (lX4_init_0 (ln_mk (ln_mk (lX8_init_18 (ln_mk (lX8_init_15 (ln_mk (lX6_init_8 (ln_mk (lX6_init_1 (ln_mk hl))))))))))))))))) (rp_sR (yX9_init_0 (ln_mk (lX1_init_0 (ln_mk (lX2_init_0 (ln_mk (lX4_init_0 (ln_mk (ln_mk (lX8_init_18 (ln_mk (lX8_init_15 (ln_mk (lX6_init_8 (ln_mk (lX6_init_1 (ln_mk hl)))))))))))))))) (rp_mk (lX1_init_0 (ln_mk (lX2_init_0 (ln_mk (lX4_init_0 (ln_mk (ln_mk (lX8_init_18 (ln_mk (lX8_init_15 (ln_mk (lX6_init_8 (ln_mk (lX6_init_1 (ln_mk hl))))))))))))))) (rp_sR (yX1_init_0 (ln_mk (lX2_init_0 (ln_mk (lX4_init_0 (ln_mk (ln_mk (lX8_init_18 (ln_mk (lX8_init_15 (ln_mk (lX6_init_8 (ln_mk (lX6_init_1 (ln_mk hl)))))))))))))) (rp_mk (lX2_init_0 (ln_mk (lX4_init_0 (ln_mk (ln_mk (lX8_init_18 (ln_mk (lX8_init_15 (ln_mk (lX6_init_8 (ln_mk (lX6_init_1 (ln_mk hl))))))))))))) rp_new (by decide))) (by decide)) (by decide))) (by decide)) (by decide)) ?_
  refine vc_aload_n dX11_init_146 rfl ?_
  refine vc_getR dX11_init_147 flX11_56 (sh_mk (xX9_init_0 (sh_mk (xX1_init_0 (sh_mk (xX2_init_0 (sh_mk (xX4_init_0 (sh_mk (sh_mk (xX8_init_18 (sh_mk (xX8_init_15 (sh_mk (xX6_init_8 (sh_mk (xX6_init_1 (sh_mk hk)))))))))))))))))) rfl (rp_mk (lX9_init_0 (ln_mk (lX1_init_0 (ln_mk (lX2_init_0 (ln_mk (lX4_init_0 (ln_mk (ln_mk (lX8_init_18 (ln_mk (lX8_init_15 (ln_mk (lX6_init_8 (ln_mk (lX6_init_1 (ln_mk hl))))))))))))))))) (rp_sR (yX9_init_0 (ln_mk (lX1_init_0 (ln_mk (lX2_init_0 (ln_mk (lX4_init_0 (ln_mk (ln_mk (lX8_init_18 (ln_mk (lX8_init_15 (ln_mk (lX6_init_8 (ln_mk (lX6_init_1 (ln_mk hl)))))))))))))))) (rp_mk (lX1_init_0 (ln_mk (lX2_init_0 (ln_mk (lX4_init_0 (ln_mk (ln_mk (lX8_init_18 (ln_mk (lX8_init_15 (ln_mk (lX6_init_8 (ln_mk (lX6_init_1 (ln_mk hl))))))))))))))) rp_new (by decide))) (by decide)) (by decide)) ?_
  refine vc_callIU dX11_init_150 (qX10_init_0 (ln_mk (lX9_init_0 (ln_mk (lX1_init_0 (ln_mk (lX2_init_0 (ln_mk (lX4_init_0 (ln_mk (ln_mk (lX8_init_18 (ln_mk (lX8_init_15 (ln_mk (lX6_init_8 (ln_mk (lX6_init_1 (ln_mk hl)))))))))))))))))) (sh_nw (lX9_init_0 (ln_mk (lX1_init_0 (ln_mk (lX2_init_0 (ln_mk (lX4_init_0 (ln_mk (ln_mk (lX8_init_18 (ln_mk (lX8_init_15 (ln_mk (lX6_init_8 (ln_mk (lX6_init_1 (ln_mk hl))))))))))))))))))) rfl okX10_init inX10_init rfl rfl lkX11_71 rfl (Nat.le_of_ble_eq_true rfl) (Nat.le_of_ble_eq_true rfl) (Nat.le_of_ble_eq_true rfl) (Nat.le_of_ble_eq_true rfl) ?_
  refine vc_putR dX11_init_153 (plX11_74 _ rfl rfl) (xX10_init_0 (sh_mk (xX9_init_0 (sh_mk (xX1_init_0 (sh_mk (xX2_init_0 (sh_mk (xX4_init_0 (sh_mk (sh_mk (xX8_init_18 (sh_mk (xX8_init_15 (sh_mk (xX6_init_8 (sh_mk (xX6_init_1 (sh_mk hk))))))))))))))))))) rfl ?_
  refine vc_aload_n dX11_init_156 rfl ?_
  refine vc_newOq 40 dX11_init_157 (lX10_init_0 (ln_mk (lX9_init_0 (ln_mk (lX1_init_0 (ln_mk (lX2_init_0 (ln_mk (lX4_init_0 (ln_mk (ln_mk (lX8_init_18 (ln_mk (lX8_init_15 (ln_mk (lX6_init_8 (ln_mk (lX6_init_1 (ln_mk hl))))))))))))))))))) cl_7 clX11_78 iaX7 iiX7 (Nat.le_of_ble_eq_true rfl) (Nat.le_of_ble_eq_true rfl) ?_
  refine vc_dup dX11_init_160 rfl ?_
  refine vc_aload_n dX11_init_161 rfl ?_
  refine vc_getR dX11_init_162 flX11_10 (sh_mk (xX10_init_0 (sh_mk (xX9_init_0 (sh_mk (xX1_init_0 (sh_mk (xX2_init_0 (sh_mk (xX4_init_0 (sh_mk (sh_mk (xX8_init_18 (sh_mk (xX8_init_15 (sh_mk (xX6_init_8 (sh_mk (xX6_init_1 (sh_mk hk)))))))))))))))))))) rfl (rp_mk (lX10_init_0 (ln_mk (lX9_init_0 (ln_mk (lX1_init_0 (ln_mk (lX2_init_0 (ln_mk (lX4_init_0 (ln_mk (ln_mk (lX8_init_18 (ln_mk (lX8_init_15 (ln_mk (lX6_init_8 (ln_mk (lX6_init_1 (ln_mk hl))))))))))))))))))) (rp_sR (yX10_init_0 (ln_mk (lX9_init_0 (ln_mk (lX1_init_0 (ln_mk (lX2_init_0 (ln_mk (lX4_init_0 (ln_mk (ln_mk (lX8_init_18 (ln_mk (lX8_init_15 (ln_mk (lX6_init_8 (ln_mk (lX6_init_1 (ln_mk hl)))))))))))))))))) (rp_mk (lX9_init_0 (ln_mk (lX1_init_0 (ln_mk (lX2_init_0 (ln_mk (lX4_init_0 (ln_mk (ln_mk (lX8_init_18 (ln_mk (lX8_init_15 (ln_mk (lX6_init_8 (ln_mk (lX6_init_1 (ln_mk hl))))))))))))))))) (rp_sR (yX9_init_0 (ln_mk (lX1_init_0 (ln_mk (lX2_init_0 (ln_mk (lX4_init_0 (ln_mk (ln_mk (lX8_init_18 (ln_mk (lX8_init_15 (ln_mk (lX6_init_8 (ln_mk (lX6_init_1 (ln_mk hl)))))))))))))))) (rp_mk (lX1_init_0 (ln_mk (lX2_init_0 (ln_mk (lX4_init_0 (ln_mk (ln_mk (lX8_init_18 (ln_mk (lX8_init_15 (ln_mk (lX6_init_8 (ln_mk (lX6_init_1 (ln_mk hl))))))))))))))) (rp_sR (yX1_init_0 (ln_mk (lX2_init_0 (ln_mk (lX4_init_0 (ln_mk (ln_mk (lX8_init_18 (ln_mk (lX8_init_15 (ln_mk (lX6_init_8 (ln_mk (lX6_init_1 (ln_mk hl)))))))))))))) (rp_mk (lX2_init_0 (ln_mk (lX4_init_0 (ln_mk (ln_mk (lX8_init_18 (ln_mk (lX8_init_15 (ln_mk (lX6_init_8 (ln_mk (lX6_init_1 (ln_mk hl))))))))))))) (rp_sR (yX2_init_0 (ln_mk (lX4_init_0 (ln_mk (ln_mk (lX8_init_18 (ln_mk (lX8_init_15 (ln_mk (lX6_init_8 (ln_mk (lX6_init_1 (ln_mk hl)))))))))))) (rp_mk (lX4_init_0 (ln_mk (ln_mk (lX8_init_18 (ln_mk (lX8_init_15 (ln_mk (lX6_init_8 (ln_mk (lX6_init_1 (ln_mk hl))))))))))) (rp_sR (yX4_init_0 (ln_mk (ln_mk (lX8_init_18 (ln_mk (lX8_init_15 (ln_mk (lX6_init_8 (ln_mk (lX6_init_1 (ln_mk hl)))))))))) (rp_mk (ln_mk (lX8_init_18 (ln_mk (lX8_init_15 (ln_mk (lX6_init_8 (ln_mk (lX6_init_1 (ln_mk hl))))))))) (rp_sR (rp_mk (lX8_init_18 (ln_mk (lX8_init_15 (ln_mk (lX6_init_8 (ln_mk (lX6_init_1 (ln_mk hl)))))))) (rp_sR (yX8_init_18 (ln_mk (lX8_init_15 (ln_mk (lX6_init_8 (ln_mk (lX6_init_1 (ln_mk hl))))))) (rp_mk (lX8_init_15 (ln_mk (lX6_init_8 (ln_mk (lX6_init_1 (ln_mk hl)))))) (rp_sR (yX8_init_15 (ln_mk (lX6_init_8 (ln_mk (lX6_init_1 (ln_mk hl))))) (rp_mk (lX6_init_8 (ln_mk (lX6_init_1 (ln_mk hl)))) (rp_sR (yX6_init_8 (ln_mk (lX6_init_1 (ln_mk hl))) (rp_mk (lX6_init_1 (ln_mk hl)) rp_new (by decide))) (by decide)) (by decide))) (by decide)) (by decide))) (by decide)) (by decide)) (by decide)) (by decide))) (by decide)) (by decide))) (by decide)) (by decide))) (by decide)) (by decide))) (by decide)) (by decide))) (by decide)) (by decide)) ?_
  refine vc_aload_n dX11_init_165 rfl ?_
  refine vc_getR dX11_init_166 flX11_22 (sh_mk (xX10_init_0 (sh_mk (xX9_init_0 (sh_mk (xX1_init_0 (sh_mk (xX2_init_0 (sh_mk (xX4_init_0 (sh_mk (sh_mk (xX8_init_18 (sh_mk (xX8_init_15 (sh_mk (xX6_init_8 (sh_mk (xX6_init_1 (sh_mk hk)))))))))))))))))))) rfl (rp_mk (lX10_init_0 (ln_mk (lX9_init_0 (ln_mk (lX1_init_0 (ln_mk (lX2_init_0 (ln_mk (lX4_init_0 (ln_mk (ln_mk (lX8_init_18 (ln_mk (lX8_init_15 (ln_mk (lX6_init_8 (ln_mk (lX6_init_1 (ln_mk hl))))))))))))))))))) (rp_sR (yX10_init_0 (ln_mk (lX9_init_0 (ln_mk (lX1_init_0 (ln_mk (lX2_init_0 (ln_mk (lX4_init_0 (ln_mk (ln_mk (lX8_init_18 (ln_mk (lX8_init_15 (ln_mk (lX6_init_8 (ln_mk (lX6_init_1 (ln_mk hl)))))))))))))))))) (rp_mk (lX9_init_0 (ln_mk (lX1_init_0 (ln_mk (lX2_init_0 (ln_mk (lX4_init_0 (ln_mk (ln_mk (lX8_init_18 (ln_mk (lX8_init_15 (ln_mk (lX6_init_8 (ln_mk (lX6_init_1 (ln_mk hl))))))))))))))))) (rp_sR (yX9_init_0 (ln_mk (lX1_init_0 (ln_mk (lX2_init_0 (ln_mk (lX4_init_0 (ln_mk (ln_mk (lX8_init_18 (ln_mk (lX8_init_15 (ln_mk (lX6_init_8 (ln_mk (lX6_init_1 (ln_mk hl)))))))))))))))) (rp_mk (lX1_init_0 (ln_mk (lX2_init_0 (ln_mk (lX4_init_0 (ln_mk (ln_mk (lX8_init_18 (ln_mk (lX8_init_15 (ln_mk (lX6_init_8 (ln_mk (lX6_init_1 (ln_mk hl))))))))))))))) (rp_sR (yX1_init_0 (ln_mk (lX2_init_0 (ln_mk (lX4_init_0 (ln_mk (ln_mk (lX8_init_18 (ln_mk (lX8_init_15 (ln_mk (lX6_init_8 (ln_mk (lX6_init_1 (ln_mk hl)))))))))))))) (rp_mk (lX2_init_0 (ln_mk (lX4_init_0 (ln_mk (ln_mk (lX8_init_18 (ln_mk (lX8_init_15 (ln_mk (lX6_init_8 (ln_mk (lX6_init_1 (ln_mk hl))))))))))))) (rp_sR (yX2_init_0 (ln_mk (lX4_init_0 (ln_mk (ln_mk (lX8_init_18 (ln_mk (lX8_init_15 (ln_mk (lX6_init_8 (ln_mk (lX6_init_1 (ln_mk hl)))))))))))) (rp_mk (lX4_init_0 (ln_mk (ln_mk (lX8_init_18 (ln_mk (lX8_init_15 (ln_mk (lX6_init_8 (ln_mk (lX6_init_1 (ln_mk hl))))))))))) (rp_sR (yX4_init_0 (ln_mk (ln_mk (lX8_init_18 (ln_mk (lX8_init_15 (ln_mk (lX6_init_8 (ln_mk (lX6_init_1 (ln_mk hl)))))))))) (rp_mk (ln_mk (lX8_init_18 (ln_mk (lX8_init_15 (ln_mk (lX6_init_8 (ln_mk (lX6_init_1 (ln_mk hl))))))))) (rp_sR (rp_mk (lX8_init_18 (ln_mk (lX8_init_15 (ln_mk (lX6_init_8 (ln_mk (lX6_init_1 (ln_mk hl)))))))) (rp_sR (yX8_init_18 (ln_mk (lX8_init_15 (ln_mk (lX6_init_8 (ln_mk (lX6_init_1 (ln_mk hl))))))) (rp_mk (lX8_init_15 (ln_mk (lX6_init_8 (ln_mk (lX6_init_1 (ln_mk hl)))))) rp_new (by decide))) (by decide)) (by decide)) (by decide)) (by decide))) (by decide)) (by decide))) (by decide)) (by decide))) (by decide)) (by decide))) (by decide)) (by decide))) (by decide)) (by decide)) ?_
  refine vc_aload_n dX11_init_169 rfl ?_
  refine vc_getR dX11_init_170 flX11_47 (sh_mk (xX10_init_0 (sh_mk (xX9_init_0 (sh_mk (xX1_init_0 (sh_mk (xX2_init_0 (sh_mk (xX4_init_0 (sh_mk (sh_mk (xX8_init_18 (sh_mk (xX8_init_15 (sh_mk (xX6_init_8 (sh_mk (xX6_init_1 (sh_mk hk)))))))))))))))))))) rfl (rp_mk (lX10_init_0 (ln_mk (lX9_init_0 (ln_mk (lX1_init_0 (ln_mk (lX2_init_0 (ln_mk (lX4_init_0 (ln_mk (ln_mk (lX8_init_18 (ln_mk (lX8_init_15 (ln_mk (lX6_init_8 (ln_mk (lX6_init_1 (ln_mk hl))))))))))))))))))) (rp_sR (yX10_init_0 (ln_mk (lX9_init_0 (ln_mk (lX1_init_0 (ln_mk (lX2_init_0 (ln_mk (lX4_init_0 (ln_mk (ln_mk (lX8_init_18 (ln_mk (lX8_init_15 (ln_mk (lX6_init_8 (ln_mk (lX6_init_1 (ln_mk hl)))))))))))))))))) (rp_mk (lX9_init_0 (ln_mk (lX1_init_0 (ln_mk (lX2_init_0 (ln_mk (lX4_init_0 (ln_mk (ln_mk (lX8_init_18 (ln_mk (lX8_init_15 (ln_mk (lX6_init_8 (ln_mk (lX6_init_1 (ln_mk hl))))))))))))))))) (rp_sR (yX9_init_0 (ln_mk (lX1_init_0 (ln_mk (lX2_init_0 (ln_mk (lX4_init_0 (ln_mk (ln_mk (lX8_init_18 (ln_mk (lX8_init_15 (ln_mk (lX6_init_8 (ln_mk (lX6_init_1 (ln_mk hl)))))))))))))))) (rp_mk (lX1_init_0 (ln_mk (lX2_init_0 (ln_mk (lX4_init_0 (ln_mk (ln_mk (lX8_init_18 (ln_mk (lX8_init_15 (ln_mk (lX6_init_8 (ln_mk (lX6_init_1 (ln_mk hl))))))))))))))) (rp_sR (yX1_init_0 (ln_mk (lX2_init_0 (ln_mk (lX4_init_0 (ln_mk (ln_mk (lX8_init_18 (ln_mk (lX8_init_15 (ln_mk (lX6_init_8 (ln_mk (lX6_init_1 (ln_mk hl)))))))))))))) (rp_mk (lX2_init_0 (ln_mk (lX4_init_0 (ln_mk (ln_mk (lX8_init_18 (ln_mk (lX8_init_15 (ln_mk (lX6_init_8 (ln_mk (lX6_init_1 (ln_mk hl))))))))))))) rp_new (by decide))) (by decide)) (by decide))) (by decide)) (by decide))) (by decide)) (by decide)) ?_
  refine vc_aload_n dX11_init_173 rfl ?_
  refine vc_getR dX11_init_174 flX11_74 (sh_mk (xX10_init_0 (sh_mk (xX9_init_0 (sh_mk (xX1_init_0 (sh_mk (xX2_init_0 (sh_mk (xX4_init_0 (sh_mk (sh_mk (xX8_init_18 (sh_mk (xX8_init_15 (sh_mk (xX6_init_8 (sh_mk (xX6_init_1 (sh_mk hk)))))))))))))))))))) rfl (rp_mk (lX10_init_0 (ln_mk (lX9_init_0 (ln_mk (lX1_init_0 (ln_mk (lX2_init_0 (ln_mk (lX4_init_0 (ln_mk (ln_mk (lX8_init_18 (ln_mk (lX8_init_15 (ln_mk (lX6_init_8 (ln_mk (lX6_init_1 (ln_mk hl))))))))))))))))))) rp_new (by decide)) ?_
  refine vc_callIU dX11_init_177 (qX7_init_0 (ln_mk (lX10_init_0 (ln_mk (lX9_init_0 (ln_mk (lX1_init_0 (ln_mk (lX2_init_0 (ln_mk (lX4_init_0 (ln_mk (ln_mk (lX8_init_18 (ln_mk (lX8_init_15 (ln_mk (lX6_init_8 (ln_mk (lX6_init_1 (ln_mk hl)))))))))))))))))))) (sh_nw (lX10_init_0 (ln_mk (lX9_init_0 (ln_mk (lX1_init_0 (ln_mk (lX2_init_0 (ln_mk (lX4_init_0 (ln_mk (ln_mk (lX8_init_18 (ln_mk (lX8_init_15 (ln_mk (lX6_init_8 (ln_mk (lX6_init_1 (ln_mk hl))))))))))))))))))))) rfl okX7_init inX7_init rfl rfl lkX11_80 rfl (Nat.le_of_ble_eq_true rfl) (Nat.le_of_ble_eq_true rfl) (Nat.le_of_ble_eq_true rfl) (Nat.le_of_ble_eq_true rfl) ?_
  refine vc_putR dX11_init_180 (plX11_83 _ rfl rfl) (xX7_init_0 (sh_mk (xX10_init_0 (sh_mk (xX9_init_0 (sh_mk (xX1_init_0 (sh_mk (xX2_init_0 (sh_mk (xX4_init_0 (sh_mk (sh_mk (xX8_init_18 (sh_mk (xX8_init_15 (sh_mk (xX6_init_8 (sh_mk (xX6_init_1 (sh_mk hk))))))))))))))))))))) rfl ?_
  refine vc_aload_n dX11_init_183 rfl ?_
  refine vc_newOq 46 dX11_init_184 (lX7_init_0 (ln_mk (lX10_init_0 (ln_mk (lX9_init_0 (ln_mk (lX1_init_0 (ln_mk (lX2_init_0 (ln_mk (lX4_init_0 (ln_mk (ln_mk (lX8_init_18 (ln_mk (lX8_init_15 (ln_mk (lX6_init_8 (ln_mk (lX6_init_1 (ln_mk hl))))))))))))))))))))) cl_0 clX11_87 iaX0 iiX0 (Nat.le_of_ble_eq_true rfl) (Nat.le_of_ble_eq_true rfl) ?_
  refine vc_dup dX11_init_187 rfl ?_
  refine vc_aload_n dX11_init_188 rfl ?_
  refine vc_getR dX11_init_189 flX11_10 (sh_mk (xX7_init_0 (sh_mk (xX10_init_0 (sh_mk (xX9_init_0 (sh_mk (xX1_init_0 (sh_mk (xX2_init_0 (sh_mk (xX4_init_0 (sh_mk (sh_mk (xX8_init_18 (sh_mk (xX8_init_15 (sh_mk (xX6_init_8 (sh_mk (xX6_init_1 (sh_mk hk)))))))))))))))))))))) rfl (rp_mk (lX7_init_0 (ln_mk (lX10_init_0 (ln_mk (lX9_init_0 (ln_mk (lX1_init_0 (ln_mk (lX2_init_0 (ln_mk (lX4_init_0 (ln_mk (ln_mk (lX8_init_18 (ln_mk (lX8_init_15 (ln_mk (lX6_init_8 (ln_mk (lX6_init_1 (ln_mk hl))))))))))))))))))))) (rp_sR (yX7_init_0 (ln_mk (lX10_init_0 (ln_mk (lX9_init_0 (ln_mk (lX1_init_0 (ln_mk (lX2_init_0 (ln_mk (lX4_init_0 (ln_mk (ln_mk (lX8_init_18 (ln_mk (lX8_init_15 (ln_mk (lX6_init_8 (ln_mk (lX6_init_1 (ln_mk hl)))))))))))))))))))) (rp_mk (lX10_init_0 (ln_mk (lX9_init_0 (ln_mk (lX1_init_0 (ln_mk (lX2_init_0 (ln_mk (lX4_init_0 (ln_mk (ln_mk (lX8_init_18 (ln_mk (lX8_init_15 (ln_mk (lX6_init_8 (ln_mk (lX6_init_1 (ln_mk hl))))))))))))))))))) (rp_sR (yX10_init_0 (ln_mk (lX9_init_0 (ln_mk (lX1_init_0 (ln_mk (lX2_init_0 (ln_mk (lX4_init_0 (ln_mk (ln_mk (lX8_init_18 (ln_mk (lX8_init_15 (ln_mk (lX6_init_8 (ln_mk (lX6_init_1 (ln_mk hl)))))))))))))))))) (rp_mk (lX9_init_0 (ln_mk (lX1_init_0 (ln_mk (lX2_init_0 (ln_mk (lX4_init_0 (ln_mk (ln_mk (lX8_init_18 (ln_mk (lX8_init_15 (ln_mk (lX6_init_8 (ln_mk (lX6_init_1 (ln_mk hl))))))))))))))))) (rp_sR (yX9_init_0 (ln_mk (lX1_init_0 (ln_mk (lX2_init_0 (ln_mk (lX4_init_0 (ln_mk (ln_mk (lX8_init_18 (ln_mk (lX8_init_15 (ln_mk (lX6_init_8 (ln_mk (lX6_init_1 (ln_mk hl)))))))))))))))) (rp_mk (lX1_init_0 (ln_mk (lX2_init_0 (ln_mk (lX4_init_0 (ln_mk (ln_mk (lX8_init_18 (ln_mk (lX8_init_15 (ln_mk (lX6_init_8 (ln_mk (lX6_init_1 (ln_mk hl))))))))))))))) (rp_sR (yX1_init_0 (ln_mk (lX2_init_0 (ln_mk (lX4_init_0 (ln_mk (ln_mk (lX8_init_18 (ln_mk (lX8_init_15 (ln_mk (lX6_init_8 (ln_mk (lX6_init_1 (ln_mk hl)))))))))))))) (rp_mk (lX2_init_0 (ln_mk (lX4_init_0 (ln_mk (ln_mk (lX8_init_18 (ln_mk (lX8_init_15 (ln_mk (lX6_init_8 (ln_mk (lX6_init_1 (ln_mk hl))))))))))))) (rp_sR (yX2_init_0 (ln_mk (lX4_init_0 (ln_mk (ln_mk (lX8_init_18 (ln_mk (lX8_init_15 (ln_mk (lX6_init_8 (ln_mk (lX6_init_1 (ln_mk hl)))))))))))) (rp_mk (lX4_init_0 (ln_mk (ln_mk (lX8_init_18 (ln_mk (lX8_init_15 (ln_mk (lX6_init_8 (ln_mk (lX6_init_1 (ln_mk hl))))))))))) (rp_sR (yX4_init_0 (ln_mk (ln_mk (lX8_init_18 (ln_mk (lX8_init_15 (ln_mk (lX6_init_8 (ln_mk (lX6_init_1 (ln_mk hl)))))))))) (rp_mk (ln_mk (lX8_init_18 (ln_mk (lX8_init_15 (ln_mk (lX6_init_8 (ln_mk (lX6_init_1 (ln_mk hl))))))))) (rp_sR (rp_mk (lX8_init_18 (ln_mk (lX8_init_15 (ln_mk (lX6_init_8 (ln_mk (lX6_init_1 (ln_mk hl)))))))) (rp_sR (yX8_init_18 (ln_mk (lX8_init_15 (ln_mk (lX6_init_8 (ln_mk (lX6_init_1 (ln_mk hl))))))) (rp_mk (lX8_init_15 (ln_mk (lX6_init_8 (ln_mk (lX6_init_1 (ln_mk hl)))))) (rp_sR (yX8_init_15 (ln_mk (lX6_init_8 (ln_mk (lX6_init_1 (ln_mk hl))))) (rp_mk (lX6_init_8 (ln_mk (lX6_init_1 (ln_mk hl)))) (rp_sR (yX6_init_8 (ln_mk (lX6_init_1 (ln_mk hl))) (rp_mk (lX6_init_1 (ln_mk hl)) rp_new (by decide))) (by decide)) (by decide))) (by decide)) (by decide))) (by decide)) (by decide)) (by decide)) (by decide))) (by decide)) (by decide))) (by decide)) (by decide))) (by decide)) (by decide))) (by decide)) (by decide))) (by decide)) (by decide))) (by decide)) (by decide)) ?_
  refine vc_aload_n dX11_init_192 rfl ?_
  refine vc_getR dX11_init_193 flX11_56 (sh_mk (xX7_init_0 (sh_mk (xX10_init_0 (sh_mk (xX9_init_0 (sh_mk (xX1_init_0 (sh_mk (xX2_init_0 (sh_mk (xX4_init_0 (sh_mk (sh_mk (xX8_init_18 (sh_mk (xX8_init_15 (sh_mk (xX6_init_8 (sh_mk (xX6_init_1 (sh_mk hk)))))))))))))))))))))) rfl (rp_mk (lX7_init_0 (ln_mk (lX10_init_0 (ln_mk (lX9_init_0 (ln_mk (lX1_init_0 (ln_mk (lX2_init_0 (ln_mk (lX4_init_0 (ln_mk (ln_mk (lX8_init_18 (ln_mk (lX8_init_15 (ln_mk (lX6_init_8 (ln_mk (lX6_init_1 (ln_mk hl))))))))))))))))))))) (rp_sR (yX7_init_0 (ln_mk (lX10_init_0 (ln_mk (lX9_init_0 (ln_mk (lX1_init_0 (ln_mk (lX2_init_0 (ln_mk (lX4_init_0 (ln_mk (ln_mk (lX8_init_18 (ln_mk (lX8_init_15 (ln_mk (lX6_init_8 (ln_mk (lX6_init_1 (ln_mk hl)))))))))))))))))))) (rp_mk (lX10_init_0 (ln_mk (lX9_init_0 (ln_mk (lX1_init_0 (ln_mk (lX2_init_0 (ln_mk (lX4_init_0 (ln_mk (ln_mk (lX8_init_18 (ln_mk (lX8_init_15 (ln_mk (lX6_init_8 (ln_mk (lX6_init_1 (ln_mk hl))))))))))))))))))) (rp_sR (yX10_init_0 (ln_mk (lX9_init_0 (ln_mk (lX1_init_0 (ln_mk (lX2_init_0 (ln_mk (lX4_init_0 (ln_mk (ln_mk (lX8_init_18 (ln_mk (lX8_init_15 (ln_mk (lX6_init_8 (ln_mk (lX6_init_1 (ln_mk hl)))))))))))))))))) (rp_mk (lX9_init_0 (ln_mk (lX1_init_0 (ln_mk (lX2_init_0 (ln_mk (lX4_init_0 (ln_mk (ln_mk (lX8_init_18 (ln_mk (lX8_init_15 (ln_mk (lX6_init_8 (ln_mk (lX6_init_1 (ln_mk hl))))))))))))))))) (rp_sR (yX9_init_0 (ln_mk (lX1_init_0 (ln_mk (lX2_init_0 (ln_mk (lX4_init_0 (ln_mk (ln_mk (lX8_init_18 (ln_mk (lX8_init_15 (ln_mk (lX6_init_8 (ln_mk (lX6_init_1 (ln_mk hl)))))))))))))))) (rp_mk (lX1_init_0 (ln_mk (lX2_init_0 (ln_mk (lX4_init_0 (ln_mk (ln_mk (lX8_init_18 (ln_mk (lX8_init_15 (ln_mk (lX6_init_8 (ln_mk (lX6_init_1 (ln_mk hl))))))))))))))) rp_new (by decide))) (by decide)) (by decide))) (by decide)) (by decide))) (by decide)) (by decide)) ?_
  refine vc_callIU dX11_init_196 (qX0_init_0 (ln_mk (lX7_init_0 (ln_mk (lX10_init_0 (ln_mk (lX9_init_0 (ln_mk (lX1_init_0 (ln_mk (lX2_init_0 (ln_mk (lX4_init_0 (ln_mk (ln_mk (lX8_init_18 (ln_mk (lX8_init_15 (ln_mk (lX6_init_8 (ln_mk (lX6_init_1 (ln_mk hl)))))))))))))))))))))) (sh_nw (lX7_init_0 (ln_mk (lX10_init_0 (ln_mk (lX9_init_0 (ln_mk (lX1_init_0 (ln_mk (lX2_init_0 (ln_mk (lX4_init_0 (ln_mk (ln_mk (lX8_init_18 (ln_mk (lX8_init_15 (ln_mk (lX6_init_8 (ln_mk (lX6_init_1 (ln_mk hl))))))))))))))))))))))) rfl okX0_init inX0_init rfl rfl lkX11_89 rfl (Nat.le_of_ble_eq_true rfl) (Nat.le_of_ble_eq_true rfl) (Nat.le_of_ble_eq_true rfl) (Nat.le_of_ble_eq_true rfl) ?_
  refine vc_putR dX11_init_199 (plX11_92 _ rfl rfl) (xX0_init_0 (sh_mk (xX7_init_0 (sh_mk (xX10_init_0 (sh_mk (xX9_init_0 (sh_mk (xX1_init_0 (sh_mk (xX2_init_0 (sh_mk (xX4_init_0 (sh_mk (sh_mk (xX8_init_18 (sh_mk (xX8_init_15 (sh_mk (xX6_init_8 (sh_mk (xX6_init_1 (sh_mk hk))))))))))))))))))))))) rfl ?_
  refine vc_aload_n dX11_init_202 rfl ?_
  refine vc_newOq 50 dX11_init_203 (lX0_init_0 (ln_mk (lX7_init_0 (ln_mk (lX10_init_0 (ln_mk (lX9_init_0 (ln_mk (lX1_init_0 (ln_mk (lX2_init_0 (ln_mk (lX4_init_0 (ln_mk (ln_mk (lX8_init_18 (ln_mk (lX8_init_15 (ln_mk (lX6_init_8 (ln_mk (lX6_init_1 (ln_mk hl))))))))))))))))))))))) cl_3 clX11_96 iaX3 iiX3 (Nat.le_of_ble_eq_true rfl) (Nat.le_of_ble_eq_true rfl) ?_
  refine vc_dup dX11_init_206 rfl ?_
  refine vc_aload_n dX11_init_207 rfl ?_
  refine vc_getR dX11_init_208 flX11_10 (sh_mk (xX0_init_0 (sh_mk (xX7_init_0 (sh_mk (xX10_init_0 (sh_mk (xX9_init_0 (sh_mk (xX1_init_0 (sh_mk (xX2_init_0 (sh_mk (xX4_init_0 (sh_mk (sh_mk (xX8_init_18 (sh_mk (xX8_init_15 (sh_mk (xX6_init_8 (sh_mk (xX6_init_1 (sh_mk hk)))))))))))))))))))))))) rfl (rp_mk (lX0_init_0 (ln_mk (lX7_init_0 (ln_mk (lX10_init_0 (ln_mk (lX9_init_0 (ln_mk (lX1_init_0 (ln_mk (lX2_init_0 (ln_mk (lX4_init_0 (ln_mk (ln_mk (lX8_init_18 (ln_mk (lX8_init_15 (ln_mk (lX6_init_8 (ln_mk (lX6_init_1 (ln_mk hl))))))))))))))))))))))) (rp_sR (yX0_init_0 (ln_mk (lX7_init_0 (ln_mk (lX10_init_0 (ln_mk (lX9_init_0 (ln_mk (lX1_init_0 (ln_mk (lX2_init_0 (ln_mk (lX4_init_0 (ln_mk (ln_mk (lX8_init_18 (ln_mk (lX8_init_15 (ln_mk (lX6_init_8 (ln_mk (lX6_init_1 (ln_mk hl)))))))))))))))))))))) (rp_mk (lX7_init_0 (ln_mk (lX10_init_0 (ln_mk (lX9_init_0 (ln_mk (lX1_init_0 (ln_mk (lX2_init_0 (ln_mk (lX4_init_0 (ln_mk (ln_mk (lX8_init_18 (ln_mk (lX8_init_15 (ln_mk (lX6_init_8 (ln_mk (lX6_init_1 (ln_mk hl))))))))))))))))))))) (rp_sR (yX7_init_0 (ln_mk (lX10_init_0 (ln_mk (lX9_init_0 (ln_mk (lX1_init_0 (ln_mk (lX2_init_0 (ln_mk (lX4_init_0 (ln_mk (ln_mk (lX8_init_18 (ln_mk (lX8_init_15 (ln_mk (lX6_init_8 (ln_mk (lX6_init_1 (ln_mk hl)))))))))))))))))))) (rp_mk (lX10_init_0 (ln_mk (lX9_init_0 (ln_mk (lX1_init_0 (ln_mk (lX2_init_0 (ln_mk (lX4_init_0 (ln_mk (ln_mk (lX8_init_18 (ln_mk (lX8_init_15 (ln_mk (lX6_init_8 (ln_mk (lX6_init_1 (ln_mk hl))))))))))))))))))) (rp_sR (yX10_init_0 (ln_mk (lX9_init_0 (ln_mk (lX1_init_0 (ln_mk (lX2_init_0 (ln_mk (lX4_init_0 (ln_mk (ln_mk (lX8_init_18 (ln_mk (lX8_init_15 (ln_mk (lX6_init_8 (ln_mk (lX6_init_1 (ln_mk hl)))))))))))))))))) (rp_mk (lX9_init_0 (ln_mk (lX1_init_0 (ln_mk (lX2_init_0 (ln_mk (lX4_init_0 (ln_mk (ln_mk (lX8_init_18 (ln_mk (lX8_init_15 (ln_mk (lX6_init_8 (ln_mk (lX6_init_1 (ln_mk hl))))))))))))))))) (rp_sR (yX9_init_0 (ln_mk (lX1_init_0 (ln_mk (lX2_init_0 (ln_mk (lX4_init_0 (ln_mk (ln_mk (lX8_init_18 (ln_mk (lX8_init_15 (ln_mk (lX6_init_8 (ln_mk (lX6_init_1 (ln_mk hl)))))))))))))))) (rp_mk (lX1_init_0 (ln_mk (lX2_init_0 (ln_mk (lX4_init_0 (ln_mk (ln_mk (lX8_init_18 (ln_mk (lX8_init_15 (ln_mk (lX6_init_8 (ln_mk (lX6_init_1 (ln_mk hl))))))))))))))) (rp_sR (yX1_init_0 (ln_mk (lX2_init_0 (ln_mk (lX4_init_0 (ln_mk (ln_mk (lX8_init_18 (ln_mk (lX8_init_15 (ln_mk (lX6_init_8 (ln_mk (lX6_init_1 (ln_mk hl)))))))))))))) (rp_mk (lX2_init_0 (ln_mk (lX4_init_0 (ln_mk (ln_mk (lX8_init_18 (ln_mk (lX8_init_15 (ln_mk (lX6_init_8 (ln_mk (lX6_init_1 (ln_mk hl))))))))))))) (rp_sR (yX2_init_0 (ln_mk (lX4_init_0 (ln_mk (ln_mk (lX8_init_18 (ln_mk (lX8_init_15 (ln_mk (lX6_init_8 (ln_mk (lX6_init_1 (ln_mk hl)))))))))))) (rp_mk (lX4_init_0 (ln_mk (ln_mk (lX8_init_18 (ln_mk (lX8_init_15 (ln_mk (lX6_init_8 (ln_mk (lX6_init_1 (ln_mk hl))))))))))) (rp_sR (yX4_init_0 (ln_mk (ln_mk (lX8_init_18 (ln_mk (lX8_init_15 (ln_mk (lX6_init_8 (ln_mk (lX6_init_1 (ln_mk hl)))))))))) (rp_mk (ln_mk (lX8_init_18 (ln_mk (lX8_init_15 (ln_mk (lX6_init_8 (ln_mk (lX6_init_1 (ln_mk hl))))))))) (rp_sR (rp_mk (lX8_init_18 (ln_mk (lX8_init_15 (ln_mk (lX6_init_8 (ln_mk (lX6_init_1 (ln_mk hl)))))))) (rp_sR (yX8_init_18 (ln_mk (lX8_init_15 (ln_mk (lX6_init_8 (ln_mk (lX6_init_1 (ln_mk hl))))))) (rp_mk (lX8_init_15 (ln_mk (lX6_init_8 (ln_mk (lX6_init_1 (ln_mk hl)))))) (rp_sR (yX8_init_15 (ln_mk (lX6_init_8 (ln_mk (lX6_init_1 (ln_mk hl))))) (rp_mk (lX6_init_8 (ln_mk (lX6_init_1 (ln_mk hl)))) (rp_sR (yX6_init_8 (ln_mk (lX6_init_1 (ln_mk hl))) (rp_mk (lX6_init_1 (ln_mk hl)) rp_new (by decide))) (by decide)) (by decide))) (by decide)) (by decide))) (by decide)) (by decide)) (by decide)) (by decide))) (by decide)) (by decide))) (by decide)) (by decide))) (by decide)) (by decide))) (by decide)) (by decide))) (by decide)) (by decide))) (by decide)) (by decide))) (by decide)) (by decide)) ?_
  refine vc_callIU dX11_init_211 (qX3_init_0 (ln_mk (lX0_init_0 (ln_mk (lX7_init_0 (ln_mk (lX10_init_0 (ln_mk (lX9_init_0 (ln_mk (lX1_init_0 (ln_mk (lX2_init_0 (ln_mk (lX4_init_0 (ln_mk (ln_mk (lX8_init_18 (ln_mk (lX8_init_15 (ln_mk (lX6_init_8 (ln_mk (lX6_init_1 (ln_mk hl)))))))))))))))))))))))) (sh_nw (lX0_init_0 (ln_mk (lX7_init_0 (ln_mk (lX10_init_0 (ln_mk (lX9_init_0 (ln_mk (lX1_init_0 (ln_mk (lX2_init_0 (ln_mk (lX4_init_0 (ln_mk (ln_mk (lX8_init_18 (ln_mk (lX8_init_15 (ln_mk (lX6_init_8 (ln_mk (lX6_init_1 (ln_mk hl))))))))))))))))))))))))) rfl okX3_init inX3_init rfl rfl lkX11_98 rfl (Nat.le_of_ble_eq_true rfl) (Nat.le_of_ble_eq_true rfl) (Nat.le_of_ble_eq_true rfl) (Nat.le_of_ble_eq_true rfl) ?_
  refine vc_putR dX11_init_214 (plX11_99 _ rfl rfl) (xX3_init_0 (sh_mk (xX0_init_0 (sh_mk (xX7_init_0 (sh_mk (xX10_init_0 (sh_mk (xX9_init_0 (sh_mk (xX1_init_0 (sh_mk (xX2_init_0 (sh_mk (xX4_init_0 (sh_mk (sh_mk (xX8_init_18 (sh_mk (xX8_init_15 (sh_mk (xX6_init_8 (sh_mk (xX6_init_1 (sh_mk hk))))))))))))))))))))))))) rfl ?_
  refine vc_aload_n dX11_init_217 rfl ?_
  refine vc_iconst dX11_init_218 rfl ?_
  refine vc_putI dX11_init_219 (plX11_103 _ rfl) (xX3_init_0 (sh_mk (xX0_init_0 (sh_mk (xX7_init_0 (sh_mk (xX10_init_0 (sh_mk (xX9_init_0 (sh_mk (xX1_init_0 (sh_mk (xX2_init_0 (sh_mk (xX4_init_0 (sh_mk (sh_mk (xX8_init_18 (sh_mk (xX8_init_15 (sh_mk (xX6_init_8 (sh_mk (xX6_init_1 (sh_mk hk))))))))))))))))))))))))) rfl ?_
  refine vc_aload_n dX11_init_222 rfl ?_
  refine vc_iconst dX11_init_223 rfl ?_
  refine vc_putI dX11_init_224 (plX11_107 _ rfl) (xX3_init_0 (sh_mk (xX0_init_0 (sh_mk (xX7_init_0 (sh_mk (xX10_init_0 (sh_mk (xX9_init_0 (sh_mk (xX1_init_0 (sh_mk (xX2_init_0 (sh_mk (xX4_init_0 (sh_mk (sh_mk (xX8_init_18 (sh_mk (xX8_init_15 (sh_mk (xX6_init_8 (sh_mk (xX6_init_1 (sh_mk hk))))))))))))))))))))))))) rfl ?_
  refine vc_aload_n dX11_init_227 rfl ?_
  refine vc_iconst dX11_init_228 rfl ?_
  refine vc_putI dX11_init_229 (plX11_110 _ rfl) (xX3_init_0 (sh_mk (xX0_init_0 (sh_mk (xX7_init_0 (sh_mk (xX10_init_0 (sh_mk (xX9_init_0 (sh_mk (xX1_init_0 (sh_mk (xX2_init_0 (sh_mk (xX4_init_0 (sh_mk (sh_mk (xX8_init_18 (sh_mk (xX8_init_15 (sh_mk (xX6_init_8 (sh_mk (xX6_init_1 (sh_mk hk))))))))))))))))))))))))) rfl ?_
  refine vc_vret dX11_init_232 rfl (Nat.le_of_ble_eq_true rfl) (Nat.le_of_ble_eq_true rfl) ?_
  exact ⟨rfl, rfl⟩
theorem lX11_init {M : Mem} (hl : M.1.length = 1) : (gX11_init M).1.length = 54 := (ln_mk (ln_mk (ln_mk (ln_mk (ln_mk (ln_mk (ln_mk (ln_mk (ln_mk (ln_mk (ln_mk (ln_mk (ln_mk (ln_mk (ln_mk (ln_mk (ln_mk (ln_mk (ln_mk (ln_mk (ln_mk (ln_mk (ln_mk (ln_mk (ln_mk (ln_mk (ln_mk (ln_mk (ln_mk (ln_mk (ln_mk (ln_mk (ln_mk (ln_mk (ln_mk (ln_mk (ln_mk (ln_mk (ln_mk (ln_mk (ln_mk (ln_mk (ln_mk (ln_mk (ln_mk (ln_mk (ln_mk (ln_mk (ln_mk (ln_mk (ln_mk (ln_mk (ln_mk hl)))))))))))))))))))))))))))))))))))))))))))))))))))))
theorem xX11_init {M : Mem} {k : Nat} {x : Sh} (h : M.1[k]? = some x) : (gX11_init M).1[k]? = some x := (sh_mk (sh_mk (sh_mk (sh_mk (sh_mk (sh_mk (sh_mk (sh_mk (sh_mk (sh_mk (sh_mk (sh_mk (sh_mk (sh_mk (sh_mk (sh_mk (sh_mk (sh_mk (sh_mk (sh_mk (sh_mk (sh_mk (sh_mk (sh_mk (sh_mk (sh_mk (sh_mk (sh_mk (sh_mk (sh_mk (sh_mk (sh_mk (sh_mk (sh_mk (sh_mk (sh_mk (sh_mk (sh_mk (sh_mk (sh_mk (sh_mk (sh_mk (sh_mk (sh_mk (sh_mk (sh_mk (sh_mk (sh_mk (sh_mk (sh_mk (sh_mk (sh_mk (sh_mk h)))))))))))))))))))))))))))))))))))))))))))))))))))))
def gX12_init (M : Mem) : Mem := cpI (sI (sI (sI (sI (sR (mkC (sR (mkC (sR (mkC (sR (mkC (sR (mkC (sR (mkC (sR (mkC (sR (mkC (sR (mkC (sR (mkC (sR (mkC (sR (mkC (sR (mkC (sR (mkC (sR (mkC (sI (sI (sR (mkC (sR (mkC (sR (mkC (sR (mkC (sR (mkC M (.inr (0, 589))) 54 0 (some 55)) (.inr (0, 589))) 54 1 (some 56)) (.inr (0, 3492))) 54 2 (some 57)) (.inr (0, 8))) 54 3 (some 58)) (.inr (0, 300))) 54 5 (some 59)) 54 7 (-1)) 54 8 (-1)) (.inr (0, 160))) 54 17 (some 60)) (.inr (0, 9))) 54 22 (some 61)) (.inr (1, 330))) 54 23 (some 62)) (.inr (0, 8))) 54 31 (some 63)) (.inr (0, 8))) 54 33 (some 64)) (.inr (0, 8))) 54 34 (some 65)) (.inr (1, 16))) 54 35 (some 66)) (.inr (0, 8))) 54 37 (some 67)) (.inr (0, 256))) 54 38 (some 68)) (.inr (2, 16))) 54 39 (some 69)) (.inr (0, 5))) 54 40 (some 70)) (.inr (0, 5))) 54 41 (some 71)) (.inr (0, 5))) 54 42 (some 72)) (.inr (0, 16))) 54 45 (some 73)) (.inr (0, 16))) 54 46 (some 74)) 55 1 (-1)) 55 4 29) 55 6 (-1)) 55 256 (-1)) 56 55 0 0 589
set_option maxRecDepth 8000 in
theorem qX12_init {l : Launch} {M : Mem} (hl : M.1.length = 55) (hk : M.1[54]? = some (.inl 12)) : Fn l mdX12_init [aR 54] M none (gX12_init M) := by
  refine Call.of [some (aR 54)] rfl (Nat.le_of_ble_eq_true rfl) rfl ?_
  refine vc_aload_n dX12_init_0 rfl ?_
  refine vc_objInit dX12_init_1 oiX12_1 (Nat.le_of_ble_eq_true rfl) ?_
  refine vc_aload_n dX12_init_4 rfl ?_
  refine vc_sipush dX12_init_5 rfl ?_
  refine vc_newIq 589 55 dX12_init_8 rfl hl (Nat.le_of_ble_eq_true rfl) (Nat.le_of_ble_eq_true rfl) (Nat.le_of_ble_eq_true rfl) ?_
  refine vc_putR dX12_init_10 (plX12_7 _ rfl rfl) (sh_mk hk) rfl ?_
  refine vc_aload_n dX12_init_13 rfl ?_
  refine vc_sipush dX12_init_14 rfl ?_
  refine vc_newIq 589 56 dX12_init_17 rfl (ln_mk hl) (Nat.le_of_ble_eq_true rfl) (Nat.le_of_ble_eq_true rfl) (Nat.le_of_ble_eq_true rfl) ?_
  refine vc_putR dX12_init_19 (plX12_13 _ rfl rfl) (sh_mk (sh_mk hk)) rfl ?_
  refine vc_aload_n dX12_init_22 rfl ?_
  refine vc_sipush dX12_init_23 rfl ?_
  refine vc_newIq 3492 57 dX12_init_26 rfl (ln_mk (ln_mk hl)) (Nat.le_of_ble_eq_true rfl) (Nat.le_of_ble_eq_true rfl) (Nat.le_of_ble_eq_true rfl) ?_
  refine vc_putR dX12_init_28 (plX12_16 _ rfl rfl) (sh_mk (sh_mk (sh_mk hk))) rfl ?_
  refine vc_aload_n dX12_init_31 rfl ?_
  refine vc_bipush dX12_init_32 rfl ?_
  refine vc_newIq 8 58 dX12_init_34 rfl (ln_mk (ln_mk (ln_mk hl))) (Nat.le_of_ble_eq_true rfl) (Nat.le_of_ble_eq_true rfl) (Nat.le_of_ble_eq_true rfl) ?_
  refine vc_putR dX12_init_36 (plX12_19 _ rfl rfl) (sh_mk (sh_mk (sh_mk (sh_mk hk)))) rfl ?_
  refine vc_aload_n dX12_init_39 rfl ?_
  refine vc_sipush dX12_init_40 rfl ?_
  refine vc_newIq 300 59 dX12_init_43 rfl (ln_mk (ln_mk (ln_mk (ln_mk hl)))) (Nat.le_of_ble_eq_true rfl) (Nat.le_of_ble_eq_true rfl) (Nat.le_of_ble_eq_true rfl) ?_
  refine vc_putR dX12_init_45 (plX12_22 _ rfl rfl) (sh_mk (sh_mk (sh_mk (sh_mk (sh_mk hk))))) rfl ?_
  refine vc_aload_n dX12_init_48 rfl ?_
  refine vc_iconst dX12_init_49 rfl ?_
  refine vc_putI dX12_init_50 (plX12_25 _ rfl) (sh_mk (sh_mk (sh_mk (sh_mk (sh_mk hk))))) rfl ?_
  refine vc_aload_n dX12_init_53 rfl ?_
  refine vc_iconst dX12_init_54 rfl ?_
  refine vc_putI dX12_init_55 (plX12_29 _ rfl) (sh_mk (sh_mk (sh_mk (sh_mk (sh_mk hk))))) rfl ?_
  refine vc_aload_n dX12_init_58 rfl ?_
  refine vc_sipush dX12_init_59 rfl ?_
  refine vc_newIq 160 60 dX12_init_62 rfl (ln_mk (ln_mk (ln_mk (ln_mk (ln_mk hl))))) (Nat.le_of_ble_eq_true rfl) (Nat.le_of_ble_eq_true rfl) (Nat.le_of_ble_eq_true rfl) ?_
  refine vc_putR dX12_init_64 (plX12_32 _ rfl rfl) (sh_mk (sh_mk (sh_mk (sh_mk (sh_mk (sh_mk hk)))))) rfl ?_
  refine vc_aload_n dX12_init_67 rfl ?_
  refine vc_bipush dX12_init_68 rfl ?_
  refine vc_newIq 9 61 dX12_init_70 rfl (ln_mk (ln_mk (ln_mk (ln_mk (ln_mk (ln_mk hl)))))) (Nat.le_of_ble_eq_true rfl) (Nat.le_of_ble_eq_true rfl) (Nat.le_of_ble_eq_true rfl) ?_
  refine vc_putR dX12_init_72 (plX12_35 _ rfl rfl) (sh_mk (sh_mk (sh_mk (sh_mk (sh_mk (sh_mk (sh_mk hk))))))) rfl ?_
  refine vc_aload_n dX12_init_75 rfl ?_
  refine vc_sipush dX12_init_76 rfl ?_
  refine vc_newJq 330 62 dX12_init_79 rfl (ln_mk (ln_mk (ln_mk (ln_mk (ln_mk (ln_mk (ln_mk hl))))))) (Nat.le_of_ble_eq_true rfl) (Nat.le_of_ble_eq_true rfl) (Nat.le_of_ble_eq_true rfl) ?_
  refine vc_putR dX12_init_81 (plX12_38 _ rfl rfl) (sh_mk (sh_mk (sh_mk (sh_mk (sh_mk (sh_mk (sh_mk (sh_mk hk)))))))) rfl ?_
  refine vc_aload_n dX12_init_84 rfl ?_
  refine vc_bipush dX12_init_85 rfl ?_
  refine vc_newIq 8 63 dX12_init_87 rfl (ln_mk (ln_mk (ln_mk (ln_mk (ln_mk (ln_mk (ln_mk (ln_mk hl)))))))) (Nat.le_of_ble_eq_true rfl) (Nat.le_of_ble_eq_true rfl) (Nat.le_of_ble_eq_true rfl) ?_
  refine vc_putR dX12_init_89 (plX12_42 _ rfl rfl) (sh_mk (sh_mk (sh_mk (sh_mk (sh_mk (sh_mk (sh_mk (sh_mk (sh_mk hk))))))))) rfl ?_
  refine vc_aload_n dX12_init_92 rfl ?_
  refine vc_bipush dX12_init_93 rfl ?_
  refine vc_newIq 8 64 dX12_init_95 rfl (ln_mk (ln_mk (ln_mk (ln_mk (ln_mk (ln_mk (ln_mk (ln_mk (ln_mk hl))))))))) (Nat.le_of_ble_eq_true rfl) (Nat.le_of_ble_eq_true rfl) (Nat.le_of_ble_eq_true rfl) ?_
  refine vc_putR dX12_init_97 (plX12_45 _ rfl rfl) (sh_mk (sh_mk (sh_mk (sh_mk (sh_mk (sh_mk (sh_mk (sh_mk (sh_mk (sh_mk hk)))))))))) rfl ?_
  refine vc_aload_n dX12_init_100 rfl ?_
  refine vc_bipush dX12_init_101 rfl ?_
  refine vc_newIq 8 65 dX12_init_103 rfl (ln_mk (ln_mk (ln_mk (ln_mk (ln_mk (ln_mk (ln_mk (ln_mk (ln_mk (ln_mk hl)))))))))) (Nat.le_of_ble_eq_true rfl) (Nat.le_of_ble_eq_true rfl) (Nat.le_of_ble_eq_true rfl) ?_
  refine vc_putR dX12_init_105 (plX12_48 _ rfl rfl) (sh_mk (sh_mk (sh_mk (sh_mk (sh_mk (sh_mk (sh_mk (sh_mk (sh_mk (sh_mk (sh_mk hk))))))))))) rfl ?_
  refine vc_aload_n dX12_init_108 rfl ?_
  refine vc_bipush dX12_init_109 rfl ?_
  refine vc_newJq 16 66 dX12_init_111 rfl (ln_mk (ln_mk (ln_mk (ln_mk (ln_mk (ln_mk (ln_mk (ln_mk (ln_mk (ln_mk (ln_mk hl))))))))))) (Nat.le_of_ble_eq_true rfl) (Nat.le_of_ble_eq_true rfl) (Nat.le_of_ble_eq_true rfl) ?_
  refine vc_putR dX12_init_113 (plX12_51 _ rfl rfl) (sh_mk (sh_mk (sh_mk (sh_mk (sh_mk (sh_mk (sh_mk (sh_mk (sh_mk (sh_mk (sh_mk (sh_mk hk)))))))))))) rfl ?_
  refine vc_aload_n dX12_init_116 rfl ?_
  refine vc_bipush dX12_init_117 rfl ?_
  refine vc_newIq 8 67 dX12_init_119 rfl (ln_mk (ln_mk (ln_mk (ln_mk (ln_mk (ln_mk (ln_mk (ln_mk (ln_mk (ln_mk (ln_mk (ln_mk hl)))))))))))) (Nat.le_of_ble_eq_true rfl) (Nat.le_of_ble_eq_true rfl) (Nat.le_of_ble_eq_true rfl) ?_
  refine vc_putR dX12_init_121 (plX12_54 _ rfl rfl) (sh_mk (sh_mk (sh_mk (sh_mk (sh_mk (sh_mk (sh_mk (sh_mk (sh_mk (sh_mk (sh_mk (sh_mk (sh_mk hk))))))))))))) rfl ?_
  refine vc_aload_n dX12_init_124 rfl ?_
  refine vc_sipush dX12_init_125 rfl ?_
  refine vc_newIq 256 68 dX12_init_128 rfl (ln_mk (ln_mk (ln_mk (ln_mk (ln_mk (ln_mk (ln_mk (ln_mk (ln_mk (ln_mk (ln_mk (ln_mk (ln_mk hl))))))))))))) (Nat.le_of_ble_eq_true rfl) (Nat.le_of_ble_eq_true rfl) (Nat.le_of_ble_eq_true rfl) ?_
  refine vc_putR dX12_init_130 (plX12_57 _ rfl rfl) (sh_mk (sh_mk (sh_mk (sh_mk (sh_mk (sh_mk (sh_mk (sh_mk (sh_mk (sh_mk (sh_mk (sh_mk (sh_mk (sh_mk hk)))))))))))))) rfl ?_
  refine vc_aload_n dX12_init_133 rfl ?_
  refine vc_bipush dX12_init_134 rfl ?_
  refine vc_newZq 16 69 dX12_init_136 rfl (ln_mk (ln_mk (ln_mk (ln_mk (ln_mk (ln_mk (ln_mk (ln_mk (ln_mk (ln_mk (ln_mk (ln_mk (ln_mk (ln_mk hl)))))))))))))) (Nat.le_of_ble_eq_true rfl) (Nat.le_of_ble_eq_true rfl) (Nat.le_of_ble_eq_true rfl) ?_
  refine vc_putR dX12_init_138 (plX12_60 _ rfl rfl) (sh_mk (sh_mk (sh_mk (sh_mk (sh_mk (sh_mk (sh_mk (sh_mk (sh_mk (sh_mk (sh_mk (sh_mk (sh_mk (sh_mk (sh_mk hk))))))))))))))) rfl ?_
  refine vc_aload_n dX12_init_141 rfl ?_
  refine vc_iconst dX12_init_142 rfl ?_
  refine vc_newIq 5 70 dX12_init_143 rfl (ln_mk (ln_mk (ln_mk (ln_mk (ln_mk (ln_mk (ln_mk (ln_mk (ln_mk (ln_mk (ln_mk (ln_mk (ln_mk (ln_mk (ln_mk hl))))))))))))))) (Nat.le_of_ble_eq_true rfl) (Nat.le_of_ble_eq_true rfl) (Nat.le_of_ble_eq_true rfl) ?_
  refine vc_putR dX12_init_145 (plX12_64 _ rfl rfl) (sh_mk (sh_mk (sh_mk (sh_mk (sh_mk (sh_mk (sh_mk (sh_mk (sh_mk (sh_mk (sh_mk (sh_mk (sh_mk (sh_mk (sh_mk (sh_mk hk)))))))))))))))) rfl ?_
  refine vc_aload_n dX12_init_148 rfl ?_
  refine vc_iconst dX12_init_149 rfl ?_
  refine vc_newIq 5 71 dX12_init_150 rfl (ln_mk (ln_mk (ln_mk (ln_mk (ln_mk (ln_mk (ln_mk (ln_mk (ln_mk (ln_mk (ln_mk (ln_mk (ln_mk (ln_mk (ln_mk (ln_mk hl)))))))))))))))) (Nat.le_of_ble_eq_true rfl) (Nat.le_of_ble_eq_true rfl) (Nat.le_of_ble_eq_true rfl) ?_
  refine vc_putR dX12_init_152 (plX12_67 _ rfl rfl) (sh_mk (sh_mk (sh_mk (sh_mk (sh_mk (sh_mk (sh_mk (sh_mk (sh_mk (sh_mk (sh_mk (sh_mk (sh_mk (sh_mk (sh_mk (sh_mk (sh_mk hk))))))))))))))))) rfl ?_
  refine vc_aload_n dX12_init_155 rfl ?_
  refine vc_iconst dX12_init_156 rfl ?_
  refine vc_newIq 5 72 dX12_init_157 rfl (ln_mk (ln_mk (ln_mk (ln_mk (ln_mk (ln_mk (ln_mk (ln_mk (ln_mk (ln_mk (ln_mk (ln_mk (ln_mk (ln_mk (ln_mk (ln_mk (ln_mk hl))))))))))))))))) (Nat.le_of_ble_eq_true rfl) (Nat.le_of_ble_eq_true rfl) (Nat.le_of_ble_eq_true rfl) ?_
  refine vc_putR dX12_init_159 (plX12_70 _ rfl rfl) (sh_mk (sh_mk (sh_mk (sh_mk (sh_mk (sh_mk (sh_mk (sh_mk (sh_mk (sh_mk (sh_mk (sh_mk (sh_mk (sh_mk (sh_mk (sh_mk (sh_mk (sh_mk hk)))))))))))))))))) rfl ?_
  refine vc_aload_n dX12_init_162 rfl ?_
  refine vc_bipush dX12_init_163 rfl ?_
  refine vc_newIq 16 73 dX12_init_165 rfl (ln_mk (ln_mk (ln_mk (ln_mk (ln_mk (ln_mk (ln_mk (ln_mk (ln_mk (ln_mk (ln_mk (ln_mk (ln_mk (ln_mk (ln_mk (ln_mk (ln_mk (ln_mk hl)))))))))))))))))) (Nat.le_of_ble_eq_true rfl) (Nat.le_of_ble_eq_true rfl) (Nat.le_of_ble_eq_true rfl) ?_
  refine vc_putR dX12_init_167 (plX12_73 _ rfl rfl) (sh_mk (sh_mk (sh_mk (sh_mk (sh_mk (sh_mk (sh_mk (sh_mk (sh_mk (sh_mk (sh_mk (sh_mk (sh_mk (sh_mk (sh_mk (sh_mk (sh_mk (sh_mk (sh_mk hk))))))))))))))))))) rfl ?_
  refine vc_aload_n dX12_init_170 rfl ?_
  refine vc_bipush dX12_init_171 rfl ?_
  refine vc_newIq 16 74 dX12_init_173 rfl (ln_mk (ln_mk (ln_mk (ln_mk (ln_mk (ln_mk (ln_mk (ln_mk (ln_mk (ln_mk (ln_mk (ln_mk (ln_mk (ln_mk (ln_mk (ln_mk (ln_mk (ln_mk (ln_mk hl))))))))))))))))))) (Nat.le_of_ble_eq_true rfl) (Nat.le_of_ble_eq_true rfl) (Nat.le_of_ble_eq_true rfl) ?_
  refine vc_putR dX12_init_175 (plX12_76 _ rfl rfl) (sh_mk (sh_mk (sh_mk (sh_mk (sh_mk (sh_mk (sh_mk (sh_mk (sh_mk (sh_mk (sh_mk (sh_mk (sh_mk (sh_mk (sh_mk (sh_mk (sh_mk (sh_mk (sh_mk (sh_mk hk)))))))))))))))))))) rfl ?_
  refine vc_aload_n dX12_init_178 rfl ?_
  refine vc_getR dX12_init_179 flX12_7 (sh_mk (sh_mk (sh_mk (sh_mk (sh_mk (sh_mk (sh_mk (sh_mk (sh_mk (sh_mk (sh_mk (sh_mk (sh_mk (sh_mk (sh_mk (sh_mk (sh_mk (sh_mk (sh_mk (sh_mk hk)))))))))))))))))))) rfl (rp_sR (rp_mk (ln_mk (ln_mk (ln_mk (ln_mk (ln_mk (ln_mk (ln_mk (ln_mk (ln_mk (ln_mk (ln_mk (ln_mk (ln_mk (ln_mk (ln_mk (ln_mk (ln_mk (ln_mk (ln_mk hl))))))))))))))))))) (rp_sR (rp_mk (ln_mk (ln_mk (ln_mk (ln_mk (ln_mk (ln_mk (ln_mk (ln_mk (ln_mk (ln_mk (ln_mk (ln_mk (ln_mk (ln_mk (ln_mk (ln_mk (ln_mk (ln_mk hl)))))))))))))))))) (rp_sR (rp_mk (ln_mk (ln_mk (ln_mk (ln_mk (ln_mk (ln_mk (ln_mk (ln_mk (ln_mk (ln_mk (ln_mk (ln_mk (ln_mk (ln_mk (ln_mk (ln_mk (ln_mk hl))))))))))))))))) (rp_sR (rp_mk (ln_mk (ln_mk (ln_mk (ln_mk (ln_mk (ln_mk (ln_mk (ln_mk (ln_mk (ln_mk (ln_mk (ln_mk (ln_mk (ln_mk (ln_mk (ln_mk hl)))))))))))))))) (rp_sR (rp_mk (ln_mk (ln_mk (ln_mk (ln_mk (ln_mk (ln_mk (ln_mk (ln_mk (ln_mk (ln_mk (ln_mk (ln_mk (ln_mk (ln_mk (ln_mk hl))))))))))))))) (rp_sR (rp_mk (ln_mk (ln_mk (ln_mk (ln_mk (ln_mk (ln_mk (ln_mk (ln_mk (ln_mk (ln_mk (ln_mk (ln_mk (ln_mk (ln_mk hl)))))))))))))) (rp_sR (rp_mk (ln_mk (ln_mk (ln_mk (ln_mk (ln_mk (ln_mk (ln_mk (ln_mk (ln_mk (ln_mk (ln_mk (ln_mk (ln_mk hl))))))))))))) (rp_sR (rp_mk (ln_mk (ln_mk (ln_mk (ln_mk (ln_mk (ln_mk (ln_mk (ln_mk (ln_mk (ln_mk (ln_mk (ln_mk hl)))))))))))) (rp_sR (rp_mk (ln_mk (ln_mk (ln_mk (ln_mk (ln_mk (ln_mk (ln_mk (ln_mk (ln_mk (ln_mk (ln_mk hl))))))))))) (rp_sR (rp_mk (ln_mk (ln_mk (ln_mk (ln_mk (ln_mk (ln_mk (ln_mk (ln_mk (ln_mk (ln_mk hl)))))))))) (rp_sR (rp_mk (ln_mk (ln_mk (ln_mk (ln_mk (ln_mk (ln_mk (ln_mk (ln_mk (ln_mk hl))))))))) (rp_sR (rp_mk (ln_mk (ln_mk (ln_mk (ln_mk (ln_mk (ln_mk (ln_mk (ln_mk hl)))))))) (rp_sR (rp_mk (ln_mk (ln_mk (ln_mk (ln_mk (ln_mk (ln_mk (ln_mk hl))))))) (rp_sR (rp_mk (ln_mk (ln_mk (ln_mk (ln_mk (ln_mk (ln_mk hl)))))) (rp_sR (rp_mk (ln_mk (ln_mk (ln_mk (ln_mk (ln_mk hl))))) (rp_sR (rp_mk (ln_mk (ln_mk (ln_mk (ln_mk hl)))) (rp_sR (rp_mk (ln_mk (ln_mk (ln_mk hl))) (rp_sR (rp_mk (ln_mk (ln_mk hl)) (rp_sR (rp_mk (ln_mk hl) rp_new (by decide)) (by decide)) (by decide)) (by decide)) (by decide)) (by decide)) (by decide)) (by decide)) (by decide)) (by decide)) (by decide)) (by decide)) (by decide)) (by decide)) (by decide)) (by decide)) (by decide)) (by decide)) (by decide)) (by decide)) (by decide)) (by decide)) (by decide)) (by decide)) (by decide)) (by decide)) (by decide)) (by decide)) (by decide)) (by decide)) (by decide)) (by decide)) (by decide)) (by decide)) (by decide)) (by decide)) (by decide)) (by decide)) ?_
  refine vc_iconst dX12_init_182 rfl ?_
  refine vc_iconst dX12_init_183 rfl ?_
  refine vc_iastore dX12_init_184 (sh_mk (sh_mk (sh_mk (sh_mk (sh_mk (sh_mk (sh_mk (sh_mk (sh_mk (sh_mk (sh_mk (sh_mk (sh_mk (sh_mk (sh_mk (sh_mk (sh_mk (sh_mk (sh_mk (sh_nw hl)))))))))))))))))))) (by omega) (by omega) ?_
  refine vc_mem (sI (sR (mkC (sR (mkC (sR (mkC (sR (mkC (sR (mkC (sR (mkC (sR (mkC (sR (mkC (sR (mkC (sR (mkC (sR (mkC (sR (mkC (sR (mkC (sR (mkC (sR (mkC (sI (sI (sR (mkC (sR (mkC (sR (mkC (sR (mkC (sR (mkC M (.inr (0, 589))) 54 0 (some 55)) (.inr (0, 589))) 54 1 (some 56)) (.inr (0, 3492))) 54 2 (some 57)) (.inr (0, 8))) 54 3 (some 58)) (.inr (0, 300))) 54 5 (some 59)) 54 7 (-1)) 54 8 (-1)) (.inr (0, 160))) 54 17 (some 60)) (.inr (0, 9))) 54 22 (some 61)) (.inr (1, 330))) 54 23 (some 62)) (.inr (0, 8))) 54 31 (some 63)) (.inr (0, 8))) 54 33 (some 64)) (.inr (0, 8))) 54 34 (some 65)) (.inr (1, 16))) 54 35 (some 66)) (.inr (0, 8))) 54 37 (some 67)) (.inr (0, 256))) 54 38 (some 68)) (.inr (2, 16))) 54 39 (some 69)) (.inr (0, 5))) 54 40 (some 70)) (.inr (0, 5))) 54 41 (some 71)) (.inr (0, 5))) 54 42 (some 72)) (.inr (0, 16))) 54 45 (some 73)) (.inr (0, 16))) 54 46 (some 74)) 55 1 (-1)) rfl ?_
  refine vc_aload_n dX12_init_185 rfl ?_
  refine vc_getR dX12_init_186 flX12_7 (sh_mk (sh_mk (sh_mk (sh_mk (sh_mk (sh_mk (sh_mk (sh_mk (sh_mk (sh_mk (sh_mk (sh_mk (sh_mk (sh_mk (sh_mk (sh_mk (sh_mk (sh_mk (sh_mk (sh_mk hk)))))))))))))))))))) rfl (rp_sR (rp_mk (ln_mk (ln_mk (ln_mk (ln_mk (ln_mk (ln_mk (ln_mk (ln_mk (ln_mk (ln_mk (ln_mk (ln_mk (ln_mk (ln_mk (ln_mk (ln_mk (ln_mk (ln_mk (ln_mk hl))))))))))))))))))) (rp_sR (rp_mk (ln_mk (ln_mk (ln_mk (ln_mk (ln_mk (ln_mk (ln_mk (ln_mk (ln_mk (ln_mk (ln_mk (ln_mk (ln_mk (ln_mk (ln_mk (ln_mk (ln_mk (ln_mk hl)))))))))))))))))) (rp_sR (rp_mk (ln_mk (ln_mk (ln_mk (ln_mk (ln_mk (ln_mk (ln_mk (ln_mk (ln_mk (ln_mk (ln_mk (ln_mk (ln_mk (ln_mk (ln_mk (ln_mk (ln_mk hl))))))))))))))))) (rp_sR (rp_mk (ln_mk (ln_mk (ln_mk (ln_mk (ln_mk (ln_mk (ln_mk (ln_mk (ln_mk (ln_mk (ln_mk (ln_mk (ln_mk (ln_mk (ln_mk (ln_mk hl)))))))))))))))) (rp_sR (rp_mk (ln_mk (ln_mk (ln_mk (ln_mk (ln_mk (ln_mk (ln_mk (ln_mk (ln_mk (ln_mk (ln_mk (ln_mk (ln_mk (ln_mk (ln_mk hl))))))))))))))) (rp_sR (rp_mk (ln_mk (ln_mk (ln_mk (ln_mk (ln_mk (ln_mk (ln_mk (ln_mk (ln_mk (ln_mk (ln_mk (ln_mk (ln_mk (ln_mk hl)))))))))))))) (rp_sR (rp_mk (ln_mk (ln_mk (ln_mk (ln_mk (ln_mk (ln_mk (ln_mk (ln_mk (ln_mk (ln_mk (ln_mk (ln_mk (ln_mk hl))))))))))))) (rp_sR (rp_mk (ln_mk (ln_mk (ln_mk (ln_mk (ln_mk (ln_mk (ln_mk (ln_mk (ln_mk (ln_mk (ln_mk (ln_mk hl)))))))))))) (rp_sR (rp_mk (ln_mk (ln_mk (ln_mk (ln_mk (ln_mk (ln_mk (ln_mk (ln_mk (ln_mk (ln_mk (ln_mk hl))))))))))) (rp_sR (rp_mk (ln_mk (ln_mk (ln_mk (ln_mk (ln_mk (ln_mk (ln_mk (ln_mk (ln_mk (ln_mk hl)))))))))) (rp_sR (rp_mk (ln_mk (ln_mk (ln_mk (ln_mk (ln_mk (ln_mk (ln_mk (ln_mk (ln_mk hl))))))))) (rp_sR (rp_mk (ln_mk (ln_mk (ln_mk (ln_mk (ln_mk (ln_mk (ln_mk (ln_mk hl)))))))) (rp_sR (rp_mk (ln_mk (ln_mk (ln_mk (ln_mk (ln_mk (ln_mk (ln_mk hl))))))) (rp_sR (rp_mk (ln_mk (ln_mk (ln_mk (ln_mk (ln_mk (ln_mk hl)))))) (rp_sR (rp_mk (ln_mk (ln_mk (ln_mk (ln_mk (ln_mk hl))))) (rp_sR (rp_mk (ln_mk (ln_mk (ln_mk (ln_mk hl)))) (rp_sR (rp_mk (ln_mk (ln_mk (ln_mk hl))) (rp_sR (rp_mk (ln_mk (ln_mk hl)) (rp_sR (rp_mk (ln_mk hl) rp_new (by decide)) (by decide)) (by decide)) (by decide)) (by decide)) (by decide)) (by decide)) (by decide)) (by decide)) (by decide)) (by decide)) (by decide)) (by decide)) (by decide)) (by decide)) (by decide)) (by decide)) (by decide)) (by decide)) (by decide)) (by decide)) (by decide)) (by decide)) (by decide)) (by decide)) (by decide)) (by decide)) (by decide)) (by decide)) (by decide)) (by decide)) (by decide)) (by decide)) (by decide)) (by decide)) (by decide)) (by decide)) (by decide)) ?_
  refine vc_iconst dX12_init_189 rfl ?_
  refine vc_bipush dX12_init_190 rfl ?_
  refine vc_iastore dX12_init_192 (sh_mk (sh_mk (sh_mk (sh_mk (sh_mk (sh_mk (sh_mk (sh_mk (sh_mk (sh_mk (sh_mk (sh_mk (sh_mk (sh_mk (sh_mk (sh_mk (sh_mk (sh_mk (sh_mk (sh_nw hl)))))))))))))))))))) (by omega) (by omega) ?_
  refine vc_mem (sI (sI (sR (mkC (sR (mkC (sR (mkC (sR (mkC (sR (mkC (sR (mkC (sR (mkC (sR (mkC (sR (mkC (sR (mkC (sR (mkC (sR (mkC (sR (mkC (sR (mkC (sR (mkC (sI (sI (sR (mkC (sR (mkC (sR (mkC (sR (mkC (sR (mkC M (.inr (0, 589))) 54 0 (some 55)) (.inr (0, 589))) 54 1 (some 56)) (.inr (0, 3492))) 54 2 (some 57)) (.inr (0, 8))) 54 3 (some 58)) (.inr (0, 300))) 54 5 (some 59)) 54 7 (-1)) 54 8 (-1)) (.inr (0, 160))) 54 17 (some 60)) (.inr (0, 9))) 54 22 (some 61)) (.inr (1, 330))) 54 23 (some 62)) (.inr (0, 8))) 54 31 (some 63)) (.inr (0, 8))) 54 33 (some 64)) (.inr (0, 8))) 54 34 (some 65)) (.inr (1, 16))) 54 35 (some 66)) (.inr (0, 8))) 54 37 (some 67)) (.inr (0, 256))) 54 38 (some 68)) (.inr (2, 16))) 54 39 (some 69)) (.inr (0, 5))) 54 40 (some 70)) (.inr (0, 5))) 54 41 (some 71)) (.inr (0, 5))) 54 42 (some 72)) (.inr (0, 16))) 54 45 (some 73)) (.inr (0, 16))) 54 46 (some 74)) 55 1 (-1)) 55 4 29) rfl ?_
  refine vc_aload_n dX12_init_193 rfl ?_
  refine vc_getR dX12_init_194 flX12_7 (sh_mk (sh_mk (sh_mk (sh_mk (sh_mk (sh_mk (sh_mk (sh_mk (sh_mk (sh_mk (sh_mk (sh_mk (sh_mk (sh_mk (sh_mk (sh_mk (sh_mk (sh_mk (sh_mk (sh_mk hk)))))))))))))))))))) rfl (rp_sR (rp_mk (ln_mk (ln_mk (ln_mk (ln_mk (ln_mk (ln_mk (ln_mk (ln_mk (ln_mk (ln_mk (ln_mk (ln_mk (ln_mk (ln_mk (ln_mk (ln_mk (ln_mk (ln_mk (ln_mk hl))))))))))))))))))) (rp_sR (rp_mk (ln_mk (ln_mk (ln_mk (ln_mk (ln_mk (ln_mk (ln_mk (ln_mk (ln_mk (ln_mk (ln_mk (ln_mk (ln_mk (ln_mk (ln_mk (ln_mk (ln_mk (ln_mk hl)))))))))))))))))) (rp_sR (rp_mk (ln_mk (ln_mk (ln_mk (ln_mk (ln_mk (ln_mk (ln_mk (ln_mk (ln_mk (ln_mk (ln_mk (ln_mk (ln_mk (ln_mk (ln_mk (ln_mk (ln_mk hl))))))))))))))))) (rp_sR (rp_mk (ln_mk (ln_mk (ln_mk (ln_mk (ln_mk (ln_mk (ln_mk (ln_mk (ln_mk (ln_mk (ln_mk (ln_mk (ln_mk (ln_mk (ln_mk (ln_mk hl)))))))))))))))) (rp_sR (rp_mk (ln_mk (ln_mk (ln_mk (ln_mk (ln_mk (ln_mk (ln_mk (ln_mk (ln_mk (ln_mk (ln_mk (ln_mk (ln_mk (ln_mk (ln_mk hl))))))))))))))) (rp_sR (rp_mk (ln_mk (ln_mk (ln_mk (ln_mk (ln_mk (ln_mk (ln_mk (ln_mk (ln_mk (ln_mk (ln_mk (ln_mk (ln_mk (ln_mk hl)))))))))))))) (rp_sR (rp_mk (ln_mk (ln_mk (ln_mk (ln_mk (ln_mk (ln_mk (ln_mk (ln_mk (ln_mk (ln_mk (ln_mk (ln_mk (ln_mk hl))))))))))))) (rp_sR (rp_mk (ln_mk (ln_mk (ln_mk (ln_mk (ln_mk (ln_mk (ln_mk (ln_mk (ln_mk (ln_mk (ln_mk (ln_mk hl)))))))))))) (rp_sR (rp_mk (ln_mk (ln_mk (ln_mk (ln_mk (ln_mk (ln_mk (ln_mk (ln_mk (ln_mk (ln_mk (ln_mk hl))))))))))) (rp_sR (rp_mk (ln_mk (ln_mk (ln_mk (ln_mk (ln_mk (ln_mk (ln_mk (ln_mk (ln_mk (ln_mk hl)))))))))) (rp_sR (rp_mk (ln_mk (ln_mk (ln_mk (ln_mk (ln_mk (ln_mk (ln_mk (ln_mk (ln_mk hl))))))))) (rp_sR (rp_mk (ln_mk (ln_mk (ln_mk (ln_mk (ln_mk (ln_mk (ln_mk (ln_mk hl)))))))) (rp_sR (rp_mk (ln_mk (ln_mk (ln_mk (ln_mk (ln_mk (ln_mk (ln_mk hl))))))) (rp_sR (rp_mk (ln_mk (ln_mk (ln_mk (ln_mk (ln_mk (ln_mk hl)))))) (rp_sR (rp_mk (ln_mk (ln_mk (ln_mk (ln_mk (ln_mk hl))))) (rp_sR (rp_mk (ln_mk (ln_mk (ln_mk (ln_mk hl)))) (rp_sR (rp_mk (ln_mk (ln_mk (ln_mk hl))) (rp_sR (rp_mk (ln_mk (ln_mk hl)) (rp_sR (rp_mk (ln_mk hl) rp_new (by decide)) (by decide)) (by decide)) (by decide)) (by decide)) (by decide)) (by decide)) (by decide)) (by decide)) (by decide)) (by decide)) (by decide)) (by decide)) (by decide)) (by decide)) (by decide)) (by decide)) (by decide)) (by decide)) (by decide)) (by decide)) (by decide)) (by decide)) (by decide)) (by decide)) (by decide)) (by decide)) (by decide)) (by decide)) (by decide)) (by decide)) (by decide)) (by decide)) (by decide)) (by decide)) (by decide)) (by decide)) (by decide)) ?_
  refine vc_bipush dX12_init_197 rfl ?_
  refine vc_iconst dX12_init_199 rfl ?_
  refine vc_iastore dX12_init_200 (sh_mk (sh_mk (sh_mk (sh_mk (sh_mk (sh_mk (sh_mk (sh_mk (sh_mk (sh_mk (sh_mk (sh_mk (sh_mk (sh_mk (sh_mk (sh_mk (sh_mk (sh_mk (sh_mk (sh_nw hl)))))))))))))))))))) (by omega) (by omega) ?_
  refine vc_mem (sI (sI (sI (sR (mkC (sR (mkC (sR (mkC (sR (mkC (sR (mkC (sR (mkC (sR (mkC (sR (mkC (sR (mkC (sR (mkC (sR (mkC (sR (mkC (sR (mkC (sR (mkC (sR (mkC (sI (sI (sR (mkC (sR (mkC (sR (mkC (sR (mkC (sR (mkC M (.inr (0, 589))) 54 0 (some 55)) (.inr (0, 589))) 54 1 (some 56)) (.inr (0, 3492))) 54 2 (some 57)) (.inr (0, 8))) 54 3 (some 58)) (.inr (0, 300))) 54 5 (some 59)) 54 7 (-1)) 54 8 (-1)) (.inr (0, 160))) 54 17 (some 60)) (.inr (0, 9))) 54 22 (some 61)) (.inr (1, 330))) 54 23 (some 62)) (.inr (0, 8))) 54 31 (some 63)) (.inr (0, 8))) 54 33 (some 64)) (.inr (0, 8))) 54 34 (some 65)) (.inr (1, 16))) 54 35 (some 66)) (.inr (0, 8))) 54 37 (some 67)) (.inr (0, 256))) 54 38 (some 68)) (.inr (2, 16))) 54 39 (some 69)) (.inr (0, 5))) 54 40 (some 70)) (.inr (0, 5))) 54 41 (some 71)) (.inr (0, 5))) 54 42 (some 72)) (.inr (0, 16))) 54 45 (some 73)) (.inr (0, 16))) 54 46 (some 74)) 55 1 (-1)) 55 4 29) 55 6 (-1)) rfl ?_
  refine vc_aload_n dX12_init_201 rfl ?_
  refine vc_getR dX12_init_202 flX12_7 (sh_mk (sh_mk (sh_mk (sh_mk (sh_mk (sh_mk (sh_mk (sh_mk (sh_mk (sh_mk (sh_mk (sh_mk (sh_mk (sh_mk (sh_mk (sh_mk (sh_mk (sh_mk (sh_mk (sh_mk hk)))))))))))))))))))) rfl (rp_sR (rp_mk (ln_mk (ln_mk (ln_mk (ln_mk (ln_mk (ln_mk (ln_mk (ln_mk (ln_mk (ln_mk (ln_mk (ln_mk (ln_mk (ln_mk (ln_mk (ln_mk (ln_mk (ln_mk (ln_mk hl))))))))))))))))))) (rp_sR (rp_mk (ln_mk (ln_mk (ln_mk (ln_mk (ln_mk (ln_mk (ln_mk (ln_mk (ln_mk (ln_mk (ln_mk (ln_mk (ln_mk (ln_mk (ln_mk (ln_mk (ln_mk (ln_mk hl)))))))))))))))))) (rp_sR (rp_mk (ln_mk (ln_mk (ln_mk (ln_mk (ln_mk (ln_mk (ln_mk (ln_mk (ln_mk (ln_mk (ln_mk (ln_mk (ln_mk (ln_mk (ln_mk (ln_mk (ln_mk hl))))))))))))))))) (rp_sR (rp_mk (ln_mk (ln_mk (ln_mk (ln_mk (ln_mk (ln_mk (ln_mk (ln_mk (ln_mk (ln_mk (ln_mk (ln_mk (ln_mk (ln_mk (ln_mk (ln_mk hl)))))))))))))))) (rp_sR (rp_mk (ln_mk (ln_mk (ln_mk (ln_mk (ln_mk (ln_mk (ln_mk (ln_mk (ln_mk (ln_mk (ln_mk (ln_mk (ln_mk (ln_mk (ln_mk hl))))))))))))))) (rp_sR (rp_mk (ln_mk (ln_mk (ln_mk (ln_mk (ln_mk (ln_mk (ln_mk (ln_mk (ln_mk (ln_mk (ln_mk (ln_mk (ln_mk (ln_mk hl)))))))))))))) (rp_sR (rp_mk (ln_mk (ln_mk (ln_mk (ln_mk (ln_mk (ln_mk (ln_mk (ln_mk (ln_mk (ln_mk (ln_mk (ln_mk (ln_mk hl))))))))))))) (rp_sR (rp_mk (ln_mk (ln_mk (ln_mk (ln_mk (ln_mk (ln_mk (ln_mk (ln_mk (ln_mk (ln_mk (ln_mk (ln_mk hl)))))))))))) (rp_sR (rp_mk (ln_mk (ln_mk (ln_mk (ln_mk (ln_mk (ln_mk (ln_mk (ln_mk (ln_mk (ln_mk (ln_mk hl))))))))))) (rp_sR (rp_mk (ln_mk (ln_mk (ln_mk (ln_mk (ln_mk (ln_mk (ln_mk (ln_mk (ln_mk (ln_mk hl)))))))))) (rp_sR (rp_mk (ln_mk (ln_mk (ln_mk (ln_mk (ln_mk (ln_mk (ln_mk (ln_mk (ln_mk hl))))))))) (rp_sR (rp_mk (ln_mk (ln_mk (ln_mk (ln_mk (ln_mk (ln_mk (ln_mk (ln_mk hl)))))))) (rp_sR (rp_mk (ln_mk (ln_mk (ln_mk (ln_mk (ln_mk (ln_mk (ln_mk hl))))))) (rp_sR (rp_mk (ln_mk (ln_mk (ln_mk (ln_mk (ln_mk (ln_mk hl)))))) (rp_sR (rp_mk (ln_mk (ln_mk (ln_mk (ln_mk (ln_mk hl))))) (rp_sR (rp_mk (ln_mk (ln_mk (ln_mk (ln_mk hl)))) (rp_sR (rp_mk (ln_mk (ln_mk (ln_mk hl))) (rp_sR (rp_mk (ln_mk (ln_mk hl)) (rp_sR (rp_mk (ln_mk hl) rp_new (by decide)) (by decide)) (by decide)) (by decide)) (by decide)) (by decide)) (by decide)) (by decide)) (by decide)) (by decide)) (by decide)) (by decide)) (by decide)) (by decide)) (by decide)) (by decide)) (by decide)) (by decide)) (by decide)) (by decide)) (by decide)) (by decide)) (by decide)) (by decide)) (by decide)) (by decide)) (by decide)) (by decide)) (by decide)) (by decide)) (by decide)) (by decide)) (by decide)) (by decide)) (by decide)) (by decide)) (by decide)) (by decide)) ?_
  refine vc_sipush dX12_init_205 rfl ?_
  refine vc_iconst dX12_init_208 rfl ?_
  refine vc_iastore dX12_init_209 (sh_mk (sh_mk (sh_mk (sh_mk (sh_mk (sh_mk (sh_mk (sh_mk (sh_mk (sh_mk (sh_mk (sh_mk (sh_mk (sh_mk (sh_mk (sh_mk (sh_mk (sh_mk (sh_mk (sh_nw hl)))))))))))))))))))) (by omega) (by omega) ?_
  refine vc_mem (sI (sI (sI (sI (sR (mkC (sR (mkC (sR (mkC (sR (mkC (sR (mkC (sR (mkC (sR (mkC (sR (mkC (sR (mkC (sR (mkC (sR (mkC (sR (mkC (sR (mkC (sR (mkC (sR (mkC (sI (sI (sR (mkC (sR (mkC (sR (mkC (sR (mkC (sR (mkC M (.inr (0, 589))) 54 0 (some 55)) (.inr (0, 589))) 54 1 (some 56)) (.inr (0, 3492))) 54 2 (some 57)) (.inr (0, 8))) 54 3 (some 58)) (.inr (0, 300))) 54 5 (some 59)) 54 7 (-1)) 54 8 (-1)) (.inr (0, 160))) 54 17 (some 60)) (.inr (0, 9))) 54 22 (some 61)) (.inr (1, 330))) 54 23 (some 62)) (.inr (0, 8))) 54 31 (some 63)) (.inr (0, 8))) 54 33 (some 64)) (.inr (0, 8))) 54 34 (some 65)) (.inr (1, 16))) 54 35 (some 66)) (.inr (0, 8))) 54 37 (some 67)) (.inr (0, 256))) 54 38 (some 68)) (.inr (2, 16))) 54 39 (some 69)) (.inr (0, 5))) 54 40 (some 70)) (.inr (0, 5))) 54 41 (some 71)) (.inr (0, 5))) 54 42 (some 72)) (.inr (0, 16))) 54 45 (some 73)) (.inr (0, 16))) 54 46 (some 74)) 55 1 (-1)) 55 4 29) 55 6 (-1)) 55 256 (-1)) rfl ?_
  refine vc_aload_n dX12_init_210 rfl ?_
  refine vc_getR dX12_init_211 flX12_7 (sh_mk (sh_mk (sh_mk (sh_mk (sh_mk (sh_mk (sh_mk (sh_mk (sh_mk (sh_mk (sh_mk (sh_mk (sh_mk (sh_mk (sh_mk (sh_mk (sh_mk (sh_mk (sh_mk (sh_mk hk)))))))))))))))))))) rfl (rp_sR (rp_mk (ln_mk (ln_mk (ln_mk (ln_mk (ln_mk (ln_mk (ln_mk (ln_mk (ln_mk (ln_mk (ln_mk (ln_mk (ln_mk (ln_mk (ln_mk (ln_mk (ln_mk (ln_mk (ln_mk hl))))))))))))))))))) (rp_sR (rp_mk (ln_mk (ln_mk (ln_mk (ln_mk (ln_mk (ln_mk (ln_mk (ln_mk (ln_mk (ln_mk (ln_mk (ln_mk (ln_mk (ln_mk (ln_mk (ln_mk (ln_mk (ln_mk hl)))))))))))))))))) (rp_sR (rp_mk (ln_mk (ln_mk (ln_mk (ln_mk (ln_mk (ln_mk (ln_mk (ln_mk (ln_mk (ln_mk (ln_mk (ln_mk (ln_mk (ln_mk (ln_mk (ln_mk (ln_mk hl))))))))))))))))) (rp_sR (rp_mk (ln_mk (ln_mk (ln_mk (ln_mk (ln_mk (ln_mk (ln_mk (ln_mk (ln_mk (ln_mk (ln_mk (ln_mk (ln_mk (ln_mk (ln_mk (ln_mk hl)))))))))))))))) (rp_sR (rp_mk (ln_mk (ln_mk (ln_mk (ln_mk (ln_mk (ln_mk (ln_mk (ln_mk (ln_mk (ln_mk (ln_mk (ln_mk (ln_mk (ln_mk (ln_mk hl))))))))))))))) (rp_sR (rp_mk (ln_mk (ln_mk (ln_mk (ln_mk (ln_mk (ln_mk (ln_mk (ln_mk (ln_mk (ln_mk (ln_mk (ln_mk (ln_mk (ln_mk hl)))))))))))))) (rp_sR (rp_mk (ln_mk (ln_mk (ln_mk (ln_mk (ln_mk (ln_mk (ln_mk (ln_mk (ln_mk (ln_mk (ln_mk (ln_mk (ln_mk hl))))))))))))) (rp_sR (rp_mk (ln_mk (ln_mk (ln_mk (ln_mk (ln_mk (ln_mk (ln_mk (ln_mk (ln_mk (ln_mk (ln_mk (ln_mk hl)))))))))))) (rp_sR (rp_mk (ln_mk (ln_mk (ln_mk (ln_mk (ln_mk (ln_mk (ln_mk (ln_mk (ln_mk (ln_mk (ln_mk hl))))))))))) (rp_sR (rp_mk (ln_mk (ln_mk (ln_mk (ln_mk (ln_mk (ln_mk (ln_mk (ln_mk (ln_mk (ln_mk hl)))))))))) (rp_sR (rp_mk (ln_mk (ln_mk (ln_mk (ln_mk (ln_mk (ln_mk (ln_mk (ln_mk (ln_mk hl))))))))) (rp_sR (rp_mk (ln_mk (ln_mk (ln_mk (ln_mk (ln_mk (ln_mk (ln_mk (ln_mk hl)))))))) (rp_sR (rp_mk (ln_mk (ln_mk (ln_mk (ln_mk (ln_mk (ln_mk (ln_mk hl))))))) (rp_sR (rp_mk (ln_mk (ln_mk (ln_mk (ln_mk (ln_mk (ln_mk hl)))))) (rp_sR (rp_mk (ln_mk (ln_mk (ln_mk (ln_mk (ln_mk hl))))) (rp_sR (rp_mk (ln_mk (ln_mk (ln_mk (ln_mk hl)))) (rp_sR (rp_mk (ln_mk (ln_mk (ln_mk hl))) (rp_sR (rp_mk (ln_mk (ln_mk hl)) (rp_sR (rp_mk (ln_mk hl) rp_new (by decide)) (by decide)) (by decide)) (by decide)) (by decide)) (by decide)) (by decide)) (by decide)) (by decide)) (by decide)) (by decide)) (by decide)) (by decide)) (by decide)) (by decide)) (by decide)) (by decide)) (by decide)) (by decide)) (by decide)) (by decide)) (by decide)) (by decide)) (by decide)) (by decide)) (by decide)) (by decide)) (by decide)) (by decide)) (by decide)) (by decide)) (by decide)) (by decide)) (by decide)) (by decide)) (by decide)) (by decide)) (by decide)) ?_
  refine vc_aload_n dX12_init_214 rfl ?_
  refine vc_getR dX12_init_215 flX12_13 (sh_mk (sh_mk (sh_mk (sh_mk (sh_mk (sh_mk (sh_mk (sh_mk (sh_mk (sh_mk (sh_mk (sh_mk (sh_mk (sh_mk (sh_mk (sh_mk (sh_mk (sh_mk (sh_mk (sh_mk hk)))))))))))))))))))) rfl (rp_sR (rp_mk (ln_mk (ln_mk (ln_mk (ln_mk (ln_mk (ln_mk (ln_mk (ln_mk (ln_mk (ln_mk (ln_mk (ln_mk (ln_mk (ln_mk (ln_mk (ln_mk (ln_mk (ln_mk (ln_mk hl))))))))))))))))))) (rp_sR (rp_mk (ln_mk (ln_mk (ln_mk (ln_mk (ln_mk (ln_mk (ln_mk (ln_mk (ln_mk (ln_mk (ln_mk (ln_mk (ln_mk (ln_mk (ln_mk (ln_mk (ln_mk (ln_mk hl)))))))))))))))))) (rp_sR (rp_mk (ln_mk (ln_mk (ln_mk (ln_mk (ln_mk (ln_mk (ln_mk (ln_mk (ln_mk (ln_mk (ln_mk (ln_mk (ln_mk (ln_mk (ln_mk (ln_mk (ln_mk hl))))))))))))))))) (rp_sR (rp_mk (ln_mk (ln_mk (ln_mk (ln_mk (ln_mk (ln_mk (ln_mk (ln_mk (ln_mk (ln_mk (ln_mk (ln_mk (ln_mk (ln_mk (ln_mk (ln_mk hl)))))))))))))))) (rp_sR (rp_mk (ln_mk (ln_mk (ln_mk (ln_mk (ln_mk (ln_mk (ln_mk (ln_mk (ln_mk (ln_mk (ln_mk (ln_mk (ln_mk (ln_mk (ln_mk hl))))))))))))))) (rp_sR (rp_mk (ln_mk (ln_mk (ln_mk (ln_mk (ln_mk (ln_mk (ln_mk (ln_mk (ln_mk (ln_mk (ln_mk (ln_mk (ln_mk (ln_mk hl)))))))))))))) (rp_sR (rp_mk (ln_mk (ln_mk (ln_mk (ln_mk (ln_mk (ln_mk (ln_mk (ln_mk (ln_mk (ln_mk (ln_mk (ln_mk (ln_mk hl))))))))))))) (rp_sR (rp_mk (ln_mk (ln_mk (ln_mk (ln_mk (ln_mk (ln_mk (ln_mk (ln_mk (ln_mk (ln_mk (ln_mk (ln_mk hl)))))))))))) (rp_sR (rp_mk (ln_mk (ln_mk (ln_mk (ln_mk (ln_mk (ln_mk (ln_mk (ln_mk (ln_mk (ln_mk (ln_mk hl))))))))))) (rp_sR (rp_mk (ln_mk (ln_mk (ln_mk (ln_mk (ln_mk (ln_mk (ln_mk (ln_mk (ln_mk (ln_mk hl)))))))))) (rp_sR (rp_mk (ln_mk (ln_mk (ln_mk (ln_mk (ln_mk (ln_mk (ln_mk (ln_mk (ln_mk hl))))))))) (rp_sR (rp_mk (ln_mk (ln_mk (ln_mk (ln_mk (ln_mk (ln_mk (ln_mk (ln_mk hl)))))))) (rp_sR (rp_mk (ln_mk (ln_mk (ln_mk (ln_mk (ln_mk (ln_mk (ln_mk hl))))))) (rp_sR (rp_mk (ln_mk (ln_mk (ln_mk (ln_mk (ln_mk (ln_mk hl)))))) (rp_sR (rp_mk (ln_mk (ln_mk (ln_mk (ln_mk (ln_mk hl))))) (rp_sR (rp_mk (ln_mk (ln_mk (ln_mk (ln_mk hl)))) (rp_sR (rp_mk (ln_mk (ln_mk (ln_mk hl))) (rp_sR (rp_mk (ln_mk (ln_mk hl)) rp_new (by decide)) (by decide)) (by decide)) (by decide)) (by decide)) (by decide)) (by decide)) (by decide)) (by decide)) (by decide)) (by decide)) (by decide)) (by decide)) (by decide)) (by decide)) (by decide)) (by decide)) (by decide)) (by decide)) (by decide)) (by decide)) (by decide)) (by decide)) (by decide)) (by decide)) (by decide)) (by decide)) (by decide)) (by decide)) (by decide)) (by decide)) (by decide)) (by decide)) (by decide)) (by decide)) (by decide)) ?_
  refine vc_callSU dX12_init_218 (qX12_copy_i (M := (sI (sI (sI (sI (sR (mkC (sR (mkC (sR (mkC (sR (mkC (sR (mkC (sR (mkC (sR (mkC (sR (mkC (sR (mkC (sR (mkC (sR (mkC (sR (mkC (sR (mkC (sR (mkC (sR (mkC (sI (sI (sR (mkC (sR (mkC (sR (mkC (sR (mkC (sR (mkC M (.inr (0, 589))) 54 0 (some 55)) (.inr (0, 589))) 54 1 (some 56)) (.inr (0, 3492))) 54 2 (some 57)) (.inr (0, 8))) 54 3 (some 58)) (.inr (0, 300))) 54 5 (some 59)) 54 7 (-1)) 54 8 (-1)) (.inr (0, 160))) 54 17 (some 60)) (.inr (0, 9))) 54 22 (some 61)) (.inr (1, 330))) 54 23 (some 62)) (.inr (0, 8))) 54 31 (some 63)) (.inr (0, 8))) 54 33 (some 64)) (.inr (0, 8))) 54 34 (some 65)) (.inr (1, 16))) 54 35 (some 66)) (.inr (0, 8))) 54 37 (some 67)) (.inr (0, 256))) 54 38 (some 68)) (.inr (2, 16))) 54 39 (some 69)) (.inr (0, 5))) 54 40 (some 70)) (.inr (0, 5))) 54 41 (some 71)) (.inr (0, 5))) 54 42 (some 72)) (.inr (0, 16))) 54 45 (some 73)) (.inr (0, 16))) 54 46 (some 74)) 55 1 (-1)) 55 4 29) 55 6 (-1)) 55 256 (-1))) (sh_mk (sh_mk (sh_mk (sh_mk (sh_mk (sh_mk (sh_mk (sh_mk (sh_mk (sh_mk (sh_mk (sh_mk (sh_mk (sh_mk (sh_mk (sh_mk (sh_mk (sh_mk (sh_mk (sh_nw hl)))))))))))))))))))) (sh_mk (sh_mk (sh_mk (sh_mk (sh_mk (sh_mk (sh_mk (sh_mk (sh_mk (sh_mk (sh_mk (sh_mk (sh_mk (sh_mk (sh_mk (sh_mk (sh_mk (sh_mk (sh_nw (ln_mk hl))))))))))))))))))))) rfl okX12_copy stX12_copy lkX12_79 rfl (Nat.le_of_ble_eq_true rfl) ⟨rfl, rfl⟩ (Nat.le_of_ble_eq_true rfl) (Nat.le_of_ble_eq_true rfl) (Nat.le_of_ble_eq_true rfl) ?_
  refine vc_vret dX12_init_221 rfl (Nat.le_of_ble_eq_true rfl) (Nat.le_of_ble_eq_true rfl) ?_
  exact ⟨rfl, rfl⟩
theorem lX12_init {M : Mem} (hl : M.1.length = 55) : (gX12_init M).1.length = 75 := (ln_mk (ln_mk (ln_mk (ln_mk (ln_mk (ln_mk (ln_mk (ln_mk (ln_mk (ln_mk (ln_mk (ln_mk (ln_mk (ln_mk (ln_mk (ln_mk (ln_mk (ln_mk (ln_mk (ln_mk hl))))))))))))))))))))
theorem xX12_init {M : Mem} {k : Nat} {x : Sh} (h : M.1[k]? = some x) : (gX12_init M).1[k]? = some x := (sh_mk (sh_mk (sh_mk (sh_mk (sh_mk (sh_mk (sh_mk (sh_mk (sh_mk (sh_mk (sh_mk (sh_mk (sh_mk (sh_mk (sh_mk (sh_mk (sh_mk (sh_mk (sh_mk (sh_mk h))))))))))))))))))))
