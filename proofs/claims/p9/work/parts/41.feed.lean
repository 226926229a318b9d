/-! FEED (written by wip/whole/p41.py) -/
def gX11_putBytes (M : Mem) (v : Int) : Mem := (sI (sI (sI (sI (sI (sI (sI (sI M 21 ((mI M 0 13).toNat) ((v / 16777216) % 256)) 0 13 ((mI M 0 13) + 1)) 21 (((mI M 0 13) + 1).toNat) ((v / 65536) % 256)) 0 13 (((mI M 0 13) + 1) + 1)) 21 ((((mI M 0 13) + 1) + 1).toNat) ((v / 256) % 256)) 0 13 ((((mI M 0 13) + 1) + 1) + 1)) 21 (((((mI M 0 13) + 1) + 1) + 1).toNat) ((v / 1) % 256)) 0 13 (((((mI M 0 13) + 1) + 1) + 1) + 1))
set_option maxRecDepth 4000 in
theorem qX11_putBytes {l : Launch} {M : Mem} (hS : St M) (hf : 0 ≤ mI M 0 13 ∧ mI M 0 13 ≤ 296) (v : Int) : Fn l mdX11_putBytes [aR 0, aI v] M none (gX11_putBytes M v) := by
  refine Call.of [some (aR 0), some (aI v), none] rfl (Nat.le_of_ble_eq_true rfl) rfl ?_
  refine vc_bipush dX11_putBytes_0 rfl ?_
  refine vc_istore_n dX11_putBytes_2 (by decide) rfl (show _ = [some (aR 0), some (aI v), some (aI 24)] from rfl) ?_
  refine vc_iload_n dX11_putBytes_3 rfl ?_
  refine vc_if_lt dX11_putBytes_4 (fun h1 => by exfalso; omega) (fun h1 => ?_)
  refine vc_aload_n dX11_putBytes_7 rfl ?_
  refine vc_getI dX11_putBytes_8 flX11_103 (s_0 hS) rfl ?_
  refine vc_sipush dX11_putBytes_11 rfl ?_
  refine vc_icmp_ge dX11_putBytes_14 (fun h2 => by exfalso; omega) (fun h2 => ?_)
  refine vc_aload_n dX11_putBytes_17 rfl ?_
  refine vc_getR dX11_putBytes_18 flX11_29 (s_0 hS) rfl (r_0_4 hS) ?_
  refine vc_aload_n dX11_putBytes_21 rfl ?_
  refine vc_getI dX11_putBytes_22 flX11_103 (s_0 hS) rfl ?_
  refine vc_iload_n dX11_putBytes_25 rfl ?_
  refine vc_iload_n dX11_putBytes_26 rfl ?_
  refine vc_ishrC dX11_putBytes_27 16777216 24 rfl (by decide) rfl ?_
  refine vc_sipush dX11_putBytes_28 rfl ?_
  refine vc_iandM dX11_putBytes_31 256 8 rfl (by decide) rfl ?_
  refine vc_iastore dX11_putBytes_32 (s_21 hS) (by omega) (by omega) ?_
  refine vc_aload_n dX11_putBytes_33 rfl ?_
  refine vc_dup dX11_putBytes_34 rfl ?_
  refine vc_getI dX11_putBytes_35 flX11_103 (s_0 (St.I hS _ _ _)) rfl ?_
  refine vc_topI (mI M 0 13) rfl ?_
  refine vc_iconst dX11_putBytes_38 rfl ?_
  refine vc_iaddE dX11_putBytes_39 (by omega) (by omega) ?_
  refine vc_putI dX11_putBytes_40 (plX11_103 _ rfl) (s_0 (St.I hS _ _ _)) rfl ?_
  refine vc_iincE dX11_putBytes_43 rfl (by omega) (by omega) (by decide) rfl (show _ = [some (aR 0), some (aI v), some (aI 16)] from rfl) ?_
  refine vc_goto dX11_putBytes_46 ?_
  refine vc_iload_n dX11_putBytes_3 rfl ?_
  refine vc_if_lt dX11_putBytes_4 (fun h3 => by exfalso; omega) (fun h3 => ?_)
  refine vc_aload_n dX11_putBytes_7 rfl ?_
  refine vc_getI dX11_putBytes_8 flX11_103 (s_0 (St.I (St.I hS _ _ _) _ _ _)) rfl ?_
  refine vc_topI ((mI M 0 13) + 1) rfl ?_
  refine vc_sipush dX11_putBytes_11 rfl ?_
  refine vc_icmp_ge dX11_putBytes_14 (fun h4 => by exfalso; omega) (fun h4 => ?_)
  refine vc_aload_n dX11_putBytes_17 rfl ?_
  refine vc_getR dX11_putBytes_18 flX11_29 (s_0 (St.I (St.I hS _ _ _) _ _ _)) rfl (r_0_4 (St.I (St.I hS _ _ _) _ _ _)) ?_
  refine vc_aload_n dX11_putBytes_21 rfl ?_
  refine vc_getI dX11_putBytes_22 flX11_103 (s_0 (St.I (St.I hS _ _ _) _ _ _)) rfl ?_
  refine vc_topI ((mI M 0 13) + 1) rfl ?_
  refine vc_iload_n dX11_putBytes_25 rfl ?_
  refine vc_iload_n dX11_putBytes_26 rfl ?_
  refine vc_ishrC dX11_putBytes_27 65536 16 rfl (by decide) rfl ?_
  refine vc_sipush dX11_putBytes_28 rfl ?_
  refine vc_iandM dX11_putBytes_31 256 8 rfl (by decide) rfl ?_
  refine vc_iastore dX11_putBytes_32 (s_21 (St.I (St.I hS _ _ _) _ _ _)) (by omega) (by omega) ?_
  refine vc_aload_n dX11_putBytes_33 rfl ?_
  refine vc_dup dX11_putBytes_34 rfl ?_
  refine vc_getI dX11_putBytes_35 flX11_103 (s_0 (St.I (St.I (St.I hS _ _ _) _ _ _) _ _ _)) rfl ?_
  refine vc_topI ((mI M 0 13) + 1) rfl ?_
  refine vc_iconst dX11_putBytes_38 rfl ?_
  refine vc_iaddE dX11_putBytes_39 (by omega) (by omega) ?_
  refine vc_putI dX11_putBytes_40 (plX11_103 _ rfl) (s_0 (St.I (St.I (St.I hS _ _ _) _ _ _) _ _ _)) rfl ?_
  refine vc_iincE dX11_putBytes_43 rfl (by omega) (by omega) (by decide) rfl (show _ = [some (aR 0), some (aI v), some (aI 8)] from rfl) ?_
  refine vc_goto dX11_putBytes_46 ?_
  refine vc_iload_n dX11_putBytes_3 rfl ?_
  refine vc_if_lt dX11_putBytes_4 (fun h5 => by exfalso; omega) (fun h5 => ?_)
  refine vc_aload_n dX11_putBytes_7 rfl ?_
  refine vc_getI dX11_putBytes_8 flX11_103 (s_0 (St.I (St.I (St.I (St.I hS _ _ _) _ _ _) _ _ _) _ _ _)) rfl ?_
  refine vc_topI (((mI M 0 13) + 1) + 1) rfl ?_
  refine vc_sipush dX11_putBytes_11 rfl ?_
  refine vc_icmp_ge dX11_putBytes_14 (fun h6 => by exfalso; omega) (fun h6 => ?_)
  refine vc_aload_n dX11_putBytes_17 rfl ?_
  refine vc_getR dX11_putBytes_18 flX11_29 (s_0 (St.I (St.I (St.I (St.I hS _ _ _) _ _ _) _ _ _) _ _ _)) rfl (r_0_4 (St.I (St.I (St.I (St.I hS _ _ _) _ _ _) _ _ _) _ _ _)) ?_
  refine vc_aload_n dX11_putBytes_21 rfl ?_
  refine vc_getI dX11_putBytes_22 flX11_103 (s_0 (St.I (St.I (St.I (St.I hS _ _ _) _ _ _) _ _ _) _ _ _)) rfl ?_
  refine vc_topI (((mI M 0 13) + 1) + 1) rfl ?_
  refine vc_iload_n dX11_putBytes_25 rfl ?_
  refine vc_iload_n dX11_putBytes_26 rfl ?_
  refine vc_ishrC dX11_putBytes_27 256 8 rfl (by decide) rfl ?_
  refine vc_sipush dX11_putBytes_28 rfl ?_
  refine vc_iandM dX11_putBytes_31 256 8 rfl (by decide) rfl ?_
  refine vc_iastore dX11_putBytes_32 (s_21 (St.I (St.I (St.I (St.I hS _ _ _) _ _ _) _ _ _) _ _ _)) (by omega) (by omega) ?_
  refine vc_aload_n dX11_putBytes_33 rfl ?_
  refine vc_dup dX11_putBytes_34 rfl ?_
  refine vc_getI dX11_putBytes_35 flX11_103 (s_0 (St.I (St.I (St.I (St.I (St.I hS _ _ _) _ _ _) _ _ _) _ _ _) _ _ _)) rfl ?_
  refine vc_topI (((mI M 0 13) + 1) + 1) rfl ?_
  refine vc_iconst dX11_putBytes_38 rfl ?_
  refine vc_iaddE dX11_putBytes_39 (by omega) (by omega) ?_
  refine vc_putI dX11_putBytes_40 (plX11_103 _ rfl) (s_0 (St.I (St.I (St.I (St.I (St.I hS _ _ _) _ _ _) _ _ _) _ _ _) _ _ _)) rfl ?_
  refine vc_iincE dX11_putBytes_43 rfl (by omega) (by omega) (by decide) rfl (show _ = [some (aR 0), some (aI v), some (aI 0)] from rfl) ?_
  refine vc_goto dX11_putBytes_46 ?_
  refine vc_iload_n dX11_putBytes_3 rfl ?_
  refine vc_if_lt dX11_putBytes_4 (fun h7 => by exfalso; omega) (fun h7 => ?_)
  refine vc_aload_n dX11_putBytes_7 rfl ?_
  refine vc_getI dX11_putBytes_8 flX11_103 (s_0 (St.I (St.I (St.I (St.I (St.I (St.I hS _ _ _) _ _ _) _ _ _) _ _ _) _ _ _) _ _ _)) rfl ?_
  refine vc_topI ((((mI M 0 13) + 1) + 1) + 1) rfl ?_
  refine vc_sipush dX11_putBytes_11 rfl ?_
  refine vc_icmp_ge dX11_putBytes_14 (fun h8 => by exfalso; omega) (fun h8 => ?_)
  refine vc_aload_n dX11_putBytes_17 rfl ?_
  refine vc_getR dX11_putBytes_18 flX11_29 (s_0 (St.I (St.I (St.I (St.I (St.I (St.I hS _ _ _) _ _ _) _ _ _) _ _ _) _ _ _) _ _ _)) rfl (r_0_4 (St.I (St.I (St.I (St.I (St.I (St.I hS _ _ _) _ _ _) _ _ _) _ _ _) _ _ _) _ _ _)) ?_
  refine vc_aload_n dX11_putBytes_21 rfl ?_
  refine vc_getI dX11_putBytes_22 flX11_103 (s_0 (St.I (St.I (St.I (St.I (St.I (St.I hS _ _ _) _ _ _) _ _ _) _ _ _) _ _ _) _ _ _)) rfl ?_
  refine vc_topI ((((mI M 0 13) + 1) + 1) + 1) rfl ?_
  refine vc_iload_n dX11_putBytes_25 rfl ?_
  refine vc_iload_n dX11_putBytes_26 rfl ?_
  refine vc_ishrC dX11_putBytes_27 1 0 rfl (by decide) rfl ?_
  refine vc_sipush dX11_putBytes_28 rfl ?_
  refine vc_iandM dX11_putBytes_31 256 8 rfl (by decide) rfl ?_
  refine vc_iastore dX11_putBytes_32 (s_21 (St.I (St.I (St.I (St.I (St.I (St.I hS _ _ _) _ _ _) _ _ _) _ _ _) _ _ _) _ _ _)) (by omega) (by omega) ?_
  refine vc_aload_n dX11_putBytes_33 rfl ?_
  refine vc_dup dX11_putBytes_34 rfl ?_
  refine vc_getI dX11_putBytes_35 flX11_103 (s_0 (St.I (St.I (St.I (St.I (St.I (St.I (St.I hS _ _ _) _ _ _) _ _ _) _ _ _) _ _ _) _ _ _) _ _ _)) rfl ?_
  refine vc_topI ((((mI M 0 13) + 1) + 1) + 1) rfl ?_
  refine vc_iconst dX11_putBytes_38 rfl ?_
  refine vc_iaddE dX11_putBytes_39 (by omega) (by omega) ?_
  refine vc_putI dX11_putBytes_40 (plX11_103 _ rfl) (s_0 (St.I (St.I (St.I (St.I (St.I (St.I (St.I hS _ _ _) _ _ _) _ _ _) _ _ _) _ _ _) _ _ _) _ _ _)) rfl ?_
  refine vc_iincE dX11_putBytes_43 rfl (by omega) (by omega) (by decide) rfl (show _ = [some (aR 0), some (aI v), some (aI (-8))] from rfl) ?_
  refine vc_goto dX11_putBytes_46 ?_
  refine vc_iload_n dX11_putBytes_3 rfl ?_
  refine vc_if_lt dX11_putBytes_4 (fun h9 => ?_) (fun h9 => by exfalso; omega)
  refine vc_vret dX11_putBytes_49 rfl (Nat.le_of_ble_eq_true rfl) (Nat.le_of_ble_eq_true rfl) ?_
  exact ⟨rfl, rfl⟩
theorem tX11_putBytes {M : Mem} (hS : St M) (v : Int) : St (gX11_putBytes M v) := by
  unfold gX11_putBytes
  all_goals first | exact (St.I (St.I (St.I (St.I (St.I (St.I (St.I (St.I hS _ _ _) _ _ _) _ _ _) _ _ _) _ _ _) _ _ _) _ _ _) _ _ _)

def gX12_four (M : Mem) (v : Int) : Mem := (sI (sI (sI (sI (sI (sI (sI (sI M 59 ((mI M 54 6).toNat) ((v / 16777216) % 256)) 54 6 ((mI M 54 6) + 1)) 59 (((mI M 54 6) + 1).toNat) ((v / 65536) % 256)) 54 6 (((mI M 54 6) + 1) + 1)) 59 ((((mI M 54 6) + 1) + 1).toNat) ((v / 256) % 256)) 54 6 ((((mI M 54 6) + 1) + 1) + 1)) 59 (((((mI M 54 6) + 1) + 1) + 1).toNat) ((v / 1) % 256)) 54 6 (((((mI M 54 6) + 1) + 1) + 1) + 1))
set_option maxRecDepth 4000 in
theorem qX12_four {l : Launch} {M : Mem} (hS : St M) (hp : 0 ≤ mI M 54 6 ∧ mI M 54 6 ≤ 296) (v : Int) : Fn l mdX12_four [aR 54, aI v] M none (gX12_four M v) := by
  refine Call.of [some (aR 54), some (aI v), none] rfl (Nat.le_of_ble_eq_true rfl) rfl ?_
  refine vc_bipush dX12_four_0 rfl ?_
  refine vc_istore_n dX12_four_2 (by decide) rfl (show _ = [some (aR 54), some (aI v), some (aI 24)] from rfl) ?_
  refine vc_iload_n dX12_four_3 rfl ?_
  refine vc_if_lt dX12_four_4 (fun h1 => by exfalso; omega) (fun h1 => ?_)
  refine vc_aload_n dX12_four_7 rfl ?_
  refine vc_getR dX12_four_8 flX12_22 (s_54 hS) rfl (r_54_5 hS) ?_
  refine vc_aload_n dX12_four_11 rfl ?_
  refine vc_getI dX12_four_12 flX12_112 (s_54 hS) rfl ?_
  refine vc_iload_n dX12_four_15 rfl ?_
  refine vc_iload_n dX12_four_16 rfl ?_
  refine vc_ishrC dX12_four_17 16777216 24 rfl (by decide) rfl ?_
  refine vc_sipush dX12_four_18 rfl ?_
  refine vc_iandM dX12_four_21 256 8 rfl (by decide) rfl ?_
  refine vc_iastore dX12_four_22 (s_59 hS) (by omega) (by omega) ?_
  refine vc_aload_n dX12_four_23 rfl ?_
  refine vc_dup dX12_four_24 rfl ?_
  refine vc_getI dX12_four_25 flX12_112 (s_54 (St.I hS _ _ _)) rfl ?_
  refine vc_topI (mI M 54 6) rfl ?_
  refine vc_iconst dX12_four_28 rfl ?_
  refine vc_iaddE dX12_four_29 (by omega) (by omega) ?_
  refine vc_putI dX12_four_30 (plX12_112 _ rfl) (s_54 (St.I hS _ _ _)) rfl ?_
  refine vc_iincE dX12_four_33 rfl (by omega) (by omega) (by decide) rfl (show _ = [some (aR 54), some (aI v), some (aI 16)] from rfl) ?_
  refine vc_goto dX12_four_36 ?_
  refine vc_iload_n dX12_four_3 rfl ?_
  refine vc_if_lt dX12_four_4 (fun h2 => by exfalso; omega) (fun h2 => ?_)
  refine vc_aload_n dX12_four_7 rfl ?_
  refine vc_getR dX12_four_8 flX12_22 (s_54 (St.I (St.I hS _ _ _) _ _ _)) rfl (r_54_5 (St.I (St.I hS _ _ _) _ _ _)) ?_
  refine vc_aload_n dX12_four_11 rfl ?_
  refine vc_getI dX12_four_12 flX12_112 (s_54 (St.I (St.I hS _ _ _) _ _ _)) rfl ?_
  refine vc_topI ((mI M 54 6) + 1) rfl ?_
  refine vc_iload_n dX12_four_15 rfl ?_
  refine vc_iload_n dX12_four_16 rfl ?_
  refine vc_ishrC dX12_four_17 65536 16 rfl (by decide) rfl ?_
  refine vc_sipush dX12_four_18 rfl ?_
  refine vc_iandM dX12_four_21 256 8 rfl (by decide) rfl ?_
  refine vc_iastore dX12_four_22 (s_59 (St.I (St.I hS _ _ _) _ _ _)) (by omega) (by omega) ?_
  refine vc_aload_n dX12_four_23 rfl ?_
  refine vc_dup dX12_four_24 rfl ?_
  refine vc_getI dX12_four_25 flX12_112 (s_54 (St.I (St.I (St.I hS _ _ _) _ _ _) _ _ _)) rfl ?_
  refine vc_topI ((mI M 54 6) + 1) rfl ?_
  refine vc_iconst dX12_four_28 rfl ?_
  refine vc_iaddE dX12_four_29 (by omega) (by omega) ?_
  refine vc_putI dX12_four_30 (plX12_112 _ rfl) (s_54 (St.I (St.I (St.I hS _ _ _) _ _ _) _ _ _)) rfl ?_
  refine vc_iincE dX12_four_33 rfl (by omega) (by omega) (by decide) rfl (show _ = [some (aR 54), some (aI v), some (aI 8)] from rfl) ?_
  refine vc_goto dX12_four_36 ?_
  refine vc_iload_n dX12_four_3 rfl ?_
  refine vc_if_lt dX12_four_4 (fun h3 => by exfalso; omega) (fun h3 => ?_)
  refine vc_aload_n dX12_four_7 rfl ?_
  refine vc_getR dX12_four_8 flX12_22 (s_54 (St.I (St.I (St.I (St.I hS _ _ _) _ _ _) _ _ _) _ _ _)) rfl (r_54_5 (St.I (St.I (St.I (St.I hS _ _ _) _ _ _) _ _ _) _ _ _)) ?_
  refine vc_aload_n dX12_four_11 rfl ?_
  refine vc_getI dX12_four_12 flX12_112 (s_54 (St.I (St.I (St.I (St.I hS _ _ _) _ _ _) _ _ _) _ _ _)) rfl ?_
  refine vc_topI (((mI M 54 6) + 1) + 1) rfl ?_
  refine vc_iload_n dX12_four_15 rfl ?_
  refine vc_iload_n dX12_four_16 rfl ?_
  refine vc_ishrC dX12_four_17 256 8 rfl (by decide) rfl ?_
  refine vc_sipush dX12_four_18 rfl ?_
  refine vc_iandM dX12_four_21 256 8 rfl (by decide) rfl ?_
  refine vc_iastore dX12_four_22 (s_59 (St.I (St.I (St.I (St.I hS _ _ _) _ _ _) _ _ _) _ _ _)) (by omega) (by omega) ?_
  refine vc_aload_n dX12_four_23 rfl ?_
  refine vc_dup dX12_four_24 rfl ?_
  refine vc_getI dX12_four_25 flX12_112 (s_54 (St.I (St.I (St.I (St.I (St.I hS _ _ _) _ _ _) _ _ _) _ _ _) _ _ _)) rfl ?_
  refine vc_topI (((mI M 54 6) + 1) + 1) rfl ?_
  refine vc_iconst dX12_four_28 rfl ?_
  refine vc_iaddE dX12_four_29 (by omega) (by omega) ?_
  refine vc_putI dX12_four_30 (plX12_112 _ rfl) (s_54 (St.I (St.I (St.I (St.I (St.I hS _ _ _) _ _ _) _ _ _) _ _ _) _ _ _)) rfl ?_
  refine vc_iincE dX12_four_33 rfl (by omega) (by omega) (by decide) rfl (show _ = [some (aR 54), some (aI v), some (aI 0)] from rfl) ?_
  refine vc_goto dX12_four_36 ?_
  refine vc_iload_n dX12_four_3 rfl ?_
  refine vc_if_lt dX12_four_4 (fun h4 => by exfalso; omega) (fun h4 => ?_)
  refine vc_aload_n dX12_four_7 rfl ?_
  refine vc_getR dX12_four_8 flX12_22 (s_54 (St.I (St.I (St.I (St.I (St.I (St.I hS _ _ _) _ _ _) _ _ _) _ _ _) _ _ _) _ _ _)) rfl (r_54_5 (St.I (St.I (St.I (St.I (St.I (St.I hS _ _ _) _ _ _) _ _ _) _ _ _) _ _ _) _ _ _)) ?_
  refine vc_aload_n dX12_four_11 rfl ?_
  refine vc_getI dX12_four_12 flX12_112 (s_54 (St.I (St.I (St.I (St.I (St.I (St.I hS _ _ _) _ _ _) _ _ _) _ _ _) _ _ _) _ _ _)) rfl ?_
  refine vc_topI ((((mI M 54 6) + 1) + 1) + 1) rfl ?_
  refine vc_iload_n dX12_four_15 rfl ?_
  refine vc_iload_n dX12_four_16 rfl ?_
  refine vc_ishrC dX12_four_17 1 0 rfl (by decide) rfl ?_
  refine vc_sipush dX12_four_18 rfl ?_
  refine vc_iandM dX12_four_21 256 8 rfl (by decide) rfl ?_
  refine vc_iastore dX12_four_22 (s_59 (St.I (St.I (St.I (St.I (St.I (St.I hS _ _ _) _ _ _) _ _ _) _ _ _) _ _ _) _ _ _)) (by omega) (by omega) ?_
  refine vc_aload_n dX12_four_23 rfl ?_
  refine vc_dup dX12_four_24 rfl ?_
  refine vc_getI dX12_four_25 flX12_112 (s_54 (St.I (St.I (St.I (St.I (St.I (St.I (St.I hS _ _ _) _ _ _) _ _ _) _ _ _) _ _ _) _ _ _) _ _ _)) rfl ?_
  refine vc_topI ((((mI M 54 6) + 1) + 1) + 1) rfl ?_
  refine vc_iconst dX12_four_28 rfl ?_
  refine vc_iaddE dX12_four_29 (by omega) (by omega) ?_
  refine vc_putI dX12_four_30 (plX12_112 _ rfl) (s_54 (St.I (St.I (St.I (St.I (St.I (St.I (St.I hS _ _ _) _ _ _) _ _ _) _ _ _) _ _ _) _ _ _) _ _ _)) rfl ?_
  refine vc_iincE dX12_four_33 rfl (by omega) (by omega) (by decide) rfl (show _ = [some (aR 54), some (aI v), some (aI (-8))] from rfl) ?_
  refine vc_goto dX12_four_36 ?_
  refine vc_iload_n dX12_four_3 rfl ?_
  refine vc_if_lt dX12_four_4 (fun h5 => ?_) (fun h5 => by exfalso; omega)
  refine vc_vret dX12_four_39 rfl (Nat.le_of_ble_eq_true rfl) (Nat.le_of_ble_eq_true rfl) ?_
  exact ⟨rfl, rfl⟩
theorem tX12_four {M : Mem} (hS : St M) (v : Int) : St (gX12_four M v) := by
  unfold gX12_four
  all_goals first | exact (St.I (St.I (St.I (St.I (St.I (St.I (St.I (St.I hS _ _ _) _ _ _) _ _ _) _ _ _) _ _ _) _ _ _) _ _ _) _ _ _)

theorem pb_fed (M : Mem) (v : Int) : mI (gX11_putBytes M v) 0 13 = mI M 0 13 + 4 := by show mI M 0 13 + 1 + 1 + 1 + 1 = _; omega
theorem fo_fed (M : Mem) (v : Int) : mI (gX12_four M v) 54 6 = mI M 54 6 + 4 := by show mI M 54 6 + 1 + 1 + 1 + 1 = _; omega
def gX11_feed (M : Mem) (a b c d e : Int) : Mem := if 280 < mI M 0 13 then M else gX11_putBytes (gX11_putBytes (gX11_putBytes (gX11_putBytes (gX11_putBytes M a) b) c) d) e
def fX11_feed (M : Mem) (a b c d e : Int) : Int := if 280 < mI M 0 13 then -1 else mI M 0 13 + 20
set_option maxRecDepth 4000 in
theorem qX11_feed {l : Launch} {M : Mem} (hS : St M) (hf : 0 ≤ mI M 0 13 ∧ mI M 0 13 ≤ 300) (a b c d e : Int) : Fn l mdX11_feed [aR 0, aI a, aI b, aI c, aI d, aI e] M (some (aI (fX11_feed M a b c d e))) (gX11_feed M a b c d e) := by
  refine Call.of [some (aR 0), some (aI a), some (aI b), some (aI c), some (aI d), some (aI e)] rfl (Nat.le_of_ble_eq_true rfl) rfl ?_
  refine vc_aload_n dX11_feed_0 rfl ?_
  refine vc_getI dX11_feed_1 flX11_103 (s_0 hS) rfl ?_
  refine vc_bipush dX11_feed_4 rfl ?_
  refine vc_iaddE dX11_feed_6 (by omega) (by omega) ?_
  refine vc_sipush dX11_feed_7 rfl ?_
  refine vc_icmp_le dX11_feed_10 (fun h1 => ?_) (fun h1 => ?_)
  · refine vc_aload_n dX11_feed_15 rfl ?_
    refine vc_iload_n dX11_feed_16 rfl ?_
    refine vc_callVU dX11_feed_17 (qX11_putBytes (M := M) hS (by omega) a) rfl okX11_putBytes viX11_putBytes lkX11_132 (s_0 hS) cl_11 rfl (Nat.le_of_ble_eq_true rfl) ⟨rfl, rfl⟩ (Nat.le_of_ble_eq_true rfl) (Nat.le_of_ble_eq_true rfl) (Nat.le_of_ble_eq_true rfl) ?_
    refine vc_aload_n dX11_feed_20 rfl ?_
    refine vc_iload_n dX11_feed_21 rfl ?_
    refine vc_callVU dX11_feed_22 (qX11_putBytes (M := (gX11_putBytes M a)) (tX11_putBytes hS a) (by rw [pb_fed]; omega) b) rfl okX11_putBytes viX11_putBytes lkX11_132 (s_0 (tX11_putBytes hS a)) cl_11 rfl (Nat.le_of_ble_eq_true rfl) ⟨rfl, rfl⟩ (Nat.le_of_ble_eq_true rfl) (Nat.le_of_ble_eq_true rfl) (Nat.le_of_ble_eq_true rfl) ?_
    refine vc_aload_n dX11_feed_25 rfl ?_
    refine vc_iload_n dX11_feed_26 rfl ?_
    refine vc_callVU dX11_feed_27 (qX11_putBytes (M := (gX11_putBytes (gX11_putBytes M a) b)) (tX11_putBytes (tX11_putBytes hS a) b) (by rw [pb_fed, pb_fed]; omega) c) rfl okX11_putBytes viX11_putBytes lkX11_132 (s_0 (tX11_putBytes (tX11_putBytes hS a) b)) cl_11 rfl (Nat.le_of_ble_eq_true rfl) ⟨rfl, rfl⟩ (Nat.le_of_ble_eq_true rfl) (Nat.le_of_ble_eq_true rfl) (Nat.le_of_ble_eq_true rfl) ?_
    refine vc_aload_n dX11_feed_30 rfl ?_
    refine vc_iload dX11_feed_31 rfl ?_
    refine vc_callVU dX11_feed_33 (qX11_putBytes (M := (gX11_putBytes (gX11_putBytes (gX11_putBytes M a) b) c)) (tX11_putBytes (tX11_putBytes (tX11_putBytes hS a) b) c) (by rw [pb_fed, pb_fed, pb_fed]; omega) d) rfl okX11_putBytes viX11_putBytes lkX11_132 (s_0 (tX11_putBytes (tX11_putBytes (tX11_putBytes hS a) b) c)) cl_11 rfl (Nat.le_of_ble_eq_true rfl) ⟨rfl, rfl⟩ (Nat.le_of_ble_eq_true rfl) (Nat.le_of_ble_eq_true rfl) (Nat.le_of_ble_eq_true rfl) ?_
    refine vc_aload_n dX11_feed_36 rfl ?_
    refine vc_iload dX11_feed_37 rfl ?_
    refine vc_callVU dX11_feed_39 (qX11_putBytes (M := (gX11_putBytes (gX11_putBytes (gX11_putBytes (gX11_putBytes M a) b) c) d)) (tX11_putBytes (tX11_putBytes (tX11_putBytes (tX11_putBytes hS a) b) c) d) (by rw [pb_fed, pb_fed, pb_fed, pb_fed]; omega) e) rfl okX11_putBytes viX11_putBytes lkX11_132 (s_0 (tX11_putBytes (tX11_putBytes (tX11_putBytes (tX11_putBytes hS a) b) c) d)) cl_11 rfl (Nat.le_of_ble_eq_true rfl) ⟨rfl, rfl⟩ (Nat.le_of_ble_eq_true rfl) (Nat.le_of_ble_eq_true rfl) (Nat.le_of_ble_eq_true rfl) ?_
    refine vc_aload_n dX11_feed_42 rfl ?_
    refine vc_getI dX11_feed_43 flX11_103 (s_0 (tX11_putBytes (tX11_putBytes (tX11_putBytes (tX11_putBytes (tX11_putBytes hS a) b) c) d) e)) rfl ?_
    refine vc_iret dX11_feed_46 rfl (Nat.le_of_ble_eq_true rfl) (Nat.le_of_ble_eq_true rfl) ?_
    have hh : ¬ 280 < mI M 0 13 := by omega
    exact ⟨by show some (aI _) = some (aI (fX11_feed M a b c d e)); rw [fX11_feed, if_neg hh, pb_fed, pb_fed, pb_fed, pb_fed, pb_fed]; congr 2; omega, by show _ = gX11_feed M a b c d e; rw [gX11_feed, if_neg hh]⟩
  · refine vc_iconst dX11_feed_13 rfl ?_
    refine vc_iret dX11_feed_14 rfl (Nat.le_of_ble_eq_true rfl) (Nat.le_of_ble_eq_true rfl) ?_
    have hh : 280 < mI M 0 13 := by omega
    exact ⟨by show some (aI (-1)) = some (aI (fX11_feed M a b c d e)); rw [fX11_feed, if_pos hh], by show _ = gX11_feed M a b c d e; rw [gX11_feed, if_pos hh]⟩
def gX12_feed (M : Mem) (a b c d e : Int) : Mem := if 280 < mI M 54 6 then M else gX12_four (gX12_four (gX12_four (gX12_four (gX12_four M a) b) c) d) e
def fX12_feed (M : Mem) (a b c d e : Int) : Int := if 280 < mI M 54 6 then -1 else mI M 54 6 + 20
set_option maxRecDepth 4000 in
theorem qX12_feed {l : Launch} {M : Mem} (hS : St M) (hf : 0 ≤ mI M 54 6 ∧ mI M 54 6 ≤ 300) (a b c d e : Int) : Fn l mdX12_feed [aR 54, aI a, aI b, aI c, aI d, aI e] M (some (aI (fX12_feed M a b c d e))) (gX12_feed M a b c d e) := by
  refine Call.of [some (aR 54), some (aI a), some (aI b), some (aI c), some (aI d), some (aI e)] rfl (Nat.le_of_ble_eq_true rfl) rfl ?_
  refine vc_aload_n dX12_feed_0 rfl ?_
  refine vc_getI dX12_feed_1 flX12_112 (s_54 hS) rfl ?_
  refine vc_bipush dX12_feed_4 rfl ?_
  refine vc_iaddE dX12_feed_6 (by omega) (by omega) ?_
  refine vc_sipush dX12_feed_7 rfl ?_
  refine vc_icmp_le dX12_feed_10 (fun h1 => ?_) (fun h1 => ?_)
  · refine vc_aload_n dX12_feed_15 rfl ?_
    refine vc_iload_n dX12_feed_16 rfl ?_
    refine vc_callVU dX12_feed_17 (qX12_four (M := M) hS (by omega) a) rfl okX12_four viX12_four lkX12_115 (s_54 hS) cl_12 rfl (Nat.le_of_ble_eq_true rfl) ⟨rfl, rfl⟩ (Nat.le_of_ble_eq_true rfl) (Nat.le_of_ble_eq_true rfl) (Nat.le_of_ble_eq_true rfl) ?_
    refine vc_aload_n dX12_feed_20 rfl ?_
    refine vc_iload_n dX12_feed_21 rfl ?_
    refine vc_callVU dX12_feed_22 (qX12_four (M := (gX12_four M a)) (tX12_four hS a) (by rw [fo_fed]; omega) b) rfl okX12_four viX12_four lkX12_115 (s_54 (tX12_four hS a)) cl_12 rfl (Nat.le_of_ble_eq_true rfl) ⟨rfl, rfl⟩ (Nat.le_of_ble_eq_true rfl) (Nat.le_of_ble_eq_true rfl) (Nat.le_of_ble_eq_true rfl) ?_
    refine vc_aload_n dX12_feed_25 rfl ?_
    refine vc_iload_n dX12_feed_26 rfl ?_
    refine vc_callVU dX12_feed_27 (qX12_four (M := (gX12_four (gX12_four M a) b)) (tX12_four (tX12_four hS a) b) (by rw [fo_fed, fo_fed]; omega) c) rfl okX12_four viX12_four lkX12_115 (s_54 (tX12_four (tX12_four hS a) b)) cl_12 rfl (Nat.le_of_ble_eq_true rfl) ⟨rfl, rfl⟩ (Nat.le_of_ble_eq_true rfl) (Nat.le_of_ble_eq_true rfl) (Nat.le_of_ble_eq_true rfl) ?_
    refine vc_aload_n dX12_feed_30 rfl ?_
    refine vc_iload dX12_feed_31 rfl ?_
    refine vc_callVU dX12_feed_33 (qX12_four (M := (gX12_four (gX12_four (gX12_four M a) b) c)) (tX12_four (tX12_four (tX12_four hS a) b) c) (by rw [fo_fed, fo_fed, fo_fed]; omega) d) rfl okX12_four viX12_four lkX12_115 (s_54 (tX12_four (tX12_four (tX12_four hS a) b) c)) cl_12 rfl (Nat.le_of_ble_eq_true rfl) ⟨rfl, rfl⟩ (Nat.le_of_ble_eq_true rfl) (Nat.le_of_ble_eq_true rfl) (Nat.le_of_ble_eq_true rfl) ?_
    refine vc_aload_n dX12_feed_36 rfl ?_
    refine vc_iload dX12_feed_37 rfl ?_
    refine vc_callVU dX12_feed_39 (qX12_four (M := (gX12_four (gX12_four (gX12_four (gX12_four M a) b) c) d)) (tX12_four (tX12_four (tX12_four (tX12_four hS a) b) c) d) (by rw [fo_fed, fo_fed, fo_fed, fo_fed]; omega) e) rfl okX12_four viX12_four lkX12_115 (s_54 (tX12_four (tX12_four (tX12_four (tX12_four hS a) b) c) d)) cl_12 rfl (Nat.le_of_ble_eq_true rfl) ⟨rfl, rfl⟩ (Nat.le_of_ble_eq_true rfl) (Nat.le_of_ble_eq_true rfl) (Nat.le_of_ble_eq_true rfl) ?_
    refine vc_aload_n dX12_feed_42 rfl ?_
    refine vc_getI dX12_feed_43 flX12_112 (s_54 (tX12_four (tX12_four (tX12_four (tX12_four (tX12_four hS a) b) c) d) e)) rfl ?_
    refine vc_iret dX12_feed_46 rfl (Nat.le_of_ble_eq_true rfl) (Nat.le_of_ble_eq_true rfl) ?_
    have hh : ¬ 280 < mI M 54 6 := by omega
    exact ⟨by show some (aI _) = some (aI (fX12_feed M a b c d e)); rw [fX12_feed, if_neg hh, fo_fed, fo_fed, fo_fed, fo_fed, fo_fed]; congr 2; omega, by show _ = gX12_feed M a b c d e; rw [gX12_feed, if_neg hh]⟩
  · refine vc_iconst dX12_feed_13 rfl ?_
    refine vc_iret dX12_feed_14 rfl (Nat.le_of_ble_eq_true rfl) (Nat.le_of_ble_eq_true rfl) ?_
    have hh : 280 < mI M 54 6 := by omega
    exact ⟨by show some (aI (-1)) = some (aI (fX12_feed M a b c d e)); rw [fX12_feed, if_pos hh], by show _ = gX12_feed M a b c d e; rw [gX12_feed, if_pos hh]⟩
