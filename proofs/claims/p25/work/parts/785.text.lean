/-! TEXT of the class (written by wip/p35/c78.py) -/
set_option maxRecDepth 4000 in
theorem sfX11_text {l : Launch} {M : Mem} (hB : Box M)    : Call l mdX11_text [aR 0] M (fun q N => ∃ r : Int, q = some (aI r) ∧ BX M N) := by
  have hB0 : BX M M := BX.start hB
  refine Call.of [some (aR 0), none] rfl (Nat.le_of_ble_eq_true rfl) rfl ?_
  refine vc_aload_n dX11_text_0 rfl ?_
  refine vc_getR dX11_text_1 flX11_10 (s_0 hB0.1.1) rfl (r_0_0 hB0.1.1) ?_
  refine vc_getI dX11_text_4 flX11_136 (s_1 hB0.1.1) rfl ?_
  have k1 : 0 ≤ mI M 1 10 ∧ mI M 1 10 ≤ 4 := b1_10 (M := M) hB0.1
  refine vc_iconst dX11_text_7 rfl ?_
  refine vc_icmp_lt dX11_text_8 (fun h2 => ?_) (fun h2 => ?_)
  · refine vc_aload_n dX11_text_13 rfl ?_
    refine vc_getR dX11_text_14 flX11_38 (s_0 hB0.1.1) rfl (r_0_5 hB0.1.1) ?_
    refine vc_aload_n dX11_text_17 rfl ?_
    refine vc_getI dX11_text_18 flX11_103 (s_0 hB0.1.1) rfl ?_
    have k3 : 0 ≤ mI M 0 13 ∧ mI M 0 13 ≤ 300 := b0_13 (M := M) hB0.1
    refine vc_cVI dX11_text_21 (sfX4_reads (M := M) hB0.1  (mI M 0 13) (by omega) (by omega)) rfl okX4_reads viX4_reads lkX11_139 (s_22 hB0.1.1) cl_4 rfl (Nat.le_of_ble_eq_true rfl) ⟨rfl, rfl⟩ (Nat.le_of_ble_eq_true rfl) (Nat.le_of_ble_eq_true rfl) (Nat.le_of_ble_eq_true rfl) ?_
    rintro x4 M5 ⟨hB6, h7, h8⟩
    have hB9 : BX M M5 := BX.go hB0 hB6.x
    refine vc_istore_n dX11_text_24 (by decide) rfl (show _ = [some (aR 0), some (aI x4)] from rfl) ?_
    refine vc_aload_n dX11_text_25 rfl ?_
    refine vc_iconst dX11_text_26 rfl ?_
    refine vc_putI dX11_text_27 (plX11_103 _ rfl) (s_0 hB9.1.1) rfl ?_
    have hB10 : BX M (sI M5 0 13 0) := BX.w0_13 hB9 (by omega) (by omega)
    refine vc_aload_n dX11_text_30 rfl ?_
    refine vc_aload_n dX11_text_31 rfl ?_
    refine vc_getR dX11_text_32 flX11_38 (s_0 hB10.1.1) rfl (r_0_5 hB10.1.1) ?_
    refine vc_getI dX11_text_35 flX11_142 (s_22 hB10.1.1) rfl ?_
    refine vc_topI (mI M5 22 7) rfl ?_
    refine vc_putI dX11_text_38 (plX11_107 _ rfl) (s_0 hB10.1.1) rfl ?_
    have hB11 : BX M (sI (sI M5 0 13 0) 0 14 (mI M5 22 7)) := BX.w0_14 hB10
    refine vc_aload_n dX11_text_41 rfl ?_
    refine vc_aload_n dX11_text_42 rfl ?_
    refine vc_getR dX11_text_43 flX11_38 (s_0 hB11.1.1) rfl (r_0_5 hB11.1.1) ?_
    refine vc_getI dX11_text_46 flX11_145 (s_22 hB11.1.1) rfl ?_
    refine vc_topI (mI M5 22 8) rfl ?_
    refine vc_putI dX11_text_49 (plX11_110 _ rfl) (s_0 hB11.1.1) rfl ?_
    have hB12 : BX M (sI (sI (sI M5 0 13 0) 0 14 (mI M5 22 7)) 0 15 (mI M5 22 8)) := BX.w0_15 hB11
    refine vc_iload_n dX11_text_52 rfl ?_
    refine vc_if_eq dX11_text_53 (fun h13 => ?_) (fun h13 => ?_)
    · refine vc_iconst dX11_text_73 rfl ?_
      refine vc_iret dX11_text_74 rfl (Nat.le_of_ble_eq_true rfl) (Nat.le_of_ble_eq_true rfl) ?_
      exact ⟨_, rfl, hB12⟩
    · refine vc_aload_n dX11_text_56 rfl ?_
      refine vc_getR dX11_text_57 flX11_10 (s_0 hB12.1.1) rfl (r_0_0 hB12.1.1) ?_
      refine vc_aload_n dX11_text_60 rfl ?_
      refine vc_getR dX11_text_61 flX11_38 (s_0 hB12.1.1) rfl (r_0_5 hB12.1.1) ?_
      refine vc_aVO dX11_text_64 (sfX4_asRead (M := (sI (sI (sI M5 0 13 0) 0 14 (mI M5 22 7)) 0 15 (mI M5 22 8))) hB12.1   ) rfl okX4_asRead viX4_asRead lkX11_148 (s_22 hB12.1.1) cl_4 rfl (Nat.le_of_ble_eq_true rfl) (Nat.le_of_ble_eq_true rfl) (Nat.le_of_ble_eq_true rfl) (Nat.le_of_ble_eq_true rfl) ?_
      rintro o14 M15 ⟨hB16, h17⟩
      have hB18 : BX M M15 := BX.go hB12 hB16.x
      have hty := h17
      refine vc_cVI dX11_text_67 (sfX6_addText (M := M15) hB18.1  o14 (by exact hty)) rfl okX6_addText viX6_addText lkX11_152 (s_1 hB18.1.1) cl_6 rfl (Nat.le_of_ble_eq_true rfl) ⟨rfl, rfl⟩ (Nat.le_of_ble_eq_true rfl) (Nat.le_of_ble_eq_true rfl) (Nat.le_of_ble_eq_true rfl) ?_
      rintro x19 M20 hB21
      have hB22 : BX M M20 := BX.go hB18 hB21
      refine vc_goto dX11_text_70 ?_
      refine vc_iret dX11_text_74 rfl (Nat.le_of_ble_eq_true rfl) (Nat.le_of_ble_eq_true rfl) ?_
      exact ⟨_, rfl, hB22⟩
  · refine vc_iconst dX11_text_11 rfl ?_
    refine vc_iret dX11_text_12 rfl (Nat.le_of_ble_eq_true rfl) (Nat.le_of_ble_eq_true rfl) ?_
    exact ⟨_, rfl, hB0⟩
