/-! THE DEEDS of the reference: its walk (written by wip/laws2/c10b.py) -/
set_option maxRecDepth 4000 in
theorem sfX12_keepF {l : Launch} {M : Mem} (hB : Box M)    : Call l mdX12_keep [aR 54] M (fun q N => q = none ∧ BF fR M N ∧ mI N 57 = mI M 57 ∧ (∀ j : Nat, j < 259 → j ≠ 7 → mI N 55 j = mI M 55 j) ∧ (∀ S, AR (mI M 55) S → AR (mI N 55) (fKp S))) := by
  have hB0 : BF fR M M := BF.start hB
  refine Call.of [some (aR 54), none, none] rfl (Nat.le_of_ble_eq_true rfl) rfl ?_
  refine vc_aload_n dX12_keep_0 rfl ?_
  refine vc_getR dX12_keep_1 flX12_7 (s_54 hB0.1.1) rfl (r_54_0 hB0.1.1) ?_
  refine vc_bipush dX12_keep_4 rfl ?_
  refine vc_iaload dX12_keep_6 (s_55 hB0.1.1) (by omega) (by omega) ?_
  refine vc_topI (mI M 55 7) rfl ?_
  have k1 : 0 ≤ mI M 55 7 ∧ mI M 55 7 ≤ 30 := b55_7 (M := M) hB0.1
  refine vc_bipush dX12_keep_7 rfl ?_
  refine vc_icmp_ne dX12_keep_9 (fun h2 => ?_) (fun h2 => ?_)
  · refine vc_sipush dX12_keep_58 rfl ?_
    refine vc_bipush dX12_keep_61 rfl ?_
    refine vc_aload_n dX12_keep_63 rfl ?_
    refine vc_getR dX12_keep_64 flX12_7 (s_54 hB0.1.1) rfl (r_54_0 hB0.1.1) ?_
    refine vc_bipush dX12_keep_67 rfl ?_
    refine vc_iaload dX12_keep_69 (s_55 hB0.1.1) (by omega) (by omega) ?_
    refine vc_topI (mI M 55 7) rfl ?_
    refine vc_imulE dX12_keep_70 (by omega) (by omega) ?_
    refine vc_iaddE dX12_keep_71 (by omega) (by omega) ?_
    refine vc_nameI (fun x3 ex3 => ?_)
    refine vc_istore_n dX12_keep_72 (by decide) rfl (show _ = [some (aR 54), some (aI x3), none] from rfl) ?_
    refine vc_aload_n dX12_keep_73 rfl ?_
    refine vc_getR dX12_keep_74 flX12_7 (s_54 hB0.1.1) rfl (r_54_0 hB0.1.1) ?_
    refine vc_iload_n dX12_keep_77 rfl ?_
    refine vc_aload_n dX12_keep_78 rfl ?_
    refine vc_getR dX12_keep_79 flX12_7 (s_54 hB0.1.1) rfl (r_54_0 hB0.1.1) ?_
    refine vc_iconst dX12_keep_82 rfl ?_
    refine vc_iaload dX12_keep_83 (s_55 hB0.1.1) (by omega) (by omega) ?_
    refine vc_topI (mI M 55 2) rfl ?_
    have k4 : 0 ≤ mI M 55 2 ∧ mI M 55 2 ≤ 6 := b55_2 (M := M) hB0.1
    refine vc_iastore dX12_keep_84 (s_55 hB0.1.1) (by omega) (by omega) ?_
    have kp5 : mI (sI M 55 x3.toNat (mI M 55 2)) 57 = mI M 57 := (kp_sI rfl rfl)
    have hB6 : BF fR M (sI M 55 x3.toNat (mI M 55 2)) := BF.a (x := x3) hB0 (by omega) (by omega) (by unfold aB; refine ⟨?_, ?_, ?_, ?_, ?_, ?_, ?_, ?_, ?_, ?_, ?_, ?_, ?_, ?_, ?_, ?_, ?_, ?_⟩ <;> intros <;> omega) (by omega) (by omega) (by omega) (by omega) (by omega) (by omega) fR_55
    refine vc_iconst dX12_keep_85 rfl ?_
    refine vc_istore_n dX12_keep_86 (by decide) rfl (show _ = [some (aR 54), some (aI x3), some (aI 0)] from rfl) ?_
    have lp87 : ∀ (n87 : Nat) (Mq87 : Mem) (v2 : Int), (BF fR M Mq87) → (mI Mq87 57 = mI M 57) → (0 ≤ v2) → (v2 ≤ 3) → (∀ j : Nat, j < 259 → j ≠ 7 → mI Mq87 55 j = mI M 55 j) → (mI Mq87 55 7 ≤ 29) → (mI Mq87 55 7 = mI M 55 7) → (∀ e i : Nat, e < (mI M 55 7).toNat → i < 11 → mI Mq87 55 (259 + 11 * e + i) = mI M 55 (259 + 11 * (e + 0) + i)) → (mI Mq87 55 (259 + 11 * (mI M 55 7).toNat) = mI M 55 2) → (∀ q : Nat, (q : Int) < v2 → mI Mq87 55 (259 + 11 * (mI M 55 7).toNat + 1 + q) = mI M 55 (256 + q)) → (3 - v2).toNat < n87 → VC l mdX12_keep 87 [some (aR 54), some (aI x3), some (aI v2)] [] Mq87 0 0 (fun q N => q = none ∧ BF fR M N ∧ mI N 57 = mI M 57 ∧ (∀ j : Nat, j < 259 → j ≠ 7 → mI N 55 j = mI M 55 j) ∧ (∀ S, AR (mI M 55) S → AR (mI N 55) (fKp S))) := by
      intro n87
      induction n87 with
      | zero => intro Mq87 v2 hQ87 kp87_57 g87_2a g87_2b g87i0 g87i1 g87i2 g87i3 g87i4 g87i5 hm87; exact absurd hm87 (Nat.not_lt_zero _)
      | succ n87 ih87 =>
        intro Mq87 v2 hQ87 kp87_57 g87_2a g87_2b g87i0 g87i1 g87i2 g87i3 g87i4 g87i5 hm87
        refine vc_iload_n dX12_keep_87 rfl ?_
        refine vc_iconst dX12_keep_88 rfl ?_
        refine vc_icmp_ge dX12_keep_89 (fun h7 => ?_) (fun h7 => ?_)
        · refine vc_iconst dX12_keep_118 rfl ?_
          refine vc_istore_n dX12_keep_119 (by decide) rfl (show _ = [some (aR 54), some (aI x3), some (aI 0)] from rfl) ?_
          have lp120 : ∀ (n120 : Nat) (Mq120 : Mem) (v2i : Int), (BF fR M Mq120) → (mI Mq120 57 = mI M 57) → (0 ≤ v2i) → (v2i ≤ 6) → (∀ j : Nat, j < 259 → j ≠ 7 → mI Mq120 55 j = mI M 55 j) → (mI Mq120 55 7 ≤ 29) → (mI Mq120 55 7 = mI M 55 7) → (∀ e i : Nat, e < (mI M 55 7).toNat → i < 11 → mI Mq120 55 (259 + 11 * e + i) = mI M 55 (259 + 11 * (e + 0) + i)) → (mI Mq120 55 (259 + 11 * (mI M 55 7).toNat) = mI M 55 2) → (∀ q : Nat, q < 3 → mI Mq120 55 (259 + 11 * (mI M 55 7).toNat + 1 + q) = mI M 55 (256 + q)) → (∀ q : Nat, (q : Int) < v2i → mI Mq120 55 (259 + 11 * (mI M 55 7).toNat + 4 + q) = mI M 55 (154 + 5 * q + 4)) → (6 - v2i).toNat < n120 → VC l mdX12_keep 120 [some (aR 54), some (aI x3), some (aI v2i)] [] Mq120 0 0 (fun q N => q = none ∧ BF fR M N ∧ mI N 57 = mI M 57 ∧ (∀ j : Nat, j < 259 → j ≠ 7 → mI N 55 j = mI M 55 j) ∧ (∀ S, AR (mI M 55) S → AR (mI N 55) (fKp S))) := by
            intro n120
            induction n120 with
            | zero => intro Mq120 v2i hQ120 kp120_57 g120_2a g120_2b g120i0 g120i1 g120i2 g120i3 g120i4 g120i5 g120i6 hm120; exact absurd hm120 (Nat.not_lt_zero _)
            | succ n120 ih120 =>
              intro Mq120 v2i hQ120 kp120_57 g120_2a g120_2b g120i0 g120i1 g120i2 g120i3 g120i4 g120i5 g120i6 hm120
              refine vc_iload_n dX12_keep_120 rfl ?_
              refine vc_bipush dX12_keep_121 rfl ?_
              refine vc_icmp_ge dX12_keep_123 (fun h8 => ?_) (fun h8 => ?_)
              · refine vc_aload_n dX12_keep_156 rfl ?_
                refine vc_getR dX12_keep_157 flX12_7 (s_54 hQ120.1.1) rfl (r_54_0 hQ120.1.1) ?_
                refine vc_iload_n dX12_keep_160 rfl ?_
                refine vc_bipush dX12_keep_161 rfl ?_
                refine vc_iaddE dX12_keep_163 (by omega) (by omega) ?_
                refine vc_aload_n dX12_keep_164 rfl ?_
                refine vc_getR dX12_keep_165 flX12_7 (s_54 hQ120.1.1) rfl (r_54_0 hQ120.1.1) ?_
                refine vc_iconst dX12_keep_168 rfl ?_
                refine vc_iaload dX12_keep_169 (s_55 hQ120.1.1) (by omega) (by omega) ?_
                refine vc_topI (mI Mq120 55 4) rfl ?_
                have k9 : 0 ≤ mI Mq120 55 4 ∧ mI Mq120 55 4 ≤ 40025 := b55_4 (M := Mq120) hQ120.1
                refine vc_iastore dX12_keep_170 (s_55 hQ120.1.1) (by omega) (by omega) ?_
                have kp10 : mI (sI Mq120 55 ((x3 + 10).toNat) (mI Mq120 55 4)) 57 = mI M 57 := (kp_sI kp120_57 rfl)
                have hB11 : BF fR M (sI Mq120 55 ((x3 + 10).toNat) (mI Mq120 55 4)) := BF.a (x := x3 + 10) hQ120 (by omega) (by omega) (by unfold aB; refine ⟨?_, ?_, ?_, ?_, ?_, ?_, ?_, ?_, ?_, ?_, ?_, ?_, ?_, ?_, ?_, ?_, ?_, ?_⟩ <;> intros <;> omega) (by omega) (by omega) (by omega) (by omega) (by omega) (by omega) fR_55
                refine vc_aload_n dX12_keep_171 rfl ?_
                refine vc_getR dX12_keep_172 flX12_7 (s_54 hB11.1.1) rfl (r_54_0 hB11.1.1) ?_
                refine vc_bipush dX12_keep_175 rfl ?_
                refine vc_dup2 dX12_keep_177 rfl rfl ?_
                refine vc_iaload dX12_keep_178 (s_55 hB11.1.1) (by omega) (by omega) ?_
                refine vc_topI (mI (sI Mq120 55 ((x3 + 10).toNat) (mI Mq120 55 4)) 55 7) rfl ?_
                have k12 : mI (sI Mq120 55 ((x3 + 10).toNat) (mI Mq120 55 4)) 55 7 = mI Mq120 55 7 := by repeat rw [mI_sI, if_neg (by omega)]
                have k13 : 0 ≤ mI (sI Mq120 55 ((x3 + 10).toNat) (mI Mq120 55 4)) 55 7 ∧ mI (sI Mq120 55 ((x3 + 10).toNat) (mI Mq120 55 4)) 55 7 ≤ 30 := b55_7 (M := (sI Mq120 55 ((x3 + 10).toNat) (mI Mq120 55 4))) hB11.1
                refine vc_iconst dX12_keep_179 rfl ?_
                refine vc_iaddE dX12_keep_180 (by omega) (by omega) ?_
                refine vc_iastore dX12_keep_181 (s_55 hB11.1.1) (by omega) (by omega) ?_
                refine vc_mem (sI (sI Mq120 55 ((x3 + 10).toNat) (mI Mq120 55 4)) 55 7 ((mI (sI Mq120 55 ((x3 + 10).toNat) (mI Mq120 55 4)) 55 7) + 1)) rfl ?_
                have kp14 : mI (sI (sI Mq120 55 ((x3 + 10).toNat) (mI Mq120 55 4)) 55 7 ((mI (sI Mq120 55 ((x3 + 10).toNat) (mI Mq120 55 4)) 55 7) + 1)) 57 = mI M 57 := (kp_sI kp10 rfl)
                have hB15 : BF fR M (sI (sI Mq120 55 ((x3 + 10).toNat) (mI Mq120 55 4)) 55 7 ((mI (sI Mq120 55 ((x3 + 10).toNat) (mI Mq120 55 4)) 55 7) + 1)) := BF.a (x := 7) hB11 (by omega) (by omega) (by unfold aB; refine ⟨?_, ?_, ?_, ?_, ?_, ?_, ?_, ?_, ?_, ?_, ?_, ?_, ?_, ?_, ?_, ?_, ?_, ?_⟩ <;> intros <;> omega) (by omega) (by omega) (by omega) (by omega) (by omega) (by omega) fR_55
                refine vc_vret dX12_keep_182 rfl (Nat.le_of_ble_eq_true rfl) (Nat.le_of_ble_eq_true rfl) ?_
                refine ⟨rfl, hB15, kp14, ?_, fun S hA => ?_⟩
                · intro j hj hj7; (repeat rw [mI_sI, if_neg (by omega)]); first | done | rfl | exact g120i0 j hj hj7
                · have c7 := hA.2.1.2.1
                  have k7 := b55_7 hB
                  have z7 : mI (sI (sI Mq120 55 ((x3 + 10).toNat) (mI Mq120 55 4)) 55 7 ((mI (sI Mq120 55 ((x3 + 10).toNat) (mI Mq120 55 4)) 55 7) + 1)) 55 7 = mI M 55 7 + 1 := by rw [mI_same]; first | omega | (rw [mI_sI, if_neg (by omega)]; omega)
                  exact AR_keep (k := (mI M 55 7).toNat) (g := 0) hA (by omega) (by omega) (fun e i he hi => by rw [mI_sI, if_neg (by omega), mI_sI, if_neg (by omega)]; exact g120i3 e i he hi) (by rw [mI_sI, if_neg (by omega), mI_sI, if_neg (by omega)]; exact g120i4) (by rw [mI_sI, if_neg (by omega), mI_sI, if_neg (by omega)]; exact g120i5 0 (by decide)) (by rw [mI_sI, if_neg (by omega), mI_sI, if_neg (by omega)]; exact g120i5 1 (by decide)) (by rw [mI_sI, if_neg (by omega), mI_sI, if_neg (by omega)]; exact g120i5 2 (by decide)) (fun t ht => by rw [mI_sI, if_neg (by omega), mI_sI, if_neg (by omega)]; exact g120i6 t (by omega)) (by rw [mI_sI, if_neg (by omega), mI_sI, if_pos (by omega)]; exact g120i0 4 (by decide) (by decide)) (fun j j1 j2 => by rw [mI_sI, if_neg (by omega), mI_sI, if_neg (by omega)]; exact g120i0 j j1 j2)
              · refine vc_aload_n dX12_keep_126 rfl ?_
                refine vc_getR dX12_keep_127 flX12_7 (s_54 hQ120.1.1) rfl (r_54_0 hQ120.1.1) ?_
                refine vc_iload_n dX12_keep_130 rfl ?_
                refine vc_iconst dX12_keep_131 rfl ?_
                refine vc_iaddE dX12_keep_132 (by omega) (by omega) ?_
                refine vc_iload_n dX12_keep_133 rfl ?_
                refine vc_iaddE dX12_keep_134 (by omega) (by omega) ?_
                refine vc_aload_n dX12_keep_135 rfl ?_
                refine vc_getR dX12_keep_136 flX12_7 (s_54 hQ120.1.1) rfl (r_54_0 hQ120.1.1) ?_
                refine vc_sipush dX12_keep_139 rfl ?_
                refine vc_iconst dX12_keep_142 rfl ?_
                refine vc_iload_n dX12_keep_143 rfl ?_
                refine vc_imulE dX12_keep_144 (by omega) (by omega) ?_
                refine vc_iaddE dX12_keep_145 (by omega) (by omega) ?_
                refine vc_iconst dX12_keep_146 rfl ?_
                refine vc_iaddE dX12_keep_147 (by omega) (by omega) ?_
                refine vc_iaload dX12_keep_148 (s_55 hQ120.1.1) (by omega) (by omega) ?_
                refine vc_iastore dX12_keep_149 (s_55 hQ120.1.1) (by omega) (by omega) ?_
                have kp16 : mI (sI Mq120 55 (((x3 + 4) + v2i).toNat) (mI Mq120 55 (((154 + (5 * v2i)) + 4).toNat))) 57 = mI M 57 := (kp_sI kp120_57 rfl)
                have hB17 : BF fR M (sI Mq120 55 (((x3 + 4) + v2i).toNat) (mI Mq120 55 (((154 + (5 * v2i)) + 4).toNat))) := BF.a (x := (x3 + 4) + v2i) hQ120 (by omega) (by omega) (by unfold aB; refine ⟨?_, ?_, ?_, ?_, ?_, ?_, ?_, ?_, ?_, ?_, ?_, ?_, ?_, ?_, ?_, ?_, ?_, ?_⟩ <;> intros <;> omega) (by omega) (by omega) (by omega) (by omega) (by omega) (by omega) fR_55
                refine vc_iincE dX12_keep_150 rfl (by omega) (by omega) (by decide) rfl (show _ = [some (aR 54), some (aI x3), some (aI (v2i + 1))] from rfl) ?_
                refine vc_goto dX12_keep_153 ?_
                exact ih120 (sI Mq120 55 (((x3 + 4) + v2i).toNat) (mI Mq120 55 (((154 + (5 * v2i)) + 4).toNat))) (v2i + 1) hB17 kp16 (by omega) (by omega) (by intro j hj hj7; (repeat rw [mI_sI, if_neg (by omega)]); first | done | rfl | exact g120i0 j hj hj7 | exact g87i0 j hj hj7) (by ((repeat rw [mI_sI, if_neg (by omega)]); try omega)) (by first | exact g87i2 | (rw [mI_sI, if_neg (by omega)]; exact g120i2)) (by first | exact g87i3 | (intro e i he hi; rw [mI_sI, if_neg (by omega)]; exact g120i3 e i he hi)) (by first | exact g87i4 | (rw [mI_sI, if_neg (by omega)]; exact g120i4)) (by first | (intro q hq; exact g87i5 q (by omega)) | (intro q hq; rw [mI_sI, if_neg (by omega)]; exact g120i5 q hq)) (by first | (intro q hq; exfalso; omega) | (intro q hq; by_cases hq2 : q = v2i.toNat; (rw [mI_sI, if_pos (by omega), show ((154 + (5 * v2i)) + 4).toNat = 154 + 5 * q + 4 by omega]; exact g120i0 _ (by omega) (by omega)); (rw [mI_sI, if_neg (by omega)]; exact g120i6 q (by omega)))) (by omega)
          exact lp120 _ Mq87 0 hQ87 kp87_57 (by omega) (by omega) (by intro j hj hj7; (repeat rw [mI_sI, if_neg (by omega)]); first | done | rfl | exact g120i0 j hj hj7 | exact g87i0 j hj hj7) (by ((repeat rw [mI_sI, if_neg (by omega)]); try omega)) (by first | exact g87i2 | (rw [mI_sI, if_neg (by omega)]; exact g120i2)) (by first | exact g87i3 | (intro e i he hi; rw [mI_sI, if_neg (by omega)]; exact g120i3 e i he hi)) (by first | exact g87i4 | (rw [mI_sI, if_neg (by omega)]; exact g120i4)) (by first | (intro q hq; exact g87i5 q (by omega)) | (intro q hq; rw [mI_sI, if_neg (by omega)]; exact g120i5 q hq)) (by first | (intro q hq; exfalso; omega) | (intro q hq; by_cases hq2 : q = v2i.toNat; (rw [mI_sI, if_pos (by omega), show ((154 + (5 * v2i)) + 4).toNat = 154 + 5 * q + 4 by omega]; exact g120i0 _ (by omega) (by omega)); (rw [mI_sI, if_neg (by omega)]; exact g120i6 q (by omega)))) (Nat.lt_succ_self _)
        · refine vc_aload_n dX12_keep_92 rfl ?_
          refine vc_getR dX12_keep_93 flX12_7 (s_54 hQ87.1.1) rfl (r_54_0 hQ87.1.1) ?_
          refine vc_iload_n dX12_keep_96 rfl ?_
          refine vc_iconst dX12_keep_97 rfl ?_
          refine vc_iaddE dX12_keep_98 (by omega) (by omega) ?_
          refine vc_iload_n dX12_keep_99 rfl ?_
          refine vc_iaddE dX12_keep_100 (by omega) (by omega) ?_
          refine vc_aload_n dX12_keep_101 rfl ?_
          refine vc_getR dX12_keep_102 flX12_7 (s_54 hQ87.1.1) rfl (r_54_0 hQ87.1.1) ?_
          refine vc_sipush dX12_keep_105 rfl ?_
          refine vc_iload_n dX12_keep_108 rfl ?_
          refine vc_iaddE dX12_keep_109 (by omega) (by omega) ?_
          refine vc_iaload dX12_keep_110 (s_55 hQ87.1.1) (by omega) (by omega) ?_
          refine vc_iastore dX12_keep_111 (s_55 hQ87.1.1) (by omega) (by omega) ?_
          have kp18 : mI (sI Mq87 55 (((x3 + 1) + v2).toNat) (mI Mq87 55 ((256 + v2).toNat))) 57 = mI M 57 := (kp_sI kp87_57 rfl)
          have hB19 : BF fR M (sI Mq87 55 (((x3 + 1) + v2).toNat) (mI Mq87 55 ((256 + v2).toNat))) := BF.a (x := (x3 + 1) + v2) hQ87 (by omega) (by omega) (aB_wk (x := x3) (k := v2) hQ87.1 (by omega) (by omega) (by omega) g87_2a (by omega) (by omega) (by omega)) (by omega) (by omega) (by omega) (by omega) (by omega) (by omega) fR_55
          refine vc_iincE dX12_keep_112 rfl (by omega) (by omega) (by decide) rfl (show _ = [some (aR 54), some (aI x3), some (aI (v2 + 1))] from rfl) ?_
          refine vc_goto dX12_keep_115 ?_
          exact ih87 (sI Mq87 55 (((x3 + 1) + v2).toNat) (mI Mq87 55 ((256 + v2).toNat))) (v2 + 1) hB19 kp18 (by omega) (by omega) (by intro j hj hj7; (repeat rw [mI_sI, if_neg (by omega)]); first | done | rfl | exact g87i0 j hj hj7 | exact g14i0 j hj) (by ((repeat rw [mI_sI, if_neg (by omega)]); first | done | omega | (rw [mI_sI, if_pos ⟨rfl, rfl⟩]; omega))) (by first | (rw [mI_sI, if_neg (by omega)]; exact g87i2) | (rw [mI_sI, if_neg (by omega)]; first | done | omega | (rw [mI_sI, if_pos ⟨rfl, rfl⟩]; omega))) (by first | (intro e i he hi; rw [mI_sI, if_neg (by omega)]; exact g87i3 e i he hi) | (intro e i he hi; rw [mI_sI, if_neg (by omega), Nat.add_zero])) (by first | (rw [mI_sI, if_neg (by omega)]; exact g87i4) | (rw [mI_sI, if_pos (by omega)]; first | done | rfl | exact g14i0 2 (by decide) | (rw [mI_sI, if_neg (by omega)]; exact g14i0 2 (by decide)))) (by first | (intro q hq; exfalso; omega) | (intro q hq; by_cases hq2 : q = v2.toNat; (rw [mI_sI, if_pos (by omega), show (256 + v2).toNat = 256 + q by omega]; exact g87i0 _ (by omega) (by omega)); (rw [mI_sI, if_neg (by omega)]; exact g87i5 q (by omega)))) (by omega)
    exact lp87 _ (sI M 55 x3.toNat (mI M 55 2)) 0 hB6 kp5 (by omega) (by omega) (by intro j hj hj7; (repeat rw [mI_sI, if_neg (by omega)]); first | done | rfl | exact g87i0 j hj hj7 | exact g14i0 j hj) (by ((repeat rw [mI_sI, if_neg (by omega)]); first | done | omega | (rw [mI_sI, if_pos ⟨rfl, rfl⟩]; omega))) (by first | (rw [mI_sI, if_neg (by omega)]; exact g87i2) | (rw [mI_sI, if_neg (by omega)]; first | done | omega | (rw [mI_sI, if_pos ⟨rfl, rfl⟩]; omega))) (by first | (intro e i he hi; rw [mI_sI, if_neg (by omega)]; exact g87i3 e i he hi) | (intro e i he hi; rw [mI_sI, if_neg (by omega), Nat.add_zero])) (by first | (rw [mI_sI, if_neg (by omega)]; exact g87i4) | (rw [mI_sI, if_pos (by omega)]; first | done | rfl | exact g14i0 2 (by decide) | (rw [mI_sI, if_neg (by omega)]; exact g14i0 2 (by decide)))) (by first | (intro q hq; exfalso; omega) | (intro q hq; by_cases hq2 : q = v2.toNat; (rw [mI_sI, if_pos (by omega), show (256 + v2).toNat = 256 + q by omega]; exact g87i0 _ (by omega) (by omega)); (rw [mI_sI, if_neg (by omega)]; exact g87i5 q (by omega)))) (Nat.lt_succ_self _)
  · refine vc_iconst dX12_keep_12 rfl ?_
    refine vc_istore_n dX12_keep_13 (by decide) rfl (show _ = [some (aR 54), some (aI 0), none] from rfl) ?_
    have lp14 : ∀ (n14 : Nat) (Mq14 : Mem) (v1 : Int), (BF fR M Mq14) → (mI Mq14 57 = mI M 57) → (0 ≤ v1) → (v1 ≤ 319) → (∀ j : Nat, j < 259 → mI Mq14 55 j = mI M 55 j) → (∀ q : Nat, (q : Int) < v1 → mI Mq14 55 (259 + q) = mI M 55 (270 + q)) → (∀ q : Nat, v1 ≤ q → mI Mq14 55 (259 + q) = mI M 55 (259 + q)) → (319 - v1).toNat < n14 → VC l mdX12_keep 14 [some (aR 54), some (aI v1), none] [] Mq14 0 0 (fun q N => q = none ∧ BF fR M N ∧ mI N 57 = mI M 57 ∧ (∀ j : Nat, j < 259 → j ≠ 7 → mI N 55 j = mI M 55 j) ∧ (∀ S, AR (mI M 55) S → AR (mI N 55) (fKp S))) := by
      intro n14
      induction n14 with
      | zero => intro Mq14 v1 hQ14 kp14_57 g14_1a g14_1b g14i0 g14i1 g14i2 hm14; exact absurd hm14 (Nat.not_lt_zero _)
      | succ n14 ih14 =>
        intro Mq14 v1 hQ14 kp14_57 g14_1a g14_1b g14i0 g14i1 g14i2 hm14
        refine vc_iload_n dX12_keep_14 rfl ?_
        refine vc_sipush dX12_keep_15 rfl ?_
        refine vc_icmp_ge dX12_keep_18 (fun h20 => ?_) (fun h20 => ?_)
        · have e7 := g14i0 7 (by decide)
          refine vc_aload_n dX12_keep_47 rfl ?_
          refine vc_getR dX12_keep_48 flX12_7 (s_54 hQ14.1.1) rfl (r_54_0 hQ14.1.1) ?_
          refine vc_bipush dX12_keep_51 rfl ?_
          refine vc_dup2 dX12_keep_53 rfl rfl ?_
          refine vc_iaload dX12_keep_54 (s_55 hQ14.1.1) (by omega) (by omega) ?_
          refine vc_topI (mI Mq14 55 7) rfl ?_
          have k21 : 0 ≤ mI Mq14 55 7 ∧ mI Mq14 55 7 ≤ 30 := b55_7 (M := Mq14) hQ14.1
          refine vc_iconst dX12_keep_55 rfl ?_
          refine vc_isubE dX12_keep_56 (by omega) (by omega) ?_
          refine vc_iastore dX12_keep_57 (s_55 hQ14.1.1) (by omega) (by omega) ?_
          refine vc_mem (sI Mq14 55 7 ((mI Mq14 55 7) - 1)) rfl ?_
          have kp22 : mI (sI Mq14 55 7 ((mI Mq14 55 7) - 1)) 57 = mI M 57 := (kp_sI kp14_57 rfl)
          have hB23 : BF fR M (sI Mq14 55 7 ((mI Mq14 55 7) - 1)) := BF.a (x := 7) hQ14 (by omega) (by omega) (by unfold aB; refine ⟨?_, ?_, ?_, ?_, ?_, ?_, ?_, ?_, ?_, ?_, ?_, ?_, ?_, ?_, ?_, ?_, ?_, ?_⟩ <;> intros <;> omega) (by omega) (by omega) (by omega) (by omega) (by omega) (by omega) fR_55
          refine vc_sipush dX12_keep_58 rfl ?_
          refine vc_bipush dX12_keep_61 rfl ?_
          refine vc_aload_n dX12_keep_63 rfl ?_
          refine vc_getR dX12_keep_64 flX12_7 (s_54 hB23.1.1) rfl (r_54_0 hB23.1.1) ?_
          refine vc_bipush dX12_keep_67 rfl ?_
          refine vc_iaload dX12_keep_69 (s_55 hB23.1.1) (by omega) (by omega) ?_
          refine vc_topI ((mI Mq14 55 7) - 1) rfl ?_
          refine vc_imulE dX12_keep_70 (by omega) (by omega) ?_
          refine vc_iaddE dX12_keep_71 (by omega) (by omega) ?_
          refine vc_nameI (fun x24 ex24 => ?_)
          refine vc_istore_n dX12_keep_72 (by decide) rfl (show _ = [some (aR 54), some (aI x24), none] from rfl) ?_
          refine vc_aload_n dX12_keep_73 rfl ?_
          refine vc_getR dX12_keep_74 flX12_7 (s_54 hB23.1.1) rfl (r_54_0 hB23.1.1) ?_
          refine vc_iload_n dX12_keep_77 rfl ?_
          refine vc_aload_n dX12_keep_78 rfl ?_
          refine vc_getR dX12_keep_79 flX12_7 (s_54 hB23.1.1) rfl (r_54_0 hB23.1.1) ?_
          refine vc_iconst dX12_keep_82 rfl ?_
          refine vc_iaload dX12_keep_83 (s_55 hB23.1.1) (by omega) (by omega) ?_
          refine vc_topI (mI Mq14 55 2) rfl ?_
          have k25 : 0 ≤ mI Mq14 55 2 ∧ mI Mq14 55 2 ≤ 6 := b55_2 (M := (sI Mq14 55 7 ((mI Mq14 55 7) - 1))) hB23.1
          refine vc_iastore dX12_keep_84 (s_55 hB23.1.1) (by omega) (by omega) ?_
          have kp26 : mI (sI (sI Mq14 55 7 ((mI Mq14 55 7) - 1)) 55 x24.toNat (mI Mq14 55 2)) 57 = mI M 57 := (kp_sI kp22 rfl)
          have hB27 : BF fR M (sI (sI Mq14 55 7 ((mI Mq14 55 7) - 1)) 55 x24.toNat (mI Mq14 55 2)) := BF.a (x := x24) hB23 (by omega) (by omega) (by unfold aB; refine ⟨?_, ?_, ?_, ?_, ?_, ?_, ?_, ?_, ?_, ?_, ?_, ?_, ?_, ?_, ?_, ?_, ?_, ?_⟩ <;> intros <;> omega) (by omega) (by omega) (by omega) (by omega) (by omega) (by omega) fR_55
          refine vc_iconst dX12_keep_85 rfl ?_
          refine vc_istore_n dX12_keep_86 (by decide) rfl (show _ = [some (aR 54), some (aI x24), some (aI 0)] from rfl) ?_
          have lp87 : ∀ (n87 : Nat) (Mq87 : Mem) (v2 : Int), (BF fR M Mq87) → (mI Mq87 57 = mI M 57) → (0 ≤ v2) → (v2 ≤ 3) → (∀ j : Nat, j < 259 → j ≠ 7 → mI Mq87 55 j = mI M 55 j) → (mI Mq87 55 7 ≤ 29) → (mI Mq87 55 7 = 29) → (∀ e i : Nat, e < 29 → i < 11 → mI Mq87 55 (259 + 11 * e + i) = mI M 55 (259 + 11 * (e + 1) + i)) → (mI Mq87 55 (259 + 11 * 29) = mI M 55 2) → (∀ q : Nat, (q : Int) < v2 → mI Mq87 55 (259 + 11 * 29 + 1 + q) = mI M 55 (256 + q)) → (3 - v2).toNat < n87 → VC l mdX12_keep 87 [some (aR 54), some (aI x24), some (aI v2)] [] Mq87 0 0 (fun q N => q = none ∧ BF fR M N ∧ mI N 57 = mI M 57 ∧ (∀ j : Nat, j < 259 → j ≠ 7 → mI N 55 j = mI M 55 j) ∧ (∀ S, AR (mI M 55) S → AR (mI N 55) (fKp S))) := by
            intro n87
            induction n87 with
            | zero => intro Mq87 v2 hQ87 kp87_57 g87_2a g87_2b g87i0 g87i1 g87i2 g87i3 g87i4 g87i5 hm87; exact absurd hm87 (Nat.not_lt_zero _)
            | succ n87 ih87 =>
              intro Mq87 v2 hQ87 kp87_57 g87_2a g87_2b g87i0 g87i1 g87i2 g87i3 g87i4 g87i5 hm87
              refine vc_iload_n dX12_keep_87 rfl ?_
              refine vc_iconst dX12_keep_88 rfl ?_
              refine vc_icmp_ge dX12_keep_89 (fun h28 => ?_) (fun h28 => ?_)
              · refine vc_iconst dX12_keep_118 rfl ?_
                refine vc_istore_n dX12_keep_119 (by decide) rfl (show _ = [some (aR 54), some (aI x24), some (aI 0)] from rfl) ?_
                have lp120 : ∀ (n120 : Nat) (Mq120 : Mem) (v2i : Int), (BF fR M Mq120) → (mI Mq120 57 = mI M 57) → (0 ≤ v2i) → (v2i ≤ 6) → (∀ j : Nat, j < 259 → j ≠ 7 → mI Mq120 55 j = mI M 55 j) → (mI Mq120 55 7 ≤ 29) → (mI Mq120 55 7 = 29) → (∀ e i : Nat, e < 29 → i < 11 → mI Mq120 55 (259 + 11 * e + i) = mI M 55 (259 + 11 * (e + 1) + i)) → (mI Mq120 55 (259 + 11 * 29) = mI M 55 2) → (∀ q : Nat, q < 3 → mI Mq120 55 (259 + 11 * 29 + 1 + q) = mI M 55 (256 + q)) → (∀ q : Nat, (q : Int) < v2i → mI Mq120 55 (259 + 11 * 29 + 4 + q) = mI M 55 (154 + 5 * q + 4)) → (6 - v2i).toNat < n120 → VC l mdX12_keep 120 [some (aR 54), some (aI x24), some (aI v2i)] [] Mq120 0 0 (fun q N => q = none ∧ BF fR M N ∧ mI N 57 = mI M 57 ∧ (∀ j : Nat, j < 259 → j ≠ 7 → mI N 55 j = mI M 55 j) ∧ (∀ S, AR (mI M 55) S → AR (mI N 55) (fKp S))) := by
                  intro n120
                  induction n120 with
                  | zero => intro Mq120 v2i hQ120 kp120_57 g120_2a g120_2b g120i0 g120i1 g120i2 g120i3 g120i4 g120i5 g120i6 hm120; exact absurd hm120 (Nat.not_lt_zero _)
                  | succ n120 ih120 =>
                    intro Mq120 v2i hQ120 kp120_57 g120_2a g120_2b g120i0 g120i1 g120i2 g120i3 g120i4 g120i5 g120i6 hm120
                    refine vc_iload_n dX12_keep_120 rfl ?_
                    refine vc_bipush dX12_keep_121 rfl ?_
                    refine vc_icmp_ge dX12_keep_123 (fun h29 => ?_) (fun h29 => ?_)
                    · refine vc_aload_n dX12_keep_156 rfl ?_
                      refine vc_getR dX12_keep_157 flX12_7 (s_54 hQ120.1.1) rfl (r_54_0 hQ120.1.1) ?_
                      refine vc_iload_n dX12_keep_160 rfl ?_
                      refine vc_bipush dX12_keep_161 rfl ?_
                      refine vc_iaddE dX12_keep_163 (by omega) (by omega) ?_
                      refine vc_aload_n dX12_keep_164 rfl ?_
                      refine vc_getR dX12_keep_165 flX12_7 (s_54 hQ120.1.1) rfl (r_54_0 hQ120.1.1) ?_
                      refine vc_iconst dX12_keep_168 rfl ?_
                      refine vc_iaload dX12_keep_169 (s_55 hQ120.1.1) (by omega) (by omega) ?_
                      refine vc_topI (mI Mq120 55 4) rfl ?_
                      have k30 : 0 ≤ mI Mq120 55 4 ∧ mI Mq120 55 4 ≤ 40025 := b55_4 (M := Mq120) hQ120.1
                      refine vc_iastore dX12_keep_170 (s_55 hQ120.1.1) (by omega) (by omega) ?_
                      have kp31 : mI (sI Mq120 55 ((x24 + 10).toNat) (mI Mq120 55 4)) 57 = mI M 57 := (kp_sI kp120_57 rfl)
                      have hB32 : BF fR M (sI Mq120 55 ((x24 + 10).toNat) (mI Mq120 55 4)) := BF.a (x := x24 + 10) hQ120 (by omega) (by omega) (by unfold aB; refine ⟨?_, ?_, ?_, ?_, ?_, ?_, ?_, ?_, ?_, ?_, ?_, ?_, ?_, ?_, ?_, ?_, ?_, ?_⟩ <;> intros <;> omega) (by omega) (by omega) (by omega) (by omega) (by omega) (by omega) fR_55
                      refine vc_aload_n dX12_keep_171 rfl ?_
                      refine vc_getR dX12_keep_172 flX12_7 (s_54 hB32.1.1) rfl (r_54_0 hB32.1.1) ?_
                      refine vc_bipush dX12_keep_175 rfl ?_
                      refine vc_dup2 dX12_keep_177 rfl rfl ?_
                      refine vc_iaload dX12_keep_178 (s_55 hB32.1.1) (by omega) (by omega) ?_
                      refine vc_topI (mI (sI Mq120 55 ((x24 + 10).toNat) (mI Mq120 55 4)) 55 7) rfl ?_
                      have k33 : mI (sI Mq120 55 ((x24 + 10).toNat) (mI Mq120 55 4)) 55 7 = mI Mq120 55 7 := by repeat rw [mI_sI, if_neg (by omega)]
                      have k34 : 0 ≤ mI (sI Mq120 55 ((x24 + 10).toNat) (mI Mq120 55 4)) 55 7 ∧ mI (sI Mq120 55 ((x24 + 10).toNat) (mI Mq120 55 4)) 55 7 ≤ 30 := b55_7 (M := (sI Mq120 55 ((x24 + 10).toNat) (mI Mq120 55 4))) hB32.1
                      refine vc_iconst dX12_keep_179 rfl ?_
                      refine vc_iaddE dX12_keep_180 (by omega) (by omega) ?_
                      refine vc_iastore dX12_keep_181 (s_55 hB32.1.1) (by omega) (by omega) ?_
                      refine vc_mem (sI (sI Mq120 55 ((x24 + 10).toNat) (mI Mq120 55 4)) 55 7 ((mI (sI Mq120 55 ((x24 + 10).toNat) (mI Mq120 55 4)) 55 7) + 1)) rfl ?_
                      have kp35 : mI (sI (sI Mq120 55 ((x24 + 10).toNat) (mI Mq120 55 4)) 55 7 ((mI (sI Mq120 55 ((x24 + 10).toNat) (mI Mq120 55 4)) 55 7) + 1)) 57 = mI M 57 := (kp_sI kp31 rfl)
                      have hB36 : BF fR M (sI (sI Mq120 55 ((x24 + 10).toNat) (mI Mq120 55 4)) 55 7 ((mI (sI Mq120 55 ((x24 + 10).toNat) (mI Mq120 55 4)) 55 7) + 1)) := BF.a (x := 7) hB32 (by omega) (by omega) (by unfold aB; refine ⟨?_, ?_, ?_, ?_, ?_, ?_, ?_, ?_, ?_, ?_, ?_, ?_, ?_, ?_, ?_, ?_, ?_, ?_⟩ <;> intros <;> omega) (by omega) (by omega) (by omega) (by omega) (by omega) (by omega) fR_55
                      refine vc_vret dX12_keep_182 rfl (Nat.le_of_ble_eq_true rfl) (Nat.le_of_ble_eq_true rfl) ?_
                      refine ⟨rfl, hB36, kp35, ?_, fun S hA => ?_⟩
                      · intro j hj hj7; (repeat rw [mI_sI, if_neg (by omega)]); first | done | rfl | exact g120i0 j hj hj7
                      · have c7 := hA.2.1.2.1
                        have k7 := b55_7 hB
                        have z7 : mI (sI (sI Mq120 55 ((x24 + 10).toNat) (mI Mq120 55 4)) 55 7 ((mI (sI Mq120 55 ((x24 + 10).toNat) (mI Mq120 55 4)) 55 7) + 1)) 55 7 = 29 + 1 := by rw [mI_same]; first | omega | (rw [mI_sI, if_neg (by omega)]; omega)
                        exact AR_keep (k := 29) (g := 1) hA (by omega) (by omega) (fun e i he hi => by rw [mI_sI, if_neg (by omega), mI_sI, if_neg (by omega)]; exact g120i3 e i he hi) (by rw [mI_sI, if_neg (by omega), mI_sI, if_neg (by omega)]; exact g120i4) (by rw [mI_sI, if_neg (by omega), mI_sI, if_neg (by omega)]; exact g120i5 0 (by decide)) (by rw [mI_sI, if_neg (by omega), mI_sI, if_neg (by omega)]; exact g120i5 1 (by decide)) (by rw [mI_sI, if_neg (by omega), mI_sI, if_neg (by omega)]; exact g120i5 2 (by decide)) (fun t ht => by rw [mI_sI, if_neg (by omega), mI_sI, if_neg (by omega)]; exact g120i6 t (by omega)) (by rw [mI_sI, if_neg (by omega), mI_sI, if_pos (by omega)]; exact g120i0 4 (by decide) (by decide)) (fun j j1 j2 => by rw [mI_sI, if_neg (by omega), mI_sI, if_neg (by omega)]; exact g120i0 j j1 j2)
                    · refine vc_aload_n dX12_keep_126 rfl ?_
                      refine vc_getR dX12_keep_127 flX12_7 (s_54 hQ120.1.1) rfl (r_54_0 hQ120.1.1) ?_
                      refine vc_iload_n dX12_keep_130 rfl ?_
                      refine vc_iconst dX12_keep_131 rfl ?_
                      refine vc_iaddE dX12_keep_132 (by omega) (by omega) ?_
                      refine vc_iload_n dX12_keep_133 rfl ?_
                      refine vc_iaddE dX12_keep_134 (by omega) (by omega) ?_
                      refine vc_aload_n dX12_keep_135 rfl ?_
                      refine vc_getR dX12_keep_136 flX12_7 (s_54 hQ120.1.1) rfl (r_54_0 hQ120.1.1) ?_
                      refine vc_sipush dX12_keep_139 rfl ?_
                      refine vc_iconst dX12_keep_142 rfl ?_
                      refine vc_iload_n dX12_keep_143 rfl ?_
                      refine vc_imulE dX12_keep_144 (by omega) (by omega) ?_
                      refine vc_iaddE dX12_keep_145 (by omega) (by omega) ?_
                      refine vc_iconst dX12_keep_146 rfl ?_
                      refine vc_iaddE dX12_keep_147 (by omega) (by omega) ?_
                      refine vc_iaload dX12_keep_148 (s_55 hQ120.1.1) (by omega) (by omega) ?_
                      refine vc_iastore dX12_keep_149 (s_55 hQ120.1.1) (by omega) (by omega) ?_
                      have kp37 : mI (sI Mq120 55 (((x24 + 4) + v2i).toNat) (mI Mq120 55 (((154 + (5 * v2i)) + 4).toNat))) 57 = mI M 57 := (kp_sI kp120_57 rfl)
                      have hB38 : BF fR M (sI Mq120 55 (((x24 + 4) + v2i).toNat) (mI Mq120 55 (((154 + (5 * v2i)) + 4).toNat))) := BF.a (x := (x24 + 4) + v2i) hQ120 (by omega) (by omega) (by unfold aB; refine ⟨?_, ?_, ?_, ?_, ?_, ?_, ?_, ?_, ?_, ?_, ?_, ?_, ?_, ?_, ?_, ?_, ?_, ?_⟩ <;> intros <;> omega) (by omega) (by omega) (by omega) (by omega) (by omega) (by omega) fR_55
                      refine vc_iincE dX12_keep_150 rfl (by omega) (by omega) (by decide) rfl (show _ = [some (aR 54), some (aI x24), some (aI (v2i + 1))] from rfl) ?_
                      refine vc_goto dX12_keep_153 ?_
                      exact ih120 (sI Mq120 55 (((x24 + 4) + v2i).toNat) (mI Mq120 55 (((154 + (5 * v2i)) + 4).toNat))) (v2i + 1) hB38 kp37 (by omega) (by omega) (by intro j hj hj7; (repeat rw [mI_sI, if_neg (by omega)]); first | done | rfl | exact g120i0 j hj hj7 | exact g87i0 j hj hj7) (by ((repeat rw [mI_sI, if_neg (by omega)]); try omega)) (by first | exact g87i2 | (rw [mI_sI, if_neg (by omega)]; exact g120i2)) (by first | exact g87i3 | (intro e i he hi; rw [mI_sI, if_neg (by omega)]; exact g120i3 e i he hi)) (by first | exact g87i4 | (rw [mI_sI, if_neg (by omega)]; exact g120i4)) (by first | (intro q hq; exact g87i5 q (by omega)) | (intro q hq; rw [mI_sI, if_neg (by omega)]; exact g120i5 q hq)) (by first | (intro q hq; exfalso; omega) | (intro q hq; by_cases hq2 : q = v2i.toNat; (rw [mI_sI, if_pos (by omega), show ((154 + (5 * v2i)) + 4).toNat = 154 + 5 * q + 4 by omega]; exact g120i0 _ (by omega) (by omega)); (rw [mI_sI, if_neg (by omega)]; exact g120i6 q (by omega)))) (by omega)
                exact lp120 _ Mq87 0 hQ87 kp87_57 (by omega) (by omega) (by intro j hj hj7; (repeat rw [mI_sI, if_neg (by omega)]); first | done | rfl | exact g120i0 j hj hj7 | exact g87i0 j hj hj7) (by ((repeat rw [mI_sI, if_neg (by omega)]); try omega)) (by first | exact g87i2 | (rw [mI_sI, if_neg (by omega)]; exact g120i2)) (by first | exact g87i3 | (intro e i he hi; rw [mI_sI, if_neg (by omega)]; exact g120i3 e i he hi)) (by first | exact g87i4 | (rw [mI_sI, if_neg (by omega)]; exact g120i4)) (by first | (intro q hq; exact g87i5 q (by omega)) | (intro q hq; rw [mI_sI, if_neg (by omega)]; exact g120i5 q hq)) (by first | (intro q hq; exfalso; omega) | (intro q hq; by_cases hq2 : q = v2i.toNat; (rw [mI_sI, if_pos (by omega), show ((154 + (5 * v2i)) + 4).toNat = 154 + 5 * q + 4 by omega]; exact g120i0 _ (by omega) (by omega)); (rw [mI_sI, if_neg (by omega)]; exact g120i6 q (by omega)))) (Nat.lt_succ_self _)
              · refine vc_aload_n dX12_keep_92 rfl ?_
                refine vc_getR dX12_keep_93 flX12_7 (s_54 hQ87.1.1) rfl (r_54_0 hQ87.1.1) ?_
                refine vc_iload_n dX12_keep_96 rfl ?_
                refine vc_iconst dX12_keep_97 rfl ?_
                refine vc_iaddE dX12_keep_98 (by omega) (by omega) ?_
                refine vc_iload_n dX12_keep_99 rfl ?_
                refine vc_iaddE dX12_keep_100 (by omega) (by omega) ?_
                refine vc_aload_n dX12_keep_101 rfl ?_
                refine vc_getR dX12_keep_102 flX12_7 (s_54 hQ87.1.1) rfl (r_54_0 hQ87.1.1) ?_
                refine vc_sipush dX12_keep_105 rfl ?_
                refine vc_iload_n dX12_keep_108 rfl ?_
                refine vc_iaddE dX12_keep_109 (by omega) (by omega) ?_
                refine vc_iaload dX12_keep_110 (s_55 hQ87.1.1) (by omega) (by omega) ?_
                refine vc_iastore dX12_keep_111 (s_55 hQ87.1.1) (by omega) (by omega) ?_
                have kp39 : mI (sI Mq87 55 (((x24 + 1) + v2).toNat) (mI Mq87 55 ((256 + v2).toNat))) 57 = mI M 57 := (kp_sI kp87_57 rfl)
                have hB40 : BF fR M (sI Mq87 55 (((x24 + 1) + v2).toNat) (mI Mq87 55 ((256 + v2).toNat))) := BF.a (x := (x24 + 1) + v2) hQ87 (by omega) (by omega) (aB_wk (x := x24) (k := v2) hQ87.1 (by omega) (by omega) (by omega) g87_2a (by omega) (by omega) (by omega)) (by omega) (by omega) (by omega) (by omega) (by omega) (by omega) fR_55
                refine vc_iincE dX12_keep_112 rfl (by omega) (by omega) (by decide) rfl (show _ = [some (aR 54), some (aI x24), some (aI (v2 + 1))] from rfl) ?_
                refine vc_goto dX12_keep_115 ?_
                exact ih87 (sI Mq87 55 (((x24 + 1) + v2).toNat) (mI Mq87 55 ((256 + v2).toNat))) (v2 + 1) hB40 kp39 (by omega) (by omega) (by intro j hj hj7; (repeat rw [mI_sI, if_neg (by omega)]); first | done | rfl | exact g87i0 j hj hj7 | exact g14i0 j hj) (by ((repeat rw [mI_sI, if_neg (by omega)]); first | done | omega | (rw [mI_sI, if_pos ⟨rfl, rfl⟩]; omega))) (by first | (rw [mI_sI, if_neg (by omega)]; exact g87i2) | (rw [mI_sI, if_neg (by omega)]; first | done | omega | (rw [mI_sI, if_pos ⟨rfl, rfl⟩]; omega))) (by first | (intro e i he hi; rw [mI_sI, if_neg (by omega)]; exact g87i3 e i he hi) | (intro e i he hi; rw [mI_sI, if_neg (by omega), mI_sI, if_neg (by omega)]; have z := g14i1 (11 * e + i) (by omega); rw [show 259 + (11 * e + i) = 259 + 11 * e + i by omega, show 270 + (11 * e + i) = 259 + 11 * (e + 1) + i by omega] at z; exact z)) (by first | (rw [mI_sI, if_neg (by omega)]; exact g87i4) | (rw [mI_sI, if_pos (by omega)]; first | done | rfl | exact g14i0 2 (by decide) | (rw [mI_sI, if_neg (by omega)]; exact g14i0 2 (by decide)))) (by first | (intro q hq; exfalso; omega) | (intro q hq; by_cases hq2 : q = v2.toNat; (rw [mI_sI, if_pos (by omega), show (256 + v2).toNat = 256 + q by omega]; exact g87i0 _ (by omega) (by omega)); (rw [mI_sI, if_neg (by omega)]; exact g87i5 q (by omega)))) (by omega)
          exact lp87 _ (sI (sI Mq14 55 7 ((mI Mq14 55 7) - 1)) 55 x24.toNat (mI Mq14 55 2)) 0 hB27 kp26 (by omega) (by omega) (by intro j hj hj7; (repeat rw [mI_sI, if_neg (by omega)]); first | done | rfl | exact g87i0 j hj hj7 | exact g14i0 j hj) (by ((repeat rw [mI_sI, if_neg (by omega)]); first | done | omega | (rw [mI_sI, if_pos ⟨rfl, rfl⟩]; omega))) (by first | (rw [mI_sI, if_neg (by omega)]; exact g87i2) | (rw [mI_sI, if_neg (by omega)]; first | done | omega | (rw [mI_sI, if_pos ⟨rfl, rfl⟩]; omega))) (by first | (intro e i he hi; rw [mI_sI, if_neg (by omega)]; exact g87i3 e i he hi) | (intro e i he hi; rw [mI_sI, if_neg (by omega), mI_sI, if_neg (by omega)]; have z := g14i1 (11 * e + i) (by omega); rw [show 259 + (11 * e + i) = 259 + 11 * e + i by omega, show 270 + (11 * e + i) = 259 + 11 * (e + 1) + i by omega] at z; exact z)) (by first | (rw [mI_sI, if_neg (by omega)]; exact g87i4) | (rw [mI_sI, if_pos (by omega)]; first | done | rfl | exact g14i0 2 (by decide) | (rw [mI_sI, if_neg (by omega)]; exact g14i0 2 (by decide)))) (by first | (intro q hq; exfalso; omega) | (intro q hq; by_cases hq2 : q = v2.toNat; (rw [mI_sI, if_pos (by omega), show (256 + v2).toNat = 256 + q by omega]; exact g87i0 _ (by omega) (by omega)); (rw [mI_sI, if_neg (by omega)]; exact g87i5 q (by omega)))) (Nat.lt_succ_self _)
        · refine vc_aload_n dX12_keep_21 rfl ?_
          refine vc_getR dX12_keep_22 flX12_7 (s_54 hQ14.1.1) rfl (r_54_0 hQ14.1.1) ?_
          refine vc_sipush dX12_keep_25 rfl ?_
          refine vc_iload_n dX12_keep_28 rfl ?_
          refine vc_iaddE dX12_keep_29 (by omega) (by omega) ?_
          refine vc_aload_n dX12_keep_30 rfl ?_
          refine vc_getR dX12_keep_31 flX12_7 (s_54 hQ14.1.1) rfl (r_54_0 hQ14.1.1) ?_
          refine vc_sipush dX12_keep_34 rfl ?_
          refine vc_iload_n dX12_keep_37 rfl ?_
          refine vc_iaddE dX12_keep_38 (by omega) (by omega) ?_
          refine vc_iaload dX12_keep_39 (s_55 hQ14.1.1) (by omega) (by omega) ?_
          refine vc_iastore dX12_keep_40 (s_55 hQ14.1.1) (by omega) (by omega) ?_
          have kp41 : mI (sI Mq14 55 ((259 + v1).toNat) (mI Mq14 55 ((270 + v1).toNat))) 57 = mI M 57 := (kp_sI kp14_57 rfl)
          have hB42 : BF fR M (sI Mq14 55 ((259 + v1).toNat) (mI Mq14 55 ((270 + v1).toNat))) := BF.a (x := 259 + v1) hQ14 (by omega) (by omega) (aB_sh hQ14.1 (by omega) (by omega) (by omega)) (by omega) (by omega) (by omega) (by omega) (by omega) (by omega) fR_55
          refine vc_iincE dX12_keep_41 rfl (by omega) (by omega) (by decide) rfl (show _ = [some (aR 54), some (aI (v1 + 1)), none] from rfl) ?_
          refine vc_goto dX12_keep_44 ?_
          exact ih14 (sI Mq14 55 ((259 + v1).toNat) (mI Mq14 55 ((270 + v1).toNat))) (v1 + 1) hB42 kp41 (by omega) (by omega) (by first | (intro j hj; rfl) | (intro j hj; rw [mI_sI, if_neg (by omega)]; exact g14i0 j hj)) (by first | (intro q hq; exfalso; omega) | (intro q hq; by_cases hq2 : q = v1.toNat; (rw [mI_sI, if_pos (by omega), show (270 + v1).toNat = 259 + (q + 11) by omega, g14i2 (q + 11) (by omega), show 259 + (q + 11) = 270 + q by omega]); (rw [mI_sI, if_neg (by omega)]; exact g14i1 q (by omega)))) (by first | (intro q hq; rfl) | (intro q hq; rw [mI_sI, if_neg (by omega)]; exact g14i2 q (by omega))) (by omega)
    exact lp14 _ M 0 hB0 rfl (by omega) (by omega) (by first | (intro j hj; rfl) | (intro j hj; rw [mI_sI, if_neg (by omega)]; exact g14i0 j hj)) (by first | (intro q hq; exfalso; omega) | (intro q hq; by_cases hq2 : q = v1.toNat; (rw [mI_sI, if_pos (by omega), show (270 + v1).toNat = 259 + (q + 11) by omega, g14i2 (q + 11) (by omega), show 259 + (q + 11) = 270 + q by omega]); (rw [mI_sI, if_neg (by omega)]; exact g14i1 q (by omega)))) (by first | (intro q hq; rfl) | (intro q hq; rw [mI_sI, if_neg (by omega)]; exact g14i2 q (by omega))) (Nat.lt_succ_self _)

set_option maxRecDepth 4000 in
theorem sfX12_undoF {l : Launch} {M : Mem} (hB : Box M)    : Call l mdX12_undo [aR 54] M (fun q N => ∃ r : Int, q = some (aI r) ∧ BF fR M N ∧ (∀ (S S' : Sw) (r9 : Int), AR (mI M 55) S → UndoS S S' r9 → r = r9 ∧ AR (mI N 55) S')) := by
  have hB0 : BF fR M M := BF.start hB
  refine Call.of [some (aR 54), none, none] rfl (Nat.le_of_ble_eq_true rfl) rfl ?_
  have hb2 := b55_2 hB
  refine vc_aload_n dX12_undo_0 rfl ?_
  refine vc_getR dX12_undo_1 flX12_7 (s_54 hB0.1.1) rfl (r_54_0 hB0.1.1) ?_
  refine vc_bipush dX12_undo_4 rfl ?_
  refine vc_iaload dX12_undo_6 (s_55 hB0.1.1) (by omega) (by omega) ?_
  refine vc_topI (mI M 55 7) rfl ?_
  have k1 : 0 ≤ mI M 55 7 ∧ mI M 55 7 ≤ 30 := b55_7 (M := M) hB0.1
  refine vc_if_ne dX12_undo_7 (fun h2 => ?_) (fun h2 => ?_)
  · refine vc_aload_n dX12_undo_12 rfl ?_
    refine vc_getR dX12_undo_13 flX12_7 (s_54 hB0.1.1) rfl (r_54_0 hB0.1.1) ?_
    refine vc_bipush dX12_undo_16 rfl ?_
    refine vc_dup2 dX12_undo_18 rfl rfl ?_
    refine vc_iaload dX12_undo_19 (s_55 hB0.1.1) (by omega) (by omega) ?_
    refine vc_topI (mI M 55 7) rfl ?_
    refine vc_iconst dX12_undo_20 rfl ?_
    refine vc_isubE dX12_undo_21 (by omega) (by omega) ?_
    refine vc_iastore dX12_undo_22 (s_55 hB0.1.1) (by omega) (by omega) ?_
    refine vc_mem (sI M 55 7 ((mI M 55 7) - 1)) rfl ?_
    have hB3 : BF fR M (sI M 55 7 ((mI M 55 7) - 1)) := BF.a (x := 7) hB0 (by omega) (by omega) (by unfold aB; refine ⟨?_, ?_, ?_, ?_, ?_, ?_, ?_, ?_, ?_, ?_, ?_, ?_, ?_, ?_, ?_, ?_, ?_, ?_⟩ <;> intros <;> omega) (by omega) (by omega) (by omega) (by omega) (by omega) (by omega) fR_55
    refine vc_sipush dX12_undo_23 rfl ?_
    refine vc_bipush dX12_undo_26 rfl ?_
    refine vc_aload_n dX12_undo_28 rfl ?_
    refine vc_getR dX12_undo_29 flX12_7 (s_54 hB3.1.1) rfl (r_54_0 hB3.1.1) ?_
    refine vc_bipush dX12_undo_32 rfl ?_
    refine vc_iaload dX12_undo_34 (s_55 hB3.1.1) (by omega) (by omega) ?_
    refine vc_topI ((mI M 55 7) - 1) rfl ?_
    refine vc_imulE dX12_undo_35 (by omega) (by omega) ?_
    refine vc_iaddE dX12_undo_36 (by omega) (by omega) ?_
    refine vc_nameI (fun x4 ex4 => ?_)
    refine vc_istore_n dX12_undo_37 (by decide) rfl (show _ = [some (aR 54), some (aI x4), none] from rfl) ?_
    refine vc_iconst dX12_undo_38 rfl ?_
    refine vc_istore_n dX12_undo_39 (by decide) rfl (show _ = [some (aR 54), some (aI x4), some (aI 0)] from rfl) ?_
    have lp40 : ∀ (n40 : Nat) (Mq40 : Mem) (v2 : Int), (BF fR M Mq40) → (0 ≤ v2) → (v2 ≤ 3) → (mI Mq40 55 7 = mI M 55 7 - 1) → (∀ q : Nat, (q : Int) < v2 → mI Mq40 55 (256 + q) = mI M 55 (259 + 11 * (mI M 55 7 - 1).toNat + 1 + q)) → (∀ j : Nat, j < 589 → j ≠ 7 → (j : Int) < 256 ∨ 256 + v2 ≤ j → mI Mq40 55 j = mI M 55 j) → (3 - v2).toNat < n40 → VC l mdX12_undo 40 [some (aR 54), some (aI x4), some (aI v2)] [] Mq40 0 0 (fun q N => ∃ r : Int, q = some (aI r) ∧ BF fR M N ∧ (∀ (S S' : Sw) (r9 : Int), AR (mI M 55) S → UndoS S S' r9 → r = r9 ∧ AR (mI N 55) S')) := by
      intro n40
      induction n40 with
      | zero => intro Mq40 v2 hQ40 g40_2a g40_2b g40i0 g40i1 g40i2 hm40; exact absurd hm40 (Nat.not_lt_zero _)
      | succ n40 ih40 =>
        intro Mq40 v2 hQ40 g40_2a g40_2b g40i0 g40i1 g40i2 hm40
        refine vc_iload_n dX12_undo_40 rfl ?_
        refine vc_iconst dX12_undo_41 rfl ?_
        refine vc_icmp_ge dX12_undo_42 (fun h5 => ?_) (fun h5 => ?_)
        · refine vc_iconst dX12_undo_71 rfl ?_
          refine vc_istore_n dX12_undo_72 (by decide) rfl (show _ = [some (aR 54), some (aI x4), some (aI 0)] from rfl) ?_
          have lp73 : ∀ (n73 : Nat) (Mq73 : Mem) (v2i : Int), (BF fR M Mq73) → (0 ≤ v2i) → (v2i ≤ 6) → (mI Mq73 55 7 = mI M 55 7 - 1) → (mI Mq73 55 256 = mI M 55 (259 + 11 * (mI M 55 7 - 1).toNat + 1)) → (mI Mq73 55 257 = mI M 55 (259 + 11 * (mI M 55 7 - 1).toNat + 2)) → (∀ t : Nat, (t : Int) < v2i → mI Mq73 55 (154 + 5 * t + 4) = if (t : Int) < mI M 55 (259 + 11 * (mI M 55 7 - 1).toNat) then mI M 55 (259 + 11 * (mI M 55 7 - 1).toNat + 4 + t) else 0) → (∀ j : Nat, j < 589 → j ≠ 7 → j ≠ 256 → j ≠ 257 → j ≠ 258 → ¬ (154 ≤ j ∧ (j : Int) < 154 + 5 * v2i ∧ (j - 154) % 5 = 4) → mI Mq73 55 j = mI M 55 j) → (v2i ≤ mI M 55 2) → (mI Mq73 55 258 = mI M 55 (259 + 11 * (mI M 55 7 - 1).toNat + 3)) → (6 - v2i).toNat < n73 → VC l mdX12_undo 73 [some (aR 54), some (aI x4), some (aI v2i)] [] Mq73 0 0 (fun q N => ∃ r : Int, q = some (aI r) ∧ BF fR M N ∧ (∀ (S S' : Sw) (r9 : Int), AR (mI M 55) S → UndoS S S' r9 → r = r9 ∧ AR (mI N 55) S')) := by
            intro n73
            induction n73 with
            | zero => intro Mq73 v2i hQ73 g73_2a g73_2b g73i0 g73i1 g73i2 g73i3 g73i4 g73i5 g73i6 hm73; exact absurd hm73 (Nat.not_lt_zero _)
            | succ n73 ih73 =>
              intro Mq73 v2i hQ73 g73_2a g73_2b g73i0 g73i1 g73i2 g73i3 g73i4 g73i5 g73i6 hm73
              have h82 : mI Mq73 55 2 = mI M 55 2 := g73i4 2 (by decide) (by decide) (by decide) (by decide) (by decide) (by omega)
              refine vc_iload_n dX12_undo_73 rfl ?_
              refine vc_aload_n dX12_undo_74 rfl ?_
              refine vc_getR dX12_undo_75 flX12_7 (s_54 hQ73.1.1) rfl (r_54_0 hQ73.1.1) ?_
              refine vc_iconst dX12_undo_78 rfl ?_
              refine vc_iaload dX12_undo_79 (s_55 hQ73.1.1) (by omega) (by omega) ?_
              refine vc_topI (mI Mq73 55 2) rfl ?_
              have k6 : 0 ≤ mI Mq73 55 2 ∧ mI Mq73 55 2 ≤ 6 := b55_2 (M := Mq73) hQ73.1
              refine vc_icmp_ge dX12_undo_80 (fun h7 => ?_) (fun h7 => ?_)
              · refine vc_aload_n dX12_undo_127 rfl ?_
                refine vc_getR dX12_undo_128 flX12_7 (s_54 hQ73.1.1) rfl (r_54_0 hQ73.1.1) ?_
                refine vc_iconst dX12_undo_131 rfl ?_
                refine vc_aload_n dX12_undo_132 rfl ?_
                refine vc_getR dX12_undo_133 flX12_7 (s_54 hQ73.1.1) rfl (r_54_0 hQ73.1.1) ?_
                refine vc_iload_n dX12_undo_136 rfl ?_
                refine vc_bipush dX12_undo_137 rfl ?_
                refine vc_iaddE dX12_undo_139 (by omega) (by omega) ?_
                refine vc_iaload dX12_undo_140 (s_55 hQ73.1.1) (by omega) (by omega) ?_
                have k8 : 0 ≤ mI Mq73 55 ((x4 + 10).toNat) ∧ mI Mq73 55 ((x4 + 10).toNat) ≤ 40025 := ba_x (M := Mq73) hQ73.1 (x := x4 + 10) (by omega) (by omega) (by omega)
                refine vc_iastore dX12_undo_141 (s_55 hQ73.1.1) (by omega) (by omega) ?_
                refine vc_mem (sI Mq73 55 4 (mI Mq73 55 ((x4 + 10).toNat))) rfl ?_
                have hB9 : BF fR M (sI Mq73 55 4 (mI Mq73 55 ((x4 + 10).toNat))) := BF.a (x := 4) hQ73 (by omega) (by omega) (by unfold aB; refine ⟨?_, ?_, ?_, ?_, ?_, ?_, ?_, ?_, ?_, ?_, ?_, ?_, ?_, ?_, ?_, ?_, ?_, ?_⟩ <;> intros <;> omega) (by omega) (by omega) (by omega) (by omega) (by omega) (by omega) fR_55
                refine vc_aload_n dX12_undo_142 rfl ?_
                refine vc_getR dX12_undo_143 flX12_7 (s_54 hB9.1.1) rfl (r_54_0 hB9.1.1) ?_
                refine vc_bipush dX12_undo_146 rfl ?_
                refine vc_iaload dX12_undo_148 (s_55 hB9.1.1) (by omega) (by omega) ?_
                refine vc_topI (mI Mq73 55 7) rfl ?_
                have k10 : 0 ≤ mI Mq73 55 7 ∧ mI Mq73 55 7 ≤ 30 := b55_7 (M := (sI Mq73 55 4 (mI Mq73 55 ((x4 + 10).toNat)))) hB9.1
                refine vc_iret dX12_undo_149 rfl (Nat.le_of_ble_eq_true rfl) (Nat.le_of_ble_eq_true rfl) ?_
                have z7 : mI (sI Mq73 55 4 (mI Mq73 55 ((x4 + 10).toNat))) 55 7 = mI M 55 7 - 1 := by rw [mI_sI, if_neg (by omega)]; exact g73i0
                refine ⟨_, rfl, hB9, fun S S' r9 hA hC => ?_⟩
                have c7 := hA.2.1.2.1
                have c2 := hA.1.1.2.2.1
                rcases hC with ⟨hc, e1, e2⟩ | ⟨hc, e1, e2⟩
                · exfalso; omega
                · rw [e2]
                  exact ⟨by omega, AR_undo (k := (mI M 55 7 - 1).toNat) hA (by omega) (by omega) (by rw [mI_sI, if_neg (by omega)]; exact g73i1) (by rw [mI_sI, if_neg (by omega)]; exact g73i2) (by rw [mI_sI, if_neg (by omega)]; exact g73i6) (fun t ht => by rw [mI_sI, if_neg (by omega)]; exact g73i3 t (by omega)) (by rw [mI_sI, if_pos (by omega), show (x4 + 10).toNat = 259 + 11 * (mI M 55 7 - 1).toNat + 10 by omega]; exact g73i4 _ (by omega) (by omega) (by omega) (by omega) (by omega) (by omega)) (fun j j1 j2 j3 j4 j5 j6 j7 => by rw [mI_sI, if_neg (by omega)]; exact g73i4 j j1 j3 j4 j5 j6 (by omega))⟩
              · refine vc_aload_n dX12_undo_83 rfl ?_
                refine vc_getR dX12_undo_84 flX12_7 (s_54 hQ73.1.1) rfl (r_54_0 hQ73.1.1) ?_
                refine vc_sipush dX12_undo_87 rfl ?_
                refine vc_iconst dX12_undo_90 rfl ?_
                refine vc_iload_n dX12_undo_91 rfl ?_
                refine vc_imulE dX12_undo_92 (by omega) (by omega) ?_
                refine vc_iaddE dX12_undo_93 (by omega) (by omega) ?_
                refine vc_iconst dX12_undo_94 rfl ?_
                refine vc_iaddE dX12_undo_95 (by omega) (by omega) ?_
                refine vc_iload_n dX12_undo_96 rfl ?_
                have hx0 : mI Mq73 55 (x4).toNat = mI M 55 (259 + 11 * (mI M 55 7 - 1).toNat) := by rw [show (x4).toNat = 259 + 11 * (mI M 55 7 - 1).toNat by omega]; exact g73i4 _ (by omega) (by omega) (by omega) (by omega) (by omega) (by omega)
                have h82 : mI Mq73 55 2 = mI M 55 2 := g73i4 2 (by decide) (by decide) (by decide) (by decide) (by decide) (by omega)
                refine vc_aload_n dX12_undo_97 rfl ?_
                refine vc_getR dX12_undo_98 flX12_7 (s_54 hQ73.1.1) rfl (r_54_0 hQ73.1.1) ?_
                refine vc_iload_n dX12_undo_101 rfl ?_
                refine vc_iaload dX12_undo_102 (s_55 hQ73.1.1) (by omega) (by omega) ?_
                refine vc_icmp_ge dX12_undo_103 (fun h11 => ?_) (fun h11 => ?_)
                · refine vc_iconst dX12_undo_119 rfl ?_
                  refine vc_iastore dX12_undo_120 (s_55 hQ73.1.1) (by omega) (by omega) ?_
                  have hB12 : BF fR M (sI Mq73 55 (((154 + (5 * v2i)) + 4).toNat) 0) := BF.a (x := (154 + (5 * v2i)) + 4) hQ73 (by omega) (by omega) (by unfold aB; refine ⟨?_, ?_, ?_, ?_, ?_, ?_, ?_, ?_, ?_, ?_, ?_, ?_, ?_, ?_, ?_, ?_, ?_, ?_⟩ <;> intros <;> omega) (by omega) (by omega) (by omega) (by omega) (by omega) (by omega) fR_55
                  refine vc_iincE dX12_undo_121 rfl (by omega) (by omega) (by decide) rfl (show _ = [some (aR 54), some (aI x4), some (aI (v2i + 1))] from rfl) ?_
                  refine vc_goto dX12_undo_124 ?_
                  exact ih73 (sI Mq73 55 (((154 + (5 * v2i)) + 4).toNat) 0) (v2i + 1) hB12 (by omega) (by omega) (by first | exact g40i0 | (rw [mI_sI, if_neg (by omega)]; exact g73i0)) (by first | exact g40i1 0 (by omega) | (rw [mI_sI, if_neg (by omega)]; exact g73i1)) (by first | exact g40i1 1 (by omega) | (rw [mI_sI, if_neg (by omega)]; exact g73i2)) (by first | (intro t ht; exfalso; omega) | (intro t ht; by_cases hq2 : t = v2i.toNat; (rw [mI_sI, if_pos (by omega)]; first | (rw [if_pos (by rw [← hx0]; omega), show (x4 + 4 + v2i).toNat = 259 + 11 * (mI M 55 7 - 1).toNat + 4 + t by omega]; exact g73i4 _ (by omega) (by omega) (by omega) (by omega) (by omega) (by omega)) | (rw [if_neg (by rw [← hx0]; omega)])); (rw [mI_sI, if_neg (by omega)]; exact g73i3 t (by omega)))) (by first | (intro j j1 j2 j3 j4 j5 j6; exact g40i2 j j1 j2 (by omega)) | (intro j j1 j2 j3 j4 j5 j6; rw [mI_sI, if_neg (by omega)]; exact g73i4 j j1 j2 j3 j4 j5 (by omega))) (by omega) (by first | exact g40i1 2 (by omega) | (rw [mI_sI, if_neg (by omega)]; exact g73i6)) (by omega)
                · refine vc_aload_n dX12_undo_106 rfl ?_
                  refine vc_getR dX12_undo_107 flX12_7 (s_54 hQ73.1.1) rfl (r_54_0 hQ73.1.1) ?_
                  refine vc_iload_n dX12_undo_110 rfl ?_
                  refine vc_iconst dX12_undo_111 rfl ?_
                  refine vc_iaddE dX12_undo_112 (by omega) (by omega) ?_
                  refine vc_iload_n dX12_undo_113 rfl ?_
                  refine vc_iaddE dX12_undo_114 (by omega) (by omega) ?_
                  refine vc_iaload dX12_undo_115 (s_55 hQ73.1.1) (by omega) (by omega) ?_
                  refine vc_goto dX12_undo_116 ?_
                  refine vc_iastore dX12_undo_120 (s_55 hQ73.1.1) (by omega) (by omega) ?_
                  have hB13 : BF fR M (sI Mq73 55 (((154 + (5 * v2i)) + 4).toNat) (mI Mq73 55 (((x4 + 4) + v2i).toNat))) := BF.a (x := (154 + (5 * v2i)) + 4) hQ73 (by omega) (by omega) (by unfold aB; refine ⟨?_, ?_, ?_, ?_, ?_, ?_, ?_, ?_, ?_, ?_, ?_, ?_, ?_, ?_, ?_, ?_, ?_, ?_⟩ <;> intros <;> omega) (by omega) (by omega) (by omega) (by omega) (by omega) (by omega) fR_55
                  refine vc_iincE dX12_undo_121 rfl (by omega) (by omega) (by decide) rfl (show _ = [some (aR 54), some (aI x4), some (aI (v2i + 1))] from rfl) ?_
                  refine vc_goto dX12_undo_124 ?_
                  exact ih73 (sI Mq73 55 (((154 + (5 * v2i)) + 4).toNat) (mI Mq73 55 (((x4 + 4) + v2i).toNat))) (v2i + 1) hB13 (by omega) (by omega) (by first | exact g40i0 | (rw [mI_sI, if_neg (by omega)]; exact g73i0)) (by first | exact g40i1 0 (by omega) | (rw [mI_sI, if_neg (by omega)]; exact g73i1)) (by first | exact g40i1 1 (by omega) | (rw [mI_sI, if_neg (by omega)]; exact g73i2)) (by first | (intro t ht; exfalso; omega) | (intro t ht; by_cases hq2 : t = v2i.toNat; (rw [mI_sI, if_pos (by omega)]; first | (rw [if_pos (by rw [← hx0]; omega), show (x4 + 4 + v2i).toNat = 259 + 11 * (mI M 55 7 - 1).toNat + 4 + t by omega]; exact g73i4 _ (by omega) (by omega) (by omega) (by omega) (by omega) (by omega)) | (rw [if_neg (by rw [← hx0]; omega)])); (rw [mI_sI, if_neg (by omega)]; exact g73i3 t (by omega)))) (by first | (intro j j1 j2 j3 j4 j5 j6; exact g40i2 j j1 j2 (by omega)) | (intro j j1 j2 j3 j4 j5 j6; rw [mI_sI, if_neg (by omega)]; exact g73i4 j j1 j2 j3 j4 j5 (by omega))) (by omega) (by first | exact g40i1 2 (by omega) | (rw [mI_sI, if_neg (by omega)]; exact g73i6)) (by omega)
          exact lp73 _ Mq40 0 hQ40 (by omega) (by omega) (by first | exact g40i0 | (rw [mI_sI, if_neg (by omega)]; exact g73i0)) (by first | exact g40i1 0 (by omega) | (rw [mI_sI, if_neg (by omega)]; exact g73i1)) (by first | exact g40i1 1 (by omega) | (rw [mI_sI, if_neg (by omega)]; exact g73i2)) (by first | (intro t ht; exfalso; omega) | (intro t ht; by_cases hq2 : t = v2i.toNat; (rw [mI_sI, if_pos (by omega)]; first | (rw [if_pos (by rw [← hx0]; omega), show (x4 + 4 + v2i).toNat = 259 + 11 * (mI M 55 7 - 1).toNat + 4 + t by omega]; exact g73i4 _ (by omega) (by omega) (by omega) (by omega) (by omega) (by omega)) | (rw [if_neg (by rw [← hx0]; omega)])); (rw [mI_sI, if_neg (by omega)]; exact g73i3 t (by omega)))) (by first | (intro j j1 j2 j3 j4 j5 j6; exact g40i2 j j1 j2 (by omega)) | (intro j j1 j2 j3 j4 j5 j6; rw [mI_sI, if_neg (by omega)]; exact g73i4 j j1 j2 j3 j4 j5 (by omega))) (by omega) (by first | exact g40i1 2 (by omega) | (rw [mI_sI, if_neg (by omega)]; exact g73i6)) (Nat.lt_succ_self _)
        · refine vc_aload_n dX12_undo_45 rfl ?_
          refine vc_getR dX12_undo_46 flX12_7 (s_54 hQ40.1.1) rfl (r_54_0 hQ40.1.1) ?_
          refine vc_sipush dX12_undo_49 rfl ?_
          refine vc_iload_n dX12_undo_52 rfl ?_
          refine vc_iaddE dX12_undo_53 (by omega) (by omega) ?_
          refine vc_aload_n dX12_undo_54 rfl ?_
          refine vc_getR dX12_undo_55 flX12_7 (s_54 hQ40.1.1) rfl (r_54_0 hQ40.1.1) ?_
          refine vc_iload_n dX12_undo_58 rfl ?_
          refine vc_iconst dX12_undo_59 rfl ?_
          refine vc_iaddE dX12_undo_60 (by omega) (by omega) ?_
          refine vc_iload_n dX12_undo_61 rfl ?_
          refine vc_iaddE dX12_undo_62 (by omega) (by omega) ?_
          refine vc_iaload dX12_undo_63 (s_55 hQ40.1.1) (by omega) (by omega) ?_
          refine vc_iastore dX12_undo_64 (s_55 hQ40.1.1) (by omega) (by omega) ?_
          have hB14 : BF fR M (sI Mq40 55 ((256 + v2).toNat) (mI Mq40 55 (((x4 + 1) + v2).toNat))) := BF.a (x := 256 + v2) hQ40 (by omega) (by omega) (aB_kw (x := x4) (k := v2) hQ40.1 (by omega) (by omega) (by omega) g40_2a (by omega) (by omega) (by omega)) (by omega) (by omega) (by omega) (by omega) (by omega) (by omega) fR_55
          refine vc_iincE dX12_undo_65 rfl (by omega) (by omega) (by decide) rfl (show _ = [some (aR 54), some (aI x4), some (aI (v2 + 1))] from rfl) ?_
          refine vc_goto dX12_undo_68 ?_
          exact ih40 (sI Mq40 55 ((256 + v2).toNat) (mI Mq40 55 (((x4 + 1) + v2).toNat))) (v2 + 1) hB14 (by omega) (by omega) (by first | (rw [mI_same]) | (rw [mI_sI, if_neg (by omega)]; exact g40i0)) (by first | (intro q hq; exfalso; omega) | (intro q hq; by_cases hq2 : q = v2.toNat; (rw [mI_sI, if_pos (by omega), show (x4 + 1 + v2).toNat = 259 + 11 * (mI M 55 7 - 1).toNat + 1 + q by omega]; exact g40i2 _ (by omega) (by omega) (by omega)); (rw [mI_sI, if_neg (by omega)]; exact g40i1 q (by omega)))) (by first | (intro j j1 j2 j3; rw [mI_sI, if_neg (by omega)]; exact g40i2 j j1 j2 (by omega)) | (intro j j1 j2 j3; rw [mI_sI, if_neg (by omega)])) (by omega)
    exact lp40 _ (sI M 55 7 ((mI M 55 7) - 1)) 0 hB3 (by omega) (by omega) (by first | (rw [mI_same]) | (rw [mI_sI, if_neg (by omega)]; exact g40i0)) (by first | (intro q hq; exfalso; omega) | (intro q hq; by_cases hq2 : q = v2.toNat; (rw [mI_sI, if_pos (by omega), show (x4 + 1 + v2).toNat = 259 + 11 * (mI M 55 7 - 1).toNat + 1 + q by omega]; exact g40i2 _ (by omega) (by omega) (by omega)); (rw [mI_sI, if_neg (by omega)]; exact g40i1 q (by omega)))) (by first | (intro j j1 j2 j3; rw [mI_sI, if_neg (by omega)]; exact g40i2 j j1 j2 (by omega)) | (intro j j1 j2 j3; rw [mI_sI, if_neg (by omega)])) (Nat.lt_succ_self _)
  · refine vc_iconst dX12_undo_10 rfl ?_
    refine vc_iret dX12_undo_11 rfl (Nat.le_of_ble_eq_true rfl) (Nat.le_of_ble_eq_true rfl) ?_
    exact ⟨_, rfl, hB0, fun S S' r9 hA hC => by have c7 := hA.2.1.2.1; rcases hC with ⟨hc, e1, e2⟩ | ⟨hc, e1, e2⟩; (rw [e2]; exact ⟨by omega, hA⟩); (exfalso; omega)⟩

set_option maxRecDepth 4000 in
theorem sfX12_startNowF {l : Launch} {M : Mem} (hB : Box M)  (c : Int) (f : Int) (p0 : 0 ≤ c) (p1 : c ≤ 15) (p2 : 0 ≤ f) (p3 : f ≤ 3) : Call l mdX12_startNow [aR 54, aI c, aI f] M (fun q N => q = none ∧ BF fR M N ∧ mI N 57 = mI M 57 ∧ mI N 55 256 = c ∧ (∀ j : Nat, j < 256 → mI N 55 j = mI M 55 j) ∧ (∀ S, AR (mI M 55) S → c < S 1 6 → AR (mI N 55) (sc 0 (fPl c f S)))) := by
  have hB0 : BF fR M M := BF.start hB
  refine Call.of [some (aR 54), some (aI c), some (aI f)] rfl (Nat.le_of_ble_eq_true rfl) rfl ?_
  refine vc_aload_n dX12_startNow_0 rfl ?_
  refine vc_getR dX12_startNow_1 flX12_7 (s_54 hB0.1.1) rfl (r_54_0 hB0.1.1) ?_
  refine vc_sipush dX12_startNow_4 rfl ?_
  refine vc_iload_n dX12_startNow_7 rfl ?_
  refine vc_iastore dX12_startNow_8 (s_55 hB0.1.1) (by omega) (by omega) ?_
  refine vc_mem (sI M 55 256 c) rfl ?_
  have kp1 : mI (sI M 55 256 c) 57 = mI M 57 := (kp_sI rfl rfl)
  have hB2 : BF fR M (sI M 55 256 c) := BF.a (x := 256) hB0 (by omega) (by omega) (by unfold aB; refine ⟨?_, ?_, ?_, ?_, ?_, ?_, ?_, ?_, ?_, ?_, ?_, ?_, ?_, ?_, ?_, ?_, ?_, ?_⟩ <;> intros <;> omega) (by omega) (by omega) (by omega) (by omega) (by omega) (by omega) fR_55
  refine vc_aload_n dX12_startNow_9 rfl ?_
  refine vc_getR dX12_startNow_10 flX12_7 (s_54 hB2.1.1) rfl (r_54_0 hB2.1.1) ?_
  refine vc_sipush dX12_startNow_13 rfl ?_
  refine vc_iload_n dX12_startNow_16 rfl ?_
  refine vc_iastore dX12_startNow_17 (s_55 hB2.1.1) (by omega) (by omega) ?_
  refine vc_mem (sI (sI M 55 256 c) 55 257 f) rfl ?_
  have kp3 : mI (sI (sI M 55 256 c) 55 257 f) 57 = mI M 57 := (kp_sI kp1 rfl)
  have hB4 : BF fR M (sI (sI M 55 256 c) 55 257 f) := BF.a (x := 257) hB2 (by omega) (by omega) (by unfold aB; refine ⟨?_, ?_, ?_, ?_, ?_, ?_, ?_, ?_, ?_, ?_, ?_, ?_, ?_, ?_, ?_, ?_, ?_, ?_⟩ <;> intros <;> omega) (by omega) (by omega) (by omega) (by omega) (by omega) (by omega) fR_55
  refine vc_aload_n dX12_startNow_18 rfl ?_
  refine vc_getR dX12_startNow_19 flX12_7 (s_54 hB4.1.1) rfl (r_54_0 hB4.1.1) ?_
  refine vc_sipush dX12_startNow_22 rfl ?_
  refine vc_iconst dX12_startNow_25 rfl ?_
  refine vc_iastore dX12_startNow_26 (s_55 hB4.1.1) (by omega) (by omega) ?_
  refine vc_mem (sI (sI (sI M 55 256 c) 55 257 f) 55 258 0) rfl ?_
  have kp5 : mI (sI (sI (sI M 55 256 c) 55 257 f) 55 258 0) 57 = mI M 57 := (kp_sI kp3 rfl)
  have hB6 : BF fR M (sI (sI (sI M 55 256 c) 55 257 f) 55 258 0) := BF.a (x := 258) hB4 (by omega) (by omega) (by unfold aB; refine ⟨?_, ?_, ?_, ?_, ?_, ?_, ?_, ?_, ?_, ?_, ?_, ?_, ?_, ?_, ?_, ?_, ?_, ?_⟩ <;> intros <;> omega) (by omega) (by omega) (by omega) (by omega) (by omega) (by omega) fR_55
  refine vc_vret dX12_startNow_27 rfl (Nat.le_of_ble_eq_true rfl) (Nat.le_of_ble_eq_true rfl) ?_
  refine ⟨rfl, hB6, kp5, ?_, ?_, fun S hA hc => ?_⟩
  · (repeat rw [mI_sI, if_neg (by omega)]); rw [mI_sI, if_pos ⟨rfl, by omega⟩]
  · intro j hj; (repeat rw [mI_sI, if_neg (by omega)])
  · exact AR_place hA ⟨by omega, hc⟩ ⟨by omega, by omega⟩ (by rw [mI_sI, if_neg (by omega), mI_sI, if_neg (by omega), mI_sI, if_pos ⟨rfl, by omega⟩]) (by rw [mI_sI, if_neg (by omega), mI_sI, if_pos ⟨rfl, by omega⟩]) (by rw [mI_sI, if_pos ⟨rfl, by omega⟩]) (fun j j1 j2 j3 j4 => by (repeat rw [mI_sI, if_neg (by omega)]))

set_option maxRecDepth 4000 in
theorem sfX12_startF {l : Launch} {M : Mem} (hB : Box M)  (c : Int) (f : Int)  : Call l mdX12_start [aR 54, aI c, aI f] M (fun q N => ∃ r : Int, q = some (aI r) ∧ BF fR M N ∧ mI N 57 = mI M 57 ∧ 0 ≤ r ∧ r ≤ 1 ∧ (∀ (S S' : Sw) (r9 : Int), AR (mI M 55) S → StartS c f S S' r9 → r = r9 ∧ AR (mI N 55) S')) := by
  have hB0 : BF fR M M := BF.start hB
  refine Call.of [some (aR 54), some (aI c), some (aI f)] rfl (Nat.le_of_ble_eq_true rfl) rfl ?_
  refine vc_ok (fun hoM hoS hoL => ?_)
  have hr1 : -2147483648 ≤ c ∧ c < 2147483648 := hoL 1 _ rfl
  have hr2 : -2147483648 ≤ f ∧ f < 2147483648 := hoL 2 _ rfl
  refine vc_aload_n dX12_start_0 rfl ?_
  refine vc_iload_n dX12_start_1 rfl ?_
  refine vc_cVI dX12_start_2 (sfX12_isCornerF (M := M) hB0.1  c ) rfl okX12_isCorner viX12_isCorner lkX12_87 (s_54 hB0.1.1) cl_12 rfl (Nat.le_of_ble_eq_true rfl) ⟨rfl, rfl⟩ (Nat.le_of_ble_eq_true rfl) (Nat.le_of_ble_eq_true rfl) (Nat.le_of_ble_eq_true rfl) ?_
  rintro x1 _ ⟨rfl, h2, h3, h4, h5⟩
  refine vc_if_eq dX12_start_5 (fun h6 => ?_) (fun h6 => ?_)
  · refine vc_iconst dX12_start_17 rfl ?_
    refine vc_zret dX12_start_18 rfl (by first | decide | omega) (Nat.le_of_ble_eq_true rfl) (Nat.le_of_ble_eq_true rfl) ?_
    refine ⟨_, rfl, hB0, rfl, by omega, by omega, fun S S' r9 hA hC => ?_⟩
    have c0 := hA.1.1.1
    rcases hC with ⟨hc, e1, e2⟩ | ⟨hc, e1, e2⟩
    · exfalso; omega
    · rw [e2]; exact ⟨by omega, hA⟩
  · refine vc_iload_n dX12_start_8 rfl ?_
    refine vc_iconst dX12_start_9 rfl ?_
    refine vc_iconst dX12_start_10 rfl ?_
    refine vc_cSI dX12_start_11 (sfX12_isInF (M := M) hB0.1  f 0 3 ) rfl okX12_isIn stX12_isIn lkX12_83 rfl (Nat.le_of_ble_eq_true rfl) ⟨rfl, rfl⟩ (Nat.le_of_ble_eq_true rfl) (Nat.le_of_ble_eq_true rfl) (Nat.le_of_ble_eq_true rfl) ?_
    rintro x7 _ ⟨rfl, h8, h9, h10⟩
    refine vc_if_ne dX12_start_14 (fun h11 => ?_) (fun h11 => ?_)
    · refine vc_aload_n dX12_start_19 rfl ?_
      refine vc_cVU dX12_start_20 (sfX12_keepF (M := M) hB0.1   ) rfl okX12_keep viX12_keep lkX12_373 (s_54 hB0.1.1) cl_12 rfl (Nat.le_of_ble_eq_true rfl) ⟨rfl, rfl⟩ (Nat.le_of_ble_eq_true rfl) (Nat.le_of_ble_eq_true rfl) (Nat.le_of_ble_eq_true rfl) ?_
      rintro M12 ⟨hB13, kp14, h15, h16⟩
      have hB17 : BF fR M M12 := BF.go hB0 hB13
      have kp18 : mI M12 57 = mI M 57 := kp_go rfl kp14
      have hkp := h16
      refine vc_aload_n dX12_start_23 rfl ?_
      refine vc_iload_n dX12_start_24 rfl ?_
      refine vc_iload_n dX12_start_25 rfl ?_
      refine vc_cVU dX12_start_26 (sfX12_startNowF (M := M12) hB17.1  c f (by omega) (by omega) (by omega) (by omega)) rfl okX12_startNow viX12_startNow lkX12_376 (s_54 hB17.1.1) cl_12 rfl (Nat.le_of_ble_eq_true rfl) ⟨rfl, rfl⟩ (Nat.le_of_ble_eq_true rfl) (Nat.le_of_ble_eq_true rfl) (Nat.le_of_ble_eq_true rfl) ?_
      rintro M19 ⟨hB20, kp21, h22, h23, h24⟩
      have hB25 : BF fR M M19 := BF.go hB17 hB20
      have kp26 : mI M19 57 = mI M 57 := kp_go kp18 kp21
      have hsn := h24
      refine vc_iconst dX12_start_29 rfl ?_
      refine vc_zret dX12_start_30 rfl (by first | decide | omega) (Nat.le_of_ble_eq_true rfl) (Nat.le_of_ble_eq_true rfl) ?_
      refine ⟨_, rfl, hB25, kp26, by omega, by omega, fun S S' r9 hA hC => ?_⟩
      have c0 := hA.1.1.1
      rcases hC with ⟨hc, e1, e2⟩ | ⟨hc, e1, e2⟩
      · rw [e2]; exact ⟨by omega, hsn _ (hkp S hA) (by rw [fKp_o (by decide) (by decide)]; omega)⟩
      · exfalso; omega
    · refine vc_iconst dX12_start_17 rfl ?_
      refine vc_zret dX12_start_18 rfl (by first | decide | omega) (Nat.le_of_ble_eq_true rfl) (Nat.le_of_ble_eq_true rfl) ?_
      refine ⟨_, rfl, hB0, rfl, by omega, by omega, fun S S' r9 hA hC => ?_⟩
      have c0 := hA.1.1.1
      rcases hC with ⟨hc, e1, e2⟩ | ⟨hc, e1, e2⟩
      · exfalso; omega
      · rw [e2]; exact ⟨by omega, hA⟩

set_option maxRecDepth 4000 in
theorem sfX12_isWalkerF {l : Launch} {M : Mem} (hB : Box M)    : Call l mdX12_isWalker [aR 54] M (fun q N => ∃ r : Int, q = some (aI r) ∧ M = N ∧ 0 ≤ r ∧ r ≤ 1 ∧ ((r = 1 ∧ mI M 55 256 ≠ -1) ∨ (r = 0 ∧ ¬ (mI M 55 256 ≠ -1))) ∧ (r = 0 ∨ 0 ≤ mI M 55 256)) := by
  have hB0 : BF fQ M M := BF.start hB
  refine Call.of [some (aR 54)] rfl (Nat.le_of_ble_eq_true rfl) rfl ?_
  have hb := b55_256 hB
  refine vc_aload_n dX12_isWalker_0 rfl ?_
  refine vc_getR dX12_isWalker_1 flX12_7 (s_54 hB0.1.1) rfl (r_54_0 hB0.1.1) ?_
  refine vc_sipush dX12_isWalker_4 rfl ?_
  refine vc_iaload dX12_isWalker_7 (s_55 hB0.1.1) (by omega) (by omega) ?_
  refine vc_topI (mI M 55 256) rfl ?_
  have k1 : (-1) ≤ mI M 55 256 ∧ mI M 55 256 ≤ 15 := b55_256 (M := M) hB0.1
  refine vc_iconst dX12_isWalker_8 rfl ?_
  refine vc_icmp_eq dX12_isWalker_9 (fun h2 => ?_) (fun h2 => ?_)
  · refine vc_iconst dX12_isWalker_16 rfl ?_
    refine vc_zret dX12_isWalker_17 rfl (by first | decide | omega) (Nat.le_of_ble_eq_true rfl) (Nat.le_of_ble_eq_true rfl) ?_
    exact ⟨_, rfl, rfl, by omega, by omega, by omega, by omega⟩
  · refine vc_iconst dX12_isWalker_12 rfl ?_
    refine vc_goto dX12_isWalker_13 ?_
    refine vc_zret dX12_isWalker_17 rfl (by first | decide | omega) (Nat.le_of_ble_eq_true rfl) (Nat.le_of_ble_eq_true rfl) ?_
    exact ⟨_, rfl, rfl, by omega, by omega, by omega, by omega⟩

set_option maxRecDepth 4000 in
theorem sfX12_isAheadF {l : Launch} {M : Mem} (hB : Box M)    : Call l mdX12_isAhead [aR 54] M (fun q N => ∃ r : Int, q = some (aI r) ∧ M = N ∧ 0 ≤ r ∧ r ≤ 1 ∧ (r = 0 ∨ 0 ≤ mI M 55 256) ∧ (∀ S, AR (mI M 55) S → (r = 1 ∧ wkS S (S 16 1) 1 (S 16 0) ≠ -1) ∨ (r = 0 ∧ wkS S (S 16 1) 1 (S 16 0) = -1))) := by
  have hB0 : BF fQ M M := BF.start hB
  refine Call.of [some (aR 54)] rfl (Nat.le_of_ble_eq_true rfl) rfl ?_
  refine vc_aload_n dX12_isAhead_0 rfl ?_
  refine vc_cVI dX12_isAhead_1 (sfX12_isWalkerF (M := M) hB0.1   ) rfl okX12_isWalker viX12_isWalker lkX12_379 (s_54 hB0.1.1) cl_12 rfl (Nat.le_of_ble_eq_true rfl) ⟨rfl, rfl⟩ (Nat.le_of_ble_eq_true rfl) (Nat.le_of_ble_eq_true rfl) (Nat.le_of_ble_eq_true rfl) ?_
  rintro x1 _ ⟨rfl, h2, h3, h4, h5⟩
  refine vc_if_eq dX12_isAhead_4 (fun h6 => ?_) (fun h6 => ?_)
  · refine vc_iconst dX12_isAhead_34 rfl ?_
    refine vc_zret dX12_isAhead_35 rfl (by first | decide | omega) (Nat.le_of_ble_eq_true rfl) (Nat.le_of_ble_eq_true rfl) ?_
    have hb := b55_256 hB
    refine ⟨_, rfl, rfl, by omega, by omega, by omega, fun S hA => ?_⟩
    have c0 := hA.2.1.2.2.1
    have c1 := hA.2.1.2.2.2
    have w6 := hA.2.2.2.2.1.2.2.2.2.2.1
    have hb := b55_256 hB
    have hb1 := b55_257 hB
    have hw : wkS S (S 16 1) 1 (S 16 0) = -1 := by rw [show S 16 0 = -1 by omega]; exact wkS_no _
    omega
  · refine vc_aload_n dX12_isAhead_7 rfl ?_
    refine vc_aload_n dX12_isAhead_8 rfl ?_
    refine vc_getR dX12_isAhead_9 flX12_7 (s_54 hB0.1.1) rfl (r_54_0 hB0.1.1) ?_
    refine vc_sipush dX12_isAhead_12 rfl ?_
    refine vc_iaload dX12_isAhead_15 (s_55 hB0.1.1) (by omega) (by omega) ?_
    refine vc_topI (mI M 55 256) rfl ?_
    have k7 : (-1) ≤ mI M 55 256 ∧ mI M 55 256 ≤ 15 := b55_256 (M := M) hB0.1
    refine vc_aload_n dX12_isAhead_16 rfl ?_
    refine vc_getR dX12_isAhead_17 flX12_7 (s_54 hB0.1.1) rfl (r_54_0 hB0.1.1) ?_
    refine vc_sipush dX12_isAhead_20 rfl ?_
    refine vc_iaload dX12_isAhead_23 (s_55 hB0.1.1) (by omega) (by omega) ?_
    refine vc_topI (mI M 55 257) rfl ?_
    have k8 : 0 ≤ mI M 55 257 ∧ mI M 55 257 ≤ 3 := b55_257 (M := M) hB0.1
    refine vc_cVI dX12_isAhead_24 (sfX12_streetOfF (M := M) hB0.1  (mI M 55 256) (mI M 55 257) (by omega) (by omega) (by omega) (by omega)) rfl okX12_streetOf viX12_streetOf lkX12_91 (s_54 hB0.1.1) cl_12 rfl (Nat.le_of_ble_eq_true rfl) ⟨rfl, rfl⟩ (Nat.le_of_ble_eq_true rfl) (Nat.le_of_ble_eq_true rfl) (Nat.le_of_ble_eq_true rfl) ?_
    rintro x9 _ ⟨rfl, h10, h11, h12⟩
    refine vc_if_lt dX12_isAhead_27 (fun h13 => ?_) (fun h13 => ?_)
    · refine vc_iconst dX12_isAhead_34 rfl ?_
      refine vc_zret dX12_isAhead_35 rfl (by first | decide | omega) (Nat.le_of_ble_eq_true rfl) (Nat.le_of_ble_eq_true rfl) ?_
      have hb := b55_256 hB
      refine ⟨_, rfl, rfl, by omega, by omega, by omega, fun S hA => ?_⟩
      have c0 := hA.2.1.2.2.1
      have c1 := hA.2.1.2.2.2
      have w6 := hA.2.2.2.2.1.2.2.2.2.2.1
      have hb := b55_256 hB
      have hb1 := b55_257 hB
      have hw : wkS S (S 16 1) 1 (S 16 0) = x9 := by rw [wkS_s (by omega)]; show ahS S (S 16 0) (S 16 1) = _; rw [h12, ← hA.st (by omega) (by omega) (by omega) (by omega), c0, c1]
      omega
    · refine vc_iconst dX12_isAhead_30 rfl ?_
      refine vc_goto dX12_isAhead_31 ?_
      refine vc_zret dX12_isAhead_35 rfl (by first | decide | omega) (Nat.le_of_ble_eq_true rfl) (Nat.le_of_ble_eq_true rfl) ?_
      have hb := b55_256 hB
      refine ⟨_, rfl, rfl, by omega, by omega, by omega, fun S hA => ?_⟩
      have c0 := hA.2.1.2.2.1
      have c1 := hA.2.1.2.2.2
      have w6 := hA.2.2.2.2.1.2.2.2.2.2.1
      have hb := b55_256 hB
      have hb1 := b55_257 hB
      have hw : wkS S (S 16 1) 1 (S 16 0) = x9 := by rw [wkS_s (by omega)]; show ahS S (S 16 0) (S 16 1) = _; rw [h12, ← hA.st (by omega) (by omega) (by omega) (by omega), c0, c1]
      omega

set_option maxRecDepth 4000 in
theorem sfX12_walkNowF {l : Launch} {M : Mem} (hB : Box M) (S : Sw)  (p0 : 0 ≤ mI M 55 256) (p1 : AR (mI M 55) S) (p2 : LwS S (mI M 57)) (p3 : nmT S) (p4 : 0 ≤ ahS S (S 16 0) (S 16 1)) : Call l mdX12_walkNow [aR 54] M (fun q N => q = none ∧ BF fR M N ∧ mI N 57 = mI M 57 ∧ (∀ j : Nat, j < 256 → mI N 55 j = mI M 55 j) ∧ mI N 55 257 = mI M 55 257 ∧ mI N 55 256 = mI M 55 ((((10 + (9 * mI M 55 256)) + 1) + mI M 55 257)).toNat ∧ AR (mI N 55) (fAh S)) := by
  have hB0 : BF fR M M := BF.start hB
  refine Call.of [some (aR 54), none] rfl (Nat.le_of_ble_eq_true rfl) rfl ?_
  have c0 := p1.2.1.2.2.1
  have c1 := p1.2.1.2.2.2
  have w6 := p1.2.2.2.2.1.2.2.2.2.2.1
  have hb1 := b55_257 hB
  have hb0 := b55_256 hB
  refine vc_aload_n dX12_walkNow_0 rfl ?_
  refine vc_getR dX12_walkNow_1 flX12_7 (s_54 hB0.1.1) rfl (r_54_0 hB0.1.1) ?_
  refine vc_sipush dX12_walkNow_4 rfl ?_
  refine vc_iaload dX12_walkNow_7 (s_55 hB0.1.1) (by omega) (by omega) ?_
  refine vc_topI (mI M 55 256) rfl ?_
  have k1 : (-1) ≤ mI M 55 256 ∧ mI M 55 256 ≤ 15 := b55_256 (M := M) hB0.1
  refine vc_nameI (fun x3 ex3 => ?_)
  refine vc_istore_n dX12_walkNow_8 (by decide) rfl (show _ = [some (aR 54), some (aI x3)] from rfl) ?_
  refine vc_aload_n dX12_walkNow_9 rfl ?_
  refine vc_getR dX12_walkNow_10 flX12_7 (s_54 hB0.1.1) rfl (r_54_0 hB0.1.1) ?_
  refine vc_sipush dX12_walkNow_13 rfl ?_
  refine vc_dup2 dX12_walkNow_16 rfl rfl ?_
  refine vc_iaload dX12_walkNow_17 (s_55 hB0.1.1) (by omega) (by omega) ?_
  refine vc_topI (mI M 55 258) rfl ?_
  refine vc_aload_n dX12_walkNow_18 rfl ?_
  refine vc_iload_n dX12_walkNow_19 rfl ?_
  refine vc_aload_n dX12_walkNow_20 rfl ?_
  refine vc_getR dX12_walkNow_21 flX12_7 (s_54 hB0.1.1) rfl (r_54_0 hB0.1.1) ?_
  refine vc_sipush dX12_walkNow_24 rfl ?_
  refine vc_iaload dX12_walkNow_27 (s_55 hB0.1.1) (by omega) (by omega) ?_
  refine vc_topI (mI M 55 257) rfl ?_
  have k5 : 0 ≤ mI M 55 257 ∧ mI M 55 257 ≤ 3 := b55_257 (M := M) hB0.1
  refine vc_cVI dX12_walkNow_28 (sfX12_paceOfF (M := M) hB0.1 S x3 (mI M 55 257) (by omega) (by omega) (by omega) (by omega) (by exact p1.1) (by omega) (by exact p2) (by rw [← c1, ← c0] at p4; first | exact p4 | (rw [ex3]; exact p4) | (rw [← ex3]; exact p4)) (by exact p3)) rfl okX12_paceOf viX12_paceOf lkX12_345 (s_54 hB0.1.1) cl_12 rfl (Nat.le_of_ble_eq_true rfl) ⟨rfl, rfl⟩ (Nat.le_of_ble_eq_true rfl) (Nat.le_of_ble_eq_true rfl) (Nat.le_of_ble_eq_true rfl) ?_
  rintro x7 M8 ⟨hB9, kp10, kp11, kp12, kp13, kp14, kp15, h16⟩
  have hB17 : BF fR M M8 := BF.go hB0 hB9.sq.r
  have kp18 : mI M8 57 = mI M 57 := kp_go rfl kp12
  have kp19 : mI M8 55 = mI M 55 := kp_go rfl kp11
  have hpa := h16
  refine vc_iadd dX12_walkNow_31 ?_
  refine vc_iastore dX12_walkNow_32 (s_55 hB17.1.1) (by omega) (by omega) ?_
  refine vc_mem (sI M8 55 258 (wI ((mI M 55 258) + x7))) rfl ?_
  have kp20 : mI (sI M8 55 258 (wI ((mI M 55 258) + x7))) 57 = mI M 57 := (kp_sI kp18 rfl)
  have hB21 : BF fR M (sI M8 55 258 (wI ((mI M 55 258) + x7))) := BF.a (x := 258) hB17 (by omega) (by omega) (by unfold aB; refine ⟨?_, ?_, ?_, ?_, ?_, ?_, ?_, ?_, ?_, ?_, ?_, ?_, ?_, ?_, ?_, ?_, ?_, ?_⟩ <;> intros <;> omega) (by omega) (by omega) (by omega) (by omega) (by omega) (by omega) fR_55
  refine vc_aload_n dX12_walkNow_33 rfl ?_
  refine vc_getR dX12_walkNow_34 flX12_7 (s_54 hB21.1.1) rfl (r_54_0 hB21.1.1) ?_
  refine vc_sipush dX12_walkNow_37 rfl ?_
  refine vc_aload_n dX12_walkNow_40 rfl ?_
  refine vc_iload_n dX12_walkNow_41 rfl ?_
  refine vc_aload_n dX12_walkNow_42 rfl ?_
  refine vc_getR dX12_walkNow_43 flX12_7 (s_54 hB21.1.1) rfl (r_54_0 hB21.1.1) ?_
  refine vc_sipush dX12_walkNow_46 rfl ?_
  refine vc_iaload dX12_walkNow_49 (s_55 hB21.1.1) (by omega) (by omega) ?_
  refine vc_topI (mI M8 55 257) rfl ?_
  have k22 : 0 ≤ mI M8 55 257 ∧ mI M8 55 257 ≤ 3 := b55_257 (M := (sI M8 55 258 (wI ((mI M 55 258) + x7)))) hB21.1
  refine vc_cVI dX12_walkNow_50 (sfX12_streetOfF (M := (sI M8 55 258 (wI ((mI M 55 258) + x7)))) hB21.1  x3 (mI M8 55 257) (by omega) (by omega) (by omega) (by omega)) rfl okX12_streetOf viX12_streetOf lkX12_91 (s_54 hB21.1.1) cl_12 rfl (Nat.le_of_ble_eq_true rfl) ⟨rfl, rfl⟩ (Nat.le_of_ble_eq_true rfl) (Nat.le_of_ble_eq_true rfl) (Nat.le_of_ble_eq_true rfl) ?_
  rintro x23 _ ⟨rfl, h24, h25, h26⟩
  refine vc_iastore dX12_walkNow_53 (s_55 hB21.1.1) (by omega) (by omega) ?_
  refine vc_mem (sI (sI M8 55 258 (wI ((mI M 55 258) + x7))) 55 256 x23) rfl ?_
  have kp27 : mI (sI (sI M8 55 258 (wI ((mI M 55 258) + x7))) 55 256 x23) 57 = mI M 57 := (kp_sI kp20 rfl)
  have hB28 : BF fR M (sI (sI M8 55 258 (wI ((mI M 55 258) + x7))) 55 256 x23) := BF.a (x := 256) hB21 (by omega) (by omega) (by unfold aB; refine ⟨?_, ?_, ?_, ?_, ?_, ?_, ?_, ?_, ?_, ?_, ?_, ?_, ?_, ?_, ?_, ?_, ?_, ?_⟩ <;> intros <;> omega) (by omega) (by omega) (by omega) (by omega) (by omega) (by omega) fR_55
  refine vc_vret dX12_walkNow_54 rfl (Nat.le_of_ble_eq_true rfl) (Nat.le_of_ble_eq_true rfl) ?_
  refine ⟨rfl, hB28, kp27, ?_, ?_, ?_, ?_⟩
  · intro j hj; (repeat rw [mI_sI, if_neg (by omega)]); exact congrFun kp19 j
  · (repeat rw [mI_sI, if_neg (by omega)]); exact congrFun kp19 257
  · rw [mI_sI, if_pos ⟨rfl, rfl⟩, h26, mI_sI, if_neg (by omega), ex3, congrFun kp19 257]; exact congrFun kp19 _
  · have hr := p1.ahr (S 16 0) (S 16 1)
    refine AR_place p1 hr ⟨by omega, by omega⟩ ?_ ?_ ?_ (fun j j1 j2 j3 j4 => ?_)
    · rw [mI_sI, if_pos ⟨rfl, rfl⟩, h26, mI_sI, if_neg (by omega), ex3, congrFun kp19 257, ← p1.st (by omega) (by omega) (by omega) (by omega), c0, c1]; exact congrFun kp19 _
    · (repeat rw [mI_sI, if_neg (by omega)]); rw [congrFun kp19 257]; exact c1
    · rw [mI_sI, if_neg (by omega), mI_sI, if_pos ⟨rfl, rfl⟩, hpa, ex3, c0, c1, p1.sec]
    · (repeat rw [mI_sI, if_neg (by omega)]); exact congrFun kp19 j

set_option maxRecDepth 4000 in
theorem sfX12_walkableF {l : Launch} {M : Mem} (hB : Box M)  (n : Int) (p0 : 0 ≤ mI M 55 256) : Call l mdX12_walkable [aR 54, aI n] M (fun q N => ∃ r : Int, q = some (aI r) ∧ M = N ∧ 0 ≤ r ∧ WK (mI M 55) (mI M 55 257) r.toNat (mI M 55 256) ∧ (n < 1 ∨ r ≤ n) ∧ (∀ S, AR (mI M 55) S → wkS S (S 16 1) r.toNat (S 16 0) ≠ -1 ∧ (n ≤ r ∨ wkS S (S 16 1) (r.toNat + 1) (S 16 0) = -1))) := by
  have hB0 : BF fQ M M := BF.start hB
  refine Call.of [some (aR 54), some (aI n), none, none] rfl (Nat.le_of_ble_eq_true rfl) rfl ?_
  refine vc_ok (fun hoM hoS hoL => ?_)
  have hr1 : -2147483648 ≤ n ∧ n < 2147483648 := hoL 1 _ rfl
  refine vc_aload_n dX12_walkable_0 rfl ?_
  refine vc_getR dX12_walkable_1 flX12_7 (s_54 hB0.1.1) rfl (r_54_0 hB0.1.1) ?_
  refine vc_sipush dX12_walkable_4 rfl ?_
  refine vc_iaload dX12_walkable_7 (s_55 hB0.1.1) (by omega) (by omega) ?_
  refine vc_topI (mI M 55 256) rfl ?_
  have k1 : (-1) ≤ mI M 55 256 ∧ mI M 55 256 ≤ 15 := b55_256 (M := M) hB0.1
  refine vc_nameI (fun x2 ex2 => ?_)
  refine vc_istore_n dX12_walkable_8 (by decide) rfl (show _ = [some (aR 54), some (aI n), some (aI x2), none] from rfl) ?_
  refine vc_iconst dX12_walkable_9 rfl ?_
  refine vc_istore_n dX12_walkable_10 (by decide) rfl (show _ = [some (aR 54), some (aI n), some (aI x2), some (aI 0)] from rfl) ?_
  have lp11 : ∀ (n11 : Nat) (v2 : Int) (v3 : Int), (0 ≤ v2) → (v2 ≤ 15) → (0 ≤ v3) → (∀ m : Nat, WK (mI M 55) (mI M 55 257) m v2 → WK (mI M 55) (mI M 55 257) (v3.toNat + m) (mI M 55 256)) → (n < 1 ∨ v3 ≤ n) → (∀ S, AR (mI M 55) S → wkS S (S 16 1) v3.toNat (S 16 0) = v2 ∧ v2 < S 1 6) → (n - v3).toNat < n11 → VC l mdX12_walkable 11 [some (aR 54), some (aI n), some (aI v2), some (aI v3)] [] M 0 0 (fun q N => ∃ r : Int, q = some (aI r) ∧ M = N ∧ 0 ≤ r ∧ WK (mI M 55) (mI M 55 257) r.toNat (mI M 55 256) ∧ (n < 1 ∨ r ≤ n) ∧ (∀ S, AR (mI M 55) S → wkS S (S 16 1) r.toNat (S 16 0) ≠ -1 ∧ (n ≤ r ∨ wkS S (S 16 1) (r.toNat + 1) (S 16 0) = -1))) := by
    intro n11
    induction n11 with
    | zero => intro v2 v3 g11_2a g11_2b g11_3a g11i0 g11i1 g11i2 hm11; exact absurd hm11 (Nat.not_lt_zero _)
    | succ n11 ih11 =>
      intro v2 v3 g11_2a g11_2b g11_3a g11i0 g11i1 g11i2 hm11
      refine vc_iload_n dX12_walkable_11 rfl ?_
      refine vc_iload_n dX12_walkable_12 rfl ?_
      refine vc_icmp_ge dX12_walkable_13 (fun h3 => ?_) (fun h3 => ?_)
      · refine vc_iload_n dX12_walkable_52 rfl ?_
        refine vc_iret dX12_walkable_53 rfl (Nat.le_of_ble_eq_true rfl) (Nat.le_of_ble_eq_true rfl) ?_
        refine ⟨_, rfl, rfl, by omega, g11i0 0 trivial, by omega, fun S hA => ?_⟩
        have z := g11i2 S hA
        have c1 := hA.2.1.2.2.2
        have hb1 := b55_257 hB
        have hl := wkS_last _ _ (show wkS S (S 16 1) v3.toNat (S 16 0) ≠ -1 by omega)
        refine ⟨by omega, ?_⟩
        left; omega
      · refine vc_aload_n dX12_walkable_16 rfl ?_
        refine vc_iload_n dX12_walkable_17 rfl ?_
        refine vc_aload_n dX12_walkable_18 rfl ?_
        refine vc_getR dX12_walkable_19 flX12_7 (s_54 hB0.1.1) rfl (r_54_0 hB0.1.1) ?_
        refine vc_sipush dX12_walkable_22 rfl ?_
        refine vc_iaload dX12_walkable_25 (s_55 hB0.1.1) (by omega) (by omega) ?_
        refine vc_topI (mI M 55 257) rfl ?_
        have k4 : 0 ≤ mI M 55 257 ∧ mI M 55 257 ≤ 3 := b55_257 (M := M) hB0.1
        refine vc_cVI dX12_walkable_26 (sfX12_streetOfF (M := M) hB0.1  v2 (mI M 55 257) (by omega) (by omega) (by omega) (by omega)) rfl okX12_streetOf viX12_streetOf lkX12_91 (s_54 hB0.1.1) cl_12 rfl (Nat.le_of_ble_eq_true rfl) ⟨rfl, rfl⟩ (Nat.le_of_ble_eq_true rfl) (Nat.le_of_ble_eq_true rfl) (Nat.le_of_ble_eq_true rfl) ?_
        rintro x5 _ ⟨rfl, h6, h7, h8⟩
        refine vc_if_lt dX12_walkable_29 (fun h9 => ?_) (fun h9 => ?_)
        · refine vc_iload_n dX12_walkable_52 rfl ?_
          refine vc_iret dX12_walkable_53 rfl (Nat.le_of_ble_eq_true rfl) (Nat.le_of_ble_eq_true rfl) ?_
          refine ⟨_, rfl, rfl, by omega, g11i0 0 trivial, by omega, fun S hA => ?_⟩
          have z := g11i2 S hA
          have c1 := hA.2.1.2.2.2
          have hb1 := b55_257 hB
          have hl := wkS_last _ _ (show wkS S (S 16 1) v3.toNat (S 16 0) ≠ -1 by omega)
          refine ⟨by omega, ?_⟩
          right; rw [hl, z.1, ← hA.st (by omega) z.2 (by omega) (by omega), ← c1]; omega
        · refine vc_aload_n dX12_walkable_32 rfl ?_
          refine vc_iload_n dX12_walkable_33 rfl ?_
          refine vc_aload_n dX12_walkable_34 rfl ?_
          refine vc_getR dX12_walkable_35 flX12_7 (s_54 hB0.1.1) rfl (r_54_0 hB0.1.1) ?_
          refine vc_sipush dX12_walkable_38 rfl ?_
          refine vc_iaload dX12_walkable_41 (s_55 hB0.1.1) (by omega) (by omega) ?_
          refine vc_topI (mI M 55 257) rfl ?_
          refine vc_cVI dX12_walkable_42 (sfX12_streetOfF (M := M) hB0.1  v2 (mI M 55 257) (by omega) (by omega) (by omega) (by omega)) rfl okX12_streetOf viX12_streetOf lkX12_91 (s_54 hB0.1.1) cl_12 rfl (Nat.le_of_ble_eq_true rfl) ⟨rfl, rfl⟩ (Nat.le_of_ble_eq_true rfl) (Nat.le_of_ble_eq_true rfl) (Nat.le_of_ble_eq_true rfl) ?_
          rintro x10 _ ⟨rfl, h11, h12, h13⟩
          have hxx := h13.symm
          refine vc_istore_n dX12_walkable_45 (by decide) rfl (show _ = [some (aR 54), some (aI n), some (aI x10), some (aI v3)] from rfl) ?_
          refine vc_iincE dX12_walkable_46 rfl (by omega) (by omega) (by decide) rfl (show _ = [some (aR 54), some (aI n), some (aI x10), some (aI (v3 + 1))] from rfl) ?_
          refine vc_goto dX12_walkable_49 ?_
          exact ih11 x10 (v3 + 1) (by omega) (by omega) (by omega) (by first | (intro m hm; rw [show (0 : Int).toNat + m = m from Nat.zero_add m]; subst_vars; exact hm) | (intro m hm; have q := g11i0 (m + 1) ⟨by omega, by omega, by rw [hxx]; omega, by rw [hxx]; exact hm⟩; rw [show (v3 + 1).toNat + m = v3.toNat + (m + 1) by omega]; exact q)) (by omega) (by first | (intro S hA; have c0 := hA.2.1.2.2.1; have w6 := hA.2.2.2.2.1.2.2.2.2.2.1; exact ⟨by show S 16 0 = _; omega, by omega⟩) | (intro S hA; have z := g11i2 S hA; have c1 := hA.2.1.2.2.2; have hb1 := b55_257 hB; have hr := hA.ahr v2 (S 16 1); rw [show (v3 + 1).toNat = v3.toNat + 1 by omega, wkS_last _ _ (by omega), z.1]; rw [← hA.st (by omega) z.2 (by omega) (by omega), ← c1] at hr ⊢; exact ⟨by omega, by omega⟩)) (by omega)
  exact lp11 _ x2 0 (by omega) (by omega) (by omega) (by first | (intro m hm; rw [show (0 : Int).toNat + m = m from Nat.zero_add m]; subst_vars; exact hm) | (intro m hm; have q := g11i0 (m + 1) ⟨by omega, by omega, by rw [hxx]; omega, by rw [hxx]; exact hm⟩; rw [show (v3 + 1).toNat + m = v3.toNat + (m + 1) by omega]; exact q)) (by omega) (by first | (intro S hA; have c0 := hA.2.1.2.2.1; have w6 := hA.2.2.2.2.1.2.2.2.2.2.1; exact ⟨by show S 16 0 = _; omega, by omega⟩) | (intro S hA; have z := g11i2 S hA; have c1 := hA.2.1.2.2.2; have hb1 := b55_257 hB; have hr := hA.ahr v2 (S 16 1); rw [show (v3 + 1).toNat = v3.toNat + 1 by omega, wkS_last _ _ (by omega), z.1]; rw [← hA.st (by omega) z.2 (by omega) (by omega), ← c1] at hr ⊢; exact ⟨by omega, by omega⟩)) (Nat.lt_succ_self _)

theorem wkS_mono {S : Sw} {f : Int} : ∀ (m n : Nat) (c : Int), m ≤ n → wkS S f m c = -1 → wkS S f n c = -1
  | 0, n, c, _, h => by
    have h : c = -1 := h
    rw [h]; exact wkS_no n
  | m + 1, 0, _, h, _ => absurd h (by omega)
  | m + 1, n + 1, c, hl, h => by
    by_cases e : c = -1
    · rw [e]; exact wkS_no _
    · rw [wkS_s e] at h ⊢
      exact wkS_mono m n _ (by omega) h
set_option maxRecDepth 4000 in
theorem sfX12_walkSoF {l : Launch} {M : Mem} (hB : Box M) (S : Sw) (n : Int) (p0 : WK (mI M 55) (mI M 55 257) n.toNat (mI M 55 256)) (p1 : AR (mI M 55) S) (p2 : LwS S (mI M 57)) (p3 : nmT S) : Call l mdX12_walkSo [aR 54, aI n] M (fun q N => q = none ∧ BF fR M N ∧ mI N 57 = mI M 57 ∧ AR (mI N 55) (itS n.toNat S)) := by
  have hB0 : BF fR M M := BF.start hB
  refine Call.of [some (aR 54), some (aI n), none] rfl (Nat.le_of_ble_eq_true rfl) rfl ?_
  refine vc_ok (fun hoM hoS hoL => ?_)
  have hr1 : -2147483648 ≤ n ∧ n < 2147483648 := hoL 1 _ rfl
  refine vc_iconst dX12_walkSo_0 rfl ?_
  refine vc_istore_n dX12_walkSo_1 (by decide) rfl (show _ = [some (aR 54), some (aI n), some (aI 0)] from rfl) ?_
  have lp2 : ∀ (n2 : Nat) (Mq2 : Mem) (v2 : Int), (BF fR M Mq2) → (mI Mq2 57 = mI M 57) → (0 ≤ v2) → (WK (mI Mq2 55) (mI Mq2 55 257) (n - v2).toNat (mI Mq2 55 256)) → (AR (mI Mq2 55) (itS v2.toNat S)) → (v2 ≤ n ∨ v2 = 0) → (n - v2).toNat < n2 → VC l mdX12_walkSo 2 [some (aR 54), some (aI n), some (aI v2)] [] Mq2 0 0 (fun q N => q = none ∧ BF fR M N ∧ mI N 57 = mI M 57 ∧ AR (mI N 55) (itS n.toNat S)) := by
    intro n2
    induction n2 with
    | zero => intro Mq2 v2 hQ2 kp2_57 g2_2a g2i0 g2i1 g2i2 hm2; exact absurd hm2 (Nat.not_lt_zero _)
    | succ n2 ih2 =>
      intro Mq2 v2 hQ2 kp2_57 g2_2a g2i0 g2i1 g2i2 hm2
      refine vc_iload_n dX12_walkSo_2 rfl ?_
      refine vc_iload_n dX12_walkSo_3 rfl ?_
      refine vc_icmp_ge dX12_walkSo_4 (fun h1 => ?_) (fun h1 => ?_)
      · refine vc_vret dX12_walkSo_21 rfl (Nat.le_of_ble_eq_true rfl) (Nat.le_of_ble_eq_true rfl) ?_
        exact ⟨rfl, hQ2, kp2_57, by have z := g2i1; rw [show n.toNat = v2.toNat by omega]; exact z⟩
      · have hw0 := g2i0
        rw [show (n - v2).toNat = (n - (v2 + 1)).toNat + 1 by omega] at hw0
        have hd := b55_257 hQ2.1
        refine vc_aload_n dX12_walkSo_7 rfl ?_
        refine vc_cVU dX12_walkSo_8 (sfX12_keepF (M := Mq2) hQ2.1   ) rfl okX12_keep viX12_keep lkX12_373 (s_54 hQ2.1.1) cl_12 rfl (Nat.le_of_ble_eq_true rfl) ⟨rfl, rfl⟩ (Nat.le_of_ble_eq_true rfl) (Nat.le_of_ble_eq_true rfl) (Nat.le_of_ble_eq_true rfl) ?_
        rintro M2 ⟨hB3, kp4, h5, h6⟩
        have hB7 : BF fR M M2 := BF.go hQ2 hB3
        have kp8 : mI M2 57 = mI M 57 := kp_go kp2_57 kp4
        have e256 := h5 256 (by decide) (by decide)
        have e257 := h5 257 (by decide) (by decide)
        have est := h5
        have hw1 := hw0.1
        have hw2 := hw0.2.1
        have hA1 : AR (mI M2 55) (fKp (itS v2.toNat S)) := h6 _ g2i1
        have d0 := hA1.2.1.2.2.1
        have d1 := hA1.2.1.2.2.2
        have d2 := hA1.2.2.2.2.1
        have hLw : LwS (fKp (itS v2.toNat S)) (mI M2 57) := by rw [kp8]; exact (p2.lk (Lk.it _ _)).lk Lk.kp
        have hnt : nmT (fKp (itS v2.toNat S)) := (nmT.it _ _ p3).kp
        have hah : 0 ≤ ahS (fKp (itS v2.toNat S)) ((fKp (itS v2.toNat S)) 16 0) ((fKp (itS v2.toNat S)) 16 1) := by rw [← hA1.st (by omega) d2.2.2.2.2.2.1 d2.2.2.2.2.2.2.1 d2.2.2.2.2.2.2.2, ← d0, ← d1, e256, e257, est _ (by omega) (by omega)]; exact hw0.2.2.1
        refine vc_aload_n dX12_walkSo_11 rfl ?_
        refine vc_cVU dX12_walkSo_12 (sfX12_walkNowF (M := M2) hB7.1 (fKp (itS v2.toNat S))  (by omega) (by exact hA1) (by exact hLw) (by exact hnt) (by exact hah)) rfl okX12_walkNow viX12_walkNow lkX12_382 (s_54 hB7.1.1) cl_12 rfl (Nat.le_of_ble_eq_true rfl) ⟨rfl, rfl⟩ (Nat.le_of_ble_eq_true rfl) (Nat.le_of_ble_eq_true rfl) (Nat.le_of_ble_eq_true rfl) ?_
        rintro M9 ⟨hB10, kp11, h12, h13, h14, h15⟩
        have hB16 : BF fR M M9 := BF.go hB7 hB10
        have kp17 : mI M9 57 = mI M 57 := kp_go kp8 kp11
        have hnx : AR (mI M9 55) (itS (v2 + 1).toNat S) := by rw [show (v2 + 1).toNat = v2.toNat + 1 by omega, itS_last]; exact h15
        have hwn : WK (mI M9 55) (mI M9 55 257) (n - (v2 + 1)).toNat (mI M9 55 256) := by
          rw [h13, h14, e256, e257, est _ (by omega) (by omega)]
          exact WK_co (by omega) (by omega) (fun j a b => (h12 j (by omega)).trans (est j (by omega) (by omega))) _ _ hw0.2.2.2
        refine vc_iincE dX12_walkSo_15 rfl (by omega) (by omega) (by decide) rfl (show _ = [some (aR 54), some (aI n), some (aI (v2 + 1))] from rfl) ?_
        refine vc_goto dX12_walkSo_18 ?_
        exact ih2 M9 (v2 + 1) hB16 kp17 (by omega) (by first | (show WK _ _ (n - 0).toNat _; rw [Int.sub_zero]; exact p0) | exact hwn) (by first | exact p1 | exact hnx) (by omega) (by omega)
  exact lp2 _ M 0 hB0 rfl (by omega) (by first | (show WK _ _ (n - 0).toNat _; rw [Int.sub_zero]; exact p0) | exact hwn) (by first | exact p1 | exact hnx) (by omega) (Nat.lt_succ_self _)

set_option maxRecDepth 4000 in
theorem sfX12_walkF {l : Launch} {M : Mem} (hB : Box M) (S : Sw) (n : Int) (p0 : AR (mI M 55) S) (p1 : LwS S (mI M 57)) (p2 : nmT S) : Call l mdX12_walk [aR 54, aI n] M (fun q N => ∃ r : Int, q = some (aI r) ∧ BF fR M N ∧ (∀ (S' : Sw) (r9 : Int), WalkS n S S' r9 → r = r9 ∧ AR (mI N 55) S')) := by
  have hB0 : BF fR M M := BF.start hB
  refine Call.of [some (aR 54), some (aI n)] rfl (Nat.le_of_ble_eq_true rfl) rfl ?_
  refine vc_ok (fun hoM hoS hoL => ?_)
  have hr1 : -2147483648 ≤ n ∧ n < 2147483648 := hoL 1 _ rfl
  refine vc_aload_n dX12_walk_0 rfl ?_
  refine vc_cVI dX12_walk_1 (sfX12_isWalkerF (M := M) hB0.1   ) rfl okX12_isWalker viX12_isWalker lkX12_379 (s_54 hB0.1.1) cl_12 rfl (Nat.le_of_ble_eq_true rfl) ⟨rfl, rfl⟩ (Nat.le_of_ble_eq_true rfl) (Nat.le_of_ble_eq_true rfl) (Nat.le_of_ble_eq_true rfl) ?_
  rintro x1 _ ⟨rfl, h2, h3, h4, h5⟩
  refine vc_if_eq dX12_walk_4 (fun h6 => ?_) (fun h6 => ?_)
  · refine vc_iconst dX12_walk_26 rfl ?_
    refine vc_iret dX12_walk_27 rfl (Nat.le_of_ble_eq_true rfl) (Nat.le_of_ble_eq_true rfl) ?_
    refine ⟨_, rfl, hB0, fun S' r9 hC => ?_⟩
    have c0 := p0.2.1.2.2.1
    rcases hC with ⟨⟨k1, k2, k3⟩, e2, e1⟩ | ⟨hc, e2, e1⟩
    · exfalso; first | omega | (rw [show S 16 0 = -1 by omega, wkS_no] at k3; exact k3 rfl) | (have z := (hwb S p0).2.resolve_left (by omega); exact k3 (wkS_mono _ _ _ (by omega) z))
    · rw [e2]; exact ⟨by omega, p0⟩
  · refine vc_iload_n dX12_walk_7 rfl ?_
    refine vc_iconst dX12_walk_8 rfl ?_
    refine vc_bipush dX12_walk_9 rfl ?_
    refine vc_cSI dX12_walk_11 (sfX12_isInF (M := M) hB0.1  n 1 20 ) rfl okX12_isIn stX12_isIn lkX12_83 rfl (Nat.le_of_ble_eq_true rfl) ⟨rfl, rfl⟩ (Nat.le_of_ble_eq_true rfl) (Nat.le_of_ble_eq_true rfl) (Nat.le_of_ble_eq_true rfl) ?_
    rintro x7 _ ⟨rfl, h8, h9, h10⟩
    refine vc_if_eq dX12_walk_14 (fun h11 => ?_) (fun h11 => ?_)
    · refine vc_iconst dX12_walk_26 rfl ?_
      refine vc_iret dX12_walk_27 rfl (Nat.le_of_ble_eq_true rfl) (Nat.le_of_ble_eq_true rfl) ?_
      refine ⟨_, rfl, hB0, fun S' r9 hC => ?_⟩
      have c0 := p0.2.1.2.2.1
      rcases hC with ⟨⟨k1, k2, k3⟩, e2, e1⟩ | ⟨hc, e2, e1⟩
      · exfalso; first | omega | (rw [show S 16 0 = -1 by omega, wkS_no] at k3; exact k3 rfl) | (have z := (hwb S p0).2.resolve_left (by omega); exact k3 (wkS_mono _ _ _ (by omega) z))
      · rw [e2]; exact ⟨by omega, p0⟩
    · refine vc_aload_n dX12_walk_17 rfl ?_
      refine vc_iload_n dX12_walk_18 rfl ?_
      refine vc_cVI dX12_walk_19 (sfX12_walkableF (M := M) hB0.1  n (by omega)) rfl okX12_walkable viX12_walkable lkX12_385 (s_54 hB0.1.1) cl_12 rfl (Nat.le_of_ble_eq_true rfl) ⟨rfl, rfl⟩ (Nat.le_of_ble_eq_true rfl) (Nat.le_of_ble_eq_true rfl) (Nat.le_of_ble_eq_true rfl) ?_
      rintro x12 _ ⟨rfl, h13, h14, h15, h16⟩
      have hwk : ¬ x12 < n → WK (mI M 55) (mI M 55 257) n.toNat (mI M 55 256) := fun q => by rw [show n = x12 by omega]; exact h14
      have hwb := h16
      have hwr := h15
      refine vc_iload_n dX12_walk_22 rfl ?_
      refine vc_icmp_ge dX12_walk_23 (fun h17 => ?_) (fun h17 => ?_)
      · refine vc_aload_n dX12_walk_28 rfl ?_
        refine vc_iload_n dX12_walk_29 rfl ?_
        refine vc_cVU dX12_walk_30 (sfX12_walkSoF (M := M) hB0.1 S n (by exact hwk (by omega)) (by exact p0) (by exact p1) (by exact p2)) rfl okX12_walkSo viX12_walkSo lkX12_388 (s_54 hB0.1.1) cl_12 rfl (Nat.le_of_ble_eq_true rfl) ⟨rfl, rfl⟩ (Nat.le_of_ble_eq_true rfl) (Nat.le_of_ble_eq_true rfl) (Nat.le_of_ble_eq_true rfl) ?_
        rintro M18 ⟨hB19, kp20, h21⟩
        have hB22 : BF fR M M18 := BF.go hB0 hB19
        have hso := h21
        refine vc_aload_n dX12_walk_33 rfl ?_
        refine vc_getR dX12_walk_34 flX12_7 (s_54 hB22.1.1) rfl (r_54_0 hB22.1.1) ?_
        refine vc_sipush dX12_walk_37 rfl ?_
        refine vc_iaload dX12_walk_40 (s_55 hB22.1.1) (by omega) (by omega) ?_
        refine vc_topI (mI M18 55 256) rfl ?_
        have k23 : (-1) ≤ mI M18 55 256 ∧ mI M18 55 256 ≤ 15 := b55_256 (M := M18) hB22.1
        refine vc_iret dX12_walk_41 rfl (Nat.le_of_ble_eq_true rfl) (Nat.le_of_ble_eq_true rfl) ?_
        refine ⟨_, rfl, hB22, fun S' r9 hC => ?_⟩
        have c0 := p0.2.1.2.2.1
        rcases hC with ⟨⟨k1, k2, k3⟩, e2, e1⟩ | ⟨hc, e2, e1⟩
        · have z := hso
          have zg := goS_it n.toNat n.toNat S k3 (Nat.le_refl _) (Or.inl rfl)
          rw [zg] at e2
          have e2 : S' = itS n.toNat S := e2
          rw [e1, e2]; exact ⟨z.2.1.2.2.1, z⟩
        · exfalso; apply hc; refine ⟨by omega, by omega, ?_⟩; have z := (hwb S p0).1; rw [show n = x12 by omega]; exact z
      · refine vc_iconst dX12_walk_26 rfl ?_
        refine vc_iret dX12_walk_27 rfl (Nat.le_of_ble_eq_true rfl) (Nat.le_of_ble_eq_true rfl) ?_
        refine ⟨_, rfl, hB0, fun S' r9 hC => ?_⟩
        have c0 := p0.2.1.2.2.1
        rcases hC with ⟨⟨k1, k2, k3⟩, e2, e1⟩ | ⟨hc, e2, e1⟩
        · exfalso; first | omega | (rw [show S 16 0 = -1 by omega, wkS_no] at k3; exact k3 rfl) | (have z := (hwb S p0).2.resolve_left (by omega); exact k3 (wkS_mono _ _ _ (by omega) z))
        · rw [e2]; exact ⟨by omega, p0⟩

set_option maxRecDepth 4000 in
theorem sfX12_isWalkedF {l : Launch} {M : Mem} (hB : Box M) (S : Sw) (n : Int) (p0 : 1 ≤ n) (p1 : AR (mI M 55) S) (p2 : LwS S (mI M 57)) (p3 : nmT S) : Call l mdX12_isWalked [aR 54, aI n] M (fun q N => ∃ r : Int, q = some (aI r) ∧ BF fR M N ∧ mI N 57 = mI M 57 ∧ 0 ≤ r ∧ r ≤ 1 ∧ (r = (goS n.toNat S).2 ∧ AR (mI N 55) (goS n.toNat S).1)) := by
  have hB0 : BF fR M M := BF.start hB
  refine Call.of [some (aR 54), some (aI n), none] rfl (Nat.le_of_ble_eq_true rfl) rfl ?_
  refine vc_ok (fun hoM hoS hoL => ?_)
  have hr1 : -2147483648 ≤ n ∧ n < 2147483648 := hoL 1 _ rfl
  refine vc_aload_n dX12_isWalked_0 rfl ?_
  refine vc_cVI dX12_isWalked_1 (sfX12_isWalkerF (M := M) hB0.1   ) rfl okX12_isWalker viX12_isWalker lkX12_379 (s_54 hB0.1.1) cl_12 rfl (Nat.le_of_ble_eq_true rfl) ⟨rfl, rfl⟩ (Nat.le_of_ble_eq_true rfl) (Nat.le_of_ble_eq_true rfl) (Nat.le_of_ble_eq_true rfl) ?_
  rintro x1 _ ⟨rfl, h2, h3, h4, h5⟩
  refine vc_if_ne dX12_isWalked_4 (fun h6 => ?_) (fun h6 => ?_)
  · refine vc_aload_n dX12_isWalked_9 rfl ?_
    refine vc_iload_n dX12_isWalked_10 rfl ?_
    refine vc_cVI dX12_isWalked_11 (sfX12_walkableF (M := M) hB0.1  n (by omega)) rfl okX12_walkable viX12_walkable lkX12_385 (s_54 hB0.1.1) cl_12 rfl (Nat.le_of_ble_eq_true rfl) ⟨rfl, rfl⟩ (Nat.le_of_ble_eq_true rfl) (Nat.le_of_ble_eq_true rfl) (Nat.le_of_ble_eq_true rfl) ?_
    rintro x7 _ ⟨rfl, h8, h9, h10, h11⟩
    have hw0 := h8
    have hwk := h9
    have hwb := h11
    have hwr := h10
    refine vc_istore_n dX12_isWalked_14 (by decide) rfl (show _ = [some (aR 54), some (aI n), some (aI x7)] from rfl) ?_
    refine vc_aload_n dX12_isWalked_15 rfl ?_
    refine vc_iload_n dX12_isWalked_16 rfl ?_
    refine vc_cVU dX12_isWalked_17 (sfX12_walkSoF (M := M) hB0.1 S x7 (by assumption) (by exact p1) (by exact p2) (by exact p3)) rfl okX12_walkSo viX12_walkSo lkX12_388 (s_54 hB0.1.1) cl_12 rfl (Nat.le_of_ble_eq_true rfl) ⟨rfl, rfl⟩ (Nat.le_of_ble_eq_true rfl) (Nat.le_of_ble_eq_true rfl) (Nat.le_of_ble_eq_true rfl) ?_
    rintro M12 ⟨hB13, kp14, h15⟩
    have hB16 : BF fR M M12 := BF.go hB0 hB13
    have kp17 : mI M12 57 = mI M 57 := kp_go rfl kp14
    have hso := h15
    refine vc_iload_n dX12_isWalked_20 rfl ?_
    refine vc_iload_n dX12_isWalked_21 rfl ?_
    refine vc_icmp_ne dX12_isWalked_22 (fun h18 => ?_) (fun h18 => ?_)
    · refine vc_iconst dX12_isWalked_29 rfl ?_
      refine vc_zret dX12_isWalked_30 rfl (by first | decide | omega) (Nat.le_of_ble_eq_true rfl) (Nat.le_of_ble_eq_true rfl) ?_
      refine ⟨_, rfl, hB16, kp17, by omega, by omega, ?_⟩
      have c0 := p1.2.1.2.2.1
      have z := hwb S p1
      have zg := goS_it x7.toNat n.toNat S z.1 (by omega) (by rcases z.2 with q | q; (left; omega); (right; exact q))
      rw [zg]
      exact ⟨by first | exact (if_pos (by omega)).symm | exact (if_neg (by omega)).symm, hso⟩
    · refine vc_iconst dX12_isWalked_25 rfl ?_
      refine vc_goto dX12_isWalked_26 ?_
      refine vc_zret dX12_isWalked_30 rfl (by first | decide | omega) (Nat.le_of_ble_eq_true rfl) (Nat.le_of_ble_eq_true rfl) ?_
      refine ⟨_, rfl, hB16, kp17, by omega, by omega, ?_⟩
      have c0 := p1.2.1.2.2.1
      have z := hwb S p1
      have zg := goS_it x7.toNat n.toNat S z.1 (by omega) (by rcases z.2 with q | q; (left; omega); (right; exact q))
      rw [zg]
      exact ⟨by first | exact (if_pos (by omega)).symm | exact (if_neg (by omega)).symm, hso⟩
  · refine vc_iconst dX12_isWalked_7 rfl ?_
    refine vc_zret dX12_isWalked_8 rfl (by first | decide | omega) (Nat.le_of_ble_eq_true rfl) (Nat.le_of_ble_eq_true rfl) ?_
    refine ⟨_, rfl, hB0, rfl, by omega, by omega, ?_⟩
    have c0 := p1.2.1.2.2.1
    have z : goS n.toNat S = (S, 0) := by rw [show n.toNat = (n - 1).toNat + 1 by omega]; exact if_pos (by rw [show S 16 0 = -1 by omega]; exact wkS_no _)
    rw [z]; exact ⟨rfl, p1⟩

set_option maxRecDepth 4000 in
theorem sfX12_turnedF {l : Launch} {M : Mem} (hB : Box M)  (f : Int) (s : Int) (p0 : 0 ≤ f) (p1 : f ≤ 3) : Call l mdX12_turned [aI f, aI s] M (fun q N => ∃ r : Int, q = some (aI r) ∧ M = N ∧ 0 ≤ r ∧ r ≤ 3 ∧ ((s = 1 ∧ r = (f + 3) % 4) ∨ (s = 2 ∧ r = (f + 1) % 4) ∨ (s ≠ 1 ∧ s ≠ 2 ∧ r = (f + 2) % 4))) := by
  have hB0 : BF fQ M M := BF.start hB
  refine Call.of [some (aI f), some (aI s)] rfl (Nat.le_of_ble_eq_true rfl) rfl ?_
  refine vc_ok (fun hoM hoS hoL => ?_)
  have hr1 : -2147483648 ≤ s ∧ s < 2147483648 := hoL 1 _ rfl
  refine vc_iload_n dX12_turned_0 rfl ?_
  refine vc_iload_n dX12_turned_1 rfl ?_
  refine vc_iconst dX12_turned_2 rfl ?_
  refine vc_icmp_ne dX12_turned_3 (fun h1 => ?_) (fun h1 => ?_)
  · refine vc_iload_n dX12_turned_10 rfl ?_
    refine vc_iconst dX12_turned_11 rfl ?_
    refine vc_icmp_ne dX12_turned_12 (fun h2 => ?_) (fun h2 => ?_)
    · refine vc_iconst dX12_turned_19 rfl ?_
      refine vc_iaddE dX12_turned_20 (by omega) (by omega) ?_
      refine vc_iconst dX12_turned_21 rfl ?_
      refine vc_iremE dX12_turned_22 (by omega) (by omega) ?_
      refine vc_iret dX12_turned_23 rfl (Nat.le_of_ble_eq_true rfl) (Nat.le_of_ble_eq_true rfl) ?_
      exact ⟨_, rfl, rfl, by omega, by omega, by omega⟩
    · refine vc_iconst dX12_turned_15 rfl ?_
      refine vc_goto dX12_turned_16 ?_
      refine vc_iaddE dX12_turned_20 (by omega) (by omega) ?_
      refine vc_iconst dX12_turned_21 rfl ?_
      refine vc_iremE dX12_turned_22 (by omega) (by omega) ?_
      refine vc_iret dX12_turned_23 rfl (Nat.le_of_ble_eq_true rfl) (Nat.le_of_ble_eq_true rfl) ?_
      exact ⟨_, rfl, rfl, by omega, by omega, by omega⟩
  · refine vc_iconst dX12_turned_6 rfl ?_
    refine vc_goto dX12_turned_7 ?_
    refine vc_iaddE dX12_turned_20 (by omega) (by omega) ?_
    refine vc_iconst dX12_turned_21 rfl ?_
    refine vc_iremE dX12_turned_22 (by omega) (by omega) ?_
    refine vc_iret dX12_turned_23 rfl (Nat.le_of_ble_eq_true rfl) (Nat.le_of_ble_eq_true rfl) ?_
    exact ⟨_, rfl, rfl, by omega, by omega, by omega⟩

set_option maxRecDepth 4000 in
theorem sfX12_turnF {l : Launch} {M : Mem} (hB : Box M)  (s : Int)  : Call l mdX12_turn [aR 54, aI s] M (fun q N => ∃ r : Int, q = some (aI r) ∧ BF fR M N ∧ mI N 57 = mI M 57 ∧ (∀ (S S' : Sw) (r9 : Int), AR (mI M 55) S → TurnS s S S' r9 → r = r9 ∧ AR (mI N 55) S')) := by
  have hB0 : BF fR M M := BF.start hB
  refine Call.of [some (aR 54), some (aI s)] rfl (Nat.le_of_ble_eq_true rfl) rfl ?_
  refine vc_ok (fun hoM hoS hoL => ?_)
  have hr1 : -2147483648 ≤ s ∧ s < 2147483648 := hoL 1 _ rfl
  refine vc_aload_n dX12_turn_0 rfl ?_
  refine vc_cVI dX12_turn_1 (sfX12_isWalkerF (M := M) hB0.1   ) rfl okX12_isWalker viX12_isWalker lkX12_379 (s_54 hB0.1.1) cl_12 rfl (Nat.le_of_ble_eq_true rfl) ⟨rfl, rfl⟩ (Nat.le_of_ble_eq_true rfl) (Nat.le_of_ble_eq_true rfl) (Nat.le_of_ble_eq_true rfl) ?_
  rintro x1 _ ⟨rfl, h2, h3, h4, h5⟩
  refine vc_if_eq dX12_turn_4 (fun h6 => ?_) (fun h6 => ?_)
  · refine vc_iconst dX12_turn_16 rfl ?_
    refine vc_iret dX12_turn_17 rfl (Nat.le_of_ble_eq_true rfl) (Nat.le_of_ble_eq_true rfl) ?_
    refine ⟨_, rfl, hB0, rfl, fun S S' r9 hA hC => ?_⟩
    have c0 := hA.2.1.2.2.1
    rcases hC with ⟨hc, e2, e1⟩ | ⟨hc, e2, e1⟩
    · exfalso; omega
    · rw [e2]; exact ⟨by omega, hA⟩
  · refine vc_iload_n dX12_turn_7 rfl ?_
    refine vc_iconst dX12_turn_8 rfl ?_
    refine vc_iconst dX12_turn_9 rfl ?_
    refine vc_cSI dX12_turn_10 (sfX12_isInF (M := M) hB0.1  s 1 3 ) rfl okX12_isIn stX12_isIn lkX12_83 rfl (Nat.le_of_ble_eq_true rfl) ⟨rfl, rfl⟩ (Nat.le_of_ble_eq_true rfl) (Nat.le_of_ble_eq_true rfl) (Nat.le_of_ble_eq_true rfl) ?_
    rintro x7 _ ⟨rfl, h8, h9, h10⟩
    refine vc_if_ne dX12_turn_13 (fun h11 => ?_) (fun h11 => ?_)
    · refine vc_aload_n dX12_turn_18 rfl ?_
      refine vc_cVU dX12_turn_19 (sfX12_keepF (M := M) hB0.1   ) rfl okX12_keep viX12_keep lkX12_373 (s_54 hB0.1.1) cl_12 rfl (Nat.le_of_ble_eq_true rfl) ⟨rfl, rfl⟩ (Nat.le_of_ble_eq_true rfl) (Nat.le_of_ble_eq_true rfl) (Nat.le_of_ble_eq_true rfl) ?_
      rintro M12 ⟨hB13, kp14, h15, h16⟩
      have hB17 : BF fR M M12 := BF.go hB0 hB13
      have kp18 : mI M12 57 = mI M 57 := kp_go rfl kp14
      have hkp := h16
      refine vc_aload_n dX12_turn_22 rfl ?_
      refine vc_getR dX12_turn_23 flX12_7 (s_54 hB17.1.1) rfl (r_54_0 hB17.1.1) ?_
      refine vc_sipush dX12_turn_26 rfl ?_
      refine vc_aload_n dX12_turn_29 rfl ?_
      refine vc_getR dX12_turn_30 flX12_7 (s_54 hB17.1.1) rfl (r_54_0 hB17.1.1) ?_
      refine vc_sipush dX12_turn_33 rfl ?_
      refine vc_iaload dX12_turn_36 (s_55 hB17.1.1) (by omega) (by omega) ?_
      refine vc_topI (mI M12 55 257) rfl ?_
      have k19 : 0 ≤ mI M12 55 257 ∧ mI M12 55 257 ≤ 3 := b55_257 (M := M12) hB17.1
      refine vc_iload_n dX12_turn_37 rfl ?_
      refine vc_cSI dX12_turn_38 (sfX12_turnedF (M := M12) hB17.1  (mI M12 55 257) s (by omega) (by omega)) rfl okX12_turned stX12_turned lkX12_391 rfl (Nat.le_of_ble_eq_true rfl) ⟨rfl, rfl⟩ (Nat.le_of_ble_eq_true rfl) (Nat.le_of_ble_eq_true rfl) (Nat.le_of_ble_eq_true rfl) ?_
      rintro x20 _ ⟨rfl, h21, h22, h23⟩
      refine vc_iastore dX12_turn_41 (s_55 hB17.1.1) (by omega) (by omega) ?_
      refine vc_mem (sI M12 55 257 x20) rfl ?_
      have kp24 : mI (sI M12 55 257 x20) 57 = mI M 57 := (kp_sI kp18 rfl)
      have hB25 : BF fR M (sI M12 55 257 x20) := BF.a (x := 257) hB17 (by omega) (by omega) (by unfold aB; refine ⟨?_, ?_, ?_, ?_, ?_, ?_, ?_, ?_, ?_, ?_, ?_, ?_, ?_, ?_, ?_, ?_, ?_, ?_⟩ <;> intros <;> omega) (by omega) (by omega) (by omega) (by omega) (by omega) (by omega) fR_55
      refine vc_aload_n dX12_turn_42 rfl ?_
      refine vc_getR dX12_turn_43 flX12_7 (s_54 hB25.1.1) rfl (r_54_0 hB25.1.1) ?_
      refine vc_sipush dX12_turn_46 rfl ?_
      refine vc_iaload dX12_turn_49 (s_55 hB25.1.1) (by omega) (by omega) ?_
      refine vc_topI (x20) rfl ?_
      refine vc_iret dX12_turn_50 rfl (Nat.le_of_ble_eq_true rfl) (Nat.le_of_ble_eq_true rfl) ?_
      refine ⟨_, rfl, hB25, kp24, fun S S' r9 hA hC => ?_⟩
      have c0 := hA.2.1.2.2.1
      rcases hC with ⟨hc, e2, e1⟩ | ⟨hc, e2, e1⟩
      · have z := hkp S hA
        have z1 := z.2.1.2.2.2
        have z2 : mI (sI M12 55 257 x20) 55 257 = x20 := mI_same
        have z3 : x20 = if s = 3 then (fKp S 16 1 + 2) % 4 else sdS (fKp S 16 1) s := by unfold sdS; rw [← z1]; by_cases y3 : s = 3; (rw [if_pos y3]; omega); (rw [if_neg y3]; by_cases y1 : s = 1; (rw [if_pos y1]; omega); (rw [if_neg y1, if_pos (by omega)]; omega))
        have z4 : S' 16 1 = x20 := by rw [e2, z3]; exact up_same
        refine ⟨by rw [e1, z4]; first | done | exact z2, ?_⟩
        rw [e2]; unfold fFa; rw [← z3]; exact AR_face z ⟨by omega, by omega⟩ z2 (fun j j1 j2 => by rw [mI_sI, if_neg (by omega)])
      · exfalso; omega
    · refine vc_iconst dX12_turn_16 rfl ?_
      refine vc_iret dX12_turn_17 rfl (Nat.le_of_ble_eq_true rfl) (Nat.le_of_ble_eq_true rfl) ?_
      refine ⟨_, rfl, hB0, rfl, fun S S' r9 hA hC => ?_⟩
      have c0 := hA.2.1.2.2.1
      rcases hC with ⟨hc, e2, e1⟩ | ⟨hc, e2, e1⟩
      · exfalso; omega
      · rw [e2]; exact ⟨by omega, hA⟩

set_option maxRecDepth 4000 in
theorem sfX12_askNowF {l : Launch} {M : Mem} (hB : Box M) (S : Sw) (t : Int) (p0 : 0 ≤ t) (p1 : t ≤ 5) (p2 : AR (mI M 55) S) (p3 : t < S 1 8) (p4 : LwS S (mI M 57)) (p5 : asB S 1000000) : Call l mdX12_askNow [aR 54, aI t] M (fun q N => q = none ∧ BF fR M N ∧ mI N 57 = mI M 57 ∧ AR (mI N 55) (fHe t S)) := by
  have hB0 : BF fR M M := BF.start hB
  refine Call.of [some (aR 54), some (aI t)] rfl (Nat.le_of_ble_eq_true rfl) rfl ?_
  refine vc_aload_n dX12_askNow_0 rfl ?_
  refine vc_getR dX12_askNow_1 flX12_7 (s_54 hB0.1.1) rfl (r_54_0 hB0.1.1) ?_
  refine vc_sipush dX12_askNow_4 rfl ?_
  refine vc_dup2 dX12_askNow_7 rfl rfl ?_
  refine vc_iaload dX12_askNow_8 (s_55 hB0.1.1) (by omega) (by omega) ?_
  refine vc_topI (mI M 55 258) rfl ?_
  refine vc_aload_n dX12_askNow_9 rfl ?_
  refine vc_iload_n dX12_askNow_10 rfl ?_
  refine vc_cVI dX12_askNow_11 (sfX12_asksOfF (M := M) hB0.1 S t (by omega) (by omega) (by exact p2.1) (by exact p3) (by exact p2.2.2.1) (by exact p4) (by exact p5)) rfl okX12_asksOf viX12_asksOf lkX12_394 (s_54 hB0.1.1) cl_12 rfl (Nat.le_of_ble_eq_true rfl) ⟨rfl, rfl⟩ (Nat.le_of_ble_eq_true rfl) (Nat.le_of_ble_eq_true rfl) (Nat.le_of_ble_eq_true rfl) ?_
  rintro x2 M3 ⟨hB4, kp5, kp6, kp7, kp8, kp9, kp10, h11⟩
  have hB12 : BF fR M M3 := BF.go hB0 hB4.sq.r
  have kp13 : mI M3 57 = mI M 57 := kp_go rfl kp7
  have kp14 : mI M3 55 = mI M 55 := kp_go rfl kp6
  have hak := h11
  refine vc_iadd dX12_askNow_14 ?_
  refine vc_iastore dX12_askNow_15 (s_55 hB12.1.1) (by omega) (by omega) ?_
  refine vc_mem (sI M3 55 258 (wI ((mI M 55 258) + x2))) rfl ?_
  have kp15 : mI (sI M3 55 258 (wI ((mI M 55 258) + x2))) 57 = mI M 57 := (kp_sI kp13 rfl)
  have hB16 : BF fR M (sI M3 55 258 (wI ((mI M 55 258) + x2))) := BF.a (x := 258) hB12 (by omega) (by omega) (by unfold aB; refine ⟨?_, ?_, ?_, ?_, ?_, ?_, ?_, ?_, ?_, ?_, ?_, ?_, ?_, ?_, ?_, ?_, ?_, ?_⟩ <;> intros <;> omega) (by omega) (by omega) (by omega) (by omega) (by omega) (by omega) fR_55
  refine vc_aload_n dX12_askNow_16 rfl ?_
  refine vc_getR dX12_askNow_17 flX12_7 (s_54 hB16.1.1) rfl (r_54_0 hB16.1.1) ?_
  refine vc_sipush dX12_askNow_20 rfl ?_
  refine vc_iconst dX12_askNow_23 rfl ?_
  refine vc_iload_n dX12_askNow_24 rfl ?_
  refine vc_imulE dX12_askNow_25 (by omega) (by omega) ?_
  refine vc_iaddE dX12_askNow_26 (by omega) (by omega) ?_
  refine vc_iconst dX12_askNow_27 rfl ?_
  refine vc_iaddE dX12_askNow_28 (by omega) (by omega) ?_
  refine vc_dup2 dX12_askNow_29 rfl rfl ?_
  refine vc_iaload dX12_askNow_30 (s_55 hB16.1.1) (by omega) (by omega) ?_
  refine vc_iconst dX12_askNow_31 rfl ?_
  refine vc_iadd dX12_askNow_32 ?_
  refine vc_iastore dX12_askNow_33 (s_55 hB16.1.1) (by omega) (by omega) ?_
  have kp17 : mI (sI (sI M3 55 258 (wI ((mI M 55 258) + x2))) 55 (((154 + (5 * t)) + 4).toNat) (wI ((mI (sI M3 55 258 (wI ((mI M 55 258) + x2))) 55 (((154 + (5 * t)) + 4).toNat)) + 1))) 57 = mI M 57 := (kp_sI kp15 rfl)
  have hB18 : BF fR M (sI (sI M3 55 258 (wI ((mI M 55 258) + x2))) 55 (((154 + (5 * t)) + 4).toNat) (wI ((mI (sI M3 55 258 (wI ((mI M 55 258) + x2))) 55 (((154 + (5 * t)) + 4).toNat)) + 1))) := BF.a (x := (154 + (5 * t)) + 4) hB16 (by omega) (by omega) (by unfold aB; refine ⟨?_, ?_, ?_, ?_, ?_, ?_, ?_, ?_, ?_, ?_, ?_, ?_, ?_, ?_, ?_, ?_, ?_, ?_⟩ <;> intros <;> omega) (by omega) (by omega) (by omega) (by omega) (by omega) (by omega) fR_55
  refine vc_vret dX12_askNow_34 rfl (Nat.le_of_ble_eq_true rfl) (Nat.le_of_ble_eq_true rfl) ?_
  have z4 : mI (sI (sI M3 55 258 (wI ((mI M 55 258) + x2))) 55 (((154 + (5 * t)) + 4).toNat) (wI ((mI (sI M3 55 258 (wI ((mI M 55 258) + x2))) 55 (((154 + (5 * t)) + 4).toNat)) + 1))) 55 (154 + 5 * t + 4).toNat = wI (mI M 55 (154 + 5 * t + 4).toNat + 1) := by rw [mI_sI, if_pos (by omega)]; first | done | (rw [mI_sI, if_neg (by omega), congrFun kp14 _]) | (rw [congrFun kp14 _]) | (congr 2; rw [mI_sI, if_neg (by omega), congrFun kp14 _])
  have z2 : mI (sI (sI M3 55 258 (wI ((mI M 55 258) + x2))) 55 (((154 + (5 * t)) + 4).toNat) (wI ((mI (sI M3 55 258 (wI ((mI M 55 258) + x2))) 55 (((154 + (5 * t)) + 4).toNat)) + 1))) 55 258 = wI (S 16 2 + akS S t) := by rw [mI_sI, if_neg (by omega), mI_sI, if_pos ⟨rfl, rfl⟩, hak, p2.sec]
  refine ⟨rfl, hB18, kp17, ?_⟩
  have ca := p2.2.2.1 t.toNat (by omega)
  rw [show 154 + 5 * t.toNat + 4 = (154 + 5 * t + 4).toNat by omega, show 4 + t.toNat = (4 + t).toNat by omega] at ca
  unfold fHe; rw [← ca]
  exact AR_ask p2 ⟨by omega, p3⟩ z4 z2 (fun j j1 j2 j3 => by (repeat rw [mI_sI, if_neg (by omega)]); exact congrFun kp14 j)

set_option maxRecDepth 4000 in
theorem sfX12_askF {l : Launch} {M : Mem} (hB : Box M) (S : Sw) (t : Int) (p0 : AR (mI M 55) S) (p1 : LwS S (mI M 57)) (p2 : asB S 1000000) : Call l mdX12_ask [aR 54, aI t] M (fun q N => ∃ r : Int, q = some (aI r) ∧ BF fR M N ∧ mI N 57 = mI M 57 ∧ (∀ (S' : Sw) (r9 : Int), AskS t S S' r9 → r = r9 ∧ AR (mI N 55) S')) := by
  have hB0 : BF fR M M := BF.start hB
  refine Call.of [some (aR 54), some (aI t)] rfl (Nat.le_of_ble_eq_true rfl) rfl ?_
  refine vc_ok (fun hoM hoS hoL => ?_)
  have hr1 : -2147483648 ≤ t ∧ t < 2147483648 := hoL 1 _ rfl
  refine vc_aload_n dX12_ask_0 rfl ?_
  refine vc_iload_n dX12_ask_1 rfl ?_
  refine vc_cVI dX12_ask_2 (sfX12_isTellerF (M := M) hB0.1  t ) rfl okX12_isTeller viX12_isTeller lkX12_103 (s_54 hB0.1.1) cl_12 rfl (Nat.le_of_ble_eq_true rfl) ⟨rfl, rfl⟩ (Nat.le_of_ble_eq_true rfl) (Nat.le_of_ble_eq_true rfl) (Nat.le_of_ble_eq_true rfl) ?_
  rintro x1 _ ⟨rfl, h2, h3, h4, h5⟩
  refine vc_if_eq dX12_ask_5 (fun h6 => ?_) (fun h6 => ?_)
  · refine vc_iconst dX12_ask_31 rfl ?_
    refine vc_iret dX12_ask_32 rfl (Nat.le_of_ble_eq_true rfl) (Nat.le_of_ble_eq_true rfl) ?_
    refine ⟨_, rfl, hB0, rfl, fun S' r9 hC => ?_⟩
    have c0 := p0.2.1.2.2.1
    have c2 := p0.1.1.2.2.1
    have hb2 := b55_2 hB
    have ct : 0 ≤ t → t < mI M 55 2 → mI M 55 (154 + 5 * t).toNat = S 5 (4 * t).toNat := fun t0 t1 => by have z := p0.1.2.2.1 t.toNat (by omega) 0 (by decide); rw [show 154 + 5 * t.toNat + 0 = (154 + 5 * t).toNat by omega, show 4 * t.toNat + 0 = (4 * t).toNat by omega] at z; exact z
    rcases hC with ⟨hc, e2, e1⟩ | ⟨hc, e2, e1⟩
    · exfalso; have y := ct (by omega) (by omega); omega
    · rw [e2]; exact ⟨by omega, p0⟩
  · refine vc_aload_n dX12_ask_8 rfl ?_
    refine vc_cVI dX12_ask_9 (sfX12_isWalkerF (M := M) hB0.1   ) rfl okX12_isWalker viX12_isWalker lkX12_379 (s_54 hB0.1.1) cl_12 rfl (Nat.le_of_ble_eq_true rfl) ⟨rfl, rfl⟩ (Nat.le_of_ble_eq_true rfl) (Nat.le_of_ble_eq_true rfl) (Nat.le_of_ble_eq_true rfl) ?_
    rintro x7 _ ⟨rfl, h8, h9, h10, h11⟩
    refine vc_if_eq dX12_ask_12 (fun h12 => ?_) (fun h12 => ?_)
    · refine vc_iconst dX12_ask_31 rfl ?_
      refine vc_iret dX12_ask_32 rfl (Nat.le_of_ble_eq_true rfl) (Nat.le_of_ble_eq_true rfl) ?_
      refine ⟨_, rfl, hB0, rfl, fun S' r9 hC => ?_⟩
      have c0 := p0.2.1.2.2.1
      have c2 := p0.1.1.2.2.1
      have hb2 := b55_2 hB
      have ct : 0 ≤ t → t < mI M 55 2 → mI M 55 (154 + 5 * t).toNat = S 5 (4 * t).toNat := fun t0 t1 => by have z := p0.1.2.2.1 t.toNat (by omega) 0 (by decide); rw [show 154 + 5 * t.toNat + 0 = (154 + 5 * t).toNat by omega, show 4 * t.toNat + 0 = (4 * t).toNat by omega] at z; exact z
      rcases hC with ⟨hc, e2, e1⟩ | ⟨hc, e2, e1⟩
      · exfalso; have y := ct (by omega) (by omega); omega
      · rw [e2]; exact ⟨by omega, p0⟩
    · refine vc_aload_n dX12_ask_15 rfl ?_
      refine vc_iload_n dX12_ask_16 rfl ?_
      refine vc_cVI dX12_ask_17 (sfX12_cornerOfF (M := M) hB0.1  t (by omega) (by omega)) rfl okX12_cornerOf viX12_cornerOf lkX12_296 (s_54 hB0.1.1) cl_12 rfl (Nat.le_of_ble_eq_true rfl) ⟨rfl, rfl⟩ (Nat.le_of_ble_eq_true rfl) (Nat.le_of_ble_eq_true rfl) (Nat.le_of_ble_eq_true rfl) ?_
      rintro x13 _ ⟨rfl, h14, h15, h16⟩
      refine vc_aload_n dX12_ask_20 rfl ?_
      refine vc_getR dX12_ask_21 flX12_7 (s_54 hB0.1.1) rfl (r_54_0 hB0.1.1) ?_
      refine vc_sipush dX12_ask_24 rfl ?_
      refine vc_iaload dX12_ask_27 (s_55 hB0.1.1) (by omega) (by omega) ?_
      refine vc_topI (mI M 55 256) rfl ?_
      have k17 : (-1) ≤ mI M 55 256 ∧ mI M 55 256 ≤ 15 := b55_256 (M := M) hB0.1
      refine vc_icmp_eq dX12_ask_28 (fun h18 => ?_) (fun h18 => ?_)
      · refine vc_aload_n dX12_ask_33 rfl ?_
        refine vc_cVU dX12_ask_34 (sfX12_keepF (M := M) hB0.1   ) rfl okX12_keep viX12_keep lkX12_373 (s_54 hB0.1.1) cl_12 rfl (Nat.le_of_ble_eq_true rfl) ⟨rfl, rfl⟩ (Nat.le_of_ble_eq_true rfl) (Nat.le_of_ble_eq_true rfl) (Nat.le_of_ble_eq_true rfl) ?_
        rintro M19 ⟨hB20, kp21, h22, h23⟩
        have hB24 : BF fR M M19 := BF.go hB0 hB20
        have kp25 : mI M19 57 = mI M 57 := kp_go rfl kp21
        have hA1 : AR (mI M19 55) (fKp S) := h23 S p0
        have hL1 : LwS (fKp S) (mI M19 57) := by rw [kp25]; exact p1.lk Lk.kp
        have hw4 := p0.2.2.2.2.1
        have ha1 : asB (fKp S) 1000000 := p2.kp hw4.2.2.1 hw4.2.2.2.1
        have o8 : fKp S 1 8 = S 1 8 := fKp_o (by decide) (by decide)
        have c2 := p0.1.1.2.2.1
        refine vc_aload_n dX12_ask_37 rfl ?_
        refine vc_iload_n dX12_ask_38 rfl ?_
        refine vc_cVU dX12_ask_39 (sfX12_askNowF (M := M19) hB24.1 (fKp S) t (by omega) (by omega) (by exact hA1) (by omega) (by exact hL1) (by exact ha1)) rfl okX12_askNow viX12_askNow lkX12_397 (s_54 hB24.1.1) cl_12 rfl (Nat.le_of_ble_eq_true rfl) ⟨rfl, rfl⟩ (Nat.le_of_ble_eq_true rfl) (Nat.le_of_ble_eq_true rfl) (Nat.le_of_ble_eq_true rfl) ?_
        rintro M26 ⟨hB27, kp28, h29⟩
        have hB30 : BF fR M M26 := BF.go hB24 hB27
        have kp31 : mI M26 57 = mI M 57 := kp_go kp25 kp28
        have han := h29
        refine vc_aload_n dX12_ask_42 rfl ?_
        refine vc_getR dX12_ask_43 flX12_7 (s_54 hB30.1.1) rfl (r_54_0 hB30.1.1) ?_
        refine vc_sipush dX12_ask_46 rfl ?_
        refine vc_iconst dX12_ask_49 rfl ?_
        refine vc_iload_n dX12_ask_50 rfl ?_
        refine vc_imulE dX12_ask_51 (by omega) (by omega) ?_
        refine vc_iaddE dX12_ask_52 (by omega) (by omega) ?_
        refine vc_iconst dX12_ask_53 rfl ?_
        refine vc_iaddE dX12_ask_54 (by omega) (by omega) ?_
        refine vc_iaload dX12_ask_55 (s_55 hB30.1.1) (by omega) (by omega) ?_
        refine vc_iret dX12_ask_56 rfl (Nat.le_of_ble_eq_true rfl) (Nat.le_of_ble_eq_true rfl) ?_
        refine ⟨_, rfl, hB30, kp31, fun S' r9 hC => ?_⟩
        have c0 := p0.2.1.2.2.1
        have c2 := p0.1.1.2.2.1
        have hb2 := b55_2 hB
        have ct : 0 ≤ t → t < mI M 55 2 → mI M 55 (154 + 5 * t).toNat = S 5 (4 * t).toNat := fun t0 t1 => by have z := p0.1.2.2.1 t.toNat (by omega) 0 (by decide); rw [show 154 + 5 * t.toNat + 0 = (154 + 5 * t).toNat by omega, show 4 * t.toNat + 0 = (4 * t).toNat by omega] at z; exact z
        rcases hC with ⟨hc, e2, e1⟩ | ⟨hc, e2, e1⟩
        · have z := han
          rw [e1, e2]; have ca := z.2.2.1 t.toNat (by omega)
          rw [show 154 + 5 * t.toNat + 4 = (154 + 5 * t + 4).toNat by omega, show 4 + t.toNat = (4 + t).toNat by omega] at ca; exact ⟨ca, z⟩
        · exfalso; have y := ct (by omega) (by omega); omega
      · refine vc_iconst dX12_ask_31 rfl ?_
        refine vc_iret dX12_ask_32 rfl (Nat.le_of_ble_eq_true rfl) (Nat.le_of_ble_eq_true rfl) ?_
        refine ⟨_, rfl, hB0, rfl, fun S' r9 hC => ?_⟩
        have c0 := p0.2.1.2.2.1
        have c2 := p0.1.1.2.2.1
        have hb2 := b55_2 hB
        have ct : 0 ≤ t → t < mI M 55 2 → mI M 55 (154 + 5 * t).toNat = S 5 (4 * t).toNat := fun t0 t1 => by have z := p0.1.2.2.1 t.toNat (by omega) 0 (by decide); rw [show 154 + 5 * t.toNat + 0 = (154 + 5 * t).toNat by omega, show 4 * t.toNat + 0 = (4 * t).toNat by omega] at z; exact z
        rcases hC with ⟨hc, e2, e1⟩ | ⟨hc, e2, e1⟩
        · exfalso; have y := ct (by omega) (by omega); omega
        · rw [e2]; exact ⟨by omega, p0⟩

