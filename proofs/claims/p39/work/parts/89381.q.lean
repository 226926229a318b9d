set_option maxHeartbeats 4000000 in
set_option maxRecDepth 4000 in
theorem sfX12_behindOneF {l : Launch} {M : Mem} (hB : Box M) (S : Int) (g : Nat → Int) (n p : Int) (hT : RT g n M p) (sk : List Int) (hS : SJ M sk) (w : Int)  (p0 : PI M S) (p1 : mI M 54 14 = 873 * mI M 55 5) (p2 : mI M 54 10 ≤ mI M 54 9) (p3 : mI M 54 11 = 0 ∨ mI M 54 10 < mI M 54 9) (p4 : mI M 54 20 = 1) (p5 : mI M 54 16 = w) (p6 : 0 ≤ w) (p7 : w ≤ 4) : Call l mdX12_behindOne [aR 54] M (fun q N => ∃ r : Int, q = some (aI r) ∧ BF fT M N ∧ mI N 55 = mI M 55 ∧ 0 ≤ r ∧ r ≤ 1 ∧ PI N S ∧ (r ≠ 0 ∨ mI M 54 10 < mI N 54 10) ∧ mI N 54 10 ≤ mI N 54 9 ∧ (mI N 54 11 = 0 ∨ mI N 54 10 < mI N 54 9) ∧ mI N 54 14 = mI M 54 14 ∧ mI N 54 16 = mI M 54 16 ∧ mI N 54 21 = mI M 54 21 ∧ (∀ j : Nat, (j : Int) < mI M 54 14 + 265 + 2 * S → mI N 57 j = mI M 57 j) ∧ mI M 54 10 ≤ mI N 54 10 ∧ (r = 0 ∨ mI N 54 20 = 1) ∧ ((BH g n w N r p sk) ∧ BOc g n S M N r p true ∧ (r = 1 → Pl N = Pl M ∧ Co N S = Co M S))) := by
  have hB0 : BF fT M M := BF.start hB
  refine Call.of [some (aR 54), none, none, none, none] rfl (Nat.le_of_ble_eq_true rfl) rfl ?_
  have hle := p0.len
  have hk9 := b54_9 hB
  have hk5 := b55_5 hB
  have rg1 := RT.rg hT
  have hs43 := RT.sg hT 43 (t := -257) (by decide) (by decide)
  refine vc_aload_n dX12_behindOne_0 rfl ?_
  refine vc_getI dX12_behindOne_1 flX12_129 (s_54 hB0.1.1) rfl ?_
  refine vc_bipush dX12_behindOne_4 rfl ?_
  refine vc_icmp_ne dX12_behindOne_6 (fun h2 => ?_) (fun h2 => ?_)
  · have hn43 : tk g n p ≠ -257 := fun e => absurd (hs43.mpr e) (by omega)
    clear hs43
    have hs45 := RT.sg hT 45 (t := -255) (by decide) (by decide)
    refine vc_aload_n dX12_behindOne_13 rfl ?_
    refine vc_getI dX12_behindOne_14 flX12_129 (s_54 hB0.1.1) rfl ?_
    refine vc_bipush dX12_behindOne_17 rfl ?_
    refine vc_icmp_ne dX12_behindOne_19 (fun h3 => ?_) (fun h3 => ?_)
    · have hn45 : tk g n p ≠ -255 := fun e => absurd (hs45.mpr e) (by omega)
      clear hs45
      have hs42 := RT.sg hT 42 (t := -258) (by decide) (by decide)
      refine vc_aload_n dX12_behindOne_26 rfl ?_
      refine vc_getI dX12_behindOne_27 flX12_129 (s_54 hB0.1.1) rfl ?_
      refine vc_bipush dX12_behindOne_30 rfl ?_
      refine vc_icmp_ne dX12_behindOne_32 (fun h4 => ?_) (fun h4 => ?_)
      · have hn42 : tk g n p ≠ -258 := fun e => absurd (hs42.mpr e) (by omega)
        clear hs42
        have hs47 := RT.sg hT 47 (t := -253) (by decide) (by decide)
        refine vc_aload_n dX12_behindOne_39 rfl ?_
        refine vc_getI dX12_behindOne_40 flX12_129 (s_54 hB0.1.1) rfl ?_
        refine vc_bipush dX12_behindOne_43 rfl ?_
        refine vc_icmp_ne dX12_behindOne_45 (fun h5 => ?_) (fun h5 => ?_)
        · have hn47 : tk g n p ≠ -253 := fun e => absurd (hs47.mpr e) (by omega)
          clear hs47
          refine vc_iconst dX12_behindOne_53 rfl ?_
          refine vc_istore_n dX12_behindOne_54 (by decide) rfl (show _ = [some (aR 54), some (aI (-1)), none, none, none] from rfl) ?_
          refine vc_iload_n dX12_behindOne_55 rfl ?_
          refine vc_if_lt dX12_behindOne_56 (fun h6 => ?_) (fun h6 => by exfalso; omega)
          refine vc_aload_n dX12_behindOne_98 rfl ?_
          refine vc_cVI dX12_behindOne_99 (sfX12_openAt (M := M) hB0.1   (by omega)) rfl okX12_openAt viX12_openAt lkX12_217 (s_54 hB0.1.1) cl_12 rfl (Nat.le_of_ble_eq_true rfl) ⟨rfl, rfl⟩ (Nat.le_of_ble_eq_true rfl) (Nat.le_of_ble_eq_true rfl) (Nat.le_of_ble_eq_true rfl) ?_
          rintro x7 _ ⟨rfl, h8, h9, h10, h11⟩
          have hq1 := h10
          have hq2 := h11
          refine vc_istore_n dX12_behindOne_102 (by decide) rfl (show _ = [some (aR 54), some (aI (-1)), some (aI x7), none, none] from rfl) ?_
          refine vc_iload_n dX12_behindOne_103 rfl ?_
          refine vc_if_ge dX12_behindOne_104 (fun h12 => ?_) (fun h12 => ?_)
          · obtain ⟨hop, hom⟩ := SJ.opn (k := x7.toNat) hS (by omega) p0 (by omega) (by omega) (fun q a b => hq2 q (by omega) b)
            have hop4 : 40 ≤ mI M 60 x7.toNat ∧ mI M 60 x7.toNat ≤ 44 := by have z := PI.at (k := x7.toNat) p0 (by omega); omega
            have hq3 : x7 < mI M 54 18 := by omega
            clear hq1
            refine vc_aload_n dX12_behindOne_111 rfl ?_
            refine vc_getR dX12_behindOne_112 flX12_32 (s_54 hB0.1.1) rfl (r_54_17 hB0.1.1) ?_
            refine vc_iload_n dX12_behindOne_115 rfl ?_
            refine vc_iaload dX12_behindOne_116 (s_60 hB0.1.1) (by omega) (by omega) ?_
            refine vc_nameI (fun x13 ex13 => ?_)
            refine vc_istore_n dX12_behindOne_117 (by decide) rfl (show _ = [some (aR 54), some (aI (-1)), some (aI x7), some (aI x13), none] from rfl) ?_
            have hs44 := RT.sg hT 44 (t := -256) (by decide) (by decide)
            refine vc_aload_n dX12_behindOne_118 rfl ?_
            refine vc_getI dX12_behindOne_119 flX12_129 (s_54 hB0.1.1) rfl ?_
            refine vc_bipush dX12_behindOne_122 rfl ?_
            refine vc_icmp_ne dX12_behindOne_124 (fun h14 => ?_) (fun h14 => ?_)
            · have hn44 : tk g n p ≠ -256 := fun e => absurd (hs44.mpr e) (by omega)
              clear hs44
              refine vc_iload_n dX12_behindOne_165 rfl ?_
              refine vc_bipush dX12_behindOne_166 rfl ?_
              refine vc_icmp_ne dX12_behindOne_168 (fun h15 => ?_) (fun h15 => ?_)
              · refine vc_iload_n dX12_behindOne_188 rfl ?_
                refine vc_bipush dX12_behindOne_189 rfl ?_
                refine vc_icmp_eq dX12_behindOne_191 (fun h16 => ?_) (fun h16 => ?_)
                · have hw2 := RT.w2 hT
                  refine vc_aload_n dX12_behindOne_200 rfl ?_
                  refine vc_bipush dX12_behindOne_201 rfl ?_
                  refine vc_bipush dX12_behindOne_203 rfl ?_
                  refine vc_bipush dX12_behindOne_205 rfl ?_
                  refine vc_cSL dX12_behindOne_207 (sfX12_w3F (M := M) hB0.1  101 110 100 ) rfl okX12_w3 stX12_w3 lkX12_155 rfl (Nat.le_of_ble_eq_true rfl) ⟨rfl, rfl⟩ (Nat.le_of_ble_eq_true rfl) (Nat.le_of_ble_eq_true rfl) (Nat.le_of_ble_eq_true rfl) ?_
                  rintro x17 _ ⟨rfl, h18⟩
                  have hw19 : x17 = 6647396 := h18.trans (by decide +kernel)
                  refine vc_cVI dX12_behindOne_210 (sfX12_isWordF (M := M) hB0.1  x17 ) rfl okX12_isWord viX12_isWord lkX12_196 (s_54 hB0.1.1) cl_12 rfl (Nat.le_of_ble_eq_true rfl) ⟨rfl, rfl⟩ (Nat.le_of_ble_eq_true rfl) (Nat.le_of_ble_eq_true rfl) (Nat.le_of_ble_eq_true rfl) ?_
                  rintro x20 _ ⟨rfl, h21, h22, h23⟩
                  have hz24 := isw h23 (RT.iw hT 20 (by decide) (hw19.trans pk_20) (t := 121) (by decide))
                  clear h23
                  refine vc_if_eq dX12_behindOne_213 (fun h25 => ?_) (fun h25 => ?_)
                  · have hn121 : tk g n p ≠ 121 := isw_no hz24 (by omega)
                    clear hz24
                    refine vc_iconst dX12_behindOne_220 rfl ?_
                    refine vc_istore dX12_behindOne_221 (by decide) rfl (show _ = [some (aR 54), some (aI (-1)), some (aI x7), some (aI x13), some (aI 0)] from rfl) ?_
                    refine vc_iload dX12_behindOne_223 rfl ?_
                    refine vc_if_ne dX12_behindOne_225 (fun h26 => by exfalso; omega) (fun h26 => ?_)
                    refine vc_iconst dX12_behindOne_228 rfl ?_
                    refine vc_iret dX12_behindOne_229 rfl (Nat.le_of_ble_eq_true rfl) (Nat.le_of_ble_eq_true rfl) ?_
                    have hEo : EOp g n p := by unfold EOp; omega
                    exact ⟨_, rfl, hB0, rfl, by omega, by omega, p0, by omega, by omega, by omega, by omega, by omega, by omega, (fun _ _ => rfl), by omega, by omega, ⟨Or.inr ⟨rfl, hS, hT, hEo, fun hne => by first | (rw [hop, cd41 (by omega)]; exact t_b41 hEo (by omega)) | (rw [hop, cd42 (by omega)]; exact t_b42 hEo (by omega)) | (rw [hop, cd40 (by omega)]; exact t_b40 hEo (by omega))⟩, (fun h => absurd h (by decide)), fun _ => ⟨rfl, rfl⟩⟩⟩
                  · have ht121 : tk g n p = 121 := isw_yes hz24 (by omega)
                    clear hz24
                    refine vc_iconst dX12_behindOne_216 rfl ?_
                    refine vc_goto dX12_behindOne_217 ?_
                    refine vc_istore dX12_behindOne_221 (by decide) rfl (show _ = [some (aR 54), some (aI (-1)), some (aI x7), some (aI x13), some (aI 1)] from rfl) ?_
                    refine vc_iload dX12_behindOne_223 rfl ?_
                    refine vc_if_ne dX12_behindOne_225 (fun h27 => ?_) (fun h27 => by exfalso; omega)
                    refine vc_aload_n dX12_behindOne_230 rfl ?_
                    refine vc_iload_n dX12_behindOne_231 rfl ?_
                    have hsh : ∃ k : Nat, (k : Int) < mI M 54 18 ∧ mI M 60 k = x13 ∧ ∀ q : Nat, k < q → (q : Int) < mI M 54 18 → mI M 60 q < 40 := ⟨x7.toNat, by omega, by omega, fun q a b => hq2 q (by omega) b⟩
                    refine vc_cVU dX12_behindOne_232 (sfX12_shutF (M := M) hB0.1  S g n p hT (stk (mI M 60) x7.toNat) x7.toNat ⟨rfl, hom, by omega, fun q a b => hq2 q (by omega) b, by omega⟩ x13 (by exact p0) (by omega) (by omega) (by omega) (by omega) (by omega) (by exact hsh) (by omega) (by omega)) rfl okX12_shut viX12_shut lkX12_220 (s_54 hB0.1.1) cl_12 rfl (Nat.le_of_ble_eq_true rfl) ⟨rfl, rfl⟩ (Nat.le_of_ble_eq_true rfl) (Nat.le_of_ble_eq_true rfl) (Nat.le_of_ble_eq_true rfl) ?_
                    rintro M28 ⟨hB29, kp30, h31, h32, h33, h34, h35, h36, h37, h38, h39⟩
                    have hB40 : BF fT M M28 := BF.go hB0 hB29
                    have kp41 : mI M28 55 = mI M 55 := kp_go rfl kp30
                    refine vc_iconst dX12_behindOne_235 rfl ?_
                    refine vc_iret dX12_behindOne_236 rfl (Nat.le_of_ble_eq_true rfl) (Nat.le_of_ble_eq_true rfl) ?_
                    exact ⟨_, rfl, hB40, kp41, by omega, by omega, h31, by omega, by omega, by omega, by omega, by omega, by omega, h38, by omega, by omega, ⟨Or.inl ⟨rfl, _, _, h39.1.1, h39.1.2.2, fun o z => by first | (rw [hop, cd40 (by omega)]; exact t_shut (by omega) (rn_t h39.1.2.1 z)) | (rw [hop, cd42 (by omega)]; exact t_end (by omega) (rn_t h39.1.2.1 z))⟩, (by first | exact BOc.sh0 h39.2 h39.1.2.2 h39.1.2.1 (by omega) (by omega) (by omega) | exact BOc.sh2 h39.2 h39.1.2.2 h39.1.2.1 (by omega) (by omega) (by omega)), fun h => absurd h (by decide)⟩⟩
                · refine vc_iload_n dX12_behindOne_194 rfl ?_
                  refine vc_bipush dX12_behindOne_195 rfl ?_
                  refine vc_icmp_ne dX12_behindOne_197 (fun h42 => ?_) (fun h42 => ?_)
                  · refine vc_iconst dX12_behindOne_220 rfl ?_
                    refine vc_istore dX12_behindOne_221 (by decide) rfl (show _ = [some (aR 54), some (aI (-1)), some (aI x7), some (aI x13), some (aI 0)] from rfl) ?_
                    refine vc_iload dX12_behindOne_223 rfl ?_
                    refine vc_if_ne dX12_behindOne_225 (fun h43 => by exfalso; omega) (fun h43 => ?_)
                    refine vc_iconst dX12_behindOne_228 rfl ?_
                    refine vc_iret dX12_behindOne_229 rfl (Nat.le_of_ble_eq_true rfl) (Nat.le_of_ble_eq_true rfl) ?_
                    have hEo : EOp g n p := by unfold EOp; omega
                    exact ⟨_, rfl, hB0, rfl, by omega, by omega, p0, by omega, by omega, by omega, by omega, by omega, by omega, (fun _ _ => rfl), by omega, by omega, ⟨Or.inr ⟨rfl, hS, hT, hEo, fun hne => by first | (rw [hop, cd41 (by omega)]; exact t_b41 hEo (by omega)) | (rw [hop, cd42 (by omega)]; exact t_b42 hEo (by omega)) | (rw [hop, cd40 (by omega)]; exact t_b40 hEo (by omega))⟩, (fun h => absurd h (by decide)), fun _ => ⟨rfl, rfl⟩⟩⟩
                  · have hw2 := RT.w2 hT
                    refine vc_aload_n dX12_behindOne_200 rfl ?_
                    refine vc_bipush dX12_behindOne_201 rfl ?_
                    refine vc_bipush dX12_behindOne_203 rfl ?_
                    refine vc_bipush dX12_behindOne_205 rfl ?_
                    refine vc_cSL dX12_behindOne_207 (sfX12_w3F (M := M) hB0.1  101 110 100 ) rfl okX12_w3 stX12_w3 lkX12_155 rfl (Nat.le_of_ble_eq_true rfl) ⟨rfl, rfl⟩ (Nat.le_of_ble_eq_true rfl) (Nat.le_of_ble_eq_true rfl) (Nat.le_of_ble_eq_true rfl) ?_
                    rintro x44 _ ⟨rfl, h45⟩
                    have hw46 : x44 = 6647396 := h45.trans (by decide +kernel)
                    refine vc_cVI dX12_behindOne_210 (sfX12_isWordF (M := M) hB0.1  x44 ) rfl okX12_isWord viX12_isWord lkX12_196 (s_54 hB0.1.1) cl_12 rfl (Nat.le_of_ble_eq_true rfl) ⟨rfl, rfl⟩ (Nat.le_of_ble_eq_true rfl) (Nat.le_of_ble_eq_true rfl) (Nat.le_of_ble_eq_true rfl) ?_
                    rintro x47 _ ⟨rfl, h48, h49, h50⟩
                    have hz51 := isw h50 (RT.iw hT 20 (by decide) (hw46.trans pk_20) (t := 121) (by decide))
                    clear h50
                    refine vc_if_eq dX12_behindOne_213 (fun h52 => ?_) (fun h52 => ?_)
                    · have hn121 : tk g n p ≠ 121 := isw_no hz51 (by omega)
                      clear hz51
                      refine vc_iconst dX12_behindOne_220 rfl ?_
                      refine vc_istore dX12_behindOne_221 (by decide) rfl (show _ = [some (aR 54), some (aI (-1)), some (aI x7), some (aI x13), some (aI 0)] from rfl) ?_
                      refine vc_iload dX12_behindOne_223 rfl ?_
                      refine vc_if_ne dX12_behindOne_225 (fun h53 => by exfalso; omega) (fun h53 => ?_)
                      refine vc_iconst dX12_behindOne_228 rfl ?_
                      refine vc_iret dX12_behindOne_229 rfl (Nat.le_of_ble_eq_true rfl) (Nat.le_of_ble_eq_true rfl) ?_
                      have hEo : EOp g n p := by unfold EOp; omega
                      exact ⟨_, rfl, hB0, rfl, by omega, by omega, p0, by omega, by omega, by omega, by omega, by omega, by omega, (fun _ _ => rfl), by omega, by omega, ⟨Or.inr ⟨rfl, hS, hT, hEo, fun hne => by first | (rw [hop, cd41 (by omega)]; exact t_b41 hEo (by omega)) | (rw [hop, cd42 (by omega)]; exact t_b42 hEo (by omega)) | (rw [hop, cd40 (by omega)]; exact t_b40 hEo (by omega))⟩, (fun h => absurd h (by decide)), fun _ => ⟨rfl, rfl⟩⟩⟩
                    · have ht121 : tk g n p = 121 := isw_yes hz51 (by omega)
                      clear hz51
                      refine vc_iconst dX12_behindOne_216 rfl ?_
                      refine vc_goto dX12_behindOne_217 ?_
                      refine vc_istore dX12_behindOne_221 (by decide) rfl (show _ = [some (aR 54), some (aI (-1)), some (aI x7), some (aI x13), some (aI 1)] from rfl) ?_
                      refine vc_iload dX12_behindOne_223 rfl ?_
                      refine vc_if_ne dX12_behindOne_225 (fun h54 => ?_) (fun h54 => by exfalso; omega)
                      refine vc_aload_n dX12_behindOne_230 rfl ?_
                      refine vc_iload_n dX12_behindOne_231 rfl ?_
                      have hsh : ∃ k : Nat, (k : Int) < mI M 54 18 ∧ mI M 60 k = x13 ∧ ∀ q : Nat, k < q → (q : Int) < mI M 54 18 → mI M 60 q < 40 := ⟨x7.toNat, by omega, by omega, fun q a b => hq2 q (by omega) b⟩
                      refine vc_cVU dX12_behindOne_232 (sfX12_shutF (M := M) hB0.1  S g n p hT (stk (mI M 60) x7.toNat) x7.toNat ⟨rfl, hom, by omega, fun q a b => hq2 q (by omega) b, by omega⟩ x13 (by exact p0) (by omega) (by omega) (by omega) (by omega) (by omega) (by exact hsh) (by omega) (by omega)) rfl okX12_shut viX12_shut lkX12_220 (s_54 hB0.1.1) cl_12 rfl (Nat.le_of_ble_eq_true rfl) ⟨rfl, rfl⟩ (Nat.le_of_ble_eq_true rfl) (Nat.le_of_ble_eq_true rfl) (Nat.le_of_ble_eq_true rfl) ?_
                      rintro M55 ⟨hB56, kp57, h58, h59, h60, h61, h62, h63, h64, h65, h66⟩
                      have hB67 : BF fT M M55 := BF.go hB0 hB56
                      have kp68 : mI M55 55 = mI M 55 := kp_go rfl kp57
                      refine vc_iconst dX12_behindOne_235 rfl ?_
                      refine vc_iret dX12_behindOne_236 rfl (Nat.le_of_ble_eq_true rfl) (Nat.le_of_ble_eq_true rfl) ?_
                      exact ⟨_, rfl, hB67, kp68, by omega, by omega, h58, by omega, by omega, by omega, by omega, by omega, by omega, h65, by omega, by omega, ⟨Or.inl ⟨rfl, _, _, h66.1.1, h66.1.2.2, fun o z => by first | (rw [hop, cd40 (by omega)]; exact t_shut (by omega) (rn_t h66.1.2.1 z)) | (rw [hop, cd42 (by omega)]; exact t_end (by omega) (rn_t h66.1.2.1 z))⟩, (by first | exact BOc.sh0 h66.2 h66.1.2.2 h66.1.2.1 (by omega) (by omega) (by omega) | exact BOc.sh2 h66.2 h66.1.2.2 h66.1.2.1 (by omega) (by omega) (by omega)), fun h => absurd h (by decide)⟩⟩
              · have hs41 := RT.sg hT 41 (t := -259) (by decide) (by decide)
                refine vc_aload_n dX12_behindOne_171 rfl ?_
                refine vc_getI dX12_behindOne_172 flX12_129 (s_54 hB0.1.1) rfl ?_
                refine vc_bipush dX12_behindOne_175 rfl ?_
                refine vc_icmp_ne dX12_behindOne_177 (fun h69 => ?_) (fun h69 => ?_)
                · have hn41 : tk g n p ≠ -259 := fun e => absurd (hs41.mpr e) (by omega)
                  clear hs41
                  refine vc_iconst dX12_behindOne_184 rfl ?_
                  refine vc_goto dX12_behindOne_185 ?_
                  refine vc_istore dX12_behindOne_221 (by decide) rfl (show _ = [some (aR 54), some (aI (-1)), some (aI x7), some (aI x13), some (aI 0)] from rfl) ?_
                  refine vc_iload dX12_behindOne_223 rfl ?_
                  refine vc_if_ne dX12_behindOne_225 (fun h70 => by exfalso; omega) (fun h70 => ?_)
                  refine vc_iconst dX12_behindOne_228 rfl ?_
                  refine vc_iret dX12_behindOne_229 rfl (Nat.le_of_ble_eq_true rfl) (Nat.le_of_ble_eq_true rfl) ?_
                  have hEo : EOp g n p := by unfold EOp; omega
                  exact ⟨_, rfl, hB0, rfl, by omega, by omega, p0, by omega, by omega, by omega, by omega, by omega, by omega, (fun _ _ => rfl), by omega, by omega, ⟨Or.inr ⟨rfl, hS, hT, hEo, fun hne => by first | (rw [hop, cd41 (by omega)]; exact t_b41 hEo (by omega)) | (rw [hop, cd42 (by omega)]; exact t_b42 hEo (by omega)) | (rw [hop, cd40 (by omega)]; exact t_b40 hEo (by omega))⟩, (fun h => absurd h (by decide)), fun _ => ⟨rfl, rfl⟩⟩⟩
                · have ht41 : tk g n p = -259 := hs41.mp (by omega)
                  clear hs41
                  refine vc_iconst dX12_behindOne_180 rfl ?_
                  refine vc_goto dX12_behindOne_181 ?_
                  refine vc_istore dX12_behindOne_221 (by decide) rfl (show _ = [some (aR 54), some (aI (-1)), some (aI x7), some (aI x13), some (aI 1)] from rfl) ?_
                  refine vc_iload dX12_behindOne_223 rfl ?_
                  refine vc_if_ne dX12_behindOne_225 (fun h71 => ?_) (fun h71 => by exfalso; omega)
                  refine vc_aload_n dX12_behindOne_230 rfl ?_
                  refine vc_iload_n dX12_behindOne_231 rfl ?_
                  have hsh : ∃ k : Nat, (k : Int) < mI M 54 18 ∧ mI M 60 k = x13 ∧ ∀ q : Nat, k < q → (q : Int) < mI M 54 18 → mI M 60 q < 40 := ⟨x7.toNat, by omega, by omega, fun q a b => hq2 q (by omega) b⟩
                  refine vc_cVU dX12_behindOne_232 (sfX12_shutF (M := M) hB0.1  S g n p hT (stk (mI M 60) x7.toNat) x7.toNat ⟨rfl, hom, by omega, fun q a b => hq2 q (by omega) b, by omega⟩ x13 (by exact p0) (by omega) (by omega) (by omega) (by omega) (by omega) (by exact hsh) (by omega) (by omega)) rfl okX12_shut viX12_shut lkX12_220 (s_54 hB0.1.1) cl_12 rfl (Nat.le_of_ble_eq_true rfl) ⟨rfl, rfl⟩ (Nat.le_of_ble_eq_true rfl) (Nat.le_of_ble_eq_true rfl) (Nat.le_of_ble_eq_true rfl) ?_
                  rintro M72 ⟨hB73, kp74, h75, h76, h77, h78, h79, h80, h81, h82, h83⟩
                  have hB84 : BF fT M M72 := BF.go hB0 hB73
                  have kp85 : mI M72 55 = mI M 55 := kp_go rfl kp74
                  refine vc_iconst dX12_behindOne_235 rfl ?_
                  refine vc_iret dX12_behindOne_236 rfl (Nat.le_of_ble_eq_true rfl) (Nat.le_of_ble_eq_true rfl) ?_
                  exact ⟨_, rfl, hB84, kp85, by omega, by omega, h75, by omega, by omega, by omega, by omega, by omega, by omega, h82, by omega, by omega, ⟨Or.inl ⟨rfl, _, _, h83.1.1, h83.1.2.2, fun o z => by first | (rw [hop, cd40 (by omega)]; exact t_shut (by omega) (rn_t h83.1.2.1 z)) | (rw [hop, cd42 (by omega)]; exact t_end (by omega) (rn_t h83.1.2.1 z))⟩, (by first | exact BOc.sh0 h83.2 h83.1.2.2 h83.1.2.1 (by omega) (by omega) (by omega) | exact BOc.sh2 h83.2 h83.1.2.2 h83.1.2.1 (by omega) (by omega) (by omega)), fun h => absurd h (by decide)⟩⟩
            · have ht44 : tk g n p = -256 := hs44.mp (by omega)
              clear hs44
              refine vc_iload_n dX12_behindOne_127 rfl ?_
              refine vc_bipush dX12_behindOne_128 rfl ?_
              refine vc_icmp_eq dX12_behindOne_130 (fun h86 => ?_) (fun h86 => ?_)
              · refine vc_aload_n dX12_behindOne_139 rfl ?_
                refine vc_iconst dX12_behindOne_140 rfl ?_
                refine vc_cVU dX12_behindOne_141 (sfX12_settlePileF (M := M) hB0.1  S 1 (by omega) (by omega) (by exact p0) (by omega) (by omega)) rfl okX12_settlePile viX12_settlePile lkX12_211 (s_54 hB0.1.1) cl_12 rfl (Nat.le_of_ble_eq_true rfl) ⟨rfl, rfl⟩ (Nat.le_of_ble_eq_true rfl) (Nat.le_of_ble_eq_true rfl) (Nat.le_of_ble_eq_true rfl) ?_
                rintro M87 ⟨hB88, kp89, kp90, h91, h92, h93, h94, h95, h96, h97, h98, h99, h100, h101, h102, h103, h104, h105⟩
                have hB106 : BF fT M M87 := BF.go hB0 hB88
                have kp107 : mI M87 55 = mI M 55 := kp_go rfl kp89
                have fr108 : ∀ j : Nat, (j : Int) < mI M 54 14 + 265 + 2 * S → mI M87 57 j = mI M 57 j := fun j hj => (h100 j (by omega)).trans ((fun _ _ => rfl) j hj)
                have hl2 := h91.len
                have htop := top_at (M := M) (N := M87) (k := x7.toNat) kp90 (by omega) (by omega) h101 h102 (by omega) (by omega) (fun q a b => hq2 q (by omega) b)
                have htk : mI M87 60 (mI M87 54 18 - 1).toNat = x13 := by rw [htop, kp90, show ((x7.toNat : Int) + 1 - 1).toNat = x7.toNat by omega]; omega
                have hix : (x7).toNat = (mI M87 54 18 - 1).toNat := by omega
                have htk2 : mI M87 60 (x7).toNat = x13 := by rw [hix]; exact htk
                have hst : (stP 1 (Pl M)).2 = mI M 60 x7.toNat :: pls (mI M 60) x7.toNat := h103.1.symm.trans (Pl.topk (kk := x7.toNat) kp90 htop)
                refine vc_aload_n dX12_behindOne_144 rfl ?_
                refine vc_getR dX12_behindOne_145 flX12_32 (s_54 hB106.1.1) rfl (r_54_17 hB106.1.1) ?_
                refine vc_iload_n dX12_behindOne_148 rfl ?_
                refine vc_dup2 dX12_behindOne_149 rfl rfl ?_
                refine vc_iaload dX12_behindOne_150 (s_60 hB106.1.1) (by omega) (by omega) ?_
                refine vc_iconst dX12_behindOne_151 rfl ?_
                refine vc_iaddE dX12_behindOne_152 (by omega) (by omega) ?_
                refine vc_iastore dX12_behindOne_153 (s_60 hB106.1.1) (by omega) (by omega) ?_
                have kp109 : mI (sI M87 60 x7.toNat ((mI M87 60 x7.toNat) + 1)) 55 = mI M 55 := (kp_sI kp107 rfl)
                have hB110 : BF fT M (sI M87 60 x7.toNat ((mI M87 60 x7.toNat) + 1)) := BF.w60 hB106 (fun _ => rfl) _
                refine vc_aload_n dX12_behindOne_154 rfl ?_
                refine vc_iconst dX12_behindOne_155 rfl ?_
                refine vc_putZ dX12_behindOne_156 (plX12_207 _ rfl) (s_54 hB110.1.1) rfl (by first | decide | omega) ?_
                have kp111 : mI (sI (sI M87 60 x7.toNat ((mI M87 60 x7.toNat) + 1)) 54 20 0) 55 = mI M 55 := (kp_sI kp109 rfl)
                have hB112 : BF fT M (sI (sI M87 60 x7.toNat ((mI M87 60 x7.toNat) + 1)) 54 20 0) := BF.w54_20 hB110 rfl
                refine vc_aload_n dX12_behindOne_159 rfl ?_
                have hgf := RT.gf hT hB112.2.2
                have hat0 := RT.at hT (by omega)
                have hrg0 := RT.rg hT
                have k113 : mI (sI (sI M87 60 x7.toNat ((mI M87 60 x7.toNat) + 1)) 54 20 0) 54 9 = mI M87 54 9 := rfl
                have k114 : mI (sI (sI M87 60 x7.toNat ((mI M87 60 x7.toNat) + 1)) 54 20 0) 54 10 = mI M87 54 10 := rfl
                have k115 : mI (sI (sI M87 60 x7.toNat ((mI M87 60 x7.toNat) + 1)) 54 20 0) 54 11 = mI M87 54 11 := rfl
                have k116 : mI (sI (sI M87 60 x7.toNat ((mI M87 60 x7.toNat) + 1)) 54 20 0) 54 14 = mI M87 54 14 := rfl
                have k117 : mI (sI (sI M87 60 x7.toNat ((mI M87 60 x7.toNat) + 1)) 54 20 0) 54 15 = mI M87 54 15 := rfl
                have k118 : mI (sI (sI M87 60 x7.toNat ((mI M87 60 x7.toNat) + 1)) 54 20 0) 54 16 = mI M87 54 16 := rfl
                have k119 : mI (sI (sI M87 60 x7.toNat ((mI M87 60 x7.toNat) + 1)) 54 20 0) 54 18 = mI M87 54 18 := rfl
                have k120 : mI (sI (sI M87 60 x7.toNat ((mI M87 60 x7.toNat) + 1)) 54 20 0) 54 19 = mI M87 54 19 := rfl
                have k121 : mI (sI (sI M87 60 x7.toNat ((mI M87 60 x7.toNat) + 1)) 54 20 0) 54 20 = 0 := rfl
                have k122 : mI (sI (sI M87 60 x7.toNat ((mI M87 60 x7.toNat) + 1)) 54 20 0) 54 21 = mI M87 54 21 := rfl
                refine vc_cVU dX12_behindOne_160 (sfX12_nextTokenF (M := (sI (sI M87 60 x7.toNat ((mI M87 60 x7.toNat) + 1)) 54 20 0)) hB112.1   (by first | (rw [hgf.2.1]; omega) | omega) (by first | (rw [hgf.1]; exact hgf.2.2) | assumption)) rfl okX12_nextToken viX12_nextToken lkX12_193 (s_54 hB112.1.1) cl_12 rfl (Nat.le_of_ble_eq_true rfl) ⟨rfl, rfl⟩ (Nat.le_of_ble_eq_true rfl) (Nat.le_of_ble_eq_true rfl) (Nat.le_of_ble_eq_true rfl) ?_
                rintro M123 ⟨hB124, kp125, kp126, kp127, h128, h129, h130, h131, h132, h133, h134, h135, h136, h137, h138⟩
                have hB139 : BF fT M M123 := BF.go hB112 hB124.t
                have kp140 : mI M123 55 = mI M 55 := kp_go kp111 kp125
                have rt141 : RT g n M123 (nx g n p) := by
                  have z := h138
                  rw [hgf.1, hgf.2.1, show mI (sI (sI M87 60 x7.toNat ((mI M87 60 x7.toNat) + 1)) 54 20 0) 54 9 = en g n p by first | omega | (show mI M87 54 9 = _; omega)] at z
                  exact z
                clear hrg0
                have rg142 := RT.rg rt141
                have fr143 : ∀ j : Nat, (j : Int) < mI M 54 14 + 265 + 2 * S → mI M123 57 j = mI M 57 j := fun j hj => (congrFun kp126 j).trans (fr108 j hj)
                have hbx := b54_10 (M := M123) hB139.1
                have hPI144 : PI M123 S := PI.two (M := M87) (o := x13) h91 (by omega) (by omega) htk (by omega) kp126 (by rw [← hix]; first | exact kp127 | (rw [kp127]; funext b; rw [← htk, ← hix]; rfl)) (by omega) (by omega) (by omega) (by omega) (by omega) (by omega) (by omega)
                have hSJn : SJ M123 (42 :: stk (mI M 60) x7.toNat) := SJ.two (M := M87) (k := x7.toNat) (o := mI M87 60 x7.toNat + 1) (by rw [kp90]) (by rw [kp90]; exact hom) (by first | exact kp127 | (rw [kp127]; funext b; rfl)) (by omega) (by omega) (by omega)
                have hplQ : Pl M123 = (mI M 60 x7.toNat + 1) :: pls (mI M 60) x7.toNat := by
                  have z := Pl.inc (M := M87) (N := M123) (k := x7.toNat) (v := mI M87 60 x7.toNat + 1) (by first | exact kp127 | (rw [kp127]; funext b; rfl)) (by omega)
                  rw [kp90] at z
                  exact z
                have hcoQ : Co M123 S = Co M S ++ (stP 1 (Pl M)).1 := (Co.same (M := M87) kp126 (by omega) (by omega)).trans h103.2
                refine vc_iconst dX12_behindOne_163 rfl ?_
                refine vc_iret dX12_behindOne_164 rfl (Nat.le_of_ble_eq_true rfl) (Nat.le_of_ble_eq_true rfl) ?_
                exact ⟨_, rfl, hB139, kp140, by omega, by omega, hPI144, by omega, by omega, by omega, by omega, by omega, by omega, fr143, by omega, by omega, ⟨Or.inl ⟨rfl, _, _, hSJn, rt141, fun o z => by rw [hop, cd41 (by omega)]; exact t_com (by omega) (rn_f (by omega) z)⟩, BOc.com rt141 (by omega) hst (by omega) ht44 hplQ hcoQ, fun h => absurd h (by decide)⟩⟩
              · refine vc_iload_n dX12_behindOne_133 rfl ?_
                refine vc_bipush dX12_behindOne_134 rfl ?_
                refine vc_icmp_ne dX12_behindOne_136 (fun h145 => ?_) (fun h145 => ?_)
                · refine vc_iload_n dX12_behindOne_165 rfl ?_
                  refine vc_bipush dX12_behindOne_166 rfl ?_
                  refine vc_icmp_ne dX12_behindOne_168 (fun h146 => ?_) (fun h146 => ?_)
                  · refine vc_iload_n dX12_behindOne_188 rfl ?_
                    refine vc_bipush dX12_behindOne_189 rfl ?_
                    refine vc_icmp_eq dX12_behindOne_191 (fun h147 => ?_) (fun h147 => ?_)
                    · have hw2 := RT.w2 hT
                      refine vc_aload_n dX12_behindOne_200 rfl ?_
                      refine vc_bipush dX12_behindOne_201 rfl ?_
                      refine vc_bipush dX12_behindOne_203 rfl ?_
                      refine vc_bipush dX12_behindOne_205 rfl ?_
                      refine vc_cSL dX12_behindOne_207 (sfX12_w3F (M := M) hB0.1  101 110 100 ) rfl okX12_w3 stX12_w3 lkX12_155 rfl (Nat.le_of_ble_eq_true rfl) ⟨rfl, rfl⟩ (Nat.le_of_ble_eq_true rfl) (Nat.le_of_ble_eq_true rfl) (Nat.le_of_ble_eq_true rfl) ?_
                      rintro x148 _ ⟨rfl, h149⟩
                      have hw150 : x148 = 6647396 := h149.trans (by decide +kernel)
                      refine vc_cVI dX12_behindOne_210 (sfX12_isWordF (M := M) hB0.1  x148 ) rfl okX12_isWord viX12_isWord lkX12_196 (s_54 hB0.1.1) cl_12 rfl (Nat.le_of_ble_eq_true rfl) ⟨rfl, rfl⟩ (Nat.le_of_ble_eq_true rfl) (Nat.le_of_ble_eq_true rfl) (Nat.le_of_ble_eq_true rfl) ?_
                      rintro x151 _ ⟨rfl, h152, h153, h154⟩
                      have hz155 := isw h154 (RT.iw hT 20 (by decide) (hw150.trans pk_20) (t := 121) (by decide))
                      clear h154
                      refine vc_if_eq dX12_behindOne_213 (fun h156 => ?_) (fun h156 => ?_)
                      · have hn121 : tk g n p ≠ 121 := isw_no hz155 (by omega)
                        clear hz155
                        refine vc_iconst dX12_behindOne_220 rfl ?_
                        refine vc_istore dX12_behindOne_221 (by decide) rfl (show _ = [some (aR 54), some (aI (-1)), some (aI x7), some (aI x13), some (aI 0)] from rfl) ?_
                        refine vc_iload dX12_behindOne_223 rfl ?_
                        refine vc_if_ne dX12_behindOne_225 (fun h157 => by exfalso; omega) (fun h157 => ?_)
                        refine vc_iconst dX12_behindOne_228 rfl ?_
                        refine vc_iret dX12_behindOne_229 rfl (Nat.le_of_ble_eq_true rfl) (Nat.le_of_ble_eq_true rfl) ?_
                        have hEo : EOp g n p := by unfold EOp; omega
                        exact ⟨_, rfl, hB0, rfl, by omega, by omega, p0, by omega, by omega, by omega, by omega, by omega, by omega, (fun _ _ => rfl), by omega, by omega, ⟨Or.inr ⟨rfl, hS, hT, hEo, fun hne => by first | (rw [hop, cd41 (by omega)]; exact t_b41 hEo (by omega)) | (rw [hop, cd42 (by omega)]; exact t_b42 hEo (by omega)) | (rw [hop, cd40 (by omega)]; exact t_b40 hEo (by omega))⟩, (fun h => absurd h (by decide)), fun _ => ⟨rfl, rfl⟩⟩⟩
                      · have ht121 : tk g n p = 121 := isw_yes hz155 (by omega)
                        clear hz155
                        refine vc_iconst dX12_behindOne_216 rfl ?_
                        refine vc_goto dX12_behindOne_217 ?_
                        refine vc_istore dX12_behindOne_221 (by decide) rfl (show _ = [some (aR 54), some (aI (-1)), some (aI x7), some (aI x13), some (aI 1)] from rfl) ?_
                        refine vc_iload dX12_behindOne_223 rfl ?_
                        refine vc_if_ne dX12_behindOne_225 (fun h158 => ?_) (fun h158 => by exfalso; omega)
                        refine vc_aload_n dX12_behindOne_230 rfl ?_
                        refine vc_iload_n dX12_behindOne_231 rfl ?_
                        have hsh : ∃ k : Nat, (k : Int) < mI M 54 18 ∧ mI M 60 k = x13 ∧ ∀ q : Nat, k < q → (q : Int) < mI M 54 18 → mI M 60 q < 40 := ⟨x7.toNat, by omega, by omega, fun q a b => hq2 q (by omega) b⟩
                        refine vc_cVU dX12_behindOne_232 (sfX12_shutF (M := M) hB0.1  S g n p hT (stk (mI M 60) x7.toNat) x7.toNat ⟨rfl, hom, by omega, fun q a b => hq2 q (by omega) b, by omega⟩ x13 (by exact p0) (by omega) (by omega) (by omega) (by omega) (by omega) (by exact hsh) (by omega) (by omega)) rfl okX12_shut viX12_shut lkX12_220 (s_54 hB0.1.1) cl_12 rfl (Nat.le_of_ble_eq_true rfl) ⟨rfl, rfl⟩ (Nat.le_of_ble_eq_true rfl) (Nat.le_of_ble_eq_true rfl) (Nat.le_of_ble_eq_true rfl) ?_
                        rintro M159 ⟨hB160, kp161, h162, h163, h164, h165, h166, h167, h168, h169, h170⟩
                        have hB171 : BF fT M M159 := BF.go hB0 hB160
                        have kp172 : mI M159 55 = mI M 55 := kp_go rfl kp161
                        refine vc_iconst dX12_behindOne_235 rfl ?_
                        refine vc_iret dX12_behindOne_236 rfl (Nat.le_of_ble_eq_true rfl) (Nat.le_of_ble_eq_true rfl) ?_
                        exact ⟨_, rfl, hB171, kp172, by omega, by omega, h162, by omega, by omega, by omega, by omega, by omega, by omega, h169, by omega, by omega, ⟨Or.inl ⟨rfl, _, _, h170.1.1, h170.1.2.2, fun o z => by first | (rw [hop, cd40 (by omega)]; exact t_shut (by omega) (rn_t h170.1.2.1 z)) | (rw [hop, cd42 (by omega)]; exact t_end (by omega) (rn_t h170.1.2.1 z))⟩, (by first | exact BOc.sh0 h170.2 h170.1.2.2 h170.1.2.1 (by omega) (by omega) (by omega) | exact BOc.sh2 h170.2 h170.1.2.2 h170.1.2.1 (by omega) (by omega) (by omega)), fun h => absurd h (by decide)⟩⟩
                    · refine vc_iload_n dX12_behindOne_194 rfl ?_
                      refine vc_bipush dX12_behindOne_195 rfl ?_
                      refine vc_icmp_ne dX12_behindOne_197 (fun h173 => ?_) (fun h173 => ?_)
                      · refine vc_iconst dX12_behindOne_220 rfl ?_
                        refine vc_istore dX12_behindOne_221 (by decide) rfl (show _ = [some (aR 54), some (aI (-1)), some (aI x7), some (aI x13), some (aI 0)] from rfl) ?_
                        refine vc_iload dX12_behindOne_223 rfl ?_
                        refine vc_if_ne dX12_behindOne_225 (fun h174 => by exfalso; omega) (fun h174 => ?_)
                        refine vc_iconst dX12_behindOne_228 rfl ?_
                        refine vc_iret dX12_behindOne_229 rfl (Nat.le_of_ble_eq_true rfl) (Nat.le_of_ble_eq_true rfl) ?_
                        have hEo : EOp g n p := by unfold EOp; omega
                        exact ⟨_, rfl, hB0, rfl, by omega, by omega, p0, by omega, by omega, by omega, by omega, by omega, by omega, (fun _ _ => rfl), by omega, by omega, ⟨Or.inr ⟨rfl, hS, hT, hEo, fun hne => by first | (rw [hop, cd41 (by omega)]; exact t_b41 hEo (by omega)) | (rw [hop, cd42 (by omega)]; exact t_b42 hEo (by omega)) | (rw [hop, cd40 (by omega)]; exact t_b40 hEo (by omega))⟩, (fun h => absurd h (by decide)), fun _ => ⟨rfl, rfl⟩⟩⟩
                      · have hw2 := RT.w2 hT
                        refine vc_aload_n dX12_behindOne_200 rfl ?_
                        refine vc_bipush dX12_behindOne_201 rfl ?_
                        refine vc_bipush dX12_behindOne_203 rfl ?_
                        refine vc_bipush dX12_behindOne_205 rfl ?_
                        refine vc_cSL dX12_behindOne_207 (sfX12_w3F (M := M) hB0.1  101 110 100 ) rfl okX12_w3 stX12_w3 lkX12_155 rfl (Nat.le_of_ble_eq_true rfl) ⟨rfl, rfl⟩ (Nat.le_of_ble_eq_true rfl) (Nat.le_of_ble_eq_true rfl) (Nat.le_of_ble_eq_true rfl) ?_
                        rintro x175 _ ⟨rfl, h176⟩
                        have hw177 : x175 = 6647396 := h176.trans (by decide +kernel)
                        refine vc_cVI dX12_behindOne_210 (sfX12_isWordF (M := M) hB0.1  x175 ) rfl okX12_isWord viX12_isWord lkX12_196 (s_54 hB0.1.1) cl_12 rfl (Nat.le_of_ble_eq_true rfl) ⟨rfl, rfl⟩ (Nat.le_of_ble_eq_true rfl) (Nat.le_of_ble_eq_true rfl) (Nat.le_of_ble_eq_true rfl) ?_
                        rintro x178 _ ⟨rfl, h179, h180, h181⟩
                        have hz182 := isw h181 (RT.iw hT 20 (by decide) (hw177.trans pk_20) (t := 121) (by decide))
                        clear h181
                        refine vc_if_eq dX12_behindOne_213 (fun h183 => ?_) (fun h183 => ?_)
                        · have hn121 : tk g n p ≠ 121 := isw_no hz182 (by omega)
                          clear hz182
                          refine vc_iconst dX12_behindOne_220 rfl ?_
                          refine vc_istore dX12_behindOne_221 (by decide) rfl (show _ = [some (aR 54), some (aI (-1)), some (aI x7), some (aI x13), some (aI 0)] from rfl) ?_
                          refine vc_iload dX12_behindOne_223 rfl ?_
                          refine vc_if_ne dX12_behindOne_225 (fun h184 => by exfalso; omega) (fun h184 => ?_)
                          refine vc_iconst dX12_behindOne_228 rfl ?_
                          refine vc_iret dX12_behindOne_229 rfl (Nat.le_of_ble_eq_true rfl) (Nat.le_of_ble_eq_true rfl) ?_
                          have hEo : EOp g n p := by unfold EOp; omega
                          exact ⟨_, rfl, hB0, rfl, by omega, by omega, p0, by omega, by omega, by omega, by omega, by omega, by omega, (fun _ _ => rfl), by omega, by omega, ⟨Or.inr ⟨rfl, hS, hT, hEo, fun hne => by first | (rw [hop, cd41 (by omega)]; exact t_b41 hEo (by omega)) | (rw [hop, cd42 (by omega)]; exact t_b42 hEo (by omega)) | (rw [hop, cd40 (by omega)]; exact t_b40 hEo (by omega))⟩, (fun h => absurd h (by decide)), fun _ => ⟨rfl, rfl⟩⟩⟩
                        · have ht121 : tk g n p = 121 := isw_yes hz182 (by omega)
                          clear hz182
                          refine vc_iconst dX12_behindOne_216 rfl ?_
                          refine vc_goto dX12_behindOne_217 ?_
                          refine vc_istore dX12_behindOne_221 (by decide) rfl (show _ = [some (aR 54), some (aI (-1)), some (aI x7), some (aI x13), some (aI 1)] from rfl) ?_
                          refine vc_iload dX12_behindOne_223 rfl ?_
                          refine vc_if_ne dX12_behindOne_225 (fun h185 => ?_) (fun h185 => by exfalso; omega)
                          refine vc_aload_n dX12_behindOne_230 rfl ?_
                          refine vc_iload_n dX12_behindOne_231 rfl ?_
                          have hsh : ∃ k : Nat, (k : Int) < mI M 54 18 ∧ mI M 60 k = x13 ∧ ∀ q : Nat, k < q → (q : Int) < mI M 54 18 → mI M 60 q < 40 := ⟨x7.toNat, by omega, by omega, fun q a b => hq2 q (by omega) b⟩
                          refine vc_cVU dX12_behindOne_232 (sfX12_shutF (M := M) hB0.1  S g n p hT (stk (mI M 60) x7.toNat) x7.toNat ⟨rfl, hom, by omega, fun q a b => hq2 q (by omega) b, by omega⟩ x13 (by exact p0) (by omega) (by omega) (by omega) (by omega) (by omega) (by exact hsh) (by omega) (by omega)) rfl okX12_shut viX12_shut lkX12_220 (s_54 hB0.1.1) cl_12 rfl (Nat.le_of_ble_eq_true rfl) ⟨rfl, rfl⟩ (Nat.le_of_ble_eq_true rfl) (Nat.le_of_ble_eq_true rfl) (Nat.le_of_ble_eq_true rfl) ?_
                          rintro M186 ⟨hB187, kp188, h189, h190, h191, h192, h193, h194, h195, h196, h197⟩
                          have hB198 : BF fT M M186 := BF.go hB0 hB187
                          have kp199 : mI M186 55 = mI M 55 := kp_go rfl kp188
                          refine vc_iconst dX12_behindOne_235 rfl ?_
                          refine vc_iret dX12_behindOne_236 rfl (Nat.le_of_ble_eq_true rfl) (Nat.le_of_ble_eq_true rfl) ?_
                          exact ⟨_, rfl, hB198, kp199, by omega, by omega, h189, by omega, by omega, by omega, by omega, by omega, by omega, h196, by omega, by omega, ⟨Or.inl ⟨rfl, _, _, h197.1.1, h197.1.2.2, fun o z => by first | (rw [hop, cd40 (by omega)]; exact t_shut (by omega) (rn_t h197.1.2.1 z)) | (rw [hop, cd42 (by omega)]; exact t_end (by omega) (rn_t h197.1.2.1 z))⟩, (by first | exact BOc.sh0 h197.2 h197.1.2.2 h197.1.2.1 (by omega) (by omega) (by omega) | exact BOc.sh2 h197.2 h197.1.2.2 h197.1.2.1 (by omega) (by omega) (by omega)), fun h => absurd h (by decide)⟩⟩
                  · have hs41 := RT.sg hT 41 (t := -259) (by decide) (by decide)
                    refine vc_aload_n dX12_behindOne_171 rfl ?_
                    refine vc_getI dX12_behindOne_172 flX12_129 (s_54 hB0.1.1) rfl ?_
                    refine vc_bipush dX12_behindOne_175 rfl ?_
                    refine vc_icmp_ne dX12_behindOne_177 (fun h200 => ?_) (fun h200 => by exfalso; omega)
                    have hn41 : tk g n p ≠ -259 := fun e => absurd (hs41.mpr e) (by omega)
                    clear hs41
                    refine vc_iconst dX12_behindOne_184 rfl ?_
                    refine vc_goto dX12_behindOne_185 ?_
                    refine vc_istore dX12_behindOne_221 (by decide) rfl (show _ = [some (aR 54), some (aI (-1)), some (aI x7), some (aI x13), some (aI 0)] from rfl) ?_
                    refine vc_iload dX12_behindOne_223 rfl ?_
                    refine vc_if_ne dX12_behindOne_225 (fun h201 => by exfalso; omega) (fun h201 => ?_)
                    refine vc_iconst dX12_behindOne_228 rfl ?_
                    refine vc_iret dX12_behindOne_229 rfl (Nat.le_of_ble_eq_true rfl) (Nat.le_of_ble_eq_true rfl) ?_
                    have hEo : EOp g n p := by unfold EOp; omega
                    exact ⟨_, rfl, hB0, rfl, by omega, by omega, p0, by omega, by omega, by omega, by omega, by omega, by omega, (fun _ _ => rfl), by omega, by omega, ⟨Or.inr ⟨rfl, hS, hT, hEo, fun hne => by first | (rw [hop, cd41 (by omega)]; exact t_b41 hEo (by omega)) | (rw [hop, cd42 (by omega)]; exact t_b42 hEo (by omega)) | (rw [hop, cd40 (by omega)]; exact t_b40 hEo (by omega))⟩, (fun h => absurd h (by decide)), fun _ => ⟨rfl, rfl⟩⟩⟩
                · refine vc_aload_n dX12_behindOne_139 rfl ?_
                  refine vc_iconst dX12_behindOne_140 rfl ?_
                  refine vc_cVU dX12_behindOne_141 (sfX12_settlePileF (M := M) hB0.1  S 1 (by omega) (by omega) (by exact p0) (by omega) (by omega)) rfl okX12_settlePile viX12_settlePile lkX12_211 (s_54 hB0.1.1) cl_12 rfl (Nat.le_of_ble_eq_true rfl) ⟨rfl, rfl⟩ (Nat.le_of_ble_eq_true rfl) (Nat.le_of_ble_eq_true rfl) (Nat.le_of_ble_eq_true rfl) ?_
                  rintro M202 ⟨hB203, kp204, kp205, h206, h207, h208, h209, h210, h211, h212, h213, h214, h215, h216, h217, h218, h219, h220⟩
                  have hB221 : BF fT M M202 := BF.go hB0 hB203
                  have kp222 : mI M202 55 = mI M 55 := kp_go rfl kp204
                  have fr223 : ∀ j : Nat, (j : Int) < mI M 54 14 + 265 + 2 * S → mI M202 57 j = mI M 57 j := fun j hj => (h215 j (by omega)).trans ((fun _ _ => rfl) j hj)
                  have hl2 := h206.len
                  have htop := top_at (M := M) (N := M202) (k := x7.toNat) kp205 (by omega) (by omega) h216 h217 (by omega) (by omega) (fun q a b => hq2 q (by omega) b)
                  have htk : mI M202 60 (mI M202 54 18 - 1).toNat = x13 := by rw [htop, kp205, show ((x7.toNat : Int) + 1 - 1).toNat = x7.toNat by omega]; omega
                  have hix : (x7).toNat = (mI M202 54 18 - 1).toNat := by omega
                  have htk2 : mI M202 60 (x7).toNat = x13 := by rw [hix]; exact htk
                  have hst : (stP 1 (Pl M)).2 = mI M 60 x7.toNat :: pls (mI M 60) x7.toNat := h218.1.symm.trans (Pl.topk (kk := x7.toNat) kp205 htop)
                  refine vc_aload_n dX12_behindOne_144 rfl ?_
                  refine vc_getR dX12_behindOne_145 flX12_32 (s_54 hB221.1.1) rfl (r_54_17 hB221.1.1) ?_
                  refine vc_iload_n dX12_behindOne_148 rfl ?_
                  refine vc_dup2 dX12_behindOne_149 rfl rfl ?_
                  refine vc_iaload dX12_behindOne_150 (s_60 hB221.1.1) (by omega) (by omega) ?_
                  refine vc_iconst dX12_behindOne_151 rfl ?_
                  refine vc_iaddE dX12_behindOne_152 (by omega) (by omega) ?_
                  refine vc_iastore dX12_behindOne_153 (s_60 hB221.1.1) (by omega) (by omega) ?_
                  have kp224 : mI (sI M202 60 x7.toNat ((mI M202 60 x7.toNat) + 1)) 55 = mI M 55 := (kp_sI kp222 rfl)
                  have hB225 : BF fT M (sI M202 60 x7.toNat ((mI M202 60 x7.toNat) + 1)) := BF.w60 hB221 (fun _ => rfl) _
                  refine vc_aload_n dX12_behindOne_154 rfl ?_
                  refine vc_iconst dX12_behindOne_155 rfl ?_
                  refine vc_putZ dX12_behindOne_156 (plX12_207 _ rfl) (s_54 hB225.1.1) rfl (by first | decide | omega) ?_
                  have kp226 : mI (sI (sI M202 60 x7.toNat ((mI M202 60 x7.toNat) + 1)) 54 20 0) 55 = mI M 55 := (kp_sI kp224 rfl)
                  have hB227 : BF fT M (sI (sI M202 60 x7.toNat ((mI M202 60 x7.toNat) + 1)) 54 20 0) := BF.w54_20 hB225 rfl
                  refine vc_aload_n dX12_behindOne_159 rfl ?_
                  have hgf := RT.gf hT hB227.2.2
                  have hat0 := RT.at hT (by omega)
                  have hrg0 := RT.rg hT
                  have k228 : mI (sI (sI M202 60 x7.toNat ((mI M202 60 x7.toNat) + 1)) 54 20 0) 54 9 = mI M202 54 9 := rfl
                  have k229 : mI (sI (sI M202 60 x7.toNat ((mI M202 60 x7.toNat) + 1)) 54 20 0) 54 10 = mI M202 54 10 := rfl
                  have k230 : mI (sI (sI M202 60 x7.toNat ((mI M202 60 x7.toNat) + 1)) 54 20 0) 54 11 = mI M202 54 11 := rfl
                  have k231 : mI (sI (sI M202 60 x7.toNat ((mI M202 60 x7.toNat) + 1)) 54 20 0) 54 14 = mI M202 54 14 := rfl
                  have k232 : mI (sI (sI M202 60 x7.toNat ((mI M202 60 x7.toNat) + 1)) 54 20 0) 54 15 = mI M202 54 15 := rfl
                  have k233 : mI (sI (sI M202 60 x7.toNat ((mI M202 60 x7.toNat) + 1)) 54 20 0) 54 16 = mI M202 54 16 := rfl
                  have k234 : mI (sI (sI M202 60 x7.toNat ((mI M202 60 x7.toNat) + 1)) 54 20 0) 54 18 = mI M202 54 18 := rfl
                  have k235 : mI (sI (sI M202 60 x7.toNat ((mI M202 60 x7.toNat) + 1)) 54 20 0) 54 19 = mI M202 54 19 := rfl
                  have k236 : mI (sI (sI M202 60 x7.toNat ((mI M202 60 x7.toNat) + 1)) 54 20 0) 54 20 = 0 := rfl
                  have k237 : mI (sI (sI M202 60 x7.toNat ((mI M202 60 x7.toNat) + 1)) 54 20 0) 54 21 = mI M202 54 21 := rfl
                  refine vc_cVU dX12_behindOne_160 (sfX12_nextTokenF (M := (sI (sI M202 60 x7.toNat ((mI M202 60 x7.toNat) + 1)) 54 20 0)) hB227.1   (by first | (rw [hgf.2.1]; omega) | omega) (by first | (rw [hgf.1]; exact hgf.2.2) | assumption)) rfl okX12_nextToken viX12_nextToken lkX12_193 (s_54 hB227.1.1) cl_12 rfl (Nat.le_of_ble_eq_true rfl) ⟨rfl, rfl⟩ (Nat.le_of_ble_eq_true rfl) (Nat.le_of_ble_eq_true rfl) (Nat.le_of_ble_eq_true rfl) ?_
                  rintro M238 ⟨hB239, kp240, kp241, kp242, h243, h244, h245, h246, h247, h248, h249, h250, h251, h252, h253⟩
                  have hB254 : BF fT M M238 := BF.go hB227 hB239.t
                  have kp255 : mI M238 55 = mI M 55 := kp_go kp226 kp240
                  have rt256 : RT g n M238 (nx g n p) := by
                    have z := h253
                    rw [hgf.1, hgf.2.1, show mI (sI (sI M202 60 x7.toNat ((mI M202 60 x7.toNat) + 1)) 54 20 0) 54 9 = en g n p by first | omega | (show mI M202 54 9 = _; omega)] at z
                    exact z
                  clear hrg0
                  have rg257 := RT.rg rt256
                  have fr258 : ∀ j : Nat, (j : Int) < mI M 54 14 + 265 + 2 * S → mI M238 57 j = mI M 57 j := fun j hj => (congrFun kp241 j).trans (fr223 j hj)
                  have hbx := b54_10 (M := M238) hB254.1
                  have hPI259 : PI M238 S := PI.two (M := M202) (o := x13) h206 (by omega) (by omega) htk (by omega) kp241 (by rw [← hix]; first | exact kp242 | (rw [kp242]; funext b; rw [← htk, ← hix]; rfl)) (by omega) (by omega) (by omega) (by omega) (by omega) (by omega) (by omega)
                  have hSJn : SJ M238 (42 :: stk (mI M 60) x7.toNat) := SJ.two (M := M202) (k := x7.toNat) (o := mI M202 60 x7.toNat + 1) (by rw [kp205]) (by rw [kp205]; exact hom) (by first | exact kp242 | (rw [kp242]; funext b; rfl)) (by omega) (by omega) (by omega)
                  have hplQ : Pl M238 = (mI M 60 x7.toNat + 1) :: pls (mI M 60) x7.toNat := by
                    have z := Pl.inc (M := M202) (N := M238) (k := x7.toNat) (v := mI M202 60 x7.toNat + 1) (by first | exact kp242 | (rw [kp242]; funext b; rfl)) (by omega)
                    rw [kp205] at z
                    exact z
                  have hcoQ : Co M238 S = Co M S ++ (stP 1 (Pl M)).1 := (Co.same (M := M202) kp241 (by omega) (by omega)).trans h218.2
                  refine vc_iconst dX12_behindOne_163 rfl ?_
                  refine vc_iret dX12_behindOne_164 rfl (Nat.le_of_ble_eq_true rfl) (Nat.le_of_ble_eq_true rfl) ?_
                  exact ⟨_, rfl, hB254, kp255, by omega, by omega, hPI259, by omega, by omega, by omega, by omega, by omega, by omega, fr258, by omega, by omega, ⟨Or.inl ⟨rfl, _, _, hSJn, rt256, fun o z => by rw [hop, cd41 (by omega)]; exact t_com (by omega) (rn_f (by omega) z)⟩, BOc.com rt256 (by omega) hst (by omega) ht44 hplQ hcoQ, fun h => absurd h (by decide)⟩⟩
          · have hnone : sk = [] := SJ.none hS (by omega) p0 (fun q a => hq2 q (by omega) a)
            refine vc_iconst dX12_behindOne_107 rfl ?_
            refine vc_goto dX12_behindOne_108 ?_
            refine vc_istore_n dX12_behindOne_117 (by decide) rfl (show _ = [some (aR 54), some (aI (-1)), some (aI x7), some (aI (-1)), none] from rfl) ?_
            have hs44 := RT.sg hT 44 (t := -256) (by decide) (by decide)
            refine vc_aload_n dX12_behindOne_118 rfl ?_
            refine vc_getI dX12_behindOne_119 flX12_129 (s_54 hB0.1.1) rfl ?_
            refine vc_bipush dX12_behindOne_122 rfl ?_
            refine vc_icmp_ne dX12_behindOne_124 (fun h260 => ?_) (fun h260 => ?_)
            · have hn44 : tk g n p ≠ -256 := fun e => absurd (hs44.mpr e) (by omega)
              clear hs44
              refine vc_iload_n dX12_behindOne_165 rfl ?_
              refine vc_bipush dX12_behindOne_166 rfl ?_
              refine vc_icmp_ne dX12_behindOne_168 (fun h261 => ?_) (fun h261 => by exfalso; omega)
              refine vc_iload_n dX12_behindOne_188 rfl ?_
              refine vc_bipush dX12_behindOne_189 rfl ?_
              refine vc_icmp_eq dX12_behindOne_191 (fun h262 => by exfalso; omega) (fun h262 => ?_)
              refine vc_iload_n dX12_behindOne_194 rfl ?_
              refine vc_bipush dX12_behindOne_195 rfl ?_
              refine vc_icmp_ne dX12_behindOne_197 (fun h263 => ?_) (fun h263 => by exfalso; omega)
              refine vc_iconst dX12_behindOne_220 rfl ?_
              refine vc_istore dX12_behindOne_221 (by decide) rfl (show _ = [some (aR 54), some (aI (-1)), some (aI x7), some (aI (-1)), some (aI 0)] from rfl) ?_
              refine vc_iload dX12_behindOne_223 rfl ?_
              refine vc_if_ne dX12_behindOne_225 (fun h264 => by exfalso; omega) (fun h264 => ?_)
              refine vc_iconst dX12_behindOne_228 rfl ?_
              refine vc_iret dX12_behindOne_229 rfl (Nat.le_of_ble_eq_true rfl) (Nat.le_of_ble_eq_true rfl) ?_
              have hEo : EOp g n p := by unfold EOp; omega
              exact ⟨_, rfl, hB0, rfl, by omega, by omega, p0, by omega, by omega, by omega, by omega, by omega, by omega, (fun _ _ => rfl), by omega, by omega, ⟨Or.inr ⟨rfl, hS, hT, hEo, fun hne => absurd hnone hne⟩, (fun h => absurd h (by decide)), fun _ => ⟨rfl, rfl⟩⟩⟩
            · have ht44 : tk g n p = -256 := hs44.mp (by omega)
              clear hs44
              refine vc_iload_n dX12_behindOne_127 rfl ?_
              refine vc_bipush dX12_behindOne_128 rfl ?_
              refine vc_icmp_eq dX12_behindOne_130 (fun h265 => by exfalso; omega) (fun h265 => ?_)
              refine vc_iload_n dX12_behindOne_133 rfl ?_
              refine vc_bipush dX12_behindOne_134 rfl ?_
              refine vc_icmp_ne dX12_behindOne_136 (fun h266 => ?_) (fun h266 => by exfalso; omega)
              refine vc_iload_n dX12_behindOne_165 rfl ?_
              refine vc_bipush dX12_behindOne_166 rfl ?_
              refine vc_icmp_ne dX12_behindOne_168 (fun h267 => ?_) (fun h267 => by exfalso; omega)
              refine vc_iload_n dX12_behindOne_188 rfl ?_
              refine vc_bipush dX12_behindOne_189 rfl ?_
              refine vc_icmp_eq dX12_behindOne_191 (fun h268 => by exfalso; omega) (fun h268 => ?_)
              refine vc_iload_n dX12_behindOne_194 rfl ?_
              refine vc_bipush dX12_behindOne_195 rfl ?_
              refine vc_icmp_ne dX12_behindOne_197 (fun h269 => ?_) (fun h269 => by exfalso; omega)
              refine vc_iconst dX12_behindOne_220 rfl ?_
              refine vc_istore dX12_behindOne_221 (by decide) rfl (show _ = [some (aR 54), some (aI (-1)), some (aI x7), some (aI (-1)), some (aI 0)] from rfl) ?_
              refine vc_iload dX12_behindOne_223 rfl ?_
              refine vc_if_ne dX12_behindOne_225 (fun h270 => by exfalso; omega) (fun h270 => ?_)
              refine vc_iconst dX12_behindOne_228 rfl ?_
              refine vc_iret dX12_behindOne_229 rfl (Nat.le_of_ble_eq_true rfl) (Nat.le_of_ble_eq_true rfl) ?_
              have hEo : EOp g n p := by unfold EOp; omega
              exact ⟨_, rfl, hB0, rfl, by omega, by omega, p0, by omega, by omega, by omega, by omega, by omega, by omega, (fun _ _ => rfl), by omega, by omega, ⟨Or.inr ⟨rfl, hS, hT, hEo, fun hne => absurd hnone hne⟩, (fun h => absurd h (by decide)), fun _ => ⟨rfl, rfl⟩⟩⟩
        · have ht : tk g n p = -253 := hs47.mp (by omega)
          clear hs47
          refine vc_bipush dX12_behindOne_48 rfl ?_
          refine vc_goto dX12_behindOne_50 ?_
          refine vc_istore_n dX12_behindOne_54 (by decide) rfl (show _ = [some (aR 54), some (aI 6), none, none, none] from rfl) ?_
          refine vc_iload_n dX12_behindOne_55 rfl ?_
          refine vc_if_lt dX12_behindOne_56 (fun h271 => by exfalso; omega) (fun h271 => ?_)
          refine vc_aload_n dX12_behindOne_59 rfl ?_
          refine vc_iload_n dX12_behindOne_60 rfl ?_
          refine vc_cSI dX12_behindOne_61 (sfX12_rank (M := M) hB0.1  6 ) rfl okX12_rank stX12_rank lkX12_183 rfl (Nat.le_of_ble_eq_true rfl) ⟨rfl, rfl⟩ (Nat.le_of_ble_eq_true rfl) (Nat.le_of_ble_eq_true rfl) (Nat.le_of_ble_eq_true rfl) ?_
          rintro x272 _ ⟨rfl, h273, h274, h275⟩
          have hrk : rkI 6 = 2 := by decide
          have hrx := h275
          refine vc_cVU dX12_behindOne_64 (sfX12_settlePileF (M := M) hB0.1  S x272 (by omega) (by omega) (by exact p0) (by omega) (by omega)) rfl okX12_settlePile viX12_settlePile lkX12_211 (s_54 hB0.1.1) cl_12 rfl (Nat.le_of_ble_eq_true rfl) ⟨rfl, rfl⟩ (Nat.le_of_ble_eq_true rfl) (Nat.le_of_ble_eq_true rfl) (Nat.le_of_ble_eq_true rfl) ?_
          rintro M276 ⟨hB277, kp278, kp279, h280, h281, h282, h283, h284, h285, h286, h287, h288, h289, h290, h291, h292, h293, h294⟩
          have hB295 : BF fT M M276 := BF.go hB0 hB277
          have kp296 : mI M276 55 = mI M 55 := kp_go rfl kp278
          have fr297 : ∀ j : Nat, (j : Int) < mI M 54 14 + 265 + 2 * S → mI M276 57 j = mI M 57 j := fun j hj => (h289 j (by omega)).trans ((fun _ _ => rfl) j hj)
          have hl2 := h280.len
          obtain ⟨hS0, hT0⟩ := SJ.ops hS (by omega) p0 kp279 (by omega) (by omega) (fun q a b => rk_1 (by have z := h291 q a b; omega))
          refine vc_aload_n dX12_behindOne_67 rfl ?_
          refine vc_getR dX12_behindOne_68 flX12_32 (s_54 hB295.1.1) rfl (r_54_17 hB295.1.1) ?_
          refine vc_aload_n dX12_behindOne_71 rfl ?_
          refine vc_getI dX12_behindOne_72 flX12_180 (s_54 hB295.1.1) rfl ?_
          have k298 : 0 ≤ mI M276 54 18 ∧ mI M276 54 18 ≤ 160 := b54_18 (M := M276) hB295.1
          refine vc_iload_n dX12_behindOne_75 rfl ?_
          refine vc_iastore dX12_behindOne_76 (s_60 hB295.1.1) (by omega) (by omega) ?_
          have kp299 : mI (sI M276 60 ((mI M276 54 18).toNat) 6) 55 = mI M 55 := (kp_sI kp296 rfl)
          have hB300 : BF fT M (sI M276 60 ((mI M276 54 18).toNat) 6) := BF.w60 hB295 (fun _ => rfl) _
          refine vc_aload_n dX12_behindOne_77 rfl ?_
          refine vc_dup dX12_behindOne_78 rfl ?_
          refine vc_getI dX12_behindOne_79 flX12_180 (s_54 hB300.1.1) rfl ?_
          refine vc_topI (mI M276 54 18) rfl ?_
          have k301 : 0 ≤ mI M276 54 18 ∧ mI M276 54 18 ≤ 160 := b54_18 (M := (sI M276 60 ((mI M276 54 18).toNat) 6)) hB300.1
          refine vc_iconst dX12_behindOne_82 rfl ?_
          refine vc_iaddE dX12_behindOne_83 (by omega) (by omega) ?_
          refine vc_putI dX12_behindOne_84 (plX12_180 _ rfl) (s_54 hB300.1.1) rfl ?_
          have kp302 : mI (sI (sI M276 60 ((mI M276 54 18).toNat) 6) 54 18 ((mI M276 54 18) + 1)) 55 = mI M 55 := (kp_sI kp299 rfl)
          have hB303 : BF fT M (sI (sI M276 60 ((mI M276 54 18).toNat) 6) 54 18 ((mI M276 54 18) + 1)) := BF.w54_18 hB300 rfl (by omega) (by omega)
          refine vc_aload_n dX12_behindOne_87 rfl ?_
          refine vc_iconst dX12_behindOne_88 rfl ?_
          refine vc_putZ dX12_behindOne_89 (plX12_207 _ rfl) (s_54 hB303.1.1) rfl (by first | decide | omega) ?_
          have kp304 : mI (sI (sI (sI M276 60 ((mI M276 54 18).toNat) 6) 54 18 ((mI M276 54 18) + 1)) 54 20 0) 55 = mI M 55 := (kp_sI kp302 rfl)
          have hB305 : BF fT M (sI (sI (sI M276 60 ((mI M276 54 18).toNat) 6) 54 18 ((mI M276 54 18) + 1)) 54 20 0) := BF.w54_20 hB303 rfl
          refine vc_aload_n dX12_behindOne_92 rfl ?_
          have hgf := RT.gf hT hB305.2.2
          have hat0 := RT.at hT (by omega)
          have hrg0 := RT.rg hT
          have k306 : mI (sI (sI (sI M276 60 ((mI M276 54 18).toNat) 6) 54 18 ((mI M276 54 18) + 1)) 54 20 0) 54 9 = mI M276 54 9 := rfl
          have k307 : mI (sI (sI (sI M276 60 ((mI M276 54 18).toNat) 6) 54 18 ((mI M276 54 18) + 1)) 54 20 0) 54 10 = mI M276 54 10 := rfl
          have k308 : mI (sI (sI (sI M276 60 ((mI M276 54 18).toNat) 6) 54 18 ((mI M276 54 18) + 1)) 54 20 0) 54 11 = mI M276 54 11 := rfl
          have k309 : mI (sI (sI (sI M276 60 ((mI M276 54 18).toNat) 6) 54 18 ((mI M276 54 18) + 1)) 54 20 0) 54 14 = mI M276 54 14 := rfl
          have k310 : mI (sI (sI (sI M276 60 ((mI M276 54 18).toNat) 6) 54 18 ((mI M276 54 18) + 1)) 54 20 0) 54 15 = mI M276 54 15 := rfl
          have k311 : mI (sI (sI (sI M276 60 ((mI M276 54 18).toNat) 6) 54 18 ((mI M276 54 18) + 1)) 54 20 0) 54 16 = mI M276 54 16 := rfl
          have k312 : mI (sI (sI (sI M276 60 ((mI M276 54 18).toNat) 6) 54 18 ((mI M276 54 18) + 1)) 54 20 0) 54 18 = (mI M276 54 18) + 1 := rfl
          have k313 : mI (sI (sI (sI M276 60 ((mI M276 54 18).toNat) 6) 54 18 ((mI M276 54 18) + 1)) 54 20 0) 54 19 = mI M276 54 19 := rfl
          have k314 : mI (sI (sI (sI M276 60 ((mI M276 54 18).toNat) 6) 54 18 ((mI M276 54 18) + 1)) 54 20 0) 54 20 = 0 := rfl
          have k315 : mI (sI (sI (sI M276 60 ((mI M276 54 18).toNat) 6) 54 18 ((mI M276 54 18) + 1)) 54 20 0) 54 21 = mI M276 54 21 := rfl
          refine vc_cVU dX12_behindOne_93 (sfX12_nextTokenF (M := (sI (sI (sI M276 60 ((mI M276 54 18).toNat) 6) 54 18 ((mI M276 54 18) + 1)) 54 20 0)) hB305.1   (by first | (rw [hgf.2.1]; omega) | omega) (by first | (rw [hgf.1]; exact hgf.2.2) | assumption)) rfl okX12_nextToken viX12_nextToken lkX12_193 (s_54 hB305.1.1) cl_12 rfl (Nat.le_of_ble_eq_true rfl) ⟨rfl, rfl⟩ (Nat.le_of_ble_eq_true rfl) (Nat.le_of_ble_eq_true rfl) (Nat.le_of_ble_eq_true rfl) ?_
          rintro M316 ⟨hB317, kp318, kp319, kp320, h321, h322, h323, h324, h325, h326, h327, h328, h329, h330, h331⟩
          have hB332 : BF fT M M316 := BF.go hB305 hB317.t
          have kp333 : mI M316 55 = mI M 55 := kp_go kp304 kp318
          have rt334 : RT g n M316 (nx g n p) := by
            have z := h331
            rw [hgf.1, hgf.2.1, show mI (sI (sI (sI M276 60 ((mI M276 54 18).toNat) 6) 54 18 ((mI M276 54 18) + 1)) 54 20 0) 54 9 = en g n p by first | omega | (show mI M276 54 9 = _; omega)] at z
            exact z
          clear hrg0
          have rg335 := RT.rg rt334
          have fr336 : ∀ j : Nat, (j : Int) < mI M 54 14 + 265 + 2 * S → mI M316 57 j = mI M 57 j := fun j hj => (congrFun kp319 j).trans (fr297 j hj)
          have hbx := b54_10 (M := M316) hB332.1
          have hPI337 : PI M316 S := PI.bin (M := M276) (o := 6) h280 (by omega) (by omega) (by rcases h290 with e | e; (left; exact e); (right; omega)) kp319 (by first | exact kp320 | (rw [kp320]; funext b; rfl)) (by omega) (by omega) (by omega) (by omega) (by omega) (by omega) (by omega)
          have hSJn : SJ M316 sk := SJ.wait (M := M276) (o := 6) hS0 (by omega) hT0 (by first | exact kp320 | (rw [kp320]; funext b; rfl)) (by omega) (by omega) (by omega)
          have hplQ : Pl M316 = 6 :: (stP x272 (Pl M)).2 := (Pl.push (M := M276) (by omega) (by first | exact kp320 | (rw [kp320]; funext b; rfl)) (by omega)).trans (by rw [h292.1])
          have hcoQ : Co M316 S = Co M S ++ (stP x272 (Pl M)).1 := (Co.same (M := M276) kp319 (by omega) (by omega)).trans h292.2
          refine vc_iconst dX12_behindOne_96 rfl ?_
          refine vc_iret dX12_behindOne_97 rfl (Nat.le_of_ble_eq_true rfl) (Nat.le_of_ble_eq_true rfl) ?_
          exact ⟨_, rfl, hB332, kp333, by omega, by omega, hPI337, by omega, by omega, by omega, by omega, by omega, by omega, fr336, by omega, by omega, ⟨Or.inl ⟨rfl, _, _, hSJn, rt334, fun o z => t_op (by omega) (rn_f (by omega) z)⟩, BOc.op rt334 (by omega) (by omega) (by rw [ht]; rfl) (by omega) hplQ hcoQ, fun h => absurd h (by decide)⟩⟩
      · have ht : tk g n p = -258 := hs42.mp (by omega)
        clear hs42
        refine vc_iconst dX12_behindOne_35 rfl ?_
        refine vc_goto dX12_behindOne_36 ?_
        refine vc_istore_n dX12_behindOne_54 (by decide) rfl (show _ = [some (aR 54), some (aI 5), none, none, none] from rfl) ?_
        refine vc_iload_n dX12_behindOne_55 rfl ?_
        refine vc_if_lt dX12_behindOne_56 (fun h338 => by exfalso; omega) (fun h338 => ?_)
        refine vc_aload_n dX12_behindOne_59 rfl ?_
        refine vc_iload_n dX12_behindOne_60 rfl ?_
        refine vc_cSI dX12_behindOne_61 (sfX12_rank (M := M) hB0.1  5 ) rfl okX12_rank stX12_rank lkX12_183 rfl (Nat.le_of_ble_eq_true rfl) ⟨rfl, rfl⟩ (Nat.le_of_ble_eq_true rfl) (Nat.le_of_ble_eq_true rfl) (Nat.le_of_ble_eq_true rfl) ?_
        rintro x339 _ ⟨rfl, h340, h341, h342⟩
        have hrk : rkI 5 = 2 := by decide
        have hrx := h342
        refine vc_cVU dX12_behindOne_64 (sfX12_settlePileF (M := M) hB0.1  S x339 (by omega) (by omega) (by exact p0) (by omega) (by omega)) rfl okX12_settlePile viX12_settlePile lkX12_211 (s_54 hB0.1.1) cl_12 rfl (Nat.le_of_ble_eq_true rfl) ⟨rfl, rfl⟩ (Nat.le_of_ble_eq_true rfl) (Nat.le_of_ble_eq_true rfl) (Nat.le_of_ble_eq_true rfl) ?_
        rintro M343 ⟨hB344, kp345, kp346, h347, h348, h349, h350, h351, h352, h353, h354, h355, h356, h357, h358, h359, h360, h361⟩
        have hB362 : BF fT M M343 := BF.go hB0 hB344
        have kp363 : mI M343 55 = mI M 55 := kp_go rfl kp345
        have fr364 : ∀ j : Nat, (j : Int) < mI M 54 14 + 265 + 2 * S → mI M343 57 j = mI M 57 j := fun j hj => (h356 j (by omega)).trans ((fun _ _ => rfl) j hj)
        have hl2 := h347.len
        obtain ⟨hS0, hT0⟩ := SJ.ops hS (by omega) p0 kp346 (by omega) (by omega) (fun q a b => rk_1 (by have z := h358 q a b; omega))
        refine vc_aload_n dX12_behindOne_67 rfl ?_
        refine vc_getR dX12_behindOne_68 flX12_32 (s_54 hB362.1.1) rfl (r_54_17 hB362.1.1) ?_
        refine vc_aload_n dX12_behindOne_71 rfl ?_
        refine vc_getI dX12_behindOne_72 flX12_180 (s_54 hB362.1.1) rfl ?_
        have k365 : 0 ≤ mI M343 54 18 ∧ mI M343 54 18 ≤ 160 := b54_18 (M := M343) hB362.1
        refine vc_iload_n dX12_behindOne_75 rfl ?_
        refine vc_iastore dX12_behindOne_76 (s_60 hB362.1.1) (by omega) (by omega) ?_
        have kp366 : mI (sI M343 60 ((mI M343 54 18).toNat) 5) 55 = mI M 55 := (kp_sI kp363 rfl)
        have hB367 : BF fT M (sI M343 60 ((mI M343 54 18).toNat) 5) := BF.w60 hB362 (fun _ => rfl) _
        refine vc_aload_n dX12_behindOne_77 rfl ?_
        refine vc_dup dX12_behindOne_78 rfl ?_
        refine vc_getI dX12_behindOne_79 flX12_180 (s_54 hB367.1.1) rfl ?_
        refine vc_topI (mI M343 54 18) rfl ?_
        have k368 : 0 ≤ mI M343 54 18 ∧ mI M343 54 18 ≤ 160 := b54_18 (M := (sI M343 60 ((mI M343 54 18).toNat) 5)) hB367.1
        refine vc_iconst dX12_behindOne_82 rfl ?_
        refine vc_iaddE dX12_behindOne_83 (by omega) (by omega) ?_
        refine vc_putI dX12_behindOne_84 (plX12_180 _ rfl) (s_54 hB367.1.1) rfl ?_
        have kp369 : mI (sI (sI M343 60 ((mI M343 54 18).toNat) 5) 54 18 ((mI M343 54 18) + 1)) 55 = mI M 55 := (kp_sI kp366 rfl)
        have hB370 : BF fT M (sI (sI M343 60 ((mI M343 54 18).toNat) 5) 54 18 ((mI M343 54 18) + 1)) := BF.w54_18 hB367 rfl (by omega) (by omega)
        refine vc_aload_n dX12_behindOne_87 rfl ?_
        refine vc_iconst dX12_behindOne_88 rfl ?_
        refine vc_putZ dX12_behindOne_89 (plX12_207 _ rfl) (s_54 hB370.1.1) rfl (by first | decide | omega) ?_
        have kp371 : mI (sI (sI (sI M343 60 ((mI M343 54 18).toNat) 5) 54 18 ((mI M343 54 18) + 1)) 54 20 0) 55 = mI M 55 := (kp_sI kp369 rfl)
        have hB372 : BF fT M (sI (sI (sI M343 60 ((mI M343 54 18).toNat) 5) 54 18 ((mI M343 54 18) + 1)) 54 20 0) := BF.w54_20 hB370 rfl
        refine vc_aload_n dX12_behindOne_92 rfl ?_
        have hgf := RT.gf hT hB372.2.2
        have hat0 := RT.at hT (by omega)
        have hrg0 := RT.rg hT
        have k373 : mI (sI (sI (sI M343 60 ((mI M343 54 18).toNat) 5) 54 18 ((mI M343 54 18) + 1)) 54 20 0) 54 9 = mI M343 54 9 := rfl
        have k374 : mI (sI (sI (sI M343 60 ((mI M343 54 18).toNat) 5) 54 18 ((mI M343 54 18) + 1)) 54 20 0) 54 10 = mI M343 54 10 := rfl
        have k375 : mI (sI (sI (sI M343 60 ((mI M343 54 18).toNat) 5) 54 18 ((mI M343 54 18) + 1)) 54 20 0) 54 11 = mI M343 54 11 := rfl
        have k376 : mI (sI (sI (sI M343 60 ((mI M343 54 18).toNat) 5) 54 18 ((mI M343 54 18) + 1)) 54 20 0) 54 14 = mI M343 54 14 := rfl
        have k377 : mI (sI (sI (sI M343 60 ((mI M343 54 18).toNat) 5) 54 18 ((mI M343 54 18) + 1)) 54 20 0) 54 15 = mI M343 54 15 := rfl
        have k378 : mI (sI (sI (sI M343 60 ((mI M343 54 18).toNat) 5) 54 18 ((mI M343 54 18) + 1)) 54 20 0) 54 16 = mI M343 54 16 := rfl
        have k379 : mI (sI (sI (sI M343 60 ((mI M343 54 18).toNat) 5) 54 18 ((mI M343 54 18) + 1)) 54 20 0) 54 18 = (mI M343 54 18) + 1 := rfl
        have k380 : mI (sI (sI (sI M343 60 ((mI M343 54 18).toNat) 5) 54 18 ((mI M343 54 18) + 1)) 54 20 0) 54 19 = mI M343 54 19 := rfl
        have k381 : mI (sI (sI (sI M343 60 ((mI M343 54 18).toNat) 5) 54 18 ((mI M343 54 18) + 1)) 54 20 0) 54 20 = 0 := rfl
        have k382 : mI (sI (sI (sI M343 60 ((mI M343 54 18).toNat) 5) 54 18 ((mI M343 54 18) + 1)) 54 20 0) 54 21 = mI M343 54 21 := rfl
        refine vc_cVU dX12_behindOne_93 (sfX12_nextTokenF (M := (sI (sI (sI M343 60 ((mI M343 54 18).toNat) 5) 54 18 ((mI M343 54 18) + 1)) 54 20 0)) hB372.1   (by first | (rw [hgf.2.1]; omega) | omega) (by first | (rw [hgf.1]; exact hgf.2.2) | assumption)) rfl okX12_nextToken viX12_nextToken lkX12_193 (s_54 hB372.1.1) cl_12 rfl (Nat.le_of_ble_eq_true rfl) ⟨rfl, rfl⟩ (Nat.le_of_ble_eq_true rfl) (Nat.le_of_ble_eq_true rfl) (Nat.le_of_ble_eq_true rfl) ?_
        rintro M383 ⟨hB384, kp385, kp386, kp387, h388, h389, h390, h391, h392, h393, h394, h395, h396, h397, h398⟩
        have hB399 : BF fT M M383 := BF.go hB372 hB384.t
        have kp400 : mI M383 55 = mI M 55 := kp_go kp371 kp385
        have rt401 : RT g n M383 (nx g n p) := by
          have z := h398
          rw [hgf.1, hgf.2.1, show mI (sI (sI (sI M343 60 ((mI M343 54 18).toNat) 5) 54 18 ((mI M343 54 18) + 1)) 54 20 0) 54 9 = en g n p by first | omega | (show mI M343 54 9 = _; omega)] at z
          exact z
        clear hrg0
        have rg402 := RT.rg rt401
        have fr403 : ∀ j : Nat, (j : Int) < mI M 54 14 + 265 + 2 * S → mI M383 57 j = mI M 57 j := fun j hj => (congrFun kp386 j).trans (fr364 j hj)
        have hbx := b54_10 (M := M383) hB399.1
        have hPI404 : PI M383 S := PI.bin (M := M343) (o := 5) h347 (by omega) (by omega) (by rcases h357 with e | e; (left; exact e); (right; omega)) kp386 (by first | exact kp387 | (rw [kp387]; funext b; rfl)) (by omega) (by omega) (by omega) (by omega) (by omega) (by omega) (by omega)
        have hSJn : SJ M383 sk := SJ.wait (M := M343) (o := 5) hS0 (by omega) hT0 (by first | exact kp387 | (rw [kp387]; funext b; rfl)) (by omega) (by omega) (by omega)
        have hplQ : Pl M383 = 5 :: (stP x339 (Pl M)).2 := (Pl.push (M := M343) (by omega) (by first | exact kp387 | (rw [kp387]; funext b; rfl)) (by omega)).trans (by rw [h359.1])
        have hcoQ : Co M383 S = Co M S ++ (stP x339 (Pl M)).1 := (Co.same (M := M343) kp386 (by omega) (by omega)).trans h359.2
        refine vc_iconst dX12_behindOne_96 rfl ?_
        refine vc_iret dX12_behindOne_97 rfl (Nat.le_of_ble_eq_true rfl) (Nat.le_of_ble_eq_true rfl) ?_
        exact ⟨_, rfl, hB399, kp400, by omega, by omega, hPI404, by omega, by omega, by omega, by omega, by omega, by omega, fr403, by omega, by omega, ⟨Or.inl ⟨rfl, _, _, hSJn, rt401, fun o z => t_op (by omega) (rn_f (by omega) z)⟩, BOc.op rt401 (by omega) (by omega) (by rw [ht]; rfl) (by omega) hplQ hcoQ, fun h => absurd h (by decide)⟩⟩
    · have ht : tk g n p = -255 := hs45.mp (by omega)
      clear hs45
      refine vc_iconst dX12_behindOne_22 rfl ?_
      refine vc_goto dX12_behindOne_23 ?_
      refine vc_istore_n dX12_behindOne_54 (by decide) rfl (show _ = [some (aR 54), some (aI 4), none, none, none] from rfl) ?_
      refine vc_iload_n dX12_behindOne_55 rfl ?_
      refine vc_if_lt dX12_behindOne_56 (fun h405 => by exfalso; omega) (fun h405 => ?_)
      refine vc_aload_n dX12_behindOne_59 rfl ?_
      refine vc_iload_n dX12_behindOne_60 rfl ?_
      refine vc_cSI dX12_behindOne_61 (sfX12_rank (M := M) hB0.1  4 ) rfl okX12_rank stX12_rank lkX12_183 rfl (Nat.le_of_ble_eq_true rfl) ⟨rfl, rfl⟩ (Nat.le_of_ble_eq_true rfl) (Nat.le_of_ble_eq_true rfl) (Nat.le_of_ble_eq_true rfl) ?_
      rintro x406 _ ⟨rfl, h407, h408, h409⟩
      have hrk : rkI 4 = 1 := by decide
      have hrx := h409
      refine vc_cVU dX12_behindOne_64 (sfX12_settlePileF (M := M) hB0.1  S x406 (by omega) (by omega) (by exact p0) (by omega) (by omega)) rfl okX12_settlePile viX12_settlePile lkX12_211 (s_54 hB0.1.1) cl_12 rfl (Nat.le_of_ble_eq_true rfl) ⟨rfl, rfl⟩ (Nat.le_of_ble_eq_true rfl) (Nat.le_of_ble_eq_true rfl) (Nat.le_of_ble_eq_true rfl) ?_
      rintro M410 ⟨hB411, kp412, kp413, h414, h415, h416, h417, h418, h419, h420, h421, h422, h423, h424, h425, h426, h427, h428⟩
      have hB429 : BF fT M M410 := BF.go hB0 hB411
      have kp430 : mI M410 55 = mI M 55 := kp_go rfl kp412
      have fr431 : ∀ j : Nat, (j : Int) < mI M 54 14 + 265 + 2 * S → mI M410 57 j = mI M 57 j := fun j hj => (h423 j (by omega)).trans ((fun _ _ => rfl) j hj)
      have hl2 := h414.len
      obtain ⟨hS0, hT0⟩ := SJ.ops hS (by omega) p0 kp413 (by omega) (by omega) (fun q a b => rk_1 (by have z := h425 q a b; omega))
      refine vc_aload_n dX12_behindOne_67 rfl ?_
      refine vc_getR dX12_behindOne_68 flX12_32 (s_54 hB429.1.1) rfl (r_54_17 hB429.1.1) ?_
      refine vc_aload_n dX12_behindOne_71 rfl ?_
      refine vc_getI dX12_behindOne_72 flX12_180 (s_54 hB429.1.1) rfl ?_
      have k432 : 0 ≤ mI M410 54 18 ∧ mI M410 54 18 ≤ 160 := b54_18 (M := M410) hB429.1
      refine vc_iload_n dX12_behindOne_75 rfl ?_
      refine vc_iastore dX12_behindOne_76 (s_60 hB429.1.1) (by omega) (by omega) ?_
      have kp433 : mI (sI M410 60 ((mI M410 54 18).toNat) 4) 55 = mI M 55 := (kp_sI kp430 rfl)
      have hB434 : BF fT M (sI M410 60 ((mI M410 54 18).toNat) 4) := BF.w60 hB429 (fun _ => rfl) _
      refine vc_aload_n dX12_behindOne_77 rfl ?_
      refine vc_dup dX12_behindOne_78 rfl ?_
      refine vc_getI dX12_behindOne_79 flX12_180 (s_54 hB434.1.1) rfl ?_
      refine vc_topI (mI M410 54 18) rfl ?_
      have k435 : 0 ≤ mI M410 54 18 ∧ mI M410 54 18 ≤ 160 := b54_18 (M := (sI M410 60 ((mI M410 54 18).toNat) 4)) hB434.1
      refine vc_iconst dX12_behindOne_82 rfl ?_
      refine vc_iaddE dX12_behindOne_83 (by omega) (by omega) ?_
      refine vc_putI dX12_behindOne_84 (plX12_180 _ rfl) (s_54 hB434.1.1) rfl ?_
      have kp436 : mI (sI (sI M410 60 ((mI M410 54 18).toNat) 4) 54 18 ((mI M410 54 18) + 1)) 55 = mI M 55 := (kp_sI kp433 rfl)
      have hB437 : BF fT M (sI (sI M410 60 ((mI M410 54 18).toNat) 4) 54 18 ((mI M410 54 18) + 1)) := BF.w54_18 hB434 rfl (by omega) (by omega)
      refine vc_aload_n dX12_behindOne_87 rfl ?_
      refine vc_iconst dX12_behindOne_88 rfl ?_
      refine vc_putZ dX12_behindOne_89 (plX12_207 _ rfl) (s_54 hB437.1.1) rfl (by first | decide | omega) ?_
      have kp438 : mI (sI (sI (sI M410 60 ((mI M410 54 18).toNat) 4) 54 18 ((mI M410 54 18) + 1)) 54 20 0) 55 = mI M 55 := (kp_sI kp436 rfl)
      have hB439 : BF fT M (sI (sI (sI M410 60 ((mI M410 54 18).toNat) 4) 54 18 ((mI M410 54 18) + 1)) 54 20 0) := BF.w54_20 hB437 rfl
      refine vc_aload_n dX12_behindOne_92 rfl ?_
      have hgf := RT.gf hT hB439.2.2
      have hat0 := RT.at hT (by omega)
      have hrg0 := RT.rg hT
      have k440 : mI (sI (sI (sI M410 60 ((mI M410 54 18).toNat) 4) 54 18 ((mI M410 54 18) + 1)) 54 20 0) 54 9 = mI M410 54 9 := rfl
      have k441 : mI (sI (sI (sI M410 60 ((mI M410 54 18).toNat) 4) 54 18 ((mI M410 54 18) + 1)) 54 20 0) 54 10 = mI M410 54 10 := rfl
      have k442 : mI (sI (sI (sI M410 60 ((mI M410 54 18).toNat) 4) 54 18 ((mI M410 54 18) + 1)) 54 20 0) 54 11 = mI M410 54 11 := rfl
      have k443 : mI (sI (sI (sI M410 60 ((mI M410 54 18).toNat) 4) 54 18 ((mI M410 54 18) + 1)) 54 20 0) 54 14 = mI M410 54 14 := rfl
      have k444 : mI (sI (sI (sI M410 60 ((mI M410 54 18).toNat) 4) 54 18 ((mI M410 54 18) + 1)) 54 20 0) 54 15 = mI M410 54 15 := rfl
      have k445 : mI (sI (sI (sI M410 60 ((mI M410 54 18).toNat) 4) 54 18 ((mI M410 54 18) + 1)) 54 20 0) 54 16 = mI M410 54 16 := rfl
      have k446 : mI (sI (sI (sI M410 60 ((mI M410 54 18).toNat) 4) 54 18 ((mI M410 54 18) + 1)) 54 20 0) 54 18 = (mI M410 54 18) + 1 := rfl
      have k447 : mI (sI (sI (sI M410 60 ((mI M410 54 18).toNat) 4) 54 18 ((mI M410 54 18) + 1)) 54 20 0) 54 19 = mI M410 54 19 := rfl
      have k448 : mI (sI (sI (sI M410 60 ((mI M410 54 18).toNat) 4) 54 18 ((mI M410 54 18) + 1)) 54 20 0) 54 20 = 0 := rfl
      have k449 : mI (sI (sI (sI M410 60 ((mI M410 54 18).toNat) 4) 54 18 ((mI M410 54 18) + 1)) 54 20 0) 54 21 = mI M410 54 21 := rfl
      refine vc_cVU dX12_behindOne_93 (sfX12_nextTokenF (M := (sI (sI (sI M410 60 ((mI M410 54 18).toNat) 4) 54 18 ((mI M410 54 18) + 1)) 54 20 0)) hB439.1   (by first | (rw [hgf.2.1]; omega) | omega) (by first | (rw [hgf.1]; exact hgf.2.2) | assumption)) rfl okX12_nextToken viX12_nextToken lkX12_193 (s_54 hB439.1.1) cl_12 rfl (Nat.le_of_ble_eq_true rfl) ⟨rfl, rfl⟩ (Nat.le_of_ble_eq_true rfl) (Nat.le_of_ble_eq_true rfl) (Nat.le_of_ble_eq_true rfl) ?_
      rintro M450 ⟨hB451, kp452, kp453, kp454, h455, h456, h457, h458, h459, h460, h461, h462, h463, h464, h465⟩
      have hB466 : BF fT M M450 := BF.go hB439 hB451.t
      have kp467 : mI M450 55 = mI M 55 := kp_go kp438 kp452
      have rt468 : RT g n M450 (nx g n p) := by
        have z := h465
        rw [hgf.1, hgf.2.1, show mI (sI (sI (sI M410 60 ((mI M410 54 18).toNat) 4) 54 18 ((mI M410 54 18) + 1)) 54 20 0) 54 9 = en g n p by first | omega | (show mI M410 54 9 = _; omega)] at z
        exact z
      clear hrg0
      have rg469 := RT.rg rt468
      have fr470 : ∀ j : Nat, (j : Int) < mI M 54 14 + 265 + 2 * S → mI M450 57 j = mI M 57 j := fun j hj => (congrFun kp453 j).trans (fr431 j hj)
      have hbx := b54_10 (M := M450) hB466.1
      have hPI471 : PI M450 S := PI.bin (M := M410) (o := 4) h414 (by omega) (by omega) (by rcases h424 with e | e; (left; exact e); (right; omega)) kp453 (by first | exact kp454 | (rw [kp454]; funext b; rfl)) (by omega) (by omega) (by omega) (by omega) (by omega) (by omega) (by omega)
      have hSJn : SJ M450 sk := SJ.wait (M := M410) (o := 4) hS0 (by omega) hT0 (by first | exact kp454 | (rw [kp454]; funext b; rfl)) (by omega) (by omega) (by omega)
      have hplQ : Pl M450 = 4 :: (stP x406 (Pl M)).2 := (Pl.push (M := M410) (by omega) (by first | exact kp454 | (rw [kp454]; funext b; rfl)) (by omega)).trans (by rw [h426.1])
      have hcoQ : Co M450 S = Co M S ++ (stP x406 (Pl M)).1 := (Co.same (M := M410) kp453 (by omega) (by omega)).trans h426.2
      refine vc_iconst dX12_behindOne_96 rfl ?_
      refine vc_iret dX12_behindOne_97 rfl (Nat.le_of_ble_eq_true rfl) (Nat.le_of_ble_eq_true rfl) ?_
      exact ⟨_, rfl, hB466, kp467, by omega, by omega, hPI471, by omega, by omega, by omega, by omega, by omega, by omega, fr470, by omega, by omega, ⟨Or.inl ⟨rfl, _, _, hSJn, rt468, fun o z => t_op (by omega) (rn_f (by omega) z)⟩, BOc.op rt468 (by omega) (by omega) (by rw [ht]; rfl) (by omega) hplQ hcoQ, fun h => absurd h (by decide)⟩⟩
  · have ht : tk g n p = -257 := hs43.mp (by omega)
    clear hs43
    refine vc_iconst dX12_behindOne_9 rfl ?_
    refine vc_goto dX12_behindOne_10 ?_
    refine vc_istore_n dX12_behindOne_54 (by decide) rfl (show _ = [some (aR 54), some (aI 3), none, none, none] from rfl) ?_
    refine vc_iload_n dX12_behindOne_55 rfl ?_
    refine vc_if_lt dX12_behindOne_56 (fun h472 => by exfalso; omega) (fun h472 => ?_)
    refine vc_aload_n dX12_behindOne_59 rfl ?_
    refine vc_iload_n dX12_behindOne_60 rfl ?_
    refine vc_cSI dX12_behindOne_61 (sfX12_rank (M := M) hB0.1  3 ) rfl okX12_rank stX12_rank lkX12_183 rfl (Nat.le_of_ble_eq_true rfl) ⟨rfl, rfl⟩ (Nat.le_of_ble_eq_true rfl) (Nat.le_of_ble_eq_true rfl) (Nat.le_of_ble_eq_true rfl) ?_
    rintro x473 _ ⟨rfl, h474, h475, h476⟩
    have hrk : rkI 3 = 1 := by decide
    have hrx := h476
    refine vc_cVU dX12_behindOne_64 (sfX12_settlePileF (M := M) hB0.1  S x473 (by omega) (by omega) (by exact p0) (by omega) (by omega)) rfl okX12_settlePile viX12_settlePile lkX12_211 (s_54 hB0.1.1) cl_12 rfl (Nat.le_of_ble_eq_true rfl) ⟨rfl, rfl⟩ (Nat.le_of_ble_eq_true rfl) (Nat.le_of_ble_eq_true rfl) (Nat.le_of_ble_eq_true rfl) ?_
    rintro M477 ⟨hB478, kp479, kp480, h481, h482, h483, h484, h485, h486, h487, h488, h489, h490, h491, h492, h493, h494, h495⟩
    have hB496 : BF fT M M477 := BF.go hB0 hB478
    have kp497 : mI M477 55 = mI M 55 := kp_go rfl kp479
    have fr498 : ∀ j : Nat, (j : Int) < mI M 54 14 + 265 + 2 * S → mI M477 57 j = mI M 57 j := fun j hj => (h490 j (by omega)).trans ((fun _ _ => rfl) j hj)
    have hl2 := h481.len
    obtain ⟨hS0, hT0⟩ := SJ.ops hS (by omega) p0 kp480 (by omega) (by omega) (fun q a b => rk_1 (by have z := h492 q a b; omega))
    refine vc_aload_n dX12_behindOne_67 rfl ?_
    refine vc_getR dX12_behindOne_68 flX12_32 (s_54 hB496.1.1) rfl (r_54_17 hB496.1.1) ?_
    refine vc_aload_n dX12_behindOne_71 rfl ?_
    refine vc_getI dX12_behindOne_72 flX12_180 (s_54 hB496.1.1) rfl ?_
    have k499 : 0 ≤ mI M477 54 18 ∧ mI M477 54 18 ≤ 160 := b54_18 (M := M477) hB496.1
    refine vc_iload_n dX12_behindOne_75 rfl ?_
    refine vc_iastore dX12_behindOne_76 (s_60 hB496.1.1) (by omega) (by omega) ?_
    have kp500 : mI (sI M477 60 ((mI M477 54 18).toNat) 3) 55 = mI M 55 := (kp_sI kp497 rfl)
    have hB501 : BF fT M (sI M477 60 ((mI M477 54 18).toNat) 3) := BF.w60 hB496 (fun _ => rfl) _
    refine vc_aload_n dX12_behindOne_77 rfl ?_
    refine vc_dup dX12_behindOne_78 rfl ?_
    refine vc_getI dX12_behindOne_79 flX12_180 (s_54 hB501.1.1) rfl ?_
    refine vc_topI (mI M477 54 18) rfl ?_
    have k502 : 0 ≤ mI M477 54 18 ∧ mI M477 54 18 ≤ 160 := b54_18 (M := (sI M477 60 ((mI M477 54 18).toNat) 3)) hB501.1
    refine vc_iconst dX12_behindOne_82 rfl ?_
    refine vc_iaddE dX12_behindOne_83 (by omega) (by omega) ?_
    refine vc_putI dX12_behindOne_84 (plX12_180 _ rfl) (s_54 hB501.1.1) rfl ?_
    have kp503 : mI (sI (sI M477 60 ((mI M477 54 18).toNat) 3) 54 18 ((mI M477 54 18) + 1)) 55 = mI M 55 := (kp_sI kp500 rfl)
    have hB504 : BF fT M (sI (sI M477 60 ((mI M477 54 18).toNat) 3) 54 18 ((mI M477 54 18) + 1)) := BF.w54_18 hB501 rfl (by omega) (by omega)
    refine vc_aload_n dX12_behindOne_87 rfl ?_
    refine vc_iconst dX12_behindOne_88 rfl ?_
    refine vc_putZ dX12_behindOne_89 (plX12_207 _ rfl) (s_54 hB504.1.1) rfl (by first | decide | omega) ?_
    have kp505 : mI (sI (sI (sI M477 60 ((mI M477 54 18).toNat) 3) 54 18 ((mI M477 54 18) + 1)) 54 20 0) 55 = mI M 55 := (kp_sI kp503 rfl)
    have hB506 : BF fT M (sI (sI (sI M477 60 ((mI M477 54 18).toNat) 3) 54 18 ((mI M477 54 18) + 1)) 54 20 0) := BF.w54_20 hB504 rfl
    refine vc_aload_n dX12_behindOne_92 rfl ?_
    have hgf := RT.gf hT hB506.2.2
    have hat0 := RT.at hT (by omega)
    have hrg0 := RT.rg hT
    have k507 : mI (sI (sI (sI M477 60 ((mI M477 54 18).toNat) 3) 54 18 ((mI M477 54 18) + 1)) 54 20 0) 54 9 = mI M477 54 9 := rfl
    have k508 : mI (sI (sI (sI M477 60 ((mI M477 54 18).toNat) 3) 54 18 ((mI M477 54 18) + 1)) 54 20 0) 54 10 = mI M477 54 10 := rfl
    have k509 : mI (sI (sI (sI M477 60 ((mI M477 54 18).toNat) 3) 54 18 ((mI M477 54 18) + 1)) 54 20 0) 54 11 = mI M477 54 11 := rfl
    have k510 : mI (sI (sI (sI M477 60 ((mI M477 54 18).toNat) 3) 54 18 ((mI M477 54 18) + 1)) 54 20 0) 54 14 = mI M477 54 14 := rfl
    have k511 : mI (sI (sI (sI M477 60 ((mI M477 54 18).toNat) 3) 54 18 ((mI M477 54 18) + 1)) 54 20 0) 54 15 = mI M477 54 15 := rfl
    have k512 : mI (sI (sI (sI M477 60 ((mI M477 54 18).toNat) 3) 54 18 ((mI M477 54 18) + 1)) 54 20 0) 54 16 = mI M477 54 16 := rfl
    have k513 : mI (sI (sI (sI M477 60 ((mI M477 54 18).toNat) 3) 54 18 ((mI M477 54 18) + 1)) 54 20 0) 54 18 = (mI M477 54 18) + 1 := rfl
    have k514 : mI (sI (sI (sI M477 60 ((mI M477 54 18).toNat) 3) 54 18 ((mI M477 54 18) + 1)) 54 20 0) 54 19 = mI M477 54 19 := rfl
    have k515 : mI (sI (sI (sI M477 60 ((mI M477 54 18).toNat) 3) 54 18 ((mI M477 54 18) + 1)) 54 20 0) 54 20 = 0 := rfl
    have k516 : mI (sI (sI (sI M477 60 ((mI M477 54 18).toNat) 3) 54 18 ((mI M477 54 18) + 1)) 54 20 0) 54 21 = mI M477 54 21 := rfl
    refine vc_cVU dX12_behindOne_93 (sfX12_nextTokenF (M := (sI (sI (sI M477 60 ((mI M477 54 18).toNat) 3) 54 18 ((mI M477 54 18) + 1)) 54 20 0)) hB506.1   (by first | (rw [hgf.2.1]; omega) | omega) (by first | (rw [hgf.1]; exact hgf.2.2) | assumption)) rfl okX12_nextToken viX12_nextToken lkX12_193 (s_54 hB506.1.1) cl_12 rfl (Nat.le_of_ble_eq_true rfl) ⟨rfl, rfl⟩ (Nat.le_of_ble_eq_true rfl) (Nat.le_of_ble_eq_true rfl) (Nat.le_of_ble_eq_true rfl) ?_
    rintro M517 ⟨hB518, kp519, kp520, kp521, h522, h523, h524, h525, h526, h527, h528, h529, h530, h531, h532⟩
    have hB533 : BF fT M M517 := BF.go hB506 hB518.t
    have kp534 : mI M517 55 = mI M 55 := kp_go kp505 kp519
    have rt535 : RT g n M517 (nx g n p) := by
      have z := h532
      rw [hgf.1, hgf.2.1, show mI (sI (sI (sI M477 60 ((mI M477 54 18).toNat) 3) 54 18 ((mI M477 54 18) + 1)) 54 20 0) 54 9 = en g n p by first | omega | (show mI M477 54 9 = _; omega)] at z
      exact z
    clear hrg0
    have rg536 := RT.rg rt535
    have fr537 : ∀ j : Nat, (j : Int) < mI M 54 14 + 265 + 2 * S → mI M517 57 j = mI M 57 j := fun j hj => (congrFun kp520 j).trans (fr498 j hj)
    have hbx := b54_10 (M := M517) hB533.1
    have hPI538 : PI M517 S := PI.bin (M := M477) (o := 3) h481 (by omega) (by omega) (by rcases h491 with e | e; (left; exact e); (right; omega)) kp520 (by first | exact kp521 | (rw [kp521]; funext b; rfl)) (by omega) (by omega) (by omega) (by omega) (by omega) (by omega) (by omega)
    have hSJn : SJ M517 sk := SJ.wait (M := M477) (o := 3) hS0 (by omega) hT0 (by first | exact kp521 | (rw [kp521]; funext b; rfl)) (by omega) (by omega) (by omega)
    have hplQ : Pl M517 = 3 :: (stP x473 (Pl M)).2 := (Pl.push (M := M477) (by omega) (by first | exact kp521 | (rw [kp521]; funext b; rfl)) (by omega)).trans (by rw [h493.1])
    have hcoQ : Co M517 S = Co M S ++ (stP x473 (Pl M)).1 := (Co.same (M := M477) kp520 (by omega) (by omega)).trans h493.2
    refine vc_iconst dX12_behindOne_96 rfl ?_
    refine vc_iret dX12_behindOne_97 rfl (Nat.le_of_ble_eq_true rfl) (Nat.le_of_ble_eq_true rfl) ?_
    exact ⟨_, rfl, hB533, kp534, by omega, by omega, hPI538, by omega, by omega, by omega, by omega, by omega, by omega, fr537, by omega, by omega, ⟨Or.inl ⟨rfl, _, _, hSJn, rt535, fun o z => t_op (by omega) (rn_f (by omega) z)⟩, BOc.op rt535 (by omega) (by omega) (by rw [ht]; rfl) (by omega) hplQ hcoQ, fun h => absurd h (by decide)⟩⟩
