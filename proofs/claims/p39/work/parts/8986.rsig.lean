/-! SIGNS: the reference (written by wip/laws3/c39b.py) -/
set_option maxRecDepth 4000 in
theorem sfX12_findShownF {l : Launch} {M : Mem} (hB : Box M) (S : Sw)  (p0 : TA (mI M 55) S) (p1 : S 1 7 ≠ -1) : Call l mdX12_findShown [aR 54] M (fun q N => q = none ∧ BF fQ M N ∧ mI N 55 = mI M 55 ∧ (∀ u : Nat, (u : Int) < S 1 6 → mI N 73 u = frF (dG S u)) ∧ (∀ u : Nat, (u : Int) < S 1 6 → mI N 74 u = shF S u)) := by
  have hB0 : BF fQ M M := BF.start hB
  refine Call.of [some (aR 54), none, none, none] rfl (Nat.le_of_ble_eq_true rfl) rfl ?_
  have c0 := p0.1.1
  have c1 := p0.1.2.1
  have hs := p0.sg p1
  have hn0 := hs.2.1
  have hn16 := hs.2.2.1
  have hg0 := hs.2.2.2.1
  have hg1 := hs.2.2.2.2
  refine vc_iconst dX12_findShown_0 rfl ?_
  refine vc_istore_n dX12_findShown_1 (by decide) rfl (show _ = [some (aR 54), some (aI 0), none, none] from rfl) ?_
  have lp2 : ∀ (n2 : Nat) (Mq2 : Mem) (v1 : Int), (BF fQ M Mq2) → (mI Mq2 55 = mI M 55) → (0 ≤ v1) → (v1 ≤ 16) → (∀ u : Nat, (u : Int) < v1 → mI Mq2 73 u = if (u : Int) = S 1 7 then 0 else 1000000) → (16 - v1).toNat < n2 → VC l mdX12_findShown 2 [some (aR 54), some (aI v1), none, none] [] Mq2 0 0 (fun q N => q = none ∧ BF fQ M N ∧ mI N 55 = mI M 55 ∧ (∀ u : Nat, (u : Int) < S 1 6 → mI N 73 u = frF (dG S u)) ∧ (∀ u : Nat, (u : Int) < S 1 6 → mI N 74 u = shF S u)) := by
    intro n2
    induction n2 with
    | zero => intro Mq2 v1 hQ2 kp2_55 g2_1a g2_1b g2i0 hm2; exact absurd hm2 (Nat.not_lt_zero _)
    | succ n2 ih2 =>
      intro Mq2 v1 hQ2 kp2_55 g2_1a g2_1b g2i0 hm2
      refine vc_iload_n dX12_findShown_2 rfl ?_
      refine vc_bipush dX12_findShown_3 rfl ?_
      refine vc_icmp_ge dX12_findShown_5 (fun h1 => ?_) (fun h1 => ?_)
      · refine vc_iconst dX12_findShown_37 rfl ?_
        refine vc_istore_n dX12_findShown_38 (by decide) rfl (show _ = [some (aR 54), some (aI 0), none, none] from rfl) ?_
        have lp39 : ∀ (n39 : Nat) (Mq39 : Mem) (v1i : Int), (BF fQ M Mq39) → (mI Mq39 55 = mI M 55) → (0 ≤ v1i) → (v1i ≤ 16) → (ReS S (mI Mq39 73) v1i.toNat 0 0) → (16 - v1i).toNat < n39 → VC l mdX12_findShown 39 [some (aR 54), some (aI v1i), none, none] [] Mq39 0 0 (fun q N => q = none ∧ BF fQ M N ∧ mI N 55 = mI M 55 ∧ (∀ u : Nat, (u : Int) < S 1 6 → mI N 73 u = frF (dG S u)) ∧ (∀ u : Nat, (u : Int) < S 1 6 → mI N 74 u = shF S u)) := by
          intro n39
          induction n39 with
          | zero => intro Mq39 v1i hQ39 kp39_55 g39_1a g39_1b g39i0 hm39; exact absurd hm39 (Nat.not_lt_zero _)
          | succ n39 ih39 =>
            intro Mq39 v1i hQ39 kp39_55 g39_1a g39_1b g39i0 hm39
            refine vc_iload_n dX12_findShown_39 rfl ?_
            refine vc_aload_n dX12_findShown_40 rfl ?_
            refine vc_getR dX12_findShown_41 flX12_7 (s_54 hQ39.1.1) rfl (r_54_0 hQ39.1.1) ?_
            refine vc_iconst dX12_findShown_44 rfl ?_
            refine vc_iaload dX12_findShown_45 (s_55 hQ39.1.1) (by omega) (by omega) ?_
            refine vc_topI (mI Mq39 55 0) rfl ?_
            have k2 : 0 ≤ mI Mq39 55 0 ∧ mI Mq39 55 0 ≤ 16 := b55_0 (M := Mq39) hQ39.1
            have k3 : mI Mq39 55 0 = mI M 55 0 := congrFun kp39_55 0
            refine vc_icmp_ge dX12_findShown_46 (fun h4 => ?_) (fun h4 => ?_)
            · refine vc_iconst dX12_findShown_136 rfl ?_
              refine vc_istore_n dX12_findShown_137 (by decide) rfl (show _ = [some (aR 54), some (aI 0), none, none] from rfl) ?_
              have lp138 : ∀ (n138 : Nat) (Mq138 : Mem) (v1ii : Int), (BF fQ M Mq138) → (mI Mq138 55 = mI M 55) → (0 ≤ v1ii) → (v1ii ≤ 16) → (∀ u : Nat, (u : Int) < v1ii → mI Mq138 74 u = shF S u) → (mI Mq138 73 = mI Mq39 73) → (16 - v1ii).toNat < n138 → VC l mdX12_findShown 138 [some (aR 54), some (aI v1ii), none, none] [] Mq138 0 0 (fun q N => q = none ∧ BF fQ M N ∧ mI N 55 = mI M 55 ∧ (∀ u : Nat, (u : Int) < S 1 6 → mI N 73 u = frF (dG S u)) ∧ (∀ u : Nat, (u : Int) < S 1 6 → mI N 74 u = shF S u)) := by
                intro n138
                induction n138 with
                | zero => intro Mq138 v1ii hQ138 kp138_55 g138_1a g138_1b g138i0 g138i1 hm138; exact absurd hm138 (Nat.not_lt_zero _)
                | succ n138 ih138 =>
                  intro Mq138 v1ii hQ138 kp138_55 g138_1a g138_1b g138i0 g138i1 hm138
                  have hfr := g39i0.e hs (by omega)
                  refine vc_iload_n dX12_findShown_138 rfl ?_
                  refine vc_aload_n dX12_findShown_139 rfl ?_
                  refine vc_getR dX12_findShown_140 flX12_7 (s_54 hQ138.1.1) rfl (r_54_0 hQ138.1.1) ?_
                  refine vc_iconst dX12_findShown_143 rfl ?_
                  refine vc_iaload dX12_findShown_144 (s_55 hQ138.1.1) (by omega) (by omega) ?_
                  refine vc_topI (mI Mq138 55 0) rfl ?_
                  have k5 : 0 ≤ mI Mq138 55 0 ∧ mI Mq138 55 0 ≤ 16 := b55_0 (M := Mq138) hQ138.1
                  have k6 : mI Mq138 55 0 = mI M 55 0 := congrFun kp138_55 0
                  refine vc_icmp_ge dX12_findShown_145 (fun h7 => ?_) (fun h7 => ?_)
                  · refine vc_vret dX12_findShown_223 rfl (Nat.le_of_ble_eq_true rfl) (Nat.le_of_ble_eq_true rfl) ?_
                    exact ⟨rfl, hQ138, kp138_55, fun u hu => by rw [g138i1]; exact hfr u hu, fun u hu => g138i0 u (by omega)⟩
                  · refine vc_aload_n dX12_findShown_148 rfl ?_
                    refine vc_getR dX12_findShown_149 flX12_76 (s_54 hQ138.1.1) rfl (r_54_46 hQ138.1.1) ?_
                    refine vc_iload_n dX12_findShown_152 rfl ?_
                    refine vc_iconst dX12_findShown_153 rfl ?_
                    refine vc_iastore dX12_findShown_154 (s_74 hQ138.1.1) (by omega) (by omega) ?_
                    have kp8 : mI (sI Mq138 74 v1ii.toNat (-1)) 55 = mI M 55 := (kp_sI kp138_55 rfl)
                    have hB9 : BF fQ M (sI Mq138 74 v1ii.toNat (-1)) := BF.w74 hQ138 (fun _ => rfl) _ (by omega) (by omega)
                    refine vc_iconst dX12_findShown_155 rfl ?_
                    refine vc_istore_n dX12_findShown_156 (by decide) rfl (show _ = [some (aR 54), some (aI v1ii), some (aI 3), none] from rfl) ?_
                    have lp157 : ∀ (n157 : Nat) (Mq157 : Mem) (v2 : Int), (BF fQ M Mq157) → (mI Mq157 55 = mI M 55) → ((-1) ≤ v2) → (v2 ≤ 3) → (∀ u : Nat, (u : Int) < v1ii → mI Mq157 74 u = shF S u) → (mI Mq157 73 = mI Mq39 73) → (loD (okD S v1ii.toNat) v2 (mI Mq157 74 v1ii.toNat)) → (v2 + 1).toNat < n157 → VC l mdX12_findShown 157 [some (aR 54), some (aI v1ii), some (aI v2), none] [] Mq157 0 0 (fun q N => q = none ∧ BF fQ M N ∧ mI N 55 = mI M 55 ∧ (∀ u : Nat, (u : Int) < S 1 6 → mI N 73 u = frF (dG S u)) ∧ (∀ u : Nat, (u : Int) < S 1 6 → mI N 74 u = shF S u)) := by
                      intro n157
                      induction n157 with
                      | zero => intro Mq157 v2 hQ157 kp157_55 g157_2a g157_2b g157i0 g157i1 g157i2 hm157; exact absurd hm157 (Nat.not_lt_zero _)
                      | succ n157 ih157 =>
                        intro Mq157 v2 hQ157 kp157_55 g157_2a g157_2b g157i0 g157i1 g157i2 hm157
                        refine vc_iload_n dX12_findShown_157 rfl ?_
                        refine vc_if_lt dX12_findShown_158 (fun h10 => ?_) (fun h10 => ?_)
                        · refine vc_iincE dX12_findShown_217 rfl (by omega) (by omega) (by decide) rfl (show _ = [some (aR 54), some (aI (v1ii + 1)), some (aI v2), none] from rfl) ?_
                          refine vc_goto dX12_findShown_220 ?_
                          refine vc_less [some (aR 54), some (aI (v1ii + 1)), none, none] (lessL_keep (lessL_keep (lessL_drop (lessL_keep (lessL_nil))))) ?_
                          exact ih138 Mq157 (v1ii + 1) hQ157 kp157_55 (by omega) (by omega) (by first | (intro u hu; exfalso; omega) | (intro u hu; by_cases q : (u : Int) = v1ii; (rw [show u = v1ii.toNat by omega]; exact (g157i2.e (by omega)).f); (exact g157i0 u (by omega)))) (by first | rfl | exact g157i1) (by omega)
                        · have hw1 : ((v1ii.toNat : Nat) : Int) = v1ii := by omega
                          have hw2 : ((v2.toNat : Nat) : Int) = v2 := by omega
                          have hfc : mI Mq157 73 v1ii.toNat = frF (dG S v1ii.toNat) := by rw [g157i1]; exact hfr _ (by omega)
                          have hdb := d_b S v1ii.toNat
                          have hfb := fr_c (x := dG S v1ii.toNat) hdb.1 (by omega)
                          refine vc_aload_n dX12_findShown_161 rfl ?_
                          refine vc_getR dX12_findShown_162 flX12_73 (s_54 hQ157.1.1) rfl (r_54_45 hQ157.1.1) ?_
                          refine vc_iload_n dX12_findShown_165 rfl ?_
                          refine vc_iaload dX12_findShown_166 (s_73 hQ157.1.1) (by omega) (by omega) ?_
                          refine vc_ldcw dX12_findShown_167 rfl kcX12_483 ?_
                          refine vc_icmp_ge dX12_findShown_170 (fun h11 => ?_) (fun h11 => ?_)
                          · have hlo : loD (okD S v1ii.toNat) (v2 - 1) (mI Mq157 74 v1ii.toNat) := g157i2.n (by omega) (fun z => by obtain ⟨z1, z2, z3⟩ := (ok_fr hs).mp z; omega)
                            refine vc_iincE dX12_findShown_211 rfl (by omega) (by omega) (by decide) rfl (show _ = [some (aR 54), some (aI v1ii), some (aI (v2 + (-1))), none] from rfl) ?_
                            refine vc_goto dX12_findShown_214 ?_
                            exact ih157 Mq157 (v2 + (-1)) hQ157 kp157_55 (by omega) (by omega) (by first | exact g157i0 | (intro u hu; rw [mI_sI, if_neg (by omega)]; first | exact g157i0 u hu | exact g138i0 u hu)) (by first | exact g157i1 | (funext j; rw [mI_sI, if_neg (by omega)]; first | exact congrFun g157i1 j | exact congrFun g138i1 j)) (by first | (rw [mI_same]; exact loD.z _) | (rw [show v2 + (-1) = v2 - 1 by omega]; exact hlo)) (by omega)
                          · refine vc_aload_n dX12_findShown_173 rfl ?_
                            refine vc_iload_n dX12_findShown_174 rfl ?_
                            refine vc_iload_n dX12_findShown_175 rfl ?_
                            refine vc_cVI dX12_findShown_176 (sfX12_streetOfF (M := Mq157) hQ157.1  v1ii v2 (by omega) (by omega) (by omega) (by omega)) rfl okX12_streetOf viX12_streetOf lkX12_91 (s_54 hQ157.1.1) cl_12 rfl (Nat.le_of_ble_eq_true rfl) ⟨rfl, rfl⟩ (Nat.le_of_ble_eq_true rfl) (Nat.le_of_ble_eq_true rfl) (Nat.le_of_ble_eq_true rfl) ?_
                            rintro x12 _ ⟨rfl, h13, h14, h15⟩
                            have hah : x12 = ahS S (v1ii.toNat : Nat) (v2.toNat : Nat) := by rw [hw1, hw2, h15, kp157_55]; exact p0.st (by omega) (by omega) (by omega) (by omega)
                            have har := p0.ahr (v1ii.toNat : Nat) (v2.toNat : Nat)
                            rw [← hah] at har
                            refine vc_if_lt dX12_findShown_179 (fun h16 => ?_) (fun h16 => ?_)
                            · have hlo : loD (okD S v1ii.toNat) (v2 - 1) (mI Mq157 74 v1ii.toNat) := g157i2.n (by omega) (fun z => by obtain ⟨z1, z2, z3⟩ := (ok_fr hs).mp z; rw [← hah] at z2; omega)
                              refine vc_iincE dX12_findShown_211 rfl (by omega) (by omega) (by decide) rfl (show _ = [some (aR 54), some (aI v1ii), some (aI (v2 + (-1))), none] from rfl) ?_
                              refine vc_goto dX12_findShown_214 ?_
                              exact ih157 Mq157 (v2 + (-1)) hQ157 kp157_55 (by omega) (by omega) (by first | exact g157i0 | (intro u hu; rw [mI_sI, if_neg (by omega)]; first | exact g157i0 u hu | exact g138i0 u hu)) (by first | exact g157i1 | (funext j; rw [mI_sI, if_neg (by omega)]; first | exact congrFun g157i1 j | exact congrFun g138i1 j)) (by first | (rw [mI_same]; exact loD.z _) | (rw [show v2 + (-1) = v2 - 1 by omega]; exact hlo)) (by omega)
                            · refine vc_aload_n dX12_findShown_182 rfl ?_
                              refine vc_getR dX12_findShown_183 flX12_73 (s_54 hQ157.1.1) rfl (r_54_45 hQ157.1.1) ?_
                              refine vc_aload_n dX12_findShown_186 rfl ?_
                              refine vc_iload_n dX12_findShown_187 rfl ?_
                              refine vc_iload_n dX12_findShown_188 rfl ?_
                              refine vc_cVI dX12_findShown_189 (sfX12_streetOfF (M := Mq157) hQ157.1  v1ii v2 (by omega) (by omega) (by omega) (by omega)) rfl okX12_streetOf viX12_streetOf lkX12_91 (s_54 hQ157.1.1) cl_12 rfl (Nat.le_of_ble_eq_true rfl) ⟨rfl, rfl⟩ (Nat.le_of_ble_eq_true rfl) (Nat.le_of_ble_eq_true rfl) (Nat.le_of_ble_eq_true rfl) ?_
                              rintro x17 _ ⟨rfl, h18, h19, h20⟩
                              have hx4 : x17 = x12 := by rw [hah, hw1, hw2, h20, kp157_55]; exact p0.st (by omega) (by omega) (by omega) (by omega)
                              have hfv : mI Mq157 73 x17.toNat = frF (dG S (ahS S (v1ii.toNat : Nat) (v2.toNat : Nat)).toNat) := by rw [g157i1, ← hah, ← hx4]; exact hfr _ (by omega)
                              have hwj : wI (mI Mq157 73 v1ii.toNat - 1) = mI Mq157 73 v1ii.toNat - 1 := wI_id (by omega) (by omega)
                              refine vc_iaload dX12_findShown_192 (s_73 hQ157.1.1) (by omega) (by omega) ?_
                              refine vc_aload_n dX12_findShown_193 rfl ?_
                              refine vc_getR dX12_findShown_194 flX12_73 (s_54 hQ157.1.1) rfl (r_54_45 hQ157.1.1) ?_
                              refine vc_iload_n dX12_findShown_197 rfl ?_
                              refine vc_iaload dX12_findShown_198 (s_73 hQ157.1.1) (by omega) (by omega) ?_
                              refine vc_iconst dX12_findShown_199 rfl ?_
                              refine vc_isub dX12_findShown_200 ?_
                              refine vc_icmp_ne dX12_findShown_201 (fun h21 => ?_) (fun h21 => ?_)
                              · have hlo : loD (okD S v1ii.toNat) (v2 - 1) (mI Mq157 74 v1ii.toNat) := g157i2.n (by omega) (fun z => by obtain ⟨z1, z2, z3⟩ := (ok_fr hs).mp z; rw [← hfv, ← hfc] at z3; omega)
                                refine vc_iincE dX12_findShown_211 rfl (by omega) (by omega) (by decide) rfl (show _ = [some (aR 54), some (aI v1ii), some (aI (v2 + (-1))), none] from rfl) ?_
                                refine vc_goto dX12_findShown_214 ?_
                                exact ih157 Mq157 (v2 + (-1)) hQ157 kp157_55 (by omega) (by omega) (by first | exact g157i0 | (intro u hu; rw [mI_sI, if_neg (by omega)]; first | exact g157i0 u hu | exact g138i0 u hu)) (by first | exact g157i1 | (funext j; rw [mI_sI, if_neg (by omega)]; first | exact congrFun g157i1 j | exact congrFun g138i1 j)) (by first | (rw [mI_same]; exact loD.z _) | (rw [show v2 + (-1) = v2 - 1 by omega]; exact hlo)) (by omega)
                              · refine vc_aload_n dX12_findShown_204 rfl ?_
                                refine vc_getR dX12_findShown_205 flX12_76 (s_54 hQ157.1.1) rfl (r_54_46 hQ157.1.1) ?_
                                refine vc_iload_n dX12_findShown_208 rfl ?_
                                refine vc_iload_n dX12_findShown_209 rfl ?_
                                refine vc_iastore dX12_findShown_210 (s_74 hQ157.1.1) (by omega) (by omega) ?_
                                have kp22 : mI (sI Mq157 74 v1ii.toNat v2) 55 = mI M 55 := (kp_sI kp157_55 rfl)
                                have hB23 : BF fQ M (sI Mq157 74 v1ii.toNat v2) := BF.w74 hQ157 (fun _ => rfl) _ (by omega) (by omega)
                                have hlo : loD (okD S v1ii.toNat) (v2 - 1) (mI (sI Mq157 74 v1ii.toNat v2) 74 v1ii.toNat) := by rw [mI_same]; exact g157i2.y (by omega) (by omega) ((ok_fr hs).mpr ⟨by omega, by rw [← hah]; omega, by rw [← hfv, ← hfc]; omega⟩)
                                refine vc_iincE dX12_findShown_211 rfl (by omega) (by omega) (by decide) rfl (show _ = [some (aR 54), some (aI v1ii), some (aI (v2 + (-1))), none] from rfl) ?_
                                refine vc_goto dX12_findShown_214 ?_
                                exact ih157 (sI Mq157 74 v1ii.toNat v2) (v2 + (-1)) hB23 kp22 (by omega) (by omega) (by first | exact g157i0 | (intro u hu; rw [mI_sI, if_neg (by omega)]; first | exact g157i0 u hu | exact g138i0 u hu)) (by first | exact g157i1 | (funext j; rw [mI_sI, if_neg (by omega)]; first | exact congrFun g157i1 j | exact congrFun g138i1 j)) (by first | (rw [mI_same]; exact loD.z _) | (rw [show v2 + (-1) = v2 - 1 by omega]; exact hlo)) (by omega)
                    exact lp157 _ (sI Mq138 74 v1ii.toNat (-1)) 3 hB9 kp8 (by omega) (by omega) (by first | exact g157i0 | (intro u hu; rw [mI_sI, if_neg (by omega)]; first | exact g157i0 u hu | exact g138i0 u hu)) (by first | exact g157i1 | (funext j; rw [mI_sI, if_neg (by omega)]; first | exact congrFun g157i1 j | exact congrFun g138i1 j)) (by first | (rw [mI_same]; exact loD.z _) | (rw [show v2 + (-1) = v2 - 1 by omega]; exact hlo)) (Nat.lt_succ_self _)
              exact lp138 _ Mq39 0 hQ39 kp39_55 (by omega) (by omega) (by first | (intro u hu; exfalso; omega) | (intro u hu; by_cases q : (u : Int) = v1ii; (rw [show u = v1ii.toNat by omega]; exact (g157i2.e (by omega)).f); (exact g157i0 u (by omega)))) (by first | rfl | exact g157i1) (Nat.lt_succ_self _)
            · refine vc_iconst dX12_findShown_49 rfl ?_
              refine vc_istore_n dX12_findShown_50 (by decide) rfl (show _ = [some (aR 54), some (aI v1i), some (aI 0), none] from rfl) ?_
              have lp51 : ∀ (n51 : Nat) (Mq51 : Mem) (v2 : Int), (BF fQ M Mq51) → (mI Mq51 55 = mI M 55) → (0 ≤ v2) → (v2 ≤ 16) → (ReS S (mI Mq51 73) v1i.toNat v2.toNat 0) → (16 - v2).toNat < n51 → VC l mdX12_findShown 51 [some (aR 54), some (aI v1i), some (aI v2), none] [] Mq51 0 0 (fun q N => q = none ∧ BF fQ M N ∧ mI N 55 = mI M 55 ∧ (∀ u : Nat, (u : Int) < S 1 6 → mI N 73 u = frF (dG S u)) ∧ (∀ u : Nat, (u : Int) < S 1 6 → mI N 74 u = shF S u)) := by
                intro n51
                induction n51 with
                | zero => intro Mq51 v2 hQ51 kp51_55 g51_2a g51_2b g51i0 hm51; exact absurd hm51 (Nat.not_lt_zero _)
                | succ n51 ih51 =>
                  intro Mq51 v2 hQ51 kp51_55 g51_2a g51_2b g51i0 hm51
                  refine vc_iload_n dX12_findShown_51 rfl ?_
                  refine vc_aload_n dX12_findShown_52 rfl ?_
                  refine vc_getR dX12_findShown_53 flX12_7 (s_54 hQ51.1.1) rfl (r_54_0 hQ51.1.1) ?_
                  refine vc_iconst dX12_findShown_56 rfl ?_
                  refine vc_iaload dX12_findShown_57 (s_55 hQ51.1.1) (by omega) (by omega) ?_
                  refine vc_topI (mI Mq51 55 0) rfl ?_
                  have k24 : 0 ≤ mI Mq51 55 0 ∧ mI Mq51 55 0 ≤ 16 := b55_0 (M := Mq51) hQ51.1
                  have k25 : mI Mq51 55 0 = mI M 55 0 := congrFun kp51_55 0
                  refine vc_icmp_ge dX12_findShown_58 (fun h26 => ?_) (fun h26 => ?_)
                  · refine vc_iincE dX12_findShown_130 rfl (by omega) (by omega) (by decide) rfl (show _ = [some (aR 54), some (aI (v1i + 1)), some (aI v2), none] from rfl) ?_
                    refine vc_goto dX12_findShown_133 ?_
                    refine vc_less [some (aR 54), some (aI (v1i + 1)), none, none] (lessL_keep (lessL_keep (lessL_drop (lessL_keep (lessL_nil))))) ?_
                    exact ih39 Mq51 (v1i + 1) hQ51 kp51_55 (by omega) (by omega) (by first | exact ReS.z (fun u hu => g2i0 u (by omega)) | (rw [show (v1i + 1).toNat = v1i.toNat + 1 by omega]; exact g51i0.r (by omega))) (by omega)
                  · refine vc_iconst dX12_findShown_61 rfl ?_
                    refine vc_istore_n dX12_findShown_62 (by decide) rfl (show _ = [some (aR 54), some (aI v1i), some (aI v2), some (aI 0)] from rfl) ?_
                    have lp63 : ∀ (n63 : Nat) (Mq63 : Mem) (v3 : Int), (BF fQ M Mq63) → (mI Mq63 55 = mI M 55) → (0 ≤ v3) → (v3 ≤ 4) → (ReS S (mI Mq63 73) v1i.toNat v2.toNat v3.toNat) → (4 - v3).toNat < n63 → VC l mdX12_findShown 63 [some (aR 54), some (aI v1i), some (aI v2), some (aI v3)] [] Mq63 0 0 (fun q N => q = none ∧ BF fQ M N ∧ mI N 55 = mI M 55 ∧ (∀ u : Nat, (u : Int) < S 1 6 → mI N 73 u = frF (dG S u)) ∧ (∀ u : Nat, (u : Int) < S 1 6 → mI N 74 u = shF S u)) := by
                      intro n63
                      induction n63 with
                      | zero => intro Mq63 v3 hQ63 kp63_55 g63_3a g63_3b g63i0 hm63; exact absurd hm63 (Nat.not_lt_zero _)
                      | succ n63 ih63 =>
                        intro Mq63 v3 hQ63 kp63_55 g63_3a g63_3b g63i0 hm63
                        refine vc_iload_n dX12_findShown_63 rfl ?_
                        refine vc_iconst dX12_findShown_64 rfl ?_
                        refine vc_icmp_ge dX12_findShown_65 (fun h27 => ?_) (fun h27 => ?_)
                        · refine vc_iincE dX12_findShown_124 rfl (by omega) (by omega) (by decide) rfl (show _ = [some (aR 54), some (aI v1i), some (aI (v2 + 1)), some (aI v3)] from rfl) ?_
                          refine vc_goto dX12_findShown_127 ?_
                          refine vc_less [some (aR 54), some (aI v1i), some (aI (v2 + 1)), none] (lessL_keep (lessL_keep (lessL_keep (lessL_drop (lessL_nil))))) ?_
                          exact ih51 Mq63 (v2 + 1) hQ63 kp63_55 (by omega) (by omega) (by first | exact g39i0 | (rw [show (v2 + 1).toNat = v2.toNat + 1 by omega]; exact ReS.c (by have z := g63i0; rw [show v3.toNat = 4 by omega] at z; exact z) (by omega))) (by omega)
                        · refine vc_aload_n dX12_findShown_68 rfl ?_
                          refine vc_iload_n dX12_findShown_69 rfl ?_
                          refine vc_iload_n dX12_findShown_70 rfl ?_
                          refine vc_cVI dX12_findShown_71 (sfX12_streetOfF (M := Mq63) hQ63.1  v2 v3 (by omega) (by omega) (by omega) (by omega)) rfl okX12_streetOf viX12_streetOf lkX12_91 (s_54 hQ63.1.1) cl_12 rfl (Nat.le_of_ble_eq_true rfl) ⟨rfl, rfl⟩ (Nat.le_of_ble_eq_true rfl) (Nat.le_of_ble_eq_true rfl) (Nat.le_of_ble_eq_true rfl) ?_
                          rintro x28 _ ⟨rfl, h29, h30, h31⟩
                          have hv2 : ((v2.toNat : Nat) : Int) = v2 := by omega
                          have hv3 : ((v3.toNat : Nat) : Int) = v3 := by omega
                          have hah : x28 = ahS S (v2.toNat : Nat) (v3.toNat : Nat) := by rw [hv2, hv3, h31, kp63_55]; exact p0.st (by omega) (by omega) (by omega) (by omega)
                          have har := p0.ahr (v2.toNat : Nat) (v3.toNat : Nat)
                          rw [← hah] at har
                          have hk2 := g63i0.1 v2.toNat (by omega)
                          refine vc_if_lt dX12_findShown_74 (fun h32 => ?_) (fun h32 => ?_)
                          · refine vc_iincE dX12_findShown_118 rfl (by omega) (by omega) (by decide) rfl (show _ = [some (aR 54), some (aI v1i), some (aI v2), some (aI (v3 + 1))] from rfl) ?_
                            refine vc_goto dX12_findShown_121 ?_
                            exact ih63 Mq63 (v3 + 1) hQ63 kp63_55 (by omega) (by omega) (by first | exact g51i0 | (rw [show (v3 + 1).toNat = v3.toNat + 1 by omega]; exact g63i0.no (by rw [← hah]; omega)) | (rw [show (v3 + 1).toNat = v3.toNat + 1 by omega]; exact g63i0.as hs (by rw [← hah, ← hq]; omega)) | (rw [show (v3 + 1).toNat = v3.toNat + 1 by omega, mI_up, hqw, hq, hah]; refine g63i0.up hs (by omega) (by omega) (by rw [← hah]; omega) ?_; rw [← hah, ← hq]; omega)) (by omega)
                          · refine vc_aload_n dX12_findShown_77 rfl ?_
                            refine vc_getR dX12_findShown_78 flX12_73 (s_54 hQ63.1.1) rfl (r_54_45 hQ63.1.1) ?_
                            refine vc_aload_n dX12_findShown_81 rfl ?_
                            refine vc_iload_n dX12_findShown_82 rfl ?_
                            refine vc_iload_n dX12_findShown_83 rfl ?_
                            refine vc_cVI dX12_findShown_84 (sfX12_streetOfF (M := Mq63) hQ63.1  v2 v3 (by omega) (by omega) (by omega) (by omega)) rfl okX12_streetOf viX12_streetOf lkX12_91 (s_54 hQ63.1.1) cl_12 rfl (Nat.le_of_ble_eq_true rfl) ⟨rfl, rfl⟩ (Nat.le_of_ble_eq_true rfl) (Nat.le_of_ble_eq_true rfl) (Nat.le_of_ble_eq_true rfl) ?_
                            rintro x33 _ ⟨rfl, h34, h35, h36⟩
                            have hx37 : x33 = x28 := by rw [hah, hv2, hv3, h36, kp63_55]; exact p0.st (by omega) (by omega) (by omega) (by omega)
                            have hx37b := g63i0.1 x33.toNat (by omega)
                            have hx37w : wI (mI Mq63 73 x33.toNat + 1) = mI Mq63 73 x33.toNat + 1 := wI_id (by omega) (by omega)
                            refine vc_iaload dX12_findShown_87 (s_73 hQ63.1.1) (by omega) (by omega) ?_
                            refine vc_iconst dX12_findShown_88 rfl ?_
                            refine vc_iadd dX12_findShown_89 ?_
                            refine vc_aload_n dX12_findShown_90 rfl ?_
                            refine vc_getR dX12_findShown_91 flX12_73 (s_54 hQ63.1.1) rfl (r_54_45 hQ63.1.1) ?_
                            refine vc_iload_n dX12_findShown_94 rfl ?_
                            refine vc_iaload dX12_findShown_95 (s_73 hQ63.1.1) (by omega) (by omega) ?_
                            refine vc_icmp_ge dX12_findShown_96 (fun h38 => ?_) (fun h38 => ?_)
                            · refine vc_iincE dX12_findShown_118 rfl (by omega) (by omega) (by decide) rfl (show _ = [some (aR 54), some (aI v1i), some (aI v2), some (aI (v3 + 1))] from rfl) ?_
                              refine vc_goto dX12_findShown_121 ?_
                              exact ih63 Mq63 (v3 + 1) hQ63 kp63_55 (by omega) (by omega) (by first | exact g51i0 | (rw [show (v3 + 1).toNat = v3.toNat + 1 by omega]; exact g63i0.no (by rw [← hah]; omega)) | (rw [show (v3 + 1).toNat = v3.toNat + 1 by omega]; exact g63i0.as hs (by rw [← hah, ← hx37]; omega)) | (rw [show (v3 + 1).toNat = v3.toNat + 1 by omega, mI_up, hx37w, hx37, hah]; refine g63i0.up hs (by omega) (by omega) (by rw [← hah]; omega) ?_; rw [← hah, ← hx37]; omega)) (by omega)
                            · refine vc_aload_n dX12_findShown_99 rfl ?_
                              refine vc_getR dX12_findShown_100 flX12_73 (s_54 hQ63.1.1) rfl (r_54_45 hQ63.1.1) ?_
                              refine vc_iload_n dX12_findShown_103 rfl ?_
                              refine vc_aload_n dX12_findShown_104 rfl ?_
                              refine vc_getR dX12_findShown_105 flX12_73 (s_54 hQ63.1.1) rfl (r_54_45 hQ63.1.1) ?_
                              refine vc_aload_n dX12_findShown_108 rfl ?_
                              refine vc_iload_n dX12_findShown_109 rfl ?_
                              refine vc_iload_n dX12_findShown_110 rfl ?_
                              refine vc_cVI dX12_findShown_111 (sfX12_streetOfF (M := Mq63) hQ63.1  v2 v3 (by omega) (by omega) (by omega) (by omega)) rfl okX12_streetOf viX12_streetOf lkX12_91 (s_54 hQ63.1.1) cl_12 rfl (Nat.le_of_ble_eq_true rfl) ⟨rfl, rfl⟩ (Nat.le_of_ble_eq_true rfl) (Nat.le_of_ble_eq_true rfl) (Nat.le_of_ble_eq_true rfl) ?_
                              rintro x39 _ ⟨rfl, h40, h41, h42⟩
                              have hx43 : x39 = x28 := by rw [hah, hv2, hv3, h42, kp63_55]; exact p0.st (by omega) (by omega) (by omega) (by omega)
                              have hx43b := g63i0.1 x39.toNat (by omega)
                              have hx43w : wI (mI Mq63 73 x39.toNat + 1) = mI Mq63 73 x39.toNat + 1 := wI_id (by omega) (by omega)
                              have hxe : mI Mq63 73 x39.toNat = mI Mq63 73 x33.toNat := by rw [hx43, hx37]
                              refine vc_iaload dX12_findShown_114 (s_73 hQ63.1.1) (by omega) (by omega) ?_
                              refine vc_iconst dX12_findShown_115 rfl ?_
                              refine vc_iadd dX12_findShown_116 ?_
                              refine vc_iastore dX12_findShown_117 (s_73 hQ63.1.1) (by omega) (by omega) ?_
                              have kp44 : mI (sI Mq63 73 v2.toNat (wI ((mI Mq63 73 x39.toNat) + 1))) 55 = mI M 55 := (kp_sI kp63_55 rfl)
                              have hB45 : BF fQ M (sI Mq63 73 v2.toNat (wI ((mI Mq63 73 x39.toNat) + 1))) := BF.w73 hQ63 (fun _ => rfl) _
                              refine vc_iincE dX12_findShown_118 rfl (by omega) (by omega) (by decide) rfl (show _ = [some (aR 54), some (aI v1i), some (aI v2), some (aI (v3 + 1))] from rfl) ?_
                              refine vc_goto dX12_findShown_121 ?_
                              exact ih63 (sI Mq63 73 v2.toNat (wI ((mI Mq63 73 x39.toNat) + 1))) (v3 + 1) hB45 kp44 (by omega) (by omega) (by first | exact g51i0 | (rw [show (v3 + 1).toNat = v3.toNat + 1 by omega]; exact g63i0.no (by rw [← hah]; omega)) | (rw [show (v3 + 1).toNat = v3.toNat + 1 by omega]; exact g63i0.as hs (by rw [← hah, ← hx43]; omega)) | (rw [show (v3 + 1).toNat = v3.toNat + 1 by omega, mI_up, hx43w, hx43, hah]; refine g63i0.up hs (by omega) (by omega) (by rw [← hah]; omega) ?_; rw [← hah, ← hx43]; omega)) (by omega)
                    exact lp63 _ Mq51 0 hQ51 kp51_55 (by omega) (by omega) (by first | exact g51i0 | (rw [show (v3 + 1).toNat = v3.toNat + 1 by omega]; exact g63i0.no (by rw [← hah]; omega)) | (rw [show (v3 + 1).toNat = v3.toNat + 1 by omega]; exact g63i0.as hs (by rw [← hah, ← hx43]; omega)) | (rw [show (v3 + 1).toNat = v3.toNat + 1 by omega, mI_up, hx43w, hx43, hah]; refine g63i0.up hs (by omega) (by omega) (by rw [← hah]; omega) ?_; rw [← hah, ← hx43]; omega)) (Nat.lt_succ_self _)
              exact lp51 _ Mq39 0 hQ39 kp39_55 (by omega) (by omega) (by first | exact g39i0 | (rw [show (v2 + 1).toNat = v2.toNat + 1 by omega]; exact ReS.c (by have z := g63i0; rw [show v3.toNat = 4 by omega] at z; exact z) (by omega))) (Nat.lt_succ_self _)
        exact lp39 _ Mq2 0 hQ2 kp2_55 (by omega) (by omega) (by first | exact ReS.z (fun u hu => g2i0 u (by omega)) | (rw [show (v1i + 1).toNat = v1i.toNat + 1 by omega]; exact g51i0.r (by omega))) (Nat.lt_succ_self _)
      · refine vc_aload_n dX12_findShown_8 rfl ?_
        refine vc_getR dX12_findShown_9 flX12_73 (s_54 hQ2.1.1) rfl (r_54_45 hQ2.1.1) ?_
        refine vc_iload_n dX12_findShown_12 rfl ?_
        refine vc_iload_n dX12_findShown_13 rfl ?_
        refine vc_aload_n dX12_findShown_14 rfl ?_
        refine vc_getR dX12_findShown_15 flX12_7 (s_54 hQ2.1.1) rfl (r_54_0 hQ2.1.1) ?_
        refine vc_iconst dX12_findShown_18 rfl ?_
        refine vc_iaload dX12_findShown_19 (s_55 hQ2.1.1) (by omega) (by omega) ?_
        refine vc_topI (mI Mq2 55 1) rfl ?_
        have k46 : (-1) ≤ mI Mq2 55 1 ∧ mI Mq2 55 1 ≤ 15 := b55_1 (M := Mq2) hQ2.1
        have k47 : mI Mq2 55 1 = mI M 55 1 := congrFun kp2_55 1
        refine vc_icmp_ne dX12_findShown_20 (fun h48 => ?_) (fun h48 => ?_)
        · refine vc_ldcw dX12_findShown_27 rfl kcX12_483 ?_
          refine vc_iastore dX12_findShown_30 (s_73 hQ2.1.1) (by omega) (by omega) ?_
          have kp49 : mI (sI Mq2 73 v1.toNat 1000000) 55 = mI M 55 := (kp_sI kp2_55 rfl)
          have hB50 : BF fQ M (sI Mq2 73 v1.toNat 1000000) := BF.w73 hQ2 (fun _ => rfl) _
          refine vc_iincE dX12_findShown_31 rfl (by omega) (by omega) (by decide) rfl (show _ = [some (aR 54), some (aI (v1 + 1)), none, none] from rfl) ?_
          refine vc_goto dX12_findShown_34 ?_
          exact ih2 (sI Mq2 73 v1.toNat 1000000) (v1 + 1) hB50 kp49 (by omega) (by omega) (by first | (intro u hu; exfalso; omega) | (intro u hu; by_cases q : (u : Int) = v1; (rw [mI_sI, if_pos ⟨rfl, by omega⟩]; first | (rw [if_pos (by omega)]) | (rw [if_neg (by omega)])); (rw [mI_sI, if_neg (fun z => q (by omega))]; exact g2i0 u (by omega)))) (by omega)
        · refine vc_iconst dX12_findShown_23 rfl ?_
          refine vc_goto dX12_findShown_24 ?_
          refine vc_iastore dX12_findShown_30 (s_73 hQ2.1.1) (by omega) (by omega) ?_
          have kp51 : mI (sI Mq2 73 v1.toNat 0) 55 = mI M 55 := (kp_sI kp2_55 rfl)
          have hB52 : BF fQ M (sI Mq2 73 v1.toNat 0) := BF.w73 hQ2 (fun _ => rfl) _
          refine vc_iincE dX12_findShown_31 rfl (by omega) (by omega) (by decide) rfl (show _ = [some (aR 54), some (aI (v1 + 1)), none, none] from rfl) ?_
          refine vc_goto dX12_findShown_34 ?_
          exact ih2 (sI Mq2 73 v1.toNat 0) (v1 + 1) hB52 kp51 (by omega) (by omega) (by first | (intro u hu; exfalso; omega) | (intro u hu; by_cases q : (u : Int) = v1; (rw [mI_sI, if_pos ⟨rfl, by omega⟩]; first | (rw [if_pos (by omega)]) | (rw [if_neg (by omega)])); (rw [mI_sI, if_neg (fun z => q (by omega))]; exact g2i0 u (by omega)))) (by omega)
  exact lp2 _ M 0 hB0 rfl (by omega) (by omega) (by first | (intro u hu; exfalso; omega) | (intro u hu; by_cases q : (u : Int) = v1; (rw [mI_sI, if_pos ⟨rfl, by omega⟩]; first | (rw [if_pos (by omega)]) | (rw [if_neg (by omega)])); (rw [mI_sI, if_neg (fun z => q (by omega))]; exact g2i0 u (by omega)))) (Nat.lt_succ_self _)

set_option maxRecDepth 4000 in
theorem sfX12_directionFromF {l : Launch} {M : Mem} (hB : Box M) (S : Sw) (t : Nat) (c : Int) (f : Int) (s : Int) (p0 : 0 ≤ c) (p1 : c ≤ 15) (p2 : 0 ≤ f) (p3 : f ≤ 3) (p4 : TA (mI M 55) S) (p5 : c < S 1 6) (p6 : s = (t : Int) ∧ t < 65536) (p7 : ∀ u : Nat, (u : Int) < S 1 6 → mI M 74 u = shF S u) : Call l mdX12_directionFrom [aR 54, aI c, aI f, aI s] M (fun q N => ∃ r : Int, q = some (aI r) ∧ M = N ∧ (-1) ≤ r ∧ r ≤ 3 ∧ r = drG S t c.toNat f) := by
  have hB0 : BF fQ M M := BF.start hB
  refine Call.of [some (aR 54), some (aI c), some (aI f), some (aI s)] rfl (Nat.le_of_ble_eq_true rfl) rfl ?_
  refine vc_ok (fun hoM hoS hoL => ?_)
  have hr3 : -2147483648 ≤ s ∧ s < 2147483648 := hoL 3 _ rfl
  have hcn : ((c.toNat : Nat) : Int) = c := by omega
  have p2 := p4
  have p3 := p5
  have p4 := p6
  have p5 := p7
  have hwn := p2.2.2.2.2.2.2.2.2.1
  refine vc_iload_n dX12_directionFrom_0 rfl ?_
  refine vc_iload_n dX12_directionFrom_1 rfl ?_
  refine vc_cSI dX12_directionFrom_2 (sfX12_hasW (M := M) hB0.1  s c ) rfl okX12_has stX12_has lkX12_268 rfl (Nat.le_of_ble_eq_true rfl) ⟨rfl, rfl⟩ (Nat.le_of_ble_eq_true rfl) (Nat.le_of_ble_eq_true rfl) (Nat.le_of_ble_eq_true rfl) ?_
  rintro x1 _ ⟨rfl, h2, h3, h4⟩
  have hha := h4
  have hbt : shrI s c % 2 = 1 ↔ t.testBit c.toNat = true := by have z := shr_tb p4.2 (show c.toNat < 16 by omega); rw [hcn, ← p4.1] at z; exact z
  have hsc := p5 c.toNat (by omega)
  refine vc_if_eq dX12_directionFrom_5 (fun h5 => ?_) (fun h5 => ?_)
  · refine vc_aload_n dX12_directionFrom_24 rfl ?_
    refine vc_iload_n dX12_directionFrom_25 rfl ?_
    refine vc_iload_n dX12_directionFrom_26 rfl ?_
    refine vc_cVI dX12_directionFrom_27 (sfX12_streetOfF (M := M) hB0.1  c f (by omega) (by omega) (by omega) (by omega)) rfl okX12_streetOf viX12_streetOf lkX12_91 (s_54 hB0.1.1) cl_12 rfl (Nat.le_of_ble_eq_true rfl) ⟨rfl, rfl⟩ (Nat.le_of_ble_eq_true rfl) (Nat.le_of_ble_eq_true rfl) (Nat.le_of_ble_eq_true rfl) ?_
    rintro x6 _ ⟨rfl, h7, h8, h9⟩
    have ha10 : x6 = ahS S (c.toNat : Nat) f := by rw [hcn, h9]; exact p2.st (by omega) (by omega) (by omega) (by omega)
    have ha10r := p2.ahr (c.toNat : Nat) f
    rw [← ha10] at ha10r
    refine vc_if_lt dX12_directionFrom_30 (fun h11 => ?_) (fun h11 => ?_)
    · refine vc_aload_n dX12_directionFrom_35 rfl ?_
      refine vc_iload_n dX12_directionFrom_36 rfl ?_
      refine vc_iload_n dX12_directionFrom_37 rfl ?_
      refine vc_iconst dX12_directionFrom_38 rfl ?_
      refine vc_iaddE dX12_directionFrom_39 (by omega) (by omega) ?_
      refine vc_iconst dX12_directionFrom_40 rfl ?_
      refine vc_iremE dX12_directionFrom_41 (by omega) (by omega) ?_
      refine vc_cVI dX12_directionFrom_42 (sfX12_streetOfF (M := M) hB0.1  c ((f + 1) % 4) (by omega) (by omega) (by omega) (by omega)) rfl okX12_streetOf viX12_streetOf lkX12_91 (s_54 hB0.1.1) cl_12 rfl (Nat.le_of_ble_eq_true rfl) ⟨rfl, rfl⟩ (Nat.le_of_ble_eq_true rfl) (Nat.le_of_ble_eq_true rfl) (Nat.le_of_ble_eq_true rfl) ?_
      rintro x12 _ ⟨rfl, h13, h14, h15⟩
      have ha16 : x12 = ahS S (c.toNat : Nat) ((f + 1) % 4) := by rw [hcn, h15]; exact p2.st (by omega) (by omega) (by omega) (by omega)
      have ha16r := p2.ahr (c.toNat : Nat) ((f + 1) % 4)
      rw [← ha16] at ha16r
      refine vc_if_lt dX12_directionFrom_45 (fun h17 => ?_) (fun h17 => ?_)
      · refine vc_aload_n dX12_directionFrom_54 rfl ?_
        refine vc_iload_n dX12_directionFrom_55 rfl ?_
        refine vc_iload_n dX12_directionFrom_56 rfl ?_
        refine vc_iconst dX12_directionFrom_57 rfl ?_
        refine vc_iaddE dX12_directionFrom_58 (by omega) (by omega) ?_
        refine vc_iconst dX12_directionFrom_59 rfl ?_
        refine vc_iremE dX12_directionFrom_60 (by omega) (by omega) ?_
        refine vc_cVI dX12_directionFrom_61 (sfX12_streetOfF (M := M) hB0.1  c ((f + 3) % 4) (by omega) (by omega) (by omega) (by omega)) rfl okX12_streetOf viX12_streetOf lkX12_91 (s_54 hB0.1.1) cl_12 rfl (Nat.le_of_ble_eq_true rfl) ⟨rfl, rfl⟩ (Nat.le_of_ble_eq_true rfl) (Nat.le_of_ble_eq_true rfl) (Nat.le_of_ble_eq_true rfl) ?_
        rintro x18 _ ⟨rfl, h19, h20, h21⟩
        have ha22 : x18 = ahS S (c.toNat : Nat) ((f + 3) % 4) := by rw [hcn, h21]; exact p2.st (by omega) (by omega) (by omega) (by omega)
        have ha22r := p2.ahr (c.toNat : Nat) ((f + 3) % 4)
        rw [← ha22] at ha22r
        refine vc_if_lt dX12_directionFrom_64 (fun h23 => ?_) (fun h23 => ?_)
        · refine vc_aload_n dX12_directionFrom_73 rfl ?_
          refine vc_iload_n dX12_directionFrom_74 rfl ?_
          refine vc_iload_n dX12_directionFrom_75 rfl ?_
          refine vc_iconst dX12_directionFrom_76 rfl ?_
          refine vc_iaddE dX12_directionFrom_77 (by omega) (by omega) ?_
          refine vc_iconst dX12_directionFrom_78 rfl ?_
          refine vc_iremE dX12_directionFrom_79 (by omega) (by omega) ?_
          refine vc_cVI dX12_directionFrom_80 (sfX12_streetOfF (M := M) hB0.1  c ((f + 2) % 4) (by omega) (by omega) (by omega) (by omega)) rfl okX12_streetOf viX12_streetOf lkX12_91 (s_54 hB0.1.1) cl_12 rfl (Nat.le_of_ble_eq_true rfl) ⟨rfl, rfl⟩ (Nat.le_of_ble_eq_true rfl) (Nat.le_of_ble_eq_true rfl) (Nat.le_of_ble_eq_true rfl) ?_
          rintro x24 _ ⟨rfl, h25, h26, h27⟩
          have ha28 : x24 = ahS S (c.toNat : Nat) ((f + 2) % 4) := by rw [hcn, h27]; exact p2.st (by omega) (by omega) (by omega) (by omega)
          have ha28r := p2.ahr (c.toNat : Nat) ((f + 2) % 4)
          rw [← ha28] at ha28r
          refine vc_if_lt dX12_directionFrom_83 (fun h29 => ?_) (fun h29 => ?_)
          · refine vc_iconst dX12_directionFrom_94 rfl ?_
            refine vc_iret dX12_directionFrom_95 rfl (Nat.le_of_ble_eq_true rfl) (Nat.le_of_ble_eq_true rfl) ?_
            exact ⟨_, rfl, rfl, by omega, by omega, by rw [dr_n (fun z => by have z1 := hbt.mpr z.1; have z2 := z.2; rw [← hsc] at z2; omega)]; exact (on_n (fun z => by rw [← ha10] at z; omega) (fun z => by rw [← ha16] at z; omega) (fun z => by rw [← ha22] at z; omega) (fun z => by rw [← ha28] at z; omega)).symm⟩
          · refine vc_iload_n dX12_directionFrom_86 rfl ?_
            refine vc_iconst dX12_directionFrom_87 rfl ?_
            refine vc_iaddE dX12_directionFrom_88 (by omega) (by omega) ?_
            refine vc_iconst dX12_directionFrom_89 rfl ?_
            refine vc_iremE dX12_directionFrom_90 (by omega) (by omega) ?_
            refine vc_goto dX12_directionFrom_91 ?_
            refine vc_iret dX12_directionFrom_95 rfl (Nat.le_of_ble_eq_true rfl) (Nat.le_of_ble_eq_true rfl) ?_
            exact ⟨_, rfl, rfl, by omega, by omega, by rw [dr_n (fun z => by have z1 := hbt.mpr z.1; have z2 := z.2; rw [← hsc] at z2; omega)]; exact (on_2 (fun z => by rw [← ha10] at z; omega) (fun z => by rw [← ha16] at z; omega) (fun z => by rw [← ha22] at z; omega) (by rw [← ha28]; omega)).symm⟩
        · refine vc_iload_n dX12_directionFrom_67 rfl ?_
          refine vc_iconst dX12_directionFrom_68 rfl ?_
          refine vc_iaddE dX12_directionFrom_69 (by omega) (by omega) ?_
          refine vc_iconst dX12_directionFrom_70 rfl ?_
          refine vc_iremE dX12_directionFrom_71 (by omega) (by omega) ?_
          refine vc_iret dX12_directionFrom_72 rfl (Nat.le_of_ble_eq_true rfl) (Nat.le_of_ble_eq_true rfl) ?_
          exact ⟨_, rfl, rfl, by omega, by omega, by rw [dr_n (fun z => by have z1 := hbt.mpr z.1; have z2 := z.2; rw [← hsc] at z2; omega)]; exact (on_3 (fun z => by rw [← ha10] at z; omega) (fun z => by rw [← ha16] at z; omega) (by rw [← ha22]; omega)).symm⟩
      · refine vc_iload_n dX12_directionFrom_48 rfl ?_
        refine vc_iconst dX12_directionFrom_49 rfl ?_
        refine vc_iaddE dX12_directionFrom_50 (by omega) (by omega) ?_
        refine vc_iconst dX12_directionFrom_51 rfl ?_
        refine vc_iremE dX12_directionFrom_52 (by omega) (by omega) ?_
        refine vc_iret dX12_directionFrom_53 rfl (Nat.le_of_ble_eq_true rfl) (Nat.le_of_ble_eq_true rfl) ?_
        exact ⟨_, rfl, rfl, by omega, by omega, by rw [dr_n (fun z => by have z1 := hbt.mpr z.1; have z2 := z.2; rw [← hsc] at z2; omega)]; exact (on_1 (fun z => by rw [← ha10] at z; omega) (by rw [← ha16]; omega)).symm⟩
    · refine vc_iload_n dX12_directionFrom_33 rfl ?_
      refine vc_iret dX12_directionFrom_34 rfl (Nat.le_of_ble_eq_true rfl) (Nat.le_of_ble_eq_true rfl) ?_
      exact ⟨_, rfl, rfl, by omega, by omega, by rw [dr_n (fun z => by have z1 := hbt.mpr z.1; have z2 := z.2; rw [← hsc] at z2; omega)]; exact (on_0 (by rw [← ha10]; omega)).symm⟩
  · refine vc_aload_n dX12_directionFrom_8 rfl ?_
    refine vc_getR dX12_directionFrom_9 flX12_76 (s_54 hB0.1.1) rfl (r_54_46 hB0.1.1) ?_
    refine vc_iload_n dX12_directionFrom_12 rfl ?_
    refine vc_iaload dX12_directionFrom_13 (s_74 hB0.1.1) (by omega) (by omega) ?_
    have k30 : (-1) ≤ mI M 74 c.toNat ∧ mI M 74 c.toNat ≤ 3 := bA74 (M := M) hB0.1 _
    refine vc_if_lt dX12_directionFrom_14 (fun h31 => ?_) (fun h31 => ?_)
    · refine vc_aload_n dX12_directionFrom_24 rfl ?_
      refine vc_iload_n dX12_directionFrom_25 rfl ?_
      refine vc_iload_n dX12_directionFrom_26 rfl ?_
      refine vc_cVI dX12_directionFrom_27 (sfX12_streetOfF (M := M) hB0.1  c f (by omega) (by omega) (by omega) (by omega)) rfl okX12_streetOf viX12_streetOf lkX12_91 (s_54 hB0.1.1) cl_12 rfl (Nat.le_of_ble_eq_true rfl) ⟨rfl, rfl⟩ (Nat.le_of_ble_eq_true rfl) (Nat.le_of_ble_eq_true rfl) (Nat.le_of_ble_eq_true rfl) ?_
      rintro x32 _ ⟨rfl, h33, h34, h35⟩
      have ha36 : x32 = ahS S (c.toNat : Nat) f := by rw [hcn, h35]; exact p2.st (by omega) (by omega) (by omega) (by omega)
      have ha36r := p2.ahr (c.toNat : Nat) f
      rw [← ha36] at ha36r
      refine vc_if_lt dX12_directionFrom_30 (fun h37 => ?_) (fun h37 => ?_)
      · refine vc_aload_n dX12_directionFrom_35 rfl ?_
        refine vc_iload_n dX12_directionFrom_36 rfl ?_
        refine vc_iload_n dX12_directionFrom_37 rfl ?_
        refine vc_iconst dX12_directionFrom_38 rfl ?_
        refine vc_iaddE dX12_directionFrom_39 (by omega) (by omega) ?_
        refine vc_iconst dX12_directionFrom_40 rfl ?_
        refine vc_iremE dX12_directionFrom_41 (by omega) (by omega) ?_
        refine vc_cVI dX12_directionFrom_42 (sfX12_streetOfF (M := M) hB0.1  c ((f + 1) % 4) (by omega) (by omega) (by omega) (by omega)) rfl okX12_streetOf viX12_streetOf lkX12_91 (s_54 hB0.1.1) cl_12 rfl (Nat.le_of_ble_eq_true rfl) ⟨rfl, rfl⟩ (Nat.le_of_ble_eq_true rfl) (Nat.le_of_ble_eq_true rfl) (Nat.le_of_ble_eq_true rfl) ?_
        rintro x38 _ ⟨rfl, h39, h40, h41⟩
        have ha42 : x38 = ahS S (c.toNat : Nat) ((f + 1) % 4) := by rw [hcn, h41]; exact p2.st (by omega) (by omega) (by omega) (by omega)
        have ha42r := p2.ahr (c.toNat : Nat) ((f + 1) % 4)
        rw [← ha42] at ha42r
        refine vc_if_lt dX12_directionFrom_45 (fun h43 => ?_) (fun h43 => ?_)
        · refine vc_aload_n dX12_directionFrom_54 rfl ?_
          refine vc_iload_n dX12_directionFrom_55 rfl ?_
          refine vc_iload_n dX12_directionFrom_56 rfl ?_
          refine vc_iconst dX12_directionFrom_57 rfl ?_
          refine vc_iaddE dX12_directionFrom_58 (by omega) (by omega) ?_
          refine vc_iconst dX12_directionFrom_59 rfl ?_
          refine vc_iremE dX12_directionFrom_60 (by omega) (by omega) ?_
          refine vc_cVI dX12_directionFrom_61 (sfX12_streetOfF (M := M) hB0.1  c ((f + 3) % 4) (by omega) (by omega) (by omega) (by omega)) rfl okX12_streetOf viX12_streetOf lkX12_91 (s_54 hB0.1.1) cl_12 rfl (Nat.le_of_ble_eq_true rfl) ⟨rfl, rfl⟩ (Nat.le_of_ble_eq_true rfl) (Nat.le_of_ble_eq_true rfl) (Nat.le_of_ble_eq_true rfl) ?_
          rintro x44 _ ⟨rfl, h45, h46, h47⟩
          have ha48 : x44 = ahS S (c.toNat : Nat) ((f + 3) % 4) := by rw [hcn, h47]; exact p2.st (by omega) (by omega) (by omega) (by omega)
          have ha48r := p2.ahr (c.toNat : Nat) ((f + 3) % 4)
          rw [← ha48] at ha48r
          refine vc_if_lt dX12_directionFrom_64 (fun h49 => ?_) (fun h49 => ?_)
          · refine vc_aload_n dX12_directionFrom_73 rfl ?_
            refine vc_iload_n dX12_directionFrom_74 rfl ?_
            refine vc_iload_n dX12_directionFrom_75 rfl ?_
            refine vc_iconst dX12_directionFrom_76 rfl ?_
            refine vc_iaddE dX12_directionFrom_77 (by omega) (by omega) ?_
            refine vc_iconst dX12_directionFrom_78 rfl ?_
            refine vc_iremE dX12_directionFrom_79 (by omega) (by omega) ?_
            refine vc_cVI dX12_directionFrom_80 (sfX12_streetOfF (M := M) hB0.1  c ((f + 2) % 4) (by omega) (by omega) (by omega) (by omega)) rfl okX12_streetOf viX12_streetOf lkX12_91 (s_54 hB0.1.1) cl_12 rfl (Nat.le_of_ble_eq_true rfl) ⟨rfl, rfl⟩ (Nat.le_of_ble_eq_true rfl) (Nat.le_of_ble_eq_true rfl) (Nat.le_of_ble_eq_true rfl) ?_
            rintro x50 _ ⟨rfl, h51, h52, h53⟩
            have ha54 : x50 = ahS S (c.toNat : Nat) ((f + 2) % 4) := by rw [hcn, h53]; exact p2.st (by omega) (by omega) (by omega) (by omega)
            have ha54r := p2.ahr (c.toNat : Nat) ((f + 2) % 4)
            rw [← ha54] at ha54r
            refine vc_if_lt dX12_directionFrom_83 (fun h55 => ?_) (fun h55 => ?_)
            · refine vc_iconst dX12_directionFrom_94 rfl ?_
              refine vc_iret dX12_directionFrom_95 rfl (Nat.le_of_ble_eq_true rfl) (Nat.le_of_ble_eq_true rfl) ?_
              exact ⟨_, rfl, rfl, by omega, by omega, by rw [dr_n (fun z => by have z1 := hbt.mpr z.1; have z2 := z.2; rw [← hsc] at z2; omega)]; exact (on_n (fun z => by rw [← ha36] at z; omega) (fun z => by rw [← ha42] at z; omega) (fun z => by rw [← ha48] at z; omega) (fun z => by rw [← ha54] at z; omega)).symm⟩
            · refine vc_iload_n dX12_directionFrom_86 rfl ?_
              refine vc_iconst dX12_directionFrom_87 rfl ?_
              refine vc_iaddE dX12_directionFrom_88 (by omega) (by omega) ?_
              refine vc_iconst dX12_directionFrom_89 rfl ?_
              refine vc_iremE dX12_directionFrom_90 (by omega) (by omega) ?_
              refine vc_goto dX12_directionFrom_91 ?_
              refine vc_iret dX12_directionFrom_95 rfl (Nat.le_of_ble_eq_true rfl) (Nat.le_of_ble_eq_true rfl) ?_
              exact ⟨_, rfl, rfl, by omega, by omega, by rw [dr_n (fun z => by have z1 := hbt.mpr z.1; have z2 := z.2; rw [← hsc] at z2; omega)]; exact (on_2 (fun z => by rw [← ha36] at z; omega) (fun z => by rw [← ha42] at z; omega) (fun z => by rw [← ha48] at z; omega) (by rw [← ha54]; omega)).symm⟩
          · refine vc_iload_n dX12_directionFrom_67 rfl ?_
            refine vc_iconst dX12_directionFrom_68 rfl ?_
            refine vc_iaddE dX12_directionFrom_69 (by omega) (by omega) ?_
            refine vc_iconst dX12_directionFrom_70 rfl ?_
            refine vc_iremE dX12_directionFrom_71 (by omega) (by omega) ?_
            refine vc_iret dX12_directionFrom_72 rfl (Nat.le_of_ble_eq_true rfl) (Nat.le_of_ble_eq_true rfl) ?_
            exact ⟨_, rfl, rfl, by omega, by omega, by rw [dr_n (fun z => by have z1 := hbt.mpr z.1; have z2 := z.2; rw [← hsc] at z2; omega)]; exact (on_3 (fun z => by rw [← ha36] at z; omega) (fun z => by rw [← ha42] at z; omega) (by rw [← ha48]; omega)).symm⟩
        · refine vc_iload_n dX12_directionFrom_48 rfl ?_
          refine vc_iconst dX12_directionFrom_49 rfl ?_
          refine vc_iaddE dX12_directionFrom_50 (by omega) (by omega) ?_
          refine vc_iconst dX12_directionFrom_51 rfl ?_
          refine vc_iremE dX12_directionFrom_52 (by omega) (by omega) ?_
          refine vc_iret dX12_directionFrom_53 rfl (Nat.le_of_ble_eq_true rfl) (Nat.le_of_ble_eq_true rfl) ?_
          exact ⟨_, rfl, rfl, by omega, by omega, by rw [dr_n (fun z => by have z1 := hbt.mpr z.1; have z2 := z.2; rw [← hsc] at z2; omega)]; exact (on_1 (fun z => by rw [← ha36] at z; omega) (by rw [← ha42]; omega)).symm⟩
      · refine vc_iload_n dX12_directionFrom_33 rfl ?_
        refine vc_iret dX12_directionFrom_34 rfl (Nat.le_of_ble_eq_true rfl) (Nat.le_of_ble_eq_true rfl) ?_
        exact ⟨_, rfl, rfl, by omega, by omega, by rw [dr_n (fun z => by have z1 := hbt.mpr z.1; have z2 := z.2; rw [← hsc] at z2; omega)]; exact (on_0 (by rw [← ha36]; omega)).symm⟩
    · refine vc_aload_n dX12_directionFrom_17 rfl ?_
      refine vc_getR dX12_directionFrom_18 flX12_76 (s_54 hB0.1.1) rfl (r_54_46 hB0.1.1) ?_
      refine vc_iload_n dX12_directionFrom_21 rfl ?_
      refine vc_iaload dX12_directionFrom_22 (s_74 hB0.1.1) (by omega) (by omega) ?_
      refine vc_iret dX12_directionFrom_23 rfl (Nat.le_of_ble_eq_true rfl) (Nat.le_of_ble_eq_true rfl) ?_
      exact ⟨_, rfl, rfl, by omega, by omega, by rw [dr_y ⟨hbt.mp (by omega), by rw [← hsc]; omega⟩]; exact hsc⟩

set_option maxRecDepth 4000 in
theorem sfX12_comesToGoalF {l : Launch} {M : Mem} (hB : Box M) (S : Sw) (t : Nat) (c : Int) (f : Int) (s : Int) (p0 : 0 ≤ c) (p1 : c ≤ 15) (p2 : 0 ≤ f) (p3 : f ≤ 3) (p4 : TA (mI M 55) S) (p5 : S 1 7 ≠ -1) (p6 : c < S 1 6) (p7 : s = (t : Int) ∧ t < 65536) (p8 : ∀ u : Nat, (u : Int) < S 1 6 → mI M 74 u = shF S u) : Call l mdX12_comesToGoal [aR 54, aI c, aI f, aI s] M (fun q N => ∃ r : Int, q = some (aI r) ∧ M = N ∧ 0 ≤ r ∧ r ≤ 1 ∧ ((r = 1 ∧ cmS S t (4 * c + f).toNat) ∨ (r = 0 ∧ ¬ cmS S t (4 * c + f).toNat))) := by
  have hB0 : BF fQ M M := BF.start hB
  refine Call.of [some (aR 54), some (aI c), some (aI f), some (aI s), none, none, none, none] rfl (Nat.le_of_ble_eq_true rfl) rfl ?_
  refine vc_ok (fun hoM hoS hoL => ?_)
  have hr3 : -2147483648 ≤ s ∧ s < 2147483648 := hoL 3 _ rfl
  have c0 := p4.1.1
  have c1 := p4.1.2.1
  have hn16 := (p4.sg p5).2.2.1
  refine vc_iload_n dX12_comesToGoal_0 rfl ?_
  refine vc_istore dX12_comesToGoal_1 (by decide) rfl (show _ = [some (aR 54), some (aI c), some (aI f), some (aI s), some (aI c), none, none, none] from rfl) ?_
  refine vc_iload_n dX12_comesToGoal_3 rfl ?_
  refine vc_istore dX12_comesToGoal_4 (by decide) rfl (show _ = [some (aR 54), some (aI c), some (aI f), some (aI s), some (aI c), some (aI f), none, none] from rfl) ?_
  refine vc_iconst dX12_comesToGoal_6 rfl ?_
  refine vc_istore dX12_comesToGoal_7 (by decide) rfl (show _ = [some (aR 54), some (aI c), some (aI f), some (aI s), some (aI c), some (aI f), some (aI 0), none] from rfl) ?_
  have lp9 : ∀ (n9 : Nat) (v4 : Int) (v5 : Int) (v6 : Int), (0 ≤ v4) → (v4 ≤ 15) → (0 ≤ v5) → (v5 ≤ 3) → (0 ≤ v6) → (v6 ≤ 65) → (v4 < S 1 6) → ((4 * v4 + v5).toNat = itG S t v6.toNat (4 * c + f).toNat) → (∀ m : Nat, m < v6.toNat → ¬ atG S t m (4 * c + f).toNat) → (65 - v6).toNat < n9 → VC l mdX12_comesToGoal 9 [some (aR 54), none, none, some (aI s), some (aI v4), some (aI v5), some (aI v6), none] [] M 0 0 (fun q N => ∃ r : Int, q = some (aI r) ∧ M = N ∧ 0 ≤ r ∧ r ≤ 1 ∧ ((r = 1 ∧ cmS S t (4 * c + f).toNat) ∨ (r = 0 ∧ ¬ cmS S t (4 * c + f).toNat))) := by
    intro n9
    induction n9 with
    | zero => intro v4 v5 v6 g9_4a g9_4b g9_5a g9_5b g9_6a g9_6b g9i0 g9i1 g9i2 hm9; exact absurd hm9 (Nat.not_lt_zero _)
    | succ n9 ih9 =>
      intro v4 v5 v6 g9_4a g9_4b g9_5a g9_5b g9_6a g9_6b g9i0 g9i1 g9i2 hm9
      have hat : atG S t v6.toNat (4 * c + f).toNat ↔ v4 = S 1 7 := by unfold atG; rw [← g9i1, show (((4 * v4 + v5).toNat / 4 : Nat) : Int) = v4 by omega]
      refine vc_iload dX12_comesToGoal_9 rfl ?_
      refine vc_bipush dX12_comesToGoal_11 rfl ?_
      refine vc_icmp_ge dX12_comesToGoal_13 (fun h1 => ?_) (fun h1 => ?_)
      · refine vc_iload dX12_comesToGoal_65 rfl ?_
        refine vc_aload_n dX12_comesToGoal_67 rfl ?_
        refine vc_getR dX12_comesToGoal_68 flX12_7 (s_54 hB0.1.1) rfl (r_54_0 hB0.1.1) ?_
        refine vc_iconst dX12_comesToGoal_71 rfl ?_
        refine vc_iaload dX12_comesToGoal_72 (s_55 hB0.1.1) (by omega) (by omega) ?_
        refine vc_topI (mI M 55 1) rfl ?_
        have k2 : (-1) ≤ mI M 55 1 ∧ mI M 55 1 ≤ 15 := b55_1 (M := M) hB0.1
        refine vc_icmp_ne dX12_comesToGoal_73 (fun h3 => ?_) (fun h3 => ?_)
        · refine vc_iconst dX12_comesToGoal_80 rfl ?_
          refine vc_zret dX12_comesToGoal_81 rfl (by first | decide | omega) (Nat.le_of_ble_eq_true rfl) (Nat.le_of_ble_eq_true rfl) ?_
          first | (exfalso; omega) | exact ⟨_, rfl, rfl, by omega, by omega, Or.inr ⟨rfl, cm_no (i := v6.toNat) (j := v6.toNat + 1) (Nat.lt_succ_self _) (by rw [it_s, ← g9i1]; exact (hnv.1 (by omega)).symm) (fun m hm => by by_cases q : m = v6.toNat; (rw [q]; exact hna); (exact g9i2 m (by omega)))⟩⟩ | exact ⟨_, rfl, rfl, by omega, by omega, Or.inr ⟨rfl, cm_65 (p4.sg p5) (n := v6.toNat) (by omega) (by omega) g9i2⟩⟩
        · refine vc_iconst dX12_comesToGoal_76 rfl ?_
          refine vc_goto dX12_comesToGoal_77 ?_
          refine vc_zret dX12_comesToGoal_81 rfl (by first | decide | omega) (Nat.le_of_ble_eq_true rfl) (Nat.le_of_ble_eq_true rfl) ?_
          exact ⟨_, rfl, rfl, by omega, by omega, Or.inl ⟨rfl, _, hat.mpr (by omega)⟩⟩
      · refine vc_iload dX12_comesToGoal_16 rfl ?_
        refine vc_aload_n dX12_comesToGoal_18 rfl ?_
        refine vc_getR dX12_comesToGoal_19 flX12_7 (s_54 hB0.1.1) rfl (r_54_0 hB0.1.1) ?_
        refine vc_iconst dX12_comesToGoal_22 rfl ?_
        refine vc_iaload dX12_comesToGoal_23 (s_55 hB0.1.1) (by omega) (by omega) ?_
        refine vc_topI (mI M 55 1) rfl ?_
        have k4 : (-1) ≤ mI M 55 1 ∧ mI M 55 1 ≤ 15 := b55_1 (M := M) hB0.1
        refine vc_icmp_eq dX12_comesToGoal_24 (fun h5 => ?_) (fun h5 => ?_)
        · refine vc_iload dX12_comesToGoal_65 rfl ?_
          refine vc_aload_n dX12_comesToGoal_67 rfl ?_
          refine vc_getR dX12_comesToGoal_68 flX12_7 (s_54 hB0.1.1) rfl (r_54_0 hB0.1.1) ?_
          refine vc_iconst dX12_comesToGoal_71 rfl ?_
          refine vc_iaload dX12_comesToGoal_72 (s_55 hB0.1.1) (by omega) (by omega) ?_
          refine vc_topI (mI M 55 1) rfl ?_
          refine vc_icmp_ne dX12_comesToGoal_73 (fun h6 => ?_) (fun h6 => ?_)
          · refine vc_iconst dX12_comesToGoal_80 rfl ?_
            refine vc_zret dX12_comesToGoal_81 rfl (by first | decide | omega) (Nat.le_of_ble_eq_true rfl) (Nat.le_of_ble_eq_true rfl) ?_
            first | (exfalso; omega) | exact ⟨_, rfl, rfl, by omega, by omega, Or.inr ⟨rfl, cm_no (i := v6.toNat) (j := v6.toNat + 1) (Nat.lt_succ_self _) (by rw [it_s, ← g9i1]; exact (hnv.1 (by omega)).symm) (fun m hm => by by_cases q : m = v6.toNat; (rw [q]; exact hna); (exact g9i2 m (by omega)))⟩⟩ | exact ⟨_, rfl, rfl, by omega, by omega, Or.inr ⟨rfl, cm_65 (p4.sg p5) (n := v6.toNat) (by omega) (by omega) g9i2⟩⟩
          · refine vc_iconst dX12_comesToGoal_76 rfl ?_
            refine vc_goto dX12_comesToGoal_77 ?_
            refine vc_zret dX12_comesToGoal_81 rfl (by first | decide | omega) (Nat.le_of_ble_eq_true rfl) (Nat.le_of_ble_eq_true rfl) ?_
            exact ⟨_, rfl, rfl, by omega, by omega, Or.inl ⟨rfl, _, hat.mpr (by omega)⟩⟩
        · refine vc_aload_n dX12_comesToGoal_27 rfl ?_
          refine vc_iload dX12_comesToGoal_28 rfl ?_
          refine vc_iload dX12_comesToGoal_30 rfl ?_
          refine vc_iload_n dX12_comesToGoal_32 rfl ?_
          refine vc_cVI dX12_comesToGoal_33 (sfX12_directionFromF (M := M) hB0.1 S t v4 v5 s (by omega) (by omega) (by omega) (by omega) (by exact p4) (by omega) (by exact p7) (by exact p8)) rfl okX12_directionFrom viX12_directionFrom lkX12_533 (s_54 hB0.1.1) cl_12 rfl (Nat.le_of_ble_eq_true rfl) ⟨rfl, rfl⟩ (Nat.le_of_ble_eq_true rfl) (Nat.le_of_ble_eq_true rfl) (Nat.le_of_ble_eq_true rfl) ?_
          rintro x7 _ ⟨rfl, h8, h9, h10⟩
          have hnv := nx_v (S := S) (t := t) (c := v4) (f := v5) (d := x7) (by omega) (by omega) (by omega) h10
          have hna : ¬ atG S t v6.toNat (4 * c + f).toNat := fun z => by have y := hat.mp z; omega
          have hdb := dr_b (S := S) (t := t) (c := v4.toNat) (f := v5) (by omega) (by omega)
          rw [← h10] at hdb
          refine vc_istore dX12_comesToGoal_36 (by decide) rfl (show _ = [some (aR 54), none, none, some (aI s), some (aI v4), some (aI v5), some (aI v6), some (aI x7)] from rfl) ?_
          refine vc_iload dX12_comesToGoal_38 rfl ?_
          refine vc_if_ge dX12_comesToGoal_40 (fun h11 => ?_) (fun h11 => ?_)
          · refine vc_aload_n dX12_comesToGoal_45 rfl ?_
            refine vc_iload dX12_comesToGoal_46 rfl ?_
            refine vc_iload dX12_comesToGoal_48 rfl ?_
            refine vc_cVI dX12_comesToGoal_50 (sfX12_streetOfF (M := M) hB0.1  v4 x7 (by omega) (by omega) (by omega) (by omega)) rfl okX12_streetOf viX12_streetOf lkX12_91 (s_54 hB0.1.1) cl_12 rfl (Nat.le_of_ble_eq_true rfl) ⟨rfl, rfl⟩ (Nat.le_of_ble_eq_true rfl) (Nat.le_of_ble_eq_true rfl) (Nat.le_of_ble_eq_true rfl) ?_
            rintro x12 _ ⟨rfl, h13, h14, h15⟩
            have hah : x12 = ahS S v4 x7 := by rw [h15]; exact p4.st (by omega) (by omega) (by omega) (by omega)
            have hsg := sg_ah (p4.sg p5) (hdb.resolve_left (by omega)).2.2
            rw [show ((v4.toNat : Nat) : Int) = v4 by omega, ← hah] at hsg
            have hn2 : (4 * x12 + x7).toNat = itG S t (v6.toNat + 1) (4 * c + f).toNat := by rw [it_s, ← g9i1, hnv.2 (by omega), hah]
            refine vc_istore dX12_comesToGoal_53 (by decide) rfl (show _ = [some (aR 54), none, none, some (aI s), some (aI x12), some (aI v5), some (aI v6), some (aI x7)] from rfl) ?_
            refine vc_iload dX12_comesToGoal_55 rfl ?_
            refine vc_istore dX12_comesToGoal_57 (by decide) rfl (show _ = [some (aR 54), none, none, some (aI s), some (aI x12), some (aI x7), some (aI v6), some (aI x7)] from rfl) ?_
            refine vc_iincE dX12_comesToGoal_59 rfl (by omega) (by omega) (by decide) rfl (show _ = [some (aR 54), none, none, some (aI s), some (aI x12), some (aI x7), some (aI (v6 + 1)), some (aI x7)] from rfl) ?_
            refine vc_goto dX12_comesToGoal_62 ?_
            refine vc_less [some (aR 54), none, none, some (aI s), some (aI x12), some (aI x7), some (aI (v6 + 1)), none] (lessL_keep (lessL_keep (lessL_keep (lessL_keep (lessL_keep (lessL_keep (lessL_keep (lessL_drop (lessL_nil))))))))) ?_
            exact ih9 x12 x7 (v6 + 1) (by omega) (by omega) (by omega) (by omega) (by omega) (by omega) (by omega) (by first | rfl | (rw [show (v6 + 1).toNat = v6.toNat + 1 by omega]; exact hn2)) (by first | (intro m hm; exfalso; omega) | (intro m hm; by_cases q : m = v6.toNat; (rw [q]; exact hna); (exact g9i2 m (by omega)))) (by omega)
          · refine vc_iconst dX12_comesToGoal_43 rfl ?_
            refine vc_zret dX12_comesToGoal_44 rfl (by first | decide | omega) (Nat.le_of_ble_eq_true rfl) (Nat.le_of_ble_eq_true rfl) ?_
            first | (exfalso; omega) | exact ⟨_, rfl, rfl, by omega, by omega, Or.inr ⟨rfl, cm_no (i := v6.toNat) (j := v6.toNat + 1) (Nat.lt_succ_self _) (by rw [it_s, ← g9i1]; exact (hnv.1 (by omega)).symm) (fun m hm => by by_cases q : m = v6.toNat; (rw [q]; exact hna); (exact g9i2 m (by omega)))⟩⟩ | exact ⟨_, rfl, rfl, by omega, by omega, Or.inr ⟨rfl, cm_65 (p4.sg p5) (n := v6.toNat) (by omega) (by omega) g9i2⟩⟩
  refine vc_less [some (aR 54), none, none, some (aI s), some (aI c), some (aI f), some (aI 0), none] (lessL_keep (lessL_drop (lessL_drop (lessL_keep (lessL_keep (lessL_keep (lessL_keep (lessL_keep (lessL_nil))))))))) ?_
  exact lp9 _ c f 0 (by omega) (by omega) (by omega) (by omega) (by omega) (by omega) (by omega) (by first | rfl | (rw [show (v6 + 1).toNat = v6.toNat + 1 by omega]; exact hn2)) (by first | (intro m hm; exfalso; omega) | (intro m hm; by_cases q : m = v6.toNat; (rw [q]; exact hna); (exact g9i2 m (by omega)))) (Nat.lt_succ_self _)

set_option maxRecDepth 4000 in
theorem sfX12_areEnoughF {l : Launch} {M : Mem} (hB : Box M) (S : Sw) (t : Nat) (s : Int) (p0 : TA (mI M 55) S) (p1 : S 1 7 ≠ -1) (p2 : s = (t : Int) ∧ t < 65536) (p3 : ∀ u : Nat, (u : Int) < S 1 6 → mI M 74 u = shF S u) (p4 : ∀ u : Nat, (u : Int) < S 1 6 → mI M 73 u = frF (dG S u)) : Call l mdX12_areEnough [aR 54, aI s] M (fun q N => ∃ r : Int, q = some (aI r) ∧ M = N ∧ 0 ≤ r ∧ r ≤ 1 ∧ ((r = 1 ∧ svS S t) ∨ (r = 0 ∧ ¬ svS S t))) := by
  have hB0 : BF fQ M M := BF.start hB
  refine Call.of [some (aR 54), some (aI s), none, none] rfl (Nat.le_of_ble_eq_true rfl) rfl ?_
  refine vc_ok (fun hoM hoS hoL => ?_)
  have hr1 : -2147483648 ≤ s ∧ s < 2147483648 := hoL 1 _ rfl
  have c0 := p0.1.1
  have hn16 := (p0.sg p1).2.2.1
  refine vc_iconst dX12_areEnough_0 rfl ?_
  refine vc_istore_n dX12_areEnough_1 (by decide) rfl (show _ = [some (aR 54), some (aI s), some (aI 0), none] from rfl) ?_
  have lp2 : ∀ (n2 : Nat) (v2 : Int), (0 ≤ v2) → (v2 ≤ 16) → (∀ x : Nat, (x : Int) < 4 * v2 → dG S (x / 4) ≠ -1 → cmS S t x) → (16 - v2).toNat < n2 → VC l mdX12_areEnough 2 [some (aR 54), some (aI s), some (aI v2), none] [] M 0 0 (fun q N => ∃ r : Int, q = some (aI r) ∧ M = N ∧ 0 ≤ r ∧ r ≤ 1 ∧ ((r = 1 ∧ svS S t) ∨ (r = 0 ∧ ¬ svS S t))) := by
    intro n2
    induction n2 with
    | zero => intro v2 g2_2a g2_2b g2i0 hm2; exact absurd hm2 (Nat.not_lt_zero _)
    | succ n2 ih2 =>
      intro v2 g2_2a g2_2b g2i0 hm2
      refine vc_iload_n dX12_areEnough_2 rfl ?_
      refine vc_aload_n dX12_areEnough_3 rfl ?_
      refine vc_getR dX12_areEnough_4 flX12_7 (s_54 hB0.1.1) rfl (r_54_0 hB0.1.1) ?_
      refine vc_iconst dX12_areEnough_7 rfl ?_
      refine vc_iaload dX12_areEnough_8 (s_55 hB0.1.1) (by omega) (by omega) ?_
      refine vc_topI (mI M 55 0) rfl ?_
      have k1 : 0 ≤ mI M 55 0 ∧ mI M 55 0 ≤ 16 := b55_0 (M := M) hB0.1
      refine vc_icmp_ge dX12_areEnough_9 (fun h2 => ?_) (fun h2 => ?_)
      · refine vc_iconst dX12_areEnough_55 rfl ?_
        refine vc_zret dX12_areEnough_56 rfl (by first | decide | omega) (Nat.le_of_ble_eq_true rfl) (Nat.le_of_ble_eq_true rfl) ?_
        exact ⟨_, rfl, rfl, by omega, by omega, Or.inl ⟨rfl, fun x hx hd => g2i0 x (by omega) hd⟩⟩
      · refine vc_iconst dX12_areEnough_12 rfl ?_
        refine vc_istore_n dX12_areEnough_13 (by decide) rfl (show _ = [some (aR 54), some (aI s), some (aI v2), some (aI 0)] from rfl) ?_
        have lp14 : ∀ (n14 : Nat) (v3 : Int), (0 ≤ v3) → (v3 ≤ 4) → (∀ x : Nat, (x : Int) < 4 * v2 + v3 → dG S (x / 4) ≠ -1 → cmS S t x) → (4 - v3).toNat < n14 → VC l mdX12_areEnough 14 [some (aR 54), some (aI s), some (aI v2), some (aI v3)] [] M 0 0 (fun q N => ∃ r : Int, q = some (aI r) ∧ M = N ∧ 0 ≤ r ∧ r ≤ 1 ∧ ((r = 1 ∧ svS S t) ∨ (r = 0 ∧ ¬ svS S t))) := by
          intro n14
          induction n14 with
          | zero => intro v3 g14_3a g14_3b g14i0 hm14; exact absurd hm14 (Nat.not_lt_zero _)
          | succ n14 ih14 =>
            intro v3 g14_3a g14_3b g14i0 hm14
            refine vc_iload_n dX12_areEnough_14 rfl ?_
            refine vc_iconst dX12_areEnough_15 rfl ?_
            refine vc_icmp_ge dX12_areEnough_16 (fun h3 => ?_) (fun h3 => ?_)
            · refine vc_iincE dX12_areEnough_49 rfl (by omega) (by omega) (by decide) rfl (show _ = [some (aR 54), some (aI s), some (aI (v2 + 1)), some (aI v3)] from rfl) ?_
              refine vc_goto dX12_areEnough_52 ?_
              refine vc_less [some (aR 54), some (aI s), some (aI (v2 + 1)), none] (lessL_keep (lessL_keep (lessL_keep (lessL_drop (lessL_nil))))) ?_
              exact ih2 (v2 + 1) (by omega) (by omega) (by first | (intro x hx; exfalso; omega) | (intro x hx hd; by_cases q : (x : Int) < 4 * v2 + v3; (exact g14i0 x q hd); (rw [show x / 4 = v2.toNat by omega] at hd; exfalso; omega))) (by omega)
            · have hfc := p4 v2.toNat (by omega)
              have hdb := d_b S v2.toNat
              have hfb := fr_c (x := dG S v2.toNat) hdb.1 (by omega)
              refine vc_aload_n dX12_areEnough_19 rfl ?_
              refine vc_getR dX12_areEnough_20 flX12_73 (s_54 hB0.1.1) rfl (r_54_45 hB0.1.1) ?_
              refine vc_iload_n dX12_areEnough_23 rfl ?_
              refine vc_iaload dX12_areEnough_24 (s_73 hB0.1.1) (by omega) (by omega) ?_
              refine vc_ldcw dX12_areEnough_25 rfl kcX12_483 ?_
              refine vc_icmp_ge dX12_areEnough_28 (fun h4 => ?_) (fun h4 => ?_)
              · refine vc_iincE dX12_areEnough_49 rfl (by omega) (by omega) (by decide) rfl (show _ = [some (aR 54), some (aI s), some (aI (v2 + 1)), some (aI v3)] from rfl) ?_
                refine vc_goto dX12_areEnough_52 ?_
                refine vc_less [some (aR 54), some (aI s), some (aI (v2 + 1)), none] (lessL_keep (lessL_keep (lessL_keep (lessL_drop (lessL_nil))))) ?_
                exact ih2 (v2 + 1) (by omega) (by omega) (by first | (intro x hx; exfalso; omega) | (intro x hx hd; by_cases q : (x : Int) < 4 * v2 + v3; (exact g14i0 x q hd); (rw [show x / 4 = v2.toNat by omega] at hd; exfalso; omega))) (by omega)
              · refine vc_aload_n dX12_areEnough_31 rfl ?_
                refine vc_iload_n dX12_areEnough_32 rfl ?_
                refine vc_iload_n dX12_areEnough_33 rfl ?_
                refine vc_iload_n dX12_areEnough_34 rfl ?_
                refine vc_cVI dX12_areEnough_35 (sfX12_comesToGoalF (M := M) hB0.1 S t v2 v3 s (by omega) (by omega) (by omega) (by omega) (by exact p0) (by exact p1) (by omega) (by exact p2) (by exact p3)) rfl okX12_comesToGoal viX12_comesToGoal lkX12_536 (s_54 hB0.1.1) cl_12 rfl (Nat.le_of_ble_eq_true rfl) ⟨rfl, rfl⟩ (Nat.le_of_ble_eq_true rfl) (Nat.le_of_ble_eq_true rfl) (Nat.le_of_ble_eq_true rfl) ?_
                rintro x5 _ ⟨rfl, h6, h7, h8⟩
                have hcg := h8
                refine vc_if_ne dX12_areEnough_38 (fun h9 => ?_) (fun h9 => ?_)
                · refine vc_iincE dX12_areEnough_43 rfl (by omega) (by omega) (by decide) rfl (show _ = [some (aR 54), some (aI s), some (aI v2), some (aI (v3 + 1))] from rfl) ?_
                  refine vc_goto dX12_areEnough_46 ?_
                  exact ih14 (v3 + 1) (by omega) (by omega) (by first | (intro x hx hd; exact g2i0 x (by omega) hd) | (intro x hx hd; by_cases q : (x : Int) = 4 * v2 + v3; (rw [show x = (4 * v2 + v3).toNat by omega]; rcases hcg with h | h; (exact h.2); (exfalso; omega)); (exact g14i0 x (by omega) hd))) (by omega)
                · refine vc_iconst dX12_areEnough_41 rfl ?_
                  refine vc_zret dX12_areEnough_42 rfl (by first | decide | omega) (Nat.le_of_ble_eq_true rfl) (Nat.le_of_ble_eq_true rfl) ?_
                  exact ⟨_, rfl, rfl, by omega, by omega, Or.inr ⟨rfl, fun q => by have z := q (4 * v2 + v3).toNat (by omega) (by rw [show (4 * v2 + v3).toNat / 4 = v2.toNat by omega]; omega); rcases hcg with h | h; (exfalso; omega); (exact h.2 z)⟩⟩
        exact lp14 _ 0 (by omega) (by omega) (by first | (intro x hx hd; exact g2i0 x (by omega) hd) | (intro x hx hd; by_cases q : (x : Int) = 4 * v2 + v3; (rw [show x = (4 * v2 + v3).toNat by omega]; rcases hcg with h | h; (exact h.2); (exfalso; omega)); (exact g14i0 x (by omega) hd))) (Nat.lt_succ_self _)
  exact lp2 _ 0 (by omega) (by omega) (by first | (intro x hx; exfalso; omega) | (intro x hx hd; by_cases q : (x : Int) < 4 * v2 + v3; (exact g14i0 x q hd); (rw [show x / 4 = v2.toNat by omega] at hd; exfalso; omega))) (Nat.lt_succ_self _)

set_option maxRecDepth 4000 in
theorem sfX12_signsF {l : Launch} {M : Mem} (hB : Box M) (S : Sw)  (p0 : TA (mI M 55) S) : Call l mdX12_signs [aR 54] M (fun q N => ∃ r : Int, q = some (aI r) ∧ BF fQ M N ∧ SigS S r) := by
  have hB0 : BF fQ M M := BF.start hB
  refine Call.of [some (aR 54), none, none] rfl (Nat.le_of_ble_eq_true rfl) rfl ?_
  have c0 := p0.1.1
  have c1 := p0.1.2.1
  refine vc_aload_n dX12_signs_0 rfl ?_
  refine vc_getR dX12_signs_1 flX12_7 (s_54 hB0.1.1) rfl (r_54_0 hB0.1.1) ?_
  refine vc_iconst dX12_signs_4 rfl ?_
  refine vc_iaload dX12_signs_5 (s_55 hB0.1.1) (by omega) (by omega) ?_
  refine vc_topI (mI M 55 1) rfl ?_
  have k1 : (-1) ≤ mI M 55 1 ∧ mI M 55 1 ≤ 15 := b55_1 (M := M) hB0.1
  refine vc_iconst dX12_signs_6 rfl ?_
  refine vc_icmp_ne dX12_signs_7 (fun h2 => ?_) (fun h2 => ?_)
  · refine vc_aload_n dX12_signs_12 rfl ?_
    have hg := (by omega : S 1 7 ≠ -1)
    have hs := p0.sg hg
    have hn0 := hs.2.1
    have hn16 := hs.2.2.1
    have hg0 := hs.2.2.2.1
    have hg1 := hs.2.2.2.2
    refine vc_cVU dX12_signs_13 (sfX12_findShownF (M := M) hB0.1 S  (by exact p0) (by exact hg)) rfl okX12_findShown viX12_findShown lkX12_539 (s_54 hB0.1.1) cl_12 rfl (Nat.le_of_ble_eq_true rfl) ⟨rfl, rfl⟩ (Nat.le_of_ble_eq_true rfl) (Nat.le_of_ble_eq_true rfl) (Nat.le_of_ble_eq_true rfl) ?_
    rintro M3 ⟨hB4, kp5, h6, h7⟩
    have hB8 : BF fQ M M3 := BF.go hB0 hB4
    have hst := h6
    have hsh := h7
    have hta : TA (mI M3 55) S := by rw [kp5]; exact p0
    have e0 : mI M3 55 0 = S 1 6 := (congrFun kp5 0).trans c0
    have e1 : mI M3 55 1 = S 1 7 := (congrFun kp5 1).trans c1
    have hsl := shl_S hs
    have hsl2 : shlI 1 (mI M3 55 0) = shlI 1 (S 1 6) := by rw [e0]
    refine vc_iconst dX12_signs_16 rfl ?_
    refine vc_istore_n dX12_signs_17 (by decide) rfl (show _ = [some (aR 54), some (aI 0), none] from rfl) ?_
    have lp18 : ∀ (n18 : Nat) (v1 : Int), (0 ≤ v1) → (v1 ≤ 5) → (∀ u : Nat, enT S u → v1 ≤ (pcN u 16 : Int)) → (5 - v1).toNat < n18 → VC l mdX12_signs 18 [some (aR 54), some (aI v1), none] [] M3 0 0 (fun q N => ∃ r : Int, q = some (aI r) ∧ BF fQ M N ∧ SigS S r) := by
      intro n18
      induction n18 with
      | zero => intro v1 g18_1a g18_1b g18i0 hm18; exact absurd hm18 (Nat.not_lt_zero _)
      | succ n18 ih18 =>
        intro v1 g18_1a g18_1b g18i0 hm18
        refine vc_iload_n dX12_signs_18 rfl ?_
        refine vc_iconst dX12_signs_19 rfl ?_
        refine vc_icmp_gt dX12_signs_20 (fun h9 => ?_) (fun h9 => ?_)
        · refine vc_iconst dX12_signs_80 rfl ?_
          refine vc_iret dX12_signs_81 rfl (Nat.le_of_ble_eq_true rfl) (Nat.le_of_ble_eq_true rfl) ?_
          exact ⟨_, rfl, hB8, FewS.si hg (Or.inr ⟨rfl, fun u eu => by have z := g18i0 u eu; omega⟩)⟩
        · refine vc_iconst dX12_signs_23 rfl ?_
          refine vc_istore_n dX12_signs_24 (by decide) rfl (show _ = [some (aR 54), some (aI v1), some (aI 0)] from rfl) ?_
          have lp25 : ∀ (n25 : Nat) (v2 : Int), (0 ≤ v2) → (∀ u : Nat, enT S u → (pcN u 16 : Int) = v1 → v2 ≤ (u : Int)) → (shlI 1 (S 1 6) - v2).toNat < n25 → VC l mdX12_signs 25 [some (aR 54), some (aI v1), some (aI v2)] [] M3 0 0 (fun q N => ∃ r : Int, q = some (aI r) ∧ BF fQ M N ∧ SigS S r) := by
            intro n25
            induction n25 with
            | zero => intro v2 g25_2a g25i0 hm25; exact absurd hm25 (Nat.not_lt_zero _)
            | succ n25 ih25 =>
              intro v2 g25_2a g25i0 hm25
              refine vc_iload_n dX12_signs_25 rfl ?_
              refine vc_iconst dX12_signs_26 rfl ?_
              refine vc_aload_n dX12_signs_27 rfl ?_
              refine vc_getR dX12_signs_28 flX12_7 (s_54 hB8.1.1) rfl (r_54_0 hB8.1.1) ?_
              refine vc_iconst dX12_signs_31 rfl ?_
              refine vc_iaload dX12_signs_32 (s_55 hB8.1.1) (by omega) (by omega) ?_
              refine vc_topI (mI M3 55 0) rfl ?_
              have k10 : 0 ≤ mI M3 55 0 ∧ mI M3 55 0 ≤ 16 := b55_0 (M := M3) hB8.1
              refine vc_ishl dX12_signs_33 ?_
              refine vc_icmp_ge dX12_signs_34 (fun h11 => ?_) (fun h11 => ?_)
              · refine vc_iincE dX12_signs_74 rfl (by omega) (by omega) (by decide) rfl (show _ = [some (aR 54), some (aI (v1 + 1)), some (aI v2)] from rfl) ?_
                refine vc_goto dX12_signs_77 ?_
                refine vc_less [some (aR 54), some (aI (v1 + 1)), none] (lessL_keep (lessL_keep (lessL_drop (lessL_nil)))) ?_
                exact ih18 (v1 + 1) (by omega) (by omega) (by first | (intro u eu; exact Int.natCast_nonneg _) | (intro u eu; have z := g18i0 u eu; by_cases w : (pcN u 16 : Int) = v1; (exfalso; have y := g25i0 u eu w; have y2 := eu.1; omega); (omega))) (by omega)
              · have ht6 : v2.toNat < 65536 := by omega
                have htc : ((v2.toNat : Nat) : Int) = v2 := by omega
                refine vc_iload_n dX12_signs_37 rfl ?_
                refine vc_cSI dX12_signs_38 (sfX12_bitsF (M := M3) hB8.1  v2 ) rfl okX12_bits stX12_bits lkX12_465 rfl (Nat.le_of_ble_eq_true rfl) ⟨rfl, rfl⟩ (Nat.le_of_ble_eq_true rfl) (Nat.le_of_ble_eq_true rfl) (Nat.le_of_ble_eq_true rfl) ?_
                rintro x12 _ ⟨rfl, h13, h14, h15⟩
                have hbs : x12 = (pcN v2.toNat 16 : Int) := by rw [h15, ← htc]; exact bs_pc ht6 16 (Nat.le_refl _)
                refine vc_iload_n dX12_signs_41 rfl ?_
                refine vc_icmp_ne dX12_signs_42 (fun h16 => ?_) (fun h16 => ?_)
                · refine vc_iincE dX12_signs_68 rfl (by omega) (by omega) (by decide) rfl (show _ = [some (aR 54), some (aI v1), some (aI (v2 + 1))] from rfl) ?_
                  refine vc_goto dX12_signs_71 ?_
                  exact ih25 (v2 + 1) (by omega) (by first | (intro u eu _; exact Int.natCast_nonneg u) | (intro u eu q; have z := g25i0 u eu q; by_cases w : (u : Int) = v2; (exfalso; have e : u = v2.toNat := (by omega); rw [e] at q eu; first | omega | (have y1 := eu.2.1; have y2 := eu.2.2; first | (exact absurd (hbt.mp (by omega)) (by rw [y1]; decide)) | (rcases hae with h | h; (omega); (exact h.2 y2)))); (omega))) (by omega)
                · refine vc_iload_n dX12_signs_45 rfl ?_
                  refine vc_aload_n dX12_signs_46 rfl ?_
                  refine vc_getR dX12_signs_47 flX12_7 (s_54 hB8.1.1) rfl (r_54_0 hB8.1.1) ?_
                  refine vc_iconst dX12_signs_50 rfl ?_
                  refine vc_iaload dX12_signs_51 (s_55 hB8.1.1) (by omega) (by omega) ?_
                  refine vc_topI (mI M3 55 1) rfl ?_
                  have k17 : (-1) ≤ mI M3 55 1 ∧ mI M3 55 1 ≤ 15 := b55_1 (M := M3) hB8.1
                  refine vc_cSI dX12_signs_52 (sfX12_hasW (M := M3) hB8.1  v2 (mI M3 55 1) ) rfl okX12_has stX12_has lkX12_268 rfl (Nat.le_of_ble_eq_true rfl) ⟨rfl, rfl⟩ (Nat.le_of_ble_eq_true rfl) (Nat.le_of_ble_eq_true rfl) (Nat.le_of_ble_eq_true rfl) ?_
                  rintro x18 _ ⟨rfl, h19, h20, h21⟩
                  have hbt : shrI v2 (S 1 7) % 2 = 1 ↔ v2.toNat.testBit (S 1 7).toNat = true := by have z := shr_tb ht6 (show (S 1 7).toNat < 16 by omega); rw [htc, show (((S 1 7).toNat : Nat) : Int) = S 1 7 by omega] at z; exact z
                  have hha := h21
                  rw [e1] at hha
                  refine vc_if_ne dX12_signs_55 (fun h22 => ?_) (fun h22 => ?_)
                  · refine vc_iincE dX12_signs_68 rfl (by omega) (by omega) (by decide) rfl (show _ = [some (aR 54), some (aI v1), some (aI (v2 + 1))] from rfl) ?_
                    refine vc_goto dX12_signs_71 ?_
                    exact ih25 (v2 + 1) (by omega) (by first | (intro u eu _; exact Int.natCast_nonneg u) | (intro u eu q; have z := g25i0 u eu q; by_cases w : (u : Int) = v2; (exfalso; have e : u = v2.toNat := (by omega); rw [e] at q eu; first | omega | (have y1 := eu.2.1; have y2 := eu.2.2; first | (exact absurd (hbt.mp (by omega)) (by rw [y1]; decide)) | (rcases hae with h | h; (omega); (exact h.2 y2)))); (omega))) (by omega)
                  · refine vc_aload_n dX12_signs_58 rfl ?_
                    refine vc_iload_n dX12_signs_59 rfl ?_
                    refine vc_cVI dX12_signs_60 (sfX12_areEnoughF (M := M3) hB8.1 S v2.toNat v2 (by exact hta) (by exact hg) (by exact ⟨htc.symm, ht6⟩) (by exact hsh) (by exact hst)) rfl okX12_areEnough viX12_areEnough lkX12_542 (s_54 hB8.1.1) cl_12 rfl (Nat.le_of_ble_eq_true rfl) ⟨rfl, rfl⟩ (Nat.le_of_ble_eq_true rfl) (Nat.le_of_ble_eq_true rfl) (Nat.le_of_ble_eq_true rfl) ?_
                    rintro x23 _ ⟨rfl, h24, h25, h26⟩
                    have hae := h26
                    refine vc_if_eq dX12_signs_63 (fun h27 => ?_) (fun h27 => ?_)
                    · refine vc_iincE dX12_signs_68 rfl (by omega) (by omega) (by decide) rfl (show _ = [some (aR 54), some (aI v1), some (aI (v2 + 1))] from rfl) ?_
                      refine vc_goto dX12_signs_71 ?_
                      exact ih25 (v2 + 1) (by omega) (by first | (intro u eu _; exact Int.natCast_nonneg u) | (intro u eu q; have z := g25i0 u eu q; by_cases w : (u : Int) = v2; (exfalso; have e : u = v2.toNat := (by omega); rw [e] at q eu; first | omega | (have y1 := eu.2.1; have y2 := eu.2.2; first | (exact absurd (hbt.mp (by omega)) (by rw [y1]; decide)) | (rcases hae with h | h; (omega); (exact h.2 y2)))); (omega))) (by omega)
                    · refine vc_iload_n dX12_signs_66 rfl ?_
                      refine vc_iret dX12_signs_67 rfl (Nat.le_of_ble_eq_true rfl) (Nat.le_of_ble_eq_true rfl) ?_
                      exact ⟨_, rfl, hB8, FewS.si hg (few_r (t := v2.toNat) (n := v1) htc.symm (by omega) (by omega) ⟨by omega, by cases hq : v2.toNat.testBit (S 1 7).toNat with
                          | false => rfl
                          | true => exfalso; have y := hbt.mpr hq; omega, by rcases hae with h | h; (exact h.2); (exfalso; omega)⟩ g18i0 g25i0)⟩
          exact lp25 _ 0 (by omega) (by first | (intro u eu _; exact Int.natCast_nonneg u) | (intro u eu q; have z := g25i0 u eu q; by_cases w : (u : Int) = v2; (exfalso; have e : u = v2.toNat := (by omega); rw [e] at q eu; first | omega | (have y1 := eu.2.1; have y2 := eu.2.2; first | (exact absurd (hbt.mp (by omega)) (by rw [y1]; decide)) | (rcases hae with h | h; (omega); (exact h.2 y2)))); (omega))) (Nat.lt_succ_self _)
    exact lp18 _ 0 (by omega) (by omega) (by first | (intro u eu; exact Int.natCast_nonneg _) | (intro u eu; have z := g18i0 u eu; by_cases w : (pcN u 16 : Int) = v1; (exfalso; have y := g25i0 u eu w; have y2 := eu.1; omega); (omega))) (Nat.lt_succ_self _)
  · refine vc_iconst dX12_signs_10 rfl ?_
    refine vc_iret dX12_signs_11 rfl (Nat.le_of_ble_eq_true rfl) (Nat.le_of_ble_eq_true rfl) ?_
    exact ⟨_, rfl, hB0, Or.inl ⟨by omega, rfl⟩⟩

