set_option maxHeartbeats 4000000 in
set_option maxRecDepth 4000 in
theorem sfX12_beginOneF {l : Launch} {M : Mem} (hB : Box M) (S : Int) (g : Nat → Int) (n p : Int) (hT : RT g n M p) (sk : List Int) (hS : SJ M sk) (w : Int)  (p0 : PI M S) (p1 : mI M 54 14 = 873 * mI M 55 5) (p2 : mI M 54 10 ≤ mI M 54 9) (p3 : mI M 54 11 = 0 ∨ mI M 54 10 < mI M 54 9) (p4 : mI M 54 20 = 0) (p5 : mI M 54 16 = w) (p6 : 0 ≤ w) (p7 : w ≤ 4) : Call l mdX12_beginOne [aR 54] M (fun q N => ∃ r : Int, q = some (aI r) ∧ BF fT M N ∧ mI N 55 = mI M 55 ∧ 0 ≤ r ∧ r ≤ 5 ∧ (r = 0 → PI N S) ∧ (r ≠ 0 ∨ mI M 54 10 < mI N 54 10) ∧ mI N 54 10 ≤ mI N 54 9 ∧ (mI N 54 11 = 0 ∨ mI N 54 10 < mI N 54 9) ∧ mI N 54 14 = mI M 54 14 ∧ mI N 54 16 = mI M 54 16 ∧ mI N 54 21 = mI M 54 21 ∧ (∀ j : Nat, (j : Int) < mI M 54 14 + 265 + 2 * S → mI N 57 j = mI M 57 j) ∧ mI M 54 10 ≤ mI N 54 10 ∧ ((BO g n w N r p sk) ∧ BOc g n S M N r p false)) := by
  have hB0 : BF fT M M := BF.start hB
  refine Call.of [some (aR 54), none] rfl (Nat.le_of_ble_eq_true rfl) rfl ?_
  have hle := p0.len
  have hk9 := b54_9 hB
  have hk5 := b55_5 hB
  have rg1 := RT.rg hT
  have nm2 := RT.nm hT
  have hw2 := RT.w2 hT
  have hs40 := RT.sg hT 40 (t := -260) (by decide) (by decide)
  have hs45 := RT.sg hT 45 (t := -255) (by decide) (by decide)
  refine vc_aload_n dX12_beginOne_0 rfl ?_
  refine vc_getI dX12_beginOne_1 flX12_129 (s_54 hB0.1.1) rfl ?_
  refine vc_iconst dX12_beginOne_4 rfl ?_
  refine vc_icmp_ne dX12_beginOne_5 (fun h3 => ?_) (fun h3 => ?_)
  · refine vc_aload_n dX12_beginOne_20 rfl ?_
    refine vc_cVI dX12_beginOne_21 (sfX12_nameOfF (M := M) hB0.1  g n p hT ) rfl okX12_nameOf viX12_nameOf lkX12_200 (s_54 hB0.1.1) cl_12 rfl (Nat.le_of_ble_eq_true rfl) ⟨rfl, rfl⟩ (Nat.le_of_ble_eq_true rfl) (Nat.le_of_ble_eq_true rfl) (Nat.le_of_ble_eq_true rfl) ?_
    rintro x4 _ ⟨rfl, h5, h6, h7, h8⟩
    have hnmf := h8
    refine vc_istore_n dX12_beginOne_24 (by decide) rfl (show _ = [some (aR 54), some (aI x4)] from rfl) ?_
    refine vc_iload_n dX12_beginOne_25 rfl ?_
    refine vc_if_lt dX12_beginOne_26 (fun h9 => ?_) (fun h9 => ?_)
    · refine vc_aload_n dX12_beginOne_39 rfl ?_
      refine vc_getI dX12_beginOne_40 flX12_129 (s_54 hB0.1.1) rfl ?_
      refine vc_iconst dX12_beginOne_43 rfl ?_
      refine vc_icmp_eq dX12_beginOne_44 (fun h10 => ?_) (fun h10 => ?_)
      · refine vc_aload_n dX12_beginOne_51 rfl ?_
        refine vc_aload_n dX12_beginOne_52 rfl ?_
        refine vc_getI dX12_beginOne_53 flX12_129 (s_54 hB0.1.1) rfl ?_
        refine vc_iconst dX12_beginOne_56 rfl ?_
        refine vc_icmp_ne dX12_beginOne_57 (fun h11 => by exfalso; omega) (fun h11 => ?_)
        refine vc_iconst dX12_beginOne_60 rfl ?_
        refine vc_goto dX12_beginOne_61 ?_
        refine vc_aload_n dX12_beginOne_65 rfl ?_
        refine vc_getI dX12_beginOne_66 flX12_129 (s_54 hB0.1.1) rfl ?_
        refine vc_iconst dX12_beginOne_69 rfl ?_
        refine vc_icmp_ne dX12_beginOne_70 (fun h12 => by exfalso; omega) (fun h12 => ?_)
        refine vc_aload_n dX12_beginOne_73 rfl ?_
        refine vc_getI dX12_beginOne_74 flX12_135 (s_54 hB0.1.1) rfl ?_
        refine vc_goto dX12_beginOne_77 ?_
        have hk1 : 1000 ≤ tk g n p := by omega
        have hk2 : tk g n p ≤ 10999 := by omega
        have hov : (mI M 54 12 : Int) = tk g n p - 1000 := by omega
        refine vc_cVU dX12_beginOne_81 (sfX12_emitF (M := M) hB0.1  0 (mI M 54 12) (by omega) (by omega)) rfl okX12_emit viX12_emit lkX12_186 (s_54 hB0.1.1) cl_12 rfl (Nat.le_of_ble_eq_true rfl) ⟨rfl, rfl⟩ (Nat.le_of_ble_eq_true rfl) (Nat.le_of_ble_eq_true rfl) (Nat.le_of_ble_eq_true rfl) ?_
        rintro M13 ⟨hB14, kp15, kp16, h17, h18, h19, h20, h21, h22, h23, h24, h25, h26, h27, h28, h29, h30⟩
        have hB31 : BF fT M M13 := BF.go hB0 hB14
        have kp32 : mI M13 55 = mI M 55 := kp_go rfl kp15
        have h57 := h18
        have h60 := kp16
        have fr33 := fr_emit (A := M) (B := M) (t := mI M 54 14 + 265 + 2 * S) (by omega) (by omega) h57 (fun _ _ => rfl)
        have hcoE : Co M13 S = Co M S ++ [(0, mI M 54 12)] := h28 S p0.2.1 p0.2.2.1
        have hplE : Pl M13 = Pl M := Pl.same kp16 (by omega)
        refine vc_aload_n dX12_beginOne_84 rfl ?_
        have hgf := RT.gf hT hB31.2.2
        have hat0 := RT.at hT (by omega)
        have hrg0 := RT.rg hT
        refine vc_cVU dX12_beginOne_85 (sfX12_nextTokenF (M := M13) hB31.1   (by first | (rw [hgf.2.1]; omega) | omega) (by first | (rw [hgf.1]; exact hgf.2.2) | assumption)) rfl okX12_nextToken viX12_nextToken lkX12_193 (s_54 hB31.1.1) cl_12 rfl (Nat.le_of_ble_eq_true rfl) ⟨rfl, rfl⟩ (Nat.le_of_ble_eq_true rfl) (Nat.le_of_ble_eq_true rfl) (Nat.le_of_ble_eq_true rfl) ?_
        rintro M34 ⟨hB35, kp36, kp37, kp38, h39, h40, h41, h42, h43, h44, h45, h46, h47, h48, h49⟩
        have hB50 : BF fT M M34 := BF.go hB31 hB35.t
        have kp51 : mI M34 55 = mI M 55 := kp_go kp32 kp36
        have rt52 : RT g n M34 (nx g n p) := by
          have z := h49
          rw [hgf.1, hgf.2.1, show mI M13 54 9 = en g n p by first | omega | (show mI M13 54 9 = _; omega)] at z
          exact z
        clear hrg0
        have rg53 := RT.rg rt52
        have fr54 : ∀ j : Nat, (j : Int) < mI M 54 14 + 265 + 2 * S → mI M34 57 j = mI M 57 j := fun j hj => (congrFun kp37 j).trans (fr33 j hj)
        have hbx := b54_10 (M := M34) hB50.1
        have hcoT : Co M34 S = Co M S ++ [(0, mI M 54 12)] := (Co.same kp37 (by omega) (by omega)).trans hcoE
        have hplT : Pl M34 = Pl M := (Pl.same kp38 (by omega)).trans hplE
        refine vc_aload_n dX12_beginOne_88 rfl ?_
        refine vc_iconst dX12_beginOne_89 rfl ?_
        refine vc_putZ dX12_beginOne_90 (plX12_207 _ rfl) (s_54 hB50.1.1) rfl (by first | decide | omega) ?_
        have kp55 : mI (sI M34 54 20 1) 55 = mI M 55 := (kp_sI kp51 rfl)
        have hB56 : BF fT M (sI M34 54 20 1) := BF.w54_20 hB50 rfl
        refine vc_aload_n dX12_beginOne_93 rfl ?_
        refine vc_iconst dX12_beginOne_94 rfl ?_
        have k57 : mI (sI M34 54 20 1) 54 9 = mI M34 54 9 := rfl
        have k58 : mI (sI M34 54 20 1) 54 10 = mI M34 54 10 := rfl
        have k59 : mI (sI M34 54 20 1) 54 11 = mI M34 54 11 := rfl
        have k60 : mI (sI M34 54 20 1) 54 14 = mI M34 54 14 := rfl
        have k61 : mI (sI M34 54 20 1) 54 15 = mI M34 54 15 := rfl
        have k62 : mI (sI M34 54 20 1) 54 16 = mI M34 54 16 := rfl
        have k63 : mI (sI M34 54 20 1) 54 18 = mI M34 54 18 := rfl
        have k64 : mI (sI M34 54 20 1) 54 19 = mI M34 54 19 := rfl
        have k65 : mI (sI M34 54 20 1) 54 20 = 1 := rfl
        have k66 : mI (sI M34 54 20 1) 54 21 = mI M34 54 21 := rfl
        have hz5 := congrFun kp55 5
        have hPI67 : PI (sI M34 54 20 1) S := PI.num (M := M) (o := 0) (v := (mI M 54 12)) p0 (by omega) (by omega) (fun h => absurd h (by decide)) (kp37.trans h57) (kp38.trans h60) (by omega) (by omega) (by omega) (by omega) (by omega) (by omega) (by omega)
        have rt68 : RT g n (sI M34 54 20 1) (nx g n p) := RT.same rt52 (Fz.sI rfl) rfl rfl rfl rfl rfl
        have k6069 : mI (sI M34 54 20 1) 60 = mI M 60 := (show mI (sI M34 54 20 1) 60 = mI M34 60 from kp_sI rfl rfl).trans (kp38.trans h60)
        refine vc_cVU dX12_beginOne_95 (sfX12_settlePileF (M := (sI M34 54 20 1)) hB56.1  S 3 (by omega) (by omega) (by assumption) (by omega) (by omega)) rfl okX12_settlePile viX12_settlePile lkX12_211 (s_54 hB56.1.1) cl_12 rfl (Nat.le_of_ble_eq_true rfl) ⟨rfl, rfl⟩ (Nat.le_of_ble_eq_true rfl) (Nat.le_of_ble_eq_true rfl) (Nat.le_of_ble_eq_true rfl) ?_
        rintro M70 ⟨hB71, kp72, kp73, h74, h75, h76, h77, h78, h79, h80, h81, h82, h83, h84, h85, h86, h87, h88⟩
        have hB89 : BF fT M M70 := BF.go hB56 hB71
        have kp90 : mI M70 55 = mI M 55 := kp_go kp55 kp72
        have fr91 : ∀ j : Nat, (j : Int) < mI M 54 14 + 265 + 2 * S → mI M70 57 j = mI M 57 j := fun j hj => (h83 j (by omega)).trans (fr54 j hj)
        have hl2 := h74.len
        have hfin : Pl M70 = (stP 3 (Pl M)).2 ∧ Co M70 S = Co M S ++ ((0, mI M 54 12) :: (stP 3 (Pl M)).1) := by
          have z := h86
          rw [show Pl (sI M34 54 20 1) = Pl M from (Pl.same (kp_sI rfl rfl) rfl).trans hplT, show Co (sI M34 54 20 1) S = _ from (Co.same (kp_sI rfl rfl) rfl rfl).trans hcoT, List.append_assoc] at z
          exact z
        have hSJn : SJ M70 (dm sk) := SJ.min (M := (sI M34 54 20 1)) (SI0.same hS.1 k6069 (by omega)) hPI67 kp73 (by omega) (by omega) h84 h85
        have rt92 : RT g n M70 (nx g n p) := RT.same rt68 hB71.2.2 (by omega) (by omega) (by omega) h87 h88
        refine vc_iconst dX12_beginOne_98 rfl ?_
        refine vc_iret dX12_beginOne_99 rfl (Nat.le_of_ble_eq_true rfl) (Nat.le_of_ble_eq_true rfl) ?_
        exact ⟨_, rfl, hB89, kp90, by omega, by omega, fun _ => h74, by omega, by omega, by omega, by omega, by omega, by omega, fr91, by omega, ⟨Or.inl ⟨rfl, _, _, hSJn, rt92, fun o z => r_num hk1 hk2 (rn_t (h80.trans rfl) z)⟩, fun _ => ⟨_, ((0 : Int), tk g n p - 1000) :: (stP 3 (Pl M)).1, rt92, (by have z := hfin.2; rw [hov] at z; exact z), fun c z => by rw [hfin.1, dcT (h80.trans rfl)] at z; exact c_num hk1 z⟩⟩⟩
      · refine vc_iload_n dX12_beginOne_47 rfl ?_
        refine vc_if_lt dX12_beginOne_48 (fun h93 => ?_) (fun h93 => by exfalso; omega)
        refine vc_aload_n dX12_beginOne_100 rfl ?_
        refine vc_bipush dX12_beginOne_101 rfl ?_
        refine vc_bipush dX12_beginOne_103 rfl ?_
        refine vc_bipush dX12_beginOne_105 rfl ?_
        refine vc_bipush dX12_beginOne_107 rfl ?_
        refine vc_bipush dX12_beginOne_109 rfl ?_
        refine vc_cSL dX12_beginOne_111 (sfX12_w5F (M := M) hB0.1  108 101 97 115 116 ) rfl okX12_w5 stX12_w5 lkX12_163 rfl (Nat.le_of_ble_eq_true rfl) ⟨rfl, rfl⟩ (Nat.le_of_ble_eq_true rfl) (Nat.le_of_ble_eq_true rfl) (Nat.le_of_ble_eq_true rfl) ?_
        rintro x94 _ ⟨rfl, h95⟩
        have hw96 : x94 = 465557353332 := h95.trans (by decide +kernel)
        refine vc_cVI dX12_beginOne_114 (sfX12_isWordF (M := M) hB0.1  x94 ) rfl okX12_isWord viX12_isWord lkX12_196 (s_54 hB0.1.1) cl_12 rfl (Nat.le_of_ble_eq_true rfl) ⟨rfl, rfl⟩ (Nat.le_of_ble_eq_true rfl) (Nat.le_of_ble_eq_true rfl) (Nat.le_of_ble_eq_true rfl) ?_
        rintro x97 _ ⟨rfl, h98, h99, h100⟩
        have hz101 := isw h100 (RT.iw hT 21 (by decide) (hw96.trans pk_21) (t := 122) (by decide))
        clear h100
        refine vc_if_eq dX12_beginOne_117 (fun h102 => ?_) (fun h102 => ?_)
        · refine vc_aload_n dX12_beginOne_127 rfl ?_
          refine vc_bipush dX12_beginOne_128 rfl ?_
          refine vc_bipush dX12_beginOne_130 rfl ?_
          refine vc_bipush dX12_beginOne_132 rfl ?_
          refine vc_bipush dX12_beginOne_134 rfl ?_
          refine vc_cSL dX12_beginOne_136 (sfX12_w4F (M := M) hB0.1  109 111 115 116 ) rfl okX12_w4 stX12_w4 lkX12_159 rfl (Nat.le_of_ble_eq_true rfl) ⟨rfl, rfl⟩ (Nat.le_of_ble_eq_true rfl) (Nat.le_of_ble_eq_true rfl) (Nat.le_of_ble_eq_true rfl) ?_
          rintro x103 _ ⟨rfl, h104⟩
          have hw105 : x103 = 1836020596 := h104.trans (by decide +kernel)
          refine vc_cVI dX12_beginOne_139 (sfX12_isWordF (M := M) hB0.1  x103 ) rfl okX12_isWord viX12_isWord lkX12_196 (s_54 hB0.1.1) cl_12 rfl (Nat.le_of_ble_eq_true rfl) ⟨rfl, rfl⟩ (Nat.le_of_ble_eq_true rfl) (Nat.le_of_ble_eq_true rfl) (Nat.le_of_ble_eq_true rfl) ?_
          rintro x106 _ ⟨rfl, h107, h108, h109⟩
          have hz110 := isw h109 (RT.iw hT 22 (by decide) (hw105.trans pk_22) (t := 123) (by decide))
          clear h109
          refine vc_if_eq dX12_beginOne_142 (fun h111 => ?_) (fun h111 => ?_)
          · refine vc_aload_n dX12_beginOne_152 rfl ?_
            refine vc_getI dX12_beginOne_153 flX12_129 (s_54 hB0.1.1) rfl ?_
            refine vc_bipush dX12_beginOne_156 rfl ?_
            refine vc_icmp_ne dX12_beginOne_158 (fun h112 => ?_) (fun h112 => ?_)
            · refine vc_aload_n dX12_beginOne_170 rfl ?_
              refine vc_getI dX12_beginOne_171 flX12_129 (s_54 hB0.1.1) rfl ?_
              refine vc_bipush dX12_beginOne_174 rfl ?_
              refine vc_icmp_ne dX12_beginOne_176 (fun h113 => ?_) (fun h113 => ?_)
              · refine vc_iconst dX12_beginOne_187 rfl ?_
                refine vc_iret dX12_beginOne_188 rfl (Nat.le_of_ble_eq_true rfl) (Nat.le_of_ble_eq_true rfl) ?_
                exact ⟨_, rfl, hB0, rfl, by omega, by omega, fun h => absurd h (by decide), by omega, by omega, by omega, by omega, by omega, by omega, (fun _ _ => rfl), by omega, ⟨Or.inr ⟨by decide, by rw [show mI M 54 10 = p by omega]; exact r_no (by omega) (by omega) (by omega) (by omega) (by omega)⟩, fun h => absurd h (by decide)⟩⟩
              · refine vc_aload_n dX12_beginOne_179 rfl ?_
                refine vc_iconst dX12_beginOne_180 rfl ?_
                refine vc_cVI dX12_beginOne_181 (sfX12_openedF (M := M) hB0.1  S g n p hT sk hS 2 (by exact p0) (by omega) (by omega) (by omega) (by omega) (by omega) (by omega) (by omega)) rfl okX12_opened viX12_opened lkX12_214 (s_54 hB0.1.1) cl_12 rfl (Nat.le_of_ble_eq_true rfl) ⟨rfl, rfl⟩ (Nat.le_of_ble_eq_true rfl) (Nat.le_of_ble_eq_true rfl) (Nat.le_of_ble_eq_true rfl) ?_
                rintro x114 M115 ⟨hB116, kp117, h118, h119, h120, h121, h122, h123, h124, h125, h126, h127, h128, h129, h130⟩
                have hB131 : BF fT M M115 := BF.go hB0 hB116
                have kp132 : mI M115 55 = mI M 55 := kp_go rfl kp117
                refine vc_goto dX12_beginOne_184 ?_
                refine vc_iret dX12_beginOne_188 rfl (Nat.le_of_ble_eq_true rfl) (Nat.le_of_ble_eq_true rfl) ?_
                exact ⟨_, rfl, hB131, kp132, by omega, by omega, h120, by omega, by omega, by omega, by omega, by omega, by omega, h127, by omega, ⟨(by first | exact OPr.two h130.1 (by omega) (fun _ => by omega) (by omega) | exact OPr.par h130.1 (fun _ => by omega) (by omega) | exact OPr.neg h130.1 (fun _ => by omega) (by omega)), BOc.opn h130.1 h130.2 (fun _ => by omega) (by first | exact Or.inl ⟨rfl, by omega⟩ | exact Or.inr (Or.inl ⟨rfl, by omega⟩) | exact Or.inr (Or.inr (Or.inl ⟨rfl, by omega⟩)) | exact Or.inr (Or.inr (Or.inr ⟨rfl, by omega⟩)))⟩⟩
            · refine vc_aload_n dX12_beginOne_161 rfl ?_
              refine vc_bipush dX12_beginOne_162 rfl ?_
              refine vc_cVI dX12_beginOne_164 (sfX12_openedF (M := M) hB0.1  S g n p hT sk hS 40 (by exact p0) (by omega) (by omega) (by omega) (by omega) (by omega) (by omega) (by omega)) rfl okX12_opened viX12_opened lkX12_214 (s_54 hB0.1.1) cl_12 rfl (Nat.le_of_ble_eq_true rfl) ⟨rfl, rfl⟩ (Nat.le_of_ble_eq_true rfl) (Nat.le_of_ble_eq_true rfl) (Nat.le_of_ble_eq_true rfl) ?_
              rintro x133 M134 ⟨hB135, kp136, h137, h138, h139, h140, h141, h142, h143, h144, h145, h146, h147, h148, h149⟩
              have hB150 : BF fT M M134 := BF.go hB0 hB135
              have kp151 : mI M134 55 = mI M 55 := kp_go rfl kp136
              refine vc_goto dX12_beginOne_167 ?_
              refine vc_iret dX12_beginOne_188 rfl (Nat.le_of_ble_eq_true rfl) (Nat.le_of_ble_eq_true rfl) ?_
              exact ⟨_, rfl, hB150, kp151, by omega, by omega, h139, by omega, by omega, by omega, by omega, by omega, by omega, h146, by omega, ⟨(by first | exact OPr.two h149.1 (by omega) (fun _ => by omega) (by omega) | exact OPr.par h149.1 (fun _ => by omega) (by omega) | exact OPr.neg h149.1 (fun _ => by omega) (by omega)), BOc.opn h149.1 h149.2 (fun _ => by omega) (by first | exact Or.inl ⟨rfl, by omega⟩ | exact Or.inr (Or.inl ⟨rfl, by omega⟩) | exact Or.inr (Or.inr (Or.inl ⟨rfl, by omega⟩)) | exact Or.inr (Or.inr (Or.inr ⟨rfl, by omega⟩)))⟩⟩
          · refine vc_aload_n dX12_beginOne_145 rfl ?_
            refine vc_bipush dX12_beginOne_146 rfl ?_
            refine vc_cVI dX12_beginOne_148 (sfX12_openedF (M := M) hB0.1  S g n p hT sk hS 43 (by exact p0) (by omega) (by omega) (by omega) (by omega) (by omega) (by omega) (by omega)) rfl okX12_opened viX12_opened lkX12_214 (s_54 hB0.1.1) cl_12 rfl (Nat.le_of_ble_eq_true rfl) ⟨rfl, rfl⟩ (Nat.le_of_ble_eq_true rfl) (Nat.le_of_ble_eq_true rfl) (Nat.le_of_ble_eq_true rfl) ?_
            rintro x152 M153 ⟨hB154, kp155, h156, h157, h158, h159, h160, h161, h162, h163, h164, h165, h166, h167, h168⟩
            have hB169 : BF fT M M153 := BF.go hB0 hB154
            have kp170 : mI M153 55 = mI M 55 := kp_go rfl kp155
            refine vc_iret dX12_beginOne_151 rfl (Nat.le_of_ble_eq_true rfl) (Nat.le_of_ble_eq_true rfl) ?_
            exact ⟨_, rfl, hB169, kp170, by omega, by omega, h158, by omega, by omega, by omega, by omega, by omega, by omega, h165, by omega, ⟨(by first | exact OPr.two h168.1 (by omega) (fun _ => by omega) (by omega) | exact OPr.par h168.1 (fun _ => by omega) (by omega) | exact OPr.neg h168.1 (fun _ => by omega) (by omega)), BOc.opn h168.1 h168.2 (fun _ => by omega) (by first | exact Or.inl ⟨rfl, by omega⟩ | exact Or.inr (Or.inl ⟨rfl, by omega⟩) | exact Or.inr (Or.inr (Or.inl ⟨rfl, by omega⟩)) | exact Or.inr (Or.inr (Or.inr ⟨rfl, by omega⟩)))⟩⟩
        · refine vc_aload_n dX12_beginOne_120 rfl ?_
          refine vc_bipush dX12_beginOne_121 rfl ?_
          refine vc_cVI dX12_beginOne_123 (sfX12_openedF (M := M) hB0.1  S g n p hT sk hS 41 (by exact p0) (by omega) (by omega) (by omega) (by omega) (by omega) (by omega) (by omega)) rfl okX12_opened viX12_opened lkX12_214 (s_54 hB0.1.1) cl_12 rfl (Nat.le_of_ble_eq_true rfl) ⟨rfl, rfl⟩ (Nat.le_of_ble_eq_true rfl) (Nat.le_of_ble_eq_true rfl) (Nat.le_of_ble_eq_true rfl) ?_
          rintro x171 M172 ⟨hB173, kp174, h175, h176, h177, h178, h179, h180, h181, h182, h183, h184, h185, h186, h187⟩
          have hB188 : BF fT M M172 := BF.go hB0 hB173
          have kp189 : mI M172 55 = mI M 55 := kp_go rfl kp174
          refine vc_iret dX12_beginOne_126 rfl (Nat.le_of_ble_eq_true rfl) (Nat.le_of_ble_eq_true rfl) ?_
          exact ⟨_, rfl, hB188, kp189, by omega, by omega, h177, by omega, by omega, by omega, by omega, by omega, by omega, h184, by omega, ⟨(by first | exact OPr.two h187.1 (by omega) (fun _ => by omega) (by omega) | exact OPr.par h187.1 (fun _ => by omega) (by omega) | exact OPr.neg h187.1 (fun _ => by omega) (by omega)), BOc.opn h187.1 h187.2 (fun _ => by omega) (by first | exact Or.inl ⟨rfl, by omega⟩ | exact Or.inr (Or.inl ⟨rfl, by omega⟩) | exact Or.inr (Or.inr (Or.inl ⟨rfl, by omega⟩)) | exact Or.inr (Or.inr (Or.inr ⟨rfl, by omega⟩)))⟩⟩
    · refine vc_aload_n dX12_beginOne_29 rfl ?_
      refine vc_iload_n dX12_beginOne_30 rfl ?_
      refine vc_cVI dX12_beginOne_31 (sfX12_isOfF (M := M) hB0.1  x4 (by omega) (by omega) (by omega) (by omega)) rfl okX12_isOf viX12_isOf lkX12_204 (s_54 hB0.1.1) cl_12 rfl (Nat.le_of_ble_eq_true rfl) ⟨rfl, rfl⟩ (Nat.le_of_ble_eq_true rfl) (Nat.le_of_ble_eq_true rfl) (Nat.le_of_ble_eq_true rfl) ?_
      rintro x190 _ ⟨rfl, h191, h192, h193⟩
      have hof := h193
      rw [p5] at hof
      refine vc_if_ne dX12_beginOne_34 (fun h194 => ?_) (fun h194 => ?_)
      · refine vc_aload_n dX12_beginOne_39 rfl ?_
        refine vc_getI dX12_beginOne_40 flX12_129 (s_54 hB0.1.1) rfl ?_
        refine vc_iconst dX12_beginOne_43 rfl ?_
        refine vc_icmp_eq dX12_beginOne_44 (fun h195 => ?_) (fun h195 => ?_)
        · refine vc_aload_n dX12_beginOne_51 rfl ?_
          refine vc_aload_n dX12_beginOne_52 rfl ?_
          refine vc_getI dX12_beginOne_53 flX12_129 (s_54 hB0.1.1) rfl ?_
          refine vc_iconst dX12_beginOne_56 rfl ?_
          refine vc_icmp_ne dX12_beginOne_57 (fun h196 => by exfalso; omega) (fun h196 => ?_)
          refine vc_iconst dX12_beginOne_60 rfl ?_
          refine vc_goto dX12_beginOne_61 ?_
          refine vc_aload_n dX12_beginOne_65 rfl ?_
          refine vc_getI dX12_beginOne_66 flX12_129 (s_54 hB0.1.1) rfl ?_
          refine vc_iconst dX12_beginOne_69 rfl ?_
          refine vc_icmp_ne dX12_beginOne_70 (fun h197 => by exfalso; omega) (fun h197 => ?_)
          refine vc_aload_n dX12_beginOne_73 rfl ?_
          refine vc_getI dX12_beginOne_74 flX12_135 (s_54 hB0.1.1) rfl ?_
          refine vc_goto dX12_beginOne_77 ?_
          have hk1 : 1000 ≤ tk g n p := by omega
          have hk2 : tk g n p ≤ 10999 := by omega
          have hov : (mI M 54 12 : Int) = tk g n p - 1000 := by omega
          refine vc_cVU dX12_beginOne_81 (sfX12_emitF (M := M) hB0.1  0 (mI M 54 12) (by omega) (by omega)) rfl okX12_emit viX12_emit lkX12_186 (s_54 hB0.1.1) cl_12 rfl (Nat.le_of_ble_eq_true rfl) ⟨rfl, rfl⟩ (Nat.le_of_ble_eq_true rfl) (Nat.le_of_ble_eq_true rfl) (Nat.le_of_ble_eq_true rfl) ?_
          rintro M198 ⟨hB199, kp200, kp201, h202, h203, h204, h205, h206, h207, h208, h209, h210, h211, h212, h213, h214, h215⟩
          have hB216 : BF fT M M198 := BF.go hB0 hB199
          have kp217 : mI M198 55 = mI M 55 := kp_go rfl kp200
          have h57 := h203
          have h60 := kp201
          have fr218 := fr_emit (A := M) (B := M) (t := mI M 54 14 + 265 + 2 * S) (by omega) (by omega) h57 (fun _ _ => rfl)
          have hcoE : Co M198 S = Co M S ++ [(0, mI M 54 12)] := h213 S p0.2.1 p0.2.2.1
          have hplE : Pl M198 = Pl M := Pl.same kp201 (by omega)
          refine vc_aload_n dX12_beginOne_84 rfl ?_
          have hgf := RT.gf hT hB216.2.2
          have hat0 := RT.at hT (by omega)
          have hrg0 := RT.rg hT
          refine vc_cVU dX12_beginOne_85 (sfX12_nextTokenF (M := M198) hB216.1   (by first | (rw [hgf.2.1]; omega) | omega) (by first | (rw [hgf.1]; exact hgf.2.2) | assumption)) rfl okX12_nextToken viX12_nextToken lkX12_193 (s_54 hB216.1.1) cl_12 rfl (Nat.le_of_ble_eq_true rfl) ⟨rfl, rfl⟩ (Nat.le_of_ble_eq_true rfl) (Nat.le_of_ble_eq_true rfl) (Nat.le_of_ble_eq_true rfl) ?_
          rintro M219 ⟨hB220, kp221, kp222, kp223, h224, h225, h226, h227, h228, h229, h230, h231, h232, h233, h234⟩
          have hB235 : BF fT M M219 := BF.go hB216 hB220.t
          have kp236 : mI M219 55 = mI M 55 := kp_go kp217 kp221
          have rt237 : RT g n M219 (nx g n p) := by
            have z := h234
            rw [hgf.1, hgf.2.1, show mI M198 54 9 = en g n p by first | omega | (show mI M198 54 9 = _; omega)] at z
            exact z
          clear hrg0
          have rg238 := RT.rg rt237
          have fr239 : ∀ j : Nat, (j : Int) < mI M 54 14 + 265 + 2 * S → mI M219 57 j = mI M 57 j := fun j hj => (congrFun kp222 j).trans (fr218 j hj)
          have hbx := b54_10 (M := M219) hB235.1
          have hcoT : Co M219 S = Co M S ++ [(0, mI M 54 12)] := (Co.same kp222 (by omega) (by omega)).trans hcoE
          have hplT : Pl M219 = Pl M := (Pl.same kp223 (by omega)).trans hplE
          refine vc_aload_n dX12_beginOne_88 rfl ?_
          refine vc_iconst dX12_beginOne_89 rfl ?_
          refine vc_putZ dX12_beginOne_90 (plX12_207 _ rfl) (s_54 hB235.1.1) rfl (by first | decide | omega) ?_
          have kp240 : mI (sI M219 54 20 1) 55 = mI M 55 := (kp_sI kp236 rfl)
          have hB241 : BF fT M (sI M219 54 20 1) := BF.w54_20 hB235 rfl
          refine vc_aload_n dX12_beginOne_93 rfl ?_
          refine vc_iconst dX12_beginOne_94 rfl ?_
          have k242 : mI (sI M219 54 20 1) 54 9 = mI M219 54 9 := rfl
          have k243 : mI (sI M219 54 20 1) 54 10 = mI M219 54 10 := rfl
          have k244 : mI (sI M219 54 20 1) 54 11 = mI M219 54 11 := rfl
          have k245 : mI (sI M219 54 20 1) 54 14 = mI M219 54 14 := rfl
          have k246 : mI (sI M219 54 20 1) 54 15 = mI M219 54 15 := rfl
          have k247 : mI (sI M219 54 20 1) 54 16 = mI M219 54 16 := rfl
          have k248 : mI (sI M219 54 20 1) 54 18 = mI M219 54 18 := rfl
          have k249 : mI (sI M219 54 20 1) 54 19 = mI M219 54 19 := rfl
          have k250 : mI (sI M219 54 20 1) 54 20 = 1 := rfl
          have k251 : mI (sI M219 54 20 1) 54 21 = mI M219 54 21 := rfl
          have hz5 := congrFun kp240 5
          have hPI252 : PI (sI M219 54 20 1) S := PI.num (M := M) (o := 0) (v := (mI M 54 12)) p0 (by omega) (by omega) (fun h => absurd h (by decide)) (kp222.trans h57) (kp223.trans h60) (by omega) (by omega) (by omega) (by omega) (by omega) (by omega) (by omega)
          have rt253 : RT g n (sI M219 54 20 1) (nx g n p) := RT.same rt237 (Fz.sI rfl) rfl rfl rfl rfl rfl
          have k60254 : mI (sI M219 54 20 1) 60 = mI M 60 := (show mI (sI M219 54 20 1) 60 = mI M219 60 from kp_sI rfl rfl).trans (kp223.trans h60)
          refine vc_cVU dX12_beginOne_95 (sfX12_settlePileF (M := (sI M219 54 20 1)) hB241.1  S 3 (by omega) (by omega) (by assumption) (by omega) (by omega)) rfl okX12_settlePile viX12_settlePile lkX12_211 (s_54 hB241.1.1) cl_12 rfl (Nat.le_of_ble_eq_true rfl) ⟨rfl, rfl⟩ (Nat.le_of_ble_eq_true rfl) (Nat.le_of_ble_eq_true rfl) (Nat.le_of_ble_eq_true rfl) ?_
          rintro M255 ⟨hB256, kp257, kp258, h259, h260, h261, h262, h263, h264, h265, h266, h267, h268, h269, h270, h271, h272, h273⟩
          have hB274 : BF fT M M255 := BF.go hB241 hB256
          have kp275 : mI M255 55 = mI M 55 := kp_go kp240 kp257
          have fr276 : ∀ j : Nat, (j : Int) < mI M 54 14 + 265 + 2 * S → mI M255 57 j = mI M 57 j := fun j hj => (h268 j (by omega)).trans (fr239 j hj)
          have hl2 := h259.len
          have hfin : Pl M255 = (stP 3 (Pl M)).2 ∧ Co M255 S = Co M S ++ ((0, mI M 54 12) :: (stP 3 (Pl M)).1) := by
            have z := h271
            rw [show Pl (sI M219 54 20 1) = Pl M from (Pl.same (kp_sI rfl rfl) rfl).trans hplT, show Co (sI M219 54 20 1) S = _ from (Co.same (kp_sI rfl rfl) rfl rfl).trans hcoT, List.append_assoc] at z
            exact z
          have hSJn : SJ M255 (dm sk) := SJ.min (M := (sI M219 54 20 1)) (SI0.same hS.1 k60254 (by omega)) hPI252 kp258 (by omega) (by omega) h269 h270
          have rt277 : RT g n M255 (nx g n p) := RT.same rt253 hB256.2.2 (by omega) (by omega) (by omega) h272 h273
          refine vc_iconst dX12_beginOne_98 rfl ?_
          refine vc_iret dX12_beginOne_99 rfl (Nat.le_of_ble_eq_true rfl) (Nat.le_of_ble_eq_true rfl) ?_
          exact ⟨_, rfl, hB274, kp275, by omega, by omega, fun _ => h259, by omega, by omega, by omega, by omega, by omega, by omega, fr276, by omega, ⟨Or.inl ⟨rfl, _, _, hSJn, rt277, fun o z => r_num hk1 hk2 (rn_t (h265.trans rfl) z)⟩, fun _ => ⟨_, ((0 : Int), tk g n p - 1000) :: (stP 3 (Pl M)).1, rt277, (by have z := hfin.2; rw [hov] at z; exact z), fun c z => by rw [hfin.1, dcT (h265.trans rfl)] at z; exact c_num hk1 z⟩⟩⟩
        · refine vc_iload_n dX12_beginOne_47 rfl ?_
          refine vc_if_lt dX12_beginOne_48 (fun h278 => by exfalso; omega) (fun h278 => ?_)
          refine vc_aload_n dX12_beginOne_51 rfl ?_
          refine vc_aload_n dX12_beginOne_52 rfl ?_
          refine vc_getI dX12_beginOne_53 flX12_129 (s_54 hB0.1.1) rfl ?_
          refine vc_iconst dX12_beginOne_56 rfl ?_
          refine vc_icmp_ne dX12_beginOne_57 (fun h279 => ?_) (fun h279 => ?_)
          · refine vc_iconst dX12_beginOne_64 rfl ?_
            refine vc_aload_n dX12_beginOne_65 rfl ?_
            refine vc_getI dX12_beginOne_66 flX12_129 (s_54 hB0.1.1) rfl ?_
            refine vc_iconst dX12_beginOne_69 rfl ?_
            refine vc_icmp_ne dX12_beginOne_70 (fun h280 => ?_) (fun h280 => ?_)
            · refine vc_iload_n dX12_beginOne_80 rfl ?_
              have hk1 : 128 ≤ tk g n p := by omega
              have hk2 : tk g n p ≤ 136 := by omega
              have hov : (x4 : Int) = tk g n p - 128 := by omega
              have hok : okN w (tk g n p - 128) := by rw [show tk g n p - 128 = x4 by omega]; rcases hof with z | z; (exact z.2); (omega)
              refine vc_cVU dX12_beginOne_81 (sfX12_emitF (M := M) hB0.1  1 x4 (by omega) (by omega)) rfl okX12_emit viX12_emit lkX12_186 (s_54 hB0.1.1) cl_12 rfl (Nat.le_of_ble_eq_true rfl) ⟨rfl, rfl⟩ (Nat.le_of_ble_eq_true rfl) (Nat.le_of_ble_eq_true rfl) (Nat.le_of_ble_eq_true rfl) ?_
              rintro M281 ⟨hB282, kp283, kp284, h285, h286, h287, h288, h289, h290, h291, h292, h293, h294, h295, h296, h297, h298⟩
              have hB299 : BF fT M M281 := BF.go hB0 hB282
              have kp300 : mI M281 55 = mI M 55 := kp_go rfl kp283
              have h57 := h286
              have h60 := kp284
              have fr301 := fr_emit (A := M) (B := M) (t := mI M 54 14 + 265 + 2 * S) (by omega) (by omega) h57 (fun _ _ => rfl)
              have hcoE : Co M281 S = Co M S ++ [(1, x4)] := h296 S p0.2.1 p0.2.2.1
              have hplE : Pl M281 = Pl M := Pl.same kp284 (by omega)
              refine vc_aload_n dX12_beginOne_84 rfl ?_
              have hgf := RT.gf hT hB299.2.2
              have hat0 := RT.at hT (by omega)
              have hrg0 := RT.rg hT
              refine vc_cVU dX12_beginOne_85 (sfX12_nextTokenF (M := M281) hB299.1   (by first | (rw [hgf.2.1]; omega) | omega) (by first | (rw [hgf.1]; exact hgf.2.2) | assumption)) rfl okX12_nextToken viX12_nextToken lkX12_193 (s_54 hB299.1.1) cl_12 rfl (Nat.le_of_ble_eq_true rfl) ⟨rfl, rfl⟩ (Nat.le_of_ble_eq_true rfl) (Nat.le_of_ble_eq_true rfl) (Nat.le_of_ble_eq_true rfl) ?_
              rintro M302 ⟨hB303, kp304, kp305, kp306, h307, h308, h309, h310, h311, h312, h313, h314, h315, h316, h317⟩
              have hB318 : BF fT M M302 := BF.go hB299 hB303.t
              have kp319 : mI M302 55 = mI M 55 := kp_go kp300 kp304
              have rt320 : RT g n M302 (nx g n p) := by
                have z := h317
                rw [hgf.1, hgf.2.1, show mI M281 54 9 = en g n p by first | omega | (show mI M281 54 9 = _; omega)] at z
                exact z
              clear hrg0
              have rg321 := RT.rg rt320
              have fr322 : ∀ j : Nat, (j : Int) < mI M 54 14 + 265 + 2 * S → mI M302 57 j = mI M 57 j := fun j hj => (congrFun kp305 j).trans (fr301 j hj)
              have hbx := b54_10 (M := M302) hB318.1
              have hcoT : Co M302 S = Co M S ++ [(1, x4)] := (Co.same kp305 (by omega) (by omega)).trans hcoE
              have hplT : Pl M302 = Pl M := (Pl.same kp306 (by omega)).trans hplE
              refine vc_aload_n dX12_beginOne_88 rfl ?_
              refine vc_iconst dX12_beginOne_89 rfl ?_
              refine vc_putZ dX12_beginOne_90 (plX12_207 _ rfl) (s_54 hB318.1.1) rfl (by first | decide | omega) ?_
              have kp323 : mI (sI M302 54 20 1) 55 = mI M 55 := (kp_sI kp319 rfl)
              have hB324 : BF fT M (sI M302 54 20 1) := BF.w54_20 hB318 rfl
              refine vc_aload_n dX12_beginOne_93 rfl ?_
              refine vc_iconst dX12_beginOne_94 rfl ?_
              have k325 : mI (sI M302 54 20 1) 54 9 = mI M302 54 9 := rfl
              have k326 : mI (sI M302 54 20 1) 54 10 = mI M302 54 10 := rfl
              have k327 : mI (sI M302 54 20 1) 54 11 = mI M302 54 11 := rfl
              have k328 : mI (sI M302 54 20 1) 54 14 = mI M302 54 14 := rfl
              have k329 : mI (sI M302 54 20 1) 54 15 = mI M302 54 15 := rfl
              have k330 : mI (sI M302 54 20 1) 54 16 = mI M302 54 16 := rfl
              have k331 : mI (sI M302 54 20 1) 54 18 = mI M302 54 18 := rfl
              have k332 : mI (sI M302 54 20 1) 54 19 = mI M302 54 19 := rfl
              have k333 : mI (sI M302 54 20 1) 54 20 = 1 := rfl
              have k334 : mI (sI M302 54 20 1) 54 21 = mI M302 54 21 := rfl
              have hz5 := congrFun kp323 5
              have hPI335 : PI (sI M302 54 20 1) S := PI.num (M := M) (o := 1) (v := x4) p0 (by omega) (by omega) (fun _ => ⟨by omega, by omega⟩) (kp305.trans h57) (kp306.trans h60) (by omega) (by omega) (by omega) (by omega) (by omega) (by omega) (by omega)
              have rt336 : RT g n (sI M302 54 20 1) (nx g n p) := RT.same rt320 (Fz.sI rfl) rfl rfl rfl rfl rfl
              have k60337 : mI (sI M302 54 20 1) 60 = mI M 60 := (show mI (sI M302 54 20 1) 60 = mI M302 60 from kp_sI rfl rfl).trans (kp306.trans h60)
              refine vc_cVU dX12_beginOne_95 (sfX12_settlePileF (M := (sI M302 54 20 1)) hB324.1  S 3 (by omega) (by omega) (by assumption) (by omega) (by omega)) rfl okX12_settlePile viX12_settlePile lkX12_211 (s_54 hB324.1.1) cl_12 rfl (Nat.le_of_ble_eq_true rfl) ⟨rfl, rfl⟩ (Nat.le_of_ble_eq_true rfl) (Nat.le_of_ble_eq_true rfl) (Nat.le_of_ble_eq_true rfl) ?_
              rintro M338 ⟨hB339, kp340, kp341, h342, h343, h344, h345, h346, h347, h348, h349, h350, h351, h352, h353, h354, h355, h356⟩
              have hB357 : BF fT M M338 := BF.go hB324 hB339
              have kp358 : mI M338 55 = mI M 55 := kp_go kp323 kp340
              have fr359 : ∀ j : Nat, (j : Int) < mI M 54 14 + 265 + 2 * S → mI M338 57 j = mI M 57 j := fun j hj => (h351 j (by omega)).trans (fr322 j hj)
              have hl2 := h342.len
              have hfin : Pl M338 = (stP 3 (Pl M)).2 ∧ Co M338 S = Co M S ++ ((1, x4) :: (stP 3 (Pl M)).1) := by
                have z := h354
                rw [show Pl (sI M302 54 20 1) = Pl M from (Pl.same (kp_sI rfl rfl) rfl).trans hplT, show Co (sI M302 54 20 1) S = _ from (Co.same (kp_sI rfl rfl) rfl rfl).trans hcoT, List.append_assoc] at z
                exact z
              have hSJn : SJ M338 (dm sk) := SJ.min (M := (sI M302 54 20 1)) (SI0.same hS.1 k60337 (by omega)) hPI335 kp341 (by omega) (by omega) h352 h353
              have rt360 : RT g n M338 (nx g n p) := RT.same rt336 hB339.2.2 (by omega) (by omega) (by omega) h355 h356
              refine vc_iconst dX12_beginOne_98 rfl ?_
              refine vc_iret dX12_beginOne_99 rfl (Nat.le_of_ble_eq_true rfl) (Nat.le_of_ble_eq_true rfl) ?_
              exact ⟨_, rfl, hB357, kp358, by omega, by omega, fun _ => h342, by omega, by omega, by omega, by omega, by omega, by omega, fr359, by omega, ⟨Or.inl ⟨rfl, _, _, hSJn, rt360, fun o z => r_nam hk1 hk2 hok (rn_t (h348.trans rfl) z)⟩, fun _ => ⟨_, ((1 : Int), tk g n p - 128) :: (stP 3 (Pl M)).1, rt360, (by have z := hfin.2; rw [hov] at z; exact z), fun c z => by rw [hfin.1, dcT (h348.trans rfl)] at z; exact c_nam hk1 hk2 z⟩⟩⟩
            · refine vc_aload_n dX12_beginOne_73 rfl ?_
              refine vc_getI dX12_beginOne_74 flX12_135 (s_54 hB0.1.1) rfl ?_
              refine vc_goto dX12_beginOne_77 ?_
              have hk1 : 128 ≤ tk g n p := by omega
              have hk2 : tk g n p ≤ 136 := by omega
              have hov : (mI M 54 12 : Int) = tk g n p - 128 := by omega
              have hok : okN w (tk g n p - 128) := by rw [show tk g n p - 128 = x4 by omega]; rcases hof with z | z; (exact z.2); (omega)
              refine vc_cVU dX12_beginOne_81 (sfX12_emitF (M := M) hB0.1  1 (mI M 54 12) (by omega) (by omega)) rfl okX12_emit viX12_emit lkX12_186 (s_54 hB0.1.1) cl_12 rfl (Nat.le_of_ble_eq_true rfl) ⟨rfl, rfl⟩ (Nat.le_of_ble_eq_true rfl) (Nat.le_of_ble_eq_true rfl) (Nat.le_of_ble_eq_true rfl) ?_
              rintro M361 ⟨hB362, kp363, kp364, h365, h366, h367, h368, h369, h370, h371, h372, h373, h374, h375, h376, h377, h378⟩
              have hB379 : BF fT M M361 := BF.go hB0 hB362
              have kp380 : mI M361 55 = mI M 55 := kp_go rfl kp363
              have h57 := h366
              have h60 := kp364
              have fr381 := fr_emit (A := M) (B := M) (t := mI M 54 14 + 265 + 2 * S) (by omega) (by omega) h57 (fun _ _ => rfl)
              have hcoE : Co M361 S = Co M S ++ [(1, mI M 54 12)] := h376 S p0.2.1 p0.2.2.1
              have hplE : Pl M361 = Pl M := Pl.same kp364 (by omega)
              refine vc_aload_n dX12_beginOne_84 rfl ?_
              have hgf := RT.gf hT hB379.2.2
              have hat0 := RT.at hT (by omega)
              have hrg0 := RT.rg hT
              refine vc_cVU dX12_beginOne_85 (sfX12_nextTokenF (M := M361) hB379.1   (by first | (rw [hgf.2.1]; omega) | omega) (by first | (rw [hgf.1]; exact hgf.2.2) | assumption)) rfl okX12_nextToken viX12_nextToken lkX12_193 (s_54 hB379.1.1) cl_12 rfl (Nat.le_of_ble_eq_true rfl) ⟨rfl, rfl⟩ (Nat.le_of_ble_eq_true rfl) (Nat.le_of_ble_eq_true rfl) (Nat.le_of_ble_eq_true rfl) ?_
              rintro M382 ⟨hB383, kp384, kp385, kp386, h387, h388, h389, h390, h391, h392, h393, h394, h395, h396, h397⟩
              have hB398 : BF fT M M382 := BF.go hB379 hB383.t
              have kp399 : mI M382 55 = mI M 55 := kp_go kp380 kp384
              have rt400 : RT g n M382 (nx g n p) := by
                have z := h397
                rw [hgf.1, hgf.2.1, show mI M361 54 9 = en g n p by first | omega | (show mI M361 54 9 = _; omega)] at z
                exact z
              clear hrg0
              have rg401 := RT.rg rt400
              have fr402 : ∀ j : Nat, (j : Int) < mI M 54 14 + 265 + 2 * S → mI M382 57 j = mI M 57 j := fun j hj => (congrFun kp385 j).trans (fr381 j hj)
              have hbx := b54_10 (M := M382) hB398.1
              have hcoT : Co M382 S = Co M S ++ [(1, mI M 54 12)] := (Co.same kp385 (by omega) (by omega)).trans hcoE
              have hplT : Pl M382 = Pl M := (Pl.same kp386 (by omega)).trans hplE
              refine vc_aload_n dX12_beginOne_88 rfl ?_
              refine vc_iconst dX12_beginOne_89 rfl ?_
              refine vc_putZ dX12_beginOne_90 (plX12_207 _ rfl) (s_54 hB398.1.1) rfl (by first | decide | omega) ?_
              have kp403 : mI (sI M382 54 20 1) 55 = mI M 55 := (kp_sI kp399 rfl)
              have hB404 : BF fT M (sI M382 54 20 1) := BF.w54_20 hB398 rfl
              refine vc_aload_n dX12_beginOne_93 rfl ?_
              refine vc_iconst dX12_beginOne_94 rfl ?_
              have k405 : mI (sI M382 54 20 1) 54 9 = mI M382 54 9 := rfl
              have k406 : mI (sI M382 54 20 1) 54 10 = mI M382 54 10 := rfl
              have k407 : mI (sI M382 54 20 1) 54 11 = mI M382 54 11 := rfl
              have k408 : mI (sI M382 54 20 1) 54 14 = mI M382 54 14 := rfl
              have k409 : mI (sI M382 54 20 1) 54 15 = mI M382 54 15 := rfl
              have k410 : mI (sI M382 54 20 1) 54 16 = mI M382 54 16 := rfl
              have k411 : mI (sI M382 54 20 1) 54 18 = mI M382 54 18 := rfl
              have k412 : mI (sI M382 54 20 1) 54 19 = mI M382 54 19 := rfl
              have k413 : mI (sI M382 54 20 1) 54 20 = 1 := rfl
              have k414 : mI (sI M382 54 20 1) 54 21 = mI M382 54 21 := rfl
              have hz5 := congrFun kp403 5
              have hPI415 : PI (sI M382 54 20 1) S := PI.num (M := M) (o := 1) (v := (mI M 54 12)) p0 (by omega) (by omega) (fun _ => ⟨by omega, by omega⟩) (kp385.trans h57) (kp386.trans h60) (by omega) (by omega) (by omega) (by omega) (by omega) (by omega) (by omega)
              have rt416 : RT g n (sI M382 54 20 1) (nx g n p) := RT.same rt400 (Fz.sI rfl) rfl rfl rfl rfl rfl
              have k60417 : mI (sI M382 54 20 1) 60 = mI M 60 := (show mI (sI M382 54 20 1) 60 = mI M382 60 from kp_sI rfl rfl).trans (kp386.trans h60)
              refine vc_cVU dX12_beginOne_95 (sfX12_settlePileF (M := (sI M382 54 20 1)) hB404.1  S 3 (by omega) (by omega) (by assumption) (by omega) (by omega)) rfl okX12_settlePile viX12_settlePile lkX12_211 (s_54 hB404.1.1) cl_12 rfl (Nat.le_of_ble_eq_true rfl) ⟨rfl, rfl⟩ (Nat.le_of_ble_eq_true rfl) (Nat.le_of_ble_eq_true rfl) (Nat.le_of_ble_eq_true rfl) ?_
              rintro M418 ⟨hB419, kp420, kp421, h422, h423, h424, h425, h426, h427, h428, h429, h430, h431, h432, h433, h434, h435, h436⟩
              have hB437 : BF fT M M418 := BF.go hB404 hB419
              have kp438 : mI M418 55 = mI M 55 := kp_go kp403 kp420
              have fr439 : ∀ j : Nat, (j : Int) < mI M 54 14 + 265 + 2 * S → mI M418 57 j = mI M 57 j := fun j hj => (h431 j (by omega)).trans (fr402 j hj)
              have hl2 := h422.len
              have hfin : Pl M418 = (stP 3 (Pl M)).2 ∧ Co M418 S = Co M S ++ ((1, mI M 54 12) :: (stP 3 (Pl M)).1) := by
                have z := h434
                rw [show Pl (sI M382 54 20 1) = Pl M from (Pl.same (kp_sI rfl rfl) rfl).trans hplT, show Co (sI M382 54 20 1) S = _ from (Co.same (kp_sI rfl rfl) rfl rfl).trans hcoT, List.append_assoc] at z
                exact z
              have hSJn : SJ M418 (dm sk) := SJ.min (M := (sI M382 54 20 1)) (SI0.same hS.1 k60417 (by omega)) hPI415 kp421 (by omega) (by omega) h432 h433
              have rt440 : RT g n M418 (nx g n p) := RT.same rt416 hB419.2.2 (by omega) (by omega) (by omega) h435 h436
              refine vc_iconst dX12_beginOne_98 rfl ?_
              refine vc_iret dX12_beginOne_99 rfl (Nat.le_of_ble_eq_true rfl) (Nat.le_of_ble_eq_true rfl) ?_
              exact ⟨_, rfl, hB437, kp438, by omega, by omega, fun _ => h422, by omega, by omega, by omega, by omega, by omega, by omega, fr439, by omega, ⟨Or.inl ⟨rfl, _, _, hSJn, rt440, fun o z => r_nam hk1 hk2 hok (rn_t (h428.trans rfl) z)⟩, fun _ => ⟨_, ((1 : Int), tk g n p - 128) :: (stP 3 (Pl M)).1, rt440, (by have z := hfin.2; rw [hov] at z; exact z), fun c z => by rw [hfin.1, dcT (h428.trans rfl)] at z; exact c_nam hk1 hk2 z⟩⟩⟩
          · refine vc_iconst dX12_beginOne_60 rfl ?_
            refine vc_goto dX12_beginOne_61 ?_
            refine vc_aload_n dX12_beginOne_65 rfl ?_
            refine vc_getI dX12_beginOne_66 flX12_129 (s_54 hB0.1.1) rfl ?_
            refine vc_iconst dX12_beginOne_69 rfl ?_
            refine vc_icmp_ne dX12_beginOne_70 (fun h441 => by exfalso; omega) (fun h441 => ?_)
            refine vc_aload_n dX12_beginOne_73 rfl ?_
            refine vc_getI dX12_beginOne_74 flX12_135 (s_54 hB0.1.1) rfl ?_
            refine vc_goto dX12_beginOne_77 ?_
            have hk1 : 1000 ≤ tk g n p := by omega
            have hk2 : tk g n p ≤ 10999 := by omega
            have hov : (mI M 54 12 : Int) = tk g n p - 1000 := by omega
            refine vc_cVU dX12_beginOne_81 (sfX12_emitF (M := M) hB0.1  0 (mI M 54 12) (by omega) (by omega)) rfl okX12_emit viX12_emit lkX12_186 (s_54 hB0.1.1) cl_12 rfl (Nat.le_of_ble_eq_true rfl) ⟨rfl, rfl⟩ (Nat.le_of_ble_eq_true rfl) (Nat.le_of_ble_eq_true rfl) (Nat.le_of_ble_eq_true rfl) ?_
            rintro M442 ⟨hB443, kp444, kp445, h446, h447, h448, h449, h450, h451, h452, h453, h454, h455, h456, h457, h458, h459⟩
            have hB460 : BF fT M M442 := BF.go hB0 hB443
            have kp461 : mI M442 55 = mI M 55 := kp_go rfl kp444
            have h57 := h447
            have h60 := kp445
            have fr462 := fr_emit (A := M) (B := M) (t := mI M 54 14 + 265 + 2 * S) (by omega) (by omega) h57 (fun _ _ => rfl)
            have hcoE : Co M442 S = Co M S ++ [(0, mI M 54 12)] := h457 S p0.2.1 p0.2.2.1
            have hplE : Pl M442 = Pl M := Pl.same kp445 (by omega)
            refine vc_aload_n dX12_beginOne_84 rfl ?_
            have hgf := RT.gf hT hB460.2.2
            have hat0 := RT.at hT (by omega)
            have hrg0 := RT.rg hT
            refine vc_cVU dX12_beginOne_85 (sfX12_nextTokenF (M := M442) hB460.1   (by first | (rw [hgf.2.1]; omega) | omega) (by first | (rw [hgf.1]; exact hgf.2.2) | assumption)) rfl okX12_nextToken viX12_nextToken lkX12_193 (s_54 hB460.1.1) cl_12 rfl (Nat.le_of_ble_eq_true rfl) ⟨rfl, rfl⟩ (Nat.le_of_ble_eq_true rfl) (Nat.le_of_ble_eq_true rfl) (Nat.le_of_ble_eq_true rfl) ?_
            rintro M463 ⟨hB464, kp465, kp466, kp467, h468, h469, h470, h471, h472, h473, h474, h475, h476, h477, h478⟩
            have hB479 : BF fT M M463 := BF.go hB460 hB464.t
            have kp480 : mI M463 55 = mI M 55 := kp_go kp461 kp465
            have rt481 : RT g n M463 (nx g n p) := by
              have z := h478
              rw [hgf.1, hgf.2.1, show mI M442 54 9 = en g n p by first | omega | (show mI M442 54 9 = _; omega)] at z
              exact z
            clear hrg0
            have rg482 := RT.rg rt481
            have fr483 : ∀ j : Nat, (j : Int) < mI M 54 14 + 265 + 2 * S → mI M463 57 j = mI M 57 j := fun j hj => (congrFun kp466 j).trans (fr462 j hj)
            have hbx := b54_10 (M := M463) hB479.1
            have hcoT : Co M463 S = Co M S ++ [(0, mI M 54 12)] := (Co.same kp466 (by omega) (by omega)).trans hcoE
            have hplT : Pl M463 = Pl M := (Pl.same kp467 (by omega)).trans hplE
            refine vc_aload_n dX12_beginOne_88 rfl ?_
            refine vc_iconst dX12_beginOne_89 rfl ?_
            refine vc_putZ dX12_beginOne_90 (plX12_207 _ rfl) (s_54 hB479.1.1) rfl (by first | decide | omega) ?_
            have kp484 : mI (sI M463 54 20 1) 55 = mI M 55 := (kp_sI kp480 rfl)
            have hB485 : BF fT M (sI M463 54 20 1) := BF.w54_20 hB479 rfl
            refine vc_aload_n dX12_beginOne_93 rfl ?_
            refine vc_iconst dX12_beginOne_94 rfl ?_
            have k486 : mI (sI M463 54 20 1) 54 9 = mI M463 54 9 := rfl
            have k487 : mI (sI M463 54 20 1) 54 10 = mI M463 54 10 := rfl
            have k488 : mI (sI M463 54 20 1) 54 11 = mI M463 54 11 := rfl
            have k489 : mI (sI M463 54 20 1) 54 14 = mI M463 54 14 := rfl
            have k490 : mI (sI M463 54 20 1) 54 15 = mI M463 54 15 := rfl
            have k491 : mI (sI M463 54 20 1) 54 16 = mI M463 54 16 := rfl
            have k492 : mI (sI M463 54 20 1) 54 18 = mI M463 54 18 := rfl
            have k493 : mI (sI M463 54 20 1) 54 19 = mI M463 54 19 := rfl
            have k494 : mI (sI M463 54 20 1) 54 20 = 1 := rfl
            have k495 : mI (sI M463 54 20 1) 54 21 = mI M463 54 21 := rfl
            have hz5 := congrFun kp484 5
            have hPI496 : PI (sI M463 54 20 1) S := PI.num (M := M) (o := 0) (v := (mI M 54 12)) p0 (by omega) (by omega) (fun h => absurd h (by decide)) (kp466.trans h57) (kp467.trans h60) (by omega) (by omega) (by omega) (by omega) (by omega) (by omega) (by omega)
            have rt497 : RT g n (sI M463 54 20 1) (nx g n p) := RT.same rt481 (Fz.sI rfl) rfl rfl rfl rfl rfl
            have k60498 : mI (sI M463 54 20 1) 60 = mI M 60 := (show mI (sI M463 54 20 1) 60 = mI M463 60 from kp_sI rfl rfl).trans (kp467.trans h60)
            refine vc_cVU dX12_beginOne_95 (sfX12_settlePileF (M := (sI M463 54 20 1)) hB485.1  S 3 (by omega) (by omega) (by assumption) (by omega) (by omega)) rfl okX12_settlePile viX12_settlePile lkX12_211 (s_54 hB485.1.1) cl_12 rfl (Nat.le_of_ble_eq_true rfl) ⟨rfl, rfl⟩ (Nat.le_of_ble_eq_true rfl) (Nat.le_of_ble_eq_true rfl) (Nat.le_of_ble_eq_true rfl) ?_
            rintro M499 ⟨hB500, kp501, kp502, h503, h504, h505, h506, h507, h508, h509, h510, h511, h512, h513, h514, h515, h516, h517⟩
            have hB518 : BF fT M M499 := BF.go hB485 hB500
            have kp519 : mI M499 55 = mI M 55 := kp_go kp484 kp501
            have fr520 : ∀ j : Nat, (j : Int) < mI M 54 14 + 265 + 2 * S → mI M499 57 j = mI M 57 j := fun j hj => (h512 j (by omega)).trans (fr483 j hj)
            have hl2 := h503.len
            have hfin : Pl M499 = (stP 3 (Pl M)).2 ∧ Co M499 S = Co M S ++ ((0, mI M 54 12) :: (stP 3 (Pl M)).1) := by
              have z := h515
              rw [show Pl (sI M463 54 20 1) = Pl M from (Pl.same (kp_sI rfl rfl) rfl).trans hplT, show Co (sI M463 54 20 1) S = _ from (Co.same (kp_sI rfl rfl) rfl rfl).trans hcoT, List.append_assoc] at z
              exact z
            have hSJn : SJ M499 (dm sk) := SJ.min (M := (sI M463 54 20 1)) (SI0.same hS.1 k60498 (by omega)) hPI496 kp502 (by omega) (by omega) h513 h514
            have rt521 : RT g n M499 (nx g n p) := RT.same rt497 hB500.2.2 (by omega) (by omega) (by omega) h516 h517
            refine vc_iconst dX12_beginOne_98 rfl ?_
            refine vc_iret dX12_beginOne_99 rfl (Nat.le_of_ble_eq_true rfl) (Nat.le_of_ble_eq_true rfl) ?_
            exact ⟨_, rfl, hB518, kp519, by omega, by omega, fun _ => h503, by omega, by omega, by omega, by omega, by omega, by omega, fr520, by omega, ⟨Or.inl ⟨rfl, _, _, hSJn, rt521, fun o z => r_num hk1 hk2 (rn_t (h509.trans rfl) z)⟩, fun _ => ⟨_, ((0 : Int), tk g n p - 1000) :: (stP 3 (Pl M)).1, rt521, (by have z := hfin.2; rw [hov] at z; exact z), fun c z => by rw [hfin.1, dcT (h509.trans rfl)] at z; exact c_num hk1 z⟩⟩⟩
      · refine vc_iconst dX12_beginOne_37 rfl ?_
        refine vc_iret dX12_beginOne_38 rfl (Nat.le_of_ble_eq_true rfl) (Nat.le_of_ble_eq_true rfl) ?_
        exact ⟨_, rfl, hB0, rfl, by omega, by omega, fun h => absurd h (by decide), by omega, by omega, by omega, by omega, by omega, by omega, (fun _ _ => rfl), by omega, ⟨Or.inr ⟨by decide, by rw [show mI M 54 10 = p by omega]; exact r_bad (by omega) (by omega) (by rw [show tk g n p - 128 = x4 by omega]; rcases hof with z | z; (omega); (exact z.2))⟩, fun h => absurd h (by decide)⟩⟩
  · refine vc_aload_n dX12_beginOne_8 rfl ?_
    refine vc_getI dX12_beginOne_9 flX12_135 (s_54 hB0.1.1) rfl ?_
    refine vc_sipush dX12_beginOne_12 rfl ?_
    refine vc_icmp_le dX12_beginOne_15 (fun h522 => ?_) (fun h522 => ?_)
    · refine vc_aload_n dX12_beginOne_20 rfl ?_
      refine vc_cVI dX12_beginOne_21 (sfX12_nameOfF (M := M) hB0.1  g n p hT ) rfl okX12_nameOf viX12_nameOf lkX12_200 (s_54 hB0.1.1) cl_12 rfl (Nat.le_of_ble_eq_true rfl) ⟨rfl, rfl⟩ (Nat.le_of_ble_eq_true rfl) (Nat.le_of_ble_eq_true rfl) (Nat.le_of_ble_eq_true rfl) ?_
      rintro x523 _ ⟨rfl, h524, h525, h526, h527⟩
      have hnmf := h527
      refine vc_istore_n dX12_beginOne_24 (by decide) rfl (show _ = [some (aR 54), some (aI x523)] from rfl) ?_
      refine vc_iload_n dX12_beginOne_25 rfl ?_
      refine vc_if_lt dX12_beginOne_26 (fun h528 => ?_) (fun h528 => ?_)
      · refine vc_aload_n dX12_beginOne_39 rfl ?_
        refine vc_getI dX12_beginOne_40 flX12_129 (s_54 hB0.1.1) rfl ?_
        refine vc_iconst dX12_beginOne_43 rfl ?_
        refine vc_icmp_eq dX12_beginOne_44 (fun h529 => ?_) (fun h529 => by exfalso; omega)
        refine vc_aload_n dX12_beginOne_51 rfl ?_
        refine vc_aload_n dX12_beginOne_52 rfl ?_
        refine vc_getI dX12_beginOne_53 flX12_129 (s_54 hB0.1.1) rfl ?_
        refine vc_iconst dX12_beginOne_56 rfl ?_
        refine vc_icmp_ne dX12_beginOne_57 (fun h530 => by exfalso; omega) (fun h530 => ?_)
        refine vc_iconst dX12_beginOne_60 rfl ?_
        refine vc_goto dX12_beginOne_61 ?_
        refine vc_aload_n dX12_beginOne_65 rfl ?_
        refine vc_getI dX12_beginOne_66 flX12_129 (s_54 hB0.1.1) rfl ?_
        refine vc_iconst dX12_beginOne_69 rfl ?_
        refine vc_icmp_ne dX12_beginOne_70 (fun h531 => by exfalso; omega) (fun h531 => ?_)
        refine vc_aload_n dX12_beginOne_73 rfl ?_
        refine vc_getI dX12_beginOne_74 flX12_135 (s_54 hB0.1.1) rfl ?_
        refine vc_goto dX12_beginOne_77 ?_
        have hk1 : 1000 ≤ tk g n p := by omega
        have hk2 : tk g n p ≤ 10999 := by omega
        have hov : (mI M 54 12 : Int) = tk g n p - 1000 := by omega
        refine vc_cVU dX12_beginOne_81 (sfX12_emitF (M := M) hB0.1  0 (mI M 54 12) (by omega) (by omega)) rfl okX12_emit viX12_emit lkX12_186 (s_54 hB0.1.1) cl_12 rfl (Nat.le_of_ble_eq_true rfl) ⟨rfl, rfl⟩ (Nat.le_of_ble_eq_true rfl) (Nat.le_of_ble_eq_true rfl) (Nat.le_of_ble_eq_true rfl) ?_
        rintro M532 ⟨hB533, kp534, kp535, h536, h537, h538, h539, h540, h541, h542, h543, h544, h545, h546, h547, h548, h549⟩
        have hB550 : BF fT M M532 := BF.go hB0 hB533
        have kp551 : mI M532 55 = mI M 55 := kp_go rfl kp534
        have h57 := h537
        have h60 := kp535
        have fr552 := fr_emit (A := M) (B := M) (t := mI M 54 14 + 265 + 2 * S) (by omega) (by omega) h57 (fun _ _ => rfl)
        have hcoE : Co M532 S = Co M S ++ [(0, mI M 54 12)] := h547 S p0.2.1 p0.2.2.1
        have hplE : Pl M532 = Pl M := Pl.same kp535 (by omega)
        refine vc_aload_n dX12_beginOne_84 rfl ?_
        have hgf := RT.gf hT hB550.2.2
        have hat0 := RT.at hT (by omega)
        have hrg0 := RT.rg hT
        refine vc_cVU dX12_beginOne_85 (sfX12_nextTokenF (M := M532) hB550.1   (by first | (rw [hgf.2.1]; omega) | omega) (by first | (rw [hgf.1]; exact hgf.2.2) | assumption)) rfl okX12_nextToken viX12_nextToken lkX12_193 (s_54 hB550.1.1) cl_12 rfl (Nat.le_of_ble_eq_true rfl) ⟨rfl, rfl⟩ (Nat.le_of_ble_eq_true rfl) (Nat.le_of_ble_eq_true rfl) (Nat.le_of_ble_eq_true rfl) ?_
        rintro M553 ⟨hB554, kp555, kp556, kp557, h558, h559, h560, h561, h562, h563, h564, h565, h566, h567, h568⟩
        have hB569 : BF fT M M553 := BF.go hB550 hB554.t
        have kp570 : mI M553 55 = mI M 55 := kp_go kp551 kp555
        have rt571 : RT g n M553 (nx g n p) := by
          have z := h568
          rw [hgf.1, hgf.2.1, show mI M532 54 9 = en g n p by first | omega | (show mI M532 54 9 = _; omega)] at z
          exact z
        clear hrg0
        have rg572 := RT.rg rt571
        have fr573 : ∀ j : Nat, (j : Int) < mI M 54 14 + 265 + 2 * S → mI M553 57 j = mI M 57 j := fun j hj => (congrFun kp556 j).trans (fr552 j hj)
        have hbx := b54_10 (M := M553) hB569.1
        have hcoT : Co M553 S = Co M S ++ [(0, mI M 54 12)] := (Co.same kp556 (by omega) (by omega)).trans hcoE
        have hplT : Pl M553 = Pl M := (Pl.same kp557 (by omega)).trans hplE
        refine vc_aload_n dX12_beginOne_88 rfl ?_
        refine vc_iconst dX12_beginOne_89 rfl ?_
        refine vc_putZ dX12_beginOne_90 (plX12_207 _ rfl) (s_54 hB569.1.1) rfl (by first | decide | omega) ?_
        have kp574 : mI (sI M553 54 20 1) 55 = mI M 55 := (kp_sI kp570 rfl)
        have hB575 : BF fT M (sI M553 54 20 1) := BF.w54_20 hB569 rfl
        refine vc_aload_n dX12_beginOne_93 rfl ?_
        refine vc_iconst dX12_beginOne_94 rfl ?_
        have k576 : mI (sI M553 54 20 1) 54 9 = mI M553 54 9 := rfl
        have k577 : mI (sI M553 54 20 1) 54 10 = mI M553 54 10 := rfl
        have k578 : mI (sI M553 54 20 1) 54 11 = mI M553 54 11 := rfl
        have k579 : mI (sI M553 54 20 1) 54 14 = mI M553 54 14 := rfl
        have k580 : mI (sI M553 54 20 1) 54 15 = mI M553 54 15 := rfl
        have k581 : mI (sI M553 54 20 1) 54 16 = mI M553 54 16 := rfl
        have k582 : mI (sI M553 54 20 1) 54 18 = mI M553 54 18 := rfl
        have k583 : mI (sI M553 54 20 1) 54 19 = mI M553 54 19 := rfl
        have k584 : mI (sI M553 54 20 1) 54 20 = 1 := rfl
        have k585 : mI (sI M553 54 20 1) 54 21 = mI M553 54 21 := rfl
        have hz5 := congrFun kp574 5
        have hPI586 : PI (sI M553 54 20 1) S := PI.num (M := M) (o := 0) (v := (mI M 54 12)) p0 (by omega) (by omega) (fun h => absurd h (by decide)) (kp556.trans h57) (kp557.trans h60) (by omega) (by omega) (by omega) (by omega) (by omega) (by omega) (by omega)
        have rt587 : RT g n (sI M553 54 20 1) (nx g n p) := RT.same rt571 (Fz.sI rfl) rfl rfl rfl rfl rfl
        have k60588 : mI (sI M553 54 20 1) 60 = mI M 60 := (show mI (sI M553 54 20 1) 60 = mI M553 60 from kp_sI rfl rfl).trans (kp557.trans h60)
        refine vc_cVU dX12_beginOne_95 (sfX12_settlePileF (M := (sI M553 54 20 1)) hB575.1  S 3 (by omega) (by omega) (by assumption) (by omega) (by omega)) rfl okX12_settlePile viX12_settlePile lkX12_211 (s_54 hB575.1.1) cl_12 rfl (Nat.le_of_ble_eq_true rfl) ⟨rfl, rfl⟩ (Nat.le_of_ble_eq_true rfl) (Nat.le_of_ble_eq_true rfl) (Nat.le_of_ble_eq_true rfl) ?_
        rintro M589 ⟨hB590, kp591, kp592, h593, h594, h595, h596, h597, h598, h599, h600, h601, h602, h603, h604, h605, h606, h607⟩
        have hB608 : BF fT M M589 := BF.go hB575 hB590
        have kp609 : mI M589 55 = mI M 55 := kp_go kp574 kp591
        have fr610 : ∀ j : Nat, (j : Int) < mI M 54 14 + 265 + 2 * S → mI M589 57 j = mI M 57 j := fun j hj => (h602 j (by omega)).trans (fr573 j hj)
        have hl2 := h593.len
        have hfin : Pl M589 = (stP 3 (Pl M)).2 ∧ Co M589 S = Co M S ++ ((0, mI M 54 12) :: (stP 3 (Pl M)).1) := by
          have z := h605
          rw [show Pl (sI M553 54 20 1) = Pl M from (Pl.same (kp_sI rfl rfl) rfl).trans hplT, show Co (sI M553 54 20 1) S = _ from (Co.same (kp_sI rfl rfl) rfl rfl).trans hcoT, List.append_assoc] at z
          exact z
        have hSJn : SJ M589 (dm sk) := SJ.min (M := (sI M553 54 20 1)) (SI0.same hS.1 k60588 (by omega)) hPI586 kp592 (by omega) (by omega) h603 h604
        have rt611 : RT g n M589 (nx g n p) := RT.same rt587 hB590.2.2 (by omega) (by omega) (by omega) h606 h607
        refine vc_iconst dX12_beginOne_98 rfl ?_
        refine vc_iret dX12_beginOne_99 rfl (Nat.le_of_ble_eq_true rfl) (Nat.le_of_ble_eq_true rfl) ?_
        exact ⟨_, rfl, hB608, kp609, by omega, by omega, fun _ => h593, by omega, by omega, by omega, by omega, by omega, by omega, fr610, by omega, ⟨Or.inl ⟨rfl, _, _, hSJn, rt611, fun o z => r_num hk1 hk2 (rn_t (h599.trans rfl) z)⟩, fun _ => ⟨_, ((0 : Int), tk g n p - 1000) :: (stP 3 (Pl M)).1, rt611, (by have z := hfin.2; rw [hov] at z; exact z), fun c z => by rw [hfin.1, dcT (h599.trans rfl)] at z; exact c_num hk1 z⟩⟩⟩
      · refine vc_aload_n dX12_beginOne_29 rfl ?_
        refine vc_iload_n dX12_beginOne_30 rfl ?_
        refine vc_cVI dX12_beginOne_31 (sfX12_isOfF (M := M) hB0.1  x523 (by omega) (by omega) (by omega) (by omega)) rfl okX12_isOf viX12_isOf lkX12_204 (s_54 hB0.1.1) cl_12 rfl (Nat.le_of_ble_eq_true rfl) ⟨rfl, rfl⟩ (Nat.le_of_ble_eq_true rfl) (Nat.le_of_ble_eq_true rfl) (Nat.le_of_ble_eq_true rfl) ?_
        rintro x612 _ ⟨rfl, h613, h614, h615⟩
        have hof := h615
        rw [p5] at hof
        refine vc_if_ne dX12_beginOne_34 (fun h616 => ?_) (fun h616 => ?_)
        · refine vc_aload_n dX12_beginOne_39 rfl ?_
          refine vc_getI dX12_beginOne_40 flX12_129 (s_54 hB0.1.1) rfl ?_
          refine vc_iconst dX12_beginOne_43 rfl ?_
          refine vc_icmp_eq dX12_beginOne_44 (fun h617 => ?_) (fun h617 => by exfalso; omega)
          refine vc_aload_n dX12_beginOne_51 rfl ?_
          refine vc_aload_n dX12_beginOne_52 rfl ?_
          refine vc_getI dX12_beginOne_53 flX12_129 (s_54 hB0.1.1) rfl ?_
          refine vc_iconst dX12_beginOne_56 rfl ?_
          refine vc_icmp_ne dX12_beginOne_57 (fun h618 => by exfalso; omega) (fun h618 => ?_)
          refine vc_iconst dX12_beginOne_60 rfl ?_
          refine vc_goto dX12_beginOne_61 ?_
          refine vc_aload_n dX12_beginOne_65 rfl ?_
          refine vc_getI dX12_beginOne_66 flX12_129 (s_54 hB0.1.1) rfl ?_
          refine vc_iconst dX12_beginOne_69 rfl ?_
          refine vc_icmp_ne dX12_beginOne_70 (fun h619 => by exfalso; omega) (fun h619 => ?_)
          refine vc_aload_n dX12_beginOne_73 rfl ?_
          refine vc_getI dX12_beginOne_74 flX12_135 (s_54 hB0.1.1) rfl ?_
          refine vc_goto dX12_beginOne_77 ?_
          have hk1 : 1000 ≤ tk g n p := by omega
          have hk2 : tk g n p ≤ 10999 := by omega
          have hov : (mI M 54 12 : Int) = tk g n p - 1000 := by omega
          refine vc_cVU dX12_beginOne_81 (sfX12_emitF (M := M) hB0.1  0 (mI M 54 12) (by omega) (by omega)) rfl okX12_emit viX12_emit lkX12_186 (s_54 hB0.1.1) cl_12 rfl (Nat.le_of_ble_eq_true rfl) ⟨rfl, rfl⟩ (Nat.le_of_ble_eq_true rfl) (Nat.le_of_ble_eq_true rfl) (Nat.le_of_ble_eq_true rfl) ?_
          rintro M620 ⟨hB621, kp622, kp623, h624, h625, h626, h627, h628, h629, h630, h631, h632, h633, h634, h635, h636, h637⟩
          have hB638 : BF fT M M620 := BF.go hB0 hB621
          have kp639 : mI M620 55 = mI M 55 := kp_go rfl kp622
          have h57 := h625
          have h60 := kp623
          have fr640 := fr_emit (A := M) (B := M) (t := mI M 54 14 + 265 + 2 * S) (by omega) (by omega) h57 (fun _ _ => rfl)
          have hcoE : Co M620 S = Co M S ++ [(0, mI M 54 12)] := h635 S p0.2.1 p0.2.2.1
          have hplE : Pl M620 = Pl M := Pl.same kp623 (by omega)
          refine vc_aload_n dX12_beginOne_84 rfl ?_
          have hgf := RT.gf hT hB638.2.2
          have hat0 := RT.at hT (by omega)
          have hrg0 := RT.rg hT
          refine vc_cVU dX12_beginOne_85 (sfX12_nextTokenF (M := M620) hB638.1   (by first | (rw [hgf.2.1]; omega) | omega) (by first | (rw [hgf.1]; exact hgf.2.2) | assumption)) rfl okX12_nextToken viX12_nextToken lkX12_193 (s_54 hB638.1.1) cl_12 rfl (Nat.le_of_ble_eq_true rfl) ⟨rfl, rfl⟩ (Nat.le_of_ble_eq_true rfl) (Nat.le_of_ble_eq_true rfl) (Nat.le_of_ble_eq_true rfl) ?_
          rintro M641 ⟨hB642, kp643, kp644, kp645, h646, h647, h648, h649, h650, h651, h652, h653, h654, h655, h656⟩
          have hB657 : BF fT M M641 := BF.go hB638 hB642.t
          have kp658 : mI M641 55 = mI M 55 := kp_go kp639 kp643
          have rt659 : RT g n M641 (nx g n p) := by
            have z := h656
            rw [hgf.1, hgf.2.1, show mI M620 54 9 = en g n p by first | omega | (show mI M620 54 9 = _; omega)] at z
            exact z
          clear hrg0
          have rg660 := RT.rg rt659
          have fr661 : ∀ j : Nat, (j : Int) < mI M 54 14 + 265 + 2 * S → mI M641 57 j = mI M 57 j := fun j hj => (congrFun kp644 j).trans (fr640 j hj)
          have hbx := b54_10 (M := M641) hB657.1
          have hcoT : Co M641 S = Co M S ++ [(0, mI M 54 12)] := (Co.same kp644 (by omega) (by omega)).trans hcoE
          have hplT : Pl M641 = Pl M := (Pl.same kp645 (by omega)).trans hplE
          refine vc_aload_n dX12_beginOne_88 rfl ?_
          refine vc_iconst dX12_beginOne_89 rfl ?_
          refine vc_putZ dX12_beginOne_90 (plX12_207 _ rfl) (s_54 hB657.1.1) rfl (by first | decide | omega) ?_
          have kp662 : mI (sI M641 54 20 1) 55 = mI M 55 := (kp_sI kp658 rfl)
          have hB663 : BF fT M (sI M641 54 20 1) := BF.w54_20 hB657 rfl
          refine vc_aload_n dX12_beginOne_93 rfl ?_
          refine vc_iconst dX12_beginOne_94 rfl ?_
          have k664 : mI (sI M641 54 20 1) 54 9 = mI M641 54 9 := rfl
          have k665 : mI (sI M641 54 20 1) 54 10 = mI M641 54 10 := rfl
          have k666 : mI (sI M641 54 20 1) 54 11 = mI M641 54 11 := rfl
          have k667 : mI (sI M641 54 20 1) 54 14 = mI M641 54 14 := rfl
          have k668 : mI (sI M641 54 20 1) 54 15 = mI M641 54 15 := rfl
          have k669 : mI (sI M641 54 20 1) 54 16 = mI M641 54 16 := rfl
          have k670 : mI (sI M641 54 20 1) 54 18 = mI M641 54 18 := rfl
          have k671 : mI (sI M641 54 20 1) 54 19 = mI M641 54 19 := rfl
          have k672 : mI (sI M641 54 20 1) 54 20 = 1 := rfl
          have k673 : mI (sI M641 54 20 1) 54 21 = mI M641 54 21 := rfl
          have hz5 := congrFun kp662 5
          have hPI674 : PI (sI M641 54 20 1) S := PI.num (M := M) (o := 0) (v := (mI M 54 12)) p0 (by omega) (by omega) (fun h => absurd h (by decide)) (kp644.trans h57) (kp645.trans h60) (by omega) (by omega) (by omega) (by omega) (by omega) (by omega) (by omega)
          have rt675 : RT g n (sI M641 54 20 1) (nx g n p) := RT.same rt659 (Fz.sI rfl) rfl rfl rfl rfl rfl
          have k60676 : mI (sI M641 54 20 1) 60 = mI M 60 := (show mI (sI M641 54 20 1) 60 = mI M641 60 from kp_sI rfl rfl).trans (kp645.trans h60)
          refine vc_cVU dX12_beginOne_95 (sfX12_settlePileF (M := (sI M641 54 20 1)) hB663.1  S 3 (by omega) (by omega) (by assumption) (by omega) (by omega)) rfl okX12_settlePile viX12_settlePile lkX12_211 (s_54 hB663.1.1) cl_12 rfl (Nat.le_of_ble_eq_true rfl) ⟨rfl, rfl⟩ (Nat.le_of_ble_eq_true rfl) (Nat.le_of_ble_eq_true rfl) (Nat.le_of_ble_eq_true rfl) ?_
          rintro M677 ⟨hB678, kp679, kp680, h681, h682, h683, h684, h685, h686, h687, h688, h689, h690, h691, h692, h693, h694, h695⟩
          have hB696 : BF fT M M677 := BF.go hB663 hB678
          have kp697 : mI M677 55 = mI M 55 := kp_go kp662 kp679
          have fr698 : ∀ j : Nat, (j : Int) < mI M 54 14 + 265 + 2 * S → mI M677 57 j = mI M 57 j := fun j hj => (h690 j (by omega)).trans (fr661 j hj)
          have hl2 := h681.len
          have hfin : Pl M677 = (stP 3 (Pl M)).2 ∧ Co M677 S = Co M S ++ ((0, mI M 54 12) :: (stP 3 (Pl M)).1) := by
            have z := h693
            rw [show Pl (sI M641 54 20 1) = Pl M from (Pl.same (kp_sI rfl rfl) rfl).trans hplT, show Co (sI M641 54 20 1) S = _ from (Co.same (kp_sI rfl rfl) rfl rfl).trans hcoT, List.append_assoc] at z
            exact z
          have hSJn : SJ M677 (dm sk) := SJ.min (M := (sI M641 54 20 1)) (SI0.same hS.1 k60676 (by omega)) hPI674 kp680 (by omega) (by omega) h691 h692
          have rt699 : RT g n M677 (nx g n p) := RT.same rt675 hB678.2.2 (by omega) (by omega) (by omega) h694 h695
          refine vc_iconst dX12_beginOne_98 rfl ?_
          refine vc_iret dX12_beginOne_99 rfl (Nat.le_of_ble_eq_true rfl) (Nat.le_of_ble_eq_true rfl) ?_
          exact ⟨_, rfl, hB696, kp697, by omega, by omega, fun _ => h681, by omega, by omega, by omega, by omega, by omega, by omega, fr698, by omega, ⟨Or.inl ⟨rfl, _, _, hSJn, rt699, fun o z => r_num hk1 hk2 (rn_t (h687.trans rfl) z)⟩, fun _ => ⟨_, ((0 : Int), tk g n p - 1000) :: (stP 3 (Pl M)).1, rt699, (by have z := hfin.2; rw [hov] at z; exact z), fun c z => by rw [hfin.1, dcT (h687.trans rfl)] at z; exact c_num hk1 z⟩⟩⟩
        · refine vc_iconst dX12_beginOne_37 rfl ?_
          refine vc_iret dX12_beginOne_38 rfl (Nat.le_of_ble_eq_true rfl) (Nat.le_of_ble_eq_true rfl) ?_
          exact ⟨_, rfl, hB0, rfl, by omega, by omega, fun h => absurd h (by decide), by omega, by omega, by omega, by omega, by omega, by omega, (fun _ _ => rfl), by omega, ⟨Or.inr ⟨by decide, by rw [show mI M 54 10 = p by omega]; exact r_bad (by omega) (by omega) (by rw [show tk g n p - 128 = x523 by omega]; rcases hof with z | z; (omega); (exact z.2))⟩, fun h => absurd h (by decide)⟩⟩
    · refine vc_iconst dX12_beginOne_18 rfl ?_
      refine vc_iret dX12_beginOne_19 rfl (Nat.le_of_ble_eq_true rfl) (Nat.le_of_ble_eq_true rfl) ?_
      exact ⟨_, rfl, hB0, rfl, by omega, by omega, fun h => absurd h (by decide), by omega, by omega, by omega, by omega, by omega, by omega, (fun _ _ => rfl), by omega, ⟨Or.inr ⟨by decide, by rw [show mI M 54 10 = p by omega]; exact r_big (by omega)⟩, fun h => absurd h (by decide)⟩⟩
