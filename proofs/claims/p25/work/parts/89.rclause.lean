/-! CONTRACTS of the reference: its reader, tellings, laws, clauses and texts (written by wip/p35/c89.py) -/
set_option maxRecDepth 4000 in
theorem sfX12_tellingClause {l : Launch} {M : Mem} (hB : Box M)  (x : Int) (p0 : 1 ≤ x) (p1 : x ≤ 2873) (p2 : mI M 54 14 = 873 * mI M 55 5) (p3 : mI M 54 14 + 1 ≤ x) (p4 : mI M 54 10 ≤ mI M 54 9) (p5 : mI M 54 11 = 0 ∨ mI M 54 10 < mI M 54 9) : Call l mdX12_tellingClause [aR 54, aI x] M (fun q N => ∃ r : Int, q = some (aI r) ∧ BF fT M N ∧ mI N 55 = mI M 55 ∧ 0 ≤ r ∧ r ≤ 7 ∧ (r ≠ 0 ∨ (1 ≤ mI N 57 (x + 3).toNat ∧ mI N 57 (x + 3).toNat ≤ 6 ∧ 0 ≤ mI N 57 (x + 2).toNat ∧ mI N 57 (x + 2).toNat ≤ 3)) ∧ mI N 54 10 ≤ mI N 54 9 ∧ (mI N 54 11 = 0 ∨ mI N 54 10 < mI N 54 9) ∧ mI M 54 10 ≤ mI N 54 10 ∧ mI N 54 14 = mI M 54 14 ∧ mI N 54 15 = mI M 54 15 ∧ mI N 54 16 = mI M 54 16 ∧ mI N 54 18 = mI M 54 18 ∧ mI N 54 19 = mI M 54 19 ∧ mI N 54 20 = mI M 54 20 ∧ mI N 54 21 = mI M 54 21 ∧ (∀ j : Nat, ((j : Int) ≤ x ∨ x + 11 ≤ j) → mI N 57 j = mI M 57 j)) := by
  have hB0 : BF fT M M := BF.start hB
  refine Call.of [some (aR 54), some (aI x), none, none] rfl (Nat.le_of_ble_eq_true rfl) rfl ?_
  refine vc_aload_n dX12_tellingClause_0 rfl ?_
  refine vc_iload_n dX12_tellingClause_1 rfl ?_
  refine vc_iconst dX12_tellingClause_2 rfl ?_
  refine vc_iaddE dX12_tellingClause_3 (by omega) (by omega) ?_
  refine vc_iconst dX12_tellingClause_4 rfl ?_
  refine vc_iconst dX12_tellingClause_5 rfl ?_
  refine vc_cVI dX12_tellingClause_6 (sfX12_figure (M := M) hB0.1  (x + 1) 0 5 (by omega) (by omega) (by omega) (by omega) (by omega)) rfl okX12_figure viX12_figure lkX12_229 (s_54 hB0.1.1) cl_12 rfl (Nat.le_of_ble_eq_true rfl) ⟨rfl, rfl⟩ (Nat.le_of_ble_eq_true rfl) (Nat.le_of_ble_eq_true rfl) (Nat.le_of_ble_eq_true rfl) ?_
  rintro x1 M2 ⟨hB3, kp4, h5, h6, h7, h8, h9, h10, h11, h12, h13, h14, h15, h16, h17, h18⟩
  have hB19 : BF fT M M2 := BF.go hB0 hB3
  have kp20 : mI M2 55 = mI M 55 := kp_go rfl kp4
  have fr21 : ∀ j : Nat, ((j : Int) ≤ x ∨ x + 11 ≤ j) → mI M2 57 j = mI M 57 j := fun j hj => (h18 j (by omega)).trans ((fun _ _ => rfl) j hj)
  refine vc_istore_n dX12_tellingClause_9 (by decide) rfl (show _ = [some (aR 54), some (aI x), some (aI x1), none] from rfl) ?_
  refine vc_iload_n dX12_tellingClause_10 rfl ?_
  refine vc_if_ne dX12_tellingClause_11 (fun h22 => ?_) (fun h22 => ?_)
  · refine vc_iload_n dX12_tellingClause_39 rfl ?_
    refine vc_if_eq dX12_tellingClause_40 (fun h23 => by exfalso; omega) (fun h23 => ?_)
    refine vc_iload_n dX12_tellingClause_43 rfl ?_
    refine vc_iret dX12_tellingClause_44 rfl (Nat.le_of_ble_eq_true rfl) (Nat.le_of_ble_eq_true rfl) ?_
    exact ⟨_, rfl, hB19, kp20, by omega, by omega, by omega, by omega, by omega, by omega, by omega, by omega, by omega, by omega, by omega, by omega, by omega, fr21⟩
  · refine vc_aload_n dX12_tellingClause_14 rfl ?_
    refine vc_bipush dX12_tellingClause_15 rfl ?_
    refine vc_bipush dX12_tellingClause_17 rfl ?_
    refine vc_bipush dX12_tellingClause_19 rfl ?_
    refine vc_bipush dX12_tellingClause_21 rfl ?_
    refine vc_bipush dX12_tellingClause_23 rfl ?_
    refine vc_bipush dX12_tellingClause_25 rfl ?_
    refine vc_cSL dX12_tellingClause_27 (sfX12_w6 (M := M2) hB19.1  102 97 99 105 110 103 ) rfl okX12_w6 stX12_w6 lkX12_173 rfl (Nat.le_of_ble_eq_true rfl) ⟨rfl, rfl⟩ (Nat.le_of_ble_eq_true rfl) (Nat.le_of_ble_eq_true rfl) (Nat.le_of_ble_eq_true rfl) ?_
    rintro x24 _ rfl
    refine vc_iload_n dX12_tellingClause_30 rfl ?_
    refine vc_iconst dX12_tellingClause_31 rfl ?_
    refine vc_iaddE dX12_tellingClause_32 (by omega) (by omega) ?_
    refine vc_iconst dX12_tellingClause_33 rfl ?_
    refine vc_iconst dX12_tellingClause_34 rfl ?_
    have hz5 := congrFun kp20 5
    refine vc_cVI dX12_tellingClause_35 (sfX12_worded (M := M2) hB19.1  x24 (x + 2) 0 3 (by omega) (by omega) (by omega) (by omega) (by omega)) rfl okX12_worded viX12_worded lkX12_233 (s_54 hB19.1.1) cl_12 rfl (Nat.le_of_ble_eq_true rfl) ⟨rfl, rfl⟩ (Nat.le_of_ble_eq_true rfl) (Nat.le_of_ble_eq_true rfl) (Nat.le_of_ble_eq_true rfl) ?_
    rintro x25 M26 ⟨hB27, kp28, h29, h30, h31, h32, h33, h34, h35, h36, h37, h38, h39, h40, h41, h42⟩
    have hB43 : BF fT M M26 := BF.go hB19 hB27
    have kp44 : mI M26 55 = mI M 55 := kp_go kp20 kp28
    have fr45 : ∀ j : Nat, ((j : Int) ≤ x ∨ x + 11 ≤ j) → mI M26 57 j = mI M 57 j := fun j hj => (h42 j (by omega)).trans (fr21 j hj)
    refine vc_istore_n dX12_tellingClause_38 (by decide) rfl (show _ = [some (aR 54), some (aI x), some (aI x25), none] from rfl) ?_
    refine vc_iload_n dX12_tellingClause_39 rfl ?_
    refine vc_if_eq dX12_tellingClause_40 (fun h46 => ?_) (fun h46 => ?_)
    · refine vc_aload_n dX12_tellingClause_45 rfl ?_
      refine vc_getI dX12_tellingClause_46 flX12_129 (s_54 hB43.1.1) rfl ?_
      refine vc_bipush dX12_tellingClause_49 rfl ?_
      refine vc_icmp_eq dX12_tellingClause_51 (fun h47 => ?_) (fun h47 => ?_)
      · refine vc_aload_n dX12_tellingClause_56 rfl ?_
        refine vc_cVU dX12_tellingClause_57 (sfX12_nextToken (M := M26) hB43.1   ) rfl okX12_nextToken viX12_nextToken lkX12_193 (s_54 hB43.1.1) cl_12 rfl (Nat.le_of_ble_eq_true rfl) ⟨rfl, rfl⟩ (Nat.le_of_ble_eq_true rfl) (Nat.le_of_ble_eq_true rfl) (Nat.le_of_ble_eq_true rfl) ?_
        rintro M48 ⟨hB49, kp50, kp51, kp52, h53, h54, h55, h56, h57, h58, h59, h60, h61, h62⟩
        have hB63 : BF fT M M48 := BF.go hB43 hB49.t
        have kp64 : mI M48 55 = mI M 55 := kp_go kp44 kp50
        have fr65 : ∀ j : Nat, ((j : Int) ≤ x ∨ x + 11 ≤ j) → mI M48 57 j = mI M 57 j := fun j hj => (congrFun kp51 j).trans (fr45 j hj)
        have hq2 := congrFun kp51 (x + 2).toNat
        have hq3 := congrFun kp51 (x + 3).toNat
        refine vc_aload_n dX12_tellingClause_60 rfl ?_
        refine vc_iload_n dX12_tellingClause_61 rfl ?_
        refine vc_iconst dX12_tellingClause_62 rfl ?_
        have hz5 := congrFun kp64 5
        refine vc_cVI dX12_tellingClause_63 (sfX12_oneTurn (M := M48) hB63.1  x 0 (by omega) (by omega) (by omega) (by omega) (by omega) (by omega) (by omega) (by omega)) rfl okX12_oneTurn viX12_oneTurn lkX12_241 (s_54 hB63.1.1) cl_12 rfl (Nat.le_of_ble_eq_true rfl) ⟨rfl, rfl⟩ (Nat.le_of_ble_eq_true rfl) (Nat.le_of_ble_eq_true rfl) (Nat.le_of_ble_eq_true rfl) ?_
        rintro x66 M67 ⟨hB68, kp69, h70, h71, h72, h73, h74, h75, h76, h77, h78, h79, h80, h81, h82, h83⟩
        have hB84 : BF fT M M67 := BF.go hB63 hB68
        have kp85 : mI M67 55 = mI M 55 := kp_go kp64 kp69
        have fr86 : ∀ j : Nat, ((j : Int) ≤ x ∨ x + 11 ≤ j) → mI M67 57 j = mI M 57 j := fun j hj => (h83 j (by omega)).trans (fr65 j hj)
        have hq4 := h83 (x + 2).toNat (by omega)
        refine vc_istore_n dX12_tellingClause_66 (by decide) rfl (show _ = [some (aR 54), some (aI x), some (aI x66), none] from rfl) ?_
        refine vc_iconst dX12_tellingClause_67 rfl ?_
        refine vc_istore_n dX12_tellingClause_68 (by decide) rfl (show _ = [some (aR 54), some (aI x), some (aI x66), some (aI 1)] from rfl) ?_
        have lp69 : ∀ (n69 : Nat) (Mq69 : Mem) (v2 : Int) (v3 : Int), (BF fT M Mq69) → (mI Mq69 55 = mI M 55) → (0 ≤ v2) → (v2 ≤ 7) → (1 ≤ v3) → (v3 ≤ 7) → (mI Mq69 54 10 ≤ mI Mq69 54 9) → (mI Mq69 54 11 = 0 ∨ mI Mq69 54 10 < mI Mq69 54 9) → (mI M 54 10 ≤ mI Mq69 54 10) → (mI Mq69 54 14 = mI M 54 14) → (mI Mq69 54 15 = mI M 54 15) → (mI Mq69 54 16 = mI M 54 16) → (mI Mq69 54 18 = mI M 54 18) → (mI Mq69 54 19 = mI M 54 19) → (mI Mq69 54 20 = mI M 54 20) → (mI Mq69 54 21 = mI M 54 21) → (v2 ≠ 0 ∨ (1 ≤ mI Mq69 57 (x + 3).toNat ∧ mI Mq69 57 (x + 3).toNat ≤ 6 ∧ 0 ≤ mI Mq69 57 (x + 2).toNat ∧ mI Mq69 57 (x + 2).toNat ≤ 3)) → (v2 ≠ 0 ∨ v3 ≤ 6) → (∀ j : Nat, ((j : Int) ≤ x ∨ x + 11 ≤ j) → mI Mq69 57 j = mI M 57 j) → (7 - v3).toNat < n69 → VC l mdX12_tellingClause 69 [some (aR 54), some (aI x), some (aI v2), some (aI v3)] [] Mq69 0 0 (fun q N => ∃ r : Int, q = some (aI r) ∧ BF fT M N ∧ mI N 55 = mI M 55 ∧ 0 ≤ r ∧ r ≤ 7 ∧ (r ≠ 0 ∨ (1 ≤ mI N 57 (x + 3).toNat ∧ mI N 57 (x + 3).toNat ≤ 6 ∧ 0 ≤ mI N 57 (x + 2).toNat ∧ mI N 57 (x + 2).toNat ≤ 3)) ∧ mI N 54 10 ≤ mI N 54 9 ∧ (mI N 54 11 = 0 ∨ mI N 54 10 < mI N 54 9) ∧ mI M 54 10 ≤ mI N 54 10 ∧ mI N 54 14 = mI M 54 14 ∧ mI N 54 15 = mI M 54 15 ∧ mI N 54 16 = mI M 54 16 ∧ mI N 54 18 = mI M 54 18 ∧ mI N 54 19 = mI M 54 19 ∧ mI N 54 20 = mI M 54 20 ∧ mI N 54 21 = mI M 54 21 ∧ (∀ j : Nat, ((j : Int) ≤ x ∨ x + 11 ≤ j) → mI N 57 j = mI M 57 j)) := by
          intro n69
          induction n69 with
          | zero => intro Mq69 v2 v3 hQ69 kp69_55 g69_2a g69_2b g69_3a g69_3b g69i0 g69i1 g69i2 g69i3 g69i4 g69i5 g69i6 g69i7 g69i8 g69i9 g69i10 g69i11 g69i12 hm69; exact absurd hm69 (Nat.not_lt_zero _)
          | succ n69 ih69 =>
            intro Mq69 v2 v3 hQ69 kp69_55 g69_2a g69_2b g69_3a g69_3b g69i0 g69i1 g69i2 g69i3 g69i4 g69i5 g69i6 g69i7 g69i8 g69i9 g69i10 g69i11 g69i12 hm69
            refine vc_iload_n dX12_tellingClause_69 rfl ?_
            refine vc_if_ne dX12_tellingClause_70 (fun h87 => ?_) (fun h87 => ?_)
            · refine vc_iload_n dX12_tellingClause_99 rfl ?_
              refine vc_iret dX12_tellingClause_100 rfl (Nat.le_of_ble_eq_true rfl) (Nat.le_of_ble_eq_true rfl) ?_
              exact ⟨_, rfl, hQ69, kp69_55, by omega, by omega, by omega, by omega, by omega, by omega, by omega, by omega, by omega, by omega, by omega, by omega, by omega, g69i12⟩
            · refine vc_aload_n dX12_tellingClause_73 rfl ?_
              refine vc_getI dX12_tellingClause_74 flX12_129 (s_54 hQ69.1.1) rfl ?_
              refine vc_bipush dX12_tellingClause_77 rfl ?_
              refine vc_icmp_ne dX12_tellingClause_79 (fun h88 => ?_) (fun h88 => ?_)
              · refine vc_iload_n dX12_tellingClause_99 rfl ?_
                refine vc_iret dX12_tellingClause_100 rfl (Nat.le_of_ble_eq_true rfl) (Nat.le_of_ble_eq_true rfl) ?_
                exact ⟨_, rfl, hQ69, kp69_55, by omega, by omega, by omega, by omega, by omega, by omega, by omega, by omega, by omega, by omega, by omega, by omega, by omega, g69i12⟩
              · refine vc_aload_n dX12_tellingClause_82 rfl ?_
                refine vc_cVU dX12_tellingClause_83 (sfX12_nextToken (M := Mq69) hQ69.1   ) rfl okX12_nextToken viX12_nextToken lkX12_193 (s_54 hQ69.1.1) cl_12 rfl (Nat.le_of_ble_eq_true rfl) ⟨rfl, rfl⟩ (Nat.le_of_ble_eq_true rfl) (Nat.le_of_ble_eq_true rfl) (Nat.le_of_ble_eq_true rfl) ?_
                rintro M89 ⟨hB90, kp91, kp92, kp93, h94, h95, h96, h97, h98, h99, h100, h101, h102, h103⟩
                have hB104 : BF fT M M89 := BF.go hQ69 hB90.t
                have kp105 : mI M89 55 = mI M 55 := kp_go kp69_55 kp91
                have fr106 : ∀ j : Nat, ((j : Int) ≤ x ∨ x + 11 ≤ j) → mI M89 57 j = mI M 57 j := fun j hj => (congrFun kp92 j).trans (g69i12 j hj)
                have hq2 := congrFun kp92 (x + 2).toNat
                have hq3 := congrFun kp92 (x + 3).toNat
                refine vc_aload_n dX12_tellingClause_86 rfl ?_
                refine vc_iload_n dX12_tellingClause_87 rfl ?_
                refine vc_iload_n dX12_tellingClause_88 rfl ?_
                have hz5 := congrFun kp105 5
                refine vc_cVI dX12_tellingClause_89 (sfX12_oneTurn (M := M89) hB104.1  x v3 (by omega) (by omega) (by omega) (by omega) (by omega) (by omega) (by omega) (by omega)) rfl okX12_oneTurn viX12_oneTurn lkX12_241 (s_54 hB104.1.1) cl_12 rfl (Nat.le_of_ble_eq_true rfl) ⟨rfl, rfl⟩ (Nat.le_of_ble_eq_true rfl) (Nat.le_of_ble_eq_true rfl) (Nat.le_of_ble_eq_true rfl) ?_
                rintro x107 M108 ⟨hB109, kp110, h111, h112, h113, h114, h115, h116, h117, h118, h119, h120, h121, h122, h123, h124⟩
                have hB125 : BF fT M M108 := BF.go hB104 hB109
                have kp126 : mI M108 55 = mI M 55 := kp_go kp105 kp110
                have fr127 : ∀ j : Nat, ((j : Int) ≤ x ∨ x + 11 ≤ j) → mI M108 57 j = mI M 57 j := fun j hj => (h124 j (by omega)).trans (fr106 j hj)
                have hq4 := h124 (x + 2).toNat (by omega)
                refine vc_istore_n dX12_tellingClause_92 (by decide) rfl (show _ = [some (aR 54), some (aI x), some (aI x107), some (aI v3)] from rfl) ?_
                refine vc_iincE dX12_tellingClause_93 rfl (by omega) (by omega) (by decide) rfl (show _ = [some (aR 54), some (aI x), some (aI x107), some (aI (v3 + 1))] from rfl) ?_
                refine vc_goto dX12_tellingClause_96 ?_
                exact ih69 M108 x107 (v3 + 1) hB125 kp126 (by omega) (by omega) (by omega) (by omega) (by omega) (by omega) (by omega) (by omega) (by omega) (by omega) (by omega) (by omega) (by omega) (by omega) (by omega) (by omega) fr127 (by omega)
        exact lp69 _ M67 x66 1 hB84 kp85 (by omega) (by omega) (by omega) (by omega) (by omega) (by omega) (by omega) (by omega) (by omega) (by omega) (by omega) (by omega) (by omega) (by omega) (by omega) (by omega) fr86 (Nat.lt_succ_self _)
      · refine vc_iconst dX12_tellingClause_54 rfl ?_
        refine vc_iret dX12_tellingClause_55 rfl (Nat.le_of_ble_eq_true rfl) (Nat.le_of_ble_eq_true rfl) ?_
        exact ⟨_, rfl, hB43, kp44, by omega, by omega, by omega, by omega, by omega, by omega, by omega, by omega, by omega, by omega, by omega, by omega, by omega, fr45⟩
    · refine vc_iload_n dX12_tellingClause_43 rfl ?_
      refine vc_iret dX12_tellingClause_44 rfl (Nat.le_of_ble_eq_true rfl) (Nat.le_of_ble_eq_true rfl) ?_
      exact ⟨_, rfl, hB43, kp44, by omega, by omega, by omega, by omega, by omega, by omega, by omega, by omega, by omega, by omega, by omega, by omega, by omega, fr45⟩

set_option maxRecDepth 4000 in
theorem sfX12_lawClause {l : Launch} {M : Mem} (hB : Box M)  (x : Int) (p0 : 1 ≤ x) (p1 : x ≤ 2873) (p2 : mI M 54 14 = 873 * mI M 55 5) (p3 : mI M 54 14 + 1 ≤ x) (p4 : x ≤ mI M 54 14 + 254) (p5 : mI M 54 10 ≤ mI M 54 9) (p6 : mI M 54 11 = 0 ∨ mI M 54 10 < mI M 54 9) (p7 : mI M 54 15 ≤ mI M 54 10) : Call l mdX12_lawClause [aR 54, aI x] M (fun q N => ∃ r : Int, q = some (aI r) ∧ BF fT M N ∧ mI N 55 = mI M 55 ∧ (r ≠ 0 ∨ (0 ≤ mI N 57 (x + 1).toNat ∧ mI N 57 (x + 1).toNat ≤ mI N 57 (x + 2).toNat ∧ mI N 57 (x + 2).toNat ≤ mI N 54 15)) ∧ (r = 0 → wfC (mI N 57) (mI N 57 (x + 2).toNat - mI N 57 (x + 1).toNat).toNat (mI M 54 14 + 265 + 2 * mI N 57 (x + 1).toNat).toNat 0) ∧ (r ≠ 0 ∨ mI M 54 15 ≤ mI N 54 15) ∧ (r ≠ 0 ∨ mI N 54 15 ≤ mI N 54 10) ∧ (r ≠ 0 ∨ mI M 54 10 ≤ mI N 54 10) ∧ mI N 54 10 ≤ mI N 54 9 ∧ (mI N 54 11 = 0 ∨ mI N 54 10 < mI N 54 9) ∧ mI N 54 14 = mI M 54 14 ∧ mI N 54 16 = mI M 54 16 ∧ mI N 54 21 = mI M 54 21 ∧ (∀ j : Nat, ((j : Int) ≤ x ∨ (x + 11 ≤ j ∧ (j : Int) < mI M 54 14 + 265 + 2 * mI M 54 15)) → mI N 57 j = mI M 57 j)) := by
  have hB0 : BF fT M M := BF.start hB
  refine Call.of [some (aR 54), some (aI x), none] rfl (Nat.le_of_ble_eq_true rfl) rfl ?_
  have hk10 := b54_10 hB
  have hk15 := b54_15 hB
  have hk14 := b54_14 hB
  have hk5 := b55_5 hB
  refine vc_aload_n dX12_lawClause_0 rfl ?_
  refine vc_getR dX12_lawClause_1 flX12_16 (s_54 hB0.1.1) rfl (r_54_2 hB0.1.1) ?_
  refine vc_iload_n dX12_lawClause_4 rfl ?_
  refine vc_iconst dX12_lawClause_5 rfl ?_
  refine vc_iaddE dX12_lawClause_6 (by omega) (by omega) ?_
  refine vc_aload_n dX12_lawClause_7 rfl ?_
  refine vc_getI dX12_lawClause_8 flX12_170 (s_54 hB0.1.1) rfl ?_
  have k1 : 0 ≤ mI M 54 15 ∧ mI M 54 15 ≤ 300 := b54_15 (M := M) hB0.1
  refine vc_iastore dX12_lawClause_11 (s_57 hB0.1.1) (by omega) (by omega) ?_
  have kp2 : mI (sI M 57 ((x + 1).toNat) (mI M 54 15)) 55 = mI M 55 := (kp_sI rfl rfl)
  have hB3 : BF fT M (sI M 57 ((x + 1).toNat) (mI M 54 15)) := BF.x57 (x := x + 1) hB0 (by omega)
  refine vc_aload_n dX12_lawClause_12 rfl ?_
  have k4 : mI (sI M 57 ((x + 1).toNat) (mI M 54 15)) 54 9 = mI M 54 9 := rfl
  have k5 : mI (sI M 57 ((x + 1).toNat) (mI M 54 15)) 54 10 = mI M 54 10 := rfl
  have k6 : mI (sI M 57 ((x + 1).toNat) (mI M 54 15)) 54 11 = mI M 54 11 := rfl
  have k7 : mI (sI M 57 ((x + 1).toNat) (mI M 54 15)) 54 14 = mI M 54 14 := rfl
  have k8 : mI (sI M 57 ((x + 1).toNat) (mI M 54 15)) 54 15 = mI M 54 15 := rfl
  have k9 : mI (sI M 57 ((x + 1).toNat) (mI M 54 15)) 54 16 = mI M 54 16 := rfl
  have k10 : mI (sI M 57 ((x + 1).toNat) (mI M 54 15)) 54 18 = mI M 54 18 := rfl
  have k11 : mI (sI M 57 ((x + 1).toNat) (mI M 54 15)) 54 19 = mI M 54 19 := rfl
  have k12 : mI (sI M 57 ((x + 1).toNat) (mI M 54 15)) 54 20 = mI M 54 20 := rfl
  have k13 : mI (sI M 57 ((x + 1).toNat) (mI M 54 15)) 54 21 = mI M 54 21 := rfl
  have hz5 := congrFun kp2 5
  refine vc_cVI dX12_lawClause_13 (sfX12_summed (M := (sI M 57 ((x + 1).toNat) (mI M 54 15))) hB3.1   (by omega) (by omega) (by omega) (by omega)) rfl okX12_summed viX12_summed lkX12_244 (s_54 hB3.1.1) cl_12 rfl (Nat.le_of_ble_eq_true rfl) ⟨rfl, rfl⟩ (Nat.le_of_ble_eq_true rfl) (Nat.le_of_ble_eq_true rfl) (Nat.le_of_ble_eq_true rfl) ?_
  rintro x14 M15 ⟨hB16, kp17, h18, h19, h20, h21, h22, h23, h24, h25, h26, h27⟩
  have hB28 : BF fT M M15 := BF.go hB3 hB16
  have kp29 : mI M15 55 = mI M 55 := kp_go kp2 kp17
  have hwc := h18
  have hfs := h26
  have e1 : mI M15 57 (x + 1).toNat = mI M 54 15 := (hfs (x + 1).toNat (by show ((x + 1).toNat : Int) < mI M 54 14 + 265 + 2 * mI M 54 15; omega)).trans mI_same
  have hfr : ∀ j : Nat, ((j : Int) ≤ x ∨ (x + 11 ≤ j ∧ (j : Int) < mI M 54 14 + 265 + 2 * mI M 54 15)) → mI M15 57 j = mI M 57 j := fun j hj => (hfs j (by show (j : Int) < mI M 54 14 + 265 + 2 * mI M 54 15; omega)).trans (by rw [mI_sI, if_neg (fun e => by omega)])
  refine vc_istore_n dX12_lawClause_16 (by decide) rfl (show _ = [some (aR 54), some (aI x), some (aI x14)] from rfl) ?_
  have hz5 := congrFun kp29 5
  refine vc_aload_n dX12_lawClause_17 rfl ?_
  refine vc_getR dX12_lawClause_18 flX12_16 (s_54 hB28.1.1) rfl (r_54_2 hB28.1.1) ?_
  refine vc_iload_n dX12_lawClause_21 rfl ?_
  refine vc_iconst dX12_lawClause_22 rfl ?_
  refine vc_iaddE dX12_lawClause_23 (by omega) (by omega) ?_
  refine vc_aload_n dX12_lawClause_24 rfl ?_
  refine vc_getI dX12_lawClause_25 flX12_170 (s_54 hB28.1.1) rfl ?_
  have k30 : 0 ≤ mI M15 54 15 ∧ mI M15 54 15 ≤ 300 := b54_15 (M := M15) hB28.1
  refine vc_iastore dX12_lawClause_28 (s_57 hB28.1.1) (by omega) (by omega) ?_
  have kp31 : mI (sI M15 57 ((x + 2).toNat) (mI M15 54 15)) 55 = mI M 55 := (kp_sI kp29 rfl)
  have hB32 : BF fT M (sI M15 57 ((x + 2).toNat) (mI M15 54 15)) := BF.x57 (x := x + 2) hB28 (by omega)
  refine vc_iload_n dX12_lawClause_29 rfl ?_
  refine vc_iret dX12_lawClause_30 rfl (Nat.le_of_ble_eq_true rfl) (Nat.le_of_ble_eq_true rfl) ?_
  have k33 : mI (sI M15 57 ((x + 2).toNat) (mI M15 54 15)) 54 9 = mI M15 54 9 := rfl
  have k34 : mI (sI M15 57 ((x + 2).toNat) (mI M15 54 15)) 54 10 = mI M15 54 10 := rfl
  have k35 : mI (sI M15 57 ((x + 2).toNat) (mI M15 54 15)) 54 11 = mI M15 54 11 := rfl
  have k36 : mI (sI M15 57 ((x + 2).toNat) (mI M15 54 15)) 54 14 = mI M15 54 14 := rfl
  have k37 : mI (sI M15 57 ((x + 2).toNat) (mI M15 54 15)) 54 15 = mI M15 54 15 := rfl
  have k38 : mI (sI M15 57 ((x + 2).toNat) (mI M15 54 15)) 54 16 = mI M15 54 16 := rfl
  have k39 : mI (sI M15 57 ((x + 2).toNat) (mI M15 54 15)) 54 18 = mI M15 54 18 := rfl
  have k40 : mI (sI M15 57 ((x + 2).toNat) (mI M15 54 15)) 54 19 = mI M15 54 19 := rfl
  have k41 : mI (sI M15 57 ((x + 2).toNat) (mI M15 54 15)) 54 20 = mI M15 54 20 := rfl
  have k42 : mI (sI M15 57 ((x + 2).toNat) (mI M15 54 15)) 54 21 = mI M15 54 21 := rfl
  have f1 : mI (sI M15 57 ((x + 2).toNat) (mI M15 54 15)) 57 (x + 1).toNat = mI M 54 15 := by rw [mI_sI, if_neg (fun e => by omega)]; exact e1
  have f2 : mI (sI M15 57 ((x + 2).toNat) (mI M15 54 15)) 57 (x + 2).toNat = mI M15 54 15 := mI_same
  refine ⟨_, rfl, hB32, kp31, by omega, fun hr0 => ?_, by omega, by omega, by omega, by omega, by omega, by omega, by omega, by omega, fun j hj => ?_⟩
  · rw [f1, f2]
    exact wfC_co _ _ _ (fun q a b => by rw [mI_sI, if_neg (fun e => by omega)]) (hwc hr0)
  · rw [mI_sI, if_neg (fun e => by omega)]
    exact hfr j hj

set_option maxRecDepth 4000 in
theorem sfX12_body {l : Launch} {M : Mem} (hB : Box M)  (s : Int) (x : Int) (p0 : 0 ≤ s) (p1 : s ≤ 15) (p2 : 1 ≤ x) (p3 : x ≤ 2873) (p4 : mI M 54 14 = 873 * mI M 55 5) (p5 : mI M 54 14 + 1 ≤ x) (p6 : x ≤ mI M 54 14 + 254) (p7 : mI M 54 10 ≤ mI M 54 9) (p8 : mI M 54 11 = 0 ∨ mI M 54 10 < mI M 54 9) (p9 : mI M 54 15 ≤ mI M 54 10) : Call l mdX12_body [aR 54, aI s, aI x] M (fun q N => ∃ r : Int, q = some (aI r) ∧ BF fT M N ∧ mI N 55 = mI M 55 ∧ (r ≠ 0 ∨ s ≠ 10 ∨ (1 ≤ mI N 57 (x + 3).toNat ∧ mI N 57 (x + 3).toNat ≤ 6 ∧ 0 ≤ mI N 57 (x + 2).toNat ∧ mI N 57 (x + 2).toNat ≤ 3)) ∧ (r ≠ 0 ∨ 4 < s ∨ (0 ≤ mI N 57 (x + 1).toNat ∧ mI N 57 (x + 1).toNat ≤ mI N 57 (x + 2).toNat ∧ mI N 57 (x + 2).toNat ≤ mI N 54 15)) ∧ (r = 0 → s ≤ 4 → wfC (mI N 57) (mI N 57 (x + 2).toNat - mI N 57 (x + 1).toNat).toNat (mI M 54 14 + 265 + 2 * mI N 57 (x + 1).toNat).toNat 0) ∧ (r ≠ 0 ∨ mI M 54 15 ≤ mI N 54 15) ∧ (r ≠ 0 ∨ mI N 54 15 ≤ mI N 54 10) ∧ (r ≠ 0 ∨ mI M 54 10 ≤ mI N 54 10) ∧ mI N 54 10 ≤ mI N 54 9 ∧ (mI N 54 11 = 0 ∨ mI N 54 10 < mI N 54 9) ∧ mI N 54 14 = mI M 54 14 ∧ mI N 54 16 = mI M 54 16 ∧ mI N 54 21 = mI M 54 21 ∧ (∀ j : Nat, ((j : Int) ≤ x ∨ (x + 11 ≤ j ∧ (j : Int) < mI M 54 14 + 265 + 2 * mI M 54 15)) → mI N 57 j = mI M 57 j)) := by
  have hB0 : BF fT M M := BF.start hB
  refine Call.of [some (aR 54), some (aI s), some (aI x)] rfl (Nat.le_of_ble_eq_true rfl) rfl ?_
  refine vc_iload_n dX12_body_0 rfl ?_
  by_cases h1 : s = 5
  · refine vc_tabIn dX12_body_1 5 60 h1 rfl rfl rfl ?_
    refine vc_aload_n dX12_body_60 rfl ?_
    refine vc_iload_n dX12_body_61 rfl ?_
    refine vc_iconst dX12_body_62 rfl ?_
    refine vc_iaddE dX12_body_63 (by omega) (by omega) ?_
    refine vc_iconst dX12_body_64 rfl ?_
    refine vc_iconst dX12_body_65 rfl ?_
    refine vc_cVI dX12_body_66 (sfX12_figure (M := M) hB0.1  (x + 1) 0 5 (by omega) (by omega) (by omega) (by omega) (by omega)) rfl okX12_figure viX12_figure lkX12_229 (s_54 hB0.1.1) cl_12 rfl (Nat.le_of_ble_eq_true rfl) ⟨rfl, rfl⟩ (Nat.le_of_ble_eq_true rfl) (Nat.le_of_ble_eq_true rfl) (Nat.le_of_ble_eq_true rfl) ?_
    rintro x2 M3 ⟨hB4, kp5, h6, h7, h8, h9, h10, h11, h12, h13, h14, h15, h16, h17, h18, h19⟩
    have hB20 : BF fT M M3 := BF.go hB0 hB4
    have kp21 : mI M3 55 = mI M 55 := kp_go rfl kp5
    refine vc_iret dX12_body_69 rfl (Nat.le_of_ble_eq_true rfl) (Nat.le_of_ble_eq_true rfl) ?_
    exact ⟨_, rfl, hB20, kp21, by omega, by omega, fun _ h => by exfalso; omega, by omega, by omega, by omega, by omega, by omega, by omega, by omega, by omega, fun j hj => h19 j (by omega)⟩
  by_cases h22 : s = 6
  · refine vc_tabIn dX12_body_1 6 70 h22 rfl rfl rfl ?_
    refine vc_aload_n dX12_body_70 rfl ?_
    refine vc_iload_n dX12_body_71 rfl ?_
    refine vc_cVI dX12_body_72 (sfX12_streetClause (M := M) hB0.1  x (by omega) (by omega) (by omega) (by omega) (by omega) (by omega)) rfl okX12_streetClause viX12_streetClause lkX12_247 (s_54 hB0.1.1) cl_12 rfl (Nat.le_of_ble_eq_true rfl) ⟨rfl, rfl⟩ (Nat.le_of_ble_eq_true rfl) (Nat.le_of_ble_eq_true rfl) (Nat.le_of_ble_eq_true rfl) ?_
    rintro x23 M24 ⟨hB25, kp26, h27, h28, h29, h30, h31, h32, h33, h34, h35, h36, h37, h38, h39⟩
    have hB40 : BF fT M M24 := BF.go hB0 hB25
    have kp41 : mI M24 55 = mI M 55 := kp_go rfl kp26
    refine vc_iret dX12_body_75 rfl (Nat.le_of_ble_eq_true rfl) (Nat.le_of_ble_eq_true rfl) ?_
    exact ⟨_, rfl, hB40, kp41, by omega, by omega, fun _ h => by exfalso; omega, by omega, by omega, by omega, by omega, by omega, by omega, by omega, by omega, fun j hj => h39 j (by omega)⟩
  by_cases h42 : s = 7
  · refine vc_tabIn dX12_body_1 7 76 h42 rfl rfl rfl ?_
    refine vc_aload_n dX12_body_76 rfl ?_
    refine vc_iload_n dX12_body_77 rfl ?_
    refine vc_cVI dX12_body_78 (sfX12_streetClause (M := M) hB0.1  x (by omega) (by omega) (by omega) (by omega) (by omega) (by omega)) rfl okX12_streetClause viX12_streetClause lkX12_247 (s_54 hB0.1.1) cl_12 rfl (Nat.le_of_ble_eq_true rfl) ⟨rfl, rfl⟩ (Nat.le_of_ble_eq_true rfl) (Nat.le_of_ble_eq_true rfl) (Nat.le_of_ble_eq_true rfl) ?_
    rintro x43 M44 ⟨hB45, kp46, h47, h48, h49, h50, h51, h52, h53, h54, h55, h56, h57, h58, h59⟩
    have hB60 : BF fT M M44 := BF.go hB0 hB45
    have kp61 : mI M44 55 = mI M 55 := kp_go rfl kp46
    refine vc_iret dX12_body_81 rfl (Nat.le_of_ble_eq_true rfl) (Nat.le_of_ble_eq_true rfl) ?_
    exact ⟨_, rfl, hB60, kp61, by omega, by omega, fun _ h => by exfalso; omega, by omega, by omega, by omega, by omega, by omega, by omega, by omega, by omega, fun j hj => h59 j (by omega)⟩
  by_cases h62 : s = 8
  · refine vc_tabIn dX12_body_1 8 82 h62 rfl rfl rfl ?_
    refine vc_aload_n dX12_body_82 rfl ?_
    refine vc_iload_n dX12_body_83 rfl ?_
    refine vc_iconst dX12_body_84 rfl ?_
    refine vc_iaddE dX12_body_85 (by omega) (by omega) ?_
    refine vc_iconst dX12_body_86 rfl ?_
    refine vc_bipush dX12_body_87 rfl ?_
    refine vc_cVI dX12_body_89 (sfX12_figure (M := M) hB0.1  (x + 1) 0 15 (by omega) (by omega) (by omega) (by omega) (by omega)) rfl okX12_figure viX12_figure lkX12_229 (s_54 hB0.1.1) cl_12 rfl (Nat.le_of_ble_eq_true rfl) ⟨rfl, rfl⟩ (Nat.le_of_ble_eq_true rfl) (Nat.le_of_ble_eq_true rfl) (Nat.le_of_ble_eq_true rfl) ?_
    rintro x63 M64 ⟨hB65, kp66, h67, h68, h69, h70, h71, h72, h73, h74, h75, h76, h77, h78, h79, h80⟩
    have hB81 : BF fT M M64 := BF.go hB0 hB65
    have kp82 : mI M64 55 = mI M 55 := kp_go rfl kp66
    refine vc_iret dX12_body_92 rfl (Nat.le_of_ble_eq_true rfl) (Nat.le_of_ble_eq_true rfl) ?_
    exact ⟨_, rfl, hB81, kp82, by omega, by omega, fun _ h => by exfalso; omega, by omega, by omega, by omega, by omega, by omega, by omega, by omega, by omega, fun j hj => h80 j (by omega)⟩
  by_cases h83 : s = 9
  · refine vc_tabIn dX12_body_1 9 93 h83 rfl rfl rfl ?_
    refine vc_aload_n dX12_body_93 rfl ?_
    refine vc_iload_n dX12_body_94 rfl ?_
    refine vc_iconst dX12_body_95 rfl ?_
    refine vc_iaddE dX12_body_96 (by omega) (by omega) ?_
    refine vc_iconst dX12_body_97 rfl ?_
    refine vc_bipush dX12_body_98 rfl ?_
    refine vc_cVI dX12_body_100 (sfX12_figure (M := M) hB0.1  (x + 1) 0 15 (by omega) (by omega) (by omega) (by omega) (by omega)) rfl okX12_figure viX12_figure lkX12_229 (s_54 hB0.1.1) cl_12 rfl (Nat.le_of_ble_eq_true rfl) ⟨rfl, rfl⟩ (Nat.le_of_ble_eq_true rfl) (Nat.le_of_ble_eq_true rfl) (Nat.le_of_ble_eq_true rfl) ?_
    rintro x84 M85 ⟨hB86, kp87, h88, h89, h90, h91, h92, h93, h94, h95, h96, h97, h98, h99, h100, h101⟩
    have hB102 : BF fT M M85 := BF.go hB0 hB86
    have kp103 : mI M85 55 = mI M 55 := kp_go rfl kp87
    refine vc_iret dX12_body_103 rfl (Nat.le_of_ble_eq_true rfl) (Nat.le_of_ble_eq_true rfl) ?_
    exact ⟨_, rfl, hB102, kp103, by omega, by omega, fun _ h => by exfalso; omega, by omega, by omega, by omega, by omega, by omega, by omega, by omega, by omega, fun j hj => h101 j (by omega)⟩
  by_cases h104 : s = 10
  · refine vc_tabIn dX12_body_1 10 104 h104 rfl rfl rfl ?_
    refine vc_aload_n dX12_body_104 rfl ?_
    refine vc_iload_n dX12_body_105 rfl ?_
    refine vc_cVI dX12_body_106 (sfX12_tellingClause (M := M) hB0.1  x (by omega) (by omega) (by omega) (by omega) (by omega) (by omega)) rfl okX12_tellingClause viX12_tellingClause lkX12_250 (s_54 hB0.1.1) cl_12 rfl (Nat.le_of_ble_eq_true rfl) ⟨rfl, rfl⟩ (Nat.le_of_ble_eq_true rfl) (Nat.le_of_ble_eq_true rfl) (Nat.le_of_ble_eq_true rfl) ?_
    rintro x105 M106 ⟨hB107, kp108, h109, h110, h111, h112, h113, h114, h115, h116, h117, h118, h119, h120, h121, h122⟩
    have hB123 : BF fT M M106 := BF.go hB0 hB107
    have kp124 : mI M106 55 = mI M 55 := kp_go rfl kp108
    refine vc_iret dX12_body_109 rfl (Nat.le_of_ble_eq_true rfl) (Nat.le_of_ble_eq_true rfl) ?_
    exact ⟨_, rfl, hB123, kp124, by omega, by omega, fun _ h => by exfalso; omega, by omega, by omega, by omega, by omega, by omega, by omega, by omega, by omega, fun j hj => h122 j (by omega)⟩
  by_cases h125 : s = 11
  · refine vc_tabIn dX12_body_1 11 110 h125 rfl rfl rfl ?_
    refine vc_aload_n dX12_body_110 rfl ?_
    refine vc_iload_n dX12_body_111 rfl ?_
    refine vc_cVI dX12_body_112 (sfX12_startClause (M := M) hB0.1  x (by omega) (by omega) (by omega) (by omega) (by omega) (by omega)) rfl okX12_startClause viX12_startClause lkX12_253 (s_54 hB0.1.1) cl_12 rfl (Nat.le_of_ble_eq_true rfl) ⟨rfl, rfl⟩ (Nat.le_of_ble_eq_true rfl) (Nat.le_of_ble_eq_true rfl) (Nat.le_of_ble_eq_true rfl) ?_
    rintro x126 M127 ⟨hB128, kp129, h130, h131, h132, h133, h134, h135, h136, h137, h138, h139, h140, h141, h142⟩
    have hB143 : BF fT M M127 := BF.go hB0 hB128
    have kp144 : mI M127 55 = mI M 55 := kp_go rfl kp129
    refine vc_iret dX12_body_115 rfl (Nat.le_of_ble_eq_true rfl) (Nat.le_of_ble_eq_true rfl) ?_
    exact ⟨_, rfl, hB143, kp144, by omega, by omega, fun _ h => by exfalso; omega, by omega, by omega, by omega, by omega, by omega, by omega, by omega, by omega, fun j hj => h142 j (by omega)⟩
  by_cases h145 : s = 12
  · refine vc_tabIn dX12_body_1 12 116 h145 rfl rfl rfl ?_
    refine vc_aload_n dX12_body_116 rfl ?_
    refine vc_iload_n dX12_body_117 rfl ?_
    refine vc_iconst dX12_body_118 rfl ?_
    refine vc_iaddE dX12_body_119 (by omega) (by omega) ?_
    refine vc_iconst dX12_body_120 rfl ?_
    refine vc_bipush dX12_body_121 rfl ?_
    refine vc_cVI dX12_body_123 (sfX12_figure (M := M) hB0.1  (x + 1) 1 20 (by omega) (by omega) (by omega) (by omega) (by omega)) rfl okX12_figure viX12_figure lkX12_229 (s_54 hB0.1.1) cl_12 rfl (Nat.le_of_ble_eq_true rfl) ⟨rfl, rfl⟩ (Nat.le_of_ble_eq_true rfl) (Nat.le_of_ble_eq_true rfl) (Nat.le_of_ble_eq_true rfl) ?_
    rintro x146 M147 ⟨hB148, kp149, h150, h151, h152, h153, h154, h155, h156, h157, h158, h159, h160, h161, h162, h163⟩
    have hB164 : BF fT M M147 := BF.go hB0 hB148
    have kp165 : mI M147 55 = mI M 55 := kp_go rfl kp149
    refine vc_iret dX12_body_126 rfl (Nat.le_of_ble_eq_true rfl) (Nat.le_of_ble_eq_true rfl) ?_
    exact ⟨_, rfl, hB164, kp165, by omega, by omega, fun _ h => by exfalso; omega, by omega, by omega, by omega, by omega, by omega, by omega, by omega, by omega, fun j hj => h163 j (by omega)⟩
  by_cases h166 : s = 13
  · refine vc_tabIn dX12_body_1 13 127 h166 rfl rfl rfl ?_
    refine vc_aload_n dX12_body_127 rfl ?_
    refine vc_iload_n dX12_body_128 rfl ?_
    refine vc_cVI dX12_body_129 (sfX12_turnClause (M := M) hB0.1  x (by omega) (by omega) (by omega) (by omega) (by omega) (by omega)) rfl okX12_turnClause viX12_turnClause lkX12_256 (s_54 hB0.1.1) cl_12 rfl (Nat.le_of_ble_eq_true rfl) ⟨rfl, rfl⟩ (Nat.le_of_ble_eq_true rfl) (Nat.le_of_ble_eq_true rfl) (Nat.le_of_ble_eq_true rfl) ?_
    rintro x167 M168 ⟨hB169, kp170, h171, h172, h173, h174, h175, h176, h177, h178, h179, h180, h181, h182, h183⟩
    have hB184 : BF fT M M168 := BF.go hB0 hB169
    have kp185 : mI M168 55 = mI M 55 := kp_go rfl kp170
    refine vc_iret dX12_body_132 rfl (Nat.le_of_ble_eq_true rfl) (Nat.le_of_ble_eq_true rfl) ?_
    exact ⟨_, rfl, hB184, kp185, by omega, by omega, fun _ h => by exfalso; omega, by omega, by omega, by omega, by omega, by omega, by omega, by omega, by omega, fun j hj => h183 j (by omega)⟩
  by_cases h186 : s = 14
  · refine vc_tabIn dX12_body_1 14 133 h186 rfl rfl rfl ?_
    refine vc_aload_n dX12_body_133 rfl ?_
    refine vc_iload_n dX12_body_134 rfl ?_
    refine vc_iconst dX12_body_135 rfl ?_
    refine vc_iaddE dX12_body_136 (by omega) (by omega) ?_
    refine vc_iconst dX12_body_137 rfl ?_
    refine vc_iconst dX12_body_138 rfl ?_
    refine vc_cVI dX12_body_139 (sfX12_figure (M := M) hB0.1  (x + 1) 0 5 (by omega) (by omega) (by omega) (by omega) (by omega)) rfl okX12_figure viX12_figure lkX12_229 (s_54 hB0.1.1) cl_12 rfl (Nat.le_of_ble_eq_true rfl) ⟨rfl, rfl⟩ (Nat.le_of_ble_eq_true rfl) (Nat.le_of_ble_eq_true rfl) (Nat.le_of_ble_eq_true rfl) ?_
    rintro x187 M188 ⟨hB189, kp190, h191, h192, h193, h194, h195, h196, h197, h198, h199, h200, h201, h202, h203, h204⟩
    have hB205 : BF fT M M188 := BF.go hB0 hB189
    have kp206 : mI M188 55 = mI M 55 := kp_go rfl kp190
    refine vc_iret dX12_body_142 rfl (Nat.le_of_ble_eq_true rfl) (Nat.le_of_ble_eq_true rfl) ?_
    exact ⟨_, rfl, hB205, kp206, by omega, by omega, fun _ h => by exfalso; omega, by omega, by omega, by omega, by omega, by omega, by omega, by omega, by omega, fun j hj => h204 j (by omega)⟩
  by_cases h207 : s = 15
  · refine vc_tabIn dX12_body_1 15 143 h207 rfl rfl rfl ?_
    refine vc_aload_n dX12_body_143 rfl ?_
    refine vc_iload_n dX12_body_144 rfl ?_
    refine vc_iconst dX12_body_145 rfl ?_
    refine vc_iaddE dX12_body_146 (by omega) (by omega) ?_
    refine vc_iconst dX12_body_147 rfl ?_
    refine vc_bipush dX12_body_148 rfl ?_
    refine vc_cVI dX12_body_150 (sfX12_figure (M := M) hB0.1  (x + 1) 0 7 (by omega) (by omega) (by omega) (by omega) (by omega)) rfl okX12_figure viX12_figure lkX12_229 (s_54 hB0.1.1) cl_12 rfl (Nat.le_of_ble_eq_true rfl) ⟨rfl, rfl⟩ (Nat.le_of_ble_eq_true rfl) (Nat.le_of_ble_eq_true rfl) (Nat.le_of_ble_eq_true rfl) ?_
    rintro x208 M209 ⟨hB210, kp211, h212, h213, h214, h215, h216, h217, h218, h219, h220, h221, h222, h223, h224, h225⟩
    have hB226 : BF fT M M209 := BF.go hB0 hB210
    have kp227 : mI M209 55 = mI M 55 := kp_go rfl kp211
    refine vc_iret dX12_body_153 rfl (Nat.le_of_ble_eq_true rfl) (Nat.le_of_ble_eq_true rfl) ?_
    exact ⟨_, rfl, hB226, kp227, by omega, by omega, fun _ h => by exfalso; omega, by omega, by omega, by omega, by omega, by omega, by omega, by omega, by omega, fun j hj => h225 j (by omega)⟩
  refine vc_tabOut dX12_body_1 154 (by omega) rfl ?_
  refine vc_aload_n dX12_body_154 rfl ?_
  refine vc_iload_n dX12_body_155 rfl ?_
  refine vc_cVI dX12_body_156 (sfX12_lawClause (M := M) hB0.1  x (by omega) (by omega) (by omega) (by omega) (by omega) (by omega) (by omega) (by omega)) rfl okX12_lawClause viX12_lawClause lkX12_259 (s_54 hB0.1.1) cl_12 rfl (Nat.le_of_ble_eq_true rfl) ⟨rfl, rfl⟩ (Nat.le_of_ble_eq_true rfl) (Nat.le_of_ble_eq_true rfl) (Nat.le_of_ble_eq_true rfl) ?_
  rintro x228 M229 ⟨hB230, kp231, h232, h233, h234, h235, h236, h237, h238, h239, h240, h241, h242⟩
  have hB243 : BF fT M M229 := BF.go hB0 hB230
  have kp244 : mI M229 55 = mI M 55 := kp_go rfl kp231
  refine vc_iret dX12_body_159 rfl (Nat.le_of_ble_eq_true rfl) (Nat.le_of_ble_eq_true rfl) ?_
  exact ⟨_, rfl, hB243, kp244, by omega, by omega, fun h _ => h233 h, by omega, by omega, by omega, by omega, by omega, by omega, by omega, by omega, fun j hj => h242 j (by omega)⟩

set_option maxRecDepth 4000 in
theorem sfX12_sortOf {l : Launch} {M : Mem} (hB : Box M)    : Call l mdX12_sortOf [aR 54] M (fun q N => ∃ r : Int, q = some (aI r) ∧ M = N ∧ (-1) ≤ r ∧ r ≤ 15 ∧ (r < 0 ∨ mI M 54 11 = 2)) := by
  have hB0 : BF fQ M M := BF.start hB
  refine Call.of [some (aR 54)] rfl (Nat.le_of_ble_eq_true rfl) rfl ?_
  refine vc_aload_n dX12_sortOf_0 rfl ?_
  refine vc_bipush dX12_sortOf_1 rfl ?_
  refine vc_bipush dX12_sortOf_3 rfl ?_
  refine vc_bipush dX12_sortOf_5 rfl ?_
  refine vc_bipush dX12_sortOf_7 rfl ?_
  refine vc_bipush dX12_sortOf_9 rfl ?_
  refine vc_cSL dX12_sortOf_11 (sfX12_w5 (M := M) hB0.1  115 119 97 112 115 ) rfl okX12_w5 stX12_w5 lkX12_163 rfl (Nat.le_of_ble_eq_true rfl) ⟨rfl, rfl⟩ (Nat.le_of_ble_eq_true rfl) (Nat.le_of_ble_eq_true rfl) (Nat.le_of_ble_eq_true rfl) ?_
  rintro x1 _ rfl
  refine vc_cVI dX12_sortOf_14 (sfX12_isWord (M := M) hB0.1  x1 ) rfl okX12_isWord viX12_isWord lkX12_196 (s_54 hB0.1.1) cl_12 rfl (Nat.le_of_ble_eq_true rfl) ⟨rfl, rfl⟩ (Nat.le_of_ble_eq_true rfl) (Nat.le_of_ble_eq_true rfl) (Nat.le_of_ble_eq_true rfl) ?_
  rintro x2 _ ⟨rfl, h3, h4, h5⟩
  refine vc_if_eq dX12_sortOf_17 (fun h6 => ?_) (fun h6 => ?_)
  · refine vc_aload_n dX12_sortOf_22 rfl ?_
    refine vc_bipush dX12_sortOf_23 rfl ?_
    refine vc_bipush dX12_sortOf_25 rfl ?_
    refine vc_bipush dX12_sortOf_27 rfl ?_
    refine vc_bipush dX12_sortOf_29 rfl ?_
    refine vc_bipush dX12_sortOf_31 rfl ?_
    refine vc_bipush dX12_sortOf_33 rfl ?_
    refine vc_cSL dX12_sortOf_35 (sfX12_w6 (M := M) hB0.1  108 101 97 118 101 115 ) rfl okX12_w6 stX12_w6 lkX12_173 rfl (Nat.le_of_ble_eq_true rfl) ⟨rfl, rfl⟩ (Nat.le_of_ble_eq_true rfl) (Nat.le_of_ble_eq_true rfl) (Nat.le_of_ble_eq_true rfl) ?_
    rintro x7 _ rfl
    refine vc_cVI dX12_sortOf_38 (sfX12_isWord (M := M) hB0.1  x7 ) rfl okX12_isWord viX12_isWord lkX12_196 (s_54 hB0.1.1) cl_12 rfl (Nat.le_of_ble_eq_true rfl) ⟨rfl, rfl⟩ (Nat.le_of_ble_eq_true rfl) (Nat.le_of_ble_eq_true rfl) (Nat.le_of_ble_eq_true rfl) ?_
    rintro x8 _ ⟨rfl, h9, h10, h11⟩
    refine vc_if_eq dX12_sortOf_41 (fun h12 => ?_) (fun h12 => ?_)
    · refine vc_aload_n dX12_sortOf_46 rfl ?_
      refine vc_bipush dX12_sortOf_47 rfl ?_
      refine vc_bipush dX12_sortOf_49 rfl ?_
      refine vc_bipush dX12_sortOf_51 rfl ?_
      refine vc_bipush dX12_sortOf_53 rfl ?_
      refine vc_bipush dX12_sortOf_55 rfl ?_
      refine vc_cSL dX12_sortOf_57 (sfX12_w5 (M := M) hB0.1  109 105 120 101 115 ) rfl okX12_w5 stX12_w5 lkX12_163 rfl (Nat.le_of_ble_eq_true rfl) ⟨rfl, rfl⟩ (Nat.le_of_ble_eq_true rfl) (Nat.le_of_ble_eq_true rfl) (Nat.le_of_ble_eq_true rfl) ?_
      rintro x13 _ rfl
      refine vc_cVI dX12_sortOf_60 (sfX12_isWord (M := M) hB0.1  x13 ) rfl okX12_isWord viX12_isWord lkX12_196 (s_54 hB0.1.1) cl_12 rfl (Nat.le_of_ble_eq_true rfl) ⟨rfl, rfl⟩ (Nat.le_of_ble_eq_true rfl) (Nat.le_of_ble_eq_true rfl) (Nat.le_of_ble_eq_true rfl) ?_
      rintro x14 _ ⟨rfl, h15, h16, h17⟩
      refine vc_if_eq dX12_sortOf_63 (fun h18 => ?_) (fun h18 => ?_)
      · refine vc_aload_n dX12_sortOf_68 rfl ?_
        refine vc_bipush dX12_sortOf_69 rfl ?_
        refine vc_bipush dX12_sortOf_71 rfl ?_
        refine vc_bipush dX12_sortOf_73 rfl ?_
        refine vc_bipush dX12_sortOf_75 rfl ?_
        refine vc_cSL dX12_sortOf_77 (sfX12_w4 (M := M) hB0.1  112 97 99 101 ) rfl okX12_w4 stX12_w4 lkX12_159 rfl (Nat.le_of_ble_eq_true rfl) ⟨rfl, rfl⟩ (Nat.le_of_ble_eq_true rfl) (Nat.le_of_ble_eq_true rfl) (Nat.le_of_ble_eq_true rfl) ?_
        rintro x19 _ rfl
        refine vc_cVI dX12_sortOf_80 (sfX12_isWord (M := M) hB0.1  x19 ) rfl okX12_isWord viX12_isWord lkX12_196 (s_54 hB0.1.1) cl_12 rfl (Nat.le_of_ble_eq_true rfl) ⟨rfl, rfl⟩ (Nat.le_of_ble_eq_true rfl) (Nat.le_of_ble_eq_true rfl) (Nat.le_of_ble_eq_true rfl) ?_
        rintro x20 _ ⟨rfl, h21, h22, h23⟩
        refine vc_if_eq dX12_sortOf_83 (fun h24 => ?_) (fun h24 => ?_)
        · refine vc_aload_n dX12_sortOf_88 rfl ?_
          refine vc_bipush dX12_sortOf_89 rfl ?_
          refine vc_bipush dX12_sortOf_91 rfl ?_
          refine vc_bipush dX12_sortOf_93 rfl ?_
          refine vc_bipush dX12_sortOf_95 rfl ?_
          refine vc_cSL dX12_sortOf_97 (sfX12_w4 (M := M) hB0.1  97 115 107 115 ) rfl okX12_w4 stX12_w4 lkX12_159 rfl (Nat.le_of_ble_eq_true rfl) ⟨rfl, rfl⟩ (Nat.le_of_ble_eq_true rfl) (Nat.le_of_ble_eq_true rfl) (Nat.le_of_ble_eq_true rfl) ?_
          rintro x25 _ rfl
          refine vc_cVI dX12_sortOf_100 (sfX12_isWord (M := M) hB0.1  x25 ) rfl okX12_isWord viX12_isWord lkX12_196 (s_54 hB0.1.1) cl_12 rfl (Nat.le_of_ble_eq_true rfl) ⟨rfl, rfl⟩ (Nat.le_of_ble_eq_true rfl) (Nat.le_of_ble_eq_true rfl) (Nat.le_of_ble_eq_true rfl) ?_
          rintro x26 _ ⟨rfl, h27, h28, h29⟩
          refine vc_if_eq dX12_sortOf_103 (fun h30 => ?_) (fun h30 => ?_)
          · refine vc_aload_n dX12_sortOf_108 rfl ?_
            refine vc_bipush dX12_sortOf_109 rfl ?_
            refine vc_bipush dX12_sortOf_111 rfl ?_
            refine vc_bipush dX12_sortOf_113 rfl ?_
            refine vc_bipush dX12_sortOf_115 rfl ?_
            refine vc_bipush dX12_sortOf_117 rfl ?_
            refine vc_bipush dX12_sortOf_119 rfl ?_
            refine vc_cSL dX12_sortOf_121 (sfX12_w6 (M := M) hB0.1  99 111 114 110 101 114 ) rfl okX12_w6 stX12_w6 lkX12_173 rfl (Nat.le_of_ble_eq_true rfl) ⟨rfl, rfl⟩ (Nat.le_of_ble_eq_true rfl) (Nat.le_of_ble_eq_true rfl) (Nat.le_of_ble_eq_true rfl) ?_
            rintro x31 _ rfl
            refine vc_cVI dX12_sortOf_124 (sfX12_isWord (M := M) hB0.1  x31 ) rfl okX12_isWord viX12_isWord lkX12_196 (s_54 hB0.1.1) cl_12 rfl (Nat.le_of_ble_eq_true rfl) ⟨rfl, rfl⟩ (Nat.le_of_ble_eq_true rfl) (Nat.le_of_ble_eq_true rfl) (Nat.le_of_ble_eq_true rfl) ?_
            rintro x32 _ ⟨rfl, h33, h34, h35⟩
            refine vc_if_eq dX12_sortOf_127 (fun h36 => ?_) (fun h36 => ?_)
            · refine vc_aload_n dX12_sortOf_132 rfl ?_
              refine vc_bipush dX12_sortOf_133 rfl ?_
              refine vc_bipush dX12_sortOf_135 rfl ?_
              refine vc_bipush dX12_sortOf_137 rfl ?_
              refine vc_bipush dX12_sortOf_139 rfl ?_
              refine vc_bipush dX12_sortOf_141 rfl ?_
              refine vc_bipush dX12_sortOf_143 rfl ?_
              refine vc_cSL dX12_sortOf_145 (sfX12_w6 (M := M) hB0.1  115 116 114 101 101 116 ) rfl okX12_w6 stX12_w6 lkX12_173 rfl (Nat.le_of_ble_eq_true rfl) ⟨rfl, rfl⟩ (Nat.le_of_ble_eq_true rfl) (Nat.le_of_ble_eq_true rfl) (Nat.le_of_ble_eq_true rfl) ?_
              rintro x37 _ rfl
              refine vc_cVI dX12_sortOf_148 (sfX12_isWord (M := M) hB0.1  x37 ) rfl okX12_isWord viX12_isWord lkX12_196 (s_54 hB0.1.1) cl_12 rfl (Nat.le_of_ble_eq_true rfl) ⟨rfl, rfl⟩ (Nat.le_of_ble_eq_true rfl) (Nat.le_of_ble_eq_true rfl) (Nat.le_of_ble_eq_true rfl) ?_
              rintro x38 _ ⟨rfl, h39, h40, h41⟩
              refine vc_if_eq dX12_sortOf_151 (fun h42 => ?_) (fun h42 => ?_)
              · refine vc_aload_n dX12_sortOf_157 rfl ?_
                refine vc_bipush dX12_sortOf_158 rfl ?_
                refine vc_bipush dX12_sortOf_160 rfl ?_
                refine vc_bipush dX12_sortOf_162 rfl ?_
                refine vc_bipush dX12_sortOf_164 rfl ?_
                refine vc_cSL dX12_sortOf_166 (sfX12_w4 (M := M) hB0.1  108 97 110 101 ) rfl okX12_w4 stX12_w4 lkX12_159 rfl (Nat.le_of_ble_eq_true rfl) ⟨rfl, rfl⟩ (Nat.le_of_ble_eq_true rfl) (Nat.le_of_ble_eq_true rfl) (Nat.le_of_ble_eq_true rfl) ?_
                rintro x43 _ rfl
                refine vc_cVI dX12_sortOf_169 (sfX12_isWord (M := M) hB0.1  x43 ) rfl okX12_isWord viX12_isWord lkX12_196 (s_54 hB0.1.1) cl_12 rfl (Nat.le_of_ble_eq_true rfl) ⟨rfl, rfl⟩ (Nat.le_of_ble_eq_true rfl) (Nat.le_of_ble_eq_true rfl) (Nat.le_of_ble_eq_true rfl) ?_
                rintro x44 _ ⟨rfl, h45, h46, h47⟩
                refine vc_if_eq dX12_sortOf_172 (fun h48 => ?_) (fun h48 => ?_)
                · refine vc_aload_n dX12_sortOf_178 rfl ?_
                  refine vc_bipush dX12_sortOf_179 rfl ?_
                  refine vc_bipush dX12_sortOf_181 rfl ?_
                  refine vc_bipush dX12_sortOf_183 rfl ?_
                  refine vc_bipush dX12_sortOf_185 rfl ?_
                  refine vc_cSL dX12_sortOf_187 (sfX12_w4 (M := M) hB0.1  103 111 97 108 ) rfl okX12_w4 stX12_w4 lkX12_159 rfl (Nat.le_of_ble_eq_true rfl) ⟨rfl, rfl⟩ (Nat.le_of_ble_eq_true rfl) (Nat.le_of_ble_eq_true rfl) (Nat.le_of_ble_eq_true rfl) ?_
                  rintro x49 _ rfl
                  refine vc_cVI dX12_sortOf_190 (sfX12_isWord (M := M) hB0.1  x49 ) rfl okX12_isWord viX12_isWord lkX12_196 (s_54 hB0.1.1) cl_12 rfl (Nat.le_of_ble_eq_true rfl) ⟨rfl, rfl⟩ (Nat.le_of_ble_eq_true rfl) (Nat.le_of_ble_eq_true rfl) (Nat.le_of_ble_eq_true rfl) ?_
                  rintro x50 _ ⟨rfl, h51, h52, h53⟩
                  refine vc_if_eq dX12_sortOf_193 (fun h54 => ?_) (fun h54 => ?_)
                  · refine vc_aload_n dX12_sortOf_199 rfl ?_
                    refine vc_bipush dX12_sortOf_200 rfl ?_
                    refine vc_bipush dX12_sortOf_202 rfl ?_
                    refine vc_bipush dX12_sortOf_204 rfl ?_
                    refine vc_bipush dX12_sortOf_206 rfl ?_
                    refine vc_bipush dX12_sortOf_208 rfl ?_
                    refine vc_bipush dX12_sortOf_210 rfl ?_
                    refine vc_cSL dX12_sortOf_212 (sfX12_w6 (M := M) hB0.1  116 101 108 108 101 114 ) rfl okX12_w6 stX12_w6 lkX12_173 rfl (Nat.le_of_ble_eq_true rfl) ⟨rfl, rfl⟩ (Nat.le_of_ble_eq_true rfl) (Nat.le_of_ble_eq_true rfl) (Nat.le_of_ble_eq_true rfl) ?_
                    rintro x55 _ rfl
                    refine vc_cVI dX12_sortOf_215 (sfX12_isWord (M := M) hB0.1  x55 ) rfl okX12_isWord viX12_isWord lkX12_196 (s_54 hB0.1.1) cl_12 rfl (Nat.le_of_ble_eq_true rfl) ⟨rfl, rfl⟩ (Nat.le_of_ble_eq_true rfl) (Nat.le_of_ble_eq_true rfl) (Nat.le_of_ble_eq_true rfl) ?_
                    rintro x56 _ ⟨rfl, h57, h58, h59⟩
                    refine vc_if_eq dX12_sortOf_218 (fun h60 => ?_) (fun h60 => ?_)
                    · refine vc_aload_n dX12_sortOf_224 rfl ?_
                      refine vc_bipush dX12_sortOf_225 rfl ?_
                      refine vc_bipush dX12_sortOf_227 rfl ?_
                      refine vc_bipush dX12_sortOf_229 rfl ?_
                      refine vc_cSL dX12_sortOf_231 (sfX12_w3 (M := M) hB0.1  116 101 108 ) rfl okX12_w3 stX12_w3 lkX12_155 rfl (Nat.le_of_ble_eq_true rfl) ⟨rfl, rfl⟩ (Nat.le_of_ble_eq_true rfl) (Nat.le_of_ble_eq_true rfl) (Nat.le_of_ble_eq_true rfl) ?_
                      rintro x61 _ rfl
                      refine vc_bipush dX12_sortOf_234 rfl ?_
                      refine vc_lshl dX12_sortOf_236 ?_
                      refine vc_bipush dX12_sortOf_237 rfl ?_
                      refine vc_bipush dX12_sortOf_239 rfl ?_
                      refine vc_bipush dX12_sortOf_241 rfl ?_
                      refine vc_bipush dX12_sortOf_243 rfl ?_
                      refine vc_cSL dX12_sortOf_245 (sfX12_w4 (M := M) hB0.1  108 105 110 103 ) rfl okX12_w4 stX12_w4 lkX12_159 rfl (Nat.le_of_ble_eq_true rfl) ⟨rfl, rfl⟩ (Nat.le_of_ble_eq_true rfl) (Nat.le_of_ble_eq_true rfl) (Nat.le_of_ble_eq_true rfl) ?_
                      rintro x62 _ rfl
                      refine vc_lor dX12_sortOf_248 ?_
                      refine vc_cVI dX12_sortOf_249 (sfX12_isWord (M := M) hB0.1  (orL (shlL x61 32) x62) ) rfl okX12_isWord viX12_isWord lkX12_196 (s_54 hB0.1.1) cl_12 rfl (Nat.le_of_ble_eq_true rfl) ⟨rfl, rfl⟩ (Nat.le_of_ble_eq_true rfl) (Nat.le_of_ble_eq_true rfl) (Nat.le_of_ble_eq_true rfl) ?_
                      rintro x63 _ ⟨rfl, h64, h65, h66⟩
                      refine vc_if_eq dX12_sortOf_252 (fun h67 => ?_) (fun h67 => ?_)
                      · refine vc_aload_n dX12_sortOf_258 rfl ?_
                        refine vc_bipush dX12_sortOf_259 rfl ?_
                        refine vc_bipush dX12_sortOf_261 rfl ?_
                        refine vc_bipush dX12_sortOf_263 rfl ?_
                        refine vc_bipush dX12_sortOf_265 rfl ?_
                        refine vc_bipush dX12_sortOf_267 rfl ?_
                        refine vc_cSL dX12_sortOf_269 (sfX12_w5 (M := M) hB0.1  115 116 97 114 116 ) rfl okX12_w5 stX12_w5 lkX12_163 rfl (Nat.le_of_ble_eq_true rfl) ⟨rfl, rfl⟩ (Nat.le_of_ble_eq_true rfl) (Nat.le_of_ble_eq_true rfl) (Nat.le_of_ble_eq_true rfl) ?_
                        rintro x68 _ rfl
                        refine vc_cVI dX12_sortOf_272 (sfX12_isWord (M := M) hB0.1  x68 ) rfl okX12_isWord viX12_isWord lkX12_196 (s_54 hB0.1.1) cl_12 rfl (Nat.le_of_ble_eq_true rfl) ⟨rfl, rfl⟩ (Nat.le_of_ble_eq_true rfl) (Nat.le_of_ble_eq_true rfl) (Nat.le_of_ble_eq_true rfl) ?_
                        rintro x69 _ ⟨rfl, h70, h71, h72⟩
                        refine vc_if_eq dX12_sortOf_275 (fun h73 => ?_) (fun h73 => ?_)
                        · refine vc_aload_n dX12_sortOf_281 rfl ?_
                          refine vc_bipush dX12_sortOf_282 rfl ?_
                          refine vc_bipush dX12_sortOf_284 rfl ?_
                          refine vc_bipush dX12_sortOf_286 rfl ?_
                          refine vc_bipush dX12_sortOf_288 rfl ?_
                          refine vc_cSL dX12_sortOf_290 (sfX12_w4 (M := M) hB0.1  119 97 108 107 ) rfl okX12_w4 stX12_w4 lkX12_159 rfl (Nat.le_of_ble_eq_true rfl) ⟨rfl, rfl⟩ (Nat.le_of_ble_eq_true rfl) (Nat.le_of_ble_eq_true rfl) (Nat.le_of_ble_eq_true rfl) ?_
                          rintro x74 _ rfl
                          refine vc_cVI dX12_sortOf_293 (sfX12_isWord (M := M) hB0.1  x74 ) rfl okX12_isWord viX12_isWord lkX12_196 (s_54 hB0.1.1) cl_12 rfl (Nat.le_of_ble_eq_true rfl) ⟨rfl, rfl⟩ (Nat.le_of_ble_eq_true rfl) (Nat.le_of_ble_eq_true rfl) (Nat.le_of_ble_eq_true rfl) ?_
                          rintro x75 _ ⟨rfl, h76, h77, h78⟩
                          refine vc_if_eq dX12_sortOf_296 (fun h79 => ?_) (fun h79 => ?_)
                          · refine vc_aload_n dX12_sortOf_302 rfl ?_
                            refine vc_bipush dX12_sortOf_303 rfl ?_
                            refine vc_bipush dX12_sortOf_305 rfl ?_
                            refine vc_bipush dX12_sortOf_307 rfl ?_
                            refine vc_bipush dX12_sortOf_309 rfl ?_
                            refine vc_cSL dX12_sortOf_311 (sfX12_w4 (M := M) hB0.1  116 117 114 110 ) rfl okX12_w4 stX12_w4 lkX12_159 rfl (Nat.le_of_ble_eq_true rfl) ⟨rfl, rfl⟩ (Nat.le_of_ble_eq_true rfl) (Nat.le_of_ble_eq_true rfl) (Nat.le_of_ble_eq_true rfl) ?_
                            rintro x80 _ rfl
                            refine vc_cVI dX12_sortOf_314 (sfX12_isWord (M := M) hB0.1  x80 ) rfl okX12_isWord viX12_isWord lkX12_196 (s_54 hB0.1.1) cl_12 rfl (Nat.le_of_ble_eq_true rfl) ⟨rfl, rfl⟩ (Nat.le_of_ble_eq_true rfl) (Nat.le_of_ble_eq_true rfl) (Nat.le_of_ble_eq_true rfl) ?_
                            rintro x81 _ ⟨rfl, h82, h83, h84⟩
                            refine vc_if_eq dX12_sortOf_317 (fun h85 => ?_) (fun h85 => ?_)
                            · refine vc_aload_n dX12_sortOf_323 rfl ?_
                              refine vc_bipush dX12_sortOf_324 rfl ?_
                              refine vc_bipush dX12_sortOf_326 rfl ?_
                              refine vc_bipush dX12_sortOf_328 rfl ?_
                              refine vc_cSL dX12_sortOf_330 (sfX12_w3 (M := M) hB0.1  97 115 107 ) rfl okX12_w3 stX12_w3 lkX12_155 rfl (Nat.le_of_ble_eq_true rfl) ⟨rfl, rfl⟩ (Nat.le_of_ble_eq_true rfl) (Nat.le_of_ble_eq_true rfl) (Nat.le_of_ble_eq_true rfl) ?_
                              rintro x86 _ rfl
                              refine vc_cVI dX12_sortOf_333 (sfX12_isWord (M := M) hB0.1  x86 ) rfl okX12_isWord viX12_isWord lkX12_196 (s_54 hB0.1.1) cl_12 rfl (Nat.le_of_ble_eq_true rfl) ⟨rfl, rfl⟩ (Nat.le_of_ble_eq_true rfl) (Nat.le_of_ble_eq_true rfl) (Nat.le_of_ble_eq_true rfl) ?_
                              rintro x87 _ ⟨rfl, h88, h89, h90⟩
                              refine vc_if_eq dX12_sortOf_336 (fun h91 => ?_) (fun h91 => ?_)
                              · refine vc_aload_n dX12_sortOf_344 rfl ?_
                                refine vc_bipush dX12_sortOf_345 rfl ?_
                                refine vc_bipush dX12_sortOf_347 rfl ?_
                                refine vc_bipush dX12_sortOf_349 rfl ?_
                                refine vc_bipush dX12_sortOf_351 rfl ?_
                                refine vc_bipush dX12_sortOf_353 rfl ?_
                                refine vc_bipush dX12_sortOf_355 rfl ?_
                                refine vc_cSL dX12_sortOf_357 (sfX12_w6 (M := M) hB0.1  102 111 108 108 111 119 ) rfl okX12_w6 stX12_w6 lkX12_173 rfl (Nat.le_of_ble_eq_true rfl) ⟨rfl, rfl⟩ (Nat.le_of_ble_eq_true rfl) (Nat.le_of_ble_eq_true rfl) (Nat.le_of_ble_eq_true rfl) ?_
                                rintro x92 _ rfl
                                refine vc_cVI dX12_sortOf_360 (sfX12_isWord (M := M) hB0.1  x92 ) rfl okX12_isWord viX12_isWord lkX12_196 (s_54 hB0.1.1) cl_12 rfl (Nat.le_of_ble_eq_true rfl) ⟨rfl, rfl⟩ (Nat.le_of_ble_eq_true rfl) (Nat.le_of_ble_eq_true rfl) (Nat.le_of_ble_eq_true rfl) ?_
                                rintro x93 _ ⟨rfl, h94, h95, h96⟩
                                refine vc_if_eq dX12_sortOf_363 (fun h97 => ?_) (fun h97 => ?_)
                                · refine vc_iconst dX12_sortOf_371 rfl ?_
                                  refine vc_iret dX12_sortOf_372 rfl (Nat.le_of_ble_eq_true rfl) (Nat.le_of_ble_eq_true rfl) ?_
                                  exact ⟨_, rfl, rfl, by omega, by omega, by omega⟩
                                · refine vc_bipush dX12_sortOf_366 rfl ?_
                                  refine vc_goto dX12_sortOf_368 ?_
                                  refine vc_iret dX12_sortOf_372 rfl (Nat.le_of_ble_eq_true rfl) (Nat.le_of_ble_eq_true rfl) ?_
                                  exact ⟨_, rfl, rfl, by omega, by omega, by omega⟩
                              · refine vc_bipush dX12_sortOf_339 rfl ?_
                                refine vc_goto dX12_sortOf_341 ?_
                                refine vc_iret dX12_sortOf_372 rfl (Nat.le_of_ble_eq_true rfl) (Nat.le_of_ble_eq_true rfl) ?_
                                exact ⟨_, rfl, rfl, by omega, by omega, by omega⟩
                            · refine vc_bipush dX12_sortOf_320 rfl ?_
                              refine vc_iret dX12_sortOf_322 rfl (Nat.le_of_ble_eq_true rfl) (Nat.le_of_ble_eq_true rfl) ?_
                              exact ⟨_, rfl, rfl, by omega, by omega, by omega⟩
                          · refine vc_bipush dX12_sortOf_299 rfl ?_
                            refine vc_iret dX12_sortOf_301 rfl (Nat.le_of_ble_eq_true rfl) (Nat.le_of_ble_eq_true rfl) ?_
                            exact ⟨_, rfl, rfl, by omega, by omega, by omega⟩
                        · refine vc_bipush dX12_sortOf_278 rfl ?_
                          refine vc_iret dX12_sortOf_280 rfl (Nat.le_of_ble_eq_true rfl) (Nat.le_of_ble_eq_true rfl) ?_
                          exact ⟨_, rfl, rfl, by omega, by omega, by omega⟩
                      · refine vc_bipush dX12_sortOf_255 rfl ?_
                        refine vc_iret dX12_sortOf_257 rfl (Nat.le_of_ble_eq_true rfl) (Nat.le_of_ble_eq_true rfl) ?_
                        exact ⟨_, rfl, rfl, by omega, by omega, by omega⟩
                    · refine vc_bipush dX12_sortOf_221 rfl ?_
                      refine vc_iret dX12_sortOf_223 rfl (Nat.le_of_ble_eq_true rfl) (Nat.le_of_ble_eq_true rfl) ?_
                      exact ⟨_, rfl, rfl, by omega, by omega, by omega⟩
                  · refine vc_bipush dX12_sortOf_196 rfl ?_
                    refine vc_iret dX12_sortOf_198 rfl (Nat.le_of_ble_eq_true rfl) (Nat.le_of_ble_eq_true rfl) ?_
                    exact ⟨_, rfl, rfl, by omega, by omega, by omega⟩
                · refine vc_bipush dX12_sortOf_175 rfl ?_
                  refine vc_iret dX12_sortOf_177 rfl (Nat.le_of_ble_eq_true rfl) (Nat.le_of_ble_eq_true rfl) ?_
                  exact ⟨_, rfl, rfl, by omega, by omega, by omega⟩
              · refine vc_bipush dX12_sortOf_154 rfl ?_
                refine vc_iret dX12_sortOf_156 rfl (Nat.le_of_ble_eq_true rfl) (Nat.le_of_ble_eq_true rfl) ?_
                exact ⟨_, rfl, rfl, by omega, by omega, by omega⟩
            · refine vc_iconst dX12_sortOf_130 rfl ?_
              refine vc_iret dX12_sortOf_131 rfl (Nat.le_of_ble_eq_true rfl) (Nat.le_of_ble_eq_true rfl) ?_
              exact ⟨_, rfl, rfl, by omega, by omega, by omega⟩
          · refine vc_iconst dX12_sortOf_106 rfl ?_
            refine vc_iret dX12_sortOf_107 rfl (Nat.le_of_ble_eq_true rfl) (Nat.le_of_ble_eq_true rfl) ?_
            exact ⟨_, rfl, rfl, by omega, by omega, by omega⟩
        · refine vc_iconst dX12_sortOf_86 rfl ?_
          refine vc_iret dX12_sortOf_87 rfl (Nat.le_of_ble_eq_true rfl) (Nat.le_of_ble_eq_true rfl) ?_
          exact ⟨_, rfl, rfl, by omega, by omega, by omega⟩
      · refine vc_iconst dX12_sortOf_66 rfl ?_
        refine vc_iret dX12_sortOf_67 rfl (Nat.le_of_ble_eq_true rfl) (Nat.le_of_ble_eq_true rfl) ?_
        exact ⟨_, rfl, rfl, by omega, by omega, by omega⟩
    · refine vc_iconst dX12_sortOf_44 rfl ?_
      refine vc_iret dX12_sortOf_45 rfl (Nat.le_of_ble_eq_true rfl) (Nat.le_of_ble_eq_true rfl) ?_
      exact ⟨_, rfl, rfl, by omega, by omega, by omega⟩
  · refine vc_iconst dX12_sortOf_20 rfl ?_
    refine vc_iret dX12_sortOf_21 rfl (Nat.le_of_ble_eq_true rfl) (Nat.le_of_ble_eq_true rfl) ?_
    exact ⟨_, rfl, rfl, by omega, by omega, by omega⟩

/-- the clauses that were read -/
def CLS (f : Nat → Int) (t0 wr n : Int) : Prop := ∀ k : Nat, (k : Int) < n → wfK f t0.toNat (t0.toNat + 1 + 11 * k) ∧ (0 ≤ f (t0.toNat + 1 + 11 * k) → f (t0.toNat + 1 + 11 * k) ≤ 4 → f (t0.toNat + 1 + 11 * k + 2) ≤ wr)
theorem CLS_add {f g : Nat → Int} {t0 wr wr2 n x : Int} (h : CLS f t0 wr n) (h0 : 0 ≤ t0) (hn0 : 0 ≤ n) (hn : n ≤ 23) (hw0 : 0 ≤ wr) (hw : wr ≤ wr2) (hw3 : wr2 ≤ 300) (hx : x = t0 + 1 + 11 * n) (hf : ∀ j : Nat, (t0 < j ∧ (j : Int) < x ∨ (x + 11 ≤ j ∧ (j : Int) < t0 + 265 + 2 * wr)) → g j = f j)
    (ht : g x.toNat ≠ 10 ∨ (1 ≤ g (x + 3).toNat ∧ g (x + 3).toNat ≤ 6 ∧ 0 ≤ g (x + 2).toNat ∧ g (x + 2).toNat ≤ 3)) (hl : 4 < g x.toNat ∨ (0 ≤ g (x + 1).toNat ∧ g (x + 1).toNat ≤ g (x + 2).toNat ∧ g (x + 2).toNat ≤ wr2)) (hc : g x.toNat ≤ 4 → wfC g (g (x + 2).toNat - g (x + 1).toNat).toNat (t0 + 265 + 2 * g (x + 1).toNat).toNat 0) : CLS g t0 wr2 (n + 1) := by
  intro k hk
  by_cases e : (k : Int) = n
  · have ex : t0.toNat + 1 + 11 * k = x.toNat := by omega
    rw [ex, show x.toNat + 2 = (x + 2).toNat by omega]
    refine ⟨⟨fun q => ?_, fun q0 q4 => ?_⟩, fun q0 q4 => ?_⟩
    · rw [show x.toNat + 3 = (x + 3).toNat by omega, show x.toNat + 2 = (x + 2).toNat by omega]
      rcases ht with z | z
      · exact absurd q z
      · exact z
    · rw [show x.toNat + 1 = (x + 1).toNat by omega, show x.toNat + 2 = (x + 2).toNat by omega]
      rcases hl with z | ⟨z1, z2, z3⟩
      · omega
      · refine ⟨z1, z2, by omega, ?_⟩
        have q := hc q4
        rw [show (t0 + 265 + 2 * g (x + 1).toNat).toNat = t0.toNat + 265 + 2 * (g (x + 1).toNat).toNat by omega] at q
        exact q
    · rcases hl with z | ⟨z1, z2, z3⟩
      · omega
      · exact z3
  · obtain ⟨⟨a, b⟩, c⟩ := h k (by omega)
    have e0 := hf (t0.toNat + 1 + 11 * k) (by omega)
    have e1 := hf (t0.toNat + 1 + 11 * k + 1) (by omega)
    have e2 := hf (t0.toNat + 1 + 11 * k + 2) (by omega)
    have e3 := hf (t0.toNat + 1 + 11 * k + 3) (by omega)
    refine ⟨⟨fun q => ?_, fun q0 q4 => ?_⟩, fun q0 q4 => ?_⟩
    · rw [e0] at q
      rw [e2, e3]
      exact a q
    · rw [e0] at q0 q4
      obtain ⟨b1, b2, b3, b4⟩ := b q0 q4
      have c1 := c q0 q4
      rw [e1, e2]
      exact ⟨b1, b2, b3, wfC_co _ _ _ (fun q y z => hf q (by omega)) b4⟩
    · rw [e0] at q0 q4
      rw [e2]
      have := c q0 q4
      omega
theorem BX.a5 {M0 M : Mem} (h : BX M0 M) {v : Int} (hv : v = mI M 55 5 + 1) (h4 : v ≤ 4) (hw : wfT (mI M 57) (mI M 55 5).toNat) : BX M0 (sI M 55 5 v) := by
  obtain ⟨⟨h1, h2, h3, h4', h5, h6, h7⟩, hd⟩ := h
  have eo : ∀ b, b ≠ 5 → mI (sI M 55 5 v) 55 b = mI M 55 b := fun b hb => by rw [mI_sI, if_neg (fun e => hb e.2)]
  have e0 : mI (sI M 55 5 v) 55 5 = v := mI_same
  have e6 : mI (sI M 55 5 v) 56 = mI M 56 := funext fun b => by rw [mI_sI, if_neg (fun e => by omega)]
  have e7 : mI (sI M 55 5 v) 57 = mI M 57 := funext fun b => by rw [mI_sI, if_neg (fun e => by omega)]
  have hb := (h2 55 5).2.2.2.2.2.1 rfl
  refine ⟨⟨h1, bx_sI h2 (by show aB _ _; unfold aB; refine ⟨?_, ?_, ?_, ?_, ?_, ?_, ?_, ?_, ?_, ?_, ?_, ?_, ?_, ?_, ?_, ?_, ?_, ?_⟩ <;> intros <;> omega), h3.same ((Dz.refl M).sI (by decide)) (fun _ _ _ => rfl), ?_⟩, hd.sI (by decide)⟩
  refine ⟨⟨fun c d hc2 hd2 => ?_, fun t ht => ?_, ?_⟩, by rw [e6]; exact h5, by rw [e6, e0]; omega, fun t ht => ?_⟩
  · rw [eo 0 (by decide)] at hc2 ⊢
    rw [eo _ (by omega)]
    exact h4'.1 c d hc2 hd2
  · rw [eo 3 (by decide)] at ht
    rw [eo _ (by omega)]
    exact h4'.2.1 t ht
  · rw [eo 6 (by decide), e0]
    have := h4'.2.2
    omega
  · rw [e0] at ht
    rw [e7]
    by_cases e : (t : Int) = mI M 55 5
    · rw [show t = (mI M 55 5).toNat by omega]
      exact hw
    · exact h7 t (by omega)
set_option maxRecDepth 4000 in
theorem sfX12_clause {l : Launch} {M : Mem} (hB : Box M)   (p0 : mI M 54 14 = 873 * mI M 55 5) (p1 : mI M 54 10 ≤ mI M 54 9) (p2 : mI M 54 11 = 0 ∨ mI M 54 10 < mI M 54 9) (p3 : mI M 54 15 ≤ mI M 54 10) (p4 : 0 ≤ mI M 57 (mI M 54 14).toNat) (p5 : mI M 57 (mI M 54 14).toNat ≤ 24) (p6 : CLS (mI M 57) (mI M 54 14) (mI M 54 15) (mI M 57 (mI M 54 14).toNat)) : Call l mdX12_clause [aR 54] M (fun q N => ∃ r : Int, q = some (aI r) ∧ BF fT M N ∧ mI N 55 = mI M 55 ∧ (r = 0 → CLS (mI N 57) (mI N 54 14) (mI N 54 15) (mI N 57 (mI N 54 14).toNat)) ∧ (r ≠ 0 ∨ (0 ≤ mI N 57 (mI N 54 14).toNat ∧ mI N 57 (mI N 54 14).toNat ≤ 24)) ∧ (r ≠ 0 ∨ mI N 54 15 ≤ mI N 54 10) ∧ (r ≠ 0 ∨ mI M 54 10 < mI N 54 10) ∧ mI N 54 10 ≤ mI N 54 9 ∧ (mI N 54 11 = 0 ∨ mI N 54 10 < mI N 54 9) ∧ mI N 54 14 = mI M 54 14) := by
  have hB0 : BF fT M M := BF.start hB
  refine Call.of [some (aR 54), none, none, none, none] rfl (Nat.le_of_ble_eq_true rfl) rfl ?_
  have pCL := p6
  have hk10 := b54_10 hB
  have hk9 := b54_9 hB
  have hk15 := b54_15 hB
  have hk14 := b54_14 hB
  have hk5 := b55_5 hB
  refine vc_aload_n dX12_clause_0 rfl ?_
  refine vc_cVI dX12_clause_1 (sfX12_sortOf (M := M) hB0.1   ) rfl okX12_sortOf viX12_sortOf lkX12_262 (s_54 hB0.1.1) cl_12 rfl (Nat.le_of_ble_eq_true rfl) ⟨rfl, rfl⟩ (Nat.le_of_ble_eq_true rfl) (Nat.le_of_ble_eq_true rfl) (Nat.le_of_ble_eq_true rfl) ?_
  rintro x1 _ ⟨rfl, h2, h3, h4⟩
  refine vc_istore_n dX12_clause_4 (by decide) rfl (show _ = [some (aR 54), some (aI x1), none, none, none] from rfl) ?_
  refine vc_iload_n dX12_clause_5 rfl ?_
  refine vc_if_ge dX12_clause_6 (fun h5 => ?_) (fun h5 => ?_)
  · refine vc_iload_n dX12_clause_11 rfl ?_
    refine vc_iconst dX12_clause_12 rfl ?_
    refine vc_icmp_gt dX12_clause_13 (fun h6 => ?_) (fun h6 => ?_)
    · refine vc_aload_n dX12_clause_29 rfl ?_
      refine vc_getR dX12_clause_30 flX12_16 (s_54 hB0.1.1) rfl (r_54_2 hB0.1.1) ?_
      refine vc_aload_n dX12_clause_33 rfl ?_
      refine vc_getI dX12_clause_34 flX12_167 (s_54 hB0.1.1) rfl ?_
      have k7 : 0 ≤ mI M 54 14 ∧ mI M 54 14 ≤ 2619 := b54_14 (M := M) hB0.1
      refine vc_iaload dX12_clause_37 (s_57 hB0.1.1) (by omega) (by omega) ?_
      refine vc_nameI (fun x8 ex8 => ?_)
      refine vc_istore_n dX12_clause_38 (by decide) rfl (show _ = [some (aR 54), some (aI x1), some (aI x8), none, none] from rfl) ?_
      refine vc_iload_n dX12_clause_39 rfl ?_
      refine vc_bipush dX12_clause_40 rfl ?_
      refine vc_icmp_ne dX12_clause_42 (fun h9 => ?_) (fun h9 => ?_)
      · refine vc_iload_n dX12_clause_48 rfl ?_
        refine vc_iconst dX12_clause_49 rfl ?_
        refine vc_icmp_gt dX12_clause_50 (fun h10 => ?_) (fun h10 => by exfalso; omega)
        refine vc_aload_n dX12_clause_65 rfl ?_
        refine vc_iload_n dX12_clause_66 rfl ?_
        refine vc_putI dX12_clause_67 (plX12_177 _ rfl) (s_54 hB0.1.1) rfl ?_
        have kp11 : mI (sI M 54 16 x1) 55 = mI M 55 := (kp_sI rfl rfl)
        have hB12 : BF fT M (sI M 54 16 x1) := BF.w54_16 hB0 rfl
        refine vc_aload_n dX12_clause_70 rfl ?_
        have k13 : mI (sI M 54 16 x1) 54 9 = mI M 54 9 := rfl
        have k14 : mI (sI M 54 16 x1) 54 10 = mI M 54 10 := rfl
        have k15 : mI (sI M 54 16 x1) 54 11 = mI M 54 11 := rfl
        have k16 : mI (sI M 54 16 x1) 54 14 = mI M 54 14 := rfl
        have k17 : mI (sI M 54 16 x1) 54 15 = mI M 54 15 := rfl
        have k18 : mI (sI M 54 16 x1) 54 16 = x1 := rfl
        have k19 : mI (sI M 54 16 x1) 54 18 = mI M 54 18 := rfl
        have k20 : mI (sI M 54 16 x1) 54 19 = mI M 54 19 := rfl
        have k21 : mI (sI M 54 16 x1) 54 20 = mI M 54 20 := rfl
        have k22 : mI (sI M 54 16 x1) 54 21 = mI M 54 21 := rfl
        refine vc_cVU dX12_clause_71 (sfX12_nextToken (M := (sI M 54 16 x1)) hB12.1   ) rfl okX12_nextToken viX12_nextToken lkX12_193 (s_54 hB12.1.1) cl_12 rfl (Nat.le_of_ble_eq_true rfl) ⟨rfl, rfl⟩ (Nat.le_of_ble_eq_true rfl) (Nat.le_of_ble_eq_true rfl) (Nat.le_of_ble_eq_true rfl) ?_
        rintro M23 ⟨hB24, kp25, kp26, kp27, h28, h29, h30, h31, h32, h33, h34, h35, h36, h37⟩
        have hB38 : BF fT M M23 := BF.go hB12 hB24.t
        have kp39 : mI M23 55 = mI M 55 := kp_go kp11 kp25
        have hnt : mI M23 57 = mI M 57 := kp26
        have hb9 := b54_9 (M := M23) hB38.1
        refine vc_aload_n dX12_clause_74 rfl ?_
        refine vc_getI dX12_clause_75 flX12_167 (s_54 hB38.1.1) rfl ?_
        have k40 : 0 ≤ mI M23 54 14 ∧ mI M23 54 14 ≤ 2619 := b54_14 (M := M23) hB38.1
        refine vc_iconst dX12_clause_78 rfl ?_
        refine vc_iaddE dX12_clause_79 (by omega) (by omega) ?_
        refine vc_bipush dX12_clause_80 rfl ?_
        refine vc_iload_n dX12_clause_82 rfl ?_
        refine vc_imulE dX12_clause_83 (by omega) (by omega) ?_
        refine vc_iaddE dX12_clause_84 (by omega) (by omega) ?_
        refine vc_nameI (fun x41 ex41 => ?_)
        refine vc_istore_n dX12_clause_85 (by decide) rfl (show _ = [some (aR 54), some (aI x1), some (aI x8), some (aI x41), none] from rfl) ?_
        have hz5 := congrFun kp39 5
        refine vc_aload_n dX12_clause_86 rfl ?_
        refine vc_getR dX12_clause_87 flX12_16 (s_54 hB38.1.1) rfl (r_54_2 hB38.1.1) ?_
        refine vc_iload_n dX12_clause_90 rfl ?_
        refine vc_iload_n dX12_clause_91 rfl ?_
        refine vc_iastore dX12_clause_92 (s_57 hB38.1.1) (by omega) (by omega) ?_
        have kp42 : mI (sI M23 57 x41.toNat x1) 55 = mI M 55 := (kp_sI kp39 rfl)
        have hB43 : BF fT M (sI M23 57 x41.toNat x1) := BF.x57 (x := x41) hB38 (by omega)
        refine vc_aload_n dX12_clause_93 rfl ?_
        refine vc_iload_n dX12_clause_94 rfl ?_
        refine vc_iload_n dX12_clause_95 rfl ?_
        have k44 : mI (sI M23 57 x41.toNat x1) 54 9 = mI M23 54 9 := rfl
        have k45 : mI (sI M23 57 x41.toNat x1) 54 10 = mI M23 54 10 := rfl
        have k46 : mI (sI M23 57 x41.toNat x1) 54 11 = mI M23 54 11 := rfl
        have k47 : mI (sI M23 57 x41.toNat x1) 54 14 = mI M23 54 14 := rfl
        have k48 : mI (sI M23 57 x41.toNat x1) 54 15 = mI M23 54 15 := rfl
        have k49 : mI (sI M23 57 x41.toNat x1) 54 16 = mI M23 54 16 := rfl
        have k50 : mI (sI M23 57 x41.toNat x1) 54 18 = mI M23 54 18 := rfl
        have k51 : mI (sI M23 57 x41.toNat x1) 54 19 = mI M23 54 19 := rfl
        have k52 : mI (sI M23 57 x41.toNat x1) 54 20 = mI M23 54 20 := rfl
        have k53 : mI (sI M23 57 x41.toNat x1) 54 21 = mI M23 54 21 := rfl
        have hz5 := congrFun kp42 5
        have hbx := b54_10 (M := (sI M23 57 x41.toNat x1)) hB43.1
        refine vc_cVI dX12_clause_96 (sfX12_body (M := (sI M23 57 x41.toNat x1)) hB43.1  x1 x41 (by omega) (by omega) (by omega) (by omega) (by omega) (by omega) (by omega) (by omega) (by omega) (by omega)) rfl okX12_body viX12_body lkX12_272 (s_54 hB43.1.1) cl_12 rfl (Nat.le_of_ble_eq_true rfl) ⟨rfl, rfl⟩ (Nat.le_of_ble_eq_true rfl) (Nat.le_of_ble_eq_true rfl) (Nat.le_of_ble_eq_true rfl) ?_
        rintro x54 M55 ⟨hB56, kp57, h58, h59, h60, h61, h62, h63, h64, h65, h66, h67, h68, h69⟩
        have hB70 : BF fT M M55 := BF.go hB43 hB56
        have kp71 : mI M55 55 = mI M 55 := kp_go kp42 kp57
        have hbf := h69
        have hbs : mI M55 57 (x41).toNat = x1 := (hbf (x41).toNat (by omega)).trans mI_same
        have hb0 : mI M55 57 (mI M 54 14).toNat = x8 := (hbf (mI M 54 14).toNat (by omega)).trans (by rw [mI_sI, if_neg (fun e => by omega), hnt]; omega)
        have hbc := h60
        have hbw := b54_15 (M := M55) hB70.1
        have hfj : ∀ j : Nat, (mI M 54 14 < j ∧ (j : Int) < x41 ∨ (x41 + 11 ≤ j ∧ (j : Int) < mI M 54 14 + 265 + 2 * mI M 54 15)) → mI M55 57 j = mI M 57 j := fun j hj => (hbf j (by omega)).trans (by rw [mI_sI, if_neg (fun e => by omega), hnt])
        have hbi : mI M55 57 (mI M55 54 14).toNat = x8 := by rw [show mI M55 54 14 = mI M 54 14 by omega]; exact hb0
        refine vc_istore dX12_clause_99 (by decide) rfl (show _ = [some (aR 54), some (aI x1), some (aI x8), some (aI x41), some (aI x54)] from rfl) ?_
        refine vc_iload dX12_clause_101 rfl ?_
        refine vc_if_eq dX12_clause_103 (fun h72 => ?_) (fun h72 => ?_)
        · have hz5 := congrFun kp71 5
          have hx0 : x54 = 0 := by omega
          have ybt := h58.resolve_left (fun h => h hx0)
          have ybl := h59.resolve_left (fun h => h hx0)
          have y3 := h61.resolve_left (fun h => h hx0)
          have y4 := h62.resolve_left (fun h => h hx0)
          have y5 := h63.resolve_left (fun h => h hx0)
          clear h58 h59 h61 h62 h63
          refine vc_aload_n dX12_clause_109 rfl ?_
          refine vc_getR dX12_clause_110 flX12_16 (s_54 hB70.1.1) rfl (r_54_2 hB70.1.1) ?_
          refine vc_aload_n dX12_clause_113 rfl ?_
          refine vc_getI dX12_clause_114 flX12_167 (s_54 hB70.1.1) rfl ?_
          have k73 : 0 ≤ mI M55 54 14 ∧ mI M55 54 14 ≤ 2619 := b54_14 (M := M55) hB70.1
          refine vc_dup2 dX12_clause_117 rfl rfl ?_
          refine vc_iaload dX12_clause_118 (s_57 hB70.1.1) (by omega) (by omega) ?_
          refine vc_iconst dX12_clause_119 rfl ?_
          refine vc_iaddE dX12_clause_120 (by omega) (by omega) ?_
          refine vc_iastore dX12_clause_121 (s_57 hB70.1.1) (by omega) (by omega) ?_
          have kp74 : mI (sI M55 57 ((mI M55 54 14).toNat) ((mI M55 57 ((mI M55 54 14).toNat)) + 1)) 55 = mI M 55 := (kp_sI kp71 rfl)
          have hB75 : BF fT M (sI M55 57 ((mI M55 54 14).toNat) ((mI M55 57 ((mI M55 54 14).toNat)) + 1)) := BF.x57 (x := mI M55 54 14) hB70 (by omega)
          refine vc_aload_n dX12_clause_122 rfl ?_
          refine vc_getI dX12_clause_123 flX12_129 (s_54 hB75.1.1) rfl ?_
          refine vc_topI (mI M55 54 11) rfl ?_
          refine vc_bipush dX12_clause_126 rfl ?_
          refine vc_icmp_eq dX12_clause_128 (fun h76 => ?_) (fun h76 => ?_)
          · refine vc_aload_n dX12_clause_133 rfl ?_
            have k77 : mI (sI M55 57 ((mI M55 54 14).toNat) ((mI M55 57 ((mI M55 54 14).toNat)) + 1)) 54 9 = mI M55 54 9 := rfl
            have k78 : mI (sI M55 57 ((mI M55 54 14).toNat) ((mI M55 57 ((mI M55 54 14).toNat)) + 1)) 54 10 = mI M55 54 10 := rfl
            have k79 : mI (sI M55 57 ((mI M55 54 14).toNat) ((mI M55 57 ((mI M55 54 14).toNat)) + 1)) 54 11 = mI M55 54 11 := rfl
            have k80 : mI (sI M55 57 ((mI M55 54 14).toNat) ((mI M55 57 ((mI M55 54 14).toNat)) + 1)) 54 14 = mI M55 54 14 := rfl
            have k81 : mI (sI M55 57 ((mI M55 54 14).toNat) ((mI M55 57 ((mI M55 54 14).toNat)) + 1)) 54 15 = mI M55 54 15 := rfl
            have k82 : mI (sI M55 57 ((mI M55 54 14).toNat) ((mI M55 57 ((mI M55 54 14).toNat)) + 1)) 54 16 = mI M55 54 16 := rfl
            have k83 : mI (sI M55 57 ((mI M55 54 14).toNat) ((mI M55 57 ((mI M55 54 14).toNat)) + 1)) 54 18 = mI M55 54 18 := rfl
            have k84 : mI (sI M55 57 ((mI M55 54 14).toNat) ((mI M55 57 ((mI M55 54 14).toNat)) + 1)) 54 19 = mI M55 54 19 := rfl
            have k85 : mI (sI M55 57 ((mI M55 54 14).toNat) ((mI M55 57 ((mI M55 54 14).toNat)) + 1)) 54 20 = mI M55 54 20 := rfl
            have k86 : mI (sI M55 57 ((mI M55 54 14).toNat) ((mI M55 57 ((mI M55 54 14).toNat)) + 1)) 54 21 = mI M55 54 21 := rfl
            refine vc_cVU dX12_clause_134 (sfX12_nextToken (M := (sI M55 57 ((mI M55 54 14).toNat) ((mI M55 57 ((mI M55 54 14).toNat)) + 1))) hB75.1   ) rfl okX12_nextToken viX12_nextToken lkX12_193 (s_54 hB75.1.1) cl_12 rfl (Nat.le_of_ble_eq_true rfl) ⟨rfl, rfl⟩ (Nat.le_of_ble_eq_true rfl) (Nat.le_of_ble_eq_true rfl) (Nat.le_of_ble_eq_true rfl) ?_
            rintro M87 ⟨hB88, kp89, kp90, kp91, h92, h93, h94, h95, h96, h97, h98, h99, h100, h101⟩
            have hB102 : BF fT M M87 := BF.go hB75 hB88.t
            have kp103 : mI M87 55 = mI M 55 := kp_go kp74 kp89
            have hn57 : ∀ j : Nat, j ≠ (mI M 54 14).toNat → mI M87 57 j = mI M55 57 j := fun j hj => (congrFun kp90 j).trans (by rw [show mI M55 54 14 = mI M 54 14 by omega, mI_sI, if_neg (fun e => hj e.2)])
            have hn0 : mI M87 57 (mI M 54 14).toNat = x8 + 1 := (congrFun kp90 _).trans (by rw [show mI M55 54 14 = mI M 54 14 by omega, mI_same, hb0])
            have hn1 : mI M87 57 (mI M87 54 14).toNat = x8 + 1 := by rw [show mI M87 54 14 = mI M 54 14 by omega]; exact hn0
            have hg0 := hn57 (x41 ).toNat (by omega)
            have hg1 := hn57 (x41 + 1).toNat (by omega)
            have hg2 := hn57 (x41 + 2).toNat (by omega)
            have hg3 := hn57 (x41 + 3).toNat (by omega)
            have hcls : CLS (mI M87 57) (mI M87 54 14) (mI M87 54 15) (mI M87 57 (mI M87 54 14).toNat) := by
              rw [show mI M87 54 14 = mI M 54 14 by omega, hn0]
              refine CLS_add (f := mI M 57) (wr := mI M 54 15) (x := x41) (h := by have q := pCL; rw [show mI M 57 (mI M 54 14).toNat = x8 by omega] at q; exact q) (by omega) (by omega) (by omega) (by omega) (by omega) (by omega) (by omega) (fun j hj => (hn57 j (by omega)).trans (hfj j (by omega))) ?_ ?_ ?_
              · omega
              · omega
              · intro h4
                rw [hg1, hg2]
                refine wfC_co _ _ _ (fun q a b => hn57 q (by omega)) ?_
                have q := hbc hx0 (by omega)
                rw [show mI (sI M23 57 x41.toNat x1) 54 14 = mI M 54 14 by omega] at q
                exact q
            clear ybt ybl hg0 hg1 hg2 hg3
            refine vc_iconst dX12_clause_137 rfl ?_
            refine vc_iret dX12_clause_138 rfl (Nat.le_of_ble_eq_true rfl) (Nat.le_of_ble_eq_true rfl) ?_
            exact ⟨_, rfl, hB102, kp103, fun _ => hcls, by omega, by omega, by omega, by omega, by omega, by omega⟩
          · refine vc_iconst dX12_clause_131 rfl ?_
            refine vc_iret dX12_clause_132 rfl (Nat.le_of_ble_eq_true rfl) (Nat.le_of_ble_eq_true rfl) ?_
            have k104 : mI (sI M55 57 ((mI M55 54 14).toNat) ((mI M55 57 ((mI M55 54 14).toNat)) + 1)) 54 9 = mI M55 54 9 := rfl
            have k105 : mI (sI M55 57 ((mI M55 54 14).toNat) ((mI M55 57 ((mI M55 54 14).toNat)) + 1)) 54 10 = mI M55 54 10 := rfl
            have k106 : mI (sI M55 57 ((mI M55 54 14).toNat) ((mI M55 57 ((mI M55 54 14).toNat)) + 1)) 54 11 = mI M55 54 11 := rfl
            have k107 : mI (sI M55 57 ((mI M55 54 14).toNat) ((mI M55 57 ((mI M55 54 14).toNat)) + 1)) 54 14 = mI M55 54 14 := rfl
            have k108 : mI (sI M55 57 ((mI M55 54 14).toNat) ((mI M55 57 ((mI M55 54 14).toNat)) + 1)) 54 15 = mI M55 54 15 := rfl
            have k109 : mI (sI M55 57 ((mI M55 54 14).toNat) ((mI M55 57 ((mI M55 54 14).toNat)) + 1)) 54 16 = mI M55 54 16 := rfl
            have k110 : mI (sI M55 57 ((mI M55 54 14).toNat) ((mI M55 57 ((mI M55 54 14).toNat)) + 1)) 54 18 = mI M55 54 18 := rfl
            have k111 : mI (sI M55 57 ((mI M55 54 14).toNat) ((mI M55 57 ((mI M55 54 14).toNat)) + 1)) 54 19 = mI M55 54 19 := rfl
            have k112 : mI (sI M55 57 ((mI M55 54 14).toNat) ((mI M55 57 ((mI M55 54 14).toNat)) + 1)) 54 20 = mI M55 54 20 := rfl
            have k113 : mI (sI M55 57 ((mI M55 54 14).toNat) ((mI M55 57 ((mI M55 54 14).toNat)) + 1)) 54 21 = mI M55 54 21 := rfl
            exact ⟨_, rfl, hB75, kp74, fun h => absurd h (by first | decide | assumption), by omega, by omega, by omega, by omega, by omega, by omega⟩
        · refine vc_iload dX12_clause_106 rfl ?_
          refine vc_iret dX12_clause_108 rfl (Nat.le_of_ble_eq_true rfl) (Nat.le_of_ble_eq_true rfl) ?_
          exact ⟨_, rfl, hB70, kp71, fun h => absurd h (by first | decide | assumption), by omega, by omega, by omega, by omega, by omega, by omega⟩
      · refine vc_bipush dX12_clause_45 rfl ?_
        refine vc_iret dX12_clause_47 rfl (Nat.le_of_ble_eq_true rfl) (Nat.le_of_ble_eq_true rfl) ?_
        exact ⟨_, rfl, hB0, rfl, fun h => absurd h (by first | decide | assumption), by omega, by omega, by omega, by omega, by omega, by omega⟩
    · refine vc_aload_n dX12_clause_16 rfl ?_
      refine vc_getI dX12_clause_17 flX12_265 (s_54 hB0.1.1) rfl ?_
      refine vc_iload_n dX12_clause_20 rfl ?_
      refine vc_cSI dX12_clause_21 (sfX12_has (M := M) hB0.1  (mI M 54 21) x1 ) rfl okX12_has stX12_has lkX12_268 rfl (Nat.le_of_ble_eq_true rfl) ⟨rfl, rfl⟩ (Nat.le_of_ble_eq_true rfl) (Nat.le_of_ble_eq_true rfl) (Nat.le_of_ble_eq_true rfl) ?_
      rintro x114 _ ⟨rfl, h115, h116⟩
      refine vc_if_eq dX12_clause_24 (fun h117 => ?_) (fun h117 => ?_)
      · refine vc_aload_n dX12_clause_29 rfl ?_
        refine vc_getR dX12_clause_30 flX12_16 (s_54 hB0.1.1) rfl (r_54_2 hB0.1.1) ?_
        refine vc_aload_n dX12_clause_33 rfl ?_
        refine vc_getI dX12_clause_34 flX12_167 (s_54 hB0.1.1) rfl ?_
        have k118 : 0 ≤ mI M 54 14 ∧ mI M 54 14 ≤ 2619 := b54_14 (M := M) hB0.1
        refine vc_iaload dX12_clause_37 (s_57 hB0.1.1) (by omega) (by omega) ?_
        refine vc_nameI (fun x119 ex119 => ?_)
        refine vc_istore_n dX12_clause_38 (by decide) rfl (show _ = [some (aR 54), some (aI x1), some (aI x119), none, none] from rfl) ?_
        refine vc_iload_n dX12_clause_39 rfl ?_
        refine vc_bipush dX12_clause_40 rfl ?_
        refine vc_icmp_ne dX12_clause_42 (fun h120 => ?_) (fun h120 => ?_)
        · refine vc_iload_n dX12_clause_48 rfl ?_
          refine vc_iconst dX12_clause_49 rfl ?_
          refine vc_icmp_gt dX12_clause_50 (fun h121 => by exfalso; omega) (fun h121 => ?_)
          refine vc_aload_n dX12_clause_53 rfl ?_
          refine vc_dup dX12_clause_54 rfl ?_
          refine vc_getI dX12_clause_55 flX12_265 (s_54 hB0.1.1) rfl ?_
          refine vc_iconst dX12_clause_58 rfl ?_
          refine vc_iload_n dX12_clause_59 rfl ?_
          refine vc_ishl dX12_clause_60 ?_
          refine vc_ior dX12_clause_61 ?_
          refine vc_putI dX12_clause_62 (plX12_265 _ rfl) (s_54 hB0.1.1) rfl ?_
          have kp122 : mI (sI M 54 21 (orI (mI M 54 21) (shlI 1 x1))) 55 = mI M 55 := (kp_sI rfl rfl)
          have hB123 : BF fT M (sI M 54 21 (orI (mI M 54 21) (shlI 1 x1))) := BF.w54_21 hB0 rfl
          refine vc_aload_n dX12_clause_65 rfl ?_
          refine vc_iload_n dX12_clause_66 rfl ?_
          refine vc_putI dX12_clause_67 (plX12_177 _ rfl) (s_54 hB123.1.1) rfl ?_
          have kp124 : mI (sI (sI M 54 21 (orI (mI M 54 21) (shlI 1 x1))) 54 16 x1) 55 = mI M 55 := (kp_sI kp122 rfl)
          have hB125 : BF fT M (sI (sI M 54 21 (orI (mI M 54 21) (shlI 1 x1))) 54 16 x1) := BF.w54_16 hB123 rfl
          refine vc_aload_n dX12_clause_70 rfl ?_
          have k126 : mI (sI (sI M 54 21 (orI (mI M 54 21) (shlI 1 x1))) 54 16 x1) 54 9 = mI M 54 9 := rfl
          have k127 : mI (sI (sI M 54 21 (orI (mI M 54 21) (shlI 1 x1))) 54 16 x1) 54 10 = mI M 54 10 := rfl
          have k128 : mI (sI (sI M 54 21 (orI (mI M 54 21) (shlI 1 x1))) 54 16 x1) 54 11 = mI M 54 11 := rfl
          have k129 : mI (sI (sI M 54 21 (orI (mI M 54 21) (shlI 1 x1))) 54 16 x1) 54 14 = mI M 54 14 := rfl
          have k130 : mI (sI (sI M 54 21 (orI (mI M 54 21) (shlI 1 x1))) 54 16 x1) 54 15 = mI M 54 15 := rfl
          have k131 : mI (sI (sI M 54 21 (orI (mI M 54 21) (shlI 1 x1))) 54 16 x1) 54 16 = x1 := rfl
          have k132 : mI (sI (sI M 54 21 (orI (mI M 54 21) (shlI 1 x1))) 54 16 x1) 54 18 = mI M 54 18 := rfl
          have k133 : mI (sI (sI M 54 21 (orI (mI M 54 21) (shlI 1 x1))) 54 16 x1) 54 19 = mI M 54 19 := rfl
          have k134 : mI (sI (sI M 54 21 (orI (mI M 54 21) (shlI 1 x1))) 54 16 x1) 54 20 = mI M 54 20 := rfl
          have k135 : mI (sI (sI M 54 21 (orI (mI M 54 21) (shlI 1 x1))) 54 16 x1) 54 21 = orI (mI M 54 21) (shlI 1 x1) := rfl
          refine vc_cVU dX12_clause_71 (sfX12_nextToken (M := (sI (sI M 54 21 (orI (mI M 54 21) (shlI 1 x1))) 54 16 x1)) hB125.1   ) rfl okX12_nextToken viX12_nextToken lkX12_193 (s_54 hB125.1.1) cl_12 rfl (Nat.le_of_ble_eq_true rfl) ⟨rfl, rfl⟩ (Nat.le_of_ble_eq_true rfl) (Nat.le_of_ble_eq_true rfl) (Nat.le_of_ble_eq_true rfl) ?_
          rintro M136 ⟨hB137, kp138, kp139, kp140, h141, h142, h143, h144, h145, h146, h147, h148, h149, h150⟩
          have hB151 : BF fT M M136 := BF.go hB125 hB137.t
          have kp152 : mI M136 55 = mI M 55 := kp_go kp124 kp138
          have hnt : mI M136 57 = mI M 57 := kp139
          have hb9 := b54_9 (M := M136) hB151.1
          refine vc_aload_n dX12_clause_74 rfl ?_
          refine vc_getI dX12_clause_75 flX12_167 (s_54 hB151.1.1) rfl ?_
          have k153 : 0 ≤ mI M136 54 14 ∧ mI M136 54 14 ≤ 2619 := b54_14 (M := M136) hB151.1
          refine vc_iconst dX12_clause_78 rfl ?_
          refine vc_iaddE dX12_clause_79 (by omega) (by omega) ?_
          refine vc_bipush dX12_clause_80 rfl ?_
          refine vc_iload_n dX12_clause_82 rfl ?_
          refine vc_imulE dX12_clause_83 (by omega) (by omega) ?_
          refine vc_iaddE dX12_clause_84 (by omega) (by omega) ?_
          refine vc_nameI (fun x154 ex154 => ?_)
          refine vc_istore_n dX12_clause_85 (by decide) rfl (show _ = [some (aR 54), some (aI x1), some (aI x119), some (aI x154), none] from rfl) ?_
          have hz5 := congrFun kp152 5
          refine vc_aload_n dX12_clause_86 rfl ?_
          refine vc_getR dX12_clause_87 flX12_16 (s_54 hB151.1.1) rfl (r_54_2 hB151.1.1) ?_
          refine vc_iload_n dX12_clause_90 rfl ?_
          refine vc_iload_n dX12_clause_91 rfl ?_
          refine vc_iastore dX12_clause_92 (s_57 hB151.1.1) (by omega) (by omega) ?_
          have kp155 : mI (sI M136 57 x154.toNat x1) 55 = mI M 55 := (kp_sI kp152 rfl)
          have hB156 : BF fT M (sI M136 57 x154.toNat x1) := BF.x57 (x := x154) hB151 (by omega)
          refine vc_aload_n dX12_clause_93 rfl ?_
          refine vc_iload_n dX12_clause_94 rfl ?_
          refine vc_iload_n dX12_clause_95 rfl ?_
          have k157 : mI (sI M136 57 x154.toNat x1) 54 9 = mI M136 54 9 := rfl
          have k158 : mI (sI M136 57 x154.toNat x1) 54 10 = mI M136 54 10 := rfl
          have k159 : mI (sI M136 57 x154.toNat x1) 54 11 = mI M136 54 11 := rfl
          have k160 : mI (sI M136 57 x154.toNat x1) 54 14 = mI M136 54 14 := rfl
          have k161 : mI (sI M136 57 x154.toNat x1) 54 15 = mI M136 54 15 := rfl
          have k162 : mI (sI M136 57 x154.toNat x1) 54 16 = mI M136 54 16 := rfl
          have k163 : mI (sI M136 57 x154.toNat x1) 54 18 = mI M136 54 18 := rfl
          have k164 : mI (sI M136 57 x154.toNat x1) 54 19 = mI M136 54 19 := rfl
          have k165 : mI (sI M136 57 x154.toNat x1) 54 20 = mI M136 54 20 := rfl
          have k166 : mI (sI M136 57 x154.toNat x1) 54 21 = mI M136 54 21 := rfl
          have hz5 := congrFun kp155 5
          have hbx := b54_10 (M := (sI M136 57 x154.toNat x1)) hB156.1
          refine vc_cVI dX12_clause_96 (sfX12_body (M := (sI M136 57 x154.toNat x1)) hB156.1  x1 x154 (by omega) (by omega) (by omega) (by omega) (by omega) (by omega) (by omega) (by omega) (by omega) (by omega)) rfl okX12_body viX12_body lkX12_272 (s_54 hB156.1.1) cl_12 rfl (Nat.le_of_ble_eq_true rfl) ⟨rfl, rfl⟩ (Nat.le_of_ble_eq_true rfl) (Nat.le_of_ble_eq_true rfl) (Nat.le_of_ble_eq_true rfl) ?_
          rintro x167 M168 ⟨hB169, kp170, h171, h172, h173, h174, h175, h176, h177, h178, h179, h180, h181, h182⟩
          have hB183 : BF fT M M168 := BF.go hB156 hB169
          have kp184 : mI M168 55 = mI M 55 := kp_go kp155 kp170
          have hbf := h182
          have hbs : mI M168 57 (x154).toNat = x1 := (hbf (x154).toNat (by omega)).trans mI_same
          have hb0 : mI M168 57 (mI M 54 14).toNat = x119 := (hbf (mI M 54 14).toNat (by omega)).trans (by rw [mI_sI, if_neg (fun e => by omega), hnt]; omega)
          have hbc := h173
          have hbw := b54_15 (M := M168) hB183.1
          have hfj : ∀ j : Nat, (mI M 54 14 < j ∧ (j : Int) < x154 ∨ (x154 + 11 ≤ j ∧ (j : Int) < mI M 54 14 + 265 + 2 * mI M 54 15)) → mI M168 57 j = mI M 57 j := fun j hj => (hbf j (by omega)).trans (by rw [mI_sI, if_neg (fun e => by omega), hnt])
          have hbi : mI M168 57 (mI M168 54 14).toNat = x119 := by rw [show mI M168 54 14 = mI M 54 14 by omega]; exact hb0
          refine vc_istore dX12_clause_99 (by decide) rfl (show _ = [some (aR 54), some (aI x1), some (aI x119), some (aI x154), some (aI x167)] from rfl) ?_
          refine vc_iload dX12_clause_101 rfl ?_
          refine vc_if_eq dX12_clause_103 (fun h185 => ?_) (fun h185 => ?_)
          · have hz5 := congrFun kp184 5
            have hx0 : x167 = 0 := by omega
            have ybt := h171.resolve_left (fun h => h hx0)
            have ybl := h172.resolve_left (fun h => h hx0)
            have y3 := h174.resolve_left (fun h => h hx0)
            have y4 := h175.resolve_left (fun h => h hx0)
            have y5 := h176.resolve_left (fun h => h hx0)
            clear h171 h172 h174 h175 h176
            refine vc_aload_n dX12_clause_109 rfl ?_
            refine vc_getR dX12_clause_110 flX12_16 (s_54 hB183.1.1) rfl (r_54_2 hB183.1.1) ?_
            refine vc_aload_n dX12_clause_113 rfl ?_
            refine vc_getI dX12_clause_114 flX12_167 (s_54 hB183.1.1) rfl ?_
            have k186 : 0 ≤ mI M168 54 14 ∧ mI M168 54 14 ≤ 2619 := b54_14 (M := M168) hB183.1
            refine vc_dup2 dX12_clause_117 rfl rfl ?_
            refine vc_iaload dX12_clause_118 (s_57 hB183.1.1) (by omega) (by omega) ?_
            refine vc_iconst dX12_clause_119 rfl ?_
            refine vc_iaddE dX12_clause_120 (by omega) (by omega) ?_
            refine vc_iastore dX12_clause_121 (s_57 hB183.1.1) (by omega) (by omega) ?_
            have kp187 : mI (sI M168 57 ((mI M168 54 14).toNat) ((mI M168 57 ((mI M168 54 14).toNat)) + 1)) 55 = mI M 55 := (kp_sI kp184 rfl)
            have hB188 : BF fT M (sI M168 57 ((mI M168 54 14).toNat) ((mI M168 57 ((mI M168 54 14).toNat)) + 1)) := BF.x57 (x := mI M168 54 14) hB183 (by omega)
            refine vc_aload_n dX12_clause_122 rfl ?_
            refine vc_getI dX12_clause_123 flX12_129 (s_54 hB188.1.1) rfl ?_
            refine vc_topI (mI M168 54 11) rfl ?_
            refine vc_bipush dX12_clause_126 rfl ?_
            refine vc_icmp_eq dX12_clause_128 (fun h189 => ?_) (fun h189 => ?_)
            · refine vc_aload_n dX12_clause_133 rfl ?_
              have k190 : mI (sI M168 57 ((mI M168 54 14).toNat) ((mI M168 57 ((mI M168 54 14).toNat)) + 1)) 54 9 = mI M168 54 9 := rfl
              have k191 : mI (sI M168 57 ((mI M168 54 14).toNat) ((mI M168 57 ((mI M168 54 14).toNat)) + 1)) 54 10 = mI M168 54 10 := rfl
              have k192 : mI (sI M168 57 ((mI M168 54 14).toNat) ((mI M168 57 ((mI M168 54 14).toNat)) + 1)) 54 11 = mI M168 54 11 := rfl
              have k193 : mI (sI M168 57 ((mI M168 54 14).toNat) ((mI M168 57 ((mI M168 54 14).toNat)) + 1)) 54 14 = mI M168 54 14 := rfl
              have k194 : mI (sI M168 57 ((mI M168 54 14).toNat) ((mI M168 57 ((mI M168 54 14).toNat)) + 1)) 54 15 = mI M168 54 15 := rfl
              have k195 : mI (sI M168 57 ((mI M168 54 14).toNat) ((mI M168 57 ((mI M168 54 14).toNat)) + 1)) 54 16 = mI M168 54 16 := rfl
              have k196 : mI (sI M168 57 ((mI M168 54 14).toNat) ((mI M168 57 ((mI M168 54 14).toNat)) + 1)) 54 18 = mI M168 54 18 := rfl
              have k197 : mI (sI M168 57 ((mI M168 54 14).toNat) ((mI M168 57 ((mI M168 54 14).toNat)) + 1)) 54 19 = mI M168 54 19 := rfl
              have k198 : mI (sI M168 57 ((mI M168 54 14).toNat) ((mI M168 57 ((mI M168 54 14).toNat)) + 1)) 54 20 = mI M168 54 20 := rfl
              have k199 : mI (sI M168 57 ((mI M168 54 14).toNat) ((mI M168 57 ((mI M168 54 14).toNat)) + 1)) 54 21 = mI M168 54 21 := rfl
              refine vc_cVU dX12_clause_134 (sfX12_nextToken (M := (sI M168 57 ((mI M168 54 14).toNat) ((mI M168 57 ((mI M168 54 14).toNat)) + 1))) hB188.1   ) rfl okX12_nextToken viX12_nextToken lkX12_193 (s_54 hB188.1.1) cl_12 rfl (Nat.le_of_ble_eq_true rfl) ⟨rfl, rfl⟩ (Nat.le_of_ble_eq_true rfl) (Nat.le_of_ble_eq_true rfl) (Nat.le_of_ble_eq_true rfl) ?_
              rintro M200 ⟨hB201, kp202, kp203, kp204, h205, h206, h207, h208, h209, h210, h211, h212, h213, h214⟩
              have hB215 : BF fT M M200 := BF.go hB188 hB201.t
              have kp216 : mI M200 55 = mI M 55 := kp_go kp187 kp202
              have hn57 : ∀ j : Nat, j ≠ (mI M 54 14).toNat → mI M200 57 j = mI M168 57 j := fun j hj => (congrFun kp203 j).trans (by rw [show mI M168 54 14 = mI M 54 14 by omega, mI_sI, if_neg (fun e => hj e.2)])
              have hn0 : mI M200 57 (mI M 54 14).toNat = x119 + 1 := (congrFun kp203 _).trans (by rw [show mI M168 54 14 = mI M 54 14 by omega, mI_same, hb0])
              have hn1 : mI M200 57 (mI M200 54 14).toNat = x119 + 1 := by rw [show mI M200 54 14 = mI M 54 14 by omega]; exact hn0
              have hg0 := hn57 (x154 ).toNat (by omega)
              have hg1 := hn57 (x154 + 1).toNat (by omega)
              have hg2 := hn57 (x154 + 2).toNat (by omega)
              have hg3 := hn57 (x154 + 3).toNat (by omega)
              have hcls : CLS (mI M200 57) (mI M200 54 14) (mI M200 54 15) (mI M200 57 (mI M200 54 14).toNat) := by
                rw [show mI M200 54 14 = mI M 54 14 by omega, hn0]
                refine CLS_add (f := mI M 57) (wr := mI M 54 15) (x := x154) (h := by have q := pCL; rw [show mI M 57 (mI M 54 14).toNat = x119 by omega] at q; exact q) (by omega) (by omega) (by omega) (by omega) (by omega) (by omega) (by omega) (fun j hj => (hn57 j (by omega)).trans (hfj j (by omega))) ?_ ?_ ?_
                · omega
                · omega
                · intro h4
                  rw [hg1, hg2]
                  refine wfC_co _ _ _ (fun q a b => hn57 q (by omega)) ?_
                  have q := hbc hx0 (by omega)
                  rw [show mI (sI M136 57 x154.toNat x1) 54 14 = mI M 54 14 by omega] at q
                  exact q
              clear ybt ybl hg0 hg1 hg2 hg3
              refine vc_iconst dX12_clause_137 rfl ?_
              refine vc_iret dX12_clause_138 rfl (Nat.le_of_ble_eq_true rfl) (Nat.le_of_ble_eq_true rfl) ?_
              exact ⟨_, rfl, hB215, kp216, fun _ => hcls, by omega, by omega, by omega, by omega, by omega, by omega⟩
            · refine vc_iconst dX12_clause_131 rfl ?_
              refine vc_iret dX12_clause_132 rfl (Nat.le_of_ble_eq_true rfl) (Nat.le_of_ble_eq_true rfl) ?_
              have k217 : mI (sI M168 57 ((mI M168 54 14).toNat) ((mI M168 57 ((mI M168 54 14).toNat)) + 1)) 54 9 = mI M168 54 9 := rfl
              have k218 : mI (sI M168 57 ((mI M168 54 14).toNat) ((mI M168 57 ((mI M168 54 14).toNat)) + 1)) 54 10 = mI M168 54 10 := rfl
              have k219 : mI (sI M168 57 ((mI M168 54 14).toNat) ((mI M168 57 ((mI M168 54 14).toNat)) + 1)) 54 11 = mI M168 54 11 := rfl
              have k220 : mI (sI M168 57 ((mI M168 54 14).toNat) ((mI M168 57 ((mI M168 54 14).toNat)) + 1)) 54 14 = mI M168 54 14 := rfl
              have k221 : mI (sI M168 57 ((mI M168 54 14).toNat) ((mI M168 57 ((mI M168 54 14).toNat)) + 1)) 54 15 = mI M168 54 15 := rfl
              have k222 : mI (sI M168 57 ((mI M168 54 14).toNat) ((mI M168 57 ((mI M168 54 14).toNat)) + 1)) 54 16 = mI M168 54 16 := rfl
              have k223 : mI (sI M168 57 ((mI M168 54 14).toNat) ((mI M168 57 ((mI M168 54 14).toNat)) + 1)) 54 18 = mI M168 54 18 := rfl
              have k224 : mI (sI M168 57 ((mI M168 54 14).toNat) ((mI M168 57 ((mI M168 54 14).toNat)) + 1)) 54 19 = mI M168 54 19 := rfl
              have k225 : mI (sI M168 57 ((mI M168 54 14).toNat) ((mI M168 57 ((mI M168 54 14).toNat)) + 1)) 54 20 = mI M168 54 20 := rfl
              have k226 : mI (sI M168 57 ((mI M168 54 14).toNat) ((mI M168 57 ((mI M168 54 14).toNat)) + 1)) 54 21 = mI M168 54 21 := rfl
              exact ⟨_, rfl, hB188, kp187, fun h => absurd h (by first | decide | assumption), by omega, by omega, by omega, by omega, by omega, by omega⟩
          · refine vc_iload dX12_clause_106 rfl ?_
            refine vc_iret dX12_clause_108 rfl (Nat.le_of_ble_eq_true rfl) (Nat.le_of_ble_eq_true rfl) ?_
            exact ⟨_, rfl, hB183, kp184, fun h => absurd h (by first | decide | assumption), by omega, by omega, by omega, by omega, by omega, by omega⟩
        · refine vc_bipush dX12_clause_45 rfl ?_
          refine vc_iret dX12_clause_47 rfl (Nat.le_of_ble_eq_true rfl) (Nat.le_of_ble_eq_true rfl) ?_
          exact ⟨_, rfl, hB0, rfl, fun h => absurd h (by first | decide | assumption), by omega, by omega, by omega, by omega, by omega, by omega⟩
      · refine vc_iconst dX12_clause_27 rfl ?_
        refine vc_iret dX12_clause_28 rfl (Nat.le_of_ble_eq_true rfl) (Nat.le_of_ble_eq_true rfl) ?_
        exact ⟨_, rfl, hB0, rfl, fun h => absurd h (by first | decide | assumption), by omega, by omega, by omega, by omega, by omega, by omega⟩
  · refine vc_iconst dX12_clause_9 rfl ?_
    refine vc_iret dX12_clause_10 rfl (Nat.le_of_ble_eq_true rfl) (Nat.le_of_ble_eq_true rfl) ?_
    exact ⟨_, rfl, hB0, rfl, fun h => absurd h (by first | decide | assumption), by omega, by omega, by omega, by omega, by omega, by omega⟩

set_option maxRecDepth 4000 in
theorem sfX12_readText {l : Launch} {M : Mem} (hB : Box M)   (p0 : mI M 55 5 ≤ 3) : Call l mdX12_readText [aR 54] M (fun q N => ∃ r : Int, q = some (aI r) ∧ BF fT M N ∧ mI N 55 = mI M 55 ∧ (r = 0 → wfT (mI N 57) (mI M 55 5).toNat)) := by
  have hB0 : BF fT M M := BF.start hB
  refine Call.of [some (aR 54), none] rfl (Nat.le_of_ble_eq_true rfl) rfl ?_
  have hk5 := b55_5 hB
  refine vc_aload_n dX12_readText_0 rfl ?_
  refine vc_sipush dX12_readText_1 rfl ?_
  refine vc_aload_n dX12_readText_4 rfl ?_
  refine vc_getR dX12_readText_5 flX12_7 (s_54 hB0.1.1) rfl (r_54_0 hB0.1.1) ?_
  refine vc_iconst dX12_readText_8 rfl ?_
  refine vc_iaload dX12_readText_9 (s_55 hB0.1.1) (by omega) (by omega) ?_
  refine vc_topI (mI M 55 5) rfl ?_
  have k1 : 0 ≤ mI M 55 5 ∧ mI M 55 5 ≤ 4 := b55_5 (M := M) hB0.1
  refine vc_imulE dX12_readText_10 (by omega) (by omega) ?_
  refine vc_putI dX12_readText_11 (plX12_167 _ rfl) (s_54 hB0.1.1) rfl ?_
  have kp3 : mI (sI M 54 14 (873 * (mI M 55 5))) 55 = mI M 55 := (kp_sI rfl rfl)
  have hB4 : BF fT M (sI M 54 14 (873 * (mI M 55 5))) := BF.w54_14 hB0 rfl (by omega) (by omega)
  refine vc_aload_n dX12_readText_14 rfl ?_
  refine vc_getR dX12_readText_15 flX12_16 (s_54 hB4.1.1) rfl (r_54_2 hB4.1.1) ?_
  refine vc_aload_n dX12_readText_18 rfl ?_
  refine vc_getI dX12_readText_19 flX12_167 (s_54 hB4.1.1) rfl ?_
  refine vc_topI (873 * (mI M 55 5)) rfl ?_
  refine vc_iconst dX12_readText_22 rfl ?_
  refine vc_iastore dX12_readText_23 (s_57 hB4.1.1) (by omega) (by omega) ?_
  have kp5 : mI (sI (sI M 54 14 (873 * (mI M 55 5))) 57 ((873 * (mI M 55 5)).toNat) 0) 55 = mI M 55 := (kp_sI kp3 rfl)
  have hB6 : BF fT M (sI (sI M 54 14 (873 * (mI M 55 5))) 57 ((873 * (mI M 55 5)).toNat) 0) := BF.x57 (x := 873 * (mI M 55 5)) hB4 (by first | omega | (show 873 * mI M 55 5 ≤ _; omega))
  refine vc_aload_n dX12_readText_24 rfl ?_
  refine vc_iconst dX12_readText_25 rfl ?_
  refine vc_putI dX12_readText_26 (plX12_170 _ rfl) (s_54 hB6.1.1) rfl ?_
  have kp7 : mI (sI (sI (sI M 54 14 (873 * (mI M 55 5))) 57 ((873 * (mI M 55 5)).toNat) 0) 54 15 0) 55 = mI M 55 := (kp_sI kp5 rfl)
  have hB8 : BF fT M (sI (sI (sI M 54 14 (873 * (mI M 55 5))) 57 ((873 * (mI M 55 5)).toNat) 0) 54 15 0) := BF.w54_15 hB6 rfl (by omega) (by omega)
  refine vc_aload_n dX12_readText_29 rfl ?_
  refine vc_iconst dX12_readText_30 rfl ?_
  refine vc_putI dX12_readText_31 (plX12_265 _ rfl) (s_54 hB8.1.1) rfl ?_
  have kp9 : mI (sI (sI (sI (sI M 54 14 (873 * (mI M 55 5))) 57 ((873 * (mI M 55 5)).toNat) 0) 54 15 0) 54 21 0) 55 = mI M 55 := (kp_sI kp7 rfl)
  have hB10 : BF fT M (sI (sI (sI (sI M 54 14 (873 * (mI M 55 5))) 57 ((873 * (mI M 55 5)).toNat) 0) 54 15 0) 54 21 0) := BF.w54_21 hB8 rfl
  refine vc_aload_n dX12_readText_34 rfl ?_
  refine vc_iconst dX12_readText_35 rfl ?_
  refine vc_putI dX12_readText_36 (plX12_119 _ rfl) (s_54 hB10.1.1) rfl ?_
  have kp11 : mI (sI (sI (sI (sI (sI M 54 14 (873 * (mI M 55 5))) 57 ((873 * (mI M 55 5)).toNat) 0) 54 15 0) 54 21 0) 54 9 0) 55 = mI M 55 := (kp_sI kp9 rfl)
  have hB12 : BF fT M (sI (sI (sI (sI (sI M 54 14 (873 * (mI M 55 5))) 57 ((873 * (mI M 55 5)).toNat) 0) 54 15 0) 54 21 0) 54 9 0) := BF.w54_9 hB10 rfl (by omega) (by omega)
  refine vc_aload_n dX12_readText_39 rfl ?_
  have k13 : mI (sI (sI (sI (sI (sI M 54 14 (873 * (mI M 55 5))) 57 ((873 * (mI M 55 5)).toNat) 0) 54 15 0) 54 21 0) 54 9 0) 54 9 = 0 := rfl
  have k14 : mI (sI (sI (sI (sI (sI M 54 14 (873 * (mI M 55 5))) 57 ((873 * (mI M 55 5)).toNat) 0) 54 15 0) 54 21 0) 54 9 0) 54 10 = mI M 54 10 := rfl
  have k15 : mI (sI (sI (sI (sI (sI M 54 14 (873 * (mI M 55 5))) 57 ((873 * (mI M 55 5)).toNat) 0) 54 15 0) 54 21 0) 54 9 0) 54 11 = mI M 54 11 := rfl
  have k16 : mI (sI (sI (sI (sI (sI M 54 14 (873 * (mI M 55 5))) 57 ((873 * (mI M 55 5)).toNat) 0) 54 15 0) 54 21 0) 54 9 0) 54 14 = 873 * (mI M 55 5) := rfl
  have k17 : mI (sI (sI (sI (sI (sI M 54 14 (873 * (mI M 55 5))) 57 ((873 * (mI M 55 5)).toNat) 0) 54 15 0) 54 21 0) 54 9 0) 54 15 = 0 := rfl
  have k18 : mI (sI (sI (sI (sI (sI M 54 14 (873 * (mI M 55 5))) 57 ((873 * (mI M 55 5)).toNat) 0) 54 15 0) 54 21 0) 54 9 0) 54 16 = mI M 54 16 := rfl
  have k19 : mI (sI (sI (sI (sI (sI M 54 14 (873 * (mI M 55 5))) 57 ((873 * (mI M 55 5)).toNat) 0) 54 15 0) 54 21 0) 54 9 0) 54 18 = mI M 54 18 := rfl
  have k20 : mI (sI (sI (sI (sI (sI M 54 14 (873 * (mI M 55 5))) 57 ((873 * (mI M 55 5)).toNat) 0) 54 15 0) 54 21 0) 54 9 0) 54 19 = mI M 54 19 := rfl
  have k21 : mI (sI (sI (sI (sI (sI M 54 14 (873 * (mI M 55 5))) 57 ((873 * (mI M 55 5)).toNat) 0) 54 15 0) 54 21 0) 54 9 0) 54 20 = mI M 54 20 := rfl
  have k22 : mI (sI (sI (sI (sI (sI M 54 14 (873 * (mI M 55 5))) 57 ((873 * (mI M 55 5)).toNat) 0) 54 15 0) 54 21 0) 54 9 0) 54 21 = 0 := rfl
  refine vc_cVU dX12_readText_40 (sfX12_nextToken (M := (sI (sI (sI (sI (sI M 54 14 (873 * (mI M 55 5))) 57 ((873 * (mI M 55 5)).toNat) 0) 54 15 0) 54 21 0) 54 9 0)) hB12.1   ) rfl okX12_nextToken viX12_nextToken lkX12_193 (s_54 hB12.1.1) cl_12 rfl (Nat.le_of_ble_eq_true rfl) ⟨rfl, rfl⟩ (Nat.le_of_ble_eq_true rfl) (Nat.le_of_ble_eq_true rfl) (Nat.le_of_ble_eq_true rfl) ?_
  rintro M23 ⟨hB24, kp25, kp26, kp27, h28, h29, h30, h31, h32, h33, h34, h35, h36, h37⟩
  have hB38 : BF fT M M23 := BF.go hB12 hB24.t
  have kp39 : mI M23 55 = mI M 55 := kp_go kp11 kp25
  have hn0 : mI M23 57 (mI M23 54 14).toNat = 0 := by rw [kp26, show mI M23 54 14 = 873 * mI M 55 5 by omega]; exact mI_same
  have hcl0 : CLS (mI M23 57) (mI M23 54 14) (mI M23 54 15) (mI M23 57 (mI M23 54 14).toNat) := by rw [hn0]; intro k hk; exfalso; omega
  have lp43 : ∀ (n43 : Nat) (Mq43 : Mem) , (BF fT M Mq43) → (mI Mq43 55 = mI M 55) → (CLS (mI Mq43 57) (mI Mq43 54 14) (mI Mq43 54 15) (mI Mq43 57 (mI Mq43 54 14).toNat)) → (0 ≤ mI Mq43 57 (mI Mq43 54 14).toNat) → (mI Mq43 57 (mI Mq43 54 14).toNat ≤ 24) → (mI Mq43 54 15 ≤ mI Mq43 54 10) → (mI Mq43 54 14 = 873 * mI M 55 5) → (mI Mq43 54 10 ≤ mI Mq43 54 9) → (mI Mq43 54 11 = 0 ∨ mI Mq43 54 10 < mI Mq43 54 9) → (300 - mI Mq43 54 10).toNat < n43 → VC l mdX12_readText 43 [some (aR 54), none] [] Mq43 0 0 (fun q N => ∃ r : Int, q = some (aI r) ∧ BF fT M N ∧ mI N 55 = mI M 55 ∧ (r = 0 → wfT (mI N 57) (mI M 55 5).toNat)) := by
    intro n43
    induction n43 with
    | zero => intro Mq43 hQ43 kp43_55 g43i0 g43i1 g43i2 g43i3 g43i4 g43i5 g43i6 hm43; exact absurd hm43 (Nat.not_lt_zero _)
    | succ n43 ih43 =>
      intro Mq43 hQ43 kp43_55 g43i0 g43i1 g43i2 g43i3 g43i4 g43i5 g43i6 hm43
      refine vc_aload_n dX12_readText_43 rfl ?_
      refine vc_getI dX12_readText_44 flX12_129 (s_54 hQ43.1.1) rfl ?_
      refine vc_if_eq dX12_readText_47 (fun h40 => ?_) (fun h40 => ?_)
      · refine vc_iconst dX12_readText_64 rfl ?_
        refine vc_iret dX12_readText_65 rfl (Nat.le_of_ble_eq_true rfl) (Nat.le_of_ble_eq_true rfl) ?_
        refine ⟨_, rfl, hQ43, kp43_55, fun _ => ⟨?_, ?_, fun k hk => ?_⟩⟩
        · rw [show 873 * (mI M 55 5).toNat = (mI Mq43 54 14).toNat by omega]; exact g43i1
        · rw [show 873 * (mI M 55 5).toNat = (mI Mq43 54 14).toNat by omega]; exact g43i2
        · rw [show 873 * (mI M 55 5).toNat = (mI Mq43 54 14).toNat by omega] at hk ⊢
          exact (g43i0 k hk).1
      · refine vc_aload_n dX12_readText_50 rfl ?_
        have hz5 := congrFun kp43_55 5
        refine vc_cVI dX12_readText_51 (sfX12_clause (M := Mq43) hQ43.1   (by omega) (by omega) (by omega) (by omega) (by omega) (by omega) (by exact g43i0)) rfl okX12_clause viX12_clause lkX12_275 (s_54 hQ43.1.1) cl_12 rfl (Nat.le_of_ble_eq_true rfl) ⟨rfl, rfl⟩ (Nat.le_of_ble_eq_true rfl) (Nat.le_of_ble_eq_true rfl) (Nat.le_of_ble_eq_true rfl) ?_
        rintro x41 M42 ⟨hB43, kp44, h45, h46, h47, h48, h49, h50, h51⟩
        have hB52 : BF fT M M42 := BF.go hQ43 hB43
        have kp53 : mI M42 55 = mI M 55 := kp_go kp43_55 kp44
        have hcn := h45
        have hbx := b54_10 (M := M42) hB52.1
        refine vc_istore_n dX12_readText_54 (by decide) rfl (show _ = [some (aR 54), some (aI x41)] from rfl) ?_
        refine vc_iload_n dX12_readText_55 rfl ?_
        refine vc_if_eq dX12_readText_56 (fun h54 => ?_) (fun h54 => ?_)
        · refine vc_goto dX12_readText_61 ?_
          refine vc_less [some (aR 54), none] (lessL_keep (lessL_drop (lessL_nil))) ?_
          exact ih43 M42 hB52 kp53 (by first | exact hcl0 | exact hcn (by omega)) (by omega) (by omega) (by omega) (by omega) (by omega) (by omega) (by omega)
        · refine vc_iload_n dX12_readText_59 rfl ?_
          refine vc_iret dX12_readText_60 rfl (Nat.le_of_ble_eq_true rfl) (Nat.le_of_ble_eq_true rfl) ?_
          exact ⟨_, rfl, hB52, kp53, fun h => absurd h (by first | decide | assumption)⟩
  exact lp43 _ M23 hB38 kp39 (by first | exact hcl0 | exact hcn (by omega)) (by omega) (by omega) (by omega) (by omega) (by omega) (by omega) (Nat.lt_succ_self _)

set_option maxRecDepth 4000 in
theorem sfX12_text {l : Launch} {M : Mem} (hB : Box M)    : Call l mdX12_text [aR 54] M (fun q N => ∃ r : Int, q = some (aI r) ∧ BX M N) := by
  have hB0 : BX M M := BX.start hB
  refine Call.of [some (aR 54)] rfl (Nat.le_of_ble_eq_true rfl) rfl ?_
  have hk5 := b55_5 hB
  refine vc_aload_n dX12_text_0 rfl ?_
  refine vc_getR dX12_text_1 flX12_7 (s_54 hB0.1.1) rfl (r_54_0 hB0.1.1) ?_
  refine vc_iconst dX12_text_4 rfl ?_
  refine vc_iaload dX12_text_5 (s_55 hB0.1.1) (by omega) (by omega) ?_
  refine vc_topI (mI M 55 5) rfl ?_
  have k1 : 0 ≤ mI M 55 5 ∧ mI M 55 5 ≤ 4 := b55_5 (M := M) hB0.1
  refine vc_iconst dX12_text_6 rfl ?_
  refine vc_icmp_ne dX12_text_7 (fun h2 => ?_) (fun h2 => ?_)
  · refine vc_aload_n dX12_text_12 rfl ?_
    refine vc_aload_n dX12_text_13 rfl ?_
    refine vc_cVI dX12_text_14 (sfX12_readText (M := M) hB0.1   (by omega)) rfl okX12_readText viX12_readText lkX12_278 (s_54 hB0.1.1) cl_12 rfl (Nat.le_of_ble_eq_true rfl) ⟨rfl, rfl⟩ (Nat.le_of_ble_eq_true rfl) (Nat.le_of_ble_eq_true rfl) (Nat.le_of_ble_eq_true rfl) ?_
    rintro x3 M4 ⟨hB5, kp6, h7⟩
    have hB8 : BX M M4 := BX.go hB0 hB5.x
    have hwt := h7
    have ht5 := congrFun kp6 5
    refine vc_putI dX12_text_17 (plX12_25 _ rfl) (s_54 hB8.1.1) rfl ?_
    have hB9 : BX M (sI M4 54 7 x3) := BX.w54_7 hB8
    refine vc_aload_n dX12_text_20 rfl ?_
    refine vc_aload_n dX12_text_21 rfl ?_
    refine vc_getI dX12_text_22 flX12_25 (s_54 hB9.1.1) rfl ?_
    refine vc_topI (x3) rfl ?_
    refine vc_if_ne dX12_text_25 (fun h10 => ?_) (fun h10 => ?_)
    · refine vc_aload_n dX12_text_32 rfl ?_
      refine vc_getI dX12_text_33 flX12_126 (s_54 hB9.1.1) rfl ?_
      refine vc_topI (mI M4 54 10) rfl ?_
      have k11 : 0 ≤ mI M4 54 10 ∧ mI M4 54 10 ≤ 300 := b54_10 (M := (sI M4 54 7 x3)) hB9.1
      refine vc_putI dX12_text_36 (plX12_29 _ rfl) (s_54 hB9.1.1) rfl ?_
      have hB12 : BX M (sI (sI M4 54 7 x3) 54 8 (mI M4 54 10)) := BX.w54_8 hB9
      refine vc_aload_n dX12_text_39 rfl ?_
      refine vc_iconst dX12_text_40 rfl ?_
      refine vc_putI dX12_text_41 (plX12_112 _ rfl) (s_54 hB12.1.1) rfl ?_
      have hB13 : BX M (sI (sI (sI M4 54 7 x3) 54 8 (mI M4 54 10)) 54 6 0) := BX.w54_6 hB12 (by omega) (by omega)
      refine vc_aload_n dX12_text_44 rfl ?_
      refine vc_getI dX12_text_45 flX12_25 (s_54 hB13.1.1) rfl ?_
      refine vc_topI (x3) rfl ?_
      refine vc_if_eq dX12_text_48 (fun h14 => ?_) (fun h14 => ?_)
      · refine vc_aload_n dX12_text_53 rfl ?_
        refine vc_getR dX12_text_54 flX12_7 (s_54 hB13.1.1) rfl (r_54_0 hB13.1.1) ?_
        refine vc_iconst dX12_text_57 rfl ?_
        refine vc_dup2 dX12_text_58 rfl rfl ?_
        refine vc_iaload dX12_text_59 (s_55 hB13.1.1) (by omega) (by omega) ?_
        refine vc_topI (mI M4 55 5) rfl ?_
        have k15 : 0 ≤ mI M4 55 5 ∧ mI M4 55 5 ≤ 4 := b55_5 (M := (sI (sI (sI M4 54 7 x3) 54 8 (mI M4 54 10)) 54 6 0)) hB13.1
        refine vc_iconst dX12_text_60 rfl ?_
        refine vc_iaddE dX12_text_61 (by omega) (by omega) ?_
        refine vc_iastore dX12_text_62 (s_55 hB13.1.1) (by omega) (by omega) ?_
        refine vc_mem (sI (sI (sI (sI M4 54 7 x3) 54 8 (mI M4 54 10)) 54 6 0) 55 5 ((mI M4 55 5) + 1)) rfl ?_
        have hB16 : BX M (sI (sI (sI (sI M4 54 7 x3) 54 8 (mI M4 54 10)) 54 6 0) 55 5 ((mI M4 55 5) + 1)) := BX.a5 hB13 (by first | rfl | omega) (by first | omega | (show mI M4 55 5 + 1 ≤ 4; omega)) (by have q := hwt (by omega); rw [← ht5] at q; exact q)
        refine vc_aload_n dX12_text_63 rfl ?_
        refine vc_getR dX12_text_64 flX12_7 (s_54 hB16.1.1) rfl (r_54_0 hB16.1.1) ?_
        refine vc_iconst dX12_text_67 rfl ?_
        refine vc_iaload dX12_text_68 (s_55 hB16.1.1) (by omega) (by omega) ?_
        refine vc_topI ((mI M4 55 5) + 1) rfl ?_
        refine vc_iconst dX12_text_69 rfl ?_
        refine vc_isubE dX12_text_70 (by omega) (by omega) ?_
        refine vc_iret dX12_text_71 rfl (Nat.le_of_ble_eq_true rfl) (Nat.le_of_ble_eq_true rfl) ?_
        exact ⟨_, rfl, hB16⟩
      · refine vc_iconst dX12_text_51 rfl ?_
        refine vc_iret dX12_text_52 rfl (Nat.le_of_ble_eq_true rfl) (Nat.le_of_ble_eq_true rfl) ?_
        exact ⟨_, rfl, hB13⟩
    · refine vc_iconst dX12_text_28 rfl ?_
      refine vc_goto dX12_text_29 ?_
      refine vc_putI dX12_text_36 (plX12_29 _ rfl) (s_54 hB9.1.1) rfl ?_
      have hB17 : BX M (sI (sI M4 54 7 x3) 54 8 (-1)) := BX.w54_8 hB9
      refine vc_aload_n dX12_text_39 rfl ?_
      refine vc_iconst dX12_text_40 rfl ?_
      refine vc_putI dX12_text_41 (plX12_112 _ rfl) (s_54 hB17.1.1) rfl ?_
      have hB18 : BX M (sI (sI (sI M4 54 7 x3) 54 8 (-1)) 54 6 0) := BX.w54_6 hB17 (by omega) (by omega)
      refine vc_aload_n dX12_text_44 rfl ?_
      refine vc_getI dX12_text_45 flX12_25 (s_54 hB18.1.1) rfl ?_
      refine vc_topI (x3) rfl ?_
      refine vc_if_eq dX12_text_48 (fun h19 => ?_) (fun h19 => by exfalso; omega)
      refine vc_aload_n dX12_text_53 rfl ?_
      refine vc_getR dX12_text_54 flX12_7 (s_54 hB18.1.1) rfl (r_54_0 hB18.1.1) ?_
      refine vc_iconst dX12_text_57 rfl ?_
      refine vc_dup2 dX12_text_58 rfl rfl ?_
      refine vc_iaload dX12_text_59 (s_55 hB18.1.1) (by omega) (by omega) ?_
      refine vc_topI (mI M4 55 5) rfl ?_
      have k20 : 0 ≤ mI M4 55 5 ∧ mI M4 55 5 ≤ 4 := b55_5 (M := (sI (sI (sI M4 54 7 x3) 54 8 (-1)) 54 6 0)) hB18.1
      refine vc_iconst dX12_text_60 rfl ?_
      refine vc_iaddE dX12_text_61 (by omega) (by omega) ?_
      refine vc_iastore dX12_text_62 (s_55 hB18.1.1) (by omega) (by omega) ?_
      refine vc_mem (sI (sI (sI (sI M4 54 7 x3) 54 8 (-1)) 54 6 0) 55 5 ((mI M4 55 5) + 1)) rfl ?_
      have hB21 : BX M (sI (sI (sI (sI M4 54 7 x3) 54 8 (-1)) 54 6 0) 55 5 ((mI M4 55 5) + 1)) := BX.a5 hB18 (by first | rfl | omega) (by first | omega | (show mI M4 55 5 + 1 ≤ 4; omega)) (by have q := hwt (by omega); rw [← ht5] at q; exact q)
      refine vc_aload_n dX12_text_63 rfl ?_
      refine vc_getR dX12_text_64 flX12_7 (s_54 hB21.1.1) rfl (r_54_0 hB21.1.1) ?_
      refine vc_iconst dX12_text_67 rfl ?_
      refine vc_iaload dX12_text_68 (s_55 hB21.1.1) (by omega) (by omega) ?_
      refine vc_topI ((mI M4 55 5) + 1) rfl ?_
      refine vc_iconst dX12_text_69 rfl ?_
      refine vc_isubE dX12_text_70 (by omega) (by omega) ?_
      refine vc_iret dX12_text_71 rfl (Nat.le_of_ble_eq_true rfl) (Nat.le_of_ble_eq_true rfl) ?_
      exact ⟨_, rfl, hB21⟩
  · refine vc_iconst dX12_text_10 rfl ?_
    refine vc_iret dX12_text_11 rfl (Nat.le_of_ble_eq_true rfl) (Nat.le_of_ble_eq_true rfl) ?_
    exact ⟨_, rfl, hB0⟩
