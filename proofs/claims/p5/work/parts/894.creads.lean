/-- row e of R is the clause at p -/
def Q25 (k x : Int → Int) (R : Nat → Int) (e : Nat) (p : Int) : Prop := (101 ≤ k p ∧ k p ≤ 116) ∧ R (5 * e) = k p - 101 ∧ (106 ≤ k p → R (5 * e + 1) = rw1 k (k p - 101) (x p)) ∧ (k p = 107 ∨ k p = 108 ∨ k p = 111 ∨ k p = 112 → R (5 * e + 2) = rw2 k x (k p - 101) (x p)) ∧ (k p = 107 ∨ k p = 108 ∨ k p = 111 → R (5 * e + 3) = rw3 k x (k p - 101) (x p)) ∧ (k p = 111 → R (5 * e + 4) = rw4 k x (x p))
theorem Q25.co {k x : Int → Int} {R R' : Nat → Int} {e : Nat} {p : Int} (h : Q25 k x R e p) (hr : ∀ i : Nat, 5 * e ≤ i → i < 5 * e + 5 → R' i = R i) : Q25 k x R' e p := by
  obtain ⟨a, b, c, d, f, g⟩ := h
  exact ⟨a, by rw [hr _ (by omega) (by omega)]; exact b, fun q => by rw [hr _ (by omega) (by omega)]; exact c q, fun q => by rw [hr _ (by omega) (by omega)]; exact d q, fun q => by rw [hr _ (by omega) (by omega)]; exact f q, fun q => by rw [hr _ (by omega) (by omega)]; exact g q⟩
theorem Q25.of {k x : Int → Int} {M N Md Nd : Mem} {e : Nat} {w p : Int} (hk : 101 ≤ k p ∧ k p ≤ 116) (hw : w = k p - 101) (hc : mI Md 22 13 = e) (h0 : mI N 25 (5 * e) = w) (hd : 5 ≤ w → D25 k x Md Nd w (x p)) (hn : 5 ≤ w → ∀ i : Nat, 5 * e < i → i < 5 * e + 5 → mI N 25 i = mI Nd 25 i) : Q25 k x (mI N 25) e p := by
  subst hw
  refine ⟨hk, h0, fun q => ?_, fun q => ?_, fun q => ?_, fun q => ?_⟩
  · rw [hn (by omega) _ (by omega) (by omega)]
    exact (hd (by omega)).1 _ (by omega)
  · rw [hn (by omega) _ (by omega) (by omega)]
    exact (hd (by omega)).2.1 (by omega) _ (by omega)
  · rw [hn (by omega) _ (by omega) (by omega)]
    exact (hd (by omega)).2.2.1 (by omega) _ (by omega)
  · rw [hn (by omega) _ (by omega) (by omega)]
    exact (hd (by omega)).2.2.2.1 (by omega) _ (by omega)
noncomputable def nxC (k x : Int → Int) (p : Int) : Int := x ((sBody k x (k p - 101) (x p)).2)
noncomputable def plS (k x : Int → Int) (p0 : Int) : Nat → Int
  | 0 => p0
  | e + 1 => nxC k x (plS k x p0 e)
theorem sClause_ok {k x : Int → Int} {on : Int → Int} {c p : Int} (h : (sClause k x on c p).1 = 0) : (sClause k x on c p).2 = nxC k x p ∧ (sBody k x (k p - 101) (x p)).1 = 0 ∧ 101 ≤ k p ∧ k p ≤ 116 := by
  unfold sClause at h ⊢
  by_cases e1 : ¬ (101 ≤ k p ∧ k p ≤ 116)
  · rw [if_pos e1] at h
    exact absurd h (by decide : ¬ (1 : Int) = 0)
  · rw [if_neg e1] at h ⊢
    by_cases e2 : k p - 101 ≤ 4 ∧ on (k p - 101) = 1
    · rw [if_pos e2] at h
      exact absurd h (by decide : ¬ (4 : Int) = 0)
    · rw [if_neg e2] at h ⊢
      by_cases e3 : 24 ≤ c
      · rw [if_pos e3] at h
        exact absurd h (by decide : ¬ (6 : Int) = 0)
      · rw [if_neg e3] at h ⊢
        by_cases e4 : (sBody k x (k p - 101) (x p)).1 = 0
        · rw [sBind_ok e4] at h ⊢
          exact ⟨sTok_ok h, e4, by omega⟩
        · rw [sBind_bad e4] at h
          exact absurd h e4

set_option maxRecDepth 4000 in
theorem sfX4_readClauseF {l : Launch} {M : Mem} (hB : Box M) (g : Nat → Int) (n p : Int) (hR : RS g n M p) (on : Int → Int) (c : Int) (hon : ONr (mI M 24) on) (hc : mI M 22 13 = c)   : Call l mdX4_readClause [aR 22] M (fun q N => ∃ r : Int, q = some (aI r) ∧ BF fQ M N ∧ mI N 26 = mI M 26 ∧ mI N 27 = mI M 27 ∧ mI N 28 = mI M 28 ∧ 0 ≤ r ∧ r ≤ 1 ∧ 0 ≤ mI N 22 9 ∧ (r = 1 → Q25 (tk g n) (nx g n) (mI N 25) (mI M 22 13).toNat p ∧ ∀ i : Nat, (i : Int) < 5 * mI M 22 13 → mI N 25 i = mI M 25 i) ∧ (r = 1 → ONr (mI N 24) (onA on (tk g n p - 101)) ∧ mI N 22 13 = c + 1) ∧ CR g n N r (sClause (tk g n) (nx g n) on c p)) := by
  have hB0 : BF fQ M M := BF.start hB
  refine Call.of [some (aR 22), none, none] rfl (Nat.le_of_ble_eq_true rfl) rfl ?_
  have ct1 := RS.ct hR
  unfold CT at ct1
  have rg2 := RS.rg hR
  refine vc_aload_n dX4_readClause_0 rfl ?_
  refine vc_getI dX4_readClause_1 flX4_69 (s_22 hB0.1.1) rfl ?_
  refine vc_iconst dX4_readClause_4 rfl ?_
  refine vc_icmp_ne dX4_readClause_5 (fun h3 => ?_) (fun h3 => ?_)
  · refine vc_aload_n dX4_readClause_24 rfl ?_
    refine vc_iconst dX4_readClause_25 rfl ?_
    refine vc_cVI dX4_readClause_26 (sfX4_failedF (M := M) hB0.1  g n p hR 1 ) rfl okX4_failed viX4_failed lkX4_122 (s_22 hB0.1.1) cl_4 rfl (Nat.le_of_ble_eq_true rfl) ⟨rfl, rfl⟩ (Nat.le_of_ble_eq_true rfl) (Nat.le_of_ble_eq_true rfl) (Nat.le_of_ble_eq_true rfl) ?_
    rintro x4 M5 ⟨hB6, kp7, kp8, kp9, kp10, kp11, h12, h13, h14, h15, h16, h17, h18⟩
    have hB19 : BF fQ M M5 := BF.go hB0 hB6
    have kp20 : mI M5 24 = mI M 24 := kp_go rfl kp7
    have kp21 : mI M5 26 = mI M 26 := kp_go rfl kp9
    have kp22 : mI M5 27 = mI M 27 := kp_go rfl kp10
    have kp23 : mI M5 28 = mI M 28 := kp_go rfl kp11
    refine vc_zret dX4_readClause_29 rfl (by first | decide | omega) (Nat.le_of_ble_eq_true rfl) (Nat.le_of_ble_eq_true rfl) ?_
    exact ⟨_, rfl, hB19, kp21, kp22, kp23, by omega, by omega, by omega, fun hr => absurd hr (by omega), fun hr => absurd hr (by omega), CRb (e := 1) (q := p) (by omega) h17 h18 (by omega) (by unfold sClause; rw [if_pos (by omega)])⟩
  · refine vc_aload_n dX4_readClause_8 rfl ?_
    refine vc_getI dX4_readClause_9 flX4_119 (s_22 hB0.1.1) rfl ?_
    refine vc_if_lt dX4_readClause_12 (fun h24 => ?_) (fun h24 => ?_)
    · refine vc_aload_n dX4_readClause_24 rfl ?_
      refine vc_iconst dX4_readClause_25 rfl ?_
      refine vc_cVI dX4_readClause_26 (sfX4_failedF (M := M) hB0.1  g n p hR 1 ) rfl okX4_failed viX4_failed lkX4_122 (s_22 hB0.1.1) cl_4 rfl (Nat.le_of_ble_eq_true rfl) ⟨rfl, rfl⟩ (Nat.le_of_ble_eq_true rfl) (Nat.le_of_ble_eq_true rfl) (Nat.le_of_ble_eq_true rfl) ?_
      rintro x25 M26 ⟨hB27, kp28, kp29, kp30, kp31, kp32, h33, h34, h35, h36, h37, h38, h39⟩
      have hB40 : BF fQ M M26 := BF.go hB0 hB27
      have kp41 : mI M26 24 = mI M 24 := kp_go rfl kp28
      have kp42 : mI M26 26 = mI M 26 := kp_go rfl kp30
      have kp43 : mI M26 27 = mI M 27 := kp_go rfl kp31
      have kp44 : mI M26 28 = mI M 28 := kp_go rfl kp32
      refine vc_zret dX4_readClause_29 rfl (by first | decide | omega) (Nat.le_of_ble_eq_true rfl) (Nat.le_of_ble_eq_true rfl) ?_
      exact ⟨_, rfl, hB40, kp42, kp43, kp44, by omega, by omega, by omega, fun hr => absurd hr (by omega), fun hr => absurd hr (by omega), CRb (e := 1) (q := p) (by omega) h38 h39 (by omega) (by unfold sClause; rw [if_pos (by omega)])⟩
    · refine vc_aload_n dX4_readClause_15 rfl ?_
      refine vc_getI dX4_readClause_16 flX4_119 (s_22 hB0.1.1) rfl ?_
      refine vc_bipush dX4_readClause_19 rfl ?_
      refine vc_icmp_le dX4_readClause_21 (fun h45 => ?_) (fun h45 => ?_)
      · refine vc_aload_n dX4_readClause_30 rfl ?_
        refine vc_getI dX4_readClause_31 flX4_119 (s_22 hB0.1.1) rfl ?_
        refine vc_nameI (fun x46 ex46 => ?_)
        refine vc_istore_n dX4_readClause_34 (by decide) rfl (show _ = [some (aR 22), some (aI x46), none] from rfl) ?_
        refine vc_iload_n dX4_readClause_35 rfl ?_
        refine vc_iconst dX4_readClause_36 rfl ?_
        refine vc_icmp_ge dX4_readClause_37 (fun h47 => ?_) (fun h47 => ?_)
        · refine vc_aload_n dX4_readClause_58 rfl ?_
          refine vc_getI dX4_readClause_59 flX4_53 (s_22 hB0.1.1) rfl ?_
          have k48 : 0 ≤ mI M 22 13 ∧ mI M 22 13 ≤ 24 := b22_13 (M := M) hB0.1
          refine vc_bipush dX4_readClause_62 rfl ?_
          refine vc_icmp_lt dX4_readClause_64 (fun h49 => ?_) (fun h49 => ?_)
          · refine vc_aload_n dX4_readClause_74 rfl ?_
            refine vc_iconst dX4_readClause_75 rfl ?_
            refine vc_iload_n dX4_readClause_76 rfl ?_
            refine vc_cVU dX4_readClause_77 (sfX4_keepF (M := M) hB0.1  g n p hR 0 x46 (by omega) (by omega) (by omega)) rfl okX4_keep viX4_keep lkX4_125 (s_22 hB0.1.1) cl_4 rfl (Nat.le_of_ble_eq_true rfl) ⟨rfl, rfl⟩ (Nat.le_of_ble_eq_true rfl) (Nat.le_of_ble_eq_true rfl) (Nat.le_of_ble_eq_true rfl) ?_
            rintro M50 ⟨hB51, kp52, kp53, kp54, kp55, h56, h57, h58, h59, h60⟩
            have hB61 : BF fQ M M50 := BF.go hB0 hB51
            have kp62 : mI M50 24 = mI M 24 := kp_go rfl kp52
            have kp63 : mI M50 26 = mI M 26 := kp_go rfl kp53
            have kp64 : mI M50 27 = mI M 27 := kp_go rfl kp54
            have kp65 : mI M50 28 = mI M 28 := kp_go rfl kp55
            refine vc_aload_n dX4_readClause_80 rfl ?_
            refine vc_cVI dX4_readClause_81 (sfX4_takeTokenF (M := M50) hB61.1  g n p h60 (by omega)) rfl okX4_takeToken viX4_takeToken lkX4_65 (s_22 hB61.1.1) cl_4 rfl (Nat.le_of_ble_eq_true rfl) ⟨rfl, rfl⟩ (Nat.le_of_ble_eq_true rfl) (Nat.le_of_ble_eq_true rfl) (Nat.le_of_ble_eq_true rfl) ?_
            rintro x66 M67 ⟨hB68, kp69, kp70, kp71, kp72, kp73, h74, h75, h76, h77, h78, h79⟩
            have hB80 : BF fQ M M67 := BF.go hB61 hB68
            have kp81 : mI M67 24 = mI M 24 := kp_go kp62 kp69
            have kp82 : mI M67 26 = mI M 26 := kp_go kp63 kp71
            have kp83 : mI M67 27 = mI M 27 := kp_go kp64 kp72
            have kp84 : mI M67 28 = mI M 28 := kp_go kp65 kp73
            refine vc_pop dX4_readClause_84 rfl ?_
            refine vc_iload_n dX4_readClause_85 rfl ?_
            refine vc_iconst dX4_readClause_86 rfl ?_
            refine vc_icmp_ge dX4_readClause_87 (fun h85 => ?_) (fun h85 => by exfalso; omega)
            refine vc_aload_n dX4_readClause_122 rfl ?_
            refine vc_iload_n dX4_readClause_123 rfl ?_
            refine vc_cVI dX4_readClause_124 (sfX4_readDeedF (M := M67) hB80.1  g n (nx g n p) h79 x46 (by omega) (by omega) (by omega)) rfl okX4_readDeed viX4_readDeed lkX4_138 (s_22 hB80.1.1) cl_4 rfl (Nat.le_of_ble_eq_true rfl) ⟨rfl, rfl⟩ (Nat.le_of_ble_eq_true rfl) (Nat.le_of_ble_eq_true rfl) (Nat.le_of_ble_eq_true rfl) ?_
            rintro x86 M87 ⟨hB88, kp89, kp90, kp91, kp92, h93, h94, h95, h96, h97, h98, h99⟩
            have hB100 : BF fQ M M87 := BF.go hB80 hB88
            have kp101 : mI M87 24 = mI M 24 := kp_go kp81 kp89
            have kp102 : mI M87 26 = mI M 26 := kp_go kp82 kp90
            have kp103 : mI M87 27 = mI M 27 := kp_go kp83 kp91
            have kp104 : mI M87 28 = mI M 28 := kp_go kp84 kp92
            refine vc_istore_n dX4_readClause_127 (by decide) rfl (show _ = [some (aR 22), some (aI x46), some (aI x86)] from rfl) ?_
            refine vc_iload_n dX4_readClause_128 rfl ?_
            refine vc_if_eq dX4_readClause_129 (fun h105 => ?_) (fun h105 => ?_)
            · refine vc_iconst dX4_readClause_141 rfl ?_
              refine vc_zret dX4_readClause_142 rfl (by first | decide | omega) (Nat.le_of_ble_eq_true rfl) (Nat.le_of_ble_eq_true rfl) ?_
              exact ⟨_, rfl, hB100, kp102, kp103, kp104, by omega, by omega, by omega, fun hr => absurd hr (by omega), fun hr => absurd hr (by omega), (by unfold sClause; rw [if_neg (by omega), if_neg (fun hh => by have h1 := hh.1; have h2 := hh.2; rw [show tk g n p - 101 = x46 by omega] at h2; omega), if_neg (by omega), show tk g n p - 101 = x46 by omega]; exact CR.b_bad h99 (by omega) (by omega))⟩
            · have e106 := CR.ok h99 (by omega)
              refine vc_aload_n dX4_readClause_132 rfl ?_
              refine vc_bipush dX4_readClause_133 rfl ?_
              refine vc_cVI dX4_readClause_135 (sfX4_readSignF (M := M87) hB100.1  g n ((sBody (tk g n) (nx g n) x46 (nx g n p)).2) e106.2 59 (by omega) (by omega)) rfl okX4_readSign viX4_readSign lkX4_141 (s_22 hB100.1.1) cl_4 rfl (Nat.le_of_ble_eq_true rfl) ⟨rfl, rfl⟩ (Nat.le_of_ble_eq_true rfl) (Nat.le_of_ble_eq_true rfl) (Nat.le_of_ble_eq_true rfl) ?_
              rintro x107 M108 ⟨hB109, kp110, kp111, kp112, kp113, kp114, h115, h116, h117, h118, h119, h120⟩
              have hB121 : BF fQ M M108 := BF.go hB100 hB109
              have kp122 : mI M108 24 = mI M 24 := kp_go kp101 kp110
              have kp123 : mI M108 26 = mI M 26 := kp_go kp102 kp112
              have kp124 : mI M108 27 = mI M 27 := kp_go kp103 kp113
              have kp125 : mI M108 28 = mI M 28 := kp_go kp104 kp114
              refine vc_if_ne dX4_readClause_138 (fun h126 => ?_) (fun h126 => ?_)
              · have e127 := CR.ok h120.cr (by omega)
                refine vc_aload_n dX4_readClause_143 rfl ?_
                refine vc_dup dX4_readClause_144 rfl ?_
                refine vc_getI dX4_readClause_145 flX4_53 (s_22 hB121.1.1) rfl ?_
                have k128 : 0 ≤ mI M108 22 13 ∧ mI M108 22 13 ≤ 24 := b22_13 (M := M108) hB121.1
                refine vc_iconst dX4_readClause_148 rfl ?_
                refine vc_iaddE dX4_readClause_149 (by omega) (by omega) ?_
                refine vc_putI dX4_readClause_150 (plX4_53 _ rfl) (s_22 hB121.1.1) rfl ?_
                have kp129 : mI (sI M108 22 13 ((mI M108 22 13) + 1)) 24 = mI M 24 := (kp_sI kp122 rfl)
                have kp130 : mI (sI M108 22 13 ((mI M108 22 13) + 1)) 26 = mI M 26 := (kp_sI kp123 rfl)
                have kp131 : mI (sI M108 22 13 ((mI M108 22 13) + 1)) 27 = mI M 27 := (kp_sI kp124 rfl)
                have kp132 : mI (sI M108 22 13 ((mI M108 22 13) + 1)) 28 = mI M 28 := (kp_sI kp125 rfl)
                have hB133 : BF fQ M (sI M108 22 13 ((mI M108 22 13) + 1)) := BF.w22_13 hB121 rfl (by omega) (by omega)
                refine vc_iconst dX4_readClause_153 rfl ?_
                refine vc_zret dX4_readClause_154 rfl (by first | decide | omega) (Nat.le_of_ble_eq_true rfl) (Nat.le_of_ble_eq_true rfl) ?_
                have k134 : mI (sI M108 22 13 ((mI M108 22 13) + 1)) 22 7 = mI M108 22 7 := rfl
                have k135 : mI (sI M108 22 13 ((mI M108 22 13) + 1)) 22 8 = mI M108 22 8 := rfl
                have k136 : mI (sI M108 22 13 ((mI M108 22 13) + 1)) 22 9 = mI M108 22 9 := rfl
                have k137 : mI (sI M108 22 13 ((mI M108 22 13) + 1)) 22 10 = mI M108 22 10 := rfl
                have k138 : mI (sI M108 22 13 ((mI M108 22 13) + 1)) 22 11 = mI M108 22 11 := rfl
                have k139 : mI (sI M108 22 13 ((mI M108 22 13) + 1)) 22 12 = mI M108 22 12 := rfl
                have k140 : mI (sI M108 22 13 ((mI M108 22 13) + 1)) 22 13 = (mI M108 22 13) + 1 := rfl
                have k141 : mI (sI M108 22 13 ((mI M108 22 13) + 1)) 22 14 = mI M108 22 14 := rfl
                have hR142 : RS g n (sI M108 22 13 ((mI M108 22 13) + 1)) (sTok (tk g n) (nx g n) (59 - 300) ((sBody (tk g n) (nx g n) x46 (nx g n p)).2)).2 := RS.same e127.2 (kp_sI rfl rfl) (kp_sI rfl rfl) (kp_sI rfl rfl) rfl rfl rfl rfl rfl
                exact ⟨_, rfl, hB133, kp130, kp131, kp132, by omega, by omega, by omega, fun _ => ⟨Q25.of (M := M) (N := (sI M108 22 13 ((mI M108 22 13) + 1))) (w := x46) ⟨by omega, by omega⟩ (by omega) (by omega) (by have hz : ∀ i : Nat, (i : Int) = 5 * mI M 22 13 → mI (sI M108 22 13 ((mI M108 22 13) + 1)) 25 i = x46 := fun i hi => ((show mI (sI M108 22 13 ((mI M108 22 13) + 1)) 25 i = mI M108 25 i from rfl).trans ((congrFun kp111 i).trans (((h98 (by omega)).2.2.2.2 i (Or.inl (by omega))).trans (congrFun kp70 i)))).trans (h59.1 i (by omega)); exact hz _ (by omega)) (fun _ => h98 (by omega)) (fun _ i i1 i2 => ((show mI (sI M108 22 13 ((mI M108 22 13) + 1)) 25 i = mI M108 25 i from rfl).trans (congrFun kp111 i))), fun i hi => ((show mI (sI M108 22 13 ((mI M108 22 13) + 1)) 25 i = mI M108 25 i from rfl).trans ((congrFun kp111 i).trans (((h98 (by omega)).2.2.2.2 i (Or.inl (by omega))).trans ((congrFun kp70 i).trans (h59.2 i (by omega))))))⟩, fun _ => ⟨by rw [show tk g n p - 101 = x46 by omega]; exact ONr.deed hon kp129 (by omega), by omega⟩, (by unfold sClause; rw [if_neg (by omega), if_neg (fun hh => by have h1 := hh.1; have h2 := hh.2; rw [show tk g n p - 101 = x46 by omega] at h2; omega), if_neg (by omega), show tk g n p - 101 = x46 by omega]; exact CR.b_ok h99 (by omega) (Or.inl ⟨rfl, e127.1, hR142⟩))⟩
              · refine vc_iconst dX4_readClause_141 rfl ?_
                refine vc_zret dX4_readClause_142 rfl (by first | decide | omega) (Nat.le_of_ble_eq_true rfl) (Nat.le_of_ble_eq_true rfl) ?_
                exact ⟨_, rfl, hB121, kp123, kp124, kp125, by omega, by omega, by omega, fun hr => absurd hr (by omega), fun hr => absurd hr (by omega), (by unfold sClause; rw [if_neg (by omega), if_neg (fun hh => by have h1 := hh.1; have h2 := hh.2; rw [show tk g n p - 101 = x46 by omega] at h2; omega), if_neg (by omega), show tk g n p - 101 = x46 by omega]; exact CR.b_ok h99 (by omega) (CR.cast h120.cr (by omega)))⟩
          · refine vc_aload_n dX4_readClause_67 rfl ?_
            refine vc_bipush dX4_readClause_68 rfl ?_
            refine vc_cVI dX4_readClause_70 (sfX4_failedF (M := M) hB0.1  g n p hR 6 ) rfl okX4_failed viX4_failed lkX4_122 (s_22 hB0.1.1) cl_4 rfl (Nat.le_of_ble_eq_true rfl) ⟨rfl, rfl⟩ (Nat.le_of_ble_eq_true rfl) (Nat.le_of_ble_eq_true rfl) (Nat.le_of_ble_eq_true rfl) ?_
            rintro x143 M144 ⟨hB145, kp146, kp147, kp148, kp149, kp150, h151, h152, h153, h154, h155, h156, h157⟩
            have hB158 : BF fQ M M144 := BF.go hB0 hB145
            have kp159 : mI M144 24 = mI M 24 := kp_go rfl kp146
            have kp160 : mI M144 26 = mI M 26 := kp_go rfl kp148
            have kp161 : mI M144 27 = mI M 27 := kp_go rfl kp149
            have kp162 : mI M144 28 = mI M 28 := kp_go rfl kp150
            refine vc_zret dX4_readClause_73 rfl (by first | decide | omega) (Nat.le_of_ble_eq_true rfl) (Nat.le_of_ble_eq_true rfl) ?_
            exact ⟨_, rfl, hB158, kp160, kp161, kp162, by omega, by omega, by omega, fun hr => absurd hr (by omega), fun hr => absurd hr (by omega), CRb (e := 6) (q := p) (by omega) h156 h157 (by omega) (by unfold sClause; rw [if_neg (by omega), if_neg (fun hh => by have h1 := hh.1; have h2 := hh.2; rw [show tk g n p - 101 = x46 by omega] at h2; omega), if_pos (by omega)])⟩
        · have hon1 := hon x46 (by omega) (by omega)
          refine vc_aload_n dX4_readClause_40 rfl ?_
          refine vc_getR dX4_readClause_41 flX4_18 (s_22 hB0.1.1) rfl (r_22_2 hB0.1.1) ?_
          refine vc_iconst dX4_readClause_44 rfl ?_
          refine vc_iload_n dX4_readClause_45 rfl ?_
          refine vc_imulE dX4_readClause_46 (by omega) (by omega) ?_
          refine vc_iaload dX4_readClause_47 (s_24 hB0.1.1) (by omega) (by omega) ?_
          have k163 : (-1) ≤ mI M 24 ((2 * x46).toNat) ∧ mI M 24 ((2 * x46).toNat) ≤ 300 := bA24 (M := M) hB0.1 _
          refine vc_iconst dX4_readClause_48 rfl ?_
          refine vc_icmp_eq dX4_readClause_49 (fun h165 => ?_) (fun h165 => ?_)
          · refine vc_aload_n dX4_readClause_58 rfl ?_
            refine vc_getI dX4_readClause_59 flX4_53 (s_22 hB0.1.1) rfl ?_
            have k166 : 0 ≤ mI M 22 13 ∧ mI M 22 13 ≤ 24 := b22_13 (M := M) hB0.1
            refine vc_bipush dX4_readClause_62 rfl ?_
            refine vc_icmp_lt dX4_readClause_64 (fun h167 => ?_) (fun h167 => ?_)
            · refine vc_aload_n dX4_readClause_74 rfl ?_
              refine vc_iconst dX4_readClause_75 rfl ?_
              refine vc_iload_n dX4_readClause_76 rfl ?_
              refine vc_cVU dX4_readClause_77 (sfX4_keepF (M := M) hB0.1  g n p hR 0 x46 (by omega) (by omega) (by omega)) rfl okX4_keep viX4_keep lkX4_125 (s_22 hB0.1.1) cl_4 rfl (Nat.le_of_ble_eq_true rfl) ⟨rfl, rfl⟩ (Nat.le_of_ble_eq_true rfl) (Nat.le_of_ble_eq_true rfl) (Nat.le_of_ble_eq_true rfl) ?_
              rintro M168 ⟨hB169, kp170, kp171, kp172, kp173, h174, h175, h176, h177, h178⟩
              have hB179 : BF fQ M M168 := BF.go hB0 hB169
              have kp180 : mI M168 24 = mI M 24 := kp_go rfl kp170
              have kp181 : mI M168 26 = mI M 26 := kp_go rfl kp171
              have kp182 : mI M168 27 = mI M 27 := kp_go rfl kp172
              have kp183 : mI M168 28 = mI M 28 := kp_go rfl kp173
              refine vc_aload_n dX4_readClause_80 rfl ?_
              refine vc_cVI dX4_readClause_81 (sfX4_takeTokenF (M := M168) hB179.1  g n p h178 (by omega)) rfl okX4_takeToken viX4_takeToken lkX4_65 (s_22 hB179.1.1) cl_4 rfl (Nat.le_of_ble_eq_true rfl) ⟨rfl, rfl⟩ (Nat.le_of_ble_eq_true rfl) (Nat.le_of_ble_eq_true rfl) (Nat.le_of_ble_eq_true rfl) ?_
              rintro x184 M185 ⟨hB186, kp187, kp188, kp189, kp190, kp191, h192, h193, h194, h195, h196, h197⟩
              have hB198 : BF fQ M M185 := BF.go hB179 hB186
              have kp199 : mI M185 24 = mI M 24 := kp_go kp180 kp187
              have kp200 : mI M185 26 = mI M 26 := kp_go kp181 kp189
              have kp201 : mI M185 27 = mI M 27 := kp_go kp182 kp190
              have kp202 : mI M185 28 = mI M 28 := kp_go kp183 kp191
              refine vc_pop dX4_readClause_84 rfl ?_
              refine vc_iload_n dX4_readClause_85 rfl ?_
              refine vc_iconst dX4_readClause_86 rfl ?_
              refine vc_icmp_ge dX4_readClause_87 (fun h203 => by exfalso; omega) (fun h203 => ?_)
              refine vc_aload_n dX4_readClause_90 rfl ?_
              refine vc_iload_n dX4_readClause_91 rfl ?_
              refine vc_cVI dX4_readClause_92 (sfX4_beginLawF (M := M185) hB198.1  g n (nx g n p) h197 x46 (by omega) (by omega)) rfl okX4_beginLaw viX4_beginLaw lkX4_129 (s_22 hB198.1.1) cl_4 rfl (Nat.le_of_ble_eq_true rfl) ⟨rfl, rfl⟩ (Nat.le_of_ble_eq_true rfl) (Nat.le_of_ble_eq_true rfl) (Nat.le_of_ble_eq_true rfl) ?_
              rintro x204 M205 ⟨hB206, kp207, kp208, kp209, kp210, h211, h212, h213, h214, h215, h216, h217, h218⟩
              have hB219 : BF fQ M M205 := BF.go hB198 hB206
              have kp220 : mI M205 26 = mI M 26 := kp_go kp200 kp208
              have kp221 : mI M205 27 = mI M 27 := kp_go kp201 kp209
              have kp222 : mI M205 28 = mI M 28 := kp_go kp202 kp210
              refine vc_if_eq dX4_readClause_95 (fun h223 => by exfalso; omega) (fun h223 => ?_)
              refine vc_aload_n dX4_readClause_98 rfl ?_
              refine vc_iconst dX4_readClause_99 rfl ?_
              refine vc_cVI dX4_readClause_100 ((ld_all 9).2 (M := M205) hB219.1  0 (by omega) (by omega) g n (nx g n p) h218 x46 [] rfl rfl h215 (by decide)) rfl (okX4_readSum (13 + 3 * 9)) (viX4_readSum (13 + 3 * 9)) (lkX4_132 (13 + 3 * 9)) (s_22 hB219.1.1) cl_4 rfl (Nat.le_of_ble_eq_true rfl) ⟨rfl, rfl⟩ (Nat.le_of_ble_eq_true rfl) (Nat.le_of_ble_eq_true rfl) (Nat.le_of_ble_eq_true rfl) ?_
              rintro x224 M225 ⟨hB226, kp227, kp228, kp229, kp230, kp231, h232, h233, h234, h235, h236, h237⟩
              have hB238 : BF fQ M M225 := BF.go hB219 hB226
              have kp239 : mI M225 26 = mI M 26 := kp_go kp220 kp229
              have kp240 : mI M225 27 = mI M 27 := kp_go kp221 kp230
              have kp241 : mI M225 28 = mI M 28 := kp_go kp222 kp231
              have hL242 := LR.law h237
              refine vc_if_eq dX4_readClause_103 (fun h243 => ?_) (fun h243 => ?_)
              · refine vc_iconst dX4_readClause_118 rfl ?_
                refine vc_goto dX4_readClause_119 ?_
                refine vc_istore_n dX4_readClause_127 (by decide) rfl (show _ = [some (aR 22), some (aI x46), some (aI 0)] from rfl) ?_
                refine vc_iload_n dX4_readClause_128 rfl ?_
                refine vc_if_eq dX4_readClause_129 (fun h244 => ?_) (fun h244 => by exfalso; omega)
                refine vc_iconst dX4_readClause_141 rfl ?_
                refine vc_zret dX4_readClause_142 rfl (by first | decide | omega) (Nat.le_of_ble_eq_true rfl) (Nat.le_of_ble_eq_true rfl) ?_
                exact ⟨_, rfl, hB238, kp239, kp240, kp241, by omega, by omega, by omega, fun hr => absurd hr (by omega), fun hr => absurd hr (by omega), (by unfold sClause; rw [if_neg (by omega), if_neg (fun hh => by have h1 := hh.1; have h2 := hh.2; rw [show tk g n p - 101 = x46 by omega] at h2; omega), if_neg (by omega), show tk g n p - 101 = x46 by omega, sB4 (by omega)]; exact CR.b_bad hL242 (by omega) (by omega))⟩
              · have e245 := CR.ok hL242 (by omega)
                refine vc_aload_n dX4_readClause_106 rfl ?_
                refine vc_iload_n dX4_readClause_107 rfl ?_
                refine vc_cVI dX4_readClause_108 (sfX4_endLawF (M := M225) hB238.1  g n ((sLaw (tk g n) (nx g n) x46 (nx g n p)).2) e245.2 x46 (by omega) (by omega)) rfl okX4_endLaw viX4_endLaw lkX4_135 (s_22 hB238.1.1) cl_4 rfl (Nat.le_of_ble_eq_true rfl) ⟨rfl, rfl⟩ (Nat.le_of_ble_eq_true rfl) (Nat.le_of_ble_eq_true rfl) (Nat.le_of_ble_eq_true rfl) ?_
                rintro x246 M247 ⟨hB248, kp249, kp250, kp251, kp252, h253, h254, h255, h256, h257, h258, h259⟩
                have hB260 : BF fQ M M247 := BF.go hB238 hB248
                have kp261 : mI M247 26 = mI M 26 := kp_go kp239 kp250
                have kp262 : mI M247 27 = mI M 27 := kp_go kp240 kp251
                have kp263 : mI M247 28 = mI M 28 := kp_go kp241 kp252
                refine vc_if_eq dX4_readClause_111 (fun h264 => by exfalso; omega) (fun h264 => ?_)
                refine vc_iconst dX4_readClause_114 rfl ?_
                refine vc_goto dX4_readClause_115 ?_
                refine vc_istore_n dX4_readClause_127 (by decide) rfl (show _ = [some (aR 22), some (aI x46), some (aI 1)] from rfl) ?_
                refine vc_iload_n dX4_readClause_128 rfl ?_
                refine vc_if_eq dX4_readClause_129 (fun h265 => by exfalso; omega) (fun h265 => ?_)
                refine vc_aload_n dX4_readClause_132 rfl ?_
                refine vc_bipush dX4_readClause_133 rfl ?_
                refine vc_cVI dX4_readClause_135 (sfX4_readSignF (M := M247) hB260.1  g n ((sLaw (tk g n) (nx g n) x46 (nx g n p)).2) h259 59 (by omega) (by omega)) rfl okX4_readSign viX4_readSign lkX4_141 (s_22 hB260.1.1) cl_4 rfl (Nat.le_of_ble_eq_true rfl) ⟨rfl, rfl⟩ (Nat.le_of_ble_eq_true rfl) (Nat.le_of_ble_eq_true rfl) (Nat.le_of_ble_eq_true rfl) ?_
                rintro x266 M267 ⟨hB268, kp269, kp270, kp271, kp272, kp273, h274, h275, h276, h277, h278, h279⟩
                have hB280 : BF fQ M M267 := BF.go hB260 hB268
                have kp281 : mI M267 26 = mI M 26 := kp_go kp261 kp271
                have kp282 : mI M267 27 = mI M 27 := kp_go kp262 kp272
                have kp283 : mI M267 28 = mI M 28 := kp_go kp263 kp273
                refine vc_if_ne dX4_readClause_138 (fun h284 => ?_) (fun h284 => ?_)
                · have e285 := CR.ok h279.cr (by omega)
                  refine vc_aload_n dX4_readClause_143 rfl ?_
                  refine vc_dup dX4_readClause_144 rfl ?_
                  refine vc_getI dX4_readClause_145 flX4_53 (s_22 hB280.1.1) rfl ?_
                  have k286 : 0 ≤ mI M267 22 13 ∧ mI M267 22 13 ≤ 24 := b22_13 (M := M267) hB280.1
                  refine vc_iconst dX4_readClause_148 rfl ?_
                  refine vc_iaddE dX4_readClause_149 (by omega) (by omega) ?_
                  refine vc_putI dX4_readClause_150 (plX4_53 _ rfl) (s_22 hB280.1.1) rfl ?_
                  have kp287 : mI (sI M267 22 13 ((mI M267 22 13) + 1)) 26 = mI M 26 := (kp_sI kp281 rfl)
                  have kp288 : mI (sI M267 22 13 ((mI M267 22 13) + 1)) 27 = mI M 27 := (kp_sI kp282 rfl)
                  have kp289 : mI (sI M267 22 13 ((mI M267 22 13) + 1)) 28 = mI M 28 := (kp_sI kp283 rfl)
                  have hB290 : BF fQ M (sI M267 22 13 ((mI M267 22 13) + 1)) := BF.w22_13 hB280 rfl (by omega) (by omega)
                  refine vc_iconst dX4_readClause_153 rfl ?_
                  refine vc_zret dX4_readClause_154 rfl (by first | decide | omega) (Nat.le_of_ble_eq_true rfl) (Nat.le_of_ble_eq_true rfl) ?_
                  have k291 : mI (sI M267 22 13 ((mI M267 22 13) + 1)) 22 7 = mI M267 22 7 := rfl
                  have k292 : mI (sI M267 22 13 ((mI M267 22 13) + 1)) 22 8 = mI M267 22 8 := rfl
                  have k293 : mI (sI M267 22 13 ((mI M267 22 13) + 1)) 22 9 = mI M267 22 9 := rfl
                  have k294 : mI (sI M267 22 13 ((mI M267 22 13) + 1)) 22 10 = mI M267 22 10 := rfl
                  have k295 : mI (sI M267 22 13 ((mI M267 22 13) + 1)) 22 11 = mI M267 22 11 := rfl
                  have k296 : mI (sI M267 22 13 ((mI M267 22 13) + 1)) 22 12 = mI M267 22 12 := rfl
                  have k297 : mI (sI M267 22 13 ((mI M267 22 13) + 1)) 22 13 = (mI M267 22 13) + 1 := rfl
                  have k298 : mI (sI M267 22 13 ((mI M267 22 13) + 1)) 22 14 = mI M267 22 14 := rfl
                  have hR299 : RS g n (sI M267 22 13 ((mI M267 22 13) + 1)) (sTok (tk g n) (nx g n) (59 - 300) ((sLaw (tk g n) (nx g n) x46 (nx g n p)).2)).2 := RS.same e285.2 (kp_sI rfl rfl) (kp_sI rfl rfl) (kp_sI rfl rfl) rfl rfl rfl rfl rfl
                  exact ⟨_, rfl, hB290, kp287, kp288, kp289, by omega, by omega, by omega, fun _ => ⟨Q25.of (M := M) (N := (sI M267 22 13 ((mI M267 22 13) + 1))) (w := x46) ⟨by omega, by omega⟩ (by omega) (by omega) (by have hz : ∀ i : Nat, (i : Int) = 5 * mI M 22 13 → mI (sI M267 22 13 ((mI M267 22 13) + 1)) 25 i = x46 := fun i hi => ((show mI (sI M267 22 13 ((mI M267 22 13) + 1)) 25 i = mI M267 25 i from rfl).trans ((congrFun kp270 i).trans ((congrFun kp249 i).trans ((congrFun kp228 i).trans ((congrFun kp207 i).trans (congrFun kp188 i)))))).trans (h177.1 i (by omega)); exact hz _ (by omega)) (Md := M) (Nd := M) (fun h5 => absurd h5 (by omega)) (fun h5 => absurd h5 (by omega)), fun i hi => ((show mI (sI M267 22 13 ((mI M267 22 13) + 1)) 25 i = mI M267 25 i from rfl).trans ((congrFun kp270 i).trans ((congrFun kp249 i).trans ((congrFun kp228 i).trans ((congrFun kp207 i).trans ((congrFun kp188 i).trans (h177.2 i (by omega))))))))⟩, fun _ => ⟨by rw [show tk g n p - 101 = x46 by omega]; exact ONr.law (A := mI M 24) hon (by omega) (by omega) (fun j hj => (h216 j hj).trans (congrFun kp199 j)) h217 kp227 (fun j hj => (congrFun (kp_sI kp269 rfl) j).trans (h258 j hj)), by omega⟩, (by unfold sClause; rw [if_neg (by omega), if_neg (fun hh => by have h1 := hh.1; have h2 := hh.2; rw [show tk g n p - 101 = x46 by omega] at h2; omega), if_neg (by omega), show tk g n p - 101 = x46 by omega, sB4 (by omega)]; exact CR.b_ok hL242 (by omega) (Or.inl ⟨rfl, e285.1, hR299⟩))⟩
                · refine vc_iconst dX4_readClause_141 rfl ?_
                  refine vc_zret dX4_readClause_142 rfl (by first | decide | omega) (Nat.le_of_ble_eq_true rfl) (Nat.le_of_ble_eq_true rfl) ?_
                  exact ⟨_, rfl, hB280, kp281, kp282, kp283, by omega, by omega, by omega, fun hr => absurd hr (by omega), fun hr => absurd hr (by omega), (by unfold sClause; rw [if_neg (by omega), if_neg (fun hh => by have h1 := hh.1; have h2 := hh.2; rw [show tk g n p - 101 = x46 by omega] at h2; omega), if_neg (by omega), show tk g n p - 101 = x46 by omega, sB4 (by omega)]; exact CR.b_ok hL242 (by omega) (CR.cast h279.cr (by omega)))⟩
            · refine vc_aload_n dX4_readClause_67 rfl ?_
              refine vc_bipush dX4_readClause_68 rfl ?_
              refine vc_cVI dX4_readClause_70 (sfX4_failedF (M := M) hB0.1  g n p hR 6 ) rfl okX4_failed viX4_failed lkX4_122 (s_22 hB0.1.1) cl_4 rfl (Nat.le_of_ble_eq_true rfl) ⟨rfl, rfl⟩ (Nat.le_of_ble_eq_true rfl) (Nat.le_of_ble_eq_true rfl) (Nat.le_of_ble_eq_true rfl) ?_
              rintro x300 M301 ⟨hB302, kp303, kp304, kp305, kp306, kp307, h308, h309, h310, h311, h312, h313, h314⟩
              have hB315 : BF fQ M M301 := BF.go hB0 hB302
              have kp316 : mI M301 24 = mI M 24 := kp_go rfl kp303
              have kp317 : mI M301 26 = mI M 26 := kp_go rfl kp305
              have kp318 : mI M301 27 = mI M 27 := kp_go rfl kp306
              have kp319 : mI M301 28 = mI M 28 := kp_go rfl kp307
              refine vc_zret dX4_readClause_73 rfl (by first | decide | omega) (Nat.le_of_ble_eq_true rfl) (Nat.le_of_ble_eq_true rfl) ?_
              exact ⟨_, rfl, hB315, kp317, kp318, kp319, by omega, by omega, by omega, fun hr => absurd hr (by omega), fun hr => absurd hr (by omega), CRb (e := 6) (q := p) (by omega) h313 h314 (by omega) (by unfold sClause; rw [if_neg (by omega), if_neg (fun hh => by have h1 := hh.1; have h2 := hh.2; rw [show tk g n p - 101 = x46 by omega] at h2; omega), if_pos (by omega)])⟩
          · refine vc_aload_n dX4_readClause_52 rfl ?_
            refine vc_iconst dX4_readClause_53 rfl ?_
            refine vc_cVI dX4_readClause_54 (sfX4_failedF (M := M) hB0.1  g n p hR 4 ) rfl okX4_failed viX4_failed lkX4_122 (s_22 hB0.1.1) cl_4 rfl (Nat.le_of_ble_eq_true rfl) ⟨rfl, rfl⟩ (Nat.le_of_ble_eq_true rfl) (Nat.le_of_ble_eq_true rfl) (Nat.le_of_ble_eq_true rfl) ?_
            rintro x320 M321 ⟨hB322, kp323, kp324, kp325, kp326, kp327, h328, h329, h330, h331, h332, h333, h334⟩
            have hB335 : BF fQ M M321 := BF.go hB0 hB322
            have kp336 : mI M321 24 = mI M 24 := kp_go rfl kp323
            have kp337 : mI M321 26 = mI M 26 := kp_go rfl kp325
            have kp338 : mI M321 27 = mI M 27 := kp_go rfl kp326
            have kp339 : mI M321 28 = mI M 28 := kp_go rfl kp327
            refine vc_zret dX4_readClause_57 rfl (by first | decide | omega) (Nat.le_of_ble_eq_true rfl) (Nat.le_of_ble_eq_true rfl) ?_
            exact ⟨_, rfl, hB335, kp337, kp338, kp339, by omega, by omega, by omega, fun hr => absurd hr (by omega), fun hr => absurd hr (by omega), CRb (e := 4) (q := p) (by omega) h333 h334 (by omega) (by unfold sClause; rw [if_neg (by omega), if_pos ⟨by omega, by rw [show tk g n p - 101 = x46 by omega]; omega⟩])⟩
      · refine vc_aload_n dX4_readClause_24 rfl ?_
        refine vc_iconst dX4_readClause_25 rfl ?_
        refine vc_cVI dX4_readClause_26 (sfX4_failedF (M := M) hB0.1  g n p hR 1 ) rfl okX4_failed viX4_failed lkX4_122 (s_22 hB0.1.1) cl_4 rfl (Nat.le_of_ble_eq_true rfl) ⟨rfl, rfl⟩ (Nat.le_of_ble_eq_true rfl) (Nat.le_of_ble_eq_true rfl) (Nat.le_of_ble_eq_true rfl) ?_
        rintro x340 M341 ⟨hB342, kp343, kp344, kp345, kp346, kp347, h348, h349, h350, h351, h352, h353, h354⟩
        have hB355 : BF fQ M M341 := BF.go hB0 hB342
        have kp356 : mI M341 24 = mI M 24 := kp_go rfl kp343
        have kp357 : mI M341 26 = mI M 26 := kp_go rfl kp345
        have kp358 : mI M341 27 = mI M 27 := kp_go rfl kp346
        have kp359 : mI M341 28 = mI M 28 := kp_go rfl kp347
        refine vc_zret dX4_readClause_29 rfl (by first | decide | omega) (Nat.le_of_ble_eq_true rfl) (Nat.le_of_ble_eq_true rfl) ?_
        exact ⟨_, rfl, hB355, kp357, kp358, kp359, by omega, by omega, by omega, fun hr => absurd hr (by omega), fun hr => absurd hr (by omega), CRb (e := 1) (q := p) (by omega) h353 h354 (by omega) (by unfold sClause; rw [if_pos (by omega)])⟩

/-! the table of tokens -/
theorem wb_all : ∀ j : Nat, j < 193 → (wCh (Int32.ofInt j)).toInt = WB.getD j 0 := by decide +kernel
section VCW2
variable {l : Launch} {pc pc1 pc2 pc' : Nat} {L : List (Option AV)} {st : List AV} {M : Mem} {kc ks : Nat} {Q : Option AV → Mem → Prop}
theorem vc_wchrE {i : Int} (hd : At (mB mdX4_wordOf) pc (.ldc 107) 2 pc1) (hd2 : At (mB mdX4_wordOf) pc1 (.iload 5) 2 pc2) (hd3 : At (mB mdX4_wordOf) pc2 (.invokevirtual 115) 3 pc') (hi : L[5]? = some (some (aI i))) (g0 : 0 ≤ i) (g1 : i < 193) (h1 : kc ≤ mC mdX4_wordOf) (h2 : ks ≤ mS mdX4_wordOf) (hsum : (st.map catA).sum ≤ 8) (k : ∀ y : Int, y = WB.getD i.toNat 0 → VC l mdX4_wordOf pc' L (aI y :: st) M kc ks Q) : VC l mdX4_wordOf pc L st M kc ks Q := by
  intro p e s m args below meth c dC dI dA ad0 n0 A ad H locs ls C hA h0 hn hst hL hW hS hl
  obtain ⟨hd, rfl⟩ := hd
  obtain ⟨hd2, rfl⟩ := hd2
  obtain ⟨hd3, rfl⟩ := hd3
  obtain ⟨-, -, ⟨adK, adV, e3, e4⟩, e5, e6, -⟩ := C.2.2.2.2.2.2.2.2.2
  have hin : inI i := hL _ _ hi
  refine va_ldcS C.1 C.2.1 C.2.2.2.2.2.1 e4 hd ?_
  refine lv_iload (x := Int32.ofInt i) C.1 C.2.1 hd2 (lvL_at hl hi) ?_
  have hX : SX adK adV A s H := ⟨e3.kept hS.2.1, e5.kept hS.2.1, e6.kept hS.2.1⟩
  have b0 : ¬ Int32.ofInt i < 0 := fun h => by have := (oI_lt hin inI_0).mp h; omega
  have b1 : Int32.ofInt i < 193 := (oI_lt hin (⟨by decide, by decide⟩ : inI 193)).mpr g1
  refine sw_callV (D := mdX4_wordOf) (D' := mdJ0_charAt_5068e) (av := [.int (Int32.ofInt i)]) C.1 C.2.1 C.2.2.2.2.1 C.2.2.2.2.2.1 C.2.2.2.2.2.2.1 hX (vk_recv e3 (by decide) hS) rfl (sm_charAt b0 b1 (oI_in hin g0 g1)) okJ0_charAt_5068e viJ0_charAt_5068e lkX4_115 (Nat.le_of_ble_eq_true rfl) ⟨rfl, rfl⟩ ⟨h1, h2⟩ rfl hl.1 (rest := st.map (aV ad)) rfl (by rw [cat_sum]; omega) hd3 ?_
  have hy : (wCh (Int32.ofInt i)).toInt = WB.getD i.toNat 0 := by
    have q := wb_all i.toNat (by omega)
    rw [show ((i.toNat : Nat) : Int) = i by omega] at q
    exact q
  have k2 := k (wCh (Int32.ofInt i)).toInt hy p e s m args below meth c dC dI dA ad0 n0 A ad H locs ls C hA h0 hn (okS_cons.mpr ⟨inI_to _, hst⟩) hL hW hS hl
  simp only [List.map_cons, aV, oI_to] at k2
  exact k2
end VCW2
theorem wb_drop {i : Int} (h0 : 0 ≤ i) (h1 : i < 193) : WB.drop i.toNat = WB.getD i.toNat 0 :: WB.drop (i + 1).toNat := by
  have hl : i.toNat < WB.length := by show i.toNat < 193; omega
  rw [List.drop_eq_getElem_cons hl, show (i + 1).toNat = i.toNat + 1 by omega, List.getD_eq_getElem?_getD, List.getElem?_eq_getElem hl]
  rfl
def ps (g : Nat → Int) (n : Int) : Nat → Int
  | 0 => skb g n 0
  | j + 1 => nx g n (ps g n j)
/-- the table so far: c tokens, the next byte -/
def PT (g : Nat → Int) (n : Int) (A B C : Nat → Int) (c v : Int) : Prop := ps g n c.toNat = skb g n v ∧ ∀ j : Nat, (j : Int) < c → CT (A j) (B j) (tk g n (ps g n j)) ∧ C j = ps g n j
theorem skb_here {g : Nat → Int} {n q : Int} (h0 : 0 ≤ q) (h1 : q ≤ n) (h : n ≤ q ∨ (g q.toNat ≠ 32 ∧ g q.toNat ≠ 10)) : skb g n q = q := skb_eq h0 (Int.le_refl q) h1 (fun i a b => by omega) h
theorem skb_step {g : Nat → Int} {n q : Int} (h0 : 0 ≤ q) (h1 : q < n) (h : g q.toNat = 32 ∨ g q.toNat = 10) : skb g n q = skb g n (q + 1) := by
  have a := skb_rg (f := g) (n := n) (q := q + 1) (by omega) (by omega)
  refine skb_eq h0 (by omega) a.2 (fun i x y => ?_) ?_
  · by_cases e : (i : Int) = q
    · rw [show i = q.toNat by omega]; exact h
    · unfold skb at y
      have := skw_in tBl g n.toNat n.toNat (q + 1).toNat i (by omega) (by omega)
      simp only [tBl, Bool.or_eq_true, decide_eq_true_eq] at this
      exact this
  · unfold skb
    rcases skw_out tBl g n.toNat n.toNat (q + 1).toNat (by omega) with e | e
    · left; omega
    · right
      simp only [tBl, Bool.or_eq_false_iff, decide_eq_false_iff_not] at e
      exact e
theorem PT.blank {g : Nat → Int} {n : Int} {A B C : Nat → Int} {c v v2 : Int} (h : PT g n A B C c v) (h0 : 0 ≤ v) (h1 : v < n) (hb : g v.toNat = 32 ∨ g v.toNat = 10) (e : v2 = en g n v) : PT g n A B C c v2 := by
  refine ⟨?_, h.2⟩
  rw [h.1, skb_step h0 h1 hb, e, en_sign h0 (by omega) (by omega)]
theorem PT.add {g : Nat → Int} {n : Int} {A B C A2 B2 C2 : Nat → Int} {c v v2 : Int} (h : PT g n A B C c v) (hc : 0 ≤ c) (h0 : 0 ≤ v) (h1 : v < n) (hb : ¬ (g v.toNat = 32 ∨ g v.toNat = 10)) (e : v2 = en g n v) (hA : ∀ j : Nat, j ≠ c.toNat → A2 j = A j ∧ B2 j = B j) (hC : ∀ j : Nat, j ≠ c.toNat → C2 j = C j) (h3 : C2 c.toNat = v) (h4 : CT (A2 c.toNat) (B2 c.toNat) (tk g n v)) : PT g n A2 B2 C2 (c + 1) v2 := by
  have hv : ps g n c.toNat = v := by rw [h.1]; exact skb_here h0 (by omega) (Or.inr (by omega))
  refine ⟨?_, fun j hj => ?_⟩
  · rw [show (c + 1).toNat = c.toNat + 1 by omega]
    show nx g n (ps g n c.toNat) = _
    rw [hv, e]
    rfl
  · by_cases ej : j = c.toNat
    · subst ej
      rw [hv]
      exact ⟨h4, h3⟩
    · have q := h.2 j (by omega)
      rw [(hA j ej).1, (hA j ej).2, hC j ej]
      exact q
theorem PT.tab {g : Nat → Int} {n : Int} {A B C A2 C2 : Nat → Int} {c v : Int} (h : PT g n A B C c v) (hc : 0 ≤ c) (h0 : 0 ≤ v) (h1 : v = n) (hA : ∀ j : Nat, j ≠ c.toNat → A2 j = A j) (hA0 : A2 c.toNat = 0) (hC : ∀ j : Nat, j ≠ c.toNat → C2 j = C j) (hC0 : C2 c.toNat = n) (m : Nat) : Tab (tk g n) (nx g n) A2 B C2 m 0 (skb g n 0) := by
  have e0 : ps g n c.toNat = n := by rw [h.1, h1]; exact skb_here (by omega) (Int.le_refl n) (Or.inl (Int.le_refl n))
  refine tab_of (c := c.toNat) (ps := ps g n) (fun j _ => rfl) (fun j hj => ?_) ?_ c.toNat 0 m (by omega)
  · have q := h.2 j (by omega)
    rw [hA j (by omega), hC j (by omega)]
    exact q
  · rw [e0, hA0, hC0, tk_end (Int.le_refl n)]
    exact ⟨Or.inl ⟨rfl, rfl⟩, rfl, rfl⟩
theorem tk_TK {g : Nat → Int} {n : Int} (hb : byt g) : TK (tk g n) (nx g n) n := fun q h0 => ⟨fun h => ⟨tk_nz hb h0 h, nx_rg h0 h⟩, fun h => tk_end h⟩
theorem PT.new {g : Nat → Int} {n : Int} {A B C : Nat → Int} : PT g n A B C 0 0 := ⟨rfl, fun j hj => by omega⟩
theorem RS.new {g : Nat → Int} {n : Int} {M : Mem} (hb : byt g) (h0 : 0 ≤ n) (hn : n ≤ 300) (h : Tab (tk g n) (nx g n) (mI M 26) (mI M 27) (mI M 28) 301 0 (skb g n 0)) (e9 : mI M 22 9 = 0) (e10 : mI M 22 10 = mI M 26 0) (e11 : mI M 22 11 = mI M 27 0) (e7 : mI M 22 7 = 0) (e8 : mI M 22 8 = -1) : RS g n M (skb g n 0) := by
  have q := skb_rg (f := g) (n := n) (q := 0) (by decide) h0
  unfold RS
  rw [e9, e7, e8]
  exact ⟨Int.le_refl 0, by omega, q.2, hn, e10, e11, rfl, rfl, h, tk_TK hb⟩
/-- in the loop of the clauses -/
def TI (g : Nat → Int) (n : Int) (N : Mem) (r i : Int) (S : Int × Int) : Prop := (r = 1 ∧ ∃ q on, RS g n N q ∧ ONr (mI N 24) on ∧ mI N 22 13 = i ∧ S = sText (tk g n) (nx g n) (25 - i).toNat on i q) ∨ (r = 0 ∧ S.1 ≠ 0 ∧ mI N 22 7 = S.1 ∧ mI N 22 8 = S.2)
theorem TI.ok {g : Nat → Int} {n : Int} {N : Mem} {r i : Int} {S : Int × Int} (h : TI g n N r i S) (h0 : r ≠ 0) : ∃ q on, RS g n N q ∧ ONr (mI N 24) on ∧ mI N 22 13 = i ∧ S = sText (tk g n) (nx g n) (25 - i).toNat on i q := by
  rcases h with h | h
  · exact h.2
  · exact absurd h.1 h0
/-- the whole text -/
def TX (S : Int × Int) (r a b : Int) : Prop := (r = 1 ∧ S.1 = 0 ∧ a = 0 ∧ b = -1) ∨ (r = 0 ∧ S.1 ≠ 0 ∧ a = S.1 ∧ b = S.2)
theorem TI.nul {g : Nat → Int} {n : Int} {N : Mem} {r i : Int} {S : Int × Int} (h : TI g n N r i S) (h0 : r = 0) : TX S r (mI N 22 7) (mI N 22 8) := by
  rcases h with h | h
  · omega
  · exact Or.inr h
theorem TI.end {g : Nat → Int} {n : Int} {N : Mem} {r i : Int} {S : Int × Int} (h : TI g n N r i S) (h0 : 25 ≤ i) : TX S r (mI N 22 7) (mI N 22 8) := by
  rcases h with ⟨a, q, on, b, c, d, e⟩ | h
  · rw [show (25 - i).toNat = 0 by omega] at e
    have f := b.rg
    rw [e]
    exact Or.inl ⟨a, rfl, f.2.2.2.2.1, f.2.2.2.2.2.1⟩
  · exact Or.inr h
theorem TI.fin {g : Nat → Int} {n : Int} {N : Mem} {r q i c : Int} {on : Int → Int} {m : Nat} {S : Int × Int} (hr : r = 1) (b : RS g n N q) (e : S = sText (tk g n) (nx g n) m on c q) (hk : tk g n q = 0) : TX S r (mI N 22 7) (mI N 22 8) := by
  have f := b.rg
  have e2 : S = (0, q) := by
    rw [e]
    cases m with
    | zero => rfl
    | succ m => unfold sText; rw [if_pos hk]
  rw [e2]
  exact Or.inl ⟨hr, rfl, f.2.2.2.2.1, f.2.2.2.2.2.1⟩
theorem TI.next {g : Nat → Int} {n : Int} {N : Mem} {r q i : Int} {on : Int → Int} {S : Int × Int} (e : S = sText (tk g n) (nx g n) (25 - i).toNat on i q) (hi : i ≤ 24) (hk : tk g n q ≠ 0) (h : CR g n N r (sClause (tk g n) (nx g n) on i q)) (ho : r = 1 → ONr (mI N 24) (onA on (tk g n q - 101)) ∧ mI N 22 13 = i + 1) : TI g n N r (i + 1) S := by
  rw [show (25 - i).toNat = (25 - (i + 1)).toNat + 1 by omega, sText.eq_2, if_neg hk] at e
  rcases h with ⟨a, b, c⟩ | ⟨a, b, c⟩
  · rw [sBind_ok b] at e
    exact Or.inl ⟨a, _, _, c, (ho a).1, (ho a).2, e⟩
  · rw [sBind_bad b] at e
    rw [e]
    exact Or.inr ⟨a, b, c⟩
theorem wGo_cast {f : Nat → Int} {a e : Int} {L : List Int} {w w2 l l2 S : Int} (e1 : w2 = w) (e2 : l2 = l) (h : wGo f a e L w l = S) : wGo f a e L w2 l2 = S := by
  rw [e1, e2]; exact h

set_option maxRecDepth 4000 in
theorem sfX4_endOfTokenF {l : Launch} {M : Mem} (hB : Box M)  (f : Int) (le : Int) (p0 : 0 ≤ f) (p1 : f ≤ 299) (p2 : 1 ≤ le) (p3 : le ≤ 300) (p4 : f < le) : Call l mdX4_endOfToken [aR 22, aI f, aI le] M (fun q N => ∃ r : Int, q = some (aI r) ∧ M = N ∧ 1 ≤ r ∧ r ≤ 300 ∧ f < r ∧ r ≤ le ∧ r = en (mI M 21) le f) := by
  have hB0 : BF fQ M M := BF.start hB
  refine Call.of [some (aR 22), some (aI f), some (aI le), none] rfl (Nat.le_of_ble_eq_true rfl) rfl ?_
  refine vc_iload_n dX4_endOfToken_0 rfl ?_
  refine vc_iconst dX4_endOfToken_1 rfl ?_
  refine vc_iaddE dX4_endOfToken_2 (by omega) (by omega) ?_
  refine vc_nameI (fun x1 ex1 => ?_)
  refine vc_istore_n dX4_endOfToken_3 (by decide) rfl (show _ = [some (aR 22), some (aI f), some (aI le), some (aI x1)] from rfl) ?_
  refine vc_aload_n dX4_endOfToken_4 rfl ?_
  refine vc_getR dX4_endOfToken_5 flX4_9 (s_22 hB0.1.1) rfl (r_22_0 hB0.1.1) ?_
  refine vc_iload_n dX4_endOfToken_8 rfl ?_
  refine vc_iaload dX4_endOfToken_9 (s_21 hB0.1.1) (by omega) (by omega) ?_
  refine vc_cSI dX4_endOfToken_10 (sfX4_isLetterF (M := M) hB0.1  (mI M 21 f.toNat) ) rfl okX4_isLetter stX4_isLetter lkX4_95 rfl (Nat.le_of_ble_eq_true rfl) ⟨rfl, rfl⟩ (Nat.le_of_ble_eq_true rfl) (Nat.le_of_ble_eq_true rfl) (Nat.le_of_ble_eq_true rfl) ?_
  rintro x2 _ ⟨rfl, h3, h4, h5⟩
  refine vc_if_eq dX4_endOfToken_13 (fun h6 => ?_) (fun h6 => ?_)
  · refine vc_aload_n dX4_endOfToken_39 rfl ?_
    refine vc_getR dX4_endOfToken_40 flX4_9 (s_22 hB0.1.1) rfl (r_22_0 hB0.1.1) ?_
    refine vc_iload_n dX4_endOfToken_43 rfl ?_
    refine vc_iaload dX4_endOfToken_44 (s_21 hB0.1.1) (by omega) (by omega) ?_
    refine vc_cSI dX4_endOfToken_45 (sfX4_isDigitF (M := M) hB0.1  (mI M 21 f.toNat) ) rfl okX4_isDigit stX4_isDigit lkX4_98 rfl (Nat.le_of_ble_eq_true rfl) ⟨rfl, rfl⟩ (Nat.le_of_ble_eq_true rfl) (Nat.le_of_ble_eq_true rfl) (Nat.le_of_ble_eq_true rfl) ?_
    rintro x7 _ ⟨rfl, h8, h9, h10⟩
    refine vc_if_eq dX4_endOfToken_48 (fun h11 => ?_) (fun h11 => ?_)
    · refine vc_iload_n dX4_endOfToken_74 rfl ?_
      refine vc_iret dX4_endOfToken_75 rfl (Nat.le_of_ble_eq_true rfl) (Nat.le_of_ble_eq_true rfl) ?_
      exact ⟨_, rfl, rfl, by omega, by omega, by omega, by omega, by first | exact (en_let (by omega) (by omega) (by omega) (by omega) g16i0 (by omega)).symm | exact (en_dig (by omega) (by omega) (by omega) (by omega) g51i0 (by omega)).symm | (rw [en_sign (by omega) (by omega) (by omega)]; omega)⟩
    · have lp51 : ∀ (n51 : Nat) (v3 : Int), (f + 1 ≤ v3) → (v3 ≤ le) → (∀ i : Nat, f < i → (i : Int) < v3 → 48 ≤ mI M 21 i ∧ mI M 21 i ≤ 57) → (le - v3).toNat < n51 → VC l mdX4_endOfToken 51 [some (aR 22), none, some (aI le), some (aI v3)] [] M 0 0 (fun q N => ∃ r : Int, q = some (aI r) ∧ M = N ∧ 1 ≤ r ∧ r ≤ 300 ∧ f < r ∧ r ≤ le ∧ r = en (mI M 21) le f) := by
        intro n51
        induction n51 with
        | zero => intro v3 g51_3a g51_3b g51i0 hm51; exact absurd hm51 (Nat.not_lt_zero _)
        | succ n51 ih51 =>
          intro v3 g51_3a g51_3b g51i0 hm51
          refine vc_iload_n dX4_endOfToken_51 rfl ?_
          refine vc_iload_n dX4_endOfToken_52 rfl ?_
          refine vc_icmp_ge dX4_endOfToken_53 (fun h12 => ?_) (fun h12 => ?_)
          · refine vc_iload_n dX4_endOfToken_74 rfl ?_
            refine vc_iret dX4_endOfToken_75 rfl (Nat.le_of_ble_eq_true rfl) (Nat.le_of_ble_eq_true rfl) ?_
            exact ⟨_, rfl, rfl, by omega, by omega, by omega, by omega, by first | exact (en_let (by omega) (by omega) (by omega) (by omega) g16i0 (by omega)).symm | exact (en_dig (by omega) (by omega) (by omega) (by omega) g51i0 (by omega)).symm | (rw [en_sign (by omega) (by omega) (by omega)]; omega)⟩
          · refine vc_aload_n dX4_endOfToken_56 rfl ?_
            refine vc_getR dX4_endOfToken_57 flX4_9 (s_22 hB0.1.1) rfl (r_22_0 hB0.1.1) ?_
            refine vc_iload_n dX4_endOfToken_60 rfl ?_
            refine vc_iaload dX4_endOfToken_61 (s_21 hB0.1.1) (by omega) (by omega) ?_
            refine vc_cSI dX4_endOfToken_62 (sfX4_isDigitF (M := M) hB0.1  (mI M 21 v3.toNat) ) rfl okX4_isDigit stX4_isDigit lkX4_98 rfl (Nat.le_of_ble_eq_true rfl) ⟨rfl, rfl⟩ (Nat.le_of_ble_eq_true rfl) (Nat.le_of_ble_eq_true rfl) (Nat.le_of_ble_eq_true rfl) ?_
            rintro x13 _ ⟨rfl, h14, h15, h16⟩
            refine vc_if_eq dX4_endOfToken_65 (fun h17 => ?_) (fun h17 => ?_)
            · refine vc_iload_n dX4_endOfToken_74 rfl ?_
              refine vc_iret dX4_endOfToken_75 rfl (Nat.le_of_ble_eq_true rfl) (Nat.le_of_ble_eq_true rfl) ?_
              exact ⟨_, rfl, rfl, by omega, by omega, by omega, by omega, by first | exact (en_let (by omega) (by omega) (by omega) (by omega) g16i0 (by omega)).symm | exact (en_dig (by omega) (by omega) (by omega) (by omega) g51i0 (by omega)).symm | (rw [en_sign (by omega) (by omega) (by omega)]; omega)⟩
            · refine vc_iincE dX4_endOfToken_68 rfl (by omega) (by omega) (by decide) rfl (show _ = [some (aR 22), none, some (aI le), some (aI (v3 + 1))] from rfl) ?_
              refine vc_goto dX4_endOfToken_71 ?_
              exact ih51 (v3 + 1) (by omega) (by omega) (by first | (intro i a b; exfalso; omega) | (intro i a b; by_cases e : (i : Int) = v3; (rw [show i = v3.toNat by omega]; omega); (exact g51i0 i a (by omega)))) (by omega)
      refine vc_less [some (aR 22), none, some (aI le), some (aI x1)] (lessL_keep (lessL_drop (lessL_keep (lessL_keep (lessL_nil))))) ?_
      exact lp51 _ x1 (by omega) (by omega) (by first | (intro i a b; exfalso; omega) | (intro i a b; by_cases e : (i : Int) = v3; (rw [show i = v3.toNat by omega]; omega); (exact g51i0 i a (by omega)))) (Nat.lt_succ_self _)
  · have lp16 : ∀ (n16 : Nat) (v3 : Int), (f + 1 ≤ v3) → (v3 ≤ le) → (∀ i : Nat, f < i → (i : Int) < v3 → (97 ≤ mI M 21 i ∧ mI M 21 i ≤ 122) ∨ (65 ≤ mI M 21 i ∧ mI M 21 i ≤ 90)) → (le - v3).toNat < n16 → VC l mdX4_endOfToken 16 [some (aR 22), none, some (aI le), some (aI v3)] [] M 0 0 (fun q N => ∃ r : Int, q = some (aI r) ∧ M = N ∧ 1 ≤ r ∧ r ≤ 300 ∧ f < r ∧ r ≤ le ∧ r = en (mI M 21) le f) := by
      intro n16
      induction n16 with
      | zero => intro v3 g16_3a g16_3b g16i0 hm16; exact absurd hm16 (Nat.not_lt_zero _)
      | succ n16 ih16 =>
        intro v3 g16_3a g16_3b g16i0 hm16
        refine vc_iload_n dX4_endOfToken_16 rfl ?_
        refine vc_iload_n dX4_endOfToken_17 rfl ?_
        refine vc_icmp_ge dX4_endOfToken_18 (fun h18 => ?_) (fun h18 => ?_)
        · refine vc_iload_n dX4_endOfToken_74 rfl ?_
          refine vc_iret dX4_endOfToken_75 rfl (Nat.le_of_ble_eq_true rfl) (Nat.le_of_ble_eq_true rfl) ?_
          exact ⟨_, rfl, rfl, by omega, by omega, by omega, by omega, by first | exact (en_let (by omega) (by omega) (by omega) (by omega) g16i0 (by omega)).symm | exact (en_dig (by omega) (by omega) (by omega) (by omega) g51i0 (by omega)).symm | (rw [en_sign (by omega) (by omega) (by omega)]; omega)⟩
        · refine vc_aload_n dX4_endOfToken_21 rfl ?_
          refine vc_getR dX4_endOfToken_22 flX4_9 (s_22 hB0.1.1) rfl (r_22_0 hB0.1.1) ?_
          refine vc_iload_n dX4_endOfToken_25 rfl ?_
          refine vc_iaload dX4_endOfToken_26 (s_21 hB0.1.1) (by omega) (by omega) ?_
          refine vc_cSI dX4_endOfToken_27 (sfX4_isLetterF (M := M) hB0.1  (mI M 21 v3.toNat) ) rfl okX4_isLetter stX4_isLetter lkX4_95 rfl (Nat.le_of_ble_eq_true rfl) ⟨rfl, rfl⟩ (Nat.le_of_ble_eq_true rfl) (Nat.le_of_ble_eq_true rfl) (Nat.le_of_ble_eq_true rfl) ?_
          rintro x19 _ ⟨rfl, h20, h21, h22⟩
          refine vc_if_eq dX4_endOfToken_30 (fun h23 => ?_) (fun h23 => ?_)
          · refine vc_iload_n dX4_endOfToken_74 rfl ?_
            refine vc_iret dX4_endOfToken_75 rfl (Nat.le_of_ble_eq_true rfl) (Nat.le_of_ble_eq_true rfl) ?_
            exact ⟨_, rfl, rfl, by omega, by omega, by omega, by omega, by first | exact (en_let (by omega) (by omega) (by omega) (by omega) g16i0 (by omega)).symm | exact (en_dig (by omega) (by omega) (by omega) (by omega) g51i0 (by omega)).symm | (rw [en_sign (by omega) (by omega) (by omega)]; omega)⟩
          · refine vc_iincE dX4_endOfToken_33 rfl (by omega) (by omega) (by decide) rfl (show _ = [some (aR 22), none, some (aI le), some (aI (v3 + 1))] from rfl) ?_
            refine vc_goto dX4_endOfToken_36 ?_
            exact ih16 (v3 + 1) (by omega) (by omega) (by first | (intro i a b; exfalso; omega) | (intro i a b; by_cases e : (i : Int) = v3; (rw [show i = v3.toNat by omega]; omega); (exact g16i0 i a (by omega)))) (by omega)
    refine vc_less [some (aR 22), none, some (aI le), some (aI x1)] (lessL_keep (lessL_drop (lessL_keep (lessL_keep (lessL_nil))))) ?_
    exact lp16 _ x1 (by omega) (by omega) (by first | (intro i a b; exfalso; omega) | (intro i a b; by_cases e : (i : Int) = v3; (rw [show i = v3.toNat by omega]; omega); (exact g16i0 i a (by omega)))) (Nat.lt_succ_self _)

set_option maxRecDepth 4000 in
theorem sfX4_numberOfF {l : Launch} {M : Mem} (hB : Box M)  (f : Int) (t : Int) (p0 : 0 ≤ f) (p1 : f ≤ 300) (p2 : 0 ≤ t) (p3 : t ≤ 300) (p4 : ∀ i : Nat, f ≤ i → (i : Int) < t → 48 ≤ mI M 21 i ∧ mI M 21 i ≤ 57) (p5 : f ≤ t) : Call l mdX4_numberOf [aR 22, aI f, aI t] M (fun q N => ∃ r : Int, q = some (aI r) ∧ M = N ∧ 0 ≤ r ∧ r ≤ 10000 ∧ r = nuC (mI M 21) (t - f).toNat f.toNat 0) := by
  have hB0 : BF fQ M M := BF.start hB
  refine Call.of [some (aR 22), some (aI f), some (aI t), none, none] rfl (Nat.le_of_ble_eq_true rfl) rfl ?_
  refine vc_iconst dX4_numberOf_0 rfl ?_
  refine vc_istore_n dX4_numberOf_1 (by decide) rfl (show _ = [some (aR 22), some (aI f), some (aI t), some (aI 0), none] from rfl) ?_
  refine vc_iload_n dX4_numberOf_2 rfl ?_
  refine vc_istore dX4_numberOf_3 (by decide) rfl (show _ = [some (aR 22), some (aI f), some (aI t), some (aI 0), some (aI f)] from rfl) ?_
  have lp5 : ∀ (n5 : Nat) (v3 : Int) (v4 : Int), (0 ≤ v3) → (v3 ≤ 10000) → (f ≤ v4) → (v4 ≤ t) → (v3 = nuC (mI M 21) (v4 - f).toNat f.toNat 0) → (t - v4).toNat < n5 → VC l mdX4_numberOf 5 [some (aR 22), none, some (aI t), some (aI v3), some (aI v4)] [] M 0 0 (fun q N => ∃ r : Int, q = some (aI r) ∧ M = N ∧ 0 ≤ r ∧ r ≤ 10000 ∧ r = nuC (mI M 21) (t - f).toNat f.toNat 0) := by
    intro n5
    induction n5 with
    | zero => intro v3 v4 g5_3a g5_3b g5_4a g5_4b g5i0 hm5; exact absurd hm5 (Nat.not_lt_zero _)
    | succ n5 ih5 =>
      intro v3 v4 g5_3a g5_3b g5_4a g5_4b g5i0 hm5
      refine vc_iload dX4_numberOf_5 rfl ?_
      refine vc_iload_n dX4_numberOf_7 rfl ?_
      refine vc_icmp_ge dX4_numberOf_8 (fun h1 => ?_) (fun h1 => ?_)
      · refine vc_iload_n dX4_numberOf_39 rfl ?_
        refine vc_iret dX4_numberOf_40 rfl (Nat.le_of_ble_eq_true rfl) (Nat.le_of_ble_eq_true rfl) ?_
        exact ⟨_, rfl, rfl, by omega, by omega, by rw [g5i0, show v4 = t by omega]⟩
      · have hdg := p4 v4.toNat (by omega) (by omega)
        refine vc_sipush dX4_numberOf_11 rfl ?_
        refine vc_bipush dX4_numberOf_14 rfl ?_
        refine vc_iload_n dX4_numberOf_16 rfl ?_
        refine vc_imulE dX4_numberOf_17 (by omega) (by omega) ?_
        refine vc_aload_n dX4_numberOf_18 rfl ?_
        refine vc_getR dX4_numberOf_19 flX4_9 (s_22 hB0.1.1) rfl (r_22_0 hB0.1.1) ?_
        refine vc_iload dX4_numberOf_22 rfl ?_
        refine vc_iaload dX4_numberOf_24 (s_21 hB0.1.1) (by omega) (by omega) ?_
        refine vc_iaddE dX4_numberOf_25 (by omega) (by omega) ?_
        refine vc_bipush dX4_numberOf_26 rfl ?_
        refine vc_isubE dX4_numberOf_28 (by omega) (by omega) ?_
        refine vc_mminI dX4_numberOf_29 lkX4_33 (Nat.le_of_ble_eq_true rfl) (Nat.le_of_ble_eq_true rfl) (Nat.le_of_ble_eq_true rfl) ?_
        have k2 := minZ_bd 10000 (((10 * v3) + (mI M 21 v4.toNat)) - 48)
        refine vc_nameI (fun x3 ex3 => ?_)
        refine vc_istore_n dX4_numberOf_32 (by decide) rfl (show _ = [some (aR 22), none, some (aI t), some (aI x3), some (aI v4)] from rfl) ?_
        refine vc_iincE dX4_numberOf_33 rfl (by omega) (by omega) (by decide) rfl (show _ = [some (aR 22), none, some (aI t), some (aI x3), some (aI (v4 + 1))] from rfl) ?_
        refine vc_goto dX4_numberOf_36 ?_
        exact ih5 x3 (v4 + 1) (by omega) (by omega) (by omega) (by omega) (by first | (rw [Int.sub_self]; rfl) | (rw [show (v4 + 1 - f).toNat = (v4 - f).toNat + 1 by omega, nuC_snoc, show f.toNat + (v4 - f).toNat = v4.toNat by omega, ← g5i0]; split <;> omega)) (by omega)
  refine vc_less [some (aR 22), none, some (aI t), some (aI 0), some (aI f)] (lessL_keep (lessL_drop (lessL_keep (lessL_keep (lessL_keep (lessL_nil)))))) ?_
  exact lp5 _ 0 f (by omega) (by omega) (by omega) (by omega) (by first | (rw [Int.sub_self]; rfl) | (rw [show (v4 + 1 - f).toNat = (v4 - f).toNat + 1 by omega, nuC_snoc, show f.toNat + (v4 - f).toNat = v4.toNat by omega, ← g5i0]; split <;> omega)) (Nat.lt_succ_self _)

set_option maxRecDepth 4000 in
theorem sfX4_wordOfF {l : Launch} {M : Mem} (hB : Box M)  (f : Int) (t : Int) (p0 : 0 ≤ f) (p1 : f ≤ 300) (p2 : 0 ≤ t) (p3 : t ≤ 300) : Call l mdX4_wordOf [aR 22, aI f, aI t] M (fun q N => ∃ r : Int, q = some (aI r) ∧ M = N ∧ r = wGo (mI M 21) f t WB 0 f) := by
  have hB0 : BF fQ M M := BF.start hB
  refine Call.of [some (aR 22), some (aI f), some (aI t), none, none, none, none] rfl (Nat.le_of_ble_eq_true rfl) rfl ?_
  refine vc_iconst dX4_wordOf_0 rfl ?_
  refine vc_istore_n dX4_wordOf_1 (by decide) rfl (show _ = [some (aR 22), some (aI f), some (aI t), some (aI 0), none, none, none] from rfl) ?_
  refine vc_iload_n dX4_wordOf_2 rfl ?_
  refine vc_istore dX4_wordOf_3 (by decide) rfl (show _ = [some (aR 22), some (aI f), some (aI t), some (aI 0), some (aI f), none, none] from rfl) ?_
  refine vc_iconst dX4_wordOf_5 rfl ?_
  refine vc_istore dX4_wordOf_6 (by decide) rfl (show _ = [some (aR 22), some (aI f), some (aI t), some (aI 0), some (aI f), some (aI 0), none] from rfl) ?_
  have lp8 : ∀ (n8 : Nat) (v3 : Int) (v4 : Int) (v5 : Int), (0 ≤ v3) → (v3 ≤ v5) → ((-1) ≤ v4) → (v4 ≤ 300) → (0 ≤ v5) → (v5 ≤ 193) → (wGo (mI M 21) f t (WB.drop v5.toNat) v3 v4 = wGo (mI M 21) f t WB 0 f) → (193 - v5).toNat < n8 → VC l mdX4_wordOf 8 [some (aR 22), some (aI f), some (aI t), some (aI v3), some (aI v4), some (aI v5), none] [] M 0 0 (fun q N => ∃ r : Int, q = some (aI r) ∧ M = N ∧ r = wGo (mI M 21) f t WB 0 f) := by
    intro n8
    induction n8 with
    | zero => intro v3 v4 v5 g8_3a g8_3b g8_4a g8_4b g8_5a g8_5b g8i0 hm8; exact absurd hm8 (Nat.not_lt_zero _)
    | succ n8 ih8 =>
      intro v3 v4 v5 g8_3a g8_3b g8_4a g8_4b g8_5a g8_5b g8i0 hm8
      refine vc_iload dX4_wordOf_8 rfl ?_
      refine vc_wlen dX4_wordOf_10 dX4_wordOf_12 (Nat.le_of_ble_eq_true rfl) (Nat.le_of_ble_eq_true rfl) (Nat.le_of_ble_eq_true rfl) ?_
      refine vc_icmp_ge dX4_wordOf_15 (fun h1 => ?_) (fun h1 => ?_)
      · refine vc_iconst dX4_wordOf_91 rfl ?_
        refine vc_iret dX4_wordOf_92 rfl (Nat.le_of_ble_eq_true rfl) (Nat.le_of_ble_eq_true rfl) ?_
        exact ⟨_, rfl, rfl, by first | (rw [show v5.toNat = 193 + (v5.toNat - 193) by omega, ← List.drop_drop] at g8i0; rw [show WB.drop 193 = [] from rfl, List.drop_nil] at g8i0; exact g8i0) | (rw [if_pos (by omega), if_pos (by omega)] at g8i0; exact g8i0)⟩
      · refine vc_wchrE dX4_wordOf_18 dX4_wordOf_20 dX4_wordOf_22 rfl (by omega) (by omega) (Nat.le_of_ble_eq_true rfl) (Nat.le_of_ble_eq_true rfl) (Nat.le_of_ble_eq_true rfl) (fun x2 hx2 => ?_)
        rw [wb_drop (by omega) (by omega), ← hx2, wGo] at g8i0
        refine vc_istore dX4_wordOf_25 (by decide) rfl (show _ = [some (aR 22), some (aI f), some (aI t), some (aI v3), some (aI v4), some (aI v5), some (aI x2)] from rfl) ?_
        refine vc_iload dX4_wordOf_27 rfl ?_
        refine vc_bipush dX4_wordOf_29 rfl ?_
        refine vc_icmp_ne dX4_wordOf_31 (fun h3 => ?_) (fun h3 => ?_)
        · refine vc_iload dX4_wordOf_51 rfl ?_
          refine vc_iconst dX4_wordOf_53 rfl ?_
          refine vc_icmp_eq dX4_wordOf_54 (fun h4 => ?_) (fun h4 => ?_)
          · refine vc_iincE dX4_wordOf_85 rfl (by omega) (by omega) (by decide) rfl (show _ = [some (aR 22), some (aI f), some (aI t), some (aI v3), some (aI v4), some (aI (v5 + 1)), some (aI x2)] from rfl) ?_
            refine vc_goto dX4_wordOf_88 ?_
            refine vc_less [some (aR 22), some (aI f), some (aI t), some (aI v3), some (aI v4), some (aI (v5 + 1)), none] (lessL_keep (lessL_keep (lessL_keep (lessL_keep (lessL_keep (lessL_keep (lessL_drop (lessL_nil)))))))) ?_
            exact ih8 v3 v4 (v5 + 1) (by omega) (by omega) (by omega) (by omega) (by omega) (by omega) (by first | rfl | (rw [if_pos (by omega), if_neg (by omega)] at g8i0; exact wGo_cast (by omega) (by omega) g8i0) | (rw [if_neg (by omega), if_pos (by omega)] at g8i0; exact wGo_cast (by omega) (by omega) g8i0) | (rw [if_neg (by omega), if_neg (by omega), if_pos ⟨by omega, by omega⟩] at g8i0; exact wGo_cast (by omega) (by omega) g8i0) | (rw [if_neg (by omega), if_neg (by omega), if_neg (by omega)] at g8i0; exact wGo_cast (by omega) (by omega) g8i0)) (by omega)
          · refine vc_iload dX4_wordOf_57 rfl ?_
            refine vc_iload_n dX4_wordOf_59 rfl ?_
            refine vc_icmp_ge dX4_wordOf_60 (fun h5 => ?_) (fun h5 => ?_)
            · refine vc_iconst dX4_wordOf_82 rfl ?_
              refine vc_istore dX4_wordOf_83 (by decide) rfl (show _ = [some (aR 22), some (aI f), some (aI t), some (aI v3), some (aI (-1)), some (aI v5), some (aI x2)] from rfl) ?_
              refine vc_iincE dX4_wordOf_85 rfl (by omega) (by omega) (by decide) rfl (show _ = [some (aR 22), some (aI f), some (aI t), some (aI v3), some (aI (-1)), some (aI (v5 + 1)), some (aI x2)] from rfl) ?_
              refine vc_goto dX4_wordOf_88 ?_
              refine vc_less [some (aR 22), some (aI f), some (aI t), some (aI v3), some (aI (-1)), some (aI (v5 + 1)), none] (lessL_keep (lessL_keep (lessL_keep (lessL_keep (lessL_keep (lessL_keep (lessL_drop (lessL_nil)))))))) ?_
              exact ih8 v3 (-1) (v5 + 1) (by omega) (by omega) (by omega) (by omega) (by omega) (by omega) (by first | rfl | (rw [if_pos (by omega), if_neg (by omega)] at g8i0; exact wGo_cast (by omega) (by omega) g8i0) | (rw [if_neg (by omega), if_pos (by omega)] at g8i0; exact wGo_cast (by omega) (by omega) g8i0) | (rw [if_neg (by omega), if_neg (by omega), if_pos ⟨by omega, by omega⟩] at g8i0; exact wGo_cast (by omega) (by omega) g8i0) | (rw [if_neg (by omega), if_neg (by omega), if_neg (by omega)] at g8i0; exact wGo_cast (by omega) (by omega) g8i0)) (by omega)
            · refine vc_aload_n dX4_wordOf_63 rfl ?_
              refine vc_getR dX4_wordOf_64 flX4_9 (s_22 hB0.1.1) rfl (r_22_0 hB0.1.1) ?_
              refine vc_iload dX4_wordOf_67 rfl ?_
              refine vc_iaload dX4_wordOf_69 (s_21 hB0.1.1) (by omega) (by omega) ?_
              refine vc_iload dX4_wordOf_70 rfl ?_
              refine vc_icmp_ne dX4_wordOf_72 (fun h6 => ?_) (fun h6 => ?_)
              · refine vc_iconst dX4_wordOf_82 rfl ?_
                refine vc_istore dX4_wordOf_83 (by decide) rfl (show _ = [some (aR 22), some (aI f), some (aI t), some (aI v3), some (aI (-1)), some (aI v5), some (aI x2)] from rfl) ?_
                refine vc_iincE dX4_wordOf_85 rfl (by omega) (by omega) (by decide) rfl (show _ = [some (aR 22), some (aI f), some (aI t), some (aI v3), some (aI (-1)), some (aI (v5 + 1)), some (aI x2)] from rfl) ?_
                refine vc_goto dX4_wordOf_88 ?_
                refine vc_less [some (aR 22), some (aI f), some (aI t), some (aI v3), some (aI (-1)), some (aI (v5 + 1)), none] (lessL_keep (lessL_keep (lessL_keep (lessL_keep (lessL_keep (lessL_keep (lessL_drop (lessL_nil)))))))) ?_
                exact ih8 v3 (-1) (v5 + 1) (by omega) (by omega) (by omega) (by omega) (by omega) (by omega) (by first | rfl | (rw [if_pos (by omega), if_neg (by omega)] at g8i0; exact wGo_cast (by omega) (by omega) g8i0) | (rw [if_neg (by omega), if_pos (by omega)] at g8i0; exact wGo_cast (by omega) (by omega) g8i0) | (rw [if_neg (by omega), if_neg (by omega), if_pos ⟨by omega, by omega⟩] at g8i0; exact wGo_cast (by omega) (by omega) g8i0) | (rw [if_neg (by omega), if_neg (by omega), if_neg (by omega)] at g8i0; exact wGo_cast (by omega) (by omega) g8i0)) (by omega)
              · refine vc_iload dX4_wordOf_75 rfl ?_
                refine vc_iconst dX4_wordOf_77 rfl ?_
                refine vc_iaddE dX4_wordOf_78 (by omega) (by omega) ?_
                refine vc_goto dX4_wordOf_79 ?_
                refine vc_nameI (fun x7 ex7 => ?_)
                refine vc_istore dX4_wordOf_83 (by decide) rfl (show _ = [some (aR 22), some (aI f), some (aI t), some (aI v3), some (aI x7), some (aI v5), some (aI x2)] from rfl) ?_
                refine vc_iincE dX4_wordOf_85 rfl (by omega) (by omega) (by decide) rfl (show _ = [some (aR 22), some (aI f), some (aI t), some (aI v3), some (aI x7), some (aI (v5 + 1)), some (aI x2)] from rfl) ?_
                refine vc_goto dX4_wordOf_88 ?_
                refine vc_less [some (aR 22), some (aI f), some (aI t), some (aI v3), some (aI x7), some (aI (v5 + 1)), none] (lessL_keep (lessL_keep (lessL_keep (lessL_keep (lessL_keep (lessL_keep (lessL_drop (lessL_nil)))))))) ?_
                exact ih8 v3 x7 (v5 + 1) (by omega) (by omega) (by omega) (by omega) (by omega) (by omega) (by first | rfl | (rw [if_pos (by omega), if_neg (by omega)] at g8i0; exact wGo_cast (by omega) (by omega) g8i0) | (rw [if_neg (by omega), if_pos (by omega)] at g8i0; exact wGo_cast (by omega) (by omega) g8i0) | (rw [if_neg (by omega), if_neg (by omega), if_pos ⟨by omega, by omega⟩] at g8i0; exact wGo_cast (by omega) (by omega) g8i0) | (rw [if_neg (by omega), if_neg (by omega), if_neg (by omega)] at g8i0; exact wGo_cast (by omega) (by omega) g8i0)) (by omega)
        · refine vc_iload dX4_wordOf_34 rfl ?_
          refine vc_iload_n dX4_wordOf_36 rfl ?_
          refine vc_icmp_ne dX4_wordOf_37 (fun h8 => ?_) (fun h8 => ?_)
          · refine vc_iincE dX4_wordOf_42 rfl (by omega) (by omega) (by decide) rfl (show _ = [some (aR 22), some (aI f), some (aI t), some (aI (v3 + 1)), some (aI v4), some (aI v5), some (aI x2)] from rfl) ?_
            refine vc_iload_n dX4_wordOf_45 rfl ?_
            refine vc_istore dX4_wordOf_46 (by decide) rfl (show _ = [some (aR 22), some (aI f), some (aI t), some (aI (v3 + 1)), some (aI f), some (aI v5), some (aI x2)] from rfl) ?_
            refine vc_goto dX4_wordOf_48 ?_
            refine vc_iincE dX4_wordOf_85 rfl (by omega) (by omega) (by decide) rfl (show _ = [some (aR 22), some (aI f), some (aI t), some (aI (v3 + 1)), some (aI f), some (aI (v5 + 1)), some (aI x2)] from rfl) ?_
            refine vc_goto dX4_wordOf_88 ?_
            refine vc_less [some (aR 22), some (aI f), some (aI t), some (aI (v3 + 1)), some (aI f), some (aI (v5 + 1)), none] (lessL_keep (lessL_keep (lessL_keep (lessL_keep (lessL_keep (lessL_keep (lessL_drop (lessL_nil)))))))) ?_
            exact ih8 (v3 + 1) f (v5 + 1) (by omega) (by omega) (by omega) (by omega) (by omega) (by omega) (by first | rfl | (rw [if_pos (by omega), if_neg (by omega)] at g8i0; exact wGo_cast (by omega) (by omega) g8i0) | (rw [if_neg (by omega), if_pos (by omega)] at g8i0; exact wGo_cast (by omega) (by omega) g8i0) | (rw [if_neg (by omega), if_neg (by omega), if_pos ⟨by omega, by omega⟩] at g8i0; exact wGo_cast (by omega) (by omega) g8i0) | (rw [if_neg (by omega), if_neg (by omega), if_neg (by omega)] at g8i0; exact wGo_cast (by omega) (by omega) g8i0)) (by omega)
          · refine vc_iload_n dX4_wordOf_40 rfl ?_
            refine vc_iret dX4_wordOf_41 rfl (Nat.le_of_ble_eq_true rfl) (Nat.le_of_ble_eq_true rfl) ?_
            exact ⟨_, rfl, rfl, by first | (rw [show v5.toNat = 193 + (v5.toNat - 193) by omega, ← List.drop_drop] at g8i0; rw [show WB.drop 193 = [] from rfl, List.drop_nil] at g8i0; exact g8i0) | (rw [if_pos (by omega), if_pos (by omega)] at g8i0; exact g8i0)⟩
  exact lp8 _ 0 f 0 (by omega) (by omega) (by omega) (by omega) (by omega) (by omega) (by first | rfl | (rw [if_pos (by omega), if_neg (by omega)] at g8i0; exact wGo_cast (by omega) (by omega) g8i0) | (rw [if_neg (by omega), if_pos (by omega)] at g8i0; exact wGo_cast (by omega) (by omega) g8i0) | (rw [if_neg (by omega), if_neg (by omega), if_pos ⟨by omega, by omega⟩] at g8i0; exact wGo_cast (by omega) (by omega) g8i0) | (rw [if_neg (by omega), if_neg (by omega), if_neg (by omega)] at g8i0; exact wGo_cast (by omega) (by omega) g8i0)) (Nat.lt_succ_self _)

set_option maxRecDepth 4000 in
theorem sfX4_setTokenF {l : Launch} {M : Mem} (hB : Box M) (n : Int) (i : Int) (f : Int) (t : Int) (p0 : 0 ≤ i) (p1 : i ≤ 300) (p2 : 0 ≤ f) (p3 : f ≤ 299) (p4 : 0 ≤ t) (p5 : t ≤ 300) (p6 : t = en (mI M 21) n f) (p7 : f < n) (p8 : n ≤ 300) (p9 : byt (mI M 21)) (p10 : f < t) : Call l mdX4_setToken [aR 22, aI i, aI f, aI t] M (fun q N => q = none ∧ BF fQ M N ∧ mI N 28 = mI M 28 ∧ (∀ j : Nat, j ≠ i.toNat → mI N 26 j = mI M 26 j ∧ mI N 27 j = mI M 27 j) ∧ CT (mI N 26 i.toNat) (mI N 27 i.toNat) (tk (mI M 21) n f)) := by
  have hB0 : BF fQ M M := BF.start hB
  refine Call.of [some (aR 22), some (aI i), some (aI f), some (aI t)] rfl (Nat.le_of_ble_eq_true rfl) rfl ?_
  refine vc_aload_n dX4_setToken_0 rfl ?_
  refine vc_getR dX4_setToken_1 flX4_9 (s_22 hB0.1.1) rfl (r_22_0 hB0.1.1) ?_
  refine vc_iload_n dX4_setToken_4 rfl ?_
  refine vc_iaload dX4_setToken_5 (s_21 hB0.1.1) (by omega) (by omega) ?_
  refine vc_cSI dX4_setToken_6 (sfX4_isLetterF (M := M) hB0.1  (mI M 21 f.toNat) ) rfl okX4_isLetter stX4_isLetter lkX4_95 rfl (Nat.le_of_ble_eq_true rfl) ⟨rfl, rfl⟩ (Nat.le_of_ble_eq_true rfl) (Nat.le_of_ble_eq_true rfl) (Nat.le_of_ble_eq_true rfl) ?_
  rintro x1 _ ⟨rfl, h2, h3, h4⟩
  refine vc_if_eq dX4_setToken_9 (fun h5 => ?_) (fun h5 => ?_)
  · refine vc_aload_n dX4_setToken_34 rfl ?_
    refine vc_getR dX4_setToken_35 flX4_9 (s_22 hB0.1.1) rfl (r_22_0 hB0.1.1) ?_
    refine vc_iload_n dX4_setToken_38 rfl ?_
    refine vc_iaload dX4_setToken_39 (s_21 hB0.1.1) (by omega) (by omega) ?_
    refine vc_cSI dX4_setToken_40 (sfX4_isDigitF (M := M) hB0.1  (mI M 21 f.toNat) ) rfl okX4_isDigit stX4_isDigit lkX4_98 rfl (Nat.le_of_ble_eq_true rfl) ⟨rfl, rfl⟩ (Nat.le_of_ble_eq_true rfl) (Nat.le_of_ble_eq_true rfl) (Nat.le_of_ble_eq_true rfl) ?_
    rintro x6 _ ⟨rfl, h7, h8, h9⟩
    refine vc_if_eq dX4_setToken_43 (fun h10 => ?_) (fun h10 => ?_)
    · refine vc_aload_n dX4_setToken_68 rfl ?_
      refine vc_getR dX4_setToken_69 flX4_24 (s_22 hB0.1.1) rfl (r_22_4 hB0.1.1) ?_
      refine vc_iload_n dX4_setToken_72 rfl ?_
      refine vc_iconst dX4_setToken_73 rfl ?_
      refine vc_iastore dX4_setToken_74 (s_26 hB0.1.1) (by omega) (by omega) ?_
      have kp11 : mI (sI M 26 i.toNat 3) 28 = mI M 28 := (kp_sI rfl rfl)
      have hB12 : BF fQ M (sI M 26 i.toNat 3) := BF.w26 hB0 (fun _ => rfl) _
      refine vc_aload_n dX4_setToken_75 rfl ?_
      refine vc_getR dX4_setToken_76 flX4_27 (s_22 hB12.1.1) rfl (r_22_5 hB12.1.1) ?_
      refine vc_iload_n dX4_setToken_79 rfl ?_
      refine vc_aload_n dX4_setToken_80 rfl ?_
      refine vc_getR dX4_setToken_81 flX4_9 (s_22 hB12.1.1) rfl (r_22_0 hB12.1.1) ?_
      refine vc_iload_n dX4_setToken_84 rfl ?_
      refine vc_iaload dX4_setToken_85 (s_21 hB12.1.1) (by omega) (by omega) ?_
      refine vc_topI (mI M 21 f.toNat) rfl ?_
      refine vc_iastore dX4_setToken_86 (s_27 hB12.1.1) (by omega) (by omega) ?_
      have kp13 : mI (sI (sI M 26 i.toNat 3) 27 i.toNat (mI M 21 f.toNat)) 28 = mI M 28 := (kp_sI kp11 rfl)
      have hB14 : BF fQ M (sI (sI M 26 i.toNat 3) 27 i.toNat (mI M 21 f.toNat)) := BF.w27 hB12 (fun _ => rfl) _
      refine vc_vret dX4_setToken_87 rfl (Nat.le_of_ble_eq_true rfl) (Nat.le_of_ble_eq_true rfl) ?_
      have e26 : mI (sI (sI M 26 i.toNat 3) 27 i.toNat (mI M 21 f.toNat)) 26 i.toNat = 3 := by rw [mI_sI, if_neg (fun e => by omega), mI_same]
      have e27 : mI (sI (sI M 26 i.toNat 3) 27 i.toNat (mI M 21 f.toNat)) 27 i.toNat = mI M 21 f.toNat := mI_same
      exact ⟨rfl, hB14, kp13, (fun j hj => ⟨by rw [mI_sI, if_neg (fun e => by omega), mI_sI, if_neg (fun e => hj e.2)], by rw [mI_sI, if_neg (fun e => hj e.2), mI_sI, if_neg (fun e => by omega)]⟩), (by rw [e26, e27, tk_sign (by omega) (by omega) (by omega)]; exact Or.inr (Or.inr (Or.inr ⟨rfl, (p9 _).1, (p9 _).2, rfl⟩)))⟩
    · refine vc_aload_n dX4_setToken_46 rfl ?_
      refine vc_getR dX4_setToken_47 flX4_24 (s_22 hB0.1.1) rfl (r_22_4 hB0.1.1) ?_
      refine vc_iload_n dX4_setToken_50 rfl ?_
      refine vc_iconst dX4_setToken_51 rfl ?_
      refine vc_iastore dX4_setToken_52 (s_26 hB0.1.1) (by omega) (by omega) ?_
      have kp15 : mI (sI M 26 i.toNat 2) 28 = mI M 28 := (kp_sI rfl rfl)
      have hB16 : BF fQ M (sI M 26 i.toNat 2) := BF.w26 hB0 (fun _ => rfl) _
      refine vc_aload_n dX4_setToken_53 rfl ?_
      refine vc_getR dX4_setToken_54 flX4_27 (s_22 hB16.1.1) rfl (r_22_5 hB16.1.1) ?_
      refine vc_iload_n dX4_setToken_57 rfl ?_
      refine vc_aload_n dX4_setToken_58 rfl ?_
      refine vc_iload_n dX4_setToken_59 rfl ?_
      refine vc_iload_n dX4_setToken_60 rfl ?_
      have hdd : ∀ ii : Nat, f ≤ ii → (ii : Int) < t → 48 ≤ mI (sI M 26 i.toNat 2) 21 ii ∧ mI (sI M 26 i.toNat 2) 21 ii ≤ 57 := fun ii a b => en_in_dig (f := mI M 21) (n := n) (by omega) (by omega) ii a (by rw [← p6]; exact b)
      refine vc_cVI dX4_setToken_61 (sfX4_numberOfF (M := (sI M 26 i.toNat 2)) hB16.1  f t (by omega) (by omega) (by omega) (by omega) (by exact hdd) (by omega)) rfl okX4_numberOf viX4_numberOf lkX4_104 (s_22 hB16.1.1) cl_4 rfl (Nat.le_of_ble_eq_true rfl) ⟨rfl, rfl⟩ (Nat.le_of_ble_eq_true rfl) (Nat.le_of_ble_eq_true rfl) (Nat.le_of_ble_eq_true rfl) ?_
      rintro x17 _ ⟨rfl, h18, h19, h20⟩
      have hwd : x17 = nuC (mI M 21) (t - f).toNat f.toNat 0 := h20
      refine vc_iastore dX4_setToken_64 (s_27 hB16.1.1) (by omega) (by omega) ?_
      have kp21 : mI (sI (sI M 26 i.toNat 2) 27 i.toNat x17) 28 = mI M 28 := (kp_sI kp15 rfl)
      have hB22 : BF fQ M (sI (sI M 26 i.toNat 2) 27 i.toNat x17) := BF.w27 hB16 (fun _ => rfl) _
      refine vc_goto dX4_setToken_65 ?_
      refine vc_vret dX4_setToken_87 rfl (Nat.le_of_ble_eq_true rfl) (Nat.le_of_ble_eq_true rfl) ?_
      have e26 : mI (sI (sI M 26 i.toNat 2) 27 i.toNat x17) 26 i.toNat = 2 := by rw [mI_sI, if_neg (fun e => by omega), mI_same]
      have e27 : mI (sI (sI M 26 i.toNat 2) 27 i.toNat x17) 27 i.toNat = x17 := mI_same
      exact ⟨rfl, hB22, kp21, (fun j hj => ⟨by rw [mI_sI, if_neg (fun e => by omega), mI_sI, if_neg (fun e => hj e.2)], by rw [mI_sI, if_neg (fun e => hj e.2), mI_sI, if_neg (fun e => by omega)]⟩), (by rw [e26, e27, tk_dig (by omega) (by omega), ← p6, ← hwd]; exact Or.inr (Or.inr (Or.inl ⟨rfl, by omega, by omega, rfl⟩)))⟩
  · refine vc_aload_n dX4_setToken_12 rfl ?_
    refine vc_getR dX4_setToken_13 flX4_24 (s_22 hB0.1.1) rfl (r_22_4 hB0.1.1) ?_
    refine vc_iload_n dX4_setToken_16 rfl ?_
    refine vc_iconst dX4_setToken_17 rfl ?_
    refine vc_iastore dX4_setToken_18 (s_26 hB0.1.1) (by omega) (by omega) ?_
    have kp23 : mI (sI M 26 i.toNat 1) 28 = mI M 28 := (kp_sI rfl rfl)
    have hB24 : BF fQ M (sI M 26 i.toNat 1) := BF.w26 hB0 (fun _ => rfl) _
    refine vc_aload_n dX4_setToken_19 rfl ?_
    refine vc_getR dX4_setToken_20 flX4_27 (s_22 hB24.1.1) rfl (r_22_5 hB24.1.1) ?_
    refine vc_iload_n dX4_setToken_23 rfl ?_
    refine vc_aload_n dX4_setToken_24 rfl ?_
    refine vc_iload_n dX4_setToken_25 rfl ?_
    refine vc_iload_n dX4_setToken_26 rfl ?_
    refine vc_cVI dX4_setToken_27 (sfX4_wordOfF (M := (sI M 26 i.toNat 1)) hB24.1  f t (by omega) (by omega) (by omega) (by omega)) rfl okX4_wordOf viX4_wordOf lkX4_101 (s_22 hB24.1.1) cl_4 rfl (Nat.le_of_ble_eq_true rfl) ⟨rfl, rfl⟩ (Nat.le_of_ble_eq_true rfl) (Nat.le_of_ble_eq_true rfl) (Nat.le_of_ble_eq_true rfl) ?_
    rintro x25 _ ⟨rfl, h26⟩
    have hwd : x25 = wGo (mI M 21) f t WB 0 f := h26
    refine vc_iastore dX4_setToken_30 (s_27 hB24.1.1) (by omega) (by omega) ?_
    have kp27 : mI (sI (sI M 26 i.toNat 1) 27 i.toNat x25) 28 = mI M 28 := (kp_sI kp23 rfl)
    have hB28 : BF fQ M (sI (sI M 26 i.toNat 1) 27 i.toNat x25) := BF.w27 hB24 (fun _ => rfl) _
    refine vc_goto dX4_setToken_31 ?_
    refine vc_vret dX4_setToken_87 rfl (Nat.le_of_ble_eq_true rfl) (Nat.le_of_ble_eq_true rfl) ?_
    have e26 : mI (sI (sI M 26 i.toNat 1) 27 i.toNat x25) 26 i.toNat = 1 := by rw [mI_sI, if_neg (fun e => by omega), mI_same]
    have e27 : mI (sI (sI M 26 i.toNat 1) 27 i.toNat x25) 27 i.toNat = x25 := mI_same
    have ew : x25 = idx (tl (mI M 21) (t - f).toNat f.toNat) WL 0 := hwd.trans (wGo_eq (mI M 21) (by omega) (by omega))
    have hix := idx36 (tl (mI M 21) (t - f).toNat f.toNat)
    exact ⟨rfl, hB28, kp27, (fun j hj => ⟨by rw [mI_sI, if_neg (fun e => by omega), mI_sI, if_neg (fun e => hj e.2)], by rw [mI_sI, if_neg (fun e => hj e.2), mI_sI, if_neg (fun e => by omega)]⟩), (by rw [e26, e27, tk_let (by omega) (by omega), ← p6, ← ew]; exact Or.inr (Or.inl ⟨rfl, by omega, by omega, rfl⟩))⟩

set_option maxRecDepth 4000 in
theorem sfX4_partF {l : Launch} {M : Mem} (hB : Box M)  (le : Int) (p0 : 0 ≤ le) (p1 : le ≤ 300) (p2 : byt (mI M 21)) : Call l mdX4_part [aR 22, aI le] M (fun q N => q = none ∧ BF fQ M N ∧ Tab (tk (mI M 21) le) (nx (mI M 21) le) (mI N 26) (mI N 27) (mI N 28) 301 0 (skb (mI M 21) le 0)) := by
  have hB0 : BF fQ M M := BF.start hB
  refine Call.of [some (aR 22), some (aI le), none, none, none, none] rfl (Nat.le_of_ble_eq_true rfl) rfl ?_
  refine vc_iconst dX4_part_0 rfl ?_
  refine vc_istore_n dX4_part_1 (by decide) rfl (show _ = [some (aR 22), some (aI le), some (aI 0), none, none, none] from rfl) ?_
  refine vc_iconst dX4_part_2 rfl ?_
  refine vc_istore_n dX4_part_3 (by decide) rfl (show _ = [some (aR 22), some (aI le), some (aI 0), some (aI 0), none, none] from rfl) ?_
  refine vc_iconst dX4_part_4 rfl ?_
  refine vc_istore dX4_part_5 (by decide) rfl (show _ = [some (aR 22), some (aI le), some (aI 0), some (aI 0), some (aI 0), none] from rfl) ?_
  have lp7 : ∀ (n7 : Nat) (Mq7 : Mem) (v2 : Int) (v3 : Int) (v4 : Int), (BF fQ M Mq7) → (0 ≤ v2) → (v2 ≤ v4) → (0 ≤ v3) → (v3 ≤ le) → (0 ≤ v4) → (v4 ≤ 300) → (PT (mI M 21) le (mI Mq7 26) (mI Mq7 27) (mI Mq7 28) v2 v3) → (v4 ≤ v3) → (300 - v4).toNat < n7 → VC l mdX4_part 7 [some (aR 22), some (aI le), some (aI v2), some (aI v3), some (aI v4), none] [] Mq7 0 0 (fun q N => q = none ∧ BF fQ M N ∧ Tab (tk (mI M 21) le) (nx (mI M 21) le) (mI N 26) (mI N 27) (mI N 28) 301 0 (skb (mI M 21) le 0)) := by
    intro n7
    induction n7 with
    | zero => intro Mq7 v2 v3 v4 hQ7 g7_2a g7_2b g7_3a g7_3b g7_4a g7_4b g7i0 g7i1 hm7; exact absurd hm7 (Nat.not_lt_zero _)
    | succ n7 ih7 =>
      intro Mq7 v2 v3 v4 hQ7 g7_2a g7_2b g7_3a g7_3b g7_4a g7_4b g7i0 g7i1 hm7
      refine vc_iload dX4_part_7 rfl ?_
      refine vc_sipush dX4_part_9 rfl ?_
      refine vc_icmp_ge dX4_part_12 (fun h1 => ?_) (fun h1 => ?_)
      · refine vc_aload_n dX4_part_69 rfl ?_
        refine vc_getR dX4_part_70 flX4_30 (s_22 hQ7.1.1) rfl (r_22_6 hQ7.1.1) ?_
        refine vc_iload_n dX4_part_73 rfl ?_
        refine vc_iload_n dX4_part_74 rfl ?_
        refine vc_iastore dX4_part_75 (s_28 hQ7.1.1) (by omega) (by omega) ?_
        have hB2 : BF fQ M (sI Mq7 28 v2.toNat le) := BF.w28 hQ7 (fun _ => rfl) _
        refine vc_aload_n dX4_part_76 rfl ?_
        refine vc_getR dX4_part_77 flX4_24 (s_22 hB2.1.1) rfl (r_22_4 hB2.1.1) ?_
        refine vc_iload_n dX4_part_80 rfl ?_
        refine vc_iconst dX4_part_81 rfl ?_
        refine vc_iastore dX4_part_82 (s_26 hB2.1.1) (by omega) (by omega) ?_
        have hB3 : BF fQ M (sI (sI Mq7 28 v2.toNat le) 26 v2.toNat 0) := BF.w26 hB2 (fun _ => rfl) _
        refine vc_vret dX4_part_83 rfl (Nat.le_of_ble_eq_true rfl) (Nat.le_of_ble_eq_true rfl) ?_
        exact ⟨rfl, hB3, by
          have q := fun A2 C2 hA hA0 hC hC0 => PT.tab (A2 := A2) (C2 := C2) g7i0 (by omega) (by omega) (by omega) hA hA0 hC hC0 301
          have h27 : mI (sI (sI Mq7 28 v2.toNat le) 26 v2.toNat 0) 27 = mI Mq7 27 := rfl
          rw [h27]
          exact q (mI (sI (sI Mq7 28 v2.toNat le) 26 v2.toNat 0) 26) (mI (sI (sI Mq7 28 v2.toNat le) 26 v2.toNat 0) 28) (fun j hj => by rw [mI_sI, if_neg (fun e => hj e.2), mI_sI, if_neg (fun e => by omega)]) mI_same (fun j hj => by rw [mI_sI, if_neg (fun e => by omega), mI_sI, if_neg (fun e => hj e.2)]) (by rw [mI_sI, if_neg (fun e => by omega), mI_same])⟩
      · refine vc_iload_n dX4_part_15 rfl ?_
        refine vc_iload_n dX4_part_16 rfl ?_
        refine vc_icmp_ge dX4_part_17 (fun h4 => ?_) (fun h4 => ?_)
        · refine vc_aload_n dX4_part_69 rfl ?_
          refine vc_getR dX4_part_70 flX4_30 (s_22 hQ7.1.1) rfl (r_22_6 hQ7.1.1) ?_
          refine vc_iload_n dX4_part_73 rfl ?_
          refine vc_iload_n dX4_part_74 rfl ?_
          refine vc_iastore dX4_part_75 (s_28 hQ7.1.1) (by omega) (by omega) ?_
          have hB5 : BF fQ M (sI Mq7 28 v2.toNat le) := BF.w28 hQ7 (fun _ => rfl) _
          refine vc_aload_n dX4_part_76 rfl ?_
          refine vc_getR dX4_part_77 flX4_24 (s_22 hB5.1.1) rfl (r_22_4 hB5.1.1) ?_
          refine vc_iload_n dX4_part_80 rfl ?_
          refine vc_iconst dX4_part_81 rfl ?_
          refine vc_iastore dX4_part_82 (s_26 hB5.1.1) (by omega) (by omega) ?_
          have hB6 : BF fQ M (sI (sI Mq7 28 v2.toNat le) 26 v2.toNat 0) := BF.w26 hB5 (fun _ => rfl) _
          refine vc_vret dX4_part_83 rfl (Nat.le_of_ble_eq_true rfl) (Nat.le_of_ble_eq_true rfl) ?_
          exact ⟨rfl, hB6, by
            have q := fun A2 C2 hA hA0 hC hC0 => PT.tab (A2 := A2) (C2 := C2) g7i0 (by omega) (by omega) (by omega) hA hA0 hC hC0 301
            have h27 : mI (sI (sI Mq7 28 v2.toNat le) 26 v2.toNat 0) 27 = mI Mq7 27 := rfl
            rw [h27]
            exact q (mI (sI (sI Mq7 28 v2.toNat le) 26 v2.toNat 0) 26) (mI (sI (sI Mq7 28 v2.toNat le) 26 v2.toNat 0) 28) (fun j hj => by rw [mI_sI, if_neg (fun e => hj e.2), mI_sI, if_neg (fun e => by omega)]) mI_same (fun j hj => by rw [mI_sI, if_neg (fun e => by omega), mI_sI, if_neg (fun e => hj e.2)]) (by rw [mI_sI, if_neg (fun e => by omega), mI_same])⟩
        · refine vc_iload_n dX4_part_20 rfl ?_
          refine vc_istore dX4_part_21 (by decide) rfl (show _ = [some (aR 22), some (aI le), some (aI v2), some (aI v3), some (aI v4), some (aI v3)] from rfl) ?_
          have hg21 : ∀ j, mI Mq7 21 j = mI M 21 j := fun j => hQ7.2.2 21 j rfl
          refine vc_aload_n dX4_part_23 rfl ?_
          refine vc_iload dX4_part_24 rfl ?_
          refine vc_iload_n dX4_part_26 rfl ?_
          refine vc_cVI dX4_part_27 (sfX4_endOfTokenF (M := Mq7) hQ7.1  v3 le (by omega) (by omega) (by omega) (by omega) (by omega)) rfl okX4_endOfToken viX4_endOfToken lkX4_84 (s_22 hQ7.1.1) cl_4 rfl (Nat.le_of_ble_eq_true rfl) ⟨rfl, rfl⟩ (Nat.le_of_ble_eq_true rfl) (Nat.le_of_ble_eq_true rfl) (Nat.le_of_ble_eq_true rfl) ?_
          rintro x7 _ ⟨rfl, h8, h9, h10, h11, h12⟩
          have hen : x7 = en (mI M 21) le v3 := by have q := h12; rw [show mI Mq7 21 = mI M 21 from funext hg21] at q; exact q
          refine vc_istore_n dX4_part_30 (by decide) rfl (show _ = [some (aR 22), some (aI le), some (aI v2), some (aI x7), some (aI v4), some (aI v3)] from rfl) ?_
          refine vc_aload_n dX4_part_31 rfl ?_
          refine vc_getR dX4_part_32 flX4_9 (s_22 hQ7.1.1) rfl (r_22_0 hQ7.1.1) ?_
          refine vc_iload dX4_part_35 rfl ?_
          refine vc_iaload dX4_part_37 (s_21 hQ7.1.1) (by omega) (by omega) ?_
          refine vc_cSI dX4_part_38 (sfX4_isBlankF (M := Mq7) hQ7.1  (mI Mq7 21 v3.toNat) ) rfl okX4_isBlank stX4_isBlank lkX4_87 rfl (Nat.le_of_ble_eq_true rfl) ⟨rfl, rfl⟩ (Nat.le_of_ble_eq_true rfl) (Nat.le_of_ble_eq_true rfl) (Nat.le_of_ble_eq_true rfl) ?_
          rintro x13 _ ⟨rfl, h14, h15, h16⟩
          refine vc_if_ne dX4_part_41 (fun h17 => ?_) (fun h17 => ?_)
          · have hpt : PT (mI M 21) le (mI Mq7 26) (mI Mq7 27) (mI Mq7 28) v2 x7 := PT.blank g7i0 (by omega) (by omega) (by rw [← hg21]; omega) hen
            refine vc_iincE dX4_part_63 rfl (by omega) (by omega) (by decide) rfl (show _ = [some (aR 22), some (aI le), some (aI v2), some (aI x7), some (aI (v4 + 1)), some (aI v3)] from rfl) ?_
            refine vc_goto dX4_part_66 ?_
            refine vc_less [some (aR 22), some (aI le), some (aI v2), some (aI x7), some (aI (v4 + 1)), none] (lessL_keep (lessL_keep (lessL_keep (lessL_keep (lessL_keep (lessL_drop (lessL_nil))))))) ?_
            exact ih7 Mq7 v2 x7 (v4 + 1) hQ7 (by omega) (by omega) (by omega) (by omega) (by omega) (by omega) (by first | exact PT.new | exact hpt) (by omega) (by omega)
          · refine vc_aload_n dX4_part_44 rfl ?_
            refine vc_getR dX4_part_45 flX4_30 (s_22 hQ7.1.1) rfl (r_22_6 hQ7.1.1) ?_
            refine vc_iload_n dX4_part_48 rfl ?_
            refine vc_iload dX4_part_49 rfl ?_
            refine vc_iastore dX4_part_51 (s_28 hQ7.1.1) (by omega) (by omega) ?_
            have hB18 : BF fQ M (sI Mq7 28 v2.toNat v3) := BF.w28 hQ7 (fun _ => rfl) _
            refine vc_aload_n dX4_part_52 rfl ?_
            refine vc_iload_n dX4_part_53 rfl ?_
            refine vc_iload dX4_part_54 rfl ?_
            refine vc_iload_n dX4_part_56 rfl ?_
            have h21 : mI (sI Mq7 28 v2.toNat v3) 21 = mI M 21 := funext fun j => (show mI (sI Mq7 28 v2.toNat v3) 21 j = mI Mq7 21 j from rfl).trans (hg21 j)
            refine vc_cVU dX4_part_57 (sfX4_setTokenF (M := (sI Mq7 28 v2.toNat v3)) hB18.1 le v2 v3 x7 (by omega) (by omega) (by omega) (by omega) (by omega) (by omega) (by rw [h21]; exact hen) (by omega) (by omega) (by rw [h21]; exact p2) (by omega)) rfl okX4_setToken viX4_setToken lkX4_91 (s_22 hB18.1.1) cl_4 rfl (Nat.le_of_ble_eq_true rfl) ⟨rfl, rfl⟩ (Nat.le_of_ble_eq_true rfl) (Nat.le_of_ble_eq_true rfl) (Nat.le_of_ble_eq_true rfl) ?_
            rintro M19 ⟨hB20, kp21, h22, h23⟩
            have hB24 : BF fQ M M19 := BF.go hB18 hB20
            have hpt : PT (mI M 21) le (mI M19 26) (mI M19 27) (mI M19 28) (v2 + 1) x7 := PT.add g7i0 (by omega) (by omega) (by omega) (by rw [← hg21]; omega) hen h22 (fun j hj => (congrFun kp21 j).trans (by rw [mI_sI, if_neg (fun e => hj e.2)])) ((congrFun kp21 v2.toNat).trans mI_same) (by have q := h23; rw [h21] at q; exact q)
            refine vc_iincE dX4_part_60 rfl (by omega) (by omega) (by decide) rfl (show _ = [some (aR 22), some (aI le), some (aI (v2 + 1)), some (aI x7), some (aI v4), some (aI v3)] from rfl) ?_
            refine vc_iincE dX4_part_63 rfl (by omega) (by omega) (by decide) rfl (show _ = [some (aR 22), some (aI le), some (aI (v2 + 1)), some (aI x7), some (aI (v4 + 1)), some (aI v3)] from rfl) ?_
            refine vc_goto dX4_part_66 ?_
            refine vc_less [some (aR 22), some (aI le), some (aI (v2 + 1)), some (aI x7), some (aI (v4 + 1)), none] (lessL_keep (lessL_keep (lessL_keep (lessL_keep (lessL_keep (lessL_drop (lessL_nil))))))) ?_
            exact ih7 M19 (v2 + 1) x7 (v4 + 1) hB24 (by omega) (by omega) (by omega) (by omega) (by omega) (by omega) (by first | exact PT.new | exact hpt) (by omega) (by omega)
  exact lp7 _ M 0 0 0 hB0 (by omega) (by omega) (by omega) (by omega) (by omega) (by omega) (by first | exact PT.new | exact hpt) (by omega) (Nat.lt_succ_self _)

set_option maxRecDepth 4000 in
theorem sfX4_takeTokenG {l : Launch} {M : Mem} (hB : Box M)   (p0 : mI M 22 9 = -1) : Call l mdX4_takeToken [aR 22] M (fun q N => ∃ r : Int, q = some (aI r) ∧ BF fQ M N ∧ mI N 24 = mI M 24 ∧ mI N 26 = mI M 26 ∧ mI N 27 = mI M 27 ∧ mI N 28 = mI M 28 ∧ 1 ≤ r ∧ r ≤ 1 ∧ mI N 22 9 = 0 ∧ mI N 22 10 = mI M 26 0 ∧ mI N 22 11 = mI M 27 0 ∧ mI N 22 7 = mI M 22 7 ∧ mI N 22 8 = mI M 22 8 ∧ mI N 22 13 = mI M 22 13) := by
  have hB0 : BF fQ M M := BF.start hB
  refine Call.of [some (aR 22)] rfl (Nat.le_of_ble_eq_true rfl) rfl ?_
  refine vc_aload_n dX4_takeToken_0 rfl ?_
  refine vc_getI dX4_takeToken_1 flX4_62 (s_22 hB0.1.1) rfl ?_
  have k1 : (-1) ≤ mI M 22 9 ∧ mI M 22 9 ≤ 300 := b22_9 (M := M) hB0.1
  refine vc_sipush dX4_takeToken_4 rfl ?_
  refine vc_icmp_ge dX4_takeToken_7 (fun h2 => ?_) (fun h2 => ?_)
  · refine vc_iconst dX4_takeToken_46 rfl ?_
    refine vc_zret dX4_takeToken_47 rfl (by first | decide | omega) (Nat.le_of_ble_eq_true rfl) (Nat.le_of_ble_eq_true rfl) ?_
    first | (exfalso; omega) | exact ⟨_, rfl, hB0, rfl, rfl, rfl, rfl, by omega, by omega, by omega, (by show mI M 26 (mI M 22 9 + 1).toNat = _; rw [p0]; rfl), (by show mI M 27 (mI M 22 9 + 1).toNat = _; rw [p0]; rfl), by omega, by omega, by omega⟩
  · refine vc_aload_n dX4_takeToken_10 rfl ?_
    refine vc_dup dX4_takeToken_11 rfl ?_
    refine vc_getI dX4_takeToken_12 flX4_62 (s_22 hB0.1.1) rfl ?_
    refine vc_iconst dX4_takeToken_15 rfl ?_
    refine vc_iaddE dX4_takeToken_16 (by omega) (by omega) ?_
    refine vc_putI dX4_takeToken_17 (plX4_62 _ rfl) (s_22 hB0.1.1) rfl ?_
    have kp3 : mI (sI M 22 9 ((mI M 22 9) + 1)) 24 = mI M 24 := (kp_sI rfl rfl)
    have kp4 : mI (sI M 22 9 ((mI M 22 9) + 1)) 26 = mI M 26 := (kp_sI rfl rfl)
    have kp5 : mI (sI M 22 9 ((mI M 22 9) + 1)) 27 = mI M 27 := (kp_sI rfl rfl)
    have kp6 : mI (sI M 22 9 ((mI M 22 9) + 1)) 28 = mI M 28 := (kp_sI rfl rfl)
    have hB7 : BF fQ M (sI M 22 9 ((mI M 22 9) + 1)) := BF.w22_9 hB0 rfl (by omega) (by omega)
    refine vc_aload_n dX4_takeToken_20 rfl ?_
    refine vc_aload_n dX4_takeToken_21 rfl ?_
    refine vc_getR dX4_takeToken_22 flX4_24 (s_22 hB7.1.1) rfl (r_22_4 hB7.1.1) ?_
    refine vc_aload_n dX4_takeToken_25 rfl ?_
    refine vc_getI dX4_takeToken_26 flX4_62 (s_22 hB7.1.1) rfl ?_
    refine vc_topI ((mI M 22 9) + 1) rfl ?_
    refine vc_iaload dX4_takeToken_29 (s_26 hB7.1.1) (by omega) (by omega) ?_
    refine vc_topI (mI M 26 (((mI M 22 9) + 1).toNat)) rfl ?_
    have k8 : mI M 26 (((mI M 22 9) + 1).toNat) = mI M 26 (((mI M 22 9) + 1).toNat) := congrFun kp4 (((mI M 22 9) + 1).toNat)
    refine vc_putI dX4_takeToken_30 (plX4_69 _ rfl) (s_22 hB7.1.1) rfl ?_
    have kp9 : mI (sI (sI M 22 9 ((mI M 22 9) + 1)) 22 10 (mI M 26 (((mI M 22 9) + 1).toNat))) 24 = mI M 24 := (kp_sI kp3 rfl)
    have kp10 : mI (sI (sI M 22 9 ((mI M 22 9) + 1)) 22 10 (mI M 26 (((mI M 22 9) + 1).toNat))) 26 = mI M 26 := (kp_sI kp4 rfl)
    have kp11 : mI (sI (sI M 22 9 ((mI M 22 9) + 1)) 22 10 (mI M 26 (((mI M 22 9) + 1).toNat))) 27 = mI M 27 := (kp_sI kp5 rfl)
    have kp12 : mI (sI (sI M 22 9 ((mI M 22 9) + 1)) 22 10 (mI M 26 (((mI M 22 9) + 1).toNat))) 28 = mI M 28 := (kp_sI kp6 rfl)
    have hB13 : BF fQ M (sI (sI M 22 9 ((mI M 22 9) + 1)) 22 10 (mI M 26 (((mI M 22 9) + 1).toNat))) := BF.w22_10 hB7 rfl
    refine vc_aload_n dX4_takeToken_33 rfl ?_
    refine vc_aload_n dX4_takeToken_34 rfl ?_
    refine vc_getR dX4_takeToken_35 flX4_27 (s_22 hB13.1.1) rfl (r_22_5 hB13.1.1) ?_
    refine vc_aload_n dX4_takeToken_38 rfl ?_
    refine vc_getI dX4_takeToken_39 flX4_62 (s_22 hB13.1.1) rfl ?_
    refine vc_topI ((mI M 22 9) + 1) rfl ?_
    refine vc_iaload dX4_takeToken_42 (s_27 hB13.1.1) (by omega) (by omega) ?_
    refine vc_topI (mI M 27 (((mI M 22 9) + 1).toNat)) rfl ?_
    have k14 : mI M 27 (((mI M 22 9) + 1).toNat) = mI M 27 (((mI M 22 9) + 1).toNat) := congrFun kp11 (((mI M 22 9) + 1).toNat)
    refine vc_putI dX4_takeToken_43 (plX4_119 _ rfl) (s_22 hB13.1.1) rfl ?_
    have kp15 : mI (sI (sI (sI M 22 9 ((mI M 22 9) + 1)) 22 10 (mI M 26 (((mI M 22 9) + 1).toNat))) 22 11 (mI M 27 (((mI M 22 9) + 1).toNat))) 24 = mI M 24 := (kp_sI kp9 rfl)
    have kp16 : mI (sI (sI (sI M 22 9 ((mI M 22 9) + 1)) 22 10 (mI M 26 (((mI M 22 9) + 1).toNat))) 22 11 (mI M 27 (((mI M 22 9) + 1).toNat))) 26 = mI M 26 := (kp_sI kp10 rfl)
    have kp17 : mI (sI (sI (sI M 22 9 ((mI M 22 9) + 1)) 22 10 (mI M 26 (((mI M 22 9) + 1).toNat))) 22 11 (mI M 27 (((mI M 22 9) + 1).toNat))) 27 = mI M 27 := (kp_sI kp11 rfl)
    have kp18 : mI (sI (sI (sI M 22 9 ((mI M 22 9) + 1)) 22 10 (mI M 26 (((mI M 22 9) + 1).toNat))) 22 11 (mI M 27 (((mI M 22 9) + 1).toNat))) 28 = mI M 28 := (kp_sI kp12 rfl)
    have hB19 : BF fQ M (sI (sI (sI M 22 9 ((mI M 22 9) + 1)) 22 10 (mI M 26 (((mI M 22 9) + 1).toNat))) 22 11 (mI M 27 (((mI M 22 9) + 1).toNat))) := BF.w22_11 hB13 rfl
    refine vc_iconst dX4_takeToken_46 rfl ?_
    refine vc_zret dX4_takeToken_47 rfl (by first | decide | omega) (Nat.le_of_ble_eq_true rfl) (Nat.le_of_ble_eq_true rfl) ?_
    have k20 : mI (sI (sI (sI M 22 9 ((mI M 22 9) + 1)) 22 10 (mI M 26 (((mI M 22 9) + 1).toNat))) 22 11 (mI M 27 (((mI M 22 9) + 1).toNat))) 22 7 = mI M 22 7 := rfl
    have k21 : mI (sI (sI (sI M 22 9 ((mI M 22 9) + 1)) 22 10 (mI M 26 (((mI M 22 9) + 1).toNat))) 22 11 (mI M 27 (((mI M 22 9) + 1).toNat))) 22 8 = mI M 22 8 := rfl
    have k22 : mI (sI (sI (sI M 22 9 ((mI M 22 9) + 1)) 22 10 (mI M 26 (((mI M 22 9) + 1).toNat))) 22 11 (mI M 27 (((mI M 22 9) + 1).toNat))) 22 9 = (mI M 22 9) + 1 := rfl
    have k23 : mI (sI (sI (sI M 22 9 ((mI M 22 9) + 1)) 22 10 (mI M 26 (((mI M 22 9) + 1).toNat))) 22 11 (mI M 27 (((mI M 22 9) + 1).toNat))) 22 10 = mI M 26 (((mI M 22 9) + 1).toNat) := rfl
    have k24 : mI (sI (sI (sI M 22 9 ((mI M 22 9) + 1)) 22 10 (mI M 26 (((mI M 22 9) + 1).toNat))) 22 11 (mI M 27 (((mI M 22 9) + 1).toNat))) 22 11 = mI M 27 (((mI M 22 9) + 1).toNat) := rfl
    have k25 : mI (sI (sI (sI M 22 9 ((mI M 22 9) + 1)) 22 10 (mI M 26 (((mI M 22 9) + 1).toNat))) 22 11 (mI M 27 (((mI M 22 9) + 1).toNat))) 22 12 = mI M 22 12 := rfl
    have k26 : mI (sI (sI (sI M 22 9 ((mI M 22 9) + 1)) 22 10 (mI M 26 (((mI M 22 9) + 1).toNat))) 22 11 (mI M 27 (((mI M 22 9) + 1).toNat))) 22 13 = mI M 22 13 := rfl
    have k27 : mI (sI (sI (sI M 22 9 ((mI M 22 9) + 1)) 22 10 (mI M 26 (((mI M 22 9) + 1).toNat))) 22 11 (mI M 27 (((mI M 22 9) + 1).toNat))) 22 14 = mI M 22 14 := rfl
    first | (exfalso; omega) | exact ⟨_, rfl, hB19, kp15, kp16, kp17, kp18, by omega, by omega, by omega, (by show mI M 26 (mI M 22 9 + 1).toNat = _; rw [p0]; rfl), (by show mI M 27 (mI M 22 9 + 1).toNat = _; rw [p0]; rfl), by omega, by omega, by omega⟩

set_option maxRecDepth 4000 in
theorem sfJ7_fill_53178_24F {l : Launch} {M : Mem} (hB : Box M)  (v : Int) (p0 : (-1) ≤ v) (p1 : v ≤ 300) : Call l mdJ7_fill_53178 [aR 24, aI v] M (fun q N => q = none ∧ BF fQ M N ∧ mI N 22 = mI M 22 ∧ mI N 26 = mI M 26 ∧ mI N 27 = mI M 27 ∧ mI N 28 = mI M 28 ∧ (∀ j : Nat, (j : Int) < 10 → mI N 24 j = v)) := by
  have hB0 : BF fQ M M := BF.start hB
  refine Call.of [some (aR 24), some (aI v), none, none] (by decide +kernel) (Nat.le_of_ble_eq_true rfl) rfl ?_
  refine vc_iconst dJ7_fill_53178_0 rfl ?_
  refine vc_istore_n dJ7_fill_53178_1 (by decide) rfl (show _ = [some (aR 24), some (aI v), some (aI 0), none] from rfl) ?_
  refine vc_aload_n dJ7_fill_53178_2 rfl ?_
  refine vc_alen dJ7_fill_53178_3 (s_24 hB0.1.1) rfl ?_
  refine vc_topI 10 rfl ?_
  refine vc_istore_n dJ7_fill_53178_4 (by decide) rfl (show _ = [some (aR 24), some (aI v), some (aI 0), some (aI 10)] from rfl) ?_
  have lp5 : ∀ (n5 : Nat) (Mq5 : Mem) (v2 : Int), (BF fQ M Mq5) → (mI Mq5 26 = mI M 26) → (mI Mq5 27 = mI M 27) → (mI Mq5 28 = mI M 28) → (mI Mq5 22 = mI M 22) → (0 ≤ v2) → (v2 ≤ 10) → (∀ j : Nat, (j : Int) < v2 → mI Mq5 24 j = v) → (10 - v2).toNat < n5 → VC l mdJ7_fill_53178 5 [some (aR 24), some (aI v), some (aI v2), some (aI 10)] [] Mq5 0 0 (fun q N => q = none ∧ BF fQ M N ∧ mI N 22 = mI M 22 ∧ mI N 26 = mI M 26 ∧ mI N 27 = mI M 27 ∧ mI N 28 = mI M 28 ∧ (∀ j : Nat, (j : Int) < 10 → mI N 24 j = v)) := by
    intro n5
    induction n5 with
    | zero => intro Mq5 v2 hQ5 kp5_26 kp5_27 kp5_28 kp5_22 g5_2a g5_2b g5i0 hm5; exact absurd hm5 (Nat.not_lt_zero _)
    | succ n5 ih5 =>
      intro Mq5 v2 hQ5 kp5_26 kp5_27 kp5_28 kp5_22 g5_2a g5_2b g5i0 hm5
      refine vc_iload_n dJ7_fill_53178_5 rfl ?_
      refine vc_iload_n dJ7_fill_53178_6 rfl ?_
      refine vc_icmp_ge dJ7_fill_53178_7 (fun h1 => ?_) (fun h1 => ?_)
      · refine vc_vret dJ7_fill_53178_20 rfl (Nat.le_of_ble_eq_true rfl) (Nat.le_of_ble_eq_true rfl) ?_
        exact ⟨rfl, hQ5, kp5_22, kp5_26, kp5_27, kp5_28, by intro j hj; exact g5i0 j (by omega)⟩
      · refine vc_aload_n dJ7_fill_53178_10 rfl ?_
        refine vc_iload_n dJ7_fill_53178_11 rfl ?_
        refine vc_iload_n dJ7_fill_53178_12 rfl ?_
        refine vc_iastore dJ7_fill_53178_13 (s_24 hQ5.1.1) (by omega) (by omega) ?_
        have kp2 : mI (sI Mq5 24 v2.toNat v) 26 = mI M 26 := (kp_sI kp5_26 rfl)
        have kp3 : mI (sI Mq5 24 v2.toNat v) 27 = mI M 27 := (kp_sI kp5_27 rfl)
        have kp4 : mI (sI Mq5 24 v2.toNat v) 28 = mI M 28 := (kp_sI kp5_28 rfl)
        have kp5 : mI (sI Mq5 24 v2.toNat v) 22 = mI M 22 := (kp_sI kp5_22 rfl)
        have hB6 : BF fQ M (sI Mq5 24 v2.toNat v) := BF.w24 hQ5 (fun _ => rfl) _ (by omega) (by omega)
        refine vc_iincE dJ7_fill_53178_14 rfl (by omega) (by omega) (by decide) rfl (show _ = [some (aR 24), some (aI v), some (aI (v2 + 1)), some (aI 10)] from rfl) ?_
        refine vc_goto dJ7_fill_53178_17 ?_
        exact ih5 (sI Mq5 24 v2.toNat v) (v2 + 1) hB6 kp2 kp3 kp4 kp5 (by omega) (by omega) (by first | (intro j hj; exfalso; omega) | (intro j hj; by_cases e : (j : Int) = v2; (rw [show j = v2.toNat by omega]; exact mI_same); (rw [mI_sI, if_neg (fun q => by omega)]; exact g5i0 j (by omega)))) (by omega)
  exact lp5 _ M 0 hB0 rfl rfl rfl rfl (by omega) (by omega) (by first | (intro j hj; exfalso; omega) | (intro j hj; by_cases e : (j : Int) = v2; (rw [show j = v2.toNat by omega]; exact mI_same); (rw [mI_sI, if_neg (fun q => by omega)]; exact g5i0 j (by omega)))) (Nat.lt_succ_self _)

set_option maxRecDepth 4000 in
theorem sfJ7_fill_53178_25F {l : Launch} {M : Mem} (hB : Box M)  (v : Int)  : Call l mdJ7_fill_53178 [aR 25, aI v] M (fun q N => q = none ∧ BF fQ M N ∧ mI N 22 = mI M 22 ∧ mI N 24 = mI M 24 ∧ mI N 26 = mI M 26 ∧ mI N 27 = mI M 27 ∧ mI N 28 = mI M 28) := by
  have hB0 : BF fQ M M := BF.start hB
  refine Call.of [some (aR 25), some (aI v), none, none] (by decide +kernel) (Nat.le_of_ble_eq_true rfl) rfl ?_
  refine vc_ok (fun hoM hoS hoL => ?_)
  have hr1 : -2147483648 ≤ v ∧ v < 2147483648 := hoL 1 _ rfl
  refine vc_iconst dJ7_fill_53178_0 rfl ?_
  refine vc_istore_n dJ7_fill_53178_1 (by decide) rfl (show _ = [some (aR 25), some (aI v), some (aI 0), none] from rfl) ?_
  refine vc_aload_n dJ7_fill_53178_2 rfl ?_
  refine vc_alen dJ7_fill_53178_3 (s_25 hB0.1.1) rfl ?_
  refine vc_topI 120 rfl ?_
  refine vc_istore_n dJ7_fill_53178_4 (by decide) rfl (show _ = [some (aR 25), some (aI v), some (aI 0), some (aI 120)] from rfl) ?_
  have lp5 : ∀ (n5 : Nat) (Mq5 : Mem) (v2 : Int), (BF fQ M Mq5) → (mI Mq5 22 = mI M 22) → (mI Mq5 24 = mI M 24) → (mI Mq5 26 = mI M 26) → (mI Mq5 27 = mI M 27) → (mI Mq5 28 = mI M 28) → (0 ≤ v2) → (v2 ≤ 120) → (120 - v2).toNat < n5 → VC l mdJ7_fill_53178 5 [some (aR 25), some (aI v), some (aI v2), some (aI 120)] [] Mq5 0 0 (fun q N => q = none ∧ BF fQ M N ∧ mI N 22 = mI M 22 ∧ mI N 24 = mI M 24 ∧ mI N 26 = mI M 26 ∧ mI N 27 = mI M 27 ∧ mI N 28 = mI M 28) := by
    intro n5
    induction n5 with
    | zero => intro Mq5 v2 hQ5 kp5_22 kp5_24 kp5_26 kp5_27 kp5_28 g5_2a g5_2b hm5; exact absurd hm5 (Nat.not_lt_zero _)
    | succ n5 ih5 =>
      intro Mq5 v2 hQ5 kp5_22 kp5_24 kp5_26 kp5_27 kp5_28 g5_2a g5_2b hm5
      refine vc_iload_n dJ7_fill_53178_5 rfl ?_
      refine vc_iload_n dJ7_fill_53178_6 rfl ?_
      refine vc_icmp_ge dJ7_fill_53178_7 (fun h1 => ?_) (fun h1 => ?_)
      · refine vc_vret dJ7_fill_53178_20 rfl (Nat.le_of_ble_eq_true rfl) (Nat.le_of_ble_eq_true rfl) ?_
        exact ⟨rfl, hQ5, kp5_22, kp5_24, kp5_26, kp5_27, kp5_28⟩
      · refine vc_aload_n dJ7_fill_53178_10 rfl ?_
        refine vc_iload_n dJ7_fill_53178_11 rfl ?_
        refine vc_iload_n dJ7_fill_53178_12 rfl ?_
        refine vc_iastore dJ7_fill_53178_13 (s_25 hQ5.1.1) (by omega) (by omega) ?_
        have kp2 : mI (sI Mq5 25 v2.toNat v) 22 = mI M 22 := (kp_sI kp5_22 rfl)
        have kp3 : mI (sI Mq5 25 v2.toNat v) 24 = mI M 24 := (kp_sI kp5_24 rfl)
        have kp4 : mI (sI Mq5 25 v2.toNat v) 26 = mI M 26 := (kp_sI kp5_26 rfl)
        have kp5 : mI (sI Mq5 25 v2.toNat v) 27 = mI M 27 := (kp_sI kp5_27 rfl)
        have kp6 : mI (sI Mq5 25 v2.toNat v) 28 = mI M 28 := (kp_sI kp5_28 rfl)
        have hB7 : BF fQ M (sI Mq5 25 v2.toNat v) := BF.w25 hQ5 (fun _ => rfl) _
        refine vc_iincE dJ7_fill_53178_14 rfl (by omega) (by omega) (by decide) rfl (show _ = [some (aR 25), some (aI v), some (aI (v2 + 1)), some (aI 120)] from rfl) ?_
        refine vc_goto dJ7_fill_53178_17 ?_
        exact ih5 (sI Mq5 25 v2.toNat v) (v2 + 1) hB7 kp2 kp3 kp4 kp5 kp6 (by omega) (by omega) (by omega)
  exact lp5 _ M 0 hB0 rfl rfl rfl rfl rfl (by omega) (by omega) (Nat.lt_succ_self _)

theorem RS.uq {g : Nat → Int} {n : Int} {N : Mem} {q q2 : Int} (h : RS g n N q) (h2 : RS g n N q2) : q2 = q := (RS.pl h2).symm.trans (RS.pl h)
/-- what was read, clause by clause -/
def RI9 (g : Nat → Int) (n : Int) (N : Mem) (i : Int) : Prop := (∀ q, RS g n N q → q = plS (tk g n) (nx g n) (skb g n 0) i.toNat) ∧ ∀ e : Nat, (e : Int) < i → Q25 (tk g n) (nx g n) (mI N 25) e (plS (tk g n) (nx g n) (skb g n 0) e)
def RD9 (g : Nat → Int) (n : Int) (N : Mem) : Prop := tk g n (plS (tk g n) (nx g n) (skb g n 0) (mI N 22 13).toNat) = 0 ∧ ∀ e : Nat, (e : Int) < mI N 22 13 → Q25 (tk g n) (nx g n) (mI N 25) e (plS (tk g n) (nx g n) (skb g n 0) e)
theorem RI9.next {g : Nat → Int} {n : Int} {M N : Mem} {i q r : Int} {on : Int → Int} (h : RI9 g n M i) (hq : RS g n M q) (i0 : 0 ≤ i) (hi : mI M 22 13 = i) (hc : CR g n N r (sClause (tk g n) (nx g n) on i q)) (hr : r = 1) (h25 : r = 1 → Q25 (tk g n) (nx g n) (mI N 25) (mI M 22 13).toNat q ∧ ∀ j : Nat, (j : Int) < 5 * mI M 22 13 → mI N 25 j = mI M 25 j) : RI9 g n N (i + 1) := by
  have eq := h.1 q hq
  obtain ⟨a, b⟩ := h25 hr
  rcases hc with ⟨_, c1, c2⟩ | ⟨c, _⟩
  · have k := sClause_ok c1
    rw [k.1] at c2
    refine ⟨fun q2 h2 => ?_, fun e he => ?_⟩
    · rw [RS.uq c2 h2, show (i + 1).toNat = i.toNat + 1 by omega, eq]
      rfl
    · by_cases e1 : (e : Int) = i
      · rw [hi, show i.toNat = e by omega] at a
        rw [show i.toNat = e by omega] at eq
        rw [← eq]
        exact a
      · exact (h.2 e (by omega)).co (fun j j1 j2 => b j (by omega))
  · omega
set_option maxRecDepth 4000 in
theorem sfX4_readsF {l : Launch} {M : Mem} (hB : Box M)  (b : Int) (p0 : 0 ≤ b) (p1 : b ≤ 300) (p2 : byt (mI M 21)) : Call l mdX4_reads [aR 22, aI b] M (fun q N => ∃ r : Int, q = some (aI r) ∧ BF fQ M N ∧ 0 ≤ r ∧ r ≤ 1 ∧ (r = 1 → RD9 (mI M 21) b N) ∧ TX (sText (tk (mI M 21) b) (nx (mI M 21) b) 25 (fun _ => 0) 0 (skb (mI M 21) b 0)) r (mI N 22 7) (mI N 22 8)) := by
  have hB0 : BF fQ M M := BF.start hB
  refine Call.of [some (aR 22), some (aI b), none, none] rfl (Nat.le_of_ble_eq_true rfl) rfl ?_
  refine vc_aload_n dX4_reads_0 rfl ?_
  refine vc_iload_n dX4_reads_1 rfl ?_
  refine vc_sipush dX4_reads_2 rfl ?_
  refine vc_mminI dX4_reads_5 lkX4_33 (Nat.le_of_ble_eq_true rfl) (Nat.le_of_ble_eq_true rfl) (Nat.le_of_ble_eq_true rfl) ?_
  have k1 := minZ_bd b 300
  refine vc_cVU dX4_reads_8 (sfX4_partF (M := M) hB0.1  (minZ b 300) (by omega) (by omega) (by exact p2)) rfl okX4_part viX4_part lkX4_39 (s_22 hB0.1.1) cl_4 rfl (Nat.le_of_ble_eq_true rfl) ⟨rfl, rfl⟩ (Nat.le_of_ble_eq_true rfl) (Nat.le_of_ble_eq_true rfl) (Nat.le_of_ble_eq_true rfl) ?_
  rintro M2 ⟨hB3, h4⟩
  have hB5 : BF fQ M M2 := BF.go hB0 hB3
  have htab := h4
  rw [show minZ b 300 = b by have := minZ_bd b 300; omega] at htab
  refine vc_aload_n dX4_reads_11 rfl ?_
  refine vc_iconst dX4_reads_12 rfl ?_
  refine vc_putI dX4_reads_13 (plX4_43 _ rfl) (s_22 hB5.1.1) rfl ?_
  have hB6 : BF fQ M (sI M2 22 7 0) := BF.w22_7 hB5 rfl
  refine vc_aload_n dX4_reads_16 rfl ?_
  refine vc_iconst dX4_reads_17 rfl ?_
  refine vc_putI dX4_reads_18 (plX4_47 _ rfl) (s_22 hB6.1.1) rfl ?_
  have hB7 : BF fQ M (sI (sI M2 22 7 0) 22 8 (-1)) := BF.w22_8 hB6 rfl
  refine vc_aload_n dX4_reads_21 rfl ?_
  refine vc_iconst dX4_reads_22 rfl ?_
  refine vc_putI dX4_reads_23 (plX4_50 _ rfl) (s_22 hB7.1.1) rfl ?_
  have hB8 : BF fQ M (sI (sI (sI M2 22 7 0) 22 8 (-1)) 22 12 0) := BF.w22_12 hB7 rfl (by omega) (by omega)
  refine vc_aload_n dX4_reads_26 rfl ?_
  refine vc_iconst dX4_reads_27 rfl ?_
  refine vc_putI dX4_reads_28 (plX4_53 _ rfl) (s_22 hB8.1.1) rfl ?_
  have hB9 : BF fQ M (sI (sI (sI (sI M2 22 7 0) 22 8 (-1)) 22 12 0) 22 13 0) := BF.w22_13 hB8 rfl (by omega) (by omega)
  refine vc_aload_n dX4_reads_31 rfl ?_
  refine vc_getR dX4_reads_32 flX4_18 (s_22 hB9.1.1) rfl (r_22_2 hB9.1.1) ?_
  refine vc_iconst dX4_reads_35 rfl ?_
  have k10 : mI (sI (sI (sI (sI M2 22 7 0) 22 8 (-1)) 22 12 0) 22 13 0) 22 9 = mI M2 22 9 := rfl
  have k11 : mI (sI (sI (sI (sI M2 22 7 0) 22 8 (-1)) 22 12 0) 22 13 0) 22 13 = 0 := rfl
  have k12 : mI (sI (sI (sI (sI M2 22 7 0) 22 8 (-1)) 22 12 0) 22 13 0) 22 7 = 0 := rfl
  have k13 : mI (sI (sI (sI (sI M2 22 7 0) 22 8 (-1)) 22 12 0) 22 13 0) 22 8 = (-1) := rfl
  refine vc_cSU dX4_reads_36 (sfJ7_fill_53178_24F (M := (sI (sI (sI (sI M2 22 7 0) 22 8 (-1)) 22 12 0) 22 13 0)) hB9.1  (-1) (by omega) (by omega)) rfl okJ7_fill_53178 stJ7_fill_53178 lkX4_56 rfl (Nat.le_of_ble_eq_true rfl) ⟨rfl, rfl⟩ (Nat.le_of_ble_eq_true rfl) (Nat.le_of_ble_eq_true rfl) (Nat.le_of_ble_eq_true rfl) ?_
  rintro M14 ⟨hB15, kp16, kp17, kp18, kp19, h20⟩
  have hB21 : BF fQ M M14 := BF.go hB9 hB15
  have fe22 : mI M14 22 9 = mI M2 22 9 := congrFun kp16 9
  have fe23 : mI M14 22 13 = 0 := congrFun kp16 13
  have fe24 : mI M14 22 7 = 0 := congrFun kp16 7
  have fe25 : mI M14 22 8 = (-1) := congrFun kp16 8
  have hfil := h20
  refine vc_aload_n dX4_reads_39 rfl ?_
  refine vc_getR dX4_reads_40 flX4_21 (s_22 hB21.1.1) rfl (r_22_3 hB21.1.1) ?_
  refine vc_iconst dX4_reads_43 rfl ?_
  refine vc_cSU dX4_reads_44 (sfJ7_fill_53178_25F (M := M14) hB21.1  0 ) rfl okJ7_fill_53178 stJ7_fill_53178 lkX4_56 rfl (Nat.le_of_ble_eq_true rfl) ⟨rfl, rfl⟩ (Nat.le_of_ble_eq_true rfl) (Nat.le_of_ble_eq_true rfl) (Nat.le_of_ble_eq_true rfl) ?_
  rintro M26 ⟨hB27, kp28, kp29, kp30, kp31, kp32⟩
  have hB33 : BF fQ M M26 := BF.go hB21 hB27
  have fe34 : mI M26 22 9 = mI M14 22 9 := congrFun kp28 9
  have fe35 : mI M26 22 13 = mI M14 22 13 := congrFun kp28 13
  have fe36 : mI M26 22 7 = mI M14 22 7 := congrFun kp28 7
  have fe37 : mI M26 22 8 = mI M14 22 8 := congrFun kp28 8
  refine vc_aload_n dX4_reads_47 rfl ?_
  refine vc_iconst dX4_reads_48 rfl ?_
  refine vc_putI dX4_reads_49 (plX4_62 _ rfl) (s_22 hB33.1.1) rfl ?_
  have hB38 : BF fQ M (sI M26 22 9 (-1)) := BF.w22_9 hB33 rfl (by omega) (by omega)
  refine vc_aload_n dX4_reads_52 rfl ?_
  have k39 : mI (sI M26 22 9 (-1)) 22 9 = (-1) := rfl
  have k40 : mI (sI M26 22 9 (-1)) 22 13 = mI M26 22 13 := rfl
  have k41 : mI (sI M26 22 9 (-1)) 22 7 = mI M26 22 7 := rfl
  have k42 : mI (sI M26 22 9 (-1)) 22 8 = mI M26 22 8 := rfl
  refine vc_cVI dX4_reads_53 (sfX4_takeTokenG (M := (sI M26 22 9 (-1))) hB38.1   (by omega)) rfl okX4_takeToken viX4_takeToken lkX4_65 (s_22 hB38.1.1) cl_4 rfl (Nat.le_of_ble_eq_true rfl) ⟨rfl, rfl⟩ (Nat.le_of_ble_eq_true rfl) (Nat.le_of_ble_eq_true rfl) (Nat.le_of_ble_eq_true rfl) ?_
  rintro x43 M44 ⟨hB45, kp46, kp47, kp48, kp49, h50, h51, h52, h53, h54, h55, h56, h57⟩
  have hB58 : BF fQ M M44 := BF.go hB38 hB45
  have hc26 : mI M44 26 = mI M2 26 := (kp47.trans (((kp_sI kp30 rfl : mI (sI M26 22 9 (-1)) 26 = _)).trans kp17))
  have hc27 : mI M44 27 = mI M2 27 := (kp48.trans (((kp_sI kp31 rfl : mI (sI M26 22 9 (-1)) 27 = _)).trans kp18))
  have hc28 : mI M44 28 = mI M2 28 := (kp49.trans (((kp_sI kp32 rfl : mI (sI M26 22 9 (-1)) 28 = _)).trans kp19))
  have hc24 : mI M44 24 = mI M14 24 := kp46.trans (kp_sI kp29 rfl)
  have h22a := congrFun kp28
  have h22b := congrFun kp16
  have h7 : mI M44 22 7 = 0 := h55.trans ((h22a 7).trans (h22b 7))
  have h8 : mI M44 22 8 = -1 := h56.trans ((h22a 8).trans (h22b 8))
  have h13 : mI M44 22 13 = 0 := h57.trans ((h22a 13).trans (h22b 13))
  have hRN : RS (mI M 21) b M44 (skb (mI M 21) b 0) := RS.new p2 (by omega) (by omega) (by rw [hc26, hc27, hc28]; exact htab) h52 (by rw [hc26]; exact h53.trans (congrFun ((kp_sI kp30 rfl : mI (sI M26 22 9 (-1)) 26 = _).trans kp17) 0)) (by rw [hc27]; exact h54.trans (congrFun ((kp_sI kp31 rfl : mI (sI M26 22 9 (-1)) 27 = _).trans kp18) 0)) h7 h8
  have honN : ONr (mI M44 24) (fun _ => 0) := fun v a c => Or.inl ⟨by rw [hc24]; exact hfil _ (by omega), by show (0 : Int) ≠ 1; decide⟩
  have hri0 : RI9 (mI M 21) b M44 0 := ⟨fun q2 h2 => RS.uq hRN h2, fun e he => absurd he (by omega)⟩
  have hfirst : TI (mI M 21) b M44 1 0 (sText (tk (mI M 21) b) (nx (mI M 21) b) 25 (fun _ => 0) 0 (skb (mI M 21) b 0)) := Or.inl ⟨rfl, _, _, hRN, honN, h13, rfl⟩
  refine vc_pop dX4_reads_56 rfl ?_
  refine vc_iconst dX4_reads_57 rfl ?_
  refine vc_istore_n dX4_reads_58 (by decide) rfl (show _ = [some (aR 22), some (aI b), some (aI 1), none] from rfl) ?_
  refine vc_iconst dX4_reads_59 rfl ?_
  refine vc_istore_n dX4_reads_60 (by decide) rfl (show _ = [some (aR 22), some (aI b), some (aI 1), some (aI 0)] from rfl) ?_
  have lp61 : ∀ (n61 : Nat) (Mq61 : Mem) (v2 : Int) (v3 : Int), (BF fQ M Mq61) → (0 ≤ v2) → (v2 ≤ 1) → (0 ≤ v3) → (v3 ≤ 25) → (TI (mI M 21) b Mq61 v2 v3 (sText (tk (mI M 21) b) (nx (mI M 21) b) 25 (fun _ => 0) 0 (skb (mI M 21) b 0))) → (0 ≤ mI Mq61 22 9) → (v2 = 1 → RI9 (mI M 21) b Mq61 v3) → (25 - v3).toNat < n61 → VC l mdX4_reads 61 [some (aR 22), none, some (aI v2), some (aI v3)] [] Mq61 0 0 (fun q N => ∃ r : Int, q = some (aI r) ∧ BF fQ M N ∧ 0 ≤ r ∧ r ≤ 1 ∧ (r = 1 → RD9 (mI M 21) b N) ∧ TX (sText (tk (mI M 21) b) (nx (mI M 21) b) 25 (fun _ => 0) 0 (skb (mI M 21) b 0)) r (mI N 22 7) (mI N 22 8)) := by
    intro n61
    induction n61 with
    | zero => intro Mq61 v2 v3 hQ61 g61_2a g61_2b g61_3a g61_3b g61i0 g61i1 g61i2 hm61; exact absurd hm61 (Nat.not_lt_zero _)
    | succ n61 ih61 =>
      intro Mq61 v2 v3 hQ61 g61_2a g61_2b g61_3a g61_3b g61i0 g61i1 g61i2 hm61
      refine vc_iload_n dX4_reads_61 rfl ?_
      refine vc_bipush dX4_reads_62 rfl ?_
      refine vc_icmp_gt dX4_reads_64 (fun h59 => ?_) (fun h59 => ?_)
      · refine vc_iload_n dX4_reads_89 rfl ?_
        refine vc_zret dX4_reads_90 rfl (by first | decide | omega) (Nat.le_of_ble_eq_true rfl) (Nat.le_of_ble_eq_true rfl) ?_
        exact ⟨_, rfl, hQ61, by omega, by omega, fun hr => by exfalso; rcases g61i0 with ⟨_, q9, on9, _, _, z9, _⟩ | ⟨z9, _⟩; (have zb := b22_13 (M := Mq61) hQ61.1; omega); omega, (by first | exact TI.nul g61i0 (by omega) | exact TI.end g61i0 (by omega))⟩
      · refine vc_iload_n dX4_reads_67 rfl ?_
        refine vc_if_eq dX4_reads_68 (fun h60 => ?_) (fun h60 => ?_)
        · refine vc_iload_n dX4_reads_89 rfl ?_
          refine vc_zret dX4_reads_90 rfl (by first | decide | omega) (Nat.le_of_ble_eq_true rfl) (Nat.le_of_ble_eq_true rfl) ?_
          exact ⟨_, rfl, hQ61, by omega, by omega, fun hr => by exfalso; rcases g61i0 with ⟨_, q9, on9, _, _, z9, _⟩ | ⟨z9, _⟩; (have zb := b22_13 (M := Mq61) hQ61.1; omega); omega, (by first | exact TI.nul g61i0 (by omega) | exact TI.end g61i0 (by omega))⟩
        · obtain ⟨q, on, hRq, hon, h13, hSq⟩ := TI.ok g61i0 (by omega)
          have ct61 := RS.ct hRq
          unfold CT at ct61
          refine vc_aload_n dX4_reads_71 rfl ?_
          refine vc_getI dX4_reads_72 flX4_69 (s_22 hQ61.1.1) rfl ?_
          refine vc_if_eq dX4_reads_75 (fun h62 => ?_) (fun h62 => ?_)
          · refine vc_iload_n dX4_reads_89 rfl ?_
            refine vc_zret dX4_reads_90 rfl (by first | decide | omega) (Nat.le_of_ble_eq_true rfl) (Nat.le_of_ble_eq_true rfl) ?_
            exact ⟨_, rfl, hQ61, by omega, by omega, fun hr => by have z := g61i2 hr; have z1 := z.1 q hRq; exact ⟨by rw [h13, ← z1]; omega, fun e he => z.2 e (by omega)⟩, TI.fin (i := v3) (by omega) hRq hSq (by omega)⟩
          · refine vc_aload_n dX4_reads_78 rfl ?_
            refine vc_cVI dX4_reads_79 (sfX4_readClauseF (M := Mq61) hQ61.1  (mI M 21) b q hRq on v3 hon h13 ) rfl okX4_readClause viX4_readClause lkX4_72 (s_22 hQ61.1.1) cl_4 rfl (Nat.le_of_ble_eq_true rfl) ⟨rfl, rfl⟩ (Nat.le_of_ble_eq_true rfl) (Nat.le_of_ble_eq_true rfl) (Nat.le_of_ble_eq_true rfl) ?_
            rintro x63 M64 ⟨hB65, kp66, kp67, kp68, h69, h70, h71, h72, h73, h74⟩
            have hB75 : BF fQ M M64 := BF.go hQ61 hB65
            refine vc_istore_n dX4_reads_82 (by decide) rfl (show _ = [some (aR 22), none, some (aI x63), some (aI v3)] from rfl) ?_
            have hri : x63 = 1 → RI9 (mI M 21) b M64 (v3 + 1) := fun h1 => RI9.next (g61i2 (by omega)) hRq (by omega) h13 h74 h1 h72
            have hnext : TI (mI M 21) b M64 x63 (v3 + 1) (sText (tk (mI M 21) b) (nx (mI M 21) b) 25 (fun _ => 0) 0 (skb (mI M 21) b 0)) := TI.next hSq (by omega) (by omega) h74 h73
            refine vc_iincE dX4_reads_83 rfl (by omega) (by omega) (by decide) rfl (show _ = [some (aR 22), none, some (aI x63), some (aI (v3 + 1))] from rfl) ?_
            refine vc_goto dX4_reads_86 ?_
            exact ih61 M64 x63 (v3 + 1) hB75 (by omega) (by omega) (by omega) (by omega) (by first | exact hfirst | exact hnext) (by omega) (by first | exact fun _ => hri0 | exact hri) (by omega)
  refine vc_less [some (aR 22), none, some (aI 1), some (aI 0)] (lessL_keep (lessL_drop (lessL_keep (lessL_keep (lessL_nil))))) ?_
  exact lp61 _ M44 1 0 hB58 (by omega) (by omega) (by omega) (by omega) (by first | exact hfirst | exact hnext) (by omega) (by first | exact fun _ => hri0 | exact hri) (Nat.lt_succ_self _)
