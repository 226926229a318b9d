/-- row e of R is the clause at p -/
def Q25 (k x : Int → Int) (R : Nat → Int) (e : Nat) (p : Int) : Prop := (101 ≤ k p ∧ k p ≤ 116) ∧ R (5 * e) = k p - 101 ∧ (106 ≤ k p → R (5 * e + 1) = rw1 k (k p - 101) (x p)) ∧ (k p = 107 ∨ k p = 108 ∨ k p = 111 ∨ k p = 112 → R (5 * e + 2) = rw2 k x (k p - 101) (x p)) ∧ (k p = 107 ∨ k p = 108 ∨ k p = 111 → R (5 * e + 3) = rw3 k x (k p - 101) (x p)) ∧ (k p = 111 → R (5 * e + 4) = rw4 k x (x p))
theorem Q25.co {k x : Int → Int} {R R' : Nat → Int} {e : Nat} {p : Int} (h : Q25 k x R e p) (hr : ∀ i : Nat, 5 * e ≤ i → i < 5 * e + 5 → R' i = R i) : Q25 k x R' e p := by
  obtain ⟨a, b, c, d, f, g⟩ := h
  exact ⟨a, by rw [hr _ (by omega) (by omega)]; exact b, fun q => by rw [hr _ (by omega) (by omega)]; exact c q, fun q => by rw [hr _ (by omega) (by omega)]; exact d q, fun q => by rw [hr _ (by omega) (by omega)]; exact f q, fun q => by rw [hr _ (by omega) (by omega)]; exact g q⟩
theorem Q25.of {k x : Int → Int} {M N Md Nd : Mem} {e : Nat} {w p : Int} (hk : 101 ≤ k p ∧ k p ≤ 116) (hw : w = k p - 101) (hc : mI Md 22 13 = e) (h0 : mI N 25 (5 * e) = w) (hd : 5 ≤ w → D25 k x Md Nd w (x p)) (hn : 5 ≤ w → ∀ i : Nat, 5 * e < i → i < 5 * e + 5 → mI N 25 i = mI Nd 25 i) : Q25 k x (mI N 25) e p := by
  subst hw
  refine ⟨hk, h0, fun q => ?_, fun q => ?_, fun q => ?_, fun q => ?_⟩
  · rw [hn (by omega) _ (by omega) (by omega)]
    exact (hd (by omega)).1 _ (by omega)
  · rw [hn (by omega) _ (by omega) (by omega)]
    exact (hd (by omega)).2.1 (by omega) _ (by omega)
  · rw [hn (by omega) _ (by omega) (by omega)]
    exact (hd (by omega)).2.2.1 (by omega) _ (by omega)
  · rw [hn (by omega) _ (by omega) (by omega)]
    exact (hd (by omega)).2.2.2.1 (by omega) _ (by omega)
noncomputable def nxC (k x : Int → Int) (p : Int) : Int := x ((sBody k x (k p - 101) (x p)).2)
noncomputable def plS (k x : Int → Int) (p0 : Int) : Nat → Int
  | 0 => p0
  | e + 1 => nxC k x (plS k x p0 e)
theorem sClause_ok {k x : Int → Int} {on : Int → Int} {c p : Int} (h : (sClause k x on c p).1 = 0) : (sClause k x on c p).2 = nxC k x p ∧ (sBody k x (k p - 101) (x p)).1 = 0 ∧ 101 ≤ k p ∧ k p ≤ 116 := by
  unfold sClause at h ⊢
  by_cases e1 : ¬ (101 ≤ k p ∧ k p ≤ 116)
  · rw [if_pos e1] at h
    exact absurd h (by decide : ¬ (1 : Int) = 0)
  · rw [if_neg e1] at h ⊢
    by_cases e2 : k p - 101 ≤ 4 ∧ on (k p - 101) = 1
    · rw [if_pos e2] at h
      exact absurd h (by decide : ¬ (4 : Int) = 0)
    · rw [if_neg e2] at h ⊢
      by_cases e3 : 24 ≤ c
      · rw [if_pos e3] at h
        exact absurd h (by decide : ¬ (6 : Int) = 0)
      · rw [if_neg e3] at h ⊢
        by_cases e4 : (sBody k x (k p - 101) (x p)).1 = 0
        · rw [sBind_ok e4] at h ⊢
          exact ⟨sTok_ok h, e4, by omega⟩
        · rw [sBind_bad e4] at h
          exact absurd h e4

/-- a law's code, where it stands -/
def LC (f : Nat → Int) (k x : Int → Int) (w p a b : Int) : Prop := ∃ c, Cd k x [] false p c ∧ H1 c 27 ∧ rgO w c ∧ 0 ≤ a ∧ b = a + c.length ∧ ∀ i : Nat, i < c.length → f (a.toNat + i) = enc (nth c i)
/-- what a clause does to the code of laws -/
def LAWC (g : Nat → Int) (n : Int) (M N : Mem) (p : Int) : Prop := (101 ≤ tk g n p ∧ mI N 22 12 - mI M 22 12 ≤ mI N 22 9 - mI M 22 9 ∧ mI M 22 12 ≤ mI N 22 12) ∧ (∀ i : Nat, (i : Int) < mI M 22 12 → mI N 23 i = mI M 23 i) ∧ (5 ≤ tk g n p - 101 → mI N 24 = mI M 24) ∧ (0 ≤ tk g n p - 101 → tk g n p - 101 ≤ 4 → mI M 24 (2 * (tk g n p - 101)).toNat = -1 ∧ (∀ j : Nat, j ≠ (2 * (tk g n p - 101)).toNat → j ≠ (2 * (tk g n p - 101) + 1).toNat → mI N 24 j = mI M 24 j) ∧ LC (mI N 23) (tk g n) (nx g n) (tk g n p - 101) (nx g n p) (mI N 24 (2 * (tk g n p - 101)).toNat) (mI N 24 (2 * (tk g n p - 101) + 1).toNat) ∧ mI N 24 (2 * (tk g n p - 101)).toNat = mI M 22 12 ∧ mI N 24 (2 * (tk g n p - 101) + 1).toNat = mI N 22 12)
theorem LAWC.deed {g : Nat → Int} {n : Int} {M N : Mem} {p : Int} (hw : 5 ≤ tk g n p - 101) (e23 : mI N 23 = mI M 23) (e24 : mI N 24 = mI M 24) (e12 : mI N 22 12 = mI M 22 12) (t9 : mI M 22 9 ≤ mI N 22 9) : LAWC g n M N p := ⟨by omega, fun i _ => by rw [e23], fun _ => e24, fun _ h => by omega⟩
theorem LAWC.law {g : Nat → Int} {n : Int} {M B S N : Mem} {p w : Int} (hw : tk g n p - 101 = w) (w0 : 0 ≤ w) (w4 : w ≤ 4) (c0 : 0 ≤ mI M 22 12) (e23b : mI B 23 = mI M 23) (e12b : mI B 22 12 = mI M 22 12) (t9b : mI M 22 9 ≤ mI B 22 9) (h0 : mI M 24 (2 * w).toNat = -1) (hco : CO2 g n w B S (nx g n p) (3 * (8 - 0) + 3) 1 (EOp g n)) (e23 : mI N 23 = mI S 23) (e12 : mI N 22 12 = mI S 22 12) (t9 : mI S 22 9 ≤ mI N 22 9) (a1 : mI N 24 (2 * w).toNat = mI M 22 12) (a2 : mI N 24 (2 * w + 1).toNat = mI S 22 12) (ao : ∀ j : Nat, j ≠ (2 * w).toNat → j ≠ (2 * w + 1).toNat → mI N 24 j = mI M 24 j) : LAWC g n M N p := by
  obtain ⟨q, c, ⟨w1, ⟨m1, m2, m3⟩, w3, w4', w5⟩, e, f⟩ := hco
  have z : Cd (tk g n) (nx g n) [] false (nx g n p) (c ++ []) := f [] [] tpR.nil (c_fin e rfl)
  rw [List.append_nil] at z
  refine ⟨by omega, fun i hi => by rw [e23, m2 i (by omega), e23b], fun h => by omega, fun _ _ => ?_⟩
  rw [hw]
  refine ⟨h0, ao, ⟨c, z, w4', w5, by omega, by omega, fun i hi => ?_⟩, a1, by omega⟩
  rw [e23, a1, ← e12b]
  exact m3 i hi
set_option maxRecDepth 4000 in
theorem sfX4_readClauseF {l : Launch} {M : Mem} (hB : Box M) (g : Nat → Int) (n p : Int) (hR : RS g n M p) (on : Int → Int) (c : Int) (hon : ONr (mI M 24) on) (hc : mI M 22 13 = c) (hcc : mI M 22 12 ≤ mI M 22 9)   : Call l mdX4_readClause [aR 22] M (fun q N => ∃ r : Int, q = some (aI r) ∧ BF fQ M N ∧ mI N 26 = mI M 26 ∧ mI N 27 = mI M 27 ∧ mI N 28 = mI M 28 ∧ 0 ≤ r ∧ r ≤ 1 ∧ 0 ≤ mI N 22 9 ∧ (r = 1 → LAWC g n M N p) ∧ (r = 1 → Q25 (tk g n) (nx g n) (mI N 25) (mI M 22 13).toNat p ∧ ∀ i : Nat, (i : Int) < 5 * mI M 22 13 → mI N 25 i = mI M 25 i) ∧ (r = 1 → ONr (mI N 24) (onA on (tk g n p - 101)) ∧ mI N 22 13 = c + 1) ∧ CR g n N r (sClause (tk g n) (nx g n) on c p)) := by
  have hB0 : BF fQ M M := BF.start hB
  refine Call.of [some (aR 22), none, none] rfl (Nat.le_of_ble_eq_true rfl) rfl ?_
  have hc0 := (b22_12 hB).1
  have ct1 := RS.ct hR
  unfold CT at ct1
  have rg2 := RS.rg hR
  refine vc_aload_n dX4_readClause_0 rfl ?_
  refine vc_getI dX4_readClause_1 flX4_69 (s_22 hB0.1.1) rfl ?_
  refine vc_iconst dX4_readClause_4 rfl ?_
  refine vc_icmp_ne dX4_readClause_5 (fun h3 => ?_) (fun h3 => ?_)
  · refine vc_aload_n dX4_readClause_24 rfl ?_
    refine vc_iconst dX4_readClause_25 rfl ?_
    refine vc_cVI dX4_readClause_26 (sfX4_failedF (M := M) hB0.1  g n p hR 1 ) rfl okX4_failed viX4_failed lkX4_122 (s_22 hB0.1.1) cl_4 rfl (Nat.le_of_ble_eq_true rfl) ⟨rfl, rfl⟩ (Nat.le_of_ble_eq_true rfl) (Nat.le_of_ble_eq_true rfl) (Nat.le_of_ble_eq_true rfl) ?_
    rintro x4 M5 ⟨hB6, kp7, kp8, kp9, kp10, kp11, kp12, h13, h14, h15, h16, h17, h18, h19⟩
    have hB20 : BF fQ M M5 := BF.go hB0 hB6
    have kp21 : mI M5 23 = mI M 23 := kp_go rfl kp7
    have kp22 : mI M5 24 = mI M 24 := kp_go rfl kp8
    have kp23 : mI M5 26 = mI M 26 := kp_go rfl kp10
    have kp24 : mI M5 27 = mI M 27 := kp_go rfl kp11
    have kp25 : mI M5 28 = mI M 28 := kp_go rfl kp12
    refine vc_zret dX4_readClause_29 rfl (by first | decide | omega) (Nat.le_of_ble_eq_true rfl) (Nat.le_of_ble_eq_true rfl) ?_
    exact ⟨_, rfl, hB20, kp23, kp24, kp25, by omega, by omega, by omega, fun hr => absurd hr (by omega), fun hr => absurd hr (by omega), fun hr => absurd hr (by omega), CRb (e := 1) (q := p) (by omega) h18 h19 (by omega) (by unfold sClause; rw [if_pos (by omega)])⟩
  · refine vc_aload_n dX4_readClause_8 rfl ?_
    refine vc_getI dX4_readClause_9 flX4_119 (s_22 hB0.1.1) rfl ?_
    refine vc_if_lt dX4_readClause_12 (fun h26 => ?_) (fun h26 => ?_)
    · refine vc_aload_n dX4_readClause_24 rfl ?_
      refine vc_iconst dX4_readClause_25 rfl ?_
      refine vc_cVI dX4_readClause_26 (sfX4_failedF (M := M) hB0.1  g n p hR 1 ) rfl okX4_failed viX4_failed lkX4_122 (s_22 hB0.1.1) cl_4 rfl (Nat.le_of_ble_eq_true rfl) ⟨rfl, rfl⟩ (Nat.le_of_ble_eq_true rfl) (Nat.le_of_ble_eq_true rfl) (Nat.le_of_ble_eq_true rfl) ?_
      rintro x27 M28 ⟨hB29, kp30, kp31, kp32, kp33, kp34, kp35, h36, h37, h38, h39, h40, h41, h42⟩
      have hB43 : BF fQ M M28 := BF.go hB0 hB29
      have kp44 : mI M28 23 = mI M 23 := kp_go rfl kp30
      have kp45 : mI M28 24 = mI M 24 := kp_go rfl kp31
      have kp46 : mI M28 26 = mI M 26 := kp_go rfl kp33
      have kp47 : mI M28 27 = mI M 27 := kp_go rfl kp34
      have kp48 : mI M28 28 = mI M 28 := kp_go rfl kp35
      refine vc_zret dX4_readClause_29 rfl (by first | decide | omega) (Nat.le_of_ble_eq_true rfl) (Nat.le_of_ble_eq_true rfl) ?_
      exact ⟨_, rfl, hB43, kp46, kp47, kp48, by omega, by omega, by omega, fun hr => absurd hr (by omega), fun hr => absurd hr (by omega), fun hr => absurd hr (by omega), CRb (e := 1) (q := p) (by omega) h41 h42 (by omega) (by unfold sClause; rw [if_pos (by omega)])⟩
    · refine vc_aload_n dX4_readClause_15 rfl ?_
      refine vc_getI dX4_readClause_16 flX4_119 (s_22 hB0.1.1) rfl ?_
      refine vc_bipush dX4_readClause_19 rfl ?_
      refine vc_icmp_le dX4_readClause_21 (fun h49 => ?_) (fun h49 => ?_)
      · refine vc_aload_n dX4_readClause_30 rfl ?_
        refine vc_getI dX4_readClause_31 flX4_119 (s_22 hB0.1.1) rfl ?_
        refine vc_nameI (fun x50 ex50 => ?_)
        refine vc_istore_n dX4_readClause_34 (by decide) rfl (show _ = [some (aR 22), some (aI x50), none] from rfl) ?_
        refine vc_iload_n dX4_readClause_35 rfl ?_
        refine vc_iconst dX4_readClause_36 rfl ?_
        refine vc_icmp_ge dX4_readClause_37 (fun h51 => ?_) (fun h51 => ?_)
        · refine vc_aload_n dX4_readClause_58 rfl ?_
          refine vc_getI dX4_readClause_59 flX4_53 (s_22 hB0.1.1) rfl ?_
          have k52 : 0 ≤ mI M 22 13 ∧ mI M 22 13 ≤ 24 := b22_13 (M := M) hB0.1
          refine vc_bipush dX4_readClause_62 rfl ?_
          refine vc_icmp_lt dX4_readClause_64 (fun h53 => ?_) (fun h53 => ?_)
          · refine vc_aload_n dX4_readClause_74 rfl ?_
            refine vc_iconst dX4_readClause_75 rfl ?_
            refine vc_iload_n dX4_readClause_76 rfl ?_
            refine vc_cVU dX4_readClause_77 (sfX4_keepF (M := M) hB0.1  g n p hR 0 x50 (by omega) (by omega) (by omega)) rfl okX4_keep viX4_keep lkX4_125 (s_22 hB0.1.1) cl_4 rfl (Nat.le_of_ble_eq_true rfl) ⟨rfl, rfl⟩ (Nat.le_of_ble_eq_true rfl) (Nat.le_of_ble_eq_true rfl) (Nat.le_of_ble_eq_true rfl) ?_
            rintro M54 ⟨hB55, kp56, kp57, kp58, kp59, kp60, h61, h62, h63, h64, h65⟩
            have hB66 : BF fQ M M54 := BF.go hB0 hB55
            have kp67 : mI M54 23 = mI M 23 := kp_go rfl kp56
            have kp68 : mI M54 24 = mI M 24 := kp_go rfl kp57
            have kp69 : mI M54 26 = mI M 26 := kp_go rfl kp58
            have kp70 : mI M54 27 = mI M 27 := kp_go rfl kp59
            have kp71 : mI M54 28 = mI M 28 := kp_go rfl kp60
            refine vc_aload_n dX4_readClause_80 rfl ?_
            refine vc_cVI dX4_readClause_81 (sfX4_takeTokenF (M := M54) hB66.1  g n p h65 (by omega)) rfl okX4_takeToken viX4_takeToken lkX4_65 (s_22 hB66.1.1) cl_4 rfl (Nat.le_of_ble_eq_true rfl) ⟨rfl, rfl⟩ (Nat.le_of_ble_eq_true rfl) (Nat.le_of_ble_eq_true rfl) (Nat.le_of_ble_eq_true rfl) ?_
            rintro x72 M73 ⟨hB74, kp75, kp76, kp77, kp78, kp79, kp80, h81, h82, h83, h84, h85, h86⟩
            have hB87 : BF fQ M M73 := BF.go hB66 hB74
            have kp88 : mI M73 23 = mI M 23 := kp_go kp67 kp75
            have kp89 : mI M73 24 = mI M 24 := kp_go kp68 kp76
            have kp90 : mI M73 26 = mI M 26 := kp_go kp69 kp78
            have kp91 : mI M73 27 = mI M 27 := kp_go kp70 kp79
            have kp92 : mI M73 28 = mI M 28 := kp_go kp71 kp80
            refine vc_pop dX4_readClause_84 rfl ?_
            refine vc_iload_n dX4_readClause_85 rfl ?_
            refine vc_iconst dX4_readClause_86 rfl ?_
            refine vc_icmp_ge dX4_readClause_87 (fun h93 => ?_) (fun h93 => by exfalso; omega)
            refine vc_aload_n dX4_readClause_122 rfl ?_
            refine vc_iload_n dX4_readClause_123 rfl ?_
            refine vc_cVI dX4_readClause_124 (sfX4_readDeedF (M := M73) hB87.1  g n (nx g n p) h86 x50 (by omega) (by omega) (by omega)) rfl okX4_readDeed viX4_readDeed lkX4_138 (s_22 hB87.1.1) cl_4 rfl (Nat.le_of_ble_eq_true rfl) ⟨rfl, rfl⟩ (Nat.le_of_ble_eq_true rfl) (Nat.le_of_ble_eq_true rfl) (Nat.le_of_ble_eq_true rfl) ?_
            rintro x94 M95 ⟨hB96, kp97, kp98, kp99, kp100, kp101, h102, h103, h104, h105, h106, h107, h108⟩
            have hB109 : BF fQ M M95 := BF.go hB87 hB96
            have kp110 : mI M95 23 = mI M 23 := kp_go kp88 kp97
            have kp111 : mI M95 24 = mI M 24 := kp_go kp89 kp98
            have kp112 : mI M95 26 = mI M 26 := kp_go kp90 kp99
            have kp113 : mI M95 27 = mI M 27 := kp_go kp91 kp100
            have kp114 : mI M95 28 = mI M 28 := kp_go kp92 kp101
            refine vc_istore_n dX4_readClause_127 (by decide) rfl (show _ = [some (aR 22), some (aI x50), some (aI x94)] from rfl) ?_
            refine vc_iload_n dX4_readClause_128 rfl ?_
            refine vc_if_eq dX4_readClause_129 (fun h115 => ?_) (fun h115 => ?_)
            · refine vc_iconst dX4_readClause_141 rfl ?_
              refine vc_zret dX4_readClause_142 rfl (by first | decide | omega) (Nat.le_of_ble_eq_true rfl) (Nat.le_of_ble_eq_true rfl) ?_
              exact ⟨_, rfl, hB109, kp112, kp113, kp114, by omega, by omega, by omega, fun hr => absurd hr (by omega), fun hr => absurd hr (by omega), fun hr => absurd hr (by omega), (by unfold sClause; rw [if_neg (by omega), if_neg (fun hh => by have h1 := hh.1; have h2 := hh.2; rw [show tk g n p - 101 = x50 by omega] at h2; omega), if_neg (by omega), show tk g n p - 101 = x50 by omega]; exact CR.b_bad h108 (by omega) (by omega))⟩
            · have e116 := CR.ok h108 (by omega)
              refine vc_aload_n dX4_readClause_132 rfl ?_
              refine vc_bipush dX4_readClause_133 rfl ?_
              refine vc_cVI dX4_readClause_135 (sfX4_readSignF (M := M95) hB109.1  g n ((sBody (tk g n) (nx g n) x50 (nx g n p)).2) e116.2 59 (by omega) (by omega)) rfl okX4_readSign viX4_readSign lkX4_141 (s_22 hB109.1.1) cl_4 rfl (Nat.le_of_ble_eq_true rfl) ⟨rfl, rfl⟩ (Nat.le_of_ble_eq_true rfl) (Nat.le_of_ble_eq_true rfl) (Nat.le_of_ble_eq_true rfl) ?_
              rintro x117 M118 ⟨hB119, kp120, kp121, kp122, kp123, kp124, kp125, h126, h127, h128, h129, h130, h131⟩
              have hB132 : BF fQ M M118 := BF.go hB109 hB119
              have kp133 : mI M118 23 = mI M 23 := kp_go kp110 kp120
              have kp134 : mI M118 24 = mI M 24 := kp_go kp111 kp121
              have kp135 : mI M118 26 = mI M 26 := kp_go kp112 kp123
              have kp136 : mI M118 27 = mI M 27 := kp_go kp113 kp124
              have kp137 : mI M118 28 = mI M 28 := kp_go kp114 kp125
              refine vc_if_ne dX4_readClause_138 (fun h138 => ?_) (fun h138 => ?_)
              · have e139 := CR.ok h131.cr (by omega)
                refine vc_aload_n dX4_readClause_143 rfl ?_
                refine vc_dup dX4_readClause_144 rfl ?_
                refine vc_getI dX4_readClause_145 flX4_53 (s_22 hB132.1.1) rfl ?_
                have k140 : 0 ≤ mI M118 22 13 ∧ mI M118 22 13 ≤ 24 := b22_13 (M := M118) hB132.1
                refine vc_iconst dX4_readClause_148 rfl ?_
                refine vc_iaddE dX4_readClause_149 (by omega) (by omega) ?_
                refine vc_putI dX4_readClause_150 (plX4_53 _ rfl) (s_22 hB132.1.1) rfl ?_
                have kp141 : mI (sI M118 22 13 ((mI M118 22 13) + 1)) 23 = mI M 23 := (kp_sI kp133 rfl)
                have kp142 : mI (sI M118 22 13 ((mI M118 22 13) + 1)) 24 = mI M 24 := (kp_sI kp134 rfl)
                have kp143 : mI (sI M118 22 13 ((mI M118 22 13) + 1)) 26 = mI M 26 := (kp_sI kp135 rfl)
                have kp144 : mI (sI M118 22 13 ((mI M118 22 13) + 1)) 27 = mI M 27 := (kp_sI kp136 rfl)
                have kp145 : mI (sI M118 22 13 ((mI M118 22 13) + 1)) 28 = mI M 28 := (kp_sI kp137 rfl)
                have hB146 : BF fQ M (sI M118 22 13 ((mI M118 22 13) + 1)) := BF.w22_13 hB132 rfl (by omega) (by omega)
                refine vc_iconst dX4_readClause_153 rfl ?_
                refine vc_zret dX4_readClause_154 rfl (by first | decide | omega) (Nat.le_of_ble_eq_true rfl) (Nat.le_of_ble_eq_true rfl) ?_
                have k147 : mI (sI M118 22 13 ((mI M118 22 13) + 1)) 22 7 = mI M118 22 7 := rfl
                have k148 : mI (sI M118 22 13 ((mI M118 22 13) + 1)) 22 8 = mI M118 22 8 := rfl
                have k149 : mI (sI M118 22 13 ((mI M118 22 13) + 1)) 22 9 = mI M118 22 9 := rfl
                have k150 : mI (sI M118 22 13 ((mI M118 22 13) + 1)) 22 10 = mI M118 22 10 := rfl
                have k151 : mI (sI M118 22 13 ((mI M118 22 13) + 1)) 22 11 = mI M118 22 11 := rfl
                have k152 : mI (sI M118 22 13 ((mI M118 22 13) + 1)) 22 12 = mI M118 22 12 := rfl
                have k153 : mI (sI M118 22 13 ((mI M118 22 13) + 1)) 22 13 = (mI M118 22 13) + 1 := rfl
                have k154 : mI (sI M118 22 13 ((mI M118 22 13) + 1)) 22 14 = mI M118 22 14 := rfl
                have hR155 : RS g n (sI M118 22 13 ((mI M118 22 13) + 1)) (sTok (tk g n) (nx g n) (59 - 300) ((sBody (tk g n) (nx g n) x50 (nx g n p)).2)).2 := RS.same e139.2 (kp_sI rfl rfl) (kp_sI rfl rfl) (kp_sI rfl rfl) rfl rfl rfl rfl rfl
                exact ⟨_, rfl, hB146, kp143, kp144, kp145, by omega, by omega, by omega, fun _ => LAWC.deed (by omega) kp141 kp142 (by omega) (by omega), fun _ => ⟨Q25.of (M := M) (N := (sI M118 22 13 ((mI M118 22 13) + 1))) (w := x50) ⟨by omega, by omega⟩ (by omega) (by omega) (by have hz : ∀ i : Nat, (i : Int) = 5 * mI M 22 13 → mI (sI M118 22 13 ((mI M118 22 13) + 1)) 25 i = x50 := fun i hi => ((show mI (sI M118 22 13 ((mI M118 22 13) + 1)) 25 i = mI M118 25 i from rfl).trans ((congrFun kp122 i).trans (((h107 (by omega)).2.2.2.2 i (Or.inl (by omega))).trans (congrFun kp77 i)))).trans (h64.1 i (by omega)); exact hz _ (by omega)) (fun _ => h107 (by omega)) (fun _ i i1 i2 => ((show mI (sI M118 22 13 ((mI M118 22 13) + 1)) 25 i = mI M118 25 i from rfl).trans (congrFun kp122 i))), fun i hi => ((show mI (sI M118 22 13 ((mI M118 22 13) + 1)) 25 i = mI M118 25 i from rfl).trans ((congrFun kp122 i).trans (((h107 (by omega)).2.2.2.2 i (Or.inl (by omega))).trans ((congrFun kp77 i).trans (h64.2 i (by omega))))))⟩, fun _ => ⟨by rw [show tk g n p - 101 = x50 by omega]; exact ONr.deed hon kp142 (by omega), by omega⟩, (by unfold sClause; rw [if_neg (by omega), if_neg (fun hh => by have h1 := hh.1; have h2 := hh.2; rw [show tk g n p - 101 = x50 by omega] at h2; omega), if_neg (by omega), show tk g n p - 101 = x50 by omega]; exact CR.b_ok h108 (by omega) (Or.inl ⟨rfl, e139.1, hR155⟩))⟩
              · refine vc_iconst dX4_readClause_141 rfl ?_
                refine vc_zret dX4_readClause_142 rfl (by first | decide | omega) (Nat.le_of_ble_eq_true rfl) (Nat.le_of_ble_eq_true rfl) ?_
                exact ⟨_, rfl, hB132, kp135, kp136, kp137, by omega, by omega, by omega, fun hr => absurd hr (by omega), fun hr => absurd hr (by omega), fun hr => absurd hr (by omega), (by unfold sClause; rw [if_neg (by omega), if_neg (fun hh => by have h1 := hh.1; have h2 := hh.2; rw [show tk g n p - 101 = x50 by omega] at h2; omega), if_neg (by omega), show tk g n p - 101 = x50 by omega]; exact CR.b_ok h108 (by omega) (CR.cast h131.cr (by omega)))⟩
          · refine vc_aload_n dX4_readClause_67 rfl ?_
            refine vc_bipush dX4_readClause_68 rfl ?_
            refine vc_cVI dX4_readClause_70 (sfX4_failedF (M := M) hB0.1  g n p hR 6 ) rfl okX4_failed viX4_failed lkX4_122 (s_22 hB0.1.1) cl_4 rfl (Nat.le_of_ble_eq_true rfl) ⟨rfl, rfl⟩ (Nat.le_of_ble_eq_true rfl) (Nat.le_of_ble_eq_true rfl) (Nat.le_of_ble_eq_true rfl) ?_
            rintro x156 M157 ⟨hB158, kp159, kp160, kp161, kp162, kp163, kp164, h165, h166, h167, h168, h169, h170, h171⟩
            have hB172 : BF fQ M M157 := BF.go hB0 hB158
            have kp173 : mI M157 23 = mI M 23 := kp_go rfl kp159
            have kp174 : mI M157 24 = mI M 24 := kp_go rfl kp160
            have kp175 : mI M157 26 = mI M 26 := kp_go rfl kp162
            have kp176 : mI M157 27 = mI M 27 := kp_go rfl kp163
            have kp177 : mI M157 28 = mI M 28 := kp_go rfl kp164
            refine vc_zret dX4_readClause_73 rfl (by first | decide | omega) (Nat.le_of_ble_eq_true rfl) (Nat.le_of_ble_eq_true rfl) ?_
            exact ⟨_, rfl, hB172, kp175, kp176, kp177, by omega, by omega, by omega, fun hr => absurd hr (by omega), fun hr => absurd hr (by omega), fun hr => absurd hr (by omega), CRb (e := 6) (q := p) (by omega) h170 h171 (by omega) (by unfold sClause; rw [if_neg (by omega), if_neg (fun hh => by have h1 := hh.1; have h2 := hh.2; rw [show tk g n p - 101 = x50 by omega] at h2; omega), if_pos (by omega)])⟩
        · have hon1 := hon x50 (by omega) (by omega)
          refine vc_aload_n dX4_readClause_40 rfl ?_
          refine vc_getR dX4_readClause_41 flX4_18 (s_22 hB0.1.1) rfl (r_22_2 hB0.1.1) ?_
          refine vc_iconst dX4_readClause_44 rfl ?_
          refine vc_iload_n dX4_readClause_45 rfl ?_
          refine vc_imulE dX4_readClause_46 (by omega) (by omega) ?_
          refine vc_iaload dX4_readClause_47 (s_24 hB0.1.1) (by omega) (by omega) ?_
          have k178 : (-1) ≤ mI M 24 ((2 * x50).toNat) ∧ mI M 24 ((2 * x50).toNat) ≤ 300 := bA24 (M := M) hB0.1 _
          refine vc_iconst dX4_readClause_48 rfl ?_
          refine vc_icmp_eq dX4_readClause_49 (fun h180 => ?_) (fun h180 => ?_)
          · refine vc_aload_n dX4_readClause_58 rfl ?_
            refine vc_getI dX4_readClause_59 flX4_53 (s_22 hB0.1.1) rfl ?_
            have k181 : 0 ≤ mI M 22 13 ∧ mI M 22 13 ≤ 24 := b22_13 (M := M) hB0.1
            refine vc_bipush dX4_readClause_62 rfl ?_
            refine vc_icmp_lt dX4_readClause_64 (fun h182 => ?_) (fun h182 => ?_)
            · refine vc_aload_n dX4_readClause_74 rfl ?_
              refine vc_iconst dX4_readClause_75 rfl ?_
              refine vc_iload_n dX4_readClause_76 rfl ?_
              refine vc_cVU dX4_readClause_77 (sfX4_keepF (M := M) hB0.1  g n p hR 0 x50 (by omega) (by omega) (by omega)) rfl okX4_keep viX4_keep lkX4_125 (s_22 hB0.1.1) cl_4 rfl (Nat.le_of_ble_eq_true rfl) ⟨rfl, rfl⟩ (Nat.le_of_ble_eq_true rfl) (Nat.le_of_ble_eq_true rfl) (Nat.le_of_ble_eq_true rfl) ?_
              rintro M183 ⟨hB184, kp185, kp186, kp187, kp188, kp189, h190, h191, h192, h193, h194⟩
              have hB195 : BF fQ M M183 := BF.go hB0 hB184
              have kp196 : mI M183 23 = mI M 23 := kp_go rfl kp185
              have kp197 : mI M183 24 = mI M 24 := kp_go rfl kp186
              have kp198 : mI M183 26 = mI M 26 := kp_go rfl kp187
              have kp199 : mI M183 27 = mI M 27 := kp_go rfl kp188
              have kp200 : mI M183 28 = mI M 28 := kp_go rfl kp189
              refine vc_aload_n dX4_readClause_80 rfl ?_
              refine vc_cVI dX4_readClause_81 (sfX4_takeTokenF (M := M183) hB195.1  g n p h194 (by omega)) rfl okX4_takeToken viX4_takeToken lkX4_65 (s_22 hB195.1.1) cl_4 rfl (Nat.le_of_ble_eq_true rfl) ⟨rfl, rfl⟩ (Nat.le_of_ble_eq_true rfl) (Nat.le_of_ble_eq_true rfl) (Nat.le_of_ble_eq_true rfl) ?_
              rintro x201 M202 ⟨hB203, kp204, kp205, kp206, kp207, kp208, kp209, h210, h211, h212, h213, h214, h215⟩
              have hB216 : BF fQ M M202 := BF.go hB195 hB203
              have kp217 : mI M202 23 = mI M 23 := kp_go kp196 kp204
              have kp218 : mI M202 24 = mI M 24 := kp_go kp197 kp205
              have kp219 : mI M202 26 = mI M 26 := kp_go kp198 kp207
              have kp220 : mI M202 27 = mI M 27 := kp_go kp199 kp208
              have kp221 : mI M202 28 = mI M 28 := kp_go kp200 kp209
              refine vc_pop dX4_readClause_84 rfl ?_
              refine vc_iload_n dX4_readClause_85 rfl ?_
              refine vc_iconst dX4_readClause_86 rfl ?_
              refine vc_icmp_ge dX4_readClause_87 (fun h222 => by exfalso; omega) (fun h222 => ?_)
              refine vc_aload_n dX4_readClause_90 rfl ?_
              refine vc_iload_n dX4_readClause_91 rfl ?_
              refine vc_cVI dX4_readClause_92 (sfX4_beginLawF (M := M202) hB216.1  g n (nx g n p) h215 x50 (by omega) (by omega)) rfl okX4_beginLaw viX4_beginLaw lkX4_129 (s_22 hB216.1.1) cl_4 rfl (Nat.le_of_ble_eq_true rfl) ⟨rfl, rfl⟩ (Nat.le_of_ble_eq_true rfl) (Nat.le_of_ble_eq_true rfl) (Nat.le_of_ble_eq_true rfl) ?_
              rintro x223 M224 ⟨hB225, kp226, kp227, kp228, kp229, kp230, h231, h232, h233, h234, h235, h236, h237, h238, h239⟩
              have hB240 : BF fQ M M224 := BF.go hB216 hB225
              have kp241 : mI M224 23 = mI M 23 := kp_go kp217 kp226
              have kp242 : mI M224 26 = mI M 26 := kp_go kp219 kp228
              have kp243 : mI M224 27 = mI M 27 := kp_go kp220 kp229
              have kp244 : mI M224 28 = mI M 28 := kp_go kp221 kp230
              refine vc_if_eq dX4_readClause_95 (fun h245 => by exfalso; omega) (fun h245 => ?_)
              refine vc_aload_n dX4_readClause_98 rfl ?_
              refine vc_iconst dX4_readClause_99 rfl ?_
              refine vc_cVI dX4_readClause_100 ((ld_all 9).2 (M := M224) hB240.1  0 (by omega) (by omega) g n (nx g n p) h239 x50 [] rfl rfl h236 (by omega) (by decide)) rfl (okX4_readSum (13 + 3 * 9)) (viX4_readSum (13 + 3 * 9)) (lkX4_132 (13 + 3 * 9)) (s_22 hB240.1.1) cl_4 rfl (Nat.le_of_ble_eq_true rfl) ⟨rfl, rfl⟩ (Nat.le_of_ble_eq_true rfl) (Nat.le_of_ble_eq_true rfl) (Nat.le_of_ble_eq_true rfl) ?_
              rintro x246 M247 ⟨hB248, kp249, kp250, kp251, kp252, kp253, h254, h255, h256, h257, h258, h259, h260⟩
              have hB261 : BF fQ M M247 := BF.go hB240 hB248
              have kp262 : mI M247 26 = mI M 26 := kp_go kp242 kp251
              have kp263 : mI M247 27 = mI M 27 := kp_go kp243 kp252
              have kp264 : mI M247 28 = mI M 28 := kp_go kp244 kp253
              have hL265 := LR.law h260
              refine vc_if_eq dX4_readClause_103 (fun h266 => ?_) (fun h266 => ?_)
              · refine vc_iconst dX4_readClause_118 rfl ?_
                refine vc_goto dX4_readClause_119 ?_
                refine vc_istore_n dX4_readClause_127 (by decide) rfl (show _ = [some (aR 22), some (aI x50), some (aI 0)] from rfl) ?_
                refine vc_iload_n dX4_readClause_128 rfl ?_
                refine vc_if_eq dX4_readClause_129 (fun h267 => ?_) (fun h267 => by exfalso; omega)
                refine vc_iconst dX4_readClause_141 rfl ?_
                refine vc_zret dX4_readClause_142 rfl (by first | decide | omega) (Nat.le_of_ble_eq_true rfl) (Nat.le_of_ble_eq_true rfl) ?_
                exact ⟨_, rfl, hB261, kp262, kp263, kp264, by omega, by omega, by omega, fun hr => absurd hr (by omega), fun hr => absurd hr (by omega), fun hr => absurd hr (by omega), (by unfold sClause; rw [if_neg (by omega), if_neg (fun hh => by have h1 := hh.1; have h2 := hh.2; rw [show tk g n p - 101 = x50 by omega] at h2; omega), if_neg (by omega), show tk g n p - 101 = x50 by omega, sB4 (by omega)]; exact CR.b_bad hL265 (by omega) (by omega))⟩
              · have e268 := CR.ok hL265 (by omega)
                refine vc_aload_n dX4_readClause_106 rfl ?_
                refine vc_iload_n dX4_readClause_107 rfl ?_
                refine vc_cVI dX4_readClause_108 (sfX4_endLawF (M := M247) hB261.1  g n ((sLaw (tk g n) (nx g n) x50 (nx g n p)).2) e268.2 x50 (by omega) (by omega)) rfl okX4_endLaw viX4_endLaw lkX4_135 (s_22 hB261.1.1) cl_4 rfl (Nat.le_of_ble_eq_true rfl) ⟨rfl, rfl⟩ (Nat.le_of_ble_eq_true rfl) (Nat.le_of_ble_eq_true rfl) (Nat.le_of_ble_eq_true rfl) ?_
                rintro x269 M270 ⟨hB271, kp272, kp273, kp274, kp275, kp276, h277, h278, h279, h280, h281, h282, h283, h284⟩
                have hB285 : BF fQ M M270 := BF.go hB261 hB271
                have kp286 : mI M270 26 = mI M 26 := kp_go kp262 kp274
                have kp287 : mI M270 27 = mI M 27 := kp_go kp263 kp275
                have kp288 : mI M270 28 = mI M 28 := kp_go kp264 kp276
                refine vc_if_eq dX4_readClause_111 (fun h289 => by exfalso; omega) (fun h289 => ?_)
                refine vc_iconst dX4_readClause_114 rfl ?_
                refine vc_goto dX4_readClause_115 ?_
                refine vc_istore_n dX4_readClause_127 (by decide) rfl (show _ = [some (aR 22), some (aI x50), some (aI 1)] from rfl) ?_
                refine vc_iload_n dX4_readClause_128 rfl ?_
                refine vc_if_eq dX4_readClause_129 (fun h290 => by exfalso; omega) (fun h290 => ?_)
                refine vc_aload_n dX4_readClause_132 rfl ?_
                refine vc_bipush dX4_readClause_133 rfl ?_
                refine vc_cVI dX4_readClause_135 (sfX4_readSignF (M := M270) hB285.1  g n ((sLaw (tk g n) (nx g n) x50 (nx g n p)).2) h284 59 (by omega) (by omega)) rfl okX4_readSign viX4_readSign lkX4_141 (s_22 hB285.1.1) cl_4 rfl (Nat.le_of_ble_eq_true rfl) ⟨rfl, rfl⟩ (Nat.le_of_ble_eq_true rfl) (Nat.le_of_ble_eq_true rfl) (Nat.le_of_ble_eq_true rfl) ?_
                rintro x291 M292 ⟨hB293, kp294, kp295, kp296, kp297, kp298, kp299, h300, h301, h302, h303, h304, h305⟩
                have hB306 : BF fQ M M292 := BF.go hB285 hB293
                have kp307 : mI M292 26 = mI M 26 := kp_go kp286 kp297
                have kp308 : mI M292 27 = mI M 27 := kp_go kp287 kp298
                have kp309 : mI M292 28 = mI M 28 := kp_go kp288 kp299
                refine vc_if_ne dX4_readClause_138 (fun h310 => ?_) (fun h310 => ?_)
                · have e311 := CR.ok h305.cr (by omega)
                  refine vc_aload_n dX4_readClause_143 rfl ?_
                  refine vc_dup dX4_readClause_144 rfl ?_
                  refine vc_getI dX4_readClause_145 flX4_53 (s_22 hB306.1.1) rfl ?_
                  have k312 : 0 ≤ mI M292 22 13 ∧ mI M292 22 13 ≤ 24 := b22_13 (M := M292) hB306.1
                  refine vc_iconst dX4_readClause_148 rfl ?_
                  refine vc_iaddE dX4_readClause_149 (by omega) (by omega) ?_
                  refine vc_putI dX4_readClause_150 (plX4_53 _ rfl) (s_22 hB306.1.1) rfl ?_
                  have kp313 : mI (sI M292 22 13 ((mI M292 22 13) + 1)) 26 = mI M 26 := (kp_sI kp307 rfl)
                  have kp314 : mI (sI M292 22 13 ((mI M292 22 13) + 1)) 27 = mI M 27 := (kp_sI kp308 rfl)
                  have kp315 : mI (sI M292 22 13 ((mI M292 22 13) + 1)) 28 = mI M 28 := (kp_sI kp309 rfl)
                  have hB316 : BF fQ M (sI M292 22 13 ((mI M292 22 13) + 1)) := BF.w22_13 hB306 rfl (by omega) (by omega)
                  refine vc_iconst dX4_readClause_153 rfl ?_
                  refine vc_zret dX4_readClause_154 rfl (by first | decide | omega) (Nat.le_of_ble_eq_true rfl) (Nat.le_of_ble_eq_true rfl) ?_
                  have k317 : mI (sI M292 22 13 ((mI M292 22 13) + 1)) 22 7 = mI M292 22 7 := rfl
                  have k318 : mI (sI M292 22 13 ((mI M292 22 13) + 1)) 22 8 = mI M292 22 8 := rfl
                  have k319 : mI (sI M292 22 13 ((mI M292 22 13) + 1)) 22 9 = mI M292 22 9 := rfl
                  have k320 : mI (sI M292 22 13 ((mI M292 22 13) + 1)) 22 10 = mI M292 22 10 := rfl
                  have k321 : mI (sI M292 22 13 ((mI M292 22 13) + 1)) 22 11 = mI M292 22 11 := rfl
                  have k322 : mI (sI M292 22 13 ((mI M292 22 13) + 1)) 22 12 = mI M292 22 12 := rfl
                  have k323 : mI (sI M292 22 13 ((mI M292 22 13) + 1)) 22 13 = (mI M292 22 13) + 1 := rfl
                  have k324 : mI (sI M292 22 13 ((mI M292 22 13) + 1)) 22 14 = mI M292 22 14 := rfl
                  have hR325 : RS g n (sI M292 22 13 ((mI M292 22 13) + 1)) (sTok (tk g n) (nx g n) (59 - 300) ((sLaw (tk g n) (nx g n) x50 (nx g n p)).2)).2 := RS.same e311.2 (kp_sI rfl rfl) (kp_sI rfl rfl) (kp_sI rfl rfl) rfl rfl rfl rfl rfl
                  have a1 : mI (sI M292 22 13 ((mI M292 22 13) + 1)) 24 (2 * x50).toNat = mI M 22 12 := by have z := ((congrFun (kp_sI kp295 rfl) (2 * x50).toNat : mI (sI M292 22 13 ((mI M292 22 13) + 1)) 24 (2 * x50).toNat = _).trans ((h283 (2 * x50).toNat (by omega)).trans (congrFun kp249 (2 * x50).toNat))).trans h235; omega
                  exact ⟨_, rfl, hB316, kp313, kp314, kp315, by omega, by omega, by omega, fun _ => LAWC.law (B := M224) (S := M247) (w := x50) (by omega) (by omega) (by omega) hc0 kp241 (by omega) (by omega) (by first | omega | assumption) (h259 (by omega)) ((kp_sI kp294 rfl : mI (sI M292 22 13 ((mI M292 22 13) + 1)) 23 = _).trans kp272) (by omega) (by omega) a1 ((congrFun (kp_sI kp295 rfl) _).trans h282) (fun j j1 j2 => ((congrFun (kp_sI kp295 rfl) j : mI (sI M292 22 13 ((mI M292 22 13) + 1)) 24 j = _).trans ((h283 j (by omega)).trans (congrFun kp249 j))).trans ((h237 j j1).trans (congrFun kp218 j))), fun _ => ⟨Q25.of (M := M) (N := (sI M292 22 13 ((mI M292 22 13) + 1))) (w := x50) ⟨by omega, by omega⟩ (by omega) (by omega) (by have hz : ∀ i : Nat, (i : Int) = 5 * mI M 22 13 → mI (sI M292 22 13 ((mI M292 22 13) + 1)) 25 i = x50 := fun i hi => ((show mI (sI M292 22 13 ((mI M292 22 13) + 1)) 25 i = mI M292 25 i from rfl).trans ((congrFun kp296 i).trans ((congrFun kp273 i).trans ((congrFun kp250 i).trans ((congrFun kp227 i).trans (congrFun kp206 i)))))).trans (h193.1 i (by omega)); exact hz _ (by omega)) (Md := M) (Nd := M) (fun h5 => absurd h5 (by omega)) (fun h5 => absurd h5 (by omega)), fun i hi => ((show mI (sI M292 22 13 ((mI M292 22 13) + 1)) 25 i = mI M292 25 i from rfl).trans ((congrFun kp296 i).trans ((congrFun kp273 i).trans ((congrFun kp250 i).trans ((congrFun kp227 i).trans ((congrFun kp206 i).trans (h193.2 i (by omega))))))))⟩, fun _ => ⟨by rw [show tk g n p - 101 = x50 by omega]; exact ONr.law (A := mI M 24) hon (by omega) (by omega) (fun j hj => (h237 j hj).trans (congrFun kp218 j)) h238 kp249 (fun j hj => (congrFun (kp_sI kp295 rfl) j).trans (h283 j hj)), by omega⟩, (by unfold sClause; rw [if_neg (by omega), if_neg (fun hh => by have h1 := hh.1; have h2 := hh.2; rw [show tk g n p - 101 = x50 by omega] at h2; omega), if_neg (by omega), show tk g n p - 101 = x50 by omega, sB4 (by omega)]; exact CR.b_ok hL265 (by omega) (Or.inl ⟨rfl, e311.1, hR325⟩))⟩
                · refine vc_iconst dX4_readClause_141 rfl ?_
                  refine vc_zret dX4_readClause_142 rfl (by first | decide | omega) (Nat.le_of_ble_eq_true rfl) (Nat.le_of_ble_eq_true rfl) ?_
                  exact ⟨_, rfl, hB306, kp307, kp308, kp309, by omega, by omega, by omega, fun hr => absurd hr (by omega), fun hr => absurd hr (by omega), fun hr => absurd hr (by omega), (by unfold sClause; rw [if_neg (by omega), if_neg (fun hh => by have h1 := hh.1; have h2 := hh.2; rw [show tk g n p - 101 = x50 by omega] at h2; omega), if_neg (by omega), show tk g n p - 101 = x50 by omega, sB4 (by omega)]; exact CR.b_ok hL265 (by omega) (CR.cast h305.cr (by omega)))⟩
            · refine vc_aload_n dX4_readClause_67 rfl ?_
              refine vc_bipush dX4_readClause_68 rfl ?_
              refine vc_cVI dX4_readClause_70 (sfX4_failedF (M := M) hB0.1  g n p hR 6 ) rfl okX4_failed viX4_failed lkX4_122 (s_22 hB0.1.1) cl_4 rfl (Nat.le_of_ble_eq_true rfl) ⟨rfl, rfl⟩ (Nat.le_of_ble_eq_true rfl) (Nat.le_of_ble_eq_true rfl) (Nat.le_of_ble_eq_true rfl) ?_
              rintro x326 M327 ⟨hB328, kp329, kp330, kp331, kp332, kp333, kp334, h335, h336, h337, h338, h339, h340, h341⟩
              have hB342 : BF fQ M M327 := BF.go hB0 hB328
              have kp343 : mI M327 23 = mI M 23 := kp_go rfl kp329
              have kp344 : mI M327 24 = mI M 24 := kp_go rfl kp330
              have kp345 : mI M327 26 = mI M 26 := kp_go rfl kp332
              have kp346 : mI M327 27 = mI M 27 := kp_go rfl kp333
              have kp347 : mI M327 28 = mI M 28 := kp_go rfl kp334
              refine vc_zret dX4_readClause_73 rfl (by first | decide | omega) (Nat.le_of_ble_eq_true rfl) (Nat.le_of_ble_eq_true rfl) ?_
              exact ⟨_, rfl, hB342, kp345, kp346, kp347, by omega, by omega, by omega, fun hr => absurd hr (by omega), fun hr => absurd hr (by omega), fun hr => absurd hr (by omega), CRb (e := 6) (q := p) (by omega) h340 h341 (by omega) (by unfold sClause; rw [if_neg (by omega), if_neg (fun hh => by have h1 := hh.1; have h2 := hh.2; rw [show tk g n p - 101 = x50 by omega] at h2; omega), if_pos (by omega)])⟩
          · refine vc_aload_n dX4_readClause_52 rfl ?_
            refine vc_iconst dX4_readClause_53 rfl ?_
            refine vc_cVI dX4_readClause_54 (sfX4_failedF (M := M) hB0.1  g n p hR 4 ) rfl okX4_failed viX4_failed lkX4_122 (s_22 hB0.1.1) cl_4 rfl (Nat.le_of_ble_eq_true rfl) ⟨rfl, rfl⟩ (Nat.le_of_ble_eq_true rfl) (Nat.le_of_ble_eq_true rfl) (Nat.le_of_ble_eq_true rfl) ?_
            rintro x348 M349 ⟨hB350, kp351, kp352, kp353, kp354, kp355, kp356, h357, h358, h359, h360, h361, h362, h363⟩
            have hB364 : BF fQ M M349 := BF.go hB0 hB350
            have kp365 : mI M349 23 = mI M 23 := kp_go rfl kp351
            have kp366 : mI M349 24 = mI M 24 := kp_go rfl kp352
            have kp367 : mI M349 26 = mI M 26 := kp_go rfl kp354
            have kp368 : mI M349 27 = mI M 27 := kp_go rfl kp355
            have kp369 : mI M349 28 = mI M 28 := kp_go rfl kp356
            refine vc_zret dX4_readClause_57 rfl (by first | decide | omega) (Nat.le_of_ble_eq_true rfl) (Nat.le_of_ble_eq_true rfl) ?_
            exact ⟨_, rfl, hB364, kp367, kp368, kp369, by omega, by omega, by omega, fun hr => absurd hr (by omega), fun hr => absurd hr (by omega), fun hr => absurd hr (by omega), CRb (e := 4) (q := p) (by omega) h362 h363 (by omega) (by unfold sClause; rw [if_neg (by omega), if_pos ⟨by omega, by rw [show tk g n p - 101 = x50 by omega]; omega⟩])⟩
      · refine vc_aload_n dX4_readClause_24 rfl ?_
        refine vc_iconst dX4_readClause_25 rfl ?_
        refine vc_cVI dX4_readClause_26 (sfX4_failedF (M := M) hB0.1  g n p hR 1 ) rfl okX4_failed viX4_failed lkX4_122 (s_22 hB0.1.1) cl_4 rfl (Nat.le_of_ble_eq_true rfl) ⟨rfl, rfl⟩ (Nat.le_of_ble_eq_true rfl) (Nat.le_of_ble_eq_true rfl) (Nat.le_of_ble_eq_true rfl) ?_
        rintro x370 M371 ⟨hB372, kp373, kp374, kp375, kp376, kp377, kp378, h379, h380, h381, h382, h383, h384, h385⟩
        have hB386 : BF fQ M M371 := BF.go hB0 hB372
        have kp387 : mI M371 23 = mI M 23 := kp_go rfl kp373
        have kp388 : mI M371 24 = mI M 24 := kp_go rfl kp374
        have kp389 : mI M371 26 = mI M 26 := kp_go rfl kp376
        have kp390 : mI M371 27 = mI M 27 := kp_go rfl kp377
        have kp391 : mI M371 28 = mI M 28 := kp_go rfl kp378
        refine vc_zret dX4_readClause_29 rfl (by first | decide | omega) (Nat.le_of_ble_eq_true rfl) (Nat.le_of_ble_eq_true rfl) ?_
        exact ⟨_, rfl, hB386, kp389, kp390, kp391, by omega, by omega, by omega, fun hr => absurd hr (by omega), fun hr => absurd hr (by omega), fun hr => absurd hr (by omega), CRb (e := 1) (q := p) (by omega) h384 h385 (by omega) (by unfold sClause; rw [if_pos (by omega)])⟩

/-! the table of tokens -/
theorem wb_all : ∀ j : Nat, j < 193 → (wCh (Int32.ofInt j)).toInt = WB.getD j 0 := by decide +kernel
section VCW2
variable {l : Launch} {pc pc1 pc2 pc' : Nat} {L : List (Option AV)} {st : List AV} {M : Mem} {kc ks : Nat} {Q : Option AV → Mem → Prop}
theorem vc_wchrE {i : Int} (hd : At (mB mdX4_wordOf) pc (.ldc 107) 2 pc1) (hd2 : At (mB mdX4_wordOf) pc1 (.iload 5) 2 pc2) (hd3 : At (mB mdX4_wordOf) pc2 (.invokevirtual 115) 3 pc') (hi : L[5]? = some (some (aI i))) (g0 : 0 ≤ i) (g1 : i < 193) (h1 : kc ≤ mC mdX4_wordOf) (h2 : ks ≤ mS mdX4_wordOf) (hsum : (st.map catA).sum ≤ 8) (k : ∀ y : Int, y = WB.getD i.toNat 0 → VC l mdX4_wordOf pc' L (aI y :: st) M kc ks Q) : VC l mdX4_wordOf pc L st M kc ks Q := by
  intro p e s m args below meth c dC dI dA ad0 n0 A ad H locs ls C hA h0 hn hst hL hW hS hl
  obtain ⟨hd, rfl⟩ := hd
  obtain ⟨hd2, rfl⟩ := hd2
  obtain ⟨hd3, rfl⟩ := hd3
  obtain ⟨-, -, ⟨adK, adV, e3, e4⟩, e5, e6, -⟩ := C.2.2.2.2.2.2.2.2.2
  have hin : inI i := hL _ _ hi
  refine va_ldcS C.1 C.2.1 C.2.2.2.2.2.1 e4 hd ?_
  refine lv_iload (x := Int32.ofInt i) C.1 C.2.1 hd2 (lvL_at hl hi) ?_
  have hX : SX adK adV A s H := ⟨e3.kept hS.2.1, e5.kept hS.2.1, e6.kept hS.2.1⟩
  have b0 : ¬ Int32.ofInt i < 0 := fun h => by have := (oI_lt hin inI_0).mp h; omega
  have b1 : Int32.ofInt i < 193 := (oI_lt hin (⟨by decide, by decide⟩ : inI 193)).mpr g1
  refine sw_callV (D := mdX4_wordOf) (D' := mdJ0_charAt_5068e) (av := [.int (Int32.ofInt i)]) C.1 C.2.1 C.2.2.2.2.1 C.2.2.2.2.2.1 C.2.2.2.2.2.2.1 hX (vk_recv e3 (by decide) hS) rfl (sm_charAt b0 b1 (oI_in hin g0 g1)) okJ0_charAt_5068e viJ0_charAt_5068e lkX4_115 (Nat.le_of_ble_eq_true rfl) ⟨rfl, rfl⟩ ⟨h1, h2⟩ rfl hl.1 (rest := st.map (aV ad)) rfl (by rw [cat_sum]; omega) hd3 ?_
  have hy : (wCh (Int32.ofInt i)).toInt = WB.getD i.toNat 0 := by
    have q := wb_all i.toNat (by omega)
    rw [show ((i.toNat : Nat) : Int) = i by omega] at q
    exact q
  have k2 := k (wCh (Int32.ofInt i)).toInt hy p e s m args below meth c dC dI dA ad0 n0 A ad H locs ls C hA h0 hn (okS_cons.mpr ⟨inI_to _, hst⟩) hL hW hS hl
  simp only [List.map_cons, aV, oI_to] at k2
  exact k2
end VCW2
theorem wb_drop {i : Int} (h0 : 0 ≤ i) (h1 : i < 193) : WB.drop i.toNat = WB.getD i.toNat 0 :: WB.drop (i + 1).toNat := by
  have hl : i.toNat < WB.length := by show i.toNat < 193; omega
  rw [List.drop_eq_getElem_cons hl, show (i + 1).toNat = i.toNat + 1 by omega, List.getD_eq_getElem?_getD, List.getElem?_eq_getElem hl]
  rfl
def ps (g : Nat → Int) (n : Int) : Nat → Int
  | 0 => skb g n 0
  | j + 1 => nx g n (ps g n j)
/-- the table so far: c tokens, the next byte -/
def PT (g : Nat → Int) (n : Int) (A B C : Nat → Int) (c v : Int) : Prop := ps g n c.toNat = skb g n v ∧ ∀ j : Nat, (j : Int) < c → CT (A j) (B j) (tk g n (ps g n j)) ∧ C j = ps g n j
theorem skb_here {g : Nat → Int} {n q : Int} (h0 : 0 ≤ q) (h1 : q ≤ n) (h : n ≤ q ∨ (g q.toNat ≠ 32 ∧ g q.toNat ≠ 10)) : skb g n q = q := skb_eq h0 (Int.le_refl q) h1 (fun i a b => by omega) h
theorem skb_step {g : Nat → Int} {n q : Int} (h0 : 0 ≤ q) (h1 : q < n) (h : g q.toNat = 32 ∨ g q.toNat = 10) : skb g n q = skb g n (q + 1) := by
  have a := skb_rg (f := g) (n := n) (q := q + 1) (by omega) (by omega)
  refine skb_eq h0 (by omega) a.2 (fun i x y => ?_) ?_
  · by_cases e : (i : Int) = q
    · rw [show i = q.toNat by omega]; exact h
    · unfold skb at y
      have := skw_in tBl g n.toNat n.toNat (q + 1).toNat i (by omega) (by omega)
      simp only [tBl, Bool.or_eq_true, decide_eq_true_eq] at this
      exact this
  · unfold skb
    rcases skw_out tBl g n.toNat n.toNat (q + 1).toNat (by omega) with e | e
    · left; omega
    · right
      simp only [tBl, Bool.or_eq_false_iff, decide_eq_false_iff_not] at e
      exact e
theorem PT.blank {g : Nat → Int} {n : Int} {A B C : Nat → Int} {c v v2 : Int} (h : PT g n A B C c v) (h0 : 0 ≤ v) (h1 : v < n) (hb : g v.toNat = 32 ∨ g v.toNat = 10) (e : v2 = en g n v) : PT g n A B C c v2 := by
  refine ⟨?_, h.2⟩
  rw [h.1, skb_step h0 h1 hb, e, en_sign h0 (by omega) (by omega)]
theorem PT.add {g : Nat → Int} {n : Int} {A B C A2 B2 C2 : Nat → Int} {c v v2 : Int} (h : PT g n A B C c v) (hc : 0 ≤ c) (h0 : 0 ≤ v) (h1 : v < n) (hb : ¬ (g v.toNat = 32 ∨ g v.toNat = 10)) (e : v2 = en g n v) (hA : ∀ j : Nat, j ≠ c.toNat → A2 j = A j ∧ B2 j = B j) (hC : ∀ j : Nat, j ≠ c.toNat → C2 j = C j) (h3 : C2 c.toNat = v) (h4 : CT (A2 c.toNat) (B2 c.toNat) (tk g n v)) : PT g n A2 B2 C2 (c + 1) v2 := by
  have hv : ps g n c.toNat = v := by rw [h.1]; exact skb_here h0 (by omega) (Or.inr (by omega))
  refine ⟨?_, fun j hj => ?_⟩
  · rw [show (c + 1).toNat = c.toNat + 1 by omega]
    show nx g n (ps g n c.toNat) = _
    rw [hv, e]
    rfl
  · by_cases ej : j = c.toNat
    · subst ej
      rw [hv]
      exact ⟨h4, h3⟩
    · have q := h.2 j (by omega)
      rw [(hA j ej).1, (hA j ej).2, hC j ej]
      exact q
theorem PT.tab {g : Nat → Int} {n : Int} {A B C A2 C2 : Nat → Int} {c v : Int} (h : PT g n A B C c v) (hc : 0 ≤ c) (h0 : 0 ≤ v) (h1 : v = n) (hA : ∀ j : Nat, j ≠ c.toNat → A2 j = A j) (hA0 : A2 c.toNat = 0) (hC : ∀ j : Nat, j ≠ c.toNat → C2 j = C j) (hC0 : C2 c.toNat = n) (m : Nat) : Tab (tk g n) (nx g n) A2 B C2 m 0 (skb g n 0) := by
  have e0 : ps g n c.toNat = n := by rw [h.1, h1]; exact skb_here (by omega) (Int.le_refl n) (Or.inl (Int.le_refl n))
  refine tab_of (c := c.toNat) (ps := ps g n) (fun j _ => rfl) (fun j hj => ?_) ?_ c.toNat 0 m (by omega)
  · have q := h.2 j (by omega)
    rw [hA j (by omega), hC j (by omega)]
    exact q
  · rw [e0, hA0, hC0, tk_end (Int.le_refl n)]
    exact ⟨Or.inl ⟨rfl, rfl⟩, rfl, rfl⟩
theorem tk_TK {g : Nat → Int} {n : Int} (hb : byt g) : TK (tk g n) (nx g n) n := fun q h0 => ⟨fun h => ⟨tk_nz hb h0 h, nx_rg h0 h⟩, fun h => tk_end h⟩
theorem PT.new {g : Nat → Int} {n : Int} {A B C : Nat → Int} : PT g n A B C 0 0 := ⟨rfl, fun j hj => by omega⟩
theorem RS.new {g : Nat → Int} {n : Int} {M : Mem} (hb : byt g) (h0 : 0 ≤ n) (hn : n ≤ 300) (h : Tab (tk g n) (nx g n) (mI M 26) (mI M 27) (mI M 28) 301 0 (skb g n 0)) (e9 : mI M 22 9 = 0) (e10 : mI M 22 10 = mI M 26 0) (e11 : mI M 22 11 = mI M 27 0) (e7 : mI M 22 7 = 0) (e8 : mI M 22 8 = -1) : RS g n M (skb g n 0) := by
  have q := skb_rg (f := g) (n := n) (q := 0) (by decide) h0
  unfold RS
  rw [e9, e7, e8]
  exact ⟨Int.le_refl 0, by omega, q.2, hn, e10, e11, rfl, rfl, h, tk_TK hb⟩
/-- in the loop of the clauses -/
def TI (g : Nat → Int) (n : Int) (N : Mem) (r i : Int) (S : Int × Int) : Prop := (r = 1 ∧ ∃ q on, RS g n N q ∧ ONr (mI N 24) on ∧ mI N 22 13 = i ∧ S = sText (tk g n) (nx g n) (25 - i).toNat on i q) ∨ (r = 0 ∧ S.1 ≠ 0 ∧ mI N 22 7 = S.1 ∧ mI N 22 8 = S.2)
theorem TI.ok {g : Nat → Int} {n : Int} {N : Mem} {r i : Int} {S : Int × Int} (h : TI g n N r i S) (h0 : r ≠ 0) : ∃ q on, RS g n N q ∧ ONr (mI N 24) on ∧ mI N 22 13 = i ∧ S = sText (tk g n) (nx g n) (25 - i).toNat on i q := by
  rcases h with h | h
  · exact h.2
  · exact absurd h.1 h0
/-- the whole text -/
def TX (S : Int × Int) (r a b : Int) : Prop := (r = 1 ∧ S.1 = 0 ∧ a = 0 ∧ b = -1) ∨ (r = 0 ∧ S.1 ≠ 0 ∧ a = S.1 ∧ b = S.2)
theorem TI.nul {g : Nat → Int} {n : Int} {N : Mem} {r i : Int} {S : Int × Int} (h : TI g n N r i S) (h0 : r = 0) : TX S r (mI N 22 7) (mI N 22 8) := by
  rcases h with h | h
  · omega
  · exact Or.inr h
theorem TI.end {g : Nat → Int} {n : Int} {N : Mem} {r i : Int} {S : Int × Int} (h : TI g n N r i S) (h0 : 25 ≤ i) : TX S r (mI N 22 7) (mI N 22 8) := by
  rcases h with ⟨a, q, on, b, c, d, e⟩ | h
  · rw [show (25 - i).toNat = 0 by omega] at e
    have f := b.rg
    rw [e]
    exact Or.inl ⟨a, rfl, f.2.2.2.2.1, f.2.2.2.2.2.1⟩
  · exact Or.inr h
theorem TI.fin {g : Nat → Int} {n : Int} {N : Mem} {r q i c : Int} {on : Int → Int} {m : Nat} {S : Int × Int} (hr : r = 1) (b : RS g n N q) (e : S = sText (tk g n) (nx g n) m on c q) (hk : tk g n q = 0) : TX S r (mI N 22 7) (mI N 22 8) := by
  have f := b.rg
  have e2 : S = (0, q) := by
    rw [e]
    cases m with
    | zero => rfl
    | succ m => unfold sText; rw [if_pos hk]
  rw [e2]
  exact Or.inl ⟨hr, rfl, f.2.2.2.2.1, f.2.2.2.2.2.1⟩
theorem TI.next {g : Nat → Int} {n : Int} {N : Mem} {r q i : Int} {on : Int → Int} {S : Int × Int} (e : S = sText (tk g n) (nx g n) (25 - i).toNat on i q) (hi : i ≤ 24) (hk : tk g n q ≠ 0) (h : CR g n N r (sClause (tk g n) (nx g n) on i q)) (ho : r = 1 → ONr (mI N 24) (onA on (tk g n q - 101)) ∧ mI N 22 13 = i + 1) : TI g n N r (i + 1) S := by
  rw [show (25 - i).toNat = (25 - (i + 1)).toNat + 1 by omega, sText.eq_2, if_neg hk] at e
  rcases h with ⟨a, b, c⟩ | ⟨a, b, c⟩
  · rw [sBind_ok b] at e
    exact Or.inl ⟨a, _, _, c, (ho a).1, (ho a).2, e⟩
  · rw [sBind_bad b] at e
    rw [e]
    exact Or.inr ⟨a, b, c⟩
theorem wGo_cast {f : Nat → Int} {a e : Int} {L : List Int} {w w2 l l2 S : Int} (e1 : w2 = w) (e2 : l2 = l) (h : wGo f a e L w l = S) : wGo f a e L w2 l2 = S := by
  rw [e1, e2]; exact h

set_option maxRecDepth 4000 in
theorem sfX4_endOfTokenF {l : Launch} {M : Mem} (hB : Box M)  (f : Int) (le : Int) (p0 : 0 ≤ f) (p1 : f ≤ 299) (p2 : 1 ≤ le) (p3 : le ≤ 300) (p4 : f < le) : Call l mdX4_endOfToken [aR 22, aI f, aI le] M (fun q N => ∃ r : Int, q = some (aI r) ∧ M = N ∧ 1 ≤ r ∧ r ≤ 300 ∧ f < r ∧ r ≤ le ∧ r = en (mI M 21) le f) := by
  have hB0 : BF fQ M M := BF.start hB
  refine Call.of [some (aR 22), some (aI f), some (aI le), none] rfl (Nat.le_of_ble_eq_true rfl) rfl ?_
  refine vc_iload_n dX4_endOfToken_0 rfl ?_
  refine vc_iconst dX4_endOfToken_1 rfl ?_
  refine vc_iaddE dX4_endOfToken_2 (by omega) (by omega) ?_
  refine vc_nameI (fun x1 ex1 => ?_)
  refine vc_istore_n dX4_endOfToken_3 (by decide) rfl (show _ = [some (aR 22), some (aI f), some (aI le), some (aI x1)] from rfl) ?_
  refine vc_aload_n dX4_endOfToken_4 rfl ?_
  refine vc_getR dX4_endOfToken_5 flX4_9 (s_22 hB0.1.1) rfl (r_22_0 hB0.1.1) ?_
  refine vc_iload_n dX4_endOfToken_8 rfl ?_
  refine vc_iaload dX4_endOfToken_9 (s_21 hB0.1.1) (by omega) (by omega) ?_
  refine vc_cSI dX4_endOfToken_10 (sfX4_isLetterF (M := M) hB0.1  (mI M 21 f.toNat) ) rfl okX4_isLetter stX4_isLetter lkX4_95 rfl (Nat.le_of_ble_eq_true rfl) ⟨rfl, rfl⟩ (Nat.le_of_ble_eq_true rfl) (Nat.le_of_ble_eq_true rfl) (Nat.le_of_ble_eq_true rfl) ?_
  rintro x2 _ ⟨rfl, h3, h4, h5⟩
  refine vc_if_eq dX4_endOfToken_13 (fun h6 => ?_) (fun h6 => ?_)
  · refine vc_aload_n dX4_endOfToken_39 rfl ?_
    refine vc_getR dX4_endOfToken_40 flX4_9 (s_22 hB0.1.1) rfl (r_22_0 hB0.1.1) ?_
    refine vc_iload_n dX4_endOfToken_43 rfl ?_
    refine vc_iaload dX4_endOfToken_44 (s_21 hB0.1.1) (by omega) (by omega) ?_
    refine vc_cSI dX4_endOfToken_45 (sfX4_isDigitF (M := M) hB0.1  (mI M 21 f.toNat) ) rfl okX4_isDigit stX4_isDigit lkX4_98 rfl (Nat.le_of_ble_eq_true rfl) ⟨rfl, rfl⟩ (Nat.le_of_ble_eq_true rfl) (Nat.le_of_ble_eq_true rfl) (Nat.le_of_ble_eq_true rfl) ?_
    rintro x7 _ ⟨rfl, h8, h9, h10⟩
    refine vc_if_eq dX4_endOfToken_48 (fun h11 => ?_) (fun h11 => ?_)
    · refine vc_iload_n dX4_endOfToken_74 rfl ?_
      refine vc_iret dX4_endOfToken_75 rfl (Nat.le_of_ble_eq_true rfl) (Nat.le_of_ble_eq_true rfl) ?_
      exact ⟨_, rfl, rfl, by omega, by omega, by omega, by omega, by first | exact (en_let (by omega) (by omega) (by omega) (by omega) g16i0 (by omega)).symm | exact (en_dig (by omega) (by omega) (by omega) (by omega) g51i0 (by omega)).symm | (rw [en_sign (by omega) (by omega) (by omega)]; omega)⟩
    · have lp51 : ∀ (n51 : Nat) (v3 : Int), (f + 1 ≤ v3) → (v3 ≤ le) → (∀ i : Nat, f < i → (i : Int) < v3 → 48 ≤ mI M 21 i ∧ mI M 21 i ≤ 57) → (le - v3).toNat < n51 → VC l mdX4_endOfToken 51 [some (aR 22), none, some (aI le), some (aI v3)] [] M 0 0 (fun q N => ∃ r : Int, q = some (aI r) ∧ M = N ∧ 1 ≤ r ∧ r ≤ 300 ∧ f < r ∧ r ≤ le ∧ r = en (mI M 21) le f) := by
        intro n51
        induction n51 with
        | zero => intro v3 g51_3a g51_3b g51i0 hm51; exact absurd hm51 (Nat.not_lt_zero _)
        | succ n51 ih51 =>
          intro v3 g51_3a g51_3b g51i0 hm51
          refine vc_iload_n dX4_endOfToken_51 rfl ?_
          refine vc_iload_n dX4_endOfToken_52 rfl ?_
          refine vc_icmp_ge dX4_endOfToken_53 (fun h12 => ?_) (fun h12 => ?_)
          · refine vc_iload_n dX4_endOfToken_74 rfl ?_
            refine vc_iret dX4_endOfToken_75 rfl (Nat.le_of_ble_eq_true rfl) (Nat.le_of_ble_eq_true rfl) ?_
            exact ⟨_, rfl, rfl, by omega, by omega, by omega, by omega, by first | exact (en_let (by omega) (by omega) (by omega) (by omega) g16i0 (by omega)).symm | exact (en_dig (by omega) (by omega) (by omega) (by omega) g51i0 (by omega)).symm | (rw [en_sign (by omega) (by omega) (by omega)]; omega)⟩
          · refine vc_aload_n dX4_endOfToken_56 rfl ?_
            refine vc_getR dX4_endOfToken_57 flX4_9 (s_22 hB0.1.1) rfl (r_22_0 hB0.1.1) ?_
            refine vc_iload_n dX4_endOfToken_60 rfl ?_
            refine vc_iaload dX4_endOfToken_61 (s_21 hB0.1.1) (by omega) (by omega) ?_
            refine vc_cSI dX4_endOfToken_62 (sfX4_isDigitF (M := M) hB0.1  (mI M 21 v3.toNat) ) rfl okX4_isDigit stX4_isDigit lkX4_98 rfl (Nat.le_of_ble_eq_true rfl) ⟨rfl, rfl⟩ (Nat.le_of_ble_eq_true rfl) (Nat.le_of_ble_eq_true rfl) (Nat.le_of_ble_eq_true rfl) ?_
            rintro x13 _ ⟨rfl, h14, h15, h16⟩
            refine vc_if_eq dX4_endOfToken_65 (fun h17 => ?_) (fun h17 => ?_)
            · refine vc_iload_n dX4_endOfToken_74 rfl ?_
              refine vc_iret dX4_endOfToken_75 rfl (Nat.le_of_ble_eq_true rfl) (Nat.le_of_ble_eq_true rfl) ?_
              exact ⟨_, rfl, rfl, by omega, by omega, by omega, by omega, by first | exact (en_let (by omega) (by omega) (by omega) (by omega) g16i0 (by omega)).symm | exact (en_dig (by omega) (by omega) (by omega) (by omega) g51i0 (by omega)).symm | (rw [en_sign (by omega) (by omega) (by omega)]; omega)⟩
            · refine vc_iincE dX4_endOfToken_68 rfl (by omega) (by omega) (by decide) rfl (show _ = [some (aR 22), none, some (aI le), some (aI (v3 + 1))] from rfl) ?_
              refine vc_goto dX4_endOfToken_71 ?_
              exact ih51 (v3 + 1) (by omega) (by omega) (by first | (intro i a b; exfalso; omega) | (intro i a b; by_cases e : (i : Int) = v3; (rw [show i = v3.toNat by omega]; omega); (exact g51i0 i a (by omega)))) (by omega)
      refine vc_less [some (aR 22), none, some (aI le), some (aI x1)] (lessL_keep (lessL_drop (lessL_keep (lessL_keep (lessL_nil))))) ?_
      exact lp51 _ x1 (by omega) (by omega) (by first | (intro i a b; exfalso; omega) | (intro i a b; by_cases e : (i : Int) = v3; (rw [show i = v3.toNat by omega]; omega); (exact g51i0 i a (by omega)))) (Nat.lt_succ_self _)
  · have lp16 : ∀ (n16 : Nat) (v3 : Int), (f + 1 ≤ v3) → (v3 ≤ le) → (∀ i : Nat, f < i → (i : Int) < v3 → (97 ≤ mI M 21 i ∧ mI M 21 i ≤ 122) ∨ (65 ≤ mI M 21 i ∧ mI M 21 i ≤ 90)) → (le - v3).toNat < n16 → VC l mdX4_endOfToken 16 [some (aR 22), none, some (aI le), some (aI v3)] [] M 0 0 (fun q N => ∃ r : Int, q = some (aI r) ∧ M = N ∧ 1 ≤ r ∧ r ≤ 300 ∧ f < r ∧ r ≤ le ∧ r = en (mI M 21) le f) := by
      intro n16
      induction n16 with
      | zero => intro v3 g16_3a g16_3b g16i0 hm16; exact absurd hm16 (Nat.not_lt_zero _)
      | succ n16 ih16 =>
        intro v3 g16_3a g16_3b g16i0 hm16
        refine vc_iload_n dX4_endOfToken_16 rfl ?_
        refine vc_iload_n dX4_endOfToken_17 rfl ?_
        refine vc_icmp_ge dX4_endOfToken_18 (fun h18 => ?_) (fun h18 => ?_)
        · refine vc_iload_n dX4_endOfToken_74 rfl ?_
          refine vc_iret dX4_endOfToken_75 rfl (Nat.le_of_ble_eq_true rfl) (Nat.le_of_ble_eq_true rfl) ?_
          exact ⟨_, rfl, rfl, by omega, by omega, by omega, by omega, by first | exact (en_let (by omega) (by omega) (by omega) (by omega) g16i0 (by omega)).symm | exact (en_dig (by omega) (by omega) (by omega) (by omega) g51i0 (by omega)).symm | (rw [en_sign (by omega) (by omega) (by omega)]; omega)⟩
        · refine vc_aload_n dX4_endOfToken_21 rfl ?_
          refine vc_getR dX4_endOfToken_22 flX4_9 (s_22 hB0.1.1) rfl (r_22_0 hB0.1.1) ?_
          refine vc_iload_n dX4_endOfToken_25 rfl ?_
          refine vc_iaload dX4_endOfToken_26 (s_21 hB0.1.1) (by omega) (by omega) ?_
          refine vc_cSI dX4_endOfToken_27 (sfX4_isLetterF (M := M) hB0.1  (mI M 21 v3.toNat) ) rfl okX4_isLetter stX4_isLetter lkX4_95 rfl (Nat.le_of_ble_eq_true rfl) ⟨rfl, rfl⟩ (Nat.le_of_ble_eq_true rfl) (Nat.le_of_ble_eq_true rfl) (Nat.le_of_ble_eq_true rfl) ?_
          rintro x19 _ ⟨rfl, h20, h21, h22⟩
          refine vc_if_eq dX4_endOfToken_30 (fun h23 => ?_) (fun h23 => ?_)
          · refine vc_iload_n dX4_endOfToken_74 rfl ?_
            refine vc_iret dX4_endOfToken_75 rfl (Nat.le_of_ble_eq_true rfl) (Nat.le_of_ble_eq_true rfl) ?_
            exact ⟨_, rfl, rfl, by omega, by omega, by omega, by omega, by first | exact (en_let (by omega) (by omega) (by omega) (by omega) g16i0 (by omega)).symm | exact (en_dig (by omega) (by omega) (by omega) (by omega) g51i0 (by omega)).symm | (rw [en_sign (by omega) (by omega) (by omega)]; omega)⟩
          · refine vc_iincE dX4_endOfToken_33 rfl (by omega) (by omega) (by decide) rfl (show _ = [some (aR 22), none, some (aI le), some (aI (v3 + 1))] from rfl) ?_
            refine vc_goto dX4_endOfToken_36 ?_
            exact ih16 (v3 + 1) (by omega) (by omega) (by first | (intro i a b; exfalso; omega) | (intro i a b; by_cases e : (i : Int) = v3; (rw [show i = v3.toNat by omega]; omega); (exact g16i0 i a (by omega)))) (by omega)
    refine vc_less [some (aR 22), none, some (aI le), some (aI x1)] (lessL_keep (lessL_drop (lessL_keep (lessL_keep (lessL_nil))))) ?_
    exact lp16 _ x1 (by omega) (by omega) (by first | (intro i a b; exfalso; omega) | (intro i a b; by_cases e : (i : Int) = v3; (rw [show i = v3.toNat by omega]; omega); (exact g16i0 i a (by omega)))) (Nat.lt_succ_self _)

set_option maxRecDepth 4000 in
theorem sfX4_numberOfF {l : Launch} {M : Mem} (hB : Box M)  (f : Int) (t : Int) (p0 : 0 ≤ f) (p1 : f ≤ 300) (p2 : 0 ≤ t) (p3 : t ≤ 300) (p4 : ∀ i : Nat, f ≤ i → (i : Int) < t → 48 ≤ mI M 21 i ∧ mI M 21 i ≤ 57) (p5 : f ≤ t) : Call l mdX4_numberOf [aR 22, aI f, aI t] M (fun q N => ∃ r : Int, q = some (aI r) ∧ M = N ∧ 0 ≤ r ∧ r ≤ 10000 ∧ r = nuC (mI M 21) (t - f).toNat f.toNat 0) := by
  have hB0 : BF fQ M M := BF.start hB
  refine Call.of [some (aR 22), some (aI f), some (aI t), none, none] rfl (Nat.le_of_ble_eq_true rfl) rfl ?_
  refine vc_iconst dX4_numberOf_0 rfl ?_
  refine vc_istore_n dX4_numberOf_1 (by decide) rfl (show _ = [some (aR 22), some (aI f), some (aI t), some (aI 0), none] from rfl) ?_
  refine vc_iload_n dX4_numberOf_2 rfl ?_
  refine vc_istore dX4_numberOf_3 (by decide) rfl (show _ = [some (aR 22), some (aI f), some (aI t), some (aI 0), some (aI f)] from rfl) ?_
  have lp5 : ∀ (n5 : Nat) (v3 : Int) (v4 : Int), (0 ≤ v3) → (v3 ≤ 10000) → (f ≤ v4) → (v4 ≤ t) → (v3 = nuC (mI M 21) (v4 - f).toNat f.toNat 0) → (t - v4).toNat < n5 → VC l mdX4_numberOf 5 [some (aR 22), none, some (aI t), some (aI v3), some (aI v4)] [] M 0 0 (fun q N => ∃ r : Int, q = some (aI r) ∧ M = N ∧ 0 ≤ r ∧ r ≤ 10000 ∧ r = nuC (mI M 21) (t - f).toNat f.toNat 0) := by
    intro n5
    induction n5 with
    | zero => intro v3 v4 g5_3a g5_3b g5_4a g5_4b g5i0 hm5; exact absurd hm5 (Nat.not_lt_zero _)
    | succ n5 ih5 =>
      intro v3 v4 g5_3a g5_3b g5_4a g5_4b g5i0 hm5
      refine vc_iload dX4_numberOf_5 rfl ?_
      refine vc_iload_n dX4_numberOf_7 rfl ?_
      refine vc_icmp_ge dX4_numberOf_8 (fun h1 => ?_) (fun h1 => ?_)
      · refine vc_iload_n dX4_numberOf_39 rfl ?_
        refine vc_iret dX4_numberOf_40 rfl (Nat.le_of_ble_eq_true rfl) (Nat.le_of_ble_eq_true rfl) ?_
        exact ⟨_, rfl, rfl, by omega, by omega, by rw [g5i0, show v4 = t by omega]⟩
      · have hdg := p4 v4.toNat (by omega) (by omega)
        refine vc_sipush dX4_numberOf_11 rfl ?_
        refine vc_bipush dX4_numberOf_14 rfl ?_
        refine vc_iload_n dX4_numberOf_16 rfl ?_
        refine vc_imulE dX4_numberOf_17 (by omega) (by omega) ?_
        refine vc_aload_n dX4_numberOf_18 rfl ?_
        refine vc_getR dX4_numberOf_19 flX4_9 (s_22 hB0.1.1) rfl (r_22_0 hB0.1.1) ?_
        refine vc_iload dX4_numberOf_22 rfl ?_
        refine vc_iaload dX4_numberOf_24 (s_21 hB0.1.1) (by omega) (by omega) ?_
        refine vc_iaddE dX4_numberOf_25 (by omega) (by omega) ?_
        refine vc_bipush dX4_numberOf_26 rfl ?_
        refine vc_isubE dX4_numberOf_28 (by omega) (by omega) ?_
        refine vc_mminI dX4_numberOf_29 lkX4_33 (Nat.le_of_ble_eq_true rfl) (Nat.le_of_ble_eq_true rfl) (Nat.le_of_ble_eq_true rfl) ?_
        have k2 := minZ_bd 10000 (((10 * v3) + (mI M 21 v4.toNat)) - 48)
        refine vc_nameI (fun x3 ex3 => ?_)
        refine vc_istore_n dX4_numberOf_32 (by decide) rfl (show _ = [some (aR 22), none, some (aI t), some (aI x3), some (aI v4)] from rfl) ?_
        refine vc_iincE dX4_numberOf_33 rfl (by omega) (by omega) (by decide) rfl (show _ = [some (aR 22), none, some (aI t), some (aI x3), some (aI (v4 + 1))] from rfl) ?_
        refine vc_goto dX4_numberOf_36 ?_
        exact ih5 x3 (v4 + 1) (by omega) (by omega) (by omega) (by omega) (by first | (rw [Int.sub_self]; rfl) | (rw [show (v4 + 1 - f).toNat = (v4 - f).toNat + 1 by omega, nuC_snoc, show f.toNat + (v4 - f).toNat = v4.toNat by omega, ← g5i0]; split <;> omega)) (by omega)
  refine vc_less [some (aR 22), none, some (aI t), some (aI 0), some (aI f)] (lessL_keep (lessL_drop (lessL_keep (lessL_keep (lessL_keep (lessL_nil)))))) ?_
  exact lp5 _ 0 f (by omega) (by omega) (by omega) (by omega) (by first | (rw [Int.sub_self]; rfl) | (rw [show (v4 + 1 - f).toNat = (v4 - f).toNat + 1 by omega, nuC_snoc, show f.toNat + (v4 - f).toNat = v4.toNat by omega, ← g5i0]; split <;> omega)) (Nat.lt_succ_self _)

set_option maxRecDepth 4000 in
theorem sfX4_wordOfF {l : Launch} {M : Mem} (hB : Box M)  (f : Int) (t : Int) (p0 : 0 ≤ f) (p1 : f ≤ 300) (p2 : 0 ≤ t) (p3 : t ≤ 300) : Call l mdX4_wordOf [aR 22, aI f, aI t] M (fun q N => ∃ r : Int, q = some (aI r) ∧ M = N ∧ r = wGo (mI M 21) f t WB 0 f) := by
  have hB0 : BF fQ M M := BF.start hB
  refine Call.of [some (aR 22), some (aI f), some (aI t), none, none, none, none] rfl (Nat.le_of_ble_eq_true rfl) rfl ?_
  refine vc_iconst dX4_wordOf_0 rfl ?_
  refine vc_istore_n dX4_wordOf_1 (by decide) rfl (show _ = [some (aR 22), some (aI f), some (aI t), some (aI 0), none, none, none] from rfl) ?_
  refine vc_iload_n dX4_wordOf_2 rfl ?_
  refine vc_istore dX4_wordOf_3 (by decide) rfl (show _ = [some (aR 22), some (aI f), some (aI t), some (aI 0), some (aI f), none, none] from rfl) ?_
  refine vc_iconst dX4_wordOf_5 rfl ?_
  refine vc_istore dX4_wordOf_6 (by decide) rfl (show _ = [some (aR 22), some (aI f), some (aI t), some (aI 0), some (aI f), some (aI 0), none] from rfl) ?_
  have lp8 : ∀ (n8 : Nat) (v3 : Int) (v4 : Int) (v5 : Int), (0 ≤ v3) → (v3 ≤ v5) → ((-1) ≤ v4) → (v4 ≤ 300) → (0 ≤ v5) → (v5 ≤ 193) → (wGo (mI M 21) f t (WB.drop v5.toNat) v3 v4 = wGo (mI M 21) f t WB 0 f) → (193 - v5).toNat < n8 → VC l mdX4_wordOf 8 [some (aR 22), some (aI f), some (aI t), some (aI v3), some (aI v4), some (aI v5), none] [] M 0 0 (fun q N => ∃ r : Int, q = some (aI r) ∧ M = N ∧ r = wGo (mI M 21) f t WB 0 f) := by
    intro n8
    induction n8 with
    | zero => intro v3 v4 v5 g8_3a g8_3b g8_4a g8_4b g8_5a g8_5b g8i0 hm8; exact absurd hm8 (Nat.not_lt_zero _)
    | succ n8 ih8 =>
      intro v3 v4 v5 g8_3a g8_3b g8_4a g8_4b g8_5a g8_5b g8i0 hm8
      refine vc_iload dX4_wordOf_8 rfl ?_
      refine vc_wlen dX4_wordOf_10 dX4_wordOf_12 (Nat.le_of_ble_eq_true rfl) (Nat.le_of_ble_eq_true rfl) (Nat.le_of_ble_eq_true rfl) ?_
      refine vc_icmp_ge dX4_wordOf_15 (fun h1 => ?_) (fun h1 => ?_)
      · refine vc_iconst dX4_wordOf_91 rfl ?_
        refine vc_iret dX4_wordOf_92 rfl (Nat.le_of_ble_eq_true rfl) (Nat.le_of_ble_eq_true rfl) ?_
        exact ⟨_, rfl, rfl, by first | (rw [show v5.toNat = 193 + (v5.toNat - 193) by omega, ← List.drop_drop] at g8i0; rw [show WB.drop 193 = [] from rfl, List.drop_nil] at g8i0; exact g8i0) | (rw [if_pos (by omega), if_pos (by omega)] at g8i0; exact g8i0)⟩
      · refine vc_wchrE dX4_wordOf_18 dX4_wordOf_20 dX4_wordOf_22 rfl (by omega) (by omega) (Nat.le_of_ble_eq_true rfl) (Nat.le_of_ble_eq_true rfl) (Nat.le_of_ble_eq_true rfl) (fun x2 hx2 => ?_)
        rw [wb_drop (by omega) (by omega), ← hx2, wGo] at g8i0
        refine vc_istore dX4_wordOf_25 (by decide) rfl (show _ = [some (aR 22), some (aI f), some (aI t), some (aI v3), some (aI v4), some (aI v5), some (aI x2)] from rfl) ?_
        refine vc_iload dX4_wordOf_27 rfl ?_
        refine vc_bipush dX4_wordOf_29 rfl ?_
        refine vc_icmp_ne dX4_wordOf_31 (fun h3 => ?_) (fun h3 => ?_)
        · refine vc_iload dX4_wordOf_51 rfl ?_
          refine vc_iconst dX4_wordOf_53 rfl ?_
          refine vc_icmp_eq dX4_wordOf_54 (fun h4 => ?_) (fun h4 => ?_)
          · refine vc_iincE dX4_wordOf_85 rfl (by omega) (by omega) (by decide) rfl (show _ = [some (aR 22), some (aI f), some (aI t), some (aI v3), some (aI v4), some (aI (v5 + 1)), some (aI x2)] from rfl) ?_
            refine vc_goto dX4_wordOf_88 ?_
            refine vc_less [some (aR 22), some (aI f), some (aI t), some (aI v3), some (aI v4), some (aI (v5 + 1)), none] (lessL_keep (lessL_keep (lessL_keep (lessL_keep (lessL_keep (lessL_keep (lessL_drop (lessL_nil)))))))) ?_
            exact ih8 v3 v4 (v5 + 1) (by omega) (by omega) (by omega) (by omega) (by omega) (by omega) (by first | rfl | (rw [if_pos (by omega), if_neg (by omega)] at g8i0; exact wGo_cast (by omega) (by omega) g8i0) | (rw [if_neg (by omega), if_pos (by omega)] at g8i0; exact wGo_cast (by omega) (by omega) g8i0) | (rw [if_neg (by omega), if_neg (by omega), if_pos ⟨by omega, by omega⟩] at g8i0; exact wGo_cast (by omega) (by omega) g8i0) | (rw [if_neg (by omega), if_neg (by omega), if_neg (by omega)] at g8i0; exact wGo_cast (by omega) (by omega) g8i0)) (by omega)
          · refine vc_iload dX4_wordOf_57 rfl ?_
            refine vc_iload_n dX4_wordOf_59 rfl ?_
            refine vc_icmp_ge dX4_wordOf_60 (fun h5 => ?_) (fun h5 => ?_)
            · refine vc_iconst dX4_wordOf_82 rfl ?_
              refine vc_istore dX4_wordOf_83 (by decide) rfl (show _ = [some (aR 22), some (aI f), some (aI t), some (aI v3), some (aI (-1)), some (aI v5), some (aI x2)] from rfl) ?_
              refine vc_iincE dX4_wordOf_85 rfl (by omega) (by omega) (by decide) rfl (show _ = [some (aR 22), some (aI f), some (aI t), some (aI v3), some (aI (-1)), some (aI (v5 + 1)), some (aI x2)] from rfl) ?_
              refine vc_goto dX4_wordOf_88 ?_
              refine vc_less [some (aR 22), some (aI f), some (aI t), some (aI v3), some (aI (-1)), some (aI (v5 + 1)), none] (lessL_keep (lessL_keep (lessL_keep (lessL_keep (lessL_keep (lessL_keep (lessL_drop (lessL_nil)))))))) ?_
              exact ih8 v3 (-1) (v5 + 1) (by omega) (by omega) (by omega) (by omega) (by omega) (by omega) (by first | rfl | (rw [if_pos (by omega), if_neg (by omega)] at g8i0; exact wGo_cast (by omega) (by omega) g8i0) | (rw [if_neg (by omega), if_pos (by omega)] at g8i0; exact wGo_cast (by omega) (by omega) g8i0) | (rw [if_neg (by omega), if_neg (by omega), if_pos ⟨by omega, by omega⟩] at g8i0; exact wGo_cast (by omega) (by omega) g8i0) | (rw [if_neg (by omega), if_neg (by omega), if_neg (by omega)] at g8i0; exact wGo_cast (by omega) (by omega) g8i0)) (by omega)
            · refine vc_aload_n dX4_wordOf_63 rfl ?_
              refine vc_getR dX4_wordOf_64 flX4_9 (s_22 hB0.1.1) rfl (r_22_0 hB0.1.1) ?_
              refine vc_iload dX4_wordOf_67 rfl ?_
              refine vc_iaload dX4_wordOf_69 (s_21 hB0.1.1) (by omega) (by omega) ?_
              refine vc_iload dX4_wordOf_70 rfl ?_
              refine vc_icmp_ne dX4_wordOf_72 (fun h6 => ?_) (fun h6 => ?_)
              · refine vc_iconst dX4_wordOf_82 rfl ?_
                refine vc_istore dX4_wordOf_83 (by decide) rfl (show _ = [some (aR 22), some (aI f), some (aI t), some (aI v3), some (aI (-1)), some (aI v5), some (aI x2)] from rfl) ?_
                refine vc_iincE dX4_wordOf_85 rfl (by omega) (by omega) (by decide) rfl (show _ = [some (aR 22), some (aI f), some (aI t), some (aI v3), some (aI (-1)), some (aI (v5 + 1)), some (aI x2)] from rfl) ?_
                refine vc_goto dX4_wordOf_88 ?_
                refine vc_less [some (aR 22), some (aI f), some (aI t), some (aI v3), some (aI (-1)), some (aI (v5 + 1)), none] (lessL_keep (lessL_keep (lessL_keep (lessL_keep (lessL_keep (lessL_keep (lessL_drop (lessL_nil)))))))) ?_
                exact ih8 v3 (-1) (v5 + 1) (by omega) (by omega) (by omega) (by omega) (by omega) (by omega) (by first | rfl | (rw [if_pos (by omega), if_neg (by omega)] at g8i0; exact wGo_cast (by omega) (by omega) g8i0) | (rw [if_neg (by omega), if_pos (by omega)] at g8i0; exact wGo_cast (by omega) (by omega) g8i0) | (rw [if_neg (by omega), if_neg (by omega), if_pos ⟨by omega, by omega⟩] at g8i0; exact wGo_cast (by omega) (by omega) g8i0) | (rw [if_neg (by omega), if_neg (by omega), if_neg (by omega)] at g8i0; exact wGo_cast (by omega) (by omega) g8i0)) (by omega)
              · refine vc_iload dX4_wordOf_75 rfl ?_
                refine vc_iconst dX4_wordOf_77 rfl ?_
                refine vc_iaddE dX4_wordOf_78 (by omega) (by omega) ?_
                refine vc_goto dX4_wordOf_79 ?_
                refine vc_nameI (fun x7 ex7 => ?_)
                refine vc_istore dX4_wordOf_83 (by decide) rfl (show _ = [some (aR 22), some (aI f), some (aI t), some (aI v3), some (aI x7), some (aI v5), some (aI x2)] from rfl) ?_
                refine vc_iincE dX4_wordOf_85 rfl (by omega) (by omega) (by decide) rfl (show _ = [some (aR 22), some (aI f), some (aI t), some (aI v3), some (aI x7), some (aI (v5 + 1)), some (aI x2)] from rfl) ?_
                refine vc_goto dX4_wordOf_88 ?_
                refine vc_less [some (aR 22), some (aI f), some (aI t), some (aI v3), some (aI x7), some (aI (v5 + 1)), none] (lessL_keep (lessL_keep (lessL_keep (lessL_keep (lessL_keep (lessL_keep (lessL_drop (lessL_nil)))))))) ?_
                exact ih8 v3 x7 (v5 + 1) (by omega) (by omega) (by omega) (by omega) (by omega) (by omega) (by first | rfl | (rw [if_pos (by omega), if_neg (by omega)] at g8i0; exact wGo_cast (by omega) (by omega) g8i0) | (rw [if_neg (by omega), if_pos (by omega)] at g8i0; exact wGo_cast (by omega) (by omega) g8i0) | (rw [if_neg (by omega), if_neg (by omega), if_pos ⟨by omega, by omega⟩] at g8i0; exact wGo_cast (by omega) (by omega) g8i0) | (rw [if_neg (by omega), if_neg (by omega), if_neg (by omega)] at g8i0; exact wGo_cast (by omega) (by omega) g8i0)) (by omega)
        · refine vc_iload dX4_wordOf_34 rfl ?_
          refine vc_iload_n dX4_wordOf_36 rfl ?_
          refine vc_icmp_ne dX4_wordOf_37 (fun h8 => ?_) (fun h8 => ?_)
          · refine vc_iincE dX4_wordOf_42 rfl (by omega) (by omega) (by decide) rfl (show _ = [some (aR 22), some (aI f), some (aI t), some (aI (v3 + 1)), some (aI v4), some (aI v5), some (aI x2)] from rfl) ?_
            refine vc_iload_n dX4_wordOf_45 rfl ?_
            refine vc_istore dX4_wordOf_46 (by decide) rfl (show _ = [some (aR 22), some (aI f), some (aI t), some (aI (v3 + 1)), some (aI f), some (aI v5), some (aI x2)] from rfl) ?_
            refine vc_goto dX4_wordOf_48 ?_
            refine vc_iincE dX4_wordOf_85 rfl (by omega) (by omega) (by decide) rfl (show _ = [some (aR 22), some (aI f), some (aI t), some (aI (v3 + 1)), some (aI f), some (aI (v5 + 1)), some (aI x2)] from rfl) ?_
            refine vc_goto dX4_wordOf_88 ?_
            refine vc_less [some (aR 22), some (aI f), some (aI t), some (aI (v3 + 1)), some (aI f), some (aI (v5 + 1)), none] (lessL_keep (lessL_keep (lessL_keep (lessL_keep (lessL_keep (lessL_keep (lessL_drop (lessL_nil)))))))) ?_
            exact ih8 (v3 + 1) f (v5 + 1) (by omega) (by omega) (by omega) (by omega) (by omega) (by omega) (by first | rfl | (rw [if_pos (by omega), if_neg (by omega)] at g8i0; exact wGo_cast (by omega) (by omega) g8i0) | (rw [if_neg (by omega), if_pos (by omega)] at g8i0; exact wGo_cast (by omega) (by omega) g8i0) | (rw [if_neg (by omega), if_neg (by omega), if_pos ⟨by omega, by omega⟩] at g8i0; exact wGo_cast (by omega) (by omega) g8i0) | (rw [if_neg (by omega), if_neg (by omega), if_neg (by omega)] at g8i0; exact wGo_cast (by omega) (by omega) g8i0)) (by omega)
          · refine vc_iload_n dX4_wordOf_40 rfl ?_
            refine vc_iret dX4_wordOf_41 rfl (Nat.le_of_ble_eq_true rfl) (Nat.le_of_ble_eq_true rfl) ?_
            exact ⟨_, rfl, rfl, by first | (rw [show v5.toNat = 193 + (v5.toNat - 193) by omega, ← List.drop_drop] at g8i0; rw [show WB.drop 193 = [] from rfl, List.drop_nil] at g8i0; exact g8i0) | (rw [if_pos (by omega), if_pos (by omega)] at g8i0; exact g8i0)⟩
  exact lp8 _ 0 f 0 (by omega) (by omega) (by omega) (by omega) (by omega) (by omega) (by first | rfl | (rw [if_pos (by omega), if_neg (by omega)] at g8i0; exact wGo_cast (by omega) (by omega) g8i0) | (rw [if_neg (by omega), if_pos (by omega)] at g8i0; exact wGo_cast (by omega) (by omega) g8i0) | (rw [if_neg (by omega), if_neg (by omega), if_pos ⟨by omega, by omega⟩] at g8i0; exact wGo_cast (by omega) (by omega) g8i0) | (rw [if_neg (by omega), if_neg (by omega), if_neg (by omega)] at g8i0; exact wGo_cast (by omega) (by omega) g8i0)) (Nat.lt_succ_self _)
