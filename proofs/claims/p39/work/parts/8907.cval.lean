/-! LAWS of the class: what a code is worth (written by wip/laws2/e1.py) -/
/-- the law w of the text y has the code c -/
def LcY (M : Mem) (y : Nat) (w : Int) (c : List (Int × Int)) : Prop := ∃ z0 z1 n0 : Nat, mR M y 0 = some z0 ∧ mR M y 1 = some z1 ∧ M.1[z0]? = some (.inr (0, n0)) ∧ rgO w c ∧ H1 c 27 ∧ 0 ≤ mI M z1 (2 * w).toNat ∧ mI M z1 (2 * w + 1).toNat = mI M z1 (2 * w).toNat + c.length ∧ mI M z1 (2 * w + 1).toNat ≤ n0 ∧ ∀ i : Nat, i < c.length → mI M z0 ((mI M z1 (2 * w).toNat).toNat + i) = enc (nth c i)
theorem LcY.dy {f : Nat → Nat → Bool} {A B : Mem} {y : Nat} {w : Int} {c : List (Int × Int)} (h : LcY A y w c) (hy : TxO A y) (hd : DyF f A B) : LcY B y w c := by
  obtain ⟨y1, y2, _, a, b, c2, n, m, q0, q1, _, q3, q4, _, q6, q7, _⟩ := hy
  obtain ⟨z0, z1, n0, h0, h1, hs, hr, hh, ha, hb, hn, hc⟩ := h
  have ea : z0 = a := Option.some.inj (h0.symm.trans q0)
  have eb : z1 = b := Option.some.inj (h1.symm.trans q1)
  subst ea eb
  refine ⟨z0, z1, n0, (hd.rf y1 y2 0).trans q0, (hd.rf y1 y2 1).trans q1, hd.sh q3 hs, hr, hh, ?_, ?_, ?_, fun i hi => ?_⟩
  · rw [hd.vl q4 q7]; exact ha
  · rw [hd.vl q4 q7, hd.vl q4 q7]; exact hb
  · rw [hd.vl q4 q7]; exact hn
  · rw [hd.vl q4 q7, hd.vl q3 q6]; exact hc i hi
def nmC (M : Mem) : Int → Int := fun v => mI M 30 v.toNat
/-- what an int of the code can be -/
theorem enc_cs {w : Int} {c : List (Int × Int)} {i : Nat} {T : Int} (r : rgO w c) (hi : i < c.length) (e : T = enc (nth c i)) : ((nth c i).1 = 0 ∧ T = (nth c i).2 ∧ 0 ≤ T ∧ T ≤ 9999) ∨ ((nth c i).1 = 1 ∧ T = 10000 + (nth c i).2 ∧ 10000 ≤ T ∧ T ≤ 10008) ∨ ((nth c i).1 = 2 ∧ T = 20006) ∨ (3 ≤ (nth c i).1 ∧ (nth c i).1 ≤ 8 ∧ T = 19997 + (nth c i).1) := by
  obtain ⟨h1, h2, h3, h4⟩ := rgO_nth c i r hi
  unfold enc at e
  by_cases e0 : (nth c i).1 = 0
  · rw [if_pos e0] at e
    have := h3 e0
    exact Or.inl ⟨e0, e, by omega, by omega⟩
  · rw [if_neg e0] at e
    by_cases e1 : (nth c i).1 = 1
    · rw [if_pos e1] at e
      have q1 := (h4 e1).1
      have q2 := (h4 e1).2.1
      exact Or.inr (Or.inl ⟨e1, e, by omega, by omega⟩)
    · rw [if_neg e1] at e
      by_cases e2 : (nth c i).1 = 2
      · rw [if_pos e2] at e
        exact Or.inr (Or.inr (Or.inl ⟨e2, e⟩))
      · rw [if_neg e2] at e
        exact Or.inr (Or.inr (Or.inr ⟨by omega, h2, e⟩))
set_option maxRecDepth 4000 in
theorem sfX5_rulesF {l : Launch} {M : Mem} (hB : Box M)  (y : Nat) (law : Int) (p0 : 0 ≤ law) (p1 : law ≤ 4) (p2 : TxO M y) : Call l mdX5_rules [aR y, aI law] M (fun q N => ∃ r : Int, q = some (aI r) ∧ M = N ∧ 0 ≤ r ∧ r ≤ 1 ∧ ((r = 1 ∧ ∀ b, mR M y 1 = some b → mI M b (2 * law).toNat ≠ -1) ∨ (r = 0 ∧ ∀ b, mR M y 1 = some b → mI M b (2 * law).toNat = -1))) := by
  have hB0 : BF fQ M M := BF.start hB
  refine Call.of [some (aR y), some (aI law)] rfl (Nat.le_of_ble_eq_true rfl) rfl ?_
  have t1 : TxO M y := p2
  obtain ⟨q7, q8, q21, ta2, tb3, tc4, tn5, tm6, q9, q10, q11, q12, q13, q14, q15, q16, q17, q18, q19, q20⟩ := id t1
  refine vc_iload_n dX5_rules_0 rfl ?_
  refine vc_if_lt dX5_rules_1 (fun h22 => by exfalso; omega) (fun h22 => ?_)
  refine vc_iload_n dX5_rules_4 rfl ?_
  refine vc_iconst dX5_rules_5 rfl ?_
  refine vc_icmp_ge dX5_rules_6 (fun h23 => by exfalso; omega) (fun h23 => ?_)
  refine vc_aload_n dX5_rules_9 rfl ?_
  refine vc_getR dX5_rules_10 flX5_15 (hB0.2.sh q7 q8) rfl ((hB0.2.rf q7 q8 1).trans q10) ?_
  refine vc_iconst dX5_rules_13 rfl ?_
  refine vc_iload_n dX5_rules_14 rfl ?_
  refine vc_imulE dX5_rules_15 (by omega) (by omega) ?_
  refine vc_iaload dX5_rules_16 (hB0.2.sh q13 q16) (by omega) (by omega) ?_
  have k24 : (-1) ≤ mI M tb3 ((2 * law).toNat) ∧ mI M tb3 ((2 * law).toNat) ≤ 300 := (by rw [hB0.2.vl q13 q16]; exact q20 _)
  refine vc_iconst dX5_rules_17 rfl ?_
  refine vc_icmp_eq dX5_rules_18 (fun h25 => ?_) (fun h25 => ?_)
  · refine vc_iconst dX5_rules_25 rfl ?_
    refine vc_zret dX5_rules_26 rfl (by first | decide | omega) (Nat.le_of_ble_eq_true rfl) (Nat.le_of_ble_eq_true rfl) ?_
    first | (exfalso; omega) | exact ⟨_, rfl, rfl, by omega, by omega, Or.inr ⟨rfl, fun b hb => by have e9 : tb3 = b := Option.some.inj (q10.symm.trans hb); subst e9; omega⟩⟩
  · refine vc_iconst dX5_rules_21 rfl ?_
    refine vc_goto dX5_rules_22 ?_
    refine vc_zret dX5_rules_26 rfl (by first | decide | omega) (Nat.le_of_ble_eq_true rfl) (Nat.le_of_ble_eq_true rfl) ?_
    exact ⟨_, rfl, rfl, by omega, by omega, Or.inl ⟨rfl, fun b hb => by have e9 : tb3 = b := Option.some.inj (q10.symm.trans hb); subst e9; omega⟩⟩

set_option maxRecDepth 4000 in
theorem sfX5_valueK {l : Launch} {M : Mem} (hB : Box M) (c : List (Int × Int)) (y : Nat) (law : Int) (p0 : 0 ≤ law) (p1 : law ≤ 4) (p2 : TxO M y) (p3 : LcY M y law c) : Call l mdX5_value [aR y, aI law, aR 30, aR 31] M (fun q N => ∃ r : Int, q = some (aI r) ∧ BF fS M N ∧ mI N 32 = mI M 32 ∧ mI N 33 = mI M 33 ∧ r = evKV (nmC M) c) := by
  have hB0 : BF fS M M := BF.start hB
  refine Call.of [some (aR y), some (aI law), some (aR 30), some (aR 31), none, none, none, none] rfl (Nat.le_of_ble_eq_true rfl) rfl ?_
  have t1 : TxO M y := p2
  obtain ⟨q7, q8, q21, ta2, tb3, tc4, tn5, tm6, q9, q10, q11, q12, q13, q14, q15, q16, q17, q18, q19, q20⟩ := id t1
  obtain ⟨z0, z1, n0, y0, y1, ysh, yr, yh, ya, yb, yn, yc⟩ := id p3
  have ea : ta2 = z0 := Option.some.inj (q9.symm.trans y0)
  have eb : tb3 = z1 := Option.some.inj (q10.symm.trans y1)
  subst ea eb
  have en : tn5 = n0 := congrArg (fun q : Sh => match q with | .inr (_, k) => k | .inl _ => 0) (Option.some.inj (q15.symm.trans ysh))
  subst en
  have hla : -1 ≤ mI M tb3 (2 * law).toNat ∧ mI M tb3 (2 * law).toNat ≤ 300 := q20 _
  have hlb : -1 ≤ mI M tb3 (2 * law + 1).toNat ∧ mI M tb3 (2 * law + 1).toNat ≤ 300 := q20 _
  refine vc_aload_n dX5_value_0 rfl ?_
  refine vc_iload_n dX5_value_1 rfl ?_
  refine vc_cVI dX5_value_2 (sfX5_rulesF (M := M) hB0.1  y law (by omega) (by omega) ((t1).dy hB0.2)) rfl okX5_rules viX5_rules lkX5_25 (hB0.2.sh q7 q8) cl_5 rfl (Nat.le_of_ble_eq_true rfl) ⟨rfl, rfl⟩ (Nat.le_of_ble_eq_true rfl) (Nat.le_of_ble_eq_true rfl) (Nat.le_of_ble_eq_true rfl) ?_
  rintro x22 _ ⟨rfl, h23, h24, h25⟩
  have hru : x22 = 1 := by rcases h25 with h | h; (exact h.1); (exfalso; have z := h.2 tb3 q10; omega)
  refine vc_if_ne dX5_value_5 (fun h26 => ?_) (fun h26 => ?_)
  · refine vc_iconst dX5_value_10 rfl ?_
    refine vc_istore dX5_value_11 (by decide) rfl (show _ = [some (aR y), some (aI law), some (aR 30), some (aR 31), some (aI 0), none, none, none] from rfl) ?_
    refine vc_aload_n dX5_value_13 rfl ?_
    refine vc_getR dX5_value_14 flX5_15 (hB0.2.sh q7 q8) rfl ((hB0.2.rf q7 q8 1).trans q10) ?_
    refine vc_iconst dX5_value_17 rfl ?_
    refine vc_iload_n dX5_value_18 rfl ?_
    refine vc_imulE dX5_value_19 (by omega) (by omega) ?_
    refine vc_iconst dX5_value_20 rfl ?_
    refine vc_iaddE dX5_value_21 (by omega) (by omega) ?_
    refine vc_iaload dX5_value_22 (hB0.2.sh q13 q16) (by omega) (by omega) ?_
    have k27 : (-1) ≤ mI M tb3 (((2 * law) + 1).toNat) ∧ mI M tb3 (((2 * law) + 1).toNat) ≤ 300 := (by rw [hB0.2.vl q13 q16]; exact q20 _)
    refine vc_ok (fun _ hoSz29 _ => ?_)
    have k28 : -2147483648 ≤ mI M tb3 (((2 * law) + 1).toNat) ∧ mI M tb3 (((2 * law) + 1).toNat) < 2147483648 := hoSz29 (aI (mI M tb3 (((2 * law) + 1).toNat))) (List.mem_cons_self ..)
    refine vc_aload_n dX5_value_23 rfl ?_
    refine vc_getR dX5_value_24 flX5_9 (hB0.2.sh q7 q8) rfl ((hB0.2.rf q7 q8 0).trans q9) ?_
    refine vc_alen dX5_value_27 (hB0.2.sh q12 q15) (by simp only [Bool.and_eq_true, decide_eq_true_eq]; omega) ?_
    refine vc_mminI dX5_value_28 lkX5_29 (Nat.le_of_ble_eq_true rfl) (Nat.le_of_ble_eq_true rfl) (Nat.le_of_ble_eq_true rfl) ?_
    have k30 := minZ_bd (mI M tb3 (((2 * law) + 1).toNat)) (tn5 : Int)
    refine vc_nameI (fun x31 ex31 => ?_)
    refine vc_istore dX5_value_31 (by decide) rfl (show _ = [some (aR y), some (aI law), some (aR 30), some (aR 31), some (aI 0), some (aI x31), none, none] from rfl) ?_
    have hend : x31 = mI M tb3 (2 * law).toNat + c.length := by omega
    refine vc_aload_n dX5_value_33 rfl ?_
    refine vc_getR dX5_value_34 flX5_15 (hB0.2.sh q7 q8) rfl ((hB0.2.rf q7 q8 1).trans q10) ?_
    refine vc_iconst dX5_value_37 rfl ?_
    refine vc_iload_n dX5_value_38 rfl ?_
    refine vc_imulE dX5_value_39 (by omega) (by omega) ?_
    refine vc_iaload dX5_value_40 (hB0.2.sh q13 q16) (by omega) (by omega) ?_
    have k32 : (-1) ≤ mI M tb3 ((2 * law).toNat) ∧ mI M tb3 ((2 * law).toNat) ≤ 300 := (by rw [hB0.2.vl q13 q16]; exact q20 _)
    refine vc_ok (fun _ hoSz34 _ => ?_)
    have k33 : -2147483648 ≤ mI M tb3 ((2 * law).toNat) ∧ mI M tb3 ((2 * law).toNat) < 2147483648 := hoSz34 (aI (mI M tb3 ((2 * law).toNat))) (List.mem_cons_self ..)
    refine vc_nameI (fun x35 ex35 => ?_)
    refine vc_istore dX5_value_41 (by decide) rfl (show _ = [some (aR y), some (aI law), some (aR 30), some (aR 31), some (aI 0), some (aI x31), some (aI x35), none] from rfl) ?_
    have lp43 : ∀ (n43 : Nat) (Mq43 : Mem) (v4 : Int) (v6 : Int), (BF fS M Mq43) → (mI Mq43 32 = mI M 32) → (mI Mq43 33 = mI M 33) → (mI Mq43 30 = mI M 30) → (0 ≤ v4) → (v4 ≤ 27) → (0 ≤ v6) → (EvM (nmC M) c (mI Mq43 31) (v6 - mI M tb3 (2 * law).toNat) v4) → (mI M tb3 (2 * law).toNat ≤ v6) → (v6 ≤ mI M tb3 (2 * law).toNat + c.length) → (mI M tb3 (2 * law).toNat + c.length - v6).toNat < n43 → VC l mdX5_value 43 [some (aR y), none, some (aR 30), some (aR 31), some (aI v4), some (aI x31), some (aI v6), none] [] Mq43 0 0 (fun q N => ∃ r : Int, q = some (aI r) ∧ BF fS M N ∧ mI N 32 = mI M 32 ∧ mI N 33 = mI M 33 ∧ r = evKV (nmC M) c) := by
      intro n43
      induction n43 with
      | zero => intro Mq43 v4 v6 hQ43 kp43_32 kp43_33 kp43_30 g43_4a g43_4b g43_6a g43i0 g43i1 g43i2 hm43; exact absurd hm43 (Nat.not_lt_zero _)
      | succ n43 ih43 =>
        intro Mq43 v4 v6 hQ43 kp43_32 kp43_33 kp43_30 g43_4a g43_4b g43_6a g43i0 g43i1 g43i2 hm43
        refine vc_iload dX5_value_43 rfl ?_
        refine vc_iload dX5_value_45 rfl ?_
        refine vc_icmp_ge dX5_value_47 (fun h36 => ?_) (fun h36 => ?_)
        · refine vc_aload_n dX5_value_183 rfl ?_
          refine vc_iconst dX5_value_184 rfl ?_
          refine vc_iaload dX5_value_185 (s_31 hQ43.1.1) (by omega) (by omega) ?_
          refine vc_topI (mI Mq43 31 0) rfl ?_
          refine vc_ok (fun _ hoSz38 _ => ?_)
          have k37 : -2147483648 ≤ mI Mq43 31 0 ∧ mI Mq43 31 0 < 2147483648 := hoSz38 (aI (mI Mq43 31 0)) (List.mem_cons_self ..)
          refine vc_iret dX5_value_186 rfl (Nat.le_of_ble_eq_true rfl) (Nat.le_of_ble_eq_true rfl) ?_
          first | exact ⟨_, rfl, hQ43, kp43_32, kp43_33, (g43i0.fin (by omega)).2⟩ | (exfalso; omega)
        · refine vc_iload dX5_value_50 rfl ?_
          refine vc_aload_n dX5_value_52 rfl ?_
          refine vc_alen dX5_value_53 (s_31 hQ43.1.1) rfl ?_
          refine vc_topI 40 rfl ?_
          refine vc_icmp_ge dX5_value_54 (fun h39 => by exfalso; omega) (fun h39 => ?_)
          refine vc_aload_n dX5_value_57 rfl ?_
          refine vc_getR dX5_value_58 flX5_9 (hQ43.2.sh q7 q8) rfl ((hQ43.2.rf q7 q8 0).trans q9) ?_
          refine vc_iload dX5_value_61 rfl ?_
          refine vc_iaload dX5_value_63 (hQ43.2.sh q12 q15) (by omega) (by omega) ?_
          refine vc_ok (fun _ hoSz41 _ => ?_)
          have k40 : -2147483648 ≤ mI Mq43 ta2 v6.toNat ∧ mI Mq43 ta2 v6.toNat < 2147483648 := hoSz41 (aI (mI Mq43 ta2 v6.toNat)) (List.mem_cons_self ..)
          refine vc_nameI (fun x42 ex42 => ?_)
          refine vc_istore dX5_value_64 (by decide) rfl (show _ = [some (aR y), none, some (aR 30), some (aR 31), some (aI v4), some (aI x31), some (aI v6), some (aI x42)] from rfl) ?_
          have hvl : ∀ j, mI Mq43 ta2 j = mI M ta2 j := fun j => hQ43.2.vl q12 q15
          have hop : x42 = enc (nth c (v6 - mI M tb3 (2 * law).toNat).toNat) := by have z := yc (v6 - mI M tb3 (2 * law).toNat).toNat (by omega); rw [show (mI M tb3 (2 * law).toNat).toNat + (v6 - mI M tb3 (2 * law).toNat).toNat = v6.toNat by omega, ← hvl] at z; first | exact z | (rw [ex42]; exact z) | (subst_vars; exact z)
          have hk := enc_cs yr (show (v6 - mI M tb3 (2 * law).toNat).toNat < c.length by omega) hop
          refine vc_iload dX5_value_66 rfl ?_
          refine vc_sipush dX5_value_68 rfl ?_
          refine vc_icmp_ge dX5_value_71 (fun h43 => ?_) (fun h43 => ?_)
          · refine vc_iload dX5_value_86 rfl ?_
            refine vc_sipush dX5_value_88 rfl ?_
            refine vc_isubE dX5_value_91 (by omega) (by omega) ?_
            refine vc_aload_n dX5_value_92 rfl ?_
            refine vc_alen dX5_value_93 (s_30 hQ43.1.1) rfl ?_
            refine vc_topI 9 rfl ?_
            refine vc_icmp_ge dX5_value_94 (fun h44 => ?_) (fun h44 => ?_)
            · refine vc_iload dX5_value_115 rfl ?_
              refine vc_sipush dX5_value_117 rfl ?_
              refine vc_icmp_ne dX5_value_120 (fun h45 => ?_) (fun h45 => ?_)
              · have hk3 : 3 ≤ (nth c (v6 - mI M tb3 (2 * law).toNat).toNat).1 ∧ (nth c (v6 - mI M tb3 (2 * law).toNat).toNat).1 ≤ 8 ∧ x42 = 19997 + (nth c (v6 - mI M tb3 (2 * law).toNat).toNat).1 := by rcases hk with h | h | h | h <;> first | exact h | (exfalso; omega)
                have htw := g43i0.two (by omega) (by omega) yr hk3.1
                have hn2 := htw.1
                refine vc_iload dX5_value_145 rfl ?_
                refine vc_iconst dX5_value_147 rfl ?_
                refine vc_icmp_lt dX5_value_148 (fun h46 => ?_) (fun h46 => ?_)
                · refine vc_iincE dX5_value_177 rfl (by omega) (by omega) (by decide) rfl (show _ = [some (aR y), none, some (aR 30), some (aR 31), some (aI v4), some (aI x31), some (aI (v6 + 1)), some (aI x42)] from rfl) ?_
                  refine vc_goto dX5_value_180 ?_
                  refine vc_less [some (aR y), none, some (aR 30), some (aR 31), some (aI v4), some (aI x31), some (aI (v6 + 1)), none] (lessL_keep (lessL_keep (lessL_keep (lessL_keep (lessL_keep (lessL_keep (lessL_keep (lessL_drop (lessL_nil))))))))) ?_
                  exact ih43 Mq43 v4 (v6 + 1) hQ43 kp43_32 kp43_33 kp43_30 (by omega) (by omega) (by omega) (by first | exact hnx | (rw [show x35 - mI M tb3 (2 * law).toNat = 0 by omega]; exact EvM.start yh) | (exfalso; omega)) (by omega) (by omega) (by omega)
                · refine vc_iincE dX5_value_151 rfl (by omega) (by omega) (by decide) rfl (show _ = [some (aR y), none, some (aR 30), some (aR 31), some (aI (v4 + (-1))), some (aI x31), some (aI v6), some (aI x42)] from rfl) ?_
                  refine vc_aload_n dX5_value_154 rfl ?_
                  refine vc_iload dX5_value_155 rfl ?_
                  refine vc_iconst dX5_value_157 rfl ?_
                  refine vc_isubE dX5_value_158 (by omega) (by omega) ?_
                  refine vc_iload dX5_value_159 rfl ?_
                  refine vc_aload_n dX5_value_161 rfl ?_
                  refine vc_iload dX5_value_162 rfl ?_
                  refine vc_iconst dX5_value_164 rfl ?_
                  refine vc_isubE dX5_value_165 (by omega) (by omega) ?_
                  refine vc_iaload dX5_value_166 (s_31 hQ43.1.1) (by omega) (by omega) ?_
                  refine vc_ok (fun _ hoSz48 _ => ?_)
                  have k47 : -2147483648 ≤ mI Mq43 31 (((v4 + (-1)) - 1).toNat) ∧ mI Mq43 31 (((v4 + (-1)) - 1).toNat) < 2147483648 := hoSz48 (aI (mI Mq43 31 (((v4 + (-1)) - 1).toNat))) (List.mem_cons_self ..)
                  refine vc_i2l dX5_value_167 ?_
                  refine vc_aload_n dX5_value_168 rfl ?_
                  refine vc_iload dX5_value_169 rfl ?_
                  refine vc_iaload dX5_value_171 (s_31 hQ43.1.1) (by omega) (by omega) ?_
                  refine vc_ok (fun _ hoSz50 _ => ?_)
                  have k49 : -2147483648 ≤ mI Mq43 31 ((v4 + (-1)).toNat) ∧ mI Mq43 31 ((v4 + (-1)).toNat) < 2147483648 := hoSz50 (aI (mI Mq43 31 ((v4 + (-1)).toNat))) (List.mem_cons_self ..)
                  refine vc_i2l dX5_value_172 ?_
                  refine vc_cSI dX5_value_173 (sfX5_ofTwoK (M := Mq43) hQ43.1  x42 (mI Mq43 31 (((v4 + (-1)) - 1).toNat)) (mI Mq43 31 ((v4 + (-1)).toNat)) (by omega) (by omega) (by omega)) rfl okX5_ofTwo stX5_ofTwo lkX5_35 rfl (Nat.le_of_ble_eq_true rfl) ⟨rfl, rfl⟩ (Nat.le_of_ble_eq_true rfl) (Nat.le_of_ble_eq_true rfl) (Nat.le_of_ble_eq_true rfl) ?_
                  rintro x51 _ ⟨rfl, h52⟩
                  refine vc_iastore dX5_value_176 (s_31 hQ43.1.1) (by omega) (by omega) ?_
                  have kp53 : mI (sI Mq43 31 (((v4 + (-1)) - 1).toNat) x51) 32 = mI M 32 := (kp_sI kp43_32 rfl)
                  have kp54 : mI (sI Mq43 31 (((v4 + (-1)) - 1).toNat) x51) 33 = mI M 33 := (kp_sI kp43_33 rfl)
                  have kp55 : mI (sI Mq43 31 (((v4 + (-1)) - 1).toNat) x51) 30 = mI M 30 := (kp_sI kp43_30 rfl)
                  have hB56 : BF fS M (sI Mq43 31 (((v4 + (-1)) - 1).toNat) x51) := BF.w31 hQ43 (fun _ => rfl) _
                  have hnx : EvM (nmC M) c (mI (sI Mq43 31 (((v4 + (-1)) - 1).toNat) x51) 31) (v6 + 1 - mI M tb3 (2 * law).toNat) (v4 + (-1)) := by rw [show v6 + 1 - mI M tb3 (2 * law).toNat = v6 - mI M tb3 (2 * law).toNat + 1 by omega]; rw [show v4 + (-1) = v4 - 1 by omega]; exact htw.2.2 _ (by rw [mI_sI, if_pos (by omega), h52, show x42 - 19997 = (nth c (v6 - mI M tb3 (2 * law).toNat).toNat).1 by omega]; first | done | (congr 1 <;> first | rfl | (congr 1; omega))) (fun j hj => by rw [mI_sI, if_neg (by omega)])
                  refine vc_iincE dX5_value_177 rfl (by omega) (by omega) (by decide) rfl (show _ = [some (aR y), none, some (aR 30), some (aR 31), some (aI (v4 + (-1))), some (aI x31), some (aI (v6 + 1)), some (aI x42)] from rfl) ?_
                  refine vc_goto dX5_value_180 ?_
                  refine vc_less [some (aR y), none, some (aR 30), some (aR 31), some (aI (v4 + (-1))), some (aI x31), some (aI (v6 + 1)), none] (lessL_keep (lessL_keep (lessL_keep (lessL_keep (lessL_keep (lessL_keep (lessL_keep (lessL_drop (lessL_nil))))))))) ?_
                  exact ih43 (sI Mq43 31 (((v4 + (-1)) - 1).toNat) x51) (v4 + (-1)) (v6 + 1) hB56 kp53 kp54 kp55 (by omega) (by omega) (by omega) (by first | exact hnx | (rw [show x35 - mI M tb3 (2 * law).toNat = 0 by omega]; exact EvM.start yh) | (exfalso; omega)) (by omega) (by omega) (by omega)
              · have hk0 : (nth c (v6 - mI M tb3 (2 * law).toNat).toNat).1 = 2 := by rcases hk with h | h | h | h <;> first | exact h.1 | (exfalso; omega)
                have hng := g43i0.neg (by omega) (by omega) yr hk0
                have hn1 := hng.1
                refine vc_iload dX5_value_123 rfl ?_
                refine vc_iconst dX5_value_125 rfl ?_
                refine vc_icmp_lt dX5_value_126 (fun h57 => ?_) (fun h57 => ?_)
                · have hk3 : 3 ≤ (nth c (v6 - mI M tb3 (2 * law).toNat).toNat).1 ∧ (nth c (v6 - mI M tb3 (2 * law).toNat).toNat).1 ≤ 8 ∧ x42 = 19997 + (nth c (v6 - mI M tb3 (2 * law).toNat).toNat).1 := by rcases hk with h | h | h | h <;> first | exact h | (exfalso; omega)
                  have htw := g43i0.two (by omega) (by omega) yr hk3.1
                  have hn2 := htw.1
                  refine vc_iload dX5_value_145 rfl ?_
                  refine vc_iconst dX5_value_147 rfl ?_
                  refine vc_icmp_lt dX5_value_148 (fun h58 => ?_) (fun h58 => by exfalso; omega)
                  refine vc_iincE dX5_value_177 rfl (by omega) (by omega) (by decide) rfl (show _ = [some (aR y), none, some (aR 30), some (aR 31), some (aI v4), some (aI x31), some (aI (v6 + 1)), some (aI x42)] from rfl) ?_
                  refine vc_goto dX5_value_180 ?_
                  refine vc_less [some (aR y), none, some (aR 30), some (aR 31), some (aI v4), some (aI x31), some (aI (v6 + 1)), none] (lessL_keep (lessL_keep (lessL_keep (lessL_keep (lessL_keep (lessL_keep (lessL_keep (lessL_drop (lessL_nil))))))))) ?_
                  exact ih43 Mq43 v4 (v6 + 1) hQ43 kp43_32 kp43_33 kp43_30 (by omega) (by omega) (by omega) (by first | exact hnx | (rw [show x35 - mI M tb3 (2 * law).toNat = 0 by omega]; exact EvM.start yh) | (exfalso; omega)) (by omega) (by omega) (by omega)
                · refine vc_aload_n dX5_value_129 rfl ?_
                  refine vc_iload dX5_value_130 rfl ?_
                  refine vc_iconst dX5_value_132 rfl ?_
                  refine vc_isubE dX5_value_133 (by omega) (by omega) ?_
                  refine vc_aload_n dX5_value_134 rfl ?_
                  refine vc_iload dX5_value_135 rfl ?_
                  refine vc_iconst dX5_value_137 rfl ?_
                  refine vc_isubE dX5_value_138 (by omega) (by omega) ?_
                  refine vc_iaload dX5_value_139 (s_31 hQ43.1.1) (by omega) (by omega) ?_
                  refine vc_ok (fun _ hoSz60 _ => ?_)
                  have k59 : -2147483648 ≤ mI Mq43 31 ((v4 - 1).toNat) ∧ mI Mq43 31 ((v4 - 1).toNat) < 2147483648 := hoSz60 (aI (mI Mq43 31 ((v4 - 1).toNat))) (List.mem_cons_self ..)
                  refine vc_ineg dX5_value_140 ?_
                  refine vc_iastore dX5_value_141 (s_31 hQ43.1.1) (by omega) (by omega) ?_
                  have kp61 : mI (sI Mq43 31 ((v4 - 1).toNat) (wI (-(mI Mq43 31 ((v4 - 1).toNat))))) 32 = mI M 32 := (kp_sI kp43_32 rfl)
                  have kp62 : mI (sI Mq43 31 ((v4 - 1).toNat) (wI (-(mI Mq43 31 ((v4 - 1).toNat))))) 33 = mI M 33 := (kp_sI kp43_33 rfl)
                  have kp63 : mI (sI Mq43 31 ((v4 - 1).toNat) (wI (-(mI Mq43 31 ((v4 - 1).toNat))))) 30 = mI M 30 := (kp_sI kp43_30 rfl)
                  have hB64 : BF fS M (sI Mq43 31 ((v4 - 1).toNat) (wI (-(mI Mq43 31 ((v4 - 1).toNat))))) := BF.w31 hQ43 (fun _ => rfl) _
                  refine vc_goto dX5_value_142 ?_
                  have hnx : EvM (nmC M) c (mI (sI Mq43 31 ((v4 - 1).toNat) (wI (-(mI Mq43 31 ((v4 - 1).toNat))))) 31) (v6 + 1 - mI M tb3 (2 * law).toNat) v4 := by rw [show v6 + 1 - mI M tb3 (2 * law).toNat = v6 - mI M tb3 (2 * law).toNat + 1 by omega]; exact hng.2.2 _ (by rw [mI_sI, if_pos (by omega)]; first | done | rfl | (rw [wI_id (by omega) (by omega)]) | (subst_vars; rfl)) (fun j hj => by rw [mI_sI, if_neg (by omega)])
                  refine vc_iincE dX5_value_177 rfl (by omega) (by omega) (by decide) rfl (show _ = [some (aR y), none, some (aR 30), some (aR 31), some (aI v4), some (aI x31), some (aI (v6 + 1)), some (aI x42)] from rfl) ?_
                  refine vc_goto dX5_value_180 ?_
                  refine vc_less [some (aR y), none, some (aR 30), some (aR 31), some (aI v4), some (aI x31), some (aI (v6 + 1)), none] (lessL_keep (lessL_keep (lessL_keep (lessL_keep (lessL_keep (lessL_keep (lessL_keep (lessL_drop (lessL_nil))))))))) ?_
                  exact ih43 (sI Mq43 31 ((v4 - 1).toNat) (wI (-(mI Mq43 31 ((v4 - 1).toNat))))) v4 (v6 + 1) hB64 kp61 kp62 kp63 (by omega) (by omega) (by omega) (by first | exact hnx | (rw [show x35 - mI M tb3 (2 * law).toNat = 0 by omega]; exact EvM.start yh) | (exfalso; omega)) (by omega) (by omega) (by omega)
            · have hk0 : (nth c (v6 - mI M tb3 (2 * law).toNat).toNat).1 = 1 ∧ x42 = 10000 + (nth c (v6 - mI M tb3 (2 * law).toNat).toNat).2 ∧ 10000 ≤ x42 ∧ x42 ≤ 10008 := by rcases hk with h | h | h | h <;> first | exact h | (exfalso; omega)
              clear hk
              refine vc_aload_n dX5_value_97 rfl ?_
              refine vc_iload dX5_value_98 rfl ?_
              refine vc_aload_n dX5_value_100 rfl ?_
              refine vc_iload dX5_value_101 rfl ?_
              refine vc_sipush dX5_value_103 rfl ?_
              refine vc_isubE dX5_value_106 (by omega) (by omega) ?_
              refine vc_iaload dX5_value_107 (s_30 hQ43.1.1) (by omega) (by omega) ?_
              have k65 : mI Mq43 30 ((x42 - 10000).toNat) = mI M 30 ((x42 - 10000).toNat) := congrFun kp43_30 ((x42 - 10000).toNat)
              refine vc_ok (fun _ hoSz67 _ => ?_)
              have k66 : -2147483648 ≤ mI Mq43 30 ((x42 - 10000).toNat) ∧ mI Mq43 30 ((x42 - 10000).toNat) < 2147483648 := hoSz67 (aI (mI Mq43 30 ((x42 - 10000).toNat))) (List.mem_cons_self ..)
              refine vc_iastore dX5_value_108 (s_31 hQ43.1.1) (by omega) (by omega) ?_
              have kp68 : mI (sI Mq43 31 v4.toNat (mI Mq43 30 ((x42 - 10000).toNat))) 32 = mI M 32 := (kp_sI kp43_32 rfl)
              have kp69 : mI (sI Mq43 31 v4.toNat (mI Mq43 30 ((x42 - 10000).toNat))) 33 = mI M 33 := (kp_sI kp43_33 rfl)
              have kp70 : mI (sI Mq43 31 v4.toNat (mI Mq43 30 ((x42 - 10000).toNat))) 30 = mI M 30 := (kp_sI kp43_30 rfl)
              have hB71 : BF fS M (sI Mq43 31 v4.toNat (mI Mq43 30 ((x42 - 10000).toNat))) := BF.w31 hQ43 (fun _ => rfl) _
              refine vc_iincE dX5_value_109 rfl (by omega) (by omega) (by decide) rfl (show _ = [some (aR y), none, some (aR 30), some (aR 31), some (aI (v4 + 1)), some (aI x31), some (aI v6), some (aI x42)] from rfl) ?_
              refine vc_goto dX5_value_112 ?_
              have hnx : EvM (nmC M) c (mI (sI Mq43 31 v4.toNat (mI Mq43 30 ((x42 - 10000).toNat))) 31) (v6 + 1 - mI M tb3 (2 * law).toNat) (v4 + 1) := by rw [show v6 + 1 - mI M tb3 (2 * law).toNat = v6 - mI M tb3 (2 * law).toNat + 1 by omega]; exact (g43i0.push (f' := mI (sI Mq43 31 v4.toNat (mI Mq43 30 ((x42 - 10000).toNat))) 31) (v := mI Mq43 30 ((x42 - 10000).toNat)) (by omega) (by omega) yr (Or.inr ⟨hk0.1, by rw [show (nth c (v6 - mI M tb3 (2 * law).toNat).toNat).2 = x42 - 10000 by omega]; show _ = mI M 30 (x42 - 10000).toNat; first | exact congrFun kp43_30 _ | (rw [← congrFun kp43_30 _]; first | rfl | assumption)⟩) mI_same (fun j hj => by rw [mI_sI, if_neg (by omega)])).2
              have hnl := hnx.le
              refine vc_iincE dX5_value_177 rfl (by omega) (by omega) (by decide) rfl (show _ = [some (aR y), none, some (aR 30), some (aR 31), some (aI (v4 + 1)), some (aI x31), some (aI (v6 + 1)), some (aI x42)] from rfl) ?_
              refine vc_goto dX5_value_180 ?_
              refine vc_less [some (aR y), none, some (aR 30), some (aR 31), some (aI (v4 + 1)), some (aI x31), some (aI (v6 + 1)), none] (lessL_keep (lessL_keep (lessL_keep (lessL_keep (lessL_keep (lessL_keep (lessL_keep (lessL_drop (lessL_nil))))))))) ?_
              exact ih43 (sI Mq43 31 v4.toNat (mI Mq43 30 ((x42 - 10000).toNat))) (v4 + 1) (v6 + 1) hB71 kp68 kp69 kp70 (by omega) (by omega) (by omega) (by first | exact hnx | (rw [show x35 - mI M tb3 (2 * law).toNat = 0 by omega]; exact EvM.start yh) | (exfalso; omega)) (by omega) (by omega) (by omega)
          · have hk0 : (nth c (v6 - mI M tb3 (2 * law).toNat).toNat).1 = 0 ∧ x42 = (nth c (v6 - mI M tb3 (2 * law).toNat).toNat).2 := by rcases hk with h | h | h | h <;> first | exact ⟨h.1, h.2.1⟩ | (exfalso; omega)
            clear hk
            refine vc_aload_n dX5_value_74 rfl ?_
            refine vc_iload dX5_value_75 rfl ?_
            refine vc_iload dX5_value_77 rfl ?_
            refine vc_iastore dX5_value_79 (s_31 hQ43.1.1) (by omega) (by omega) ?_
            have kp72 : mI (sI Mq43 31 v4.toNat x42) 32 = mI M 32 := (kp_sI kp43_32 rfl)
            have kp73 : mI (sI Mq43 31 v4.toNat x42) 33 = mI M 33 := (kp_sI kp43_33 rfl)
            have kp74 : mI (sI Mq43 31 v4.toNat x42) 30 = mI M 30 := (kp_sI kp43_30 rfl)
            have hB75 : BF fS M (sI Mq43 31 v4.toNat x42) := BF.w31 hQ43 (fun _ => rfl) _
            refine vc_iincE dX5_value_80 rfl (by omega) (by omega) (by decide) rfl (show _ = [some (aR y), none, some (aR 30), some (aR 31), some (aI (v4 + 1)), some (aI x31), some (aI v6), some (aI x42)] from rfl) ?_
            refine vc_goto dX5_value_83 ?_
            have hnx : EvM (nmC M) c (mI (sI Mq43 31 v4.toNat x42) 31) (v6 + 1 - mI M tb3 (2 * law).toNat) (v4 + 1) := by rw [show v6 + 1 - mI M tb3 (2 * law).toNat = v6 - mI M tb3 (2 * law).toNat + 1 by omega]; exact (g43i0.push (f' := mI (sI Mq43 31 v4.toNat x42) 31) (v := x42) (by omega) (by omega) yr (Or.inl ⟨hk0.1, by omega⟩) mI_same (fun j hj => by rw [mI_sI, if_neg (by omega)])).2
            have hnl := hnx.le
            refine vc_iincE dX5_value_177 rfl (by omega) (by omega) (by decide) rfl (show _ = [some (aR y), none, some (aR 30), some (aR 31), some (aI (v4 + 1)), some (aI x31), some (aI (v6 + 1)), some (aI x42)] from rfl) ?_
            refine vc_goto dX5_value_180 ?_
            refine vc_less [some (aR y), none, some (aR 30), some (aR 31), some (aI (v4 + 1)), some (aI x31), some (aI (v6 + 1)), none] (lessL_keep (lessL_keep (lessL_keep (lessL_keep (lessL_keep (lessL_keep (lessL_keep (lessL_drop (lessL_nil))))))))) ?_
            exact ih43 (sI Mq43 31 v4.toNat x42) (v4 + 1) (v6 + 1) hB75 kp72 kp73 kp74 (by omega) (by omega) (by omega) (by first | exact hnx | (rw [show x35 - mI M tb3 (2 * law).toNat = 0 by omega]; exact EvM.start yh) | (exfalso; omega)) (by omega) (by omega) (by omega)
    refine vc_less [some (aR y), none, some (aR 30), some (aR 31), some (aI 0), some (aI x31), some (aI x35), none] (lessL_keep (lessL_drop (lessL_keep (lessL_keep (lessL_keep (lessL_keep (lessL_keep (lessL_keep (lessL_nil))))))))) ?_
    exact lp43 _ M 0 x35 hB0 rfl rfl rfl (by omega) (by omega) (by omega) (by first | exact hnx | (rw [show x35 - mI M tb3 (2 * law).toNat = 0 by omega]; exact EvM.start yh) | (exfalso; omega)) (by omega) (by omega) (Nat.lt_succ_self _)
  · refine vc_iconst dX5_value_8 rfl ?_
    refine vc_iret dX5_value_9 rfl (Nat.le_of_ble_eq_true rfl) (Nat.le_of_ble_eq_true rfl) ?_
    exfalso; omega

