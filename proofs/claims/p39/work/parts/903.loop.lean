/-! p35: THE LAW: its loop, its entry (written by wip/p35/q61.py) -/
section LE
variable {l : Launch} {b Ls : Nat} {xs : Nat → Int32}
theorem l_sw {M : Mem} {kc ks : Nat} {ab : Int} (hLs : Ls ≤ 3072) (hB : RE M ab) (hb0 : 0 ≤ ab) (hb1 : ab ≤ 100000) (i v : Int) (g0 : 0 ≤ v) (h0 : 0 ≤ i) (h1 : i + 6 ≤ Ls) (hk1 : kc + 4 ≤ 600000) (hk2 : ks + 904 ≤ 7302250) (fin : ∀ (M2 : Mem) (kc2 ks2 : Nat), RE M2 (ab + 30) → kc2 ≤ kc + 4 → ks2 ≤ ks + 904 → VL l b Ls xs 1691 [none, some (aR 0), some (aR 54), some (aI i)] [] M2 kc2 ks2) : VL l b Ls xs 33 [none, some (aR 0), some (aR 54), some (aI i)] [aI v] M kc ks := by
  by_cases e0 : v = 0
  · exact vl_tabIn dL_law_33 0 220 e0 rfl rfl rfl (lc_corner hLs hB hb0 hb1 i h0 h1 hk1 hk2 fin)
  have g1 : 1 ≤ v := by omega
  clear g0 e0
  by_cases e1 : v = 1
  · exact vl_tabIn dL_law_33 1 243 e1 rfl rfl rfl (lc_street hLs hB hb0 hb1 i h0 h1 hk1 hk2 fin)
  have g2 : 2 ≤ v := by omega
  clear g1 e1
  by_cases e2 : v = 2
  · exact vl_tabIn dL_law_33 2 312 e2 rfl rfl rfl (lc_goal hLs hB hb0 hb1 i h0 h1 hk1 hk2 fin)
  have g3 : 3 ≤ v := by omega
  clear g2 e2
  by_cases e3 : v = 3
  · exact vl_tabIn dL_law_33 3 335 e3 rfl rfl rfl (lc_teller hLs hB hb0 hb1 i h0 h1 hk1 hk2 fin)
  have g4 : 4 ≤ v := by omega
  clear g3 e3
  by_cases e4 : v = 4
  · exact vl_tabIn dL_law_33 4 388 e4 rfl rfl rfl (lc_telling hLs hB hb0 hb1 i h0 h1 hk1 hk2 fin)
  have g5 : 5 ≤ v := by omega
  clear g4 e4
  by_cases e5 : v = 5
  · exact vl_tabIn dL_law_33 5 441 e5 rfl rfl rfl (lc_feed hLs hB hb0 hb1 i h0 h1 hk1 hk2 fin)
  have g6 : 6 ≤ v := by omega
  clear g5 e5
  by_cases e6 : v = 6
  · exact vl_tabIn dL_law_33 6 504 e6 rfl rfl rfl (lc_end hLs hB hb0 hb1 i h0 h1 hk1 hk2 fin)
  have g7 : 7 ≤ v := by omega
  clear g6 e6
  by_cases e7 : v = 7
  · exact vl_tabIn dL_law_33 7 527 e7 rfl rfl rfl (lc_text hLs hB hb0 hb1 i h0 h1 hk1 hk2 fin)
  have g8 : 8 ≤ v := by omega
  clear g7 e7
  by_cases e8 : v = 8
  · exact vl_tabIn dL_law_33 8 540 e8 rfl rfl rfl (lc_fault hLs hB hb0 hb1 i h0 h1 hk1 hk2 fin)
  have g9 : 9 ≤ v := by omega
  clear g8 e8
  by_cases e9 : v = 9
  · exact vl_tabIn dL_law_33 9 563 e9 rfl rfl rfl (lc_by hLs hB hb0 hb1 i h0 h1 hk1 hk2 fin)
  have g10 : 10 ≤ v := by omega
  clear g9 e9
  by_cases e10 : v = 10
  · exact vl_tabIn dL_law_33 10 586 e10 rfl rfl rfl (lc_start hLs hB hb0 hb1 i h0 h1 hk1 hk2 fin)
  have g11 : 11 ≤ v := by omega
  clear g10 e10
  by_cases e11 : v = 11
  · exact vl_tabIn dL_law_33 11 619 e11 rfl rfl rfl (lc_walk hLs hB hb0 hb1 i h0 h1 hk1 hk2 fin)
  have g12 : 12 ≤ v := by omega
  clear g11 e11
  by_cases e12 : v = 12
  · exact vl_tabIn dL_law_33 12 642 e12 rfl rfl rfl (lc_turn hLs hB hb0 hb1 i h0 h1 hk1 hk2 fin)
  have g13 : 13 ≤ v := by omega
  clear g12 e12
  by_cases e13 : v = 13
  · exact vl_tabIn dL_law_33 13 665 e13 rfl rfl rfl (lc_ask hLs hB hb0 hb1 i h0 h1 hk1 hk2 fin)
  have g14 : 14 ≤ v := by omega
  clear g13 e13
  by_cases e14 : v = 14
  · exact vl_tabIn dL_law_33 14 688 e14 rfl rfl rfl (lc_follow hLs hB hb0 hb1 i h0 h1 hk1 hk2 fin)
  have g15 : 15 ≤ v := by omega
  clear g14 e14
  by_cases e15 : v = 15
  · exact vl_tabIn dL_law_33 15 711 e15 rfl rfl rfl (lc_played hLs hB hb0 hb1 i h0 h1 hk1 hk2 fin)
  have g16 : 16 ≤ v := by omega
  clear g15 e15
  by_cases e16 : v = 16
  · exact vl_tabIn dL_law_33 16 734 e16 rfl rfl rfl (lc_day hLs hB hb0 hb1 i h0 h1 hk1 hk2 fin)
  have g17 : 17 ≤ v := by omega
  clear g16 e16
  by_cases e17 : v = 17
  · exact vl_tabIn dL_law_33 17 767 e17 rfl rfl rfl (lc_undo hLs hB hb0 hb1 i h0 h1 hk1 hk2 fin)
  have g18 : 18 ≤ v := by omega
  clear g17 e17
  by_cases e18 : v = 18
  · exact vl_tabIn dL_law_33 18 780 e18 rfl rfl rfl (lc_walker hLs hB hb0 hb1 i h0 h1 hk1 hk2 fin)
  have g19 : 19 ≤ v := by omega
  clear g18 e18
  by_cases e19 : v = 19
  · exact vl_tabIn dL_law_33 19 803 e19 rfl rfl rfl (lc_ofCorner hLs hB hb0 hb1 i h0 h1 hk1 hk2 fin)
  have g20 : 20 ≤ v := by omega
  clear g19 e19
  by_cases e20 : v = 20
  · exact vl_tabIn dL_law_33 20 836 e20 rfl rfl rfl (lc_ofTeller hLs hB hb0 hb1 i h0 h1 hk1 hk2 fin)
  have g21 : 21 ≤ v := by omega
  clear g20 e20
  by_cases e21 : v = 21
  · exact vl_tabIn dL_law_33 21 869 e21 rfl rfl rfl (lc_ofTelling hLs hB hb0 hb1 i h0 h1 hk1 hk2 fin)
  have g22 : 22 ≤ v := by omega
  clear g21 e21
  by_cases e22 : v = 22
  · exact vl_tabIn dL_law_33 22 902 e22 rfl rfl rfl (lc_leads hLs hB hb0 hb1 i h0 h1 hk1 hk2 fin)
  have g23 : 23 ≤ v := by omega
  clear g22 e22
  by_cases e23 : v = 23
  · exact vl_tabIn dL_law_33 23 935 e23 rfl rfl rfl (lc_likely hLs hB hb0 hb1 i h0 h1 hk1 hk2 fin)
  have g24 : 24 ≤ v := by omega
  clear g23 e23
  by_cases e24 : v = 24
  · exact vl_tabIn dL_law_33 24 968 e24 rfl rfl rfl (lc_byAll hLs hB hb0 hb1 i h0 h1 hk1 hk2 fin)
  have g25 : 25 ≤ v := by omega
  clear g24 e24
  by_cases e25 : v = 25
  · exact vl_tabIn dL_law_33 25 1027 e25 rfl rfl rfl (lc_clash hLs hB hb0 hb1 i h0 h1 hk1 hk2 fin)
  have g26 : 26 ≤ v := by omega
  clear g25 e25
  by_cases e26 : v = 26
  · exact vl_tabIn dL_law_33 26 1050 e26 rfl rfl rfl (lc_wrong hLs hB hb0 hb1 i h0 h1 hk1 hk2 fin)
  have g27 : 27 ≤ v := by omega
  clear g26 e26
  by_cases e27 : v = 27
  · exact vl_tabIn dL_law_33 27 1099 e27 rfl rfl rfl (lc_far hLs hB hb0 hb1 i h0 h1 hk1 hk2 fin)
  have g28 : 28 ≤ v := by omega
  clear g27 e27
  by_cases e28 : v = 28
  · exact vl_tabIn dL_law_33 28 1132 e28 rfl rfl rfl (lc_see hLs hB hb0 hb1 i h0 h1 hk1 hk2 fin)
  have g29 : 29 ≤ v := by omega
  clear g28 e28
  by_cases e29 : v = 29
  · exact vl_tabIn dL_law_33 29 1165 e29 rfl rfl rfl (lc_orAsk hLs hB hb0 hb1 i h0 h1 hk1 hk2 fin)
  have g30 : 30 ≤ v := by omega
  clear g29 e29
  by_cases e30 : v = 30
  · exact vl_tabIn dL_law_33 30 1188 e30 rfl rfl rfl (lc_safeSoFar hLs hB hb0 hb1 i h0 h1 hk1 hk2 fin)
  have g31 : 31 ≤ v := by omega
  clear g30 e30
  by_cases e31 : v = 31
  · exact vl_tabIn dL_law_33 31 1247 e31 rfl rfl rfl (lc_howFar hLs hB hb0 hb1 i h0 h1 hk1 hk2 fin)
  have g32 : 32 ≤ v := by omega
  clear g31 e31
  by_cases e32 : v = 32
  · exact vl_tabIn dL_law_33 32 1280 e32 rfl rfl rfl (lc_lost hLs hB hb0 hb1 i h0 h1 hk1 hk2 fin)
  have g33 : 33 ≤ v := by omega
  clear g32 e32
  by_cases e33 : v = 33
  · exact vl_tabIn dL_law_33 33 1313 e33 rfl rfl rfl (lc_listen hLs hB hb0 hb1 i h0 h1 hk1 hk2 fin)
  have g34 : 34 ≤ v := by omega
  clear g33 e33
  by_cases e34 : v = 34
  · exact vl_tabIn dL_law_33 34 1392 e34 rfl rfl rfl (lc_tell hLs hB hb0 hb1 i h0 h1 hk1 hk2 fin)
  have g35 : 35 ≤ v := by omega
  clear g34 e34
  by_cases e35 : v = 35
  · exact vl_tabIn dL_law_33 35 1445 e35 rfl rfl rfl (lc_where hLs hB hb0 hb1 i h0 h1 hk1 hk2 fin)
  have g36 : 36 ≤ v := by omega
  clear g35 e35
  by_cases e36 : v = 36
  · exact vl_tabIn dL_law_33 36 1494 e36 rfl rfl rfl (lc_map hLs hB hb0 hb1 i h0 h1 hk1 hk2 fin)
  have g37 : 37 ≤ v := by omega
  clear g36 e36
  by_cases e37 : v = 37
  · exact vl_tabIn dL_law_33 37 1537 e37 rfl rfl rfl (lc_signs hLs hB hb0 hb1 i h0 h1 hk1 hk2 fin)
  have g38 : 38 ≤ v := by omega
  clear g37 e37
  by_cases e38 : v = 38
  · exact vl_tabIn dL_law_33 38 1550 e38 rfl rfl rfl (lc_whose hLs hB hb0 hb1 i h0 h1 hk1 hk2 fin)
  have g39 : 39 ≤ v := by omega
  clear g38 e38
  by_cases e39 : v = 39
  · exact vl_tabIn dL_law_33 39 1619 e39 rfl rfl rfl (lc_heard hLs hB hb0 hb1 i h0 h1 hk1 hk2 fin)
  have g40 : 40 ≤ v := by omega
  clear g39 e39
  by_cases e40 : v = 40
  · exact vl_tabIn dL_law_33 40 1642 e40 rfl rfl rfl (lc_image hLs hB hb0 hb1 i h0 h1 hk1 hk2 fin)
  have g41 : 41 ≤ v := by omega
  clear g40 e40
  by_cases e41 : v = 41
  · exact vl_tabIn dL_law_33 41 1655 e41 rfl rfl rfl (lc_back hLs hB hb0 hb1 i h0 h1 hk1 hk2 fin)
  have g42 : 42 ≤ v := by omega
  clear g41 e41
  by_cases e42 : v = 42
  · exact vl_tabIn dL_law_33 42 1668 e42 rfl rfl rfl (lc_about hLs hB hb0 hb1 i h0 h1 hk1 hk2 fin)
  have g43 : 43 ≤ v := by omega
  clear g42 e42
  exact vl_tabOut dL_law_33 1691 (.inr (by omega)) rfl (fin M kc ks (hB.le (by omega)) (by omega) (by omega))
theorem l_loopN (hLs : Ls ≤ 3072) : ∀ (n : Nat) (M : Mem) (i : Int) (kc ks : Nat), RE M (5 * i) → 0 ≤ i → i ≤ 3078 → (kc : Int) ≤ 75 + 4 * i → (ks : Int) ≤ 12789 + 904 * i → ((Ls : Int) - i).toNat < n → VL l b Ls xs 18 [none, some (aR 0), some (aR 54), some (aI i)] [] M kc ks := by
  intro n
  induction n with
  | zero => intro M i kc ks _ _ _ _ _ h; exact absurd h (Nat.not_lt_zero _)
  | succ n ih =>
    intro M i kc ks hB h0 hi k1 k2 hm
    refine vl_iload_n dL_law_18 rfl ?_
    refine vl_slen dL_law_19 dL_law_20 hLs ?_
    refine vl_bipush dL_law_21 rfl ?_
    refine vl_isubE dL_law_23 (by omega) (by omega) ?_
    refine vl_icmp_gt dL_law_24 (fun h9 => ?_) (fun h9 => ?_)
    · refine vl_iconst dL_law_1697 rfl ?_
      exact vl_ret dL_law_1698 (by omega) (by omega)
    · refine vl_s0 dL_law_27 dL_law_28 dL_law_29 rfl (by omega) (by omega) ?_
      refine vl_bipush dL_law_30 rfl ?_
      refine vl_iandM dL_law_32 64 6 (by decide) (by decide) (by decide) ?_
      refine l_sw hLs hB (by omega) (by omega) i _ (Int.emod_nonneg _ (by decide)) h0 (by omega) (by omega) (by omega) (fun M2 kc2 ks2 hB2 a1 a2 => ?_)
      refine vl_iincE dL_law_1691 rfl (by omega) (by omega) (by decide) (by decide) rfl rfl ?_
      refine vl_goto dL_law_1694 ?_
      exact ih M2 (i + 6) kc2 ks2 (hB2.le (by omega)) (by omega) (by omega) (by omega) (by omega) (by omega)
theorem l_entry (hLs : Ls ≤ 3072) : VL l b Ls xs 0 [none, none, none, none] [] Me 0 0 := by
  refine vl_newOq 0 dL_law_0 rfl cl_11 clL_7 iaX11 iiX11 (Nat.le_of_ble_eq_true rfl) (Nat.le_of_ble_eq_true rfl) ?_
  refine vl_dup dL_law_3 rfl ?_
  refine vl_callI dL_law_4 (qX11_init (M := mkC Me (.inl 11)) rfl rfl) rfl okX11_init inX11_init rfl rfl lkL_9 rfl (Nat.le_of_ble_eq_true rfl) (Nat.le_of_ble_eq_true rfl) (Nat.le_of_ble_eq_true rfl) (Nat.le_of_ble_eq_true rfl) ?_
  refine vl_astore_n dL_law_7 (by decide) rfl rfl ?_
  refine vl_newOq 54 dL_law_8 hlb cl_12 clL_10 iaX12 iiX12 (Nat.le_of_ble_eq_true rfl) (Nat.le_of_ble_eq_true rfl) ?_
  refine vl_dup dL_law_11 rfl ?_
  refine vl_callI dL_law_12 (qX12_init (M := mkC Mb (.inl 12)) (ln_mk hlb) (sh_nw hlb)) rfl okX12_init inX12_init rfl rfl lkL_12 rfl (Nat.le_of_ble_eq_true rfl) (Nat.le_of_ble_eq_true rfl) (Nat.le_of_ble_eq_true rfl) (Nat.le_of_ble_eq_true rfl) ?_
  refine vl_astore_n dL_law_15 (by decide) rfl rfl ?_
  refine vl_iconst dL_law_16 rfl ?_
  refine vl_istore_n dL_law_17 (by decide) rfl rfl ?_
  exact l_loopN hLs _ M0 0 75 12789 re0 (by decide) (by decide) (by decide) (by decide) (Nat.lt_succ_self _)
end LE
