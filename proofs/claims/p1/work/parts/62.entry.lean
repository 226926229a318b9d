/-! THE LAW from its entry to its end, on scripts of at most six ints (written by wip/whole/p62.py) -/
section LE
variable {l : Launch} {b Ls : Nat} {xs : Nat → Int32} {M : Mem} {kc ks : Nat}
theorem l_end {i : Int} (hLs : Ls ≤ 3072) (hi : (Ls : Int) - 6 < i) (h1 : kc ≤ 600000) (h2 : ks ≤ 7302250) : VL l b Ls xs 18 [none, some (aR 0), some (aR 54), some (aI i)] [] M kc ks := by
  refine vl_iload_n dL_law_18 rfl ?_
  refine vl_slen dL_law_19 dL_law_20 hLs ?_
  refine vl_bipush dL_law_21 rfl ?_
  refine vl_isubE dL_law_23 (by omega) (by omega) ?_
  refine vl_icmp_gt dL_law_24 (fun _ => ?_) (fun h9 => absurd hi h9)
  refine vl_iconst dL_law_1700 rfl ?_
  exact vl_ret dL_law_1701 h1 h2
theorem l_fin (M : Mem) (kc ks : Nat) (h1 : kc ≤ 600000) (h2 : ks ≤ 7302250) : VL l b 6 xs 1694 [none, some (aR 0), some (aR 54), some (aI 0)] [] M kc ks := by
  refine vl_iincE dL_law_1694 rfl (by decide) (by decide) (by decide) (by decide) rfl rfl ?_
  refine vl_goto dL_law_1697 ?_
  exact l_end (i := 0 + 6) (by decide) (by decide) h1 h2
theorem l_sw (hF : F0s M) (v : Int) (g0 : 0 ≤ v) : VL l b 6 xs 33 [none, some (aR 0), some (aR 54), some (aI 0)] [aI v] M 75 12789 := by
  by_cases h0 : v = 0
  · exact vl_tabIn dL_law_33 0 220 h0 rfl rfl rfl (lc_corner hF l_fin)
  have g1 : 1 ≤ v := by clear hF; omega
  clear g0 h0
  by_cases h1 : v = 1
  · exact vl_tabIn dL_law_33 1 243 h1 rfl rfl rfl (lc_street hF l_fin)
  have g2 : 2 ≤ v := by clear hF; omega
  clear g1 h1
  by_cases h2 : v = 2
  · exact vl_tabIn dL_law_33 2 312 h2 rfl rfl rfl (lc_goal hF l_fin)
  have g3 : 3 ≤ v := by clear hF; omega
  clear g2 h2
  by_cases h3 : v = 3
  · exact vl_tabIn dL_law_33 3 335 h3 rfl rfl rfl (lc_teller hF l_fin)
  have g4 : 4 ≤ v := by clear hF; omega
  clear g3 h3
  by_cases h4 : v = 4
  · exact vl_tabIn dL_law_33 4 388 h4 rfl rfl rfl (lc_telling hF l_fin)
  have g5 : 5 ≤ v := by clear hF; omega
  clear g4 h4
  by_cases h5 : v = 5
  · exact vl_tabIn dL_law_33 5 441 h5 rfl rfl rfl (lc_feed hF l_fin)
  have g6 : 6 ≤ v := by clear hF; omega
  clear g5 h5
  by_cases h6 : v = 6
  · exact vl_tabIn dL_law_33 6 504 h6 rfl rfl rfl (lc_end hF l_fin)
  have g7 : 7 ≤ v := by clear hF; omega
  clear g6 h6
  by_cases h7 : v = 7
  · exact vl_tabIn dL_law_33 7 527 h7 rfl rfl rfl (lc_text hF l_fin)
  have g8 : 8 ≤ v := by clear hF; omega
  clear g7 h7
  by_cases h8 : v = 8
  · exact vl_tabIn dL_law_33 8 540 h8 rfl rfl rfl (lc_fault hF l_fin)
  have g9 : 9 ≤ v := by clear hF; omega
  clear g8 h8
  by_cases h9 : v = 9
  · exact vl_tabIn dL_law_33 9 563 h9 rfl rfl rfl (lc_by hF l_fin)
  have g10 : 10 ≤ v := by clear hF; omega
  clear g9 h9
  by_cases h10 : v = 10
  · exact vl_tabIn dL_law_33 10 586 h10 rfl rfl rfl (lc_start hF l_fin)
  have g11 : 11 ≤ v := by clear hF; omega
  clear g10 h10
  by_cases h11 : v = 11
  · exact vl_tabIn dL_law_33 11 619 h11 rfl rfl rfl (lc_walk hF l_fin)
  have g12 : 12 ≤ v := by clear hF; omega
  clear g11 h11
  by_cases h12 : v = 12
  · exact vl_tabIn dL_law_33 12 642 h12 rfl rfl rfl (lc_turn hF l_fin)
  have g13 : 13 ≤ v := by clear hF; omega
  clear g12 h12
  by_cases h13 : v = 13
  · exact vl_tabIn dL_law_33 13 665 h13 rfl rfl rfl (lc_ask hF l_fin)
  have g14 : 14 ≤ v := by clear hF; omega
  clear g13 h13
  by_cases h14 : v = 14
  · exact vl_tabIn dL_law_33 14 688 h14 rfl rfl rfl (lc_follow hF l_fin)
  have g15 : 15 ≤ v := by clear hF; omega
  clear g14 h14
  by_cases h15 : v = 15
  · exact vl_tabIn dL_law_33 15 711 h15 rfl rfl rfl (lc_played hF l_fin)
  have g16 : 16 ≤ v := by clear hF; omega
  clear g15 h15
  by_cases h16 : v = 16
  · exact vl_tabIn dL_law_33 16 734 h16 rfl rfl rfl (lc_day hF l_fin)
  have g17 : 17 ≤ v := by clear hF; omega
  clear g16 h16
  by_cases h17 : v = 17
  · exact vl_tabIn dL_law_33 17 767 h17 rfl rfl rfl (lc_undo hF l_fin)
  have g18 : 18 ≤ v := by clear hF; omega
  clear g17 h17
  by_cases h18 : v = 18
  · exact vl_tabIn dL_law_33 18 780 h18 rfl rfl rfl (lc_walker hF l_fin)
  have g19 : 19 ≤ v := by clear hF; omega
  clear g18 h18
  by_cases h19 : v = 19
  · exact vl_tabIn dL_law_33 19 803 h19 rfl rfl rfl (lc_ofCorner hF l_fin)
  have g20 : 20 ≤ v := by clear hF; omega
  clear g19 h19
  by_cases h20 : v = 20
  · exact vl_tabIn dL_law_33 20 836 h20 rfl rfl rfl (lc_ofTeller hF l_fin)
  have g21 : 21 ≤ v := by clear hF; omega
  clear g20 h20
  by_cases h21 : v = 21
  · exact vl_tabIn dL_law_33 21 869 h21 rfl rfl rfl (lc_ofTelling hF l_fin)
  have g22 : 22 ≤ v := by clear hF; omega
  clear g21 h21
  by_cases h22 : v = 22
  · exact vl_tabIn dL_law_33 22 902 h22 rfl rfl rfl (lc_leads hF l_fin)
  have g23 : 23 ≤ v := by clear hF; omega
  clear g22 h22
  by_cases h23 : v = 23
  · exact vl_tabIn dL_law_33 23 935 h23 rfl rfl rfl (lc_likely hF l_fin)
  have g24 : 24 ≤ v := by clear hF; omega
  clear g23 h23
  by_cases h24 : v = 24
  · exact vl_tabIn dL_law_33 24 968 h24 rfl rfl rfl (lc_byAll hF l_fin)
  have g25 : 25 ≤ v := by clear hF; omega
  clear g24 h24
  by_cases h25 : v = 25
  · exact vl_tabIn dL_law_33 25 1028 h25 rfl rfl rfl (lc_clash hF l_fin)
  have g26 : 26 ≤ v := by clear hF; omega
  clear g25 h25
  by_cases h26 : v = 26
  · exact vl_tabIn dL_law_33 26 1051 h26 rfl rfl rfl (lc_wrong hF l_fin)
  have g27 : 27 ≤ v := by clear hF; omega
  clear g26 h26
  by_cases h27 : v = 27
  · exact vl_tabIn dL_law_33 27 1100 h27 rfl rfl rfl (lc_far hF l_fin)
  have g28 : 28 ≤ v := by clear hF; omega
  clear g27 h27
  by_cases h28 : v = 28
  · exact vl_tabIn dL_law_33 28 1133 h28 rfl rfl rfl (lc_see hF l_fin)
  have g29 : 29 ≤ v := by clear hF; omega
  clear g28 h28
  by_cases h29 : v = 29
  · exact vl_tabIn dL_law_33 29 1167 h29 rfl rfl rfl (lc_orAsk hF l_fin)
  have g30 : 30 ≤ v := by clear hF; omega
  clear g29 h29
  by_cases h30 : v = 30
  · exact vl_tabIn dL_law_33 30 1190 h30 rfl rfl rfl (lc_safeSoFar hF l_fin)
  have g31 : 31 ≤ v := by clear hF; omega
  clear g30 h30
  by_cases h31 : v = 31
  · exact vl_tabIn dL_law_33 31 1249 h31 rfl rfl rfl (lc_howFar hF l_fin)
  have g32 : 32 ≤ v := by clear hF; omega
  clear g31 h31
  by_cases h32 : v = 32
  · exact vl_tabIn dL_law_33 32 1282 h32 rfl rfl rfl (lc_lost hF l_fin)
  have g33 : 33 ≤ v := by clear hF; omega
  clear g32 h32
  by_cases h33 : v = 33
  · exact vl_tabIn dL_law_33 33 1315 h33 rfl rfl rfl (lc_listen hF l_fin)
  have g34 : 34 ≤ v := by clear hF; omega
  clear g33 h33
  by_cases h34 : v = 34
  · exact vl_tabIn dL_law_33 34 1395 h34 rfl rfl rfl (lc_tell hF l_fin)
  have g35 : 35 ≤ v := by clear hF; omega
  clear g34 h34
  by_cases h35 : v = 35
  · exact vl_tabIn dL_law_33 35 1448 h35 rfl rfl rfl (lc_where hF l_fin)
  have g36 : 36 ≤ v := by clear hF; omega
  clear g35 h35
  by_cases h36 : v = 36
  · exact vl_tabIn dL_law_33 36 1497 h36 rfl rfl rfl (lc_map hF l_fin)
  have g37 : 37 ≤ v := by clear hF; omega
  clear g36 h36
  by_cases h37 : v = 37
  · exact vl_tabIn dL_law_33 37 1540 h37 rfl rfl rfl (lc_signs hF l_fin)
  have g38 : 38 ≤ v := by clear hF; omega
  clear g37 h37
  by_cases h38 : v = 38
  · exact vl_tabIn dL_law_33 38 1553 h38 rfl rfl rfl (lc_whose hF l_fin)
  have g39 : 39 ≤ v := by clear hF; omega
  clear g38 h38
  by_cases h39 : v = 39
  · exact vl_tabIn dL_law_33 39 1622 h39 rfl rfl rfl (lc_heard hF l_fin)
  have g40 : 40 ≤ v := by clear hF; omega
  clear g39 h39
  by_cases h40 : v = 40
  · exact vl_tabIn dL_law_33 40 1645 h40 rfl rfl rfl (lc_image hF l_fin)
  have g41 : 41 ≤ v := by clear hF; omega
  clear g40 h40
  by_cases h41 : v = 41
  · exact vl_tabIn dL_law_33 41 1658 h41 rfl rfl rfl (lc_back hF l_fin)
  have g42 : 42 ≤ v := by clear hF; omega
  clear g41 h41
  by_cases h42 : v = 42
  · exact vl_tabIn dL_law_33 42 1671 h42 rfl rfl rfl (lc_about hF l_fin)
  have g43 : 43 ≤ v := by clear hF; omega
  clear g42 h42
  exact vl_tabOut dL_law_33 1694 (.inr (by omega)) rfl (l_fin M 75 12789 (by decide) (by decide))
theorem l_loop (hF : F0s M) (hLs : Ls ≤ 6) : VL l b Ls xs 18 [none, some (aR 0), some (aR 54), some (aI 0)] [] M 75 12789 := by
  by_cases h : Ls = 6
  · subst h
    refine vl_iload_n dL_law_18 rfl ?_
    refine vl_slen dL_law_19 dL_law_20 (by decide) ?_
    refine vl_bipush dL_law_21 rfl ?_
    refine vl_isubE dL_law_23 (by decide) (by decide) ?_
    refine vl_icmp_gt dL_law_24 (fun h9 => absurd h9 (by decide)) (fun _ => ?_)
    refine vl_s0 dL_law_27 dL_law_28 dL_law_29 rfl (by decide) (by decide) ?_
    refine vl_bipush dL_law_30 rfl ?_
    refine vl_iandM dL_law_32 64 6 (by decide) (by decide) (by decide) ?_
    exact l_sw hF _ (Int.emod_nonneg _ (by decide))
  · exact l_end (by omega) (by omega) (by decide) (by decide)
theorem l_entry (hLs : Ls ≤ 6) : VL l b Ls xs 0 [none, none, none, none] [] Me 0 0 := by
  refine vl_newOq 0 dL_law_0 rfl cl_11 clL_7 iaX11 iiX11 (Nat.le_of_ble_eq_true rfl) (Nat.le_of_ble_eq_true rfl) ?_
  refine vl_dup dL_law_3 rfl ?_
  refine vl_callI dL_law_4 (qX11_init (M := mkC Me (.inl 11)) rfl rfl) rfl okX11_init inX11_init rfl rfl lkL_9 rfl (Nat.le_of_ble_eq_true rfl) (Nat.le_of_ble_eq_true rfl) (Nat.le_of_ble_eq_true rfl) (Nat.le_of_ble_eq_true rfl) ?_
  refine vl_astore_n dL_law_7 (by decide) rfl rfl ?_
  refine vl_newOq 54 dL_law_8 hlb cl_12 clL_10 iaX12 iiX12 (Nat.le_of_ble_eq_true rfl) (Nat.le_of_ble_eq_true rfl) ?_
  refine vl_dup dL_law_11 rfl ?_
  refine vl_callI dL_law_12 (qX12_init (M := mkC Mb (.inl 12)) (ln_mk hlb) (sh_nw hlb)) rfl okX12_init inX12_init rfl rfl lkL_12 rfl (Nat.le_of_ble_eq_true rfl) (Nat.le_of_ble_eq_true rfl) (Nat.le_of_ble_eq_true rfl) (Nat.le_of_ble_eq_true rfl) ?_
  refine vl_astore_n dL_law_15 (by decide) rfl rfl ?_
  refine vl_iconst dL_law_16 rfl ?_
  refine vl_istore_n dL_law_17 (by decide) rfl rfl ?_
  exact l_loop (M := M0) ⟨st0, zc0, zm0, tx0, hl0⟩ hLs
end LE
