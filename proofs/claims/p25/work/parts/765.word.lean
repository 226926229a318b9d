/-! WORDOF of Reader (written by wip/p35/c765.py) -/
set_option maxRecDepth 4000 in
theorem sfX4_wordOf {l : Launch} {M : Mem} (hB : Box M)  (f : Int) (t : Int) (p0 : 0 ≤ f) (p1 : f ≤ 300) (p2 : 0 ≤ t) (p3 : t ≤ 300) : Call l mdX4_wordOf [aR 22, aI f, aI t] M (fun q N => ∃ r : Int, q = some (aI r) ∧ M = N) := by
  have hB0 : BF fQ M M := BF.start hB
  refine Call.of [some (aR 22), some (aI f), some (aI t), none, none, none, none] rfl (Nat.le_of_ble_eq_true rfl) rfl ?_
  refine vc_iconst dX4_wordOf_0 rfl ?_
  refine vc_istore_n dX4_wordOf_1 (by decide) rfl (show _ = [some (aR 22), some (aI f), some (aI t), some (aI 0), none, none, none] from rfl) ?_
  refine vc_iload_n dX4_wordOf_2 rfl ?_
  refine vc_istore dX4_wordOf_3 (by decide) rfl (show _ = [some (aR 22), some (aI f), some (aI t), some (aI 0), some (aI f), none, none] from rfl) ?_
  refine vc_iconst dX4_wordOf_5 rfl ?_
  refine vc_istore dX4_wordOf_6 (by decide) rfl (show _ = [some (aR 22), some (aI f), some (aI t), some (aI 0), some (aI f), some (aI 0), none] from rfl) ?_
  have lp8 : ∀ (n8 : Nat) (v3 : Int) (v4 : Int) (v5 : Int), (0 ≤ v3) → (v3 ≤ v5) → ((-1) ≤ v4) → (v4 ≤ 300) → (0 ≤ v5) → (v5 ≤ 193) → (193 - v5).toNat < n8 → VC l mdX4_wordOf 8 [some (aR 22), some (aI f), some (aI t), some (aI v3), some (aI v4), some (aI v5), none] [] M 0 0 (fun q N => ∃ r : Int, q = some (aI r) ∧ M = N) := by
    intro n8
    induction n8 with
    | zero => intro v3 v4 v5 g8_3a g8_3b g8_4a g8_4b g8_5a g8_5b hm8; exact absurd hm8 (Nat.not_lt_zero _)
    | succ n8 ih8 =>
      intro v3 v4 v5 g8_3a g8_3b g8_4a g8_4b g8_5a g8_5b hm8
      refine vc_iload dX4_wordOf_8 rfl ?_
      refine vc_wlen dX4_wordOf_10 dX4_wordOf_12 (Nat.le_of_ble_eq_true rfl) (Nat.le_of_ble_eq_true rfl) (Nat.le_of_ble_eq_true rfl) ?_
      refine vc_icmp_ge dX4_wordOf_15 (fun h1 => ?_) (fun h1 => ?_)
      · refine vc_iconst dX4_wordOf_91 rfl ?_
        refine vc_iret dX4_wordOf_92 rfl (Nat.le_of_ble_eq_true rfl) (Nat.le_of_ble_eq_true rfl) ?_
        exact ⟨_, rfl, rfl⟩
      · refine vc_wchr dX4_wordOf_18 dX4_wordOf_20 dX4_wordOf_22 rfl (by omega) (by omega) (Nat.le_of_ble_eq_true rfl) (Nat.le_of_ble_eq_true rfl) (Nat.le_of_ble_eq_true rfl) (fun x2 => ?_)
        refine vc_istore dX4_wordOf_25 (by decide) rfl (show _ = [some (aR 22), some (aI f), some (aI t), some (aI v3), some (aI v4), some (aI v5), some (aI x2)] from rfl) ?_
        refine vc_iload dX4_wordOf_27 rfl ?_
        refine vc_bipush dX4_wordOf_29 rfl ?_
        refine vc_icmp_ne dX4_wordOf_31 (fun h3 => ?_) (fun h3 => ?_)
        · refine vc_iload dX4_wordOf_51 rfl ?_
          refine vc_iconst dX4_wordOf_53 rfl ?_
          refine vc_icmp_eq dX4_wordOf_54 (fun h4 => ?_) (fun h4 => ?_)
          · refine vc_iincE dX4_wordOf_85 rfl (by omega) (by omega) (by decide) rfl (show _ = [some (aR 22), some (aI f), some (aI t), some (aI v3), some (aI v4), some (aI (v5 + 1)), some (aI x2)] from rfl) ?_
            refine vc_goto dX4_wordOf_88 ?_
            refine vc_less [some (aR 22), some (aI f), some (aI t), some (aI v3), some (aI v4), some (aI (v5 + 1)), none] (lessL_keep (lessL_keep (lessL_keep (lessL_keep (lessL_keep (lessL_keep (lessL_drop (lessL_nil)))))))) ?_
            exact ih8 v3 v4 (v5 + 1) (by omega) (by omega) (by omega) (by omega) (by omega) (by omega) (by omega)
          · refine vc_iload dX4_wordOf_57 rfl ?_
            refine vc_iload_n dX4_wordOf_59 rfl ?_
            refine vc_icmp_ge dX4_wordOf_60 (fun h5 => ?_) (fun h5 => ?_)
            · refine vc_iconst dX4_wordOf_82 rfl ?_
              refine vc_istore dX4_wordOf_83 (by decide) rfl (show _ = [some (aR 22), some (aI f), some (aI t), some (aI v3), some (aI (-1)), some (aI v5), some (aI x2)] from rfl) ?_
              refine vc_iincE dX4_wordOf_85 rfl (by omega) (by omega) (by decide) rfl (show _ = [some (aR 22), some (aI f), some (aI t), some (aI v3), some (aI (-1)), some (aI (v5 + 1)), some (aI x2)] from rfl) ?_
              refine vc_goto dX4_wordOf_88 ?_
              refine vc_less [some (aR 22), some (aI f), some (aI t), some (aI v3), some (aI (-1)), some (aI (v5 + 1)), none] (lessL_keep (lessL_keep (lessL_keep (lessL_keep (lessL_keep (lessL_keep (lessL_drop (lessL_nil)))))))) ?_
              exact ih8 v3 (-1) (v5 + 1) (by omega) (by omega) (by omega) (by omega) (by omega) (by omega) (by omega)
            · refine vc_aload_n dX4_wordOf_63 rfl ?_
              refine vc_getR dX4_wordOf_64 flX4_9 (s_22 hB0.1.1) rfl (r_22_0 hB0.1.1) ?_
              refine vc_iload dX4_wordOf_67 rfl ?_
              refine vc_iaload dX4_wordOf_69 (s_21 hB0.1.1) (by omega) (by omega) ?_
              refine vc_iload dX4_wordOf_70 rfl ?_
              refine vc_icmp_ne dX4_wordOf_72 (fun h6 => ?_) (fun h6 => ?_)
              · refine vc_iconst dX4_wordOf_82 rfl ?_
                refine vc_istore dX4_wordOf_83 (by decide) rfl (show _ = [some (aR 22), some (aI f), some (aI t), some (aI v3), some (aI (-1)), some (aI v5), some (aI x2)] from rfl) ?_
                refine vc_iincE dX4_wordOf_85 rfl (by omega) (by omega) (by decide) rfl (show _ = [some (aR 22), some (aI f), some (aI t), some (aI v3), some (aI (-1)), some (aI (v5 + 1)), some (aI x2)] from rfl) ?_
                refine vc_goto dX4_wordOf_88 ?_
                refine vc_less [some (aR 22), some (aI f), some (aI t), some (aI v3), some (aI (-1)), some (aI (v5 + 1)), none] (lessL_keep (lessL_keep (lessL_keep (lessL_keep (lessL_keep (lessL_keep (lessL_drop (lessL_nil)))))))) ?_
                exact ih8 v3 (-1) (v5 + 1) (by omega) (by omega) (by omega) (by omega) (by omega) (by omega) (by omega)
              · refine vc_iload dX4_wordOf_75 rfl ?_
                refine vc_iconst dX4_wordOf_77 rfl ?_
                refine vc_iaddE dX4_wordOf_78 (by omega) (by omega) ?_
                refine vc_goto dX4_wordOf_79 ?_
                refine vc_nameI (fun x7 ex7 => ?_)
                refine vc_istore dX4_wordOf_83 (by decide) rfl (show _ = [some (aR 22), some (aI f), some (aI t), some (aI v3), some (aI x7), some (aI v5), some (aI x2)] from rfl) ?_
                refine vc_iincE dX4_wordOf_85 rfl (by omega) (by omega) (by decide) rfl (show _ = [some (aR 22), some (aI f), some (aI t), some (aI v3), some (aI x7), some (aI (v5 + 1)), some (aI x2)] from rfl) ?_
                refine vc_goto dX4_wordOf_88 ?_
                refine vc_less [some (aR 22), some (aI f), some (aI t), some (aI v3), some (aI x7), some (aI (v5 + 1)), none] (lessL_keep (lessL_keep (lessL_keep (lessL_keep (lessL_keep (lessL_keep (lessL_drop (lessL_nil)))))))) ?_
                exact ih8 v3 x7 (v5 + 1) (by omega) (by omega) (by omega) (by omega) (by omega) (by omega) (by omega)
        · refine vc_iload dX4_wordOf_34 rfl ?_
          refine vc_iload_n dX4_wordOf_36 rfl ?_
          refine vc_icmp_ne dX4_wordOf_37 (fun h8 => ?_) (fun h8 => ?_)
          · refine vc_iincE dX4_wordOf_42 rfl (by omega) (by omega) (by decide) rfl (show _ = [some (aR 22), some (aI f), some (aI t), some (aI (v3 + 1)), some (aI v4), some (aI v5), some (aI x2)] from rfl) ?_
            refine vc_iload_n dX4_wordOf_45 rfl ?_
            refine vc_istore dX4_wordOf_46 (by decide) rfl (show _ = [some (aR 22), some (aI f), some (aI t), some (aI (v3 + 1)), some (aI f), some (aI v5), some (aI x2)] from rfl) ?_
            refine vc_goto dX4_wordOf_48 ?_
            refine vc_iincE dX4_wordOf_85 rfl (by omega) (by omega) (by decide) rfl (show _ = [some (aR 22), some (aI f), some (aI t), some (aI (v3 + 1)), some (aI f), some (aI (v5 + 1)), some (aI x2)] from rfl) ?_
            refine vc_goto dX4_wordOf_88 ?_
            refine vc_less [some (aR 22), some (aI f), some (aI t), some (aI (v3 + 1)), some (aI f), some (aI (v5 + 1)), none] (lessL_keep (lessL_keep (lessL_keep (lessL_keep (lessL_keep (lessL_keep (lessL_drop (lessL_nil)))))))) ?_
            exact ih8 (v3 + 1) f (v5 + 1) (by omega) (by omega) (by omega) (by omega) (by omega) (by omega) (by omega)
          · refine vc_iload_n dX4_wordOf_40 rfl ?_
            refine vc_iret dX4_wordOf_41 rfl (Nat.le_of_ble_eq_true rfl) (Nat.le_of_ble_eq_true rfl) ?_
            exact ⟨_, rfl, rfl⟩
  exact lp8 _ 0 f 0 (by omega) (by omega) (by omega) (by omega) (by omega) (by omega) (Nat.lt_succ_self _)
