/-! THE DEEDS of the reference: plays and days (written by wip/laws2/c10b.py) -/
/-- a clause as both keep it -/
def clR (g : Nat → Int) (x : Nat) (f : Nat → Int) (k : Nat) : Prop := g x = f (5 * k) ∧ 0 ≤ f (5 * k) ∧ f (5 * k) ≤ 15 ∧ (5 ≤ f (5 * k) → g (x + 1) = f (5 * k + 1)) ∧ (f (5 * k) = 6 ∨ f (5 * k) = 7 ∨ f (5 * k) = 10 ∨ f (5 * k) = 11 → g (x + 2) = f (5 * k + 2)) ∧ (f (5 * k) = 6 ∨ f (5 * k) = 7 → g (x + 3) = f (5 * k + 3)) ∧ (f (5 * k) = 12 → 1 ≤ f (5 * k + 1)) ∧ (f (5 * k) = 10 → (0 ≤ f (5 * k + 2) ∧ f (5 * k + 2) ≤ 3) ∧ okTn (f (5 * k + 3)) (f (5 * k + 4)) ∧ g (x + 3) = tnC (f (5 * k + 3)) (f (5 * k + 4)) ∧ ∀ i : Nat, i < tnC (f (5 * k + 3)) (f (5 * k + 4)) → g (x + 4 + i) = tnI (f (5 * k + 3)) (f (5 * k + 4)) i)
set_option maxRecDepth 4000 in
theorem sfX12_isTaughtF {l : Launch} {M : Mem} (hB : Box M) (S : Sw) (c d : Int) (x : Int) (p0 : 1 ≤ x) (p1 : x ≤ 2873) (p2 : 1 ≤ mI M 57 (x + 3).toNat) (p3 : mI M 57 (x + 3).toNat ≤ 6) (p4 : 0 ≤ mI M 57 (x + 2).toNat) (p5 : mI M 57 (x + 2).toNat ≤ 3) (p6 : AR (mI M 55) S) (p7 : okTn c d) (p8 : mI M 57 (x + 3).toNat = tnC c d) (p9 : ∀ i : Nat, i < tnC c d → mI M 57 ((x + 3).toNat + 1 + i) = tnI c d i) : Call l mdX12_isTaught [aR 54, aI x] M (fun q N => ∃ r : Int, q = some (aI r) ∧ BF fR M N ∧ mI N 57 = mI M 57 ∧ 0 ≤ r ∧ r ≤ 1 ∧ (∀ (S' : Sw) (r9 : Int), TellingS (mI M 57 (x + 1).toNat) (mI M 57 (x + 2).toNat) c d S S' r9 → ((r9 = -1 ∧ r = 0) ∨ (r9 ≠ -1 ∧ r = 1)) ∧ AR (mI N 55) S')) := by
  have hB0 : BF fR M M := BF.start hB
  refine Call.of [some (aR 54), some (aI x), none] rfl (Nat.le_of_ble_eq_true rfl) rfl ?_
  have p5 := p6
  have p6 := p7
  have p7 := p8
  have p8 := p9
  refine vc_aload_n dX12_isTaught_0 rfl ?_
  refine vc_aload_n dX12_isTaught_1 rfl ?_
  refine vc_getR dX12_isTaught_2 flX12_16 (s_54 hB0.1.1) rfl (r_54_2 hB0.1.1) ?_
  refine vc_iload_n dX12_isTaught_5 rfl ?_
  refine vc_iconst dX12_isTaught_6 rfl ?_
  refine vc_iaddE dX12_isTaught_7 (by omega) (by omega) ?_
  refine vc_iaload dX12_isTaught_8 (s_57 hB0.1.1) (by omega) (by omega) ?_
  refine vc_putI dX12_isTaught_9 (plX12_97 _ rfl) (s_54 hB0.1.1) rfl ?_
  have kp2 : mI (sI M 54 4 (mI M 57 ((x + 3).toNat))) 57 = mI M 57 := (kp_sI rfl rfl)
  have kp3 : mI (sI M 54 4 (mI M 57 ((x + 3).toNat))) 55 = mI M 55 := (kp_sI rfl rfl)
  have hB4 : BF fR M (sI M 54 4 (mI M 57 ((x + 3).toNat))) := BF.w54_4 hB0 rfl (by omega) (by omega)
  refine vc_iconst dX12_isTaught_12 rfl ?_
  refine vc_istore_n dX12_isTaught_13 (by decide) rfl (show _ = [some (aR 54), some (aI x), some (aI 0)] from rfl) ?_
  have lp14 : ∀ (n14 : Nat) (Mq14 : Mem) (v2 : Int), (BF fR M Mq14) → (mI Mq14 57 = mI M 57) → (mI Mq14 55 = mI M 55) → (0 ≤ v2) → (v2 ≤ 6) → (mI Mq14 54 4 = mI M 57 (x + 3).toNat) → (∀ i : Nat, (i : Int) < v2 → mI Mq14 58 i = mI M 57 ((x + 3).toNat + 1 + i)) → (6 - v2).toNat < n14 → VC l mdX12_isTaught 14 [some (aR 54), some (aI x), some (aI v2)] [] Mq14 0 0 (fun q N => ∃ r : Int, q = some (aI r) ∧ BF fR M N ∧ mI N 57 = mI M 57 ∧ 0 ≤ r ∧ r ≤ 1 ∧ (∀ (S' : Sw) (r9 : Int), TellingS (mI M 57 (x + 1).toNat) (mI M 57 (x + 2).toNat) c d S S' r9 → ((r9 = -1 ∧ r = 0) ∨ (r9 ≠ -1 ∧ r = 1)) ∧ AR (mI N 55) S')) := by
    intro n14
    induction n14 with
    | zero => intro Mq14 v2 hQ14 kp14_57 kp14_55 g14_2a g14_2b g14i0 g14i1 hm14; exact absurd hm14 (Nat.not_lt_zero _)
    | succ n14 ih14 =>
      intro Mq14 v2 hQ14 kp14_57 kp14_55 g14_2a g14_2b g14i0 g14i1 hm14
      refine vc_iload_n dX12_isTaught_14 rfl ?_
      refine vc_aload_n dX12_isTaught_15 rfl ?_
      refine vc_getI dX12_isTaught_16 flX12_97 (s_54 hQ14.1.1) rfl ?_
      have k5 : 0 ≤ mI Mq14 54 4 ∧ mI Mq14 54 4 ≤ 6 := b54_4 (M := Mq14) hQ14.1
      refine vc_icmp_ge dX12_isTaught_19 (fun h6 => ?_) (fun h6 => ?_)
      · refine vc_aload_n dX12_isTaught_44 rfl ?_
        refine vc_aload_n dX12_isTaught_45 rfl ?_
        refine vc_getR dX12_isTaught_46 flX12_16 (s_54 hQ14.1.1) rfl (r_54_2 hQ14.1.1) ?_
        refine vc_iload_n dX12_isTaught_49 rfl ?_
        refine vc_iconst dX12_isTaught_50 rfl ?_
        refine vc_iaddE dX12_isTaught_51 (by omega) (by omega) ?_
        refine vc_iaload dX12_isTaught_52 (s_57 hQ14.1.1) (by omega) (by omega) ?_
        have k7 : mI Mq14 57 ((x + 1).toNat) = mI M 57 ((x + 1).toNat) := congrFun kp14_57 ((x + 1).toNat)
        refine vc_cVI dX12_isTaught_53 (sfX12_isTellerF (M := Mq14) hQ14.1  (mI Mq14 57 ((x + 1).toNat)) ) rfl okX12_isTeller viX12_isTeller lkX12_103 (s_54 hQ14.1.1) cl_12 rfl (Nat.le_of_ble_eq_true rfl) ⟨rfl, rfl⟩ (Nat.le_of_ble_eq_true rfl) (Nat.le_of_ble_eq_true rfl) (Nat.le_of_ble_eq_true rfl) ?_
        rintro x8 _ ⟨rfl, h9, h10, h11, h12⟩
        refine vc_if_eq dX12_isTaught_56 (fun h13 => ?_) (fun h13 => ?_)
        · refine vc_iconst dX12_isTaught_86 rfl ?_
          refine vc_zret dX12_isTaught_87 rfl (by first | decide | omega) (Nat.le_of_ble_eq_true rfl) (Nat.le_of_ble_eq_true rfl) ?_
          refine ⟨_, rfl, hQ14, kp14_57, by omega, by omega, fun S' r9 hC => ?_⟩
          have c2 := p5.1.1.2.2.1
          have z := tell_bad (M := M) kp14_55 p5 (fun q => by obtain ⟨⟨k1, k2, k3⟩, _⟩ := q; have k2b := congrFun kp14_55 2; omega) hC
          exact ⟨by omega, z.2⟩
        · refine vc_aload_n dX12_isTaught_59 rfl ?_
          refine vc_aload_n dX12_isTaught_60 rfl ?_
          refine vc_getR dX12_isTaught_61 flX12_16 (s_54 hQ14.1.1) rfl (r_54_2 hQ14.1.1) ?_
          refine vc_iload_n dX12_isTaught_64 rfl ?_
          refine vc_iconst dX12_isTaught_65 rfl ?_
          refine vc_iaddE dX12_isTaught_66 (by omega) (by omega) ?_
          refine vc_iaload dX12_isTaught_67 (s_57 hQ14.1.1) (by omega) (by omega) ?_
          refine vc_aload_n dX12_isTaught_68 rfl ?_
          refine vc_getR dX12_isTaught_69 flX12_16 (s_54 hQ14.1.1) rfl (r_54_2 hQ14.1.1) ?_
          refine vc_iload_n dX12_isTaught_72 rfl ?_
          refine vc_iconst dX12_isTaught_73 rfl ?_
          refine vc_iaddE dX12_isTaught_74 (by omega) (by omega) ?_
          refine vc_iaload dX12_isTaught_75 (s_57 hQ14.1.1) (by omega) (by omega) ?_
          have k15 : mI Mq14 57 ((x + 2).toNat) = mI M 57 ((x + 2).toNat) := congrFun kp14_57 ((x + 2).toNat)
          have k58 : ∀ i : Nat, i < tnC c d → mI Mq14 58 i = tnI c d i := fun i hi => (g14i1 i (by omega)).trans (p8 i hi)
          refine vc_cVI dX12_isTaught_76 (sfX12_tellNowF (M := Mq14) hQ14.1  (mI Mq14 57 ((x + 1).toNat)) (mI Mq14 57 ((x + 2).toNat)) (by omega) (by omega) (by omega) (by omega) (by omega)) rfl okX12_tellNow viX12_tellNow lkX12_109 (s_54 hQ14.1.1) cl_12 rfl (Nat.le_of_ble_eq_true rfl) ⟨rfl, rfl⟩ (Nat.le_of_ble_eq_true rfl) (Nat.le_of_ble_eq_true rfl) (Nat.le_of_ble_eq_true rfl) ?_
          rintro x16 M17 ⟨hB18, kp19, h20⟩
          have hB21 : BF fR M M17 := BF.go hQ14 hB18
          have kp22 : mI M17 57 = mI M 57 := kp_go kp14_57 kp19
          have htn := h20
          refine vc_if_lt dX12_isTaught_79 (fun h23 => ?_) (fun h23 => ?_)
          · refine vc_iconst dX12_isTaught_86 rfl ?_
            refine vc_zret dX12_isTaught_87 rfl (by first | decide | omega) (Nat.le_of_ble_eq_true rfl) (Nat.le_of_ble_eq_true rfl) ?_
            refine ⟨_, rfl, hB21, kp22, by omega, by omega, fun S' r9 hC => ?_⟩
            have c2 := p5.1.1.2.2.1
            have k2b := congrFun kp14_55 2
            have hC2 := hC
            rw [← congrFun kp14_57 (x + 1).toNat, ← congrFun kp14_57 (x + 2).toNat] at hC2
            have z := htn.ar (S := S) (by rw [kp14_55]; exact p5) ⟨by omega, by omega⟩ ⟨by omega, by omega⟩ p6 (by omega) k58 hC2
            have hw := p5.1.2.2.2.2.2.2.2
            obtain ⟨w1, w2, w3, w4, w5, w6, w7⟩ := hw
            refine ⟨?_, z.2⟩
            rcases hC.iff w5 with ⟨_, e1, _⟩ | ⟨_, _, e1, _⟩ <;> omega
          · refine vc_iconst dX12_isTaught_82 rfl ?_
            refine vc_goto dX12_isTaught_83 ?_
            refine vc_zret dX12_isTaught_87 rfl (by first | decide | omega) (Nat.le_of_ble_eq_true rfl) (Nat.le_of_ble_eq_true rfl) ?_
            refine ⟨_, rfl, hB21, kp22, by omega, by omega, fun S' r9 hC => ?_⟩
            have c2 := p5.1.1.2.2.1
            have k2b := congrFun kp14_55 2
            have hC2 := hC
            rw [← congrFun kp14_57 (x + 1).toNat, ← congrFun kp14_57 (x + 2).toNat] at hC2
            have z := htn.ar (S := S) (by rw [kp14_55]; exact p5) ⟨by omega, by omega⟩ ⟨by omega, by omega⟩ p6 (by omega) k58 hC2
            have hw := p5.1.2.2.2.2.2.2.2
            obtain ⟨w1, w2, w3, w4, w5, w6, w7⟩ := hw
            refine ⟨?_, z.2⟩
            rcases hC.iff w5 with ⟨_, e1, _⟩ | ⟨_, _, e1, _⟩ <;> omega
      · refine vc_aload_n dX12_isTaught_22 rfl ?_
        refine vc_getR dX12_isTaught_23 flX12_19 (s_54 hQ14.1.1) rfl (r_54_3 hQ14.1.1) ?_
        refine vc_iload_n dX12_isTaught_26 rfl ?_
        refine vc_aload_n dX12_isTaught_27 rfl ?_
        refine vc_getR dX12_isTaught_28 flX12_16 (s_54 hQ14.1.1) rfl (r_54_2 hQ14.1.1) ?_
        refine vc_iload_n dX12_isTaught_31 rfl ?_
        refine vc_iconst dX12_isTaught_32 rfl ?_
        refine vc_iaddE dX12_isTaught_33 (by omega) (by omega) ?_
        refine vc_iload_n dX12_isTaught_34 rfl ?_
        refine vc_iaddE dX12_isTaught_35 (by omega) (by omega) ?_
        refine vc_iaload dX12_isTaught_36 (s_57 hQ14.1.1) (by omega) (by omega) ?_
        have k24 : mI Mq14 57 (((x + 4) + v2).toNat) = mI M 57 (((x + 4) + v2).toNat) := congrFun kp14_57 (((x + 4) + v2).toNat)
        refine vc_iastore dX12_isTaught_37 (s_58 hQ14.1.1) (by omega) (by omega) ?_
        have kp25 : mI (sI Mq14 58 v2.toNat (mI Mq14 57 (((x + 4) + v2).toNat))) 57 = mI M 57 := (kp_sI kp14_57 rfl)
        have kp26 : mI (sI Mq14 58 v2.toNat (mI Mq14 57 (((x + 4) + v2).toNat))) 55 = mI M 55 := (kp_sI kp14_55 rfl)
        have hB27 : BF fR M (sI Mq14 58 v2.toNat (mI Mq14 57 (((x + 4) + v2).toNat))) := BF.w58 hQ14 (fun _ => rfl) _
        refine vc_iincE dX12_isTaught_38 rfl (by omega) (by omega) (by decide) rfl (show _ = [some (aR 54), some (aI x), some (aI (v2 + 1))] from rfl) ?_
        refine vc_goto dX12_isTaught_41 ?_
        have k28 : mI (sI Mq14 58 v2.toNat (mI Mq14 57 (((x + 4) + v2).toNat))) 54 4 = mI Mq14 54 4 := rfl
        exact ih14 (sI Mq14 58 v2.toNat (mI Mq14 57 (((x + 4) + v2).toNat))) (v2 + 1) hB27 kp25 kp26 (by omega) (by omega) (by omega) (by first | (intro i hi; exfalso; omega) | (intro i hi; by_cases e : i = v2.toNat; (rw [mI_sI, if_pos (by omega), show ((x + 4) + v2).toNat = (x + 3).toNat + 1 + i by omega]; first | done | exact congrFun kp14_57 _); (rw [mI_sI, if_neg (by omega)]; exact g14i1 i (by omega)))) (by omega)
  have k29 : mI (sI M 54 4 (mI M 57 ((x + 3).toNat))) 54 4 = mI M 57 ((x + 3).toNat) := rfl
  exact lp14 _ (sI M 54 4 (mI M 57 ((x + 3).toNat))) 0 hB4 kp2 kp3 (by omega) (by omega) (by omega) (by first | (intro i hi; exfalso; omega) | (intro i hi; by_cases e : i = v2.toNat; (rw [mI_sI, if_pos (by omega), show ((x + 4) + v2).toNat = (x + 3).toNat + 1 + i by omega]; first | done | exact congrFun kp14_57 _); (rw [mI_sI, if_neg (by omega)]; exact g14i1 i (by omega)))) (Nat.lt_succ_self _)

set_option maxRecDepth 4000 in
theorem sfX12_isPlayedF {l : Launch} {M : Mem} (hB : Box M) (S : Sw) (f : Nat → Int) (k : Nat) (x : Int) (p0 : 1 ≤ x) (p1 : x ≤ 2873) (p2 : AR (mI M 55) S) (p3 : clR (mI M 57) x.toNat f k) (p4 : asB S 1000000) (p5 : LwS S (mI M 57)) (p6 : nmT S) : Call l mdX12_isPlayed [aR 54, aI x] M (fun q N => ∃ r : Int, q = some (aI r) ∧ BF fR M N ∧ mI N 57 = mI M 57 ∧ 0 ≤ r ∧ r ≤ 1 ∧ (∀ (S' : Sw) (ok : Int), DoS (f (5 * k)) (f (5 * k + 1)) (f (5 * k + 2)) (f (5 * k + 3)) (f (5 * k + 4)) S S' ok → r = ok ∧ AR (mI N 55) S')) := by
  have hB0 : BF fR M M := BF.start hB
  refine Call.of [some (aR 54), some (aI x), none, none] rfl (Nat.le_of_ble_eq_true rfl) rfl ?_
  have hx1 : mI M 57 (x + 1).toNat = mI M 57 (x.toNat + 1) := by rw [show (x + 1).toNat = x.toNat + 1 by omega]
  have hx2 : mI M 57 (x + 2).toNat = mI M 57 (x.toNat + 2) := by rw [show (x + 2).toNat = x.toNat + 2 by omega]
  have hx3 : mI M 57 (x + 3).toNat = mI M 57 (x.toNat + 3) := by rw [show (x + 3).toNat = x.toNat + 3 by omega]
  refine vc_aload_n dX12_isPlayed_0 rfl ?_
  refine vc_getR dX12_isPlayed_1 flX12_16 (s_54 hB0.1.1) rfl (r_54_2 hB0.1.1) ?_
  refine vc_iload_n dX12_isPlayed_4 rfl ?_
  refine vc_iconst dX12_isPlayed_5 rfl ?_
  refine vc_iaddE dX12_isPlayed_6 (by omega) (by omega) ?_
  refine vc_iaload dX12_isPlayed_7 (s_57 hB0.1.1) (by omega) (by omega) ?_
  refine vc_nameI (fun x2 ex2 => ?_)
  refine vc_istore_n dX12_isPlayed_8 (by decide) rfl (show _ = [some (aR 54), some (aI x), some (aI x2), none] from rfl) ?_
  refine vc_aload_n dX12_isPlayed_9 rfl ?_
  refine vc_getR dX12_isPlayed_10 flX12_16 (s_54 hB0.1.1) rfl (r_54_2 hB0.1.1) ?_
  refine vc_iload_n dX12_isPlayed_13 rfl ?_
  refine vc_iconst dX12_isPlayed_14 rfl ?_
  refine vc_iaddE dX12_isPlayed_15 (by omega) (by omega) ?_
  refine vc_iaload dX12_isPlayed_16 (s_57 hB0.1.1) (by omega) (by omega) ?_
  refine vc_nameI (fun x4 ex4 => ?_)
  refine vc_istore_n dX12_isPlayed_17 (by decide) rfl (show _ = [some (aR 54), some (aI x), some (aI x2), some (aI x4)] from rfl) ?_
  refine vc_aload_n dX12_isPlayed_18 rfl ?_
  refine vc_getR dX12_isPlayed_19 flX12_16 (s_54 hB0.1.1) rfl (r_54_2 hB0.1.1) ?_
  refine vc_iload_n dX12_isPlayed_22 rfl ?_
  refine vc_iaload dX12_isPlayed_23 (s_57 hB0.1.1) (by omega) (by omega) ?_
  by_cases h6 : mI M 57 x.toNat = 5
  · refine vc_tabIn dX12_isPlayed_24 5 84 h6 rfl rfl rfl ?_
    refine vc_aload_n dX12_isPlayed_84 rfl ?_
    refine vc_iload_n dX12_isPlayed_85 rfl ?_
    refine vc_cVI dX12_isPlayed_86 (sfX12_cornerF (M := M) hB0.1  x2 ) rfl okX12_corner viX12_corner lkX12_403 (s_54 hB0.1.1) cl_12 rfl (Nat.le_of_ble_eq_true rfl) ⟨rfl, rfl⟩ (Nat.le_of_ble_eq_true rfl) (Nat.le_of_ble_eq_true rfl) (Nat.le_of_ble_eq_true rfl) ?_
    rintro x7 M8 ⟨hB9, kp10, h11⟩
    have hB12 : BF fR M M8 := BF.go hB0 hB9
    have kp13 : mI M8 57 = mI M 57 := kp_go rfl kp10
    refine vc_if_lt dX12_isPlayed_89 (fun h14 => ?_) (fun h14 => ?_)
    · refine vc_iconst dX12_isPlayed_96 rfl ?_
      refine vc_zret dX12_isPlayed_97 rfl (by first | decide | omega) (Nat.le_of_ble_eq_true rfl) (Nat.le_of_ble_eq_true rfl) ?_
      refine ⟨_, rfl, hB12, kp13, by omega, by omega, fun S' ok hD => ?_⟩
      obtain ⟨q0, q1, q2, q3, q4, q5, q6, q7⟩ := id p3
      skip
      rcases hD with ⟨hw, r9, q, hok⟩ | ⟨hw, q⟩ | ⟨hw, q⟩ | ⟨hw, q⟩ | ⟨hw, r9, q, hok⟩ | ⟨hw, r9, q, hok⟩ | ⟨hw, q⟩ | ⟨hw, q, hok⟩ | ⟨hw, r9, q, hok⟩ | ⟨hw, r9, q, hok⟩ | ⟨hw, r9, q, hok⟩ | ⟨hw, q, hok⟩
      · rw [← q3 (by omega), ← hx1, ← ex2] at q
        have z := h11 S S' r9 p2 q
        have hw8 := p2.1.2.2.2.2.2.2.2
        obtain ⟨w1, w2, w3, w4, w5⟩ := hw8
        exact ⟨by have y : r9 = -1 ∨ 0 ≤ r9 := (by rcases q with ⟨_, e, _⟩ | ⟨_, e, _⟩ <;> omega); omega, z.2⟩
      · exfalso; omega
      · exfalso; omega
      · exfalso; omega
      · exfalso; omega
      · exfalso; omega
      · exfalso; omega
      · exfalso; omega
      · exfalso; omega
      · exfalso; omega
      · exfalso; omega
      · exfalso; omega
    · refine vc_iconst dX12_isPlayed_92 rfl ?_
      refine vc_goto dX12_isPlayed_93 ?_
      refine vc_zret dX12_isPlayed_97 rfl (by first | decide | omega) (Nat.le_of_ble_eq_true rfl) (Nat.le_of_ble_eq_true rfl) ?_
      refine ⟨_, rfl, hB12, kp13, by omega, by omega, fun S' ok hD => ?_⟩
      obtain ⟨q0, q1, q2, q3, q4, q5, q6, q7⟩ := id p3
      skip
      rcases hD with ⟨hw, r9, q, hok⟩ | ⟨hw, q⟩ | ⟨hw, q⟩ | ⟨hw, q⟩ | ⟨hw, r9, q, hok⟩ | ⟨hw, r9, q, hok⟩ | ⟨hw, q⟩ | ⟨hw, q, hok⟩ | ⟨hw, r9, q, hok⟩ | ⟨hw, r9, q, hok⟩ | ⟨hw, r9, q, hok⟩ | ⟨hw, q, hok⟩
      · rw [← q3 (by omega), ← hx1, ← ex2] at q
        have z := h11 S S' r9 p2 q
        have hw8 := p2.1.2.2.2.2.2.2.2
        obtain ⟨w1, w2, w3, w4, w5⟩ := hw8
        exact ⟨by have y : r9 = -1 ∨ 0 ≤ r9 := (by rcases q with ⟨_, e, _⟩ | ⟨_, e, _⟩ <;> omega); omega, z.2⟩
      · exfalso; omega
      · exfalso; omega
      · exfalso; omega
      · exfalso; omega
      · exfalso; omega
      · exfalso; omega
      · exfalso; omega
      · exfalso; omega
      · exfalso; omega
      · exfalso; omega
      · exfalso; omega
  by_cases h15 : mI M 57 x.toNat = 6
  · refine vc_tabIn dX12_isPlayed_24 6 98 h15 rfl rfl rfl ?_
    refine vc_aload_n dX12_isPlayed_98 rfl ?_
    refine vc_iload_n dX12_isPlayed_99 rfl ?_
    refine vc_iload_n dX12_isPlayed_100 rfl ?_
    refine vc_aload_n dX12_isPlayed_101 rfl ?_
    refine vc_getR dX12_isPlayed_102 flX12_16 (s_54 hB0.1.1) rfl (r_54_2 hB0.1.1) ?_
    refine vc_iload_n dX12_isPlayed_105 rfl ?_
    refine vc_iconst dX12_isPlayed_106 rfl ?_
    refine vc_iaddE dX12_isPlayed_107 (by omega) (by omega) ?_
    refine vc_iaload dX12_isPlayed_108 (s_57 hB0.1.1) (by omega) (by omega) ?_
    refine vc_iconst dX12_isPlayed_109 rfl ?_
    refine vc_cVI dX12_isPlayed_110 (sfX12_streetF (M := M) hB0.1  x2 x4 (mI M 57 ((x + 3).toNat)) 0 ) rfl okX12_street viX12_street lkX12_406 (s_54 hB0.1.1) cl_12 rfl (Nat.le_of_ble_eq_true rfl) ⟨rfl, rfl⟩ (Nat.le_of_ble_eq_true rfl) (Nat.le_of_ble_eq_true rfl) (Nat.le_of_ble_eq_true rfl) ?_
    rintro x17 M18 ⟨hB19, kp20, h21, h22, h23⟩
    have hB24 : BF fR M M18 := BF.go hB0 hB19
    have kp25 : mI M18 57 = mI M 57 := kp_go rfl kp20
    refine vc_zret dX12_isPlayed_113 rfl (by first | decide | omega) (Nat.le_of_ble_eq_true rfl) (Nat.le_of_ble_eq_true rfl) ?_
    refine ⟨_, rfl, hB24, kp25, by omega, by omega, fun S' ok hD => ?_⟩
    obtain ⟨q0, q1, q2, q3, q4, q5, q6, q7⟩ := id p3
    skip
    rcases hD with ⟨hw, r9, q, hok⟩ | ⟨hw, q⟩ | ⟨hw, q⟩ | ⟨hw, q⟩ | ⟨hw, r9, q, hok⟩ | ⟨hw, r9, q, hok⟩ | ⟨hw, q⟩ | ⟨hw, q, hok⟩ | ⟨hw, r9, q, hok⟩ | ⟨hw, r9, q, hok⟩ | ⟨hw, r9, q, hok⟩ | ⟨hw, q, hok⟩
    · exfalso; omega
    · rw [← q3 (by omega), ← q4 (by omega), ← q5 (by omega), ← hx1, ← ex2, ← hx2, ← ex4, ← hx3] at q
      have z := h23 S S' ok p2 (by rw [show bl 0 = 0 from rfl]; exact q)
      exact z
    · exfalso; omega
    · exfalso; omega
    · exfalso; omega
    · exfalso; omega
    · exfalso; omega
    · exfalso; omega
    · exfalso; omega
    · exfalso; omega
    · exfalso; omega
    · exfalso; omega
  by_cases h26 : mI M 57 x.toNat = 7
  · refine vc_tabIn dX12_isPlayed_24 7 114 h26 rfl rfl rfl ?_
    refine vc_aload_n dX12_isPlayed_114 rfl ?_
    refine vc_iload_n dX12_isPlayed_115 rfl ?_
    refine vc_iload_n dX12_isPlayed_116 rfl ?_
    refine vc_aload_n dX12_isPlayed_117 rfl ?_
    refine vc_getR dX12_isPlayed_118 flX12_16 (s_54 hB0.1.1) rfl (r_54_2 hB0.1.1) ?_
    refine vc_iload_n dX12_isPlayed_121 rfl ?_
    refine vc_iconst dX12_isPlayed_122 rfl ?_
    refine vc_iaddE dX12_isPlayed_123 (by omega) (by omega) ?_
    refine vc_iaload dX12_isPlayed_124 (s_57 hB0.1.1) (by omega) (by omega) ?_
    refine vc_iconst dX12_isPlayed_125 rfl ?_
    refine vc_cVI dX12_isPlayed_126 (sfX12_streetF (M := M) hB0.1  x2 x4 (mI M 57 ((x + 3).toNat)) 1 ) rfl okX12_street viX12_street lkX12_406 (s_54 hB0.1.1) cl_12 rfl (Nat.le_of_ble_eq_true rfl) ⟨rfl, rfl⟩ (Nat.le_of_ble_eq_true rfl) (Nat.le_of_ble_eq_true rfl) (Nat.le_of_ble_eq_true rfl) ?_
    rintro x28 M29 ⟨hB30, kp31, h32, h33, h34⟩
    have hB35 : BF fR M M29 := BF.go hB0 hB30
    have kp36 : mI M29 57 = mI M 57 := kp_go rfl kp31
    refine vc_zret dX12_isPlayed_129 rfl (by first | decide | omega) (Nat.le_of_ble_eq_true rfl) (Nat.le_of_ble_eq_true rfl) ?_
    refine ⟨_, rfl, hB35, kp36, by omega, by omega, fun S' ok hD => ?_⟩
    obtain ⟨q0, q1, q2, q3, q4, q5, q6, q7⟩ := id p3
    skip
    rcases hD with ⟨hw, r9, q, hok⟩ | ⟨hw, q⟩ | ⟨hw, q⟩ | ⟨hw, q⟩ | ⟨hw, r9, q, hok⟩ | ⟨hw, r9, q, hok⟩ | ⟨hw, q⟩ | ⟨hw, q, hok⟩ | ⟨hw, r9, q, hok⟩ | ⟨hw, r9, q, hok⟩ | ⟨hw, r9, q, hok⟩ | ⟨hw, q, hok⟩
    · exfalso; omega
    · exfalso; omega
    · rw [← q3 (by omega), ← q4 (by omega), ← q5 (by omega), ← hx1, ← ex2, ← hx2, ← ex4, ← hx3] at q
      have z := h34 S S' ok p2 (by rw [show bl 1 = 1 from rfl]; exact q)
      exact z
    · exfalso; omega
    · exfalso; omega
    · exfalso; omega
    · exfalso; omega
    · exfalso; omega
    · exfalso; omega
    · exfalso; omega
    · exfalso; omega
    · exfalso; omega
  by_cases h37 : mI M 57 x.toNat = 8
  · refine vc_tabIn dX12_isPlayed_24 8 130 h37 rfl rfl rfl ?_
    refine vc_aload_n dX12_isPlayed_130 rfl ?_
    refine vc_iload_n dX12_isPlayed_131 rfl ?_
    refine vc_cVI dX12_isPlayed_132 (sfX12_goalF (M := M) hB0.1  x2 ) rfl okX12_goal viX12_goal lkX12_410 (s_54 hB0.1.1) cl_12 rfl (Nat.le_of_ble_eq_true rfl) ⟨rfl, rfl⟩ (Nat.le_of_ble_eq_true rfl) (Nat.le_of_ble_eq_true rfl) (Nat.le_of_ble_eq_true rfl) ?_
    rintro x38 M39 ⟨hB40, kp41, h42, h43, h44⟩
    have hB45 : BF fR M M39 := BF.go hB0 hB40
    have kp46 : mI M39 57 = mI M 57 := kp_go rfl kp41
    refine vc_zret dX12_isPlayed_135 rfl (by first | decide | omega) (Nat.le_of_ble_eq_true rfl) (Nat.le_of_ble_eq_true rfl) ?_
    refine ⟨_, rfl, hB45, kp46, by omega, by omega, fun S' ok hD => ?_⟩
    obtain ⟨q0, q1, q2, q3, q4, q5, q6, q7⟩ := id p3
    skip
    rcases hD with ⟨hw, r9, q, hok⟩ | ⟨hw, q⟩ | ⟨hw, q⟩ | ⟨hw, q⟩ | ⟨hw, r9, q, hok⟩ | ⟨hw, r9, q, hok⟩ | ⟨hw, q⟩ | ⟨hw, q, hok⟩ | ⟨hw, r9, q, hok⟩ | ⟨hw, r9, q, hok⟩ | ⟨hw, r9, q, hok⟩ | ⟨hw, q, hok⟩
    · exfalso; omega
    · exfalso; omega
    · exfalso; omega
    · rw [← q3 (by omega), ← hx1, ← ex2] at q
      exact h44 S S' ok p2 q
    · exfalso; omega
    · exfalso; omega
    · exfalso; omega
    · exfalso; omega
    · exfalso; omega
    · exfalso; omega
    · exfalso; omega
    · exfalso; omega
  by_cases h47 : mI M 57 x.toNat = 9
  · refine vc_tabIn dX12_isPlayed_24 9 136 h47 rfl rfl rfl ?_
    refine vc_aload_n dX12_isPlayed_136 rfl ?_
    refine vc_iload_n dX12_isPlayed_137 rfl ?_
    refine vc_iconst dX12_isPlayed_138 rfl ?_
    refine vc_iconst dX12_isPlayed_139 rfl ?_
    refine vc_iconst dX12_isPlayed_140 rfl ?_
    refine vc_cVI dX12_isPlayed_141 (sfX12_tellerF (M := M) hB0.1  x2 0 0 0 ) rfl okX12_teller viX12_teller lkX12_413 (s_54 hB0.1.1) cl_12 rfl (Nat.le_of_ble_eq_true rfl) ⟨rfl, rfl⟩ (Nat.le_of_ble_eq_true rfl) (Nat.le_of_ble_eq_true rfl) (Nat.le_of_ble_eq_true rfl) ?_
    rintro x48 M49 ⟨hB50, kp51, h52⟩
    have hB53 : BF fR M M49 := BF.go hB0 hB50
    have kp54 : mI M49 57 = mI M 57 := kp_go rfl kp51
    refine vc_if_lt dX12_isPlayed_144 (fun h55 => ?_) (fun h55 => ?_)
    · refine vc_iconst dX12_isPlayed_151 rfl ?_
      refine vc_zret dX12_isPlayed_152 rfl (by first | decide | omega) (Nat.le_of_ble_eq_true rfl) (Nat.le_of_ble_eq_true rfl) ?_
      refine ⟨_, rfl, hB53, kp54, by omega, by omega, fun S' ok hD => ?_⟩
      obtain ⟨q0, q1, q2, q3, q4, q5, q6, q7⟩ := id p3
      skip
      rcases hD with ⟨hw, r9, q, hok⟩ | ⟨hw, q⟩ | ⟨hw, q⟩ | ⟨hw, q⟩ | ⟨hw, r9, q, hok⟩ | ⟨hw, r9, q, hok⟩ | ⟨hw, q⟩ | ⟨hw, q, hok⟩ | ⟨hw, r9, q, hok⟩ | ⟨hw, r9, q, hok⟩ | ⟨hw, r9, q, hok⟩ | ⟨hw, q, hok⟩
      · exfalso; omega
      · exfalso; omega
      · exfalso; omega
      · exfalso; omega
      · rw [← q3 (by omega), ← hx1, ← ex2] at q
        have z := h52 S S' r9 p2 q
        have hw8 := p2.1.2.2.2.2.2.2.2
        obtain ⟨w1, w2, w3, w4, w5⟩ := hw8
        exact ⟨by have y : r9 = -1 ∨ 0 ≤ r9 := (by rcases q with ⟨_, e, _⟩ | ⟨_, e, _⟩ <;> omega); omega, z.2⟩
      · exfalso; omega
      · exfalso; omega
      · exfalso; omega
      · exfalso; omega
      · exfalso; omega
      · exfalso; omega
      · exfalso; omega
    · refine vc_iconst dX12_isPlayed_147 rfl ?_
      refine vc_goto dX12_isPlayed_148 ?_
      refine vc_zret dX12_isPlayed_152 rfl (by first | decide | omega) (Nat.le_of_ble_eq_true rfl) (Nat.le_of_ble_eq_true rfl) ?_
      refine ⟨_, rfl, hB53, kp54, by omega, by omega, fun S' ok hD => ?_⟩
      obtain ⟨q0, q1, q2, q3, q4, q5, q6, q7⟩ := id p3
      skip
      rcases hD with ⟨hw, r9, q, hok⟩ | ⟨hw, q⟩ | ⟨hw, q⟩ | ⟨hw, q⟩ | ⟨hw, r9, q, hok⟩ | ⟨hw, r9, q, hok⟩ | ⟨hw, q⟩ | ⟨hw, q, hok⟩ | ⟨hw, r9, q, hok⟩ | ⟨hw, r9, q, hok⟩ | ⟨hw, r9, q, hok⟩ | ⟨hw, q, hok⟩
      · exfalso; omega
      · exfalso; omega
      · exfalso; omega
      · exfalso; omega
      · rw [← q3 (by omega), ← hx1, ← ex2] at q
        have z := h52 S S' r9 p2 q
        have hw8 := p2.1.2.2.2.2.2.2.2
        obtain ⟨w1, w2, w3, w4, w5⟩ := hw8
        exact ⟨by have y : r9 = -1 ∨ 0 ≤ r9 := (by rcases q with ⟨_, e, _⟩ | ⟨_, e, _⟩ <;> omega); omega, z.2⟩
      · exfalso; omega
      · exfalso; omega
      · exfalso; omega
      · exfalso; omega
      · exfalso; omega
      · exfalso; omega
      · exfalso; omega
  by_cases h56 : mI M 57 x.toNat = 10
  · refine vc_tabIn dX12_isPlayed_24 10 153 h56 rfl rfl rfl ?_
    refine vc_aload_n dX12_isPlayed_153 rfl ?_
    refine vc_iload_n dX12_isPlayed_154 rfl ?_
    obtain ⟨q0, q1, q2, q3, q4, q5, q6, q7⟩ := id p3
    obtain ⟨⟨y1, y2⟩, y3, y4, y5⟩ := q7 (by omega)
    have yb := tnC_b _ _ y3
    have y6 := q4 (by omega)
    have j3 : mI M 57 (x + 3).toNat = mI M 57 (x.toNat + 3) := by rw [show (x + 3).toNat = x.toNat + 3 by omega]
    have j2 : mI M 57 (x + 2).toNat = mI M 57 (x.toNat + 2) := by rw [show (x + 2).toNat = x.toNat + 2 by omega]
    have y5b : ∀ i : Nat, i < tnC (f (5 * k + 3)) (f (5 * k + 4)) → mI M 57 ((x + 3).toNat + 1 + i) = tnI (f (5 * k + 3)) (f (5 * k + 4)) i := fun i hi => by rw [show (x + 3).toNat + 1 + i = x.toNat + 4 + i by omega]; exact y5 i hi
    refine vc_cVI dX12_isPlayed_155 (sfX12_isTaughtF (M := M) hB0.1 S (f (5 * k + 3)) (f (5 * k + 4)) x (by omega) (by omega) (by omega) (by omega) (by omega) (by omega) (by exact p2) (by exact y3) (by omega) (by exact y5b)) rfl okX12_isTaught viX12_isTaught lkX12_416 (s_54 hB0.1.1) cl_12 rfl (Nat.le_of_ble_eq_true rfl) ⟨rfl, rfl⟩ (Nat.le_of_ble_eq_true rfl) (Nat.le_of_ble_eq_true rfl) (Nat.le_of_ble_eq_true rfl) ?_
    rintro x57 M58 ⟨hB59, kp60, h61, h62, h63⟩
    have hB64 : BF fR M M58 := BF.go hB0 hB59
    have kp65 : mI M58 57 = mI M 57 := kp_go rfl kp60
    refine vc_zret dX12_isPlayed_158 rfl (by first | decide | omega) (Nat.le_of_ble_eq_true rfl) (Nat.le_of_ble_eq_true rfl) ?_
    refine ⟨_, rfl, hB64, kp65, by omega, by omega, fun S' ok hD => ?_⟩
    obtain ⟨q0, q1, q2, q3, q4, q5, q6, q7⟩ := id p3
    skip
    rcases hD with ⟨hw, r9, q, hok⟩ | ⟨hw, q⟩ | ⟨hw, q⟩ | ⟨hw, q⟩ | ⟨hw, r9, q, hok⟩ | ⟨hw, r9, q, hok⟩ | ⟨hw, q⟩ | ⟨hw, q, hok⟩ | ⟨hw, r9, q, hok⟩ | ⟨hw, r9, q, hok⟩ | ⟨hw, r9, q, hok⟩ | ⟨hw, q, hok⟩
    · exfalso; omega
    · exfalso; omega
    · exfalso; omega
    · exfalso; omega
    · exfalso; omega
    · rw [← q3 (by omega), ← q4 (by omega), ← hx1, ← hx2] at q
      have z := h63 S' r9 q
      exact ⟨by omega, z.2⟩
    · exfalso; omega
    · exfalso; omega
    · exfalso; omega
    · exfalso; omega
    · exfalso; omega
    · exfalso; omega
  by_cases h66 : mI M 57 x.toNat = 11
  · refine vc_tabIn dX12_isPlayed_24 11 159 h66 rfl rfl rfl ?_
    refine vc_aload_n dX12_isPlayed_159 rfl ?_
    refine vc_iload_n dX12_isPlayed_160 rfl ?_
    refine vc_iload_n dX12_isPlayed_161 rfl ?_
    refine vc_cVI dX12_isPlayed_162 (sfX12_startF (M := M) hB0.1  x2 x4 ) rfl okX12_start viX12_start lkX12_419 (s_54 hB0.1.1) cl_12 rfl (Nat.le_of_ble_eq_true rfl) ⟨rfl, rfl⟩ (Nat.le_of_ble_eq_true rfl) (Nat.le_of_ble_eq_true rfl) (Nat.le_of_ble_eq_true rfl) ?_
    rintro x67 M68 ⟨hB69, kp70, h71, h72, h73⟩
    have hB74 : BF fR M M68 := BF.go hB0 hB69
    have kp75 : mI M68 57 = mI M 57 := kp_go rfl kp70
    refine vc_zret dX12_isPlayed_165 rfl (by first | decide | omega) (Nat.le_of_ble_eq_true rfl) (Nat.le_of_ble_eq_true rfl) ?_
    refine ⟨_, rfl, hB74, kp75, by omega, by omega, fun S' ok hD => ?_⟩
    obtain ⟨q0, q1, q2, q3, q4, q5, q6, q7⟩ := id p3
    skip
    rcases hD with ⟨hw, r9, q, hok⟩ | ⟨hw, q⟩ | ⟨hw, q⟩ | ⟨hw, q⟩ | ⟨hw, r9, q, hok⟩ | ⟨hw, r9, q, hok⟩ | ⟨hw, q⟩ | ⟨hw, q, hok⟩ | ⟨hw, r9, q, hok⟩ | ⟨hw, r9, q, hok⟩ | ⟨hw, r9, q, hok⟩ | ⟨hw, q, hok⟩
    · exfalso; omega
    · exfalso; omega
    · exfalso; omega
    · exfalso; omega
    · exfalso; omega
    · exfalso; omega
    · rw [← q3 (by omega), ← q4 (by omega), ← hx1, ← ex2, ← hx2, ← ex4] at q
      exact h73 S S' ok p2 q
    · exfalso; omega
    · exfalso; omega
    · exfalso; omega
    · exfalso; omega
    · exfalso; omega
  by_cases h76 : mI M 57 x.toNat = 12
  · refine vc_tabIn dX12_isPlayed_24 12 166 h76 rfl rfl rfl ?_
    refine vc_aload_n dX12_isPlayed_166 rfl ?_
    refine vc_iload_n dX12_isPlayed_167 rfl ?_
    have y12 := p3.2.2.2.2.2.2.1 (by have z := p3.1; omega)
    have y13 := p3.2.2.2.1 (by have z := p3.1; omega)
    refine vc_cVI dX12_isPlayed_168 (sfX12_isWalkedF (M := M) hB0.1 S x2 (by omega) (by exact p2) (by exact p5) (by exact p6)) rfl okX12_isWalked viX12_isWalked lkX12_422 (s_54 hB0.1.1) cl_12 rfl (Nat.le_of_ble_eq_true rfl) ⟨rfl, rfl⟩ (Nat.le_of_ble_eq_true rfl) (Nat.le_of_ble_eq_true rfl) (Nat.le_of_ble_eq_true rfl) ?_
    rintro x77 M78 ⟨hB79, kp80, h81, h82, h83⟩
    have hB84 : BF fR M M78 := BF.go hB0 hB79
    have kp85 : mI M78 57 = mI M 57 := kp_go rfl kp80
    refine vc_zret dX12_isPlayed_171 rfl (by first | decide | omega) (Nat.le_of_ble_eq_true rfl) (Nat.le_of_ble_eq_true rfl) ?_
    refine ⟨_, rfl, hB84, kp85, by omega, by omega, fun S' ok hD => ?_⟩
    obtain ⟨q0, q1, q2, q3, q4, q5, q6, q7⟩ := id p3
    skip
    rcases hD with ⟨hw, r9, q, hok⟩ | ⟨hw, q⟩ | ⟨hw, q⟩ | ⟨hw, q⟩ | ⟨hw, r9, q, hok⟩ | ⟨hw, r9, q, hok⟩ | ⟨hw, q⟩ | ⟨hw, q, hok⟩ | ⟨hw, r9, q, hok⟩ | ⟨hw, r9, q, hok⟩ | ⟨hw, r9, q, hok⟩ | ⟨hw, q, hok⟩
    · exfalso; omega
    · exfalso; omega
    · exfalso; omega
    · exfalso; omega
    · exfalso; omega
    · exfalso; omega
    · exfalso; omega
    · rw [← q3 (by omega), ← hx1, ← ex2] at q
      rw [← q3 (by omega), ← hx1, ← ex2] at hok
      have z := h83
      rw [q, hok]; exact z
    · exfalso; omega
    · exfalso; omega
    · exfalso; omega
    · exfalso; omega
  by_cases h86 : mI M 57 x.toNat = 13
  · refine vc_tabIn dX12_isPlayed_24 13 172 h86 rfl rfl rfl ?_
    refine vc_aload_n dX12_isPlayed_172 rfl ?_
    refine vc_iload_n dX12_isPlayed_173 rfl ?_
    refine vc_cVI dX12_isPlayed_174 (sfX12_turnF (M := M) hB0.1  x2 ) rfl okX12_turn viX12_turn lkX12_425 (s_54 hB0.1.1) cl_12 rfl (Nat.le_of_ble_eq_true rfl) ⟨rfl, rfl⟩ (Nat.le_of_ble_eq_true rfl) (Nat.le_of_ble_eq_true rfl) (Nat.le_of_ble_eq_true rfl) ?_
    rintro x87 M88 ⟨hB89, kp90, h91⟩
    have hB92 : BF fR M M88 := BF.go hB0 hB89
    have kp93 : mI M88 57 = mI M 57 := kp_go rfl kp90
    refine vc_if_lt dX12_isPlayed_177 (fun h94 => ?_) (fun h94 => ?_)
    · refine vc_iconst dX12_isPlayed_184 rfl ?_
      refine vc_zret dX12_isPlayed_185 rfl (by first | decide | omega) (Nat.le_of_ble_eq_true rfl) (Nat.le_of_ble_eq_true rfl) ?_
      refine ⟨_, rfl, hB92, kp93, by omega, by omega, fun S' ok hD => ?_⟩
      obtain ⟨q0, q1, q2, q3, q4, q5, q6, q7⟩ := id p3
      skip
      rcases hD with ⟨hw, r9, q, hok⟩ | ⟨hw, q⟩ | ⟨hw, q⟩ | ⟨hw, q⟩ | ⟨hw, r9, q, hok⟩ | ⟨hw, r9, q, hok⟩ | ⟨hw, q⟩ | ⟨hw, q, hok⟩ | ⟨hw, r9, q, hok⟩ | ⟨hw, r9, q, hok⟩ | ⟨hw, r9, q, hok⟩ | ⟨hw, q, hok⟩
      · exfalso; omega
      · exfalso; omega
      · exfalso; omega
      · exfalso; omega
      · exfalso; omega
      · exfalso; omega
      · exfalso; omega
      · exfalso; omega
      · rw [← q3 (by omega), ← hx1, ← ex2] at q
        have z := h91 S S' r9 p2 q
        have y : r9 = -1 ∨ 0 ≤ r9 := by rcases q with ⟨_, _, e⟩ | ⟨_, _, e⟩; (have y2 := z.2.2.2.2.2.1.2.2.2.2.2.2.1; omega); (omega)
        exact ⟨by omega, z.2⟩
      · exfalso; omega
      · exfalso; omega
      · exfalso; omega
    · refine vc_iconst dX12_isPlayed_180 rfl ?_
      refine vc_goto dX12_isPlayed_181 ?_
      refine vc_zret dX12_isPlayed_185 rfl (by first | decide | omega) (Nat.le_of_ble_eq_true rfl) (Nat.le_of_ble_eq_true rfl) ?_
      refine ⟨_, rfl, hB92, kp93, by omega, by omega, fun S' ok hD => ?_⟩
      obtain ⟨q0, q1, q2, q3, q4, q5, q6, q7⟩ := id p3
      skip
      rcases hD with ⟨hw, r9, q, hok⟩ | ⟨hw, q⟩ | ⟨hw, q⟩ | ⟨hw, q⟩ | ⟨hw, r9, q, hok⟩ | ⟨hw, r9, q, hok⟩ | ⟨hw, q⟩ | ⟨hw, q, hok⟩ | ⟨hw, r9, q, hok⟩ | ⟨hw, r9, q, hok⟩ | ⟨hw, r9, q, hok⟩ | ⟨hw, q, hok⟩
      · exfalso; omega
      · exfalso; omega
      · exfalso; omega
      · exfalso; omega
      · exfalso; omega
      · exfalso; omega
      · exfalso; omega
      · exfalso; omega
      · rw [← q3 (by omega), ← hx1, ← ex2] at q
        have z := h91 S S' r9 p2 q
        have y : r9 = -1 ∨ 0 ≤ r9 := by rcases q with ⟨_, _, e⟩ | ⟨_, _, e⟩; (have y2 := z.2.2.2.2.2.1.2.2.2.2.2.2.1; omega); (omega)
        exact ⟨by omega, z.2⟩
      · exfalso; omega
      · exfalso; omega
      · exfalso; omega
  by_cases h95 : mI M 57 x.toNat = 14
  · refine vc_tabIn dX12_isPlayed_24 14 186 h95 rfl rfl rfl ?_
    refine vc_aload_n dX12_isPlayed_186 rfl ?_
    refine vc_iload_n dX12_isPlayed_187 rfl ?_
    refine vc_cVI dX12_isPlayed_188 (sfX12_askF (M := M) hB0.1 S x2 (by exact p2) (by exact p5) (by exact p4)) rfl okX12_ask viX12_ask lkX12_428 (s_54 hB0.1.1) cl_12 rfl (Nat.le_of_ble_eq_true rfl) ⟨rfl, rfl⟩ (Nat.le_of_ble_eq_true rfl) (Nat.le_of_ble_eq_true rfl) (Nat.le_of_ble_eq_true rfl) ?_
    rintro x96 M97 ⟨hB98, kp99, h100⟩
    have hB101 : BF fR M M97 := BF.go hB0 hB98
    have kp102 : mI M97 57 = mI M 57 := kp_go rfl kp99
    refine vc_if_lt dX12_isPlayed_191 (fun h103 => ?_) (fun h103 => ?_)
    · refine vc_iconst dX12_isPlayed_198 rfl ?_
      refine vc_zret dX12_isPlayed_199 rfl (by first | decide | omega) (Nat.le_of_ble_eq_true rfl) (Nat.le_of_ble_eq_true rfl) ?_
      refine ⟨_, rfl, hB101, kp102, by omega, by omega, fun S' ok hD => ?_⟩
      obtain ⟨q0, q1, q2, q3, q4, q5, q6, q7⟩ := id p3
      skip
      rcases hD with ⟨hw, r9, q, hok⟩ | ⟨hw, q⟩ | ⟨hw, q⟩ | ⟨hw, q⟩ | ⟨hw, r9, q, hok⟩ | ⟨hw, r9, q, hok⟩ | ⟨hw, q⟩ | ⟨hw, q, hok⟩ | ⟨hw, r9, q, hok⟩ | ⟨hw, r9, q, hok⟩ | ⟨hw, r9, q, hok⟩ | ⟨hw, q, hok⟩
      · exfalso; omega
      · exfalso; omega
      · exfalso; omega
      · exfalso; omega
      · exfalso; omega
      · exfalso; omega
      · exfalso; omega
      · exfalso; omega
      · exfalso; omega
      · rw [← q3 (by omega), ← hx1, ← ex2] at q
        have z := h100 S' r9 q
        have hw8 := p2.1.2.2.2.2.2.2.2
        obtain ⟨w1, w2, w3, w4, w5⟩ := hw8
        have y : r9 = -1 ∨ 0 ≤ r9 := by rcases q with ⟨hc, e2, e⟩ | ⟨_, _, e⟩; (right; rw [e, e2]; unfold fHe; rw [up_same, fKp_o (by decide) (by decide)]; have y2 := p4.1 x2.toNat (by omega); rw [show 4 + x2.toNat = (4 + x2).toNat by omega] at y2; rw [wI_id (by omega) (by omega)]; omega); (left; exact e)
        exact ⟨by omega, z.2⟩
      · exfalso; omega
      · exfalso; omega
    · refine vc_iconst dX12_isPlayed_194 rfl ?_
      refine vc_goto dX12_isPlayed_195 ?_
      refine vc_zret dX12_isPlayed_199 rfl (by first | decide | omega) (Nat.le_of_ble_eq_true rfl) (Nat.le_of_ble_eq_true rfl) ?_
      refine ⟨_, rfl, hB101, kp102, by omega, by omega, fun S' ok hD => ?_⟩
      obtain ⟨q0, q1, q2, q3, q4, q5, q6, q7⟩ := id p3
      skip
      rcases hD with ⟨hw, r9, q, hok⟩ | ⟨hw, q⟩ | ⟨hw, q⟩ | ⟨hw, q⟩ | ⟨hw, r9, q, hok⟩ | ⟨hw, r9, q, hok⟩ | ⟨hw, q⟩ | ⟨hw, q, hok⟩ | ⟨hw, r9, q, hok⟩ | ⟨hw, r9, q, hok⟩ | ⟨hw, r9, q, hok⟩ | ⟨hw, q, hok⟩
      · exfalso; omega
      · exfalso; omega
      · exfalso; omega
      · exfalso; omega
      · exfalso; omega
      · exfalso; omega
      · exfalso; omega
      · exfalso; omega
      · exfalso; omega
      · rw [← q3 (by omega), ← hx1, ← ex2] at q
        have z := h100 S' r9 q
        have hw8 := p2.1.2.2.2.2.2.2.2
        obtain ⟨w1, w2, w3, w4, w5⟩ := hw8
        have y : r9 = -1 ∨ 0 ≤ r9 := by rcases q with ⟨hc, e2, e⟩ | ⟨_, _, e⟩; (right; rw [e, e2]; unfold fHe; rw [up_same, fKp_o (by decide) (by decide)]; have y2 := p4.1 x2.toNat (by omega); rw [show 4 + x2.toNat = (4 + x2).toNat by omega] at y2; rw [wI_id (by omega) (by omega)]; omega); (left; exact e)
        exact ⟨by omega, z.2⟩
      · exfalso; omega
      · exfalso; omega
  by_cases h104 : mI M 57 x.toNat = 15
  · refine vc_tabIn dX12_isPlayed_24 15 200 h104 rfl rfl rfl ?_
    refine vc_aload_n dX12_isPlayed_200 rfl ?_
    refine vc_iload_n dX12_isPlayed_201 rfl ?_
    refine vc_cVI dX12_isPlayed_202 (sfX12_followF (M := M) hB0.1 S x2 (by exact p2) (by exact p5) (by exact p6)) rfl okX12_follow viX12_follow lkX12_431 (s_54 hB0.1.1) cl_12 rfl (Nat.le_of_ble_eq_true rfl) ⟨rfl, rfl⟩ (Nat.le_of_ble_eq_true rfl) (Nat.le_of_ble_eq_true rfl) (Nat.le_of_ble_eq_true rfl) ?_
    rintro x105 M106 ⟨hB107, kp108, h109⟩
    have hB110 : BF fR M M106 := BF.go hB0 hB107
    have kp111 : mI M106 57 = mI M 57 := kp_go rfl kp108
    refine vc_if_lt dX12_isPlayed_205 (fun h112 => ?_) (fun h112 => ?_)
    · refine vc_iconst dX12_isPlayed_212 rfl ?_
      refine vc_zret dX12_isPlayed_213 rfl (by first | decide | omega) (Nat.le_of_ble_eq_true rfl) (Nat.le_of_ble_eq_true rfl) ?_
      refine ⟨_, rfl, hB110, kp111, by omega, by omega, fun S' ok hD => ?_⟩
      obtain ⟨q0, q1, q2, q3, q4, q5, q6, q7⟩ := id p3
      skip
      rcases hD with ⟨hw, r9, q, hok⟩ | ⟨hw, q⟩ | ⟨hw, q⟩ | ⟨hw, q⟩ | ⟨hw, r9, q, hok⟩ | ⟨hw, r9, q, hok⟩ | ⟨hw, q⟩ | ⟨hw, q, hok⟩ | ⟨hw, r9, q, hok⟩ | ⟨hw, r9, q, hok⟩ | ⟨hw, r9, q, hok⟩ | ⟨hw, q, hok⟩
      · exfalso; omega
      · exfalso; omega
      · exfalso; omega
      · exfalso; omega
      · exfalso; omega
      · exfalso; omega
      · exfalso; omega
      · exfalso; omega
      · exfalso; omega
      · exfalso; omega
      · rw [← q3 (by omega), ← hx1, ← ex2] at q
        have z := h109 S' r9 q
        have y : r9 = -1 ∨ 0 ≤ r9 := by rcases q with ⟨_, _, e⟩ | ⟨_, _, e⟩; (right; rw [e]; split <;> decide); (left; exact e)
        exact ⟨by omega, z.2⟩
      · exfalso; omega
    · refine vc_iconst dX12_isPlayed_208 rfl ?_
      refine vc_goto dX12_isPlayed_209 ?_
      refine vc_zret dX12_isPlayed_213 rfl (by first | decide | omega) (Nat.le_of_ble_eq_true rfl) (Nat.le_of_ble_eq_true rfl) ?_
      refine ⟨_, rfl, hB110, kp111, by omega, by omega, fun S' ok hD => ?_⟩
      obtain ⟨q0, q1, q2, q3, q4, q5, q6, q7⟩ := id p3
      skip
      rcases hD with ⟨hw, r9, q, hok⟩ | ⟨hw, q⟩ | ⟨hw, q⟩ | ⟨hw, q⟩ | ⟨hw, r9, q, hok⟩ | ⟨hw, r9, q, hok⟩ | ⟨hw, q⟩ | ⟨hw, q, hok⟩ | ⟨hw, r9, q, hok⟩ | ⟨hw, r9, q, hok⟩ | ⟨hw, r9, q, hok⟩ | ⟨hw, q, hok⟩
      · exfalso; omega
      · exfalso; omega
      · exfalso; omega
      · exfalso; omega
      · exfalso; omega
      · exfalso; omega
      · exfalso; omega
      · exfalso; omega
      · exfalso; omega
      · exfalso; omega
      · rw [← q3 (by omega), ← hx1, ← ex2] at q
        have z := h109 S' r9 q
        have y : r9 = -1 ∨ 0 ≤ r9 := by rcases q with ⟨_, _, e⟩ | ⟨_, _, e⟩; (right; rw [e]; split <;> decide); (left; exact e)
        exact ⟨by omega, z.2⟩
      · exfalso; omega
  refine vc_tabOut dX12_isPlayed_24 214 (by omega) rfl ?_
  refine vc_iconst dX12_isPlayed_214 rfl ?_
  refine vc_zret dX12_isPlayed_215 rfl (by first | decide | omega) (Nat.le_of_ble_eq_true rfl) (Nat.le_of_ble_eq_true rfl) ?_
  refine ⟨_, rfl, hB0, rfl, by omega, by omega, fun S' ok hD => ?_⟩
  obtain ⟨q0, q1, q2, q3, q4, q5, q6, q7⟩ := id p3
  skip
  rcases hD with ⟨hw, r9, q, hok⟩ | ⟨hw, q⟩ | ⟨hw, q⟩ | ⟨hw, q⟩ | ⟨hw, r9, q, hok⟩ | ⟨hw, r9, q, hok⟩ | ⟨hw, q⟩ | ⟨hw, q, hok⟩ | ⟨hw, r9, q, hok⟩ | ⟨hw, r9, q, hok⟩ | ⟨hw, r9, q, hok⟩ | ⟨hw, q, hok⟩
  · exfalso; omega
  · exfalso; omega
  · exfalso; omega
  · exfalso; omega
  · exfalso; omega
  · exfalso; omega
  · exfalso; omega
  · exfalso; omega
  · exfalso; omega
  · exfalso; omega
  · exfalso; omega
  · rw [q]; exact ⟨by omega, p2⟩

set_option maxRecDepth 4000 in
theorem sfX12_playedF {l : Launch} {M : Mem} (hB : Box M) (S S' : Sw) (r9 b : Int) (f : Nat → Int) (t : Int) (p0 : AR (mI M 55) S) (p1 : asB S b) (p2 : 0 ≤ t → t < mI M 55 5 → (∀ k : Nat, (k : Int) < mI M 57 (873 * t).toNat → clR (mI M 57) (873 * t + 1 + 11 * k).toNat f k) ∧ PlS f (mI M 57 (873 * t).toNat).toNat 0 S S' r9) (p3 : 0 ≤ b) (p4 : b ≤ 900000) (p5 : LwS S (mI M 57)) (p6 : nmT S) : Call l mdX12_played [aR 54, aI t] M (fun q N => ∃ r : Int, q = some (aI r) ∧ BF fR M N ∧ mI N 57 = mI M 57 ∧ (((0 ≤ t ∧ t < mI M 55 5) ∧ r = r9 ∧ AR (mI N 55) S' ∧ asB S' (b + 24) ∧ LwS S' (mI M 57) ∧ nmT S') ∨ (¬ (0 ≤ t ∧ t < mI M 55 5) ∧ r = -2 ∧ mI N 55 = mI M 55))) := by
  have hB0 : BF fR M M := BF.start hB
  refine Call.of [some (aR 54), some (aI t), none] rfl (Nat.le_of_ble_eq_true rfl) rfl ?_
  refine vc_ok (fun hoM hoS hoL => ?_)
  have hr1 : -2147483648 ≤ t ∧ t < 2147483648 := hoL 1 _ rfl
  refine vc_iload_n dX12_played_0 rfl ?_
  refine vc_iconst dX12_played_1 rfl ?_
  refine vc_aload_n dX12_played_2 rfl ?_
  refine vc_getR dX12_played_3 flX12_7 (s_54 hB0.1.1) rfl (r_54_0 hB0.1.1) ?_
  refine vc_iconst dX12_played_6 rfl ?_
  refine vc_iaload dX12_played_7 (s_55 hB0.1.1) (by omega) (by omega) ?_
  refine vc_topI (mI M 55 5) rfl ?_
  have k1 : 0 ≤ mI M 55 5 ∧ mI M 55 5 ≤ 4 := b55_5 (M := M) hB0.1
  refine vc_iconst dX12_played_8 rfl ?_
  refine vc_isubE dX12_played_9 (by omega) (by omega) ?_
  refine vc_cSI dX12_played_10 (sfX12_isInF (M := M) hB0.1  t 0 ((mI M 55 5) - 1) ) rfl okX12_isIn stX12_isIn lkX12_83 rfl (Nat.le_of_ble_eq_true rfl) ⟨rfl, rfl⟩ (Nat.le_of_ble_eq_true rfl) (Nat.le_of_ble_eq_true rfl) (Nat.le_of_ble_eq_true rfl) ?_
  rintro x2 _ ⟨rfl, h3, h4, h5⟩
  refine vc_if_ne dX12_played_13 (fun h6 => ?_) (fun h6 => ?_)
  · have hwt := hB.2.2.2.2.2.2 t.toNat (by omega)
    have hw2 := hwt.2
    have hw3 := hwt.1
    unfold wfT at hwt
    rw [show 873 * t.toNat = (873 * t).toNat by omega] at hw2 hw3
    obtain ⟨hcl, hpl⟩ := p2 (by omega) (by omega)
    refine vc_iconst dX12_played_19 rfl ?_
    refine vc_istore_n dX12_played_20 (by decide) rfl (show _ = [some (aR 54), some (aI t), some (aI 0)] from rfl) ?_
    have lp21 : ∀ (n21 : Nat) (Mq21 : Mem) (v2 : Int), (BF fR M Mq21) → (mI Mq21 57 = mI M 57) → (0 ≤ v2) → (v2 ≤ 24) → (∃ S1, AR (mI Mq21 55) S1 ∧ asB S1 (b + v2) ∧ (LwS S1 (mI M 57) ∧ nmT S1) ∧ PlS f (mI M 57 (873 * t).toNat - v2).toNat v2 S1 S' r9) → (24 - v2).toNat < n21 → VC l mdX12_played 21 [some (aR 54), some (aI t), some (aI v2)] [] Mq21 0 0 (fun q N => ∃ r : Int, q = some (aI r) ∧ BF fR M N ∧ mI N 57 = mI M 57 ∧ (((0 ≤ t ∧ t < mI M 55 5) ∧ r = r9 ∧ AR (mI N 55) S' ∧ asB S' (b + 24) ∧ LwS S' (mI M 57) ∧ nmT S') ∨ (¬ (0 ≤ t ∧ t < mI M 55 5) ∧ r = -2 ∧ mI N 55 = mI M 55))) := by
      intro n21
      induction n21 with
      | zero => intro Mq21 v2 hQ21 kp21_57 g21_2a g21_2b g21i0 hm21; exact absurd hm21 (Nat.not_lt_zero _)
      | succ n21 ih21 =>
        intro Mq21 v2 hQ21 kp21_57 g21_2a g21_2b g21i0 hm21
        refine vc_iload_n dX12_played_21 rfl ?_
        refine vc_aload_n dX12_played_22 rfl ?_
        refine vc_getR dX12_played_23 flX12_16 (s_54 hQ21.1.1) rfl (r_54_2 hQ21.1.1) ?_
        refine vc_sipush dX12_played_26 rfl ?_
        refine vc_iload_n dX12_played_29 rfl ?_
        refine vc_imulE dX12_played_30 (by omega) (by omega) ?_
        refine vc_iaload dX12_played_31 (s_57 hQ21.1.1) (by omega) (by omega) ?_
        have k7 : mI Mq21 57 ((873 * t).toNat) = mI M 57 ((873 * t).toNat) := congrFun kp21_57 ((873 * t).toNat)
        refine vc_icmp_ge dX12_played_32 (fun h8 => ?_) (fun h8 => ?_)
        · refine vc_iconst dX12_played_62 rfl ?_
          refine vc_iret dX12_played_63 rfl (Nat.le_of_ble_eq_true rfl) (Nat.le_of_ble_eq_true rfl) ?_
          obtain ⟨S1, hA1, hS1, hLN, hP1⟩ := g21i0
          rw [show (mI M 57 (873 * t).toNat - v2).toNat = 0 by have z := congrFun kp21_57 (873 * t).toNat; omega] at hP1
          obtain ⟨e1, e2⟩ := hP1
          exact ⟨_, rfl, hQ21, kp21_57, Or.inl ⟨by omega, e2.symm, by rw [e1]; exact hA1, by rw [e1]; exact hS1.le (by omega), by rw [e1]; exact hLN⟩⟩
        · obtain ⟨S1, hA1, hS1, hLN, hP1⟩ := g21i0
          rw [show (mI M 57 (873 * t).toNat - v2).toNat = (mI M 57 (873 * t).toNat - (v2 + 1)).toNat + 1 by omega] at hP1
          obtain ⟨S2, ok, hD, hr⟩ := hP1
          rw [show (5 * v2).toNat = 5 * v2.toNat by omega, show (5 * v2 + 1).toNat = 5 * v2.toNat + 1 by omega, show (5 * v2 + 2).toNat = 5 * v2.toNat + 2 by omega, show (5 * v2 + 3).toNat = 5 * v2.toNat + 3 by omega, show (5 * v2 + 4).toNat = 5 * v2.toNat + 4 by omega] at hD
          have hcv : clR (mI Mq21 57) ((873 * t + 1 + 11 * v2)).toNat f v2.toNat := by have z := hcl v2.toNat (by omega); rw [show (873 * t + 1 + 11 * (v2.toNat : Int)).toNat = (873 * t + 1 + 11 * v2).toNat by omega] at z; rw [kp21_57]; exact z
          have hw8 := hA1.1.2.2.2.2.2.2.2
          obtain ⟨w1, w2, w3, w4, w5, w6, w7⟩ := hw8
          have hw9 := hA1.2.2.2.2.1
          have hsm : asB S1 1000000 := hS1.le (by omega)
          have hS2 := hS1.dos (by omega) (by omega) ⟨hw9.2.2.1, hw9.2.2.2.1⟩ w4 w5 hD
          have hL2 := hLN.1.lk (DoS.lk w5 hD)
          have hN2 := hLN.2.dos w1 w3 w5 hD
          refine vc_aload_n dX12_played_35 rfl ?_
          refine vc_sipush dX12_played_36 rfl ?_
          refine vc_iload_n dX12_played_39 rfl ?_
          refine vc_imulE dX12_played_40 (by omega) (by omega) ?_
          refine vc_iconst dX12_played_41 rfl ?_
          refine vc_iaddE dX12_played_42 (by omega) (by omega) ?_
          refine vc_bipush dX12_played_43 rfl ?_
          refine vc_iload_n dX12_played_45 rfl ?_
          refine vc_imulE dX12_played_46 (by omega) (by omega) ?_
          refine vc_iaddE dX12_played_47 (by omega) (by omega) ?_
          refine vc_cVI dX12_played_48 (sfX12_isPlayedF (M := Mq21) hQ21.1 S1 f v2.toNat (((873 * t) + 1) + (11 * v2)) (by omega) (by omega) (by exact hA1) (by exact hcv) (by exact hsm) (by rw [kp21_57]; exact hLN.1) (by exact hLN.2)) rfl okX12_isPlayed viX12_isPlayed lkX12_434 (s_54 hQ21.1.1) cl_12 rfl (Nat.le_of_ble_eq_true rfl) ⟨rfl, rfl⟩ (Nat.le_of_ble_eq_true rfl) (Nat.le_of_ble_eq_true rfl) (Nat.le_of_ble_eq_true rfl) ?_
          rintro x9 M10 ⟨hB11, kp12, h13, h14, h15⟩
          have hB16 : BF fR M M10 := BF.go hQ21 hB11
          have kp17 : mI M10 57 = mI M 57 := kp_go kp21_57 kp12
          have hz := h15 S2 ok hD
          refine vc_if_ne dX12_played_51 (fun h18 => ?_) (fun h18 => ?_)
          · have hnx : ∃ S1, AR (mI M10 55) S1 ∧ asB S1 (b + (v2 + 1)) ∧ (LwS S1 (mI M 57) ∧ nmT S1) ∧ PlS f (mI M 57 (873 * t).toNat - (v2 + 1)).toNat (v2 + 1) S1 S' r9 := by rcases hr with ⟨e0, _⟩ | ⟨_, e1⟩; (exfalso; omega); (exact ⟨S2, hz.2, by rw [← Int.add_assoc]; exact hS2, ⟨hL2, hN2⟩, e1⟩)
            refine vc_iincE dX12_played_56 rfl (by omega) (by omega) (by decide) rfl (show _ = [some (aR 54), some (aI t), some (aI (v2 + 1))] from rfl) ?_
            refine vc_goto dX12_played_59 ?_
            exact ih21 M10 (v2 + 1) hB16 kp17 (by omega) (by omega) (by first | exact ⟨S, p0, by rw [Int.add_zero]; exact p1, ⟨p5, p6⟩, by rw [Int.sub_zero]; exact hpl⟩ | exact hnx) (by omega)
          · refine vc_iload_n dX12_played_54 rfl ?_
            refine vc_iret dX12_played_55 rfl (Nat.le_of_ble_eq_true rfl) (Nat.le_of_ble_eq_true rfl) ?_
            rcases hr with ⟨e0, e1, e2⟩ | ⟨e0, _⟩
            · exact ⟨_, rfl, hB16, kp17, Or.inl ⟨by omega, e2.symm, by rw [e1]; exact hz.2, by rw [e1]; exact hS2.le (by omega), by rw [e1]; exact ⟨hL2, hN2⟩⟩⟩
            · exfalso; omega
    exact lp21 _ M 0 hB0 rfl (by omega) (by omega) (by first | exact ⟨S, p0, by rw [Int.add_zero]; exact p1, ⟨p5, p6⟩, by rw [Int.sub_zero]; exact hpl⟩ | exact hnx) (Nat.lt_succ_self _)
  · refine vc_bipush dX12_played_16 rfl ?_
    refine vc_iret dX12_played_18 rfl (Nat.le_of_ble_eq_true rfl) (Nat.le_of_ble_eq_true rfl) ?_
    exact ⟨_, rfl, hB0, rfl, Or.inr ⟨by omega, rfl, rfl⟩⟩

set_option maxRecDepth 4000 in
theorem sfX12_anewF {l : Launch} {M : Mem} (hB : Box M)    : Call l mdX12_anew [aR 54] M (fun q N => q = none ∧ BF fR M N ∧ mI N 57 = mI M 57 ∧ (∀ S, AR (mI M 55) S → AR (mI N 55) (up S 16 3 (nwX (S 16 3))))) := by
  have hB0 : BF fR M M := BF.start hB
  refine Call.of [some (aR 54)] rfl (Nat.le_of_ble_eq_true rfl) rfl ?_
  refine vc_aload_n dX12_anew_0 rfl ?_
  refine vc_getR dX12_anew_1 flX12_7 (s_54 hB0.1.1) rfl (r_54_0 hB0.1.1) ?_
  refine vc_iconst dX12_anew_4 rfl ?_
  refine vc_aload_n dX12_anew_5 rfl ?_
  refine vc_getR dX12_anew_6 flX12_7 (s_54 hB0.1.1) rfl (r_54_0 hB0.1.1) ?_
  refine vc_iconst dX12_anew_9 rfl ?_
  refine vc_iaload dX12_anew_10 (s_55 hB0.1.1) (by omega) (by omega) ?_
  refine vc_topI (mI M 55 4) rfl ?_
  have k1 : 0 ≤ mI M 55 4 ∧ mI M 55 4 ≤ 40025 := b55_4 (M := M) hB0.1
  refine vc_sipush dX12_anew_11 rfl ?_
  refine vc_imulE dX12_anew_14 (by omega) (by omega) ?_
  refine vc_bipush dX12_anew_15 rfl ?_
  refine vc_iaddE dX12_anew_17 (by omega) (by omega) ?_
  refine vc_sipush dX12_anew_18 rfl ?_
  refine vc_iremE dX12_anew_21 (by omega) (by omega) ?_
  refine vc_iastore dX12_anew_22 (s_55 hB0.1.1) (by omega) (by omega) ?_
  refine vc_mem (sI M 55 4 ((((mI M 55 4) * 229) + 127) % 30181)) rfl ?_
  have kp2 : mI (sI M 55 4 ((((mI M 55 4) * 229) + 127) % 30181)) 57 = mI M 57 := (kp_sI rfl rfl)
  have hB3 : BF fR M (sI M 55 4 ((((mI M 55 4) * 229) + 127) % 30181)) := BF.a (x := 4) hB0 (by omega) (by omega) (by unfold aB; refine ⟨?_, ?_, ?_, ?_, ?_, ?_, ?_, ?_, ?_, ?_, ?_, ?_, ?_, ?_, ?_, ?_, ?_, ?_⟩ <;> intros <;> omega) (by omega) (by omega) (by omega) (by omega) (by omega) (by omega) fR_55
  refine vc_vret dX12_anew_23 rfl (Nat.le_of_ble_eq_true rfl) (Nat.le_of_ble_eq_true rfl) ?_
  exact ⟨rfl, hB3, kp2, fun S hA => by have c4 := hA.2.1.1; exact AR_X hA (by rw [mI_same, ← c4]; rfl) (fun j j1 j2 => by rw [mI_sI, if_neg (by omega)])⟩

set_option maxRecDepth 4000 in
theorem sfX12_oneOfDayF {l : Launch} {M : Mem} (hB : Box M) (S : Sw)  (p0 : AR (mI M 55) S) (p1 : LwS S (mI M 57)) (p2 : nmT S) (p3 : asB S 1000000) : Call l mdX12_oneOfDay [aR 54] M (fun q N => q = none ∧ BF fR M N ∧ mI N 57 = mI M 57 ∧ AR (mI N 55) (drR S)) := by
  have hB0 : BF fR M M := BF.start hB
  refine Call.of [some (aR 54), none, none] rfl (Nat.le_of_ble_eq_true rfl) rfl ?_
  have hA := p0
  have c29 := p0.1.1.2.2.1
  refine vc_aload_n dX12_oneOfDay_0 rfl ?_
  refine vc_getR dX12_oneOfDay_1 flX12_7 (s_54 hB0.1.1) rfl (r_54_0 hB0.1.1) ?_
  refine vc_iconst dX12_oneOfDay_4 rfl ?_
  refine vc_iaload dX12_oneOfDay_5 (s_55 hB0.1.1) (by omega) (by omega) ?_
  refine vc_topI (mI M 55 4) rfl ?_
  have k1 : 0 ≤ mI M 55 4 ∧ mI M 55 4 ≤ 40025 := b55_4 (M := M) hB0.1
  refine vc_iconst dX12_oneOfDay_6 rfl ?_
  refine vc_iremE dX12_oneOfDay_7 (by omega) (by omega) ?_
  refine vc_nameI (fun x2 ex2 => ?_)
  refine vc_istore_n dX12_oneOfDay_8 (by decide) rfl (show _ = [some (aR 54), some (aI x2), none] from rfl) ?_
  refine vc_iload_n dX12_oneOfDay_9 rfl ?_
  refine vc_if_ne dX12_oneOfDay_10 (fun h3 => ?_) (fun h3 => ?_)
  · refine vc_iload_n dX12_oneOfDay_36 rfl ?_
    refine vc_iconst dX12_oneOfDay_37 rfl ?_
    refine vc_icmp_ne dX12_oneOfDay_38 (fun h4 => ?_) (fun h4 => ?_)
    · refine vc_aload_n dX12_oneOfDay_93 rfl ?_
      refine vc_cVI dX12_oneOfDay_94 (sfX12_isAheadF (M := M) hB0.1   ) rfl okX12_isAhead viX12_isAhead lkX12_437 (s_54 hB0.1.1) cl_12 rfl (Nat.le_of_ble_eq_true rfl) ⟨rfl, rfl⟩ (Nat.le_of_ble_eq_true rfl) (Nat.le_of_ble_eq_true rfl) (Nat.le_of_ble_eq_true rfl) ?_
      rintro x5 _ ⟨rfl, h6, h7, h8, h9⟩
      have hia := h9
      refine vc_if_eq dX12_oneOfDay_97 (fun h10 => ?_) (fun h10 => ?_)
      · refine vc_aload_n dX12_oneOfDay_107 rfl ?_
        refine vc_getR dX12_oneOfDay_108 flX12_7 (s_54 hB0.1.1) rfl (r_54_0 hB0.1.1) ?_
        refine vc_sipush dX12_oneOfDay_111 rfl ?_
        refine vc_aload_n dX12_oneOfDay_114 rfl ?_
        refine vc_getR dX12_oneOfDay_115 flX12_7 (s_54 hB0.1.1) rfl (r_54_0 hB0.1.1) ?_
        refine vc_sipush dX12_oneOfDay_118 rfl ?_
        refine vc_iaload dX12_oneOfDay_121 (s_55 hB0.1.1) (by omega) (by omega) ?_
        refine vc_topI (mI M 55 257) rfl ?_
        have k11 : 0 ≤ mI M 55 257 ∧ mI M 55 257 ≤ 3 := b55_257 (M := M) hB0.1
        refine vc_iconst dX12_oneOfDay_122 rfl ?_
        refine vc_cSI dX12_oneOfDay_123 (sfX12_turnedF (M := M) hB0.1  (mI M 55 257) 1 (by omega) (by omega)) rfl okX12_turned stX12_turned lkX12_391 rfl (Nat.le_of_ble_eq_true rfl) ⟨rfl, rfl⟩ (Nat.le_of_ble_eq_true rfl) (Nat.le_of_ble_eq_true rfl) (Nat.le_of_ble_eq_true rfl) ?_
        rintro x12 _ ⟨rfl, h13, h14, h15⟩
        refine vc_iastore dX12_oneOfDay_126 (s_55 hB0.1.1) (by omega) (by omega) ?_
        refine vc_mem (sI M 55 257 x12) rfl ?_
        have kp16 : mI (sI M 55 257 x12) 57 = mI M 57 := (kp_sI rfl rfl)
        have hB17 : BF fR M (sI M 55 257 x12) := BF.a (x := 257) hB0 (by omega) (by omega) (by unfold aB; refine ⟨?_, ?_, ?_, ?_, ?_, ?_, ?_, ?_, ?_, ?_, ?_, ?_, ?_, ?_, ?_, ?_, ?_, ?_⟩ <;> intros <;> omega) (by omega) (by omega) (by omega) (by omega) (by omega) (by omega) fR_55
        refine vc_aload_n dX12_oneOfDay_127 rfl ?_
        refine vc_cVU dX12_oneOfDay_128 (sfX12_anewF (M := (sI M 55 257 x12)) hB17.1   ) rfl okX12_anew viX12_anew lkX12_440 (s_54 hB17.1.1) cl_12 rfl (Nat.le_of_ble_eq_true rfl) ⟨rfl, rfl⟩ (Nat.le_of_ble_eq_true rfl) (Nat.le_of_ble_eq_true rfl) (Nat.le_of_ble_eq_true rfl) ?_
        rintro M18 ⟨hB19, kp20, h21⟩
        have hB22 : BF fR M M18 := BF.go hB17 hB19
        have kp23 : mI M18 57 = mI M 57 := kp_go kp16 kp20
        have hnw := h21
        refine vc_vret dX12_oneOfDay_131 rfl (Nat.le_of_ble_eq_true rfl) (Nat.le_of_ble_eq_true rfl) ?_
        refine ⟨rfl, hB22, kp23, ?_⟩
        have c4 := hA.2.1.1
        have c1 := hA.2.1.2.2.2
        have c0 := hA.2.1.2.2.1
        have c2 := hA.1.1.2.2.1
        have hb4 := b55_4 hB
        have w7 := hA.2.2.2.2.1
        have w8 := hA.1.2.2.2.2.2.2.2
        obtain ⟨x1, x2, x3, x4, x5, x6, x7⟩ := w8
        have hS : AR (mI (sI M 55 257 x12) 55) (drS (S 16 3 % 4) S) := by
          unfold drS
          rw [if_neg (by omega), if_neg (by omega), if_neg (by have z := hia S hA; omega)]; unfold fFa; rw [if_neg (by decide)]; exact AR_face hA (by unfold sdS; rw [if_pos rfl]; omega) (by rw [mI_same]; unfold sdS; rw [if_pos rfl]; omega) (fun j j1 j2 => by rw [mI_sI, if_neg (by omega)])
        have z := hnw _ hS
        rw [drS_3] at z
        exact z
      · refine vc_aload_n dX12_oneOfDay_100 rfl ?_
        have hah9 : 0 ≤ ahS S (S 16 0) (S 16 1) := by have z := hia S p0; have z2 := p0.ahr (S 16 0) (S 16 1); have c0 := p0.2.1.2.2.1; have z3 : wkS S (S 16 1) 1 (S 16 0) = ahS S (S 16 0) (S 16 1) := (by rw [wkS_s (by omega)]; rfl); omega
        refine vc_cVU dX12_oneOfDay_101 (sfX12_walkNowF (M := M) hB0.1 S  (by omega) (by exact p0) (by exact p1) (by exact p2) (by exact hah9)) rfl okX12_walkNow viX12_walkNow lkX12_382 (s_54 hB0.1.1) cl_12 rfl (Nat.le_of_ble_eq_true rfl) ⟨rfl, rfl⟩ (Nat.le_of_ble_eq_true rfl) (Nat.le_of_ble_eq_true rfl) (Nat.le_of_ble_eq_true rfl) ?_
        rintro M24 ⟨hB25, kp26, h27, h28, h29, h30⟩
        have hB31 : BF fR M M24 := BF.go hB0 hB25
        have kp32 : mI M24 57 = mI M 57 := kp_go rfl kp26
        have hwn := h30
        refine vc_goto dX12_oneOfDay_104 ?_
        refine vc_aload_n dX12_oneOfDay_127 rfl ?_
        refine vc_cVU dX12_oneOfDay_128 (sfX12_anewF (M := M24) hB31.1   ) rfl okX12_anew viX12_anew lkX12_440 (s_54 hB31.1.1) cl_12 rfl (Nat.le_of_ble_eq_true rfl) ⟨rfl, rfl⟩ (Nat.le_of_ble_eq_true rfl) (Nat.le_of_ble_eq_true rfl) (Nat.le_of_ble_eq_true rfl) ?_
        rintro M33 ⟨hB34, kp35, h36⟩
        have hB37 : BF fR M M33 := BF.go hB31 hB34
        have kp38 : mI M33 57 = mI M 57 := kp_go kp32 kp35
        have hnw := h36
        refine vc_vret dX12_oneOfDay_131 rfl (Nat.le_of_ble_eq_true rfl) (Nat.le_of_ble_eq_true rfl) ?_
        refine ⟨rfl, hB37, kp38, ?_⟩
        have c4 := hA.2.1.1
        have c1 := hA.2.1.2.2.2
        have c0 := hA.2.1.2.2.1
        have c2 := hA.1.1.2.2.1
        have hb4 := b55_4 hB
        have w7 := hA.2.2.2.2.1
        have w8 := hA.1.2.2.2.2.2.2.2
        obtain ⟨x1, x2, x3, x4, x5, x6, x7⟩ := w8
        have hS : AR (mI M24 55) (drS (S 16 3 % 4) S) := by
          unfold drS
          rw [if_neg (by omega), if_neg (by omega), if_pos (by have z := hia S hA; omega)]; exact hwn
        have z := hnw _ hS
        rw [drS_3] at z
        exact z
    · refine vc_iconst dX12_oneOfDay_41 rfl ?_
      refine vc_istore_n dX12_oneOfDay_42 (by decide) rfl (show _ = [some (aR 54), some (aI x2), some (aI 0)] from rfl) ?_
      have lp43 : ∀ (n43 : Nat) (v2 : Int), (0 ≤ v2) → (v2 ≤ 6) → (hlS (S 1 8).toNat 0 S = hlS (S 1 8 - v2).toNat v2 S) → (6 - v2).toNat < n43 → VC l mdX12_oneOfDay 43 [some (aR 54), none, some (aI v2)] [] M 0 0 (fun q N => q = none ∧ BF fR M N ∧ mI N 57 = mI M 57 ∧ AR (mI N 55) (drR S)) := by
        intro n43
        induction n43 with
        | zero => intro v2 g43_2a g43_2b g43i0 hm43; exact absurd hm43 (Nat.not_lt_zero _)
        | succ n43 ih43 =>
          intro v2 g43_2a g43_2b g43i0 hm43
          refine vc_iload_n dX12_oneOfDay_43 rfl ?_
          refine vc_aload_n dX12_oneOfDay_44 rfl ?_
          refine vc_getR dX12_oneOfDay_45 flX12_7 (s_54 hB0.1.1) rfl (r_54_0 hB0.1.1) ?_
          refine vc_iconst dX12_oneOfDay_48 rfl ?_
          refine vc_iaload dX12_oneOfDay_49 (s_55 hB0.1.1) (by omega) (by omega) ?_
          refine vc_topI (mI M 55 2) rfl ?_
          have k39 : 0 ≤ mI M 55 2 ∧ mI M 55 2 ≤ 6 := b55_2 (M := M) hB0.1
          refine vc_icmp_ge dX12_oneOfDay_50 (fun h40 => ?_) (fun h40 => ?_)
          · refine vc_iload_n dX12_oneOfDay_75 rfl ?_
            refine vc_aload_n dX12_oneOfDay_76 rfl ?_
            refine vc_getR dX12_oneOfDay_77 flX12_7 (s_54 hB0.1.1) rfl (r_54_0 hB0.1.1) ?_
            refine vc_iconst dX12_oneOfDay_80 rfl ?_
            refine vc_iaload dX12_oneOfDay_81 (s_55 hB0.1.1) (by omega) (by omega) ?_
            refine vc_topI (mI M 55 2) rfl ?_
            refine vc_icmp_ge dX12_oneOfDay_82 (fun h41 => ?_) (fun h41 => ?_)
            · refine vc_goto dX12_oneOfDay_90 ?_
              refine vc_aload_n dX12_oneOfDay_127 rfl ?_
              refine vc_cVU dX12_oneOfDay_128 (sfX12_anewF (M := M) hB0.1   ) rfl okX12_anew viX12_anew lkX12_440 (s_54 hB0.1.1) cl_12 rfl (Nat.le_of_ble_eq_true rfl) ⟨rfl, rfl⟩ (Nat.le_of_ble_eq_true rfl) (Nat.le_of_ble_eq_true rfl) (Nat.le_of_ble_eq_true rfl) ?_
              rintro M42 ⟨hB43, kp44, h45⟩
              have hB46 : BF fR M M42 := BF.go hB0 hB43
              have kp47 : mI M42 57 = mI M 57 := kp_go rfl kp44
              have hnw := h45
              refine vc_vret dX12_oneOfDay_131 rfl (Nat.le_of_ble_eq_true rfl) (Nat.le_of_ble_eq_true rfl) ?_
              refine ⟨rfl, hB46, kp47, ?_⟩
              have c4 := hA.2.1.1
              have c1 := hA.2.1.2.2.2
              have c0 := hA.2.1.2.2.1
              have c2 := hA.1.1.2.2.1
              have hb4 := b55_4 hB
              have w7 := hA.2.2.2.2.1
              have w8 := hA.1.2.2.2.2.2.2.2
              obtain ⟨x1, x2, x3, x4, x5, x6, x7⟩ := w8
              have hS : AR (mI M 55) (drS (S 16 3 % 4) S) := by
                unfold drS
                rw [if_neg (by omega), if_pos (by omega), g43i0, show (S 1 8 - v2).toNat = 0 by omega]; exact hA
              have z := hnw _ hS
              rw [drS_3] at z
              exact z
            · refine vc_aload_n dX12_oneOfDay_85 rfl ?_
              refine vc_iload_n dX12_oneOfDay_86 rfl ?_
              refine vc_cVU dX12_oneOfDay_87 (sfX12_askNowF (M := M) hB0.1 S v2 (by omega) (by omega) (by exact p0) (by omega) (by exact p1) (by exact p3)) rfl okX12_askNow viX12_askNow lkX12_397 (s_54 hB0.1.1) cl_12 rfl (Nat.le_of_ble_eq_true rfl) ⟨rfl, rfl⟩ (Nat.le_of_ble_eq_true rfl) (Nat.le_of_ble_eq_true rfl) (Nat.le_of_ble_eq_true rfl) ?_
              rintro M48 ⟨hB49, kp50, h51⟩
              have hB52 : BF fR M M48 := BF.go hB0 hB49
              have kp53 : mI M48 57 = mI M 57 := kp_go rfl kp50
              have han := h51
              refine vc_goto dX12_oneOfDay_90 ?_
              refine vc_aload_n dX12_oneOfDay_127 rfl ?_
              refine vc_cVU dX12_oneOfDay_128 (sfX12_anewF (M := M48) hB52.1   ) rfl okX12_anew viX12_anew lkX12_440 (s_54 hB52.1.1) cl_12 rfl (Nat.le_of_ble_eq_true rfl) ⟨rfl, rfl⟩ (Nat.le_of_ble_eq_true rfl) (Nat.le_of_ble_eq_true rfl) (Nat.le_of_ble_eq_true rfl) ?_
              rintro M54 ⟨hB55, kp56, h57⟩
              have hB58 : BF fR M M54 := BF.go hB52 hB55
              have kp59 : mI M54 57 = mI M 57 := kp_go kp53 kp56
              have hnw := h57
              refine vc_vret dX12_oneOfDay_131 rfl (Nat.le_of_ble_eq_true rfl) (Nat.le_of_ble_eq_true rfl) ?_
              refine ⟨rfl, hB58, kp59, ?_⟩
              have c4 := hA.2.1.1
              have c1 := hA.2.1.2.2.2
              have c0 := hA.2.1.2.2.1
              have c2 := hA.1.1.2.2.1
              have hb4 := b55_4 hB
              have w7 := hA.2.2.2.2.1
              have w8 := hA.1.2.2.2.2.2.2.2
              obtain ⟨x1, x2, x3, x4, x5, x6, x7⟩ := w8
              have hS : AR (mI M48 55) (drS (S 16 3 % 4) S) := by
                unfold drS
                rw [if_neg (by omega), if_pos (by omega), g43i0, show (S 1 8 - v2).toNat = (S 1 8 - v2 - 1).toNat + 1 by omega]; have q := hA.1.te (t := v2) (by omega) (by omega); have e9 : hlS ((S 1 8 - v2 - 1).toNat + 1) v2 S = fHe v2 S := if_pos (by omega); rw [e9]; exact han
              have z := hnw _ hS
              rw [drS_3] at z
              exact z
          · refine vc_aload_n dX12_oneOfDay_53 rfl ?_
            refine vc_iload_n dX12_oneOfDay_54 rfl ?_
            refine vc_cVI dX12_oneOfDay_55 (sfX12_cornerOfF (M := M) hB0.1  v2 (by omega) (by omega)) rfl okX12_cornerOf viX12_cornerOf lkX12_296 (s_54 hB0.1.1) cl_12 rfl (Nat.le_of_ble_eq_true rfl) ⟨rfl, rfl⟩ (Nat.le_of_ble_eq_true rfl) (Nat.le_of_ble_eq_true rfl) (Nat.le_of_ble_eq_true rfl) ?_
            rintro x60 _ ⟨rfl, h61, h62, h63⟩
            have hco := h63
            refine vc_aload_n dX12_oneOfDay_58 rfl ?_
            refine vc_getR dX12_oneOfDay_59 flX12_7 (s_54 hB0.1.1) rfl (r_54_0 hB0.1.1) ?_
            refine vc_sipush dX12_oneOfDay_62 rfl ?_
            refine vc_iaload dX12_oneOfDay_65 (s_55 hB0.1.1) (by omega) (by omega) ?_
            refine vc_topI (mI M 55 256) rfl ?_
            have k64 : (-1) ≤ mI M 55 256 ∧ mI M 55 256 ≤ 15 := b55_256 (M := M) hB0.1
            refine vc_icmp_eq dX12_oneOfDay_66 (fun h65 => ?_) (fun h65 => ?_)
            · refine vc_iload_n dX12_oneOfDay_75 rfl ?_
              refine vc_aload_n dX12_oneOfDay_76 rfl ?_
              refine vc_getR dX12_oneOfDay_77 flX12_7 (s_54 hB0.1.1) rfl (r_54_0 hB0.1.1) ?_
              refine vc_iconst dX12_oneOfDay_80 rfl ?_
              refine vc_iaload dX12_oneOfDay_81 (s_55 hB0.1.1) (by omega) (by omega) ?_
              refine vc_topI (mI M 55 2) rfl ?_
              refine vc_icmp_ge dX12_oneOfDay_82 (fun h66 => ?_) (fun h66 => ?_)
              · refine vc_goto dX12_oneOfDay_90 ?_
                refine vc_aload_n dX12_oneOfDay_127 rfl ?_
                refine vc_cVU dX12_oneOfDay_128 (sfX12_anewF (M := M) hB0.1   ) rfl okX12_anew viX12_anew lkX12_440 (s_54 hB0.1.1) cl_12 rfl (Nat.le_of_ble_eq_true rfl) ⟨rfl, rfl⟩ (Nat.le_of_ble_eq_true rfl) (Nat.le_of_ble_eq_true rfl) (Nat.le_of_ble_eq_true rfl) ?_
                rintro M67 ⟨hB68, kp69, h70⟩
                have hB71 : BF fR M M67 := BF.go hB0 hB68
                have kp72 : mI M67 57 = mI M 57 := kp_go rfl kp69
                have hnw := h70
                refine vc_vret dX12_oneOfDay_131 rfl (Nat.le_of_ble_eq_true rfl) (Nat.le_of_ble_eq_true rfl) ?_
                refine ⟨rfl, hB71, kp72, ?_⟩
                have c4 := hA.2.1.1
                have c1 := hA.2.1.2.2.2
                have c0 := hA.2.1.2.2.1
                have c2 := hA.1.1.2.2.1
                have hb4 := b55_4 hB
                have w7 := hA.2.2.2.2.1
                have w8 := hA.1.2.2.2.2.2.2.2
                obtain ⟨x1, x2, x3, x4, x5, x6, x7⟩ := w8
                have hS : AR (mI M 55) (drS (S 16 3 % 4) S) := by
                  unfold drS
                  rw [if_neg (by omega), if_pos (by omega), g43i0, show (S 1 8 - v2).toNat = 0 by omega]; exact hA
                have z := hnw _ hS
                rw [drS_3] at z
                exact z
              · refine vc_aload_n dX12_oneOfDay_85 rfl ?_
                refine vc_iload_n dX12_oneOfDay_86 rfl ?_
                refine vc_cVU dX12_oneOfDay_87 (sfX12_askNowF (M := M) hB0.1 S v2 (by omega) (by omega) (by exact p0) (by omega) (by exact p1) (by exact p3)) rfl okX12_askNow viX12_askNow lkX12_397 (s_54 hB0.1.1) cl_12 rfl (Nat.le_of_ble_eq_true rfl) ⟨rfl, rfl⟩ (Nat.le_of_ble_eq_true rfl) (Nat.le_of_ble_eq_true rfl) (Nat.le_of_ble_eq_true rfl) ?_
                rintro M73 ⟨hB74, kp75, h76⟩
                have hB77 : BF fR M M73 := BF.go hB0 hB74
                have kp78 : mI M73 57 = mI M 57 := kp_go rfl kp75
                have han := h76
                refine vc_goto dX12_oneOfDay_90 ?_
                refine vc_aload_n dX12_oneOfDay_127 rfl ?_
                refine vc_cVU dX12_oneOfDay_128 (sfX12_anewF (M := M73) hB77.1   ) rfl okX12_anew viX12_anew lkX12_440 (s_54 hB77.1.1) cl_12 rfl (Nat.le_of_ble_eq_true rfl) ⟨rfl, rfl⟩ (Nat.le_of_ble_eq_true rfl) (Nat.le_of_ble_eq_true rfl) (Nat.le_of_ble_eq_true rfl) ?_
                rintro M79 ⟨hB80, kp81, h82⟩
                have hB83 : BF fR M M79 := BF.go hB77 hB80
                have kp84 : mI M79 57 = mI M 57 := kp_go kp78 kp81
                have hnw := h82
                refine vc_vret dX12_oneOfDay_131 rfl (Nat.le_of_ble_eq_true rfl) (Nat.le_of_ble_eq_true rfl) ?_
                refine ⟨rfl, hB83, kp84, ?_⟩
                have c4 := hA.2.1.1
                have c1 := hA.2.1.2.2.2
                have c0 := hA.2.1.2.2.1
                have c2 := hA.1.1.2.2.1
                have hb4 := b55_4 hB
                have w7 := hA.2.2.2.2.1
                have w8 := hA.1.2.2.2.2.2.2.2
                obtain ⟨x1, x2, x3, x4, x5, x6, x7⟩ := w8
                have hS : AR (mI M73 55) (drS (S 16 3 % 4) S) := by
                  unfold drS
                  rw [if_neg (by omega), if_pos (by omega), g43i0, show (S 1 8 - v2).toNat = (S 1 8 - v2 - 1).toNat + 1 by omega]; have q := hA.1.te (t := v2) (by omega) (by omega); have e9 : hlS ((S 1 8 - v2 - 1).toNat + 1) v2 S = fHe v2 S := if_pos (by omega); rw [e9]; exact han
                have z := hnw _ hS
                rw [drS_3] at z
                exact z
            · refine vc_iincE dX12_oneOfDay_69 rfl (by omega) (by omega) (by decide) rfl (show _ = [some (aR 54), none, some (aI (v2 + 1))] from rfl) ?_
              refine vc_goto dX12_oneOfDay_72 ?_
              exact ih43 (v2 + 1) (by omega) (by omega) (by first | (rw [Int.sub_zero]) | (have c0 := hA.2.1.2.2.1; have c2 := hA.1.1.2.2.1; have q := hA.1.te (t := v2) (by omega) (by omega); rw [g43i0, show (S 1 8 - v2).toNat = (S 1 8 - (v2 + 1)).toNat + 1 by omega]; exact if_neg (by omega))) (by omega)
      refine vc_less [some (aR 54), none, some (aI 0)] (lessL_keep (lessL_drop (lessL_keep (lessL_nil)))) ?_
      exact lp43 _ 0 (by omega) (by omega) (by first | (rw [Int.sub_zero]) | (have c0 := hA.2.1.2.2.1; have c2 := hA.1.1.2.2.1; have q := hA.1.te (t := v2) (by omega) (by omega); rw [g43i0, show (S 1 8 - v2).toNat = (S 1 8 - (v2 + 1)).toNat + 1 by omega]; exact if_neg (by omega))) (Nat.lt_succ_self _)
  · refine vc_aload_n dX12_oneOfDay_13 rfl ?_
    refine vc_getR dX12_oneOfDay_14 flX12_7 (s_54 hB0.1.1) rfl (r_54_0 hB0.1.1) ?_
    refine vc_sipush dX12_oneOfDay_17 rfl ?_
    refine vc_aload_n dX12_oneOfDay_20 rfl ?_
    refine vc_getR dX12_oneOfDay_21 flX12_7 (s_54 hB0.1.1) rfl (r_54_0 hB0.1.1) ?_
    refine vc_sipush dX12_oneOfDay_24 rfl ?_
    refine vc_iaload dX12_oneOfDay_27 (s_55 hB0.1.1) (by omega) (by omega) ?_
    refine vc_topI (mI M 55 257) rfl ?_
    have k85 : 0 ≤ mI M 55 257 ∧ mI M 55 257 ≤ 3 := b55_257 (M := M) hB0.1
    refine vc_iconst dX12_oneOfDay_28 rfl ?_
    refine vc_cSI dX12_oneOfDay_29 (sfX12_turnedF (M := M) hB0.1  (mI M 55 257) 2 (by omega) (by omega)) rfl okX12_turned stX12_turned lkX12_391 rfl (Nat.le_of_ble_eq_true rfl) ⟨rfl, rfl⟩ (Nat.le_of_ble_eq_true rfl) (Nat.le_of_ble_eq_true rfl) (Nat.le_of_ble_eq_true rfl) ?_
    rintro x86 _ ⟨rfl, h87, h88, h89⟩
    refine vc_iastore dX12_oneOfDay_32 (s_55 hB0.1.1) (by omega) (by omega) ?_
    refine vc_mem (sI M 55 257 x86) rfl ?_
    have kp90 : mI (sI M 55 257 x86) 57 = mI M 57 := (kp_sI rfl rfl)
    have hB91 : BF fR M (sI M 55 257 x86) := BF.a (x := 257) hB0 (by omega) (by omega) (by unfold aB; refine ⟨?_, ?_, ?_, ?_, ?_, ?_, ?_, ?_, ?_, ?_, ?_, ?_, ?_, ?_, ?_, ?_, ?_, ?_⟩ <;> intros <;> omega) (by omega) (by omega) (by omega) (by omega) (by omega) (by omega) fR_55
    refine vc_goto dX12_oneOfDay_33 ?_
    refine vc_aload_n dX12_oneOfDay_127 rfl ?_
    refine vc_cVU dX12_oneOfDay_128 (sfX12_anewF (M := (sI M 55 257 x86)) hB91.1   ) rfl okX12_anew viX12_anew lkX12_440 (s_54 hB91.1.1) cl_12 rfl (Nat.le_of_ble_eq_true rfl) ⟨rfl, rfl⟩ (Nat.le_of_ble_eq_true rfl) (Nat.le_of_ble_eq_true rfl) (Nat.le_of_ble_eq_true rfl) ?_
    rintro M92 ⟨hB93, kp94, h95⟩
    have hB96 : BF fR M M92 := BF.go hB91 hB93
    have kp97 : mI M92 57 = mI M 57 := kp_go kp90 kp94
    have hnw := h95
    refine vc_vret dX12_oneOfDay_131 rfl (Nat.le_of_ble_eq_true rfl) (Nat.le_of_ble_eq_true rfl) ?_
    refine ⟨rfl, hB96, kp97, ?_⟩
    have c4 := hA.2.1.1
    have c1 := hA.2.1.2.2.2
    have c0 := hA.2.1.2.2.1
    have c2 := hA.1.1.2.2.1
    have hb4 := b55_4 hB
    have w7 := hA.2.2.2.2.1
    have w8 := hA.1.2.2.2.2.2.2.2
    obtain ⟨x1, x2, x3, x4, x5, x6, x7⟩ := w8
    have hS : AR (mI (sI M 55 257 x86) 55) (drS (S 16 3 % 4) S) := by
      unfold drS
      rw [if_pos (by omega)]; unfold fFa; rw [if_neg (by decide)]; exact AR_face hA (by unfold sdS; rw [if_neg (by decide), if_pos rfl]; omega) (by rw [mI_same]; unfold sdS; rw [if_neg (by decide), if_pos rfl]; omega) (fun j j1 j2 => by rw [mI_sI, if_neg (by omega)])
    have z := hnw _ hS
    rw [drS_3] at z
    exact z

set_option maxRecDepth 4000 in
theorem sfX12_dayF {l : Launch} {M : Mem} (hB : Box M) (S : Sw) (s : Int) (n : Int) (p0 : AR (mI M 55) S) (p1 : LwS S (mI M 57)) (p2 : nmT S) (p3 : asB S 900000) : Call l mdX12_day [aR 54, aI s, aI n] M (fun q N => ∃ r : Int, q = some (aI r) ∧ BF fR M N ∧ mI N 57 = mI M 57 ∧ (∀ (S' : Sw) (r9 : Int), DayS s n S S' r9 → r = r9 ∧ AR (mI N 55) S')) := by
  have hB0 : BF fR M M := BF.start hB
  refine Call.of [some (aR 54), some (aI s), some (aI n), none] rfl (Nat.le_of_ble_eq_true rfl) rfl ?_
  refine vc_ok (fun hoM hoS hoL => ?_)
  have hr1 : -2147483648 ≤ s ∧ s < 2147483648 := hoL 1 _ rfl
  have hr2 : -2147483648 ≤ n ∧ n < 2147483648 := hoL 2 _ rfl
  refine vc_iload_n dX12_day_0 rfl ?_
  refine vc_iconst dX12_day_1 rfl ?_
  refine vc_sipush dX12_day_2 rfl ?_
  refine vc_cSI dX12_day_5 (sfX12_isInF (M := M) hB0.1  s 0 9999 ) rfl okX12_isIn stX12_isIn lkX12_83 rfl (Nat.le_of_ble_eq_true rfl) ⟨rfl, rfl⟩ (Nat.le_of_ble_eq_true rfl) (Nat.le_of_ble_eq_true rfl) (Nat.le_of_ble_eq_true rfl) ?_
  rintro x1 _ ⟨rfl, h2, h3, h4⟩
  refine vc_if_eq dX12_day_8 (fun h5 => ?_) (fun h5 => ?_)
  · refine vc_iconst dX12_day_30 rfl ?_
    refine vc_iret dX12_day_31 rfl (Nat.le_of_ble_eq_true rfl) (Nat.le_of_ble_eq_true rfl) ?_
    refine ⟨_, rfl, hB0, rfl, fun S' r9 hC => ?_⟩
    have c0 := p0.1.1.1
    rcases hC with ⟨hc, e, er⟩ | ⟨hc, e, er⟩
    · exfalso; omega
    · rw [e]; exact ⟨er.symm, p0⟩
  · refine vc_iload_n dX12_day_11 rfl ?_
    refine vc_iconst dX12_day_12 rfl ?_
    refine vc_bipush dX12_day_13 rfl ?_
    refine vc_cSI dX12_day_15 (sfX12_isInF (M := M) hB0.1  n 1 30 ) rfl okX12_isIn stX12_isIn lkX12_83 rfl (Nat.le_of_ble_eq_true rfl) ⟨rfl, rfl⟩ (Nat.le_of_ble_eq_true rfl) (Nat.le_of_ble_eq_true rfl) (Nat.le_of_ble_eq_true rfl) ?_
    rintro x6 _ ⟨rfl, h7, h8, h9⟩
    refine vc_if_eq dX12_day_18 (fun h10 => ?_) (fun h10 => ?_)
    · refine vc_iconst dX12_day_30 rfl ?_
      refine vc_iret dX12_day_31 rfl (Nat.le_of_ble_eq_true rfl) (Nat.le_of_ble_eq_true rfl) ?_
      refine ⟨_, rfl, hB0, rfl, fun S' r9 hC => ?_⟩
      have c0 := p0.1.1.1
      rcases hC with ⟨hc, e, er⟩ | ⟨hc, e, er⟩
      · exfalso; omega
      · rw [e]; exact ⟨er.symm, p0⟩
    · refine vc_aload_n dX12_day_21 rfl ?_
      refine vc_getR dX12_day_22 flX12_7 (s_54 hB0.1.1) rfl (r_54_0 hB0.1.1) ?_
      refine vc_iconst dX12_day_25 rfl ?_
      refine vc_iaload dX12_day_26 (s_55 hB0.1.1) (by omega) (by omega) ?_
      refine vc_topI (mI M 55 0) rfl ?_
      have k11 : 0 ≤ mI M 55 0 ∧ mI M 55 0 ≤ 16 := b55_0 (M := M) hB0.1
      refine vc_if_ne dX12_day_27 (fun h12 => ?_) (fun h12 => ?_)
      · refine vc_aload_n dX12_day_32 rfl ?_
        refine vc_cVU dX12_day_33 (sfX12_keepF (M := M) hB0.1   ) rfl okX12_keep viX12_keep lkX12_373 (s_54 hB0.1.1) cl_12 rfl (Nat.le_of_ble_eq_true rfl) ⟨rfl, rfl⟩ (Nat.le_of_ble_eq_true rfl) (Nat.le_of_ble_eq_true rfl) (Nat.le_of_ble_eq_true rfl) ?_
        rintro M13 ⟨hB14, kp15, h16, h17⟩
        have hB18 : BF fR M M13 := BF.go hB0 hB14
        have kp19 : mI M13 57 = mI M 57 := kp_go rfl kp15
        have f0 := h16 0 (by decide) (by decide)
        have hkp := h17
        refine vc_aload_n dX12_day_36 rfl ?_
        refine vc_getR dX12_day_37 flX12_7 (s_54 hB18.1.1) rfl (r_54_0 hB18.1.1) ?_
        refine vc_iconst dX12_day_40 rfl ?_
        refine vc_iload_n dX12_day_41 rfl ?_
        refine vc_iconst dX12_day_42 rfl ?_
        refine vc_imulE dX12_day_43 (by omega) (by omega) ?_
        refine vc_bipush dX12_day_44 rfl ?_
        refine vc_iaddE dX12_day_46 (by omega) (by omega) ?_
        refine vc_iastore dX12_day_47 (s_55 hB18.1.1) (by omega) (by omega) ?_
        refine vc_mem (sI M13 55 4 ((s * 4) + 29)) rfl ?_
        have kp20 : mI (sI M13 55 4 ((s * 4) + 29)) 57 = mI M 57 := (kp_sI kp19 rfl)
        have hB21 : BF fR M (sI M13 55 4 ((s * 4) + 29)) := BF.a (x := 4) hB18 (by omega) (by omega) (by unfold aB; refine ⟨?_, ?_, ?_, ?_, ?_, ?_, ?_, ?_, ?_, ?_, ?_, ?_, ?_, ?_, ?_, ?_, ?_, ?_⟩ <;> intros <;> omega) (by omega) (by omega) (by omega) (by omega) (by omega) (by omega) fR_55
        refine vc_aload_n dX12_day_48 rfl ?_
        refine vc_aload_n dX12_day_49 rfl ?_
        refine vc_getR dX12_day_50 flX12_7 (s_54 hB21.1.1) rfl (r_54_0 hB21.1.1) ?_
        refine vc_iconst dX12_day_53 rfl ?_
        refine vc_iaload dX12_day_54 (s_55 hB21.1.1) (by omega) (by omega) ?_
        refine vc_topI ((s * 4) + 29) rfl ?_
        refine vc_aload_n dX12_day_55 rfl ?_
        refine vc_getR dX12_day_56 flX12_7 (s_54 hB21.1.1) rfl (r_54_0 hB21.1.1) ?_
        refine vc_iconst dX12_day_59 rfl ?_
        refine vc_iaload dX12_day_60 (s_55 hB21.1.1) (by omega) (by omega) ?_
        refine vc_topI (mI M13 55 0) rfl ?_
        have k22 : 0 ≤ mI M13 55 0 ∧ mI M13 55 0 ≤ 16 := b55_0 (M := (sI M13 55 4 ((s * 4) + 29))) hB21.1
        refine vc_iremE dX12_day_61 (by omega) (by omega) ?_
        refine vc_aload_n dX12_day_62 rfl ?_
        refine vc_getR dX12_day_63 flX12_7 (s_54 hB21.1.1) rfl (r_54_0 hB21.1.1) ?_
        refine vc_iconst dX12_day_66 rfl ?_
        refine vc_iaload dX12_day_67 (s_55 hB21.1.1) (by omega) (by omega) ?_
        refine vc_topI ((s * 4) + 29) rfl ?_
        refine vc_iconst dX12_day_68 rfl ?_
        refine vc_iremE dX12_day_69 (by omega) (by omega) ?_
        have hm1 := Int.emod_nonneg ((s * 4) + 29) (show (mI M13 55 0) ≠ 0 by omega)
        have hm2 := Int.emod_lt_of_pos ((s * 4) + 29) (show 0 < (mI M13 55 0) by omega)
        have hm3 := b55_0 (M := (sI M13 55 4 ((s * 4) + 29))) hB21.1
        refine vc_cVU dX12_day_70 (sfX12_startNowF (M := (sI M13 55 4 ((s * 4) + 29))) hB21.1  (((s * 4) + 29) % (mI M13 55 0)) (((s * 4) + 29) % 4) (by omega) (by omega) (by omega) (by omega)) rfl okX12_startNow viX12_startNow lkX12_376 (s_54 hB21.1.1) cl_12 rfl (Nat.le_of_ble_eq_true rfl) ⟨rfl, rfl⟩ (Nat.le_of_ble_eq_true rfl) (Nat.le_of_ble_eq_true rfl) (Nat.le_of_ble_eq_true rfl) ?_
        rintro M23 ⟨hB24, kp25, h26, h27, h28⟩
        have hB29 : BF fR M M23 := BF.go hB21 hB24
        have kp30 : mI M23 57 = mI M 57 := kp_go kp20 kp25
        have hsn := h28
        refine vc_aload_n dX12_day_73 rfl ?_
        refine vc_cVU dX12_day_74 (sfX12_anewF (M := M23) hB29.1   ) rfl okX12_anew viX12_anew lkX12_440 (s_54 hB29.1.1) cl_12 rfl (Nat.le_of_ble_eq_true rfl) ⟨rfl, rfl⟩ (Nat.le_of_ble_eq_true rfl) (Nat.le_of_ble_eq_true rfl) (Nat.le_of_ble_eq_true rfl) ?_
        rintro M31 ⟨hB32, kp33, h34⟩
        have hB35 : BF fR M M31 := BF.go hB29 hB32
        have kp36 : mI M31 57 = mI M 57 := kp_go kp30 kp33
        have han := h34
        have hU : AR (mI M31 55) (up (sc 0 (fPl ((4 * s + 29) % S 1 6) ((4 * s + 29) % 4) (fKp S))) 16 3 (nwX (4 * s + 29))) := by
          have c0 := p0.1.1.1
          have z1 := hkp S p0
          have z2 : AR (mI (sI M13 55 4 ((s * 4) + 29)) 55) (up (fKp S) 16 3 (4 * s + 29)) := AR_X z1 (by rw [mI_same]; omega) (fun j j1 j2 => by rw [mI_sI, if_neg (by omega)])
          have z3 := hsn _ z2 (by rw [up_ne (by decide), fKp_o (by decide) (by decide)]; omega)
          have z4 := han _ z3
          rw [fPl_X, sc_X, up_same, up_up] at z4
          rw [show (4 * s + 29) % S 1 6 = ((s * 4) + 29) % (mI M13 55 0) by rw [← c0, ← f0]; congr 1; first | rfl | omega, show (4 * s + 29) % 4 = ((s * 4) + 29) % 4 by first | rfl | omega]
          exact z4
        refine vc_iconst dX12_day_77 rfl ?_
        refine vc_istore_n dX12_day_78 (by decide) rfl (show _ = [some (aR 54), some (aI s), some (aI n), some (aI 0)] from rfl) ?_
        have lp79 : ∀ (n79 : Nat) (Mq79 : Mem) (v3 : Int), (BF fR M Mq79) → (mI Mq79 57 = mI M 57) → (0 ≤ v3) → (v3 ≤ 30) → (AR (mI Mq79 55) (rI v3.toNat (up (sc 0 (fPl ((4 * s + 29) % S 1 6) ((4 * s + 29) % 4) (fKp S))) 16 3 (nwX (4 * s + 29))))) → (v3 ≤ n) → (30 - v3).toNat < n79 → VC l mdX12_day 79 [some (aR 54), none, some (aI n), some (aI v3)] [] Mq79 0 0 (fun q N => ∃ r : Int, q = some (aI r) ∧ BF fR M N ∧ mI N 57 = mI M 57 ∧ (∀ (S' : Sw) (r9 : Int), DayS s n S S' r9 → r = r9 ∧ AR (mI N 55) S')) := by
          intro n79
          induction n79 with
          | zero => intro Mq79 v3 hQ79 kp79_57 g79_3a g79_3b g79i0 g79i1 hm79; exact absurd hm79 (Nat.not_lt_zero _)
          | succ n79 ih79 =>
            intro Mq79 v3 hQ79 kp79_57 g79_3a g79_3b g79i0 g79i1 hm79
            have hLU : LwS (up (sc 0 (fPl ((4 * s + 29) % S 1 6) ((4 * s + 29) % 4) (fKp S))) 16 3 (nwX (4 * s + 29))) (mI M 57) := p1.lk (((Lk.kp.trans Lk.pl).trans Lk.sc).trans (Lk.up (by decide) (Or.inl (by decide))))
            have hNU : nmT (up (sc 0 (fPl ((4 * s + 29) % S 1 6) ((4 * s + 29) % 4) (fKp S))) 16 3 (nwX (4 * s + 29))) := p2.kp.pl.sc.u16
            have hw4 := p0.2.2.2.2.1
            have hAU : asB (up (sc 0 (fPl ((4 * s + 29) % S 1 6) ((4 * s + 29) % 4) (fKp S))) 16 3 (nwX (4 * s + 29))) 900000 := ((p3.kp hw4.2.2.1 hw4.2.2.2.1).pl.sc).up (by decide) (by omega)
            have hU8 : (up (sc 0 (fPl ((4 * s + 29) % S 1 6) ((4 * s + 29) % 4) (fKp S))) 16 3 (nwX (4 * s + 29))) 1 8 = S 1 8 := by unfold sc fPl; rw [up_ne (by decide), up_ne (by decide), up_ne (by decide), up_ne (by decide), fKp_o (by decide) (by decide)]
            have hw8 := p0.1.2.2.2.2.2.2.2
            refine vc_iload_n dX12_day_79 rfl ?_
            refine vc_iload_n dX12_day_80 rfl ?_
            refine vc_icmp_ge dX12_day_81 (fun h37 => ?_) (fun h37 => ?_)
            · refine vc_aload_n dX12_day_94 rfl ?_
              refine vc_getR dX12_day_95 flX12_7 (s_54 hQ79.1.1) rfl (r_54_0 hQ79.1.1) ?_
              refine vc_sipush dX12_day_98 rfl ?_
              refine vc_iaload dX12_day_101 (s_55 hQ79.1.1) (by omega) (by omega) ?_
              refine vc_topI (mI Mq79 55 258) rfl ?_
              refine vc_iret dX12_day_102 rfl (Nat.le_of_ble_eq_true rfl) (Nat.le_of_ble_eq_true rfl) ?_
              refine ⟨_, rfl, hQ79, kp79_57, fun S' r9 hC => ?_⟩
              have c0 := p0.1.1.1
              rcases hC with ⟨hc, e, er⟩ | ⟨hc, e, er⟩
              · have z : AR (mI Mq79 55) S' := by rw [e, ← rI_dy, show n.toNat = v3.toNat by omega]; exact g79i0
                exact ⟨z.sec.trans er.symm, z⟩
              · exfalso; omega
            · refine vc_aload_n dX12_day_84 rfl ?_
              have hLr : LwS (rI v3.toNat (up (sc 0 (fPl ((4 * s + 29) % S 1 6) ((4 * s + 29) % 4) (fKp S))) 16 3 (nwX (4 * s + 29)))) (mI Mq79 57) := by rw [kp79_57]; exact hLU.lk (Lk.rI _ _)
              have hNr := nmT.rI v3.toNat _ hNU
              have hAr : asB (rI v3.toNat (up (sc 0 (fPl ((4 * s + 29) % S 1 6) ((4 * s + 29) % 4) (fKp S))) 16 3 (nwX (4 * s + 29)))) 1000000 := (asB.rI v3.toNat (up (sc 0 (fPl ((4 * s + 29) % S 1 6) ((4 * s + 29) % 4) (fKp S))) 16 3 (nwX (4 * s + 29))) 900000 hAU (by decide) (by omega) (by rw [hU8]; exact hw8.2.2.2.1)).le (by omega)
              refine vc_cVU dX12_day_85 (sfX12_oneOfDayF (M := Mq79) hQ79.1 (rI v3.toNat (up (sc 0 (fPl ((4 * s + 29) % S 1 6) ((4 * s + 29) % 4) (fKp S))) 16 3 (nwX (4 * s + 29))))  (by exact g79i0) (by exact hLr) (by exact hNr) (by exact hAr)) rfl okX12_oneOfDay viX12_oneOfDay lkX12_443 (s_54 hQ79.1.1) cl_12 rfl (Nat.le_of_ble_eq_true rfl) ⟨rfl, rfl⟩ (Nat.le_of_ble_eq_true rfl) (Nat.le_of_ble_eq_true rfl) (Nat.le_of_ble_eq_true rfl) ?_
              rintro M38 ⟨hB39, kp40, h41⟩
              have hB42 : BF fR M M38 := BF.go hQ79 hB39
              have kp43 : mI M38 57 = mI M 57 := kp_go kp79_57 kp40
              have hod := h41
              refine vc_iincE dX12_day_88 rfl (by omega) (by omega) (by decide) rfl (show _ = [some (aR 54), none, some (aI n), some (aI (v3 + 1))] from rfl) ?_
              refine vc_goto dX12_day_91 ?_
              exact ih79 M38 (v3 + 1) hB42 kp43 (by omega) (by omega) (by first | exact hU | (rw [show (v3 + 1).toNat = v3.toNat + 1 by omega, rI_last]; exact hod)) (by omega) (by omega)
        refine vc_less [some (aR 54), none, some (aI n), some (aI 0)] (lessL_keep (lessL_drop (lessL_keep (lessL_keep (lessL_nil))))) ?_
        exact lp79 _ M31 0 hB35 kp36 (by omega) (by omega) (by first | exact hU | (rw [show (v3 + 1).toNat = v3.toNat + 1 by omega, rI_last]; exact hod)) (by omega) (Nat.lt_succ_self _)
      · refine vc_iconst dX12_day_30 rfl ?_
        refine vc_iret dX12_day_31 rfl (Nat.le_of_ble_eq_true rfl) (Nat.le_of_ble_eq_true rfl) ?_
        refine ⟨_, rfl, hB0, rfl, fun S' r9 hC => ?_⟩
        have c0 := p0.1.1.1
        rcases hC with ⟨hc, e, er⟩ | ⟨hc, e, er⟩
        · exfalso; omega
        · rw [e]; exact ⟨er.symm, p0⟩

set_option maxRecDepth 4000 in
theorem sfX12_ofCornerF {l : Launch} {M : Mem} (hB : Box M)  (c : Int) (w : Int)  : Call l mdX12_ofCorner [aR 54, aI c, aI w] M (fun q N => ∃ r : Int, q = some (aI r) ∧ M = N ∧ (((0 ≤ c ∧ c < mI M 55 0 ∧ 0 ≤ w ∧ w ≤ 8) ∧ r = mI M 55 (10 + 9 * c + w).toNat) ∨ (¬ (0 ≤ c ∧ c < mI M 55 0 ∧ 0 ≤ w ∧ w ≤ 8) ∧ r = -2))) := by
  have hB0 : BF fQ M M := BF.start hB
  refine Call.of [some (aR 54), some (aI c), some (aI w)] rfl (Nat.le_of_ble_eq_true rfl) rfl ?_
  refine vc_ok (fun hoM hoS hoL => ?_)
  have hr1 : -2147483648 ≤ c ∧ c < 2147483648 := hoL 1 _ rfl
  have hr2 : -2147483648 ≤ w ∧ w < 2147483648 := hoL 2 _ rfl
  refine vc_aload_n dX12_ofCorner_0 rfl ?_
  refine vc_iload_n dX12_ofCorner_1 rfl ?_
  refine vc_cVI dX12_ofCorner_2 (sfX12_isCornerF (M := M) hB0.1  c ) rfl okX12_isCorner viX12_isCorner lkX12_87 (s_54 hB0.1.1) cl_12 rfl (Nat.le_of_ble_eq_true rfl) ⟨rfl, rfl⟩ (Nat.le_of_ble_eq_true rfl) (Nat.le_of_ble_eq_true rfl) (Nat.le_of_ble_eq_true rfl) ?_
  rintro x1 _ ⟨rfl, h2, h3, h4, h5⟩
  refine vc_if_eq dX12_ofCorner_5 (fun h6 => ?_) (fun h6 => ?_)
  · refine vc_bipush dX12_ofCorner_35 rfl ?_
    refine vc_iret dX12_ofCorner_37 rfl (Nat.le_of_ble_eq_true rfl) (Nat.le_of_ble_eq_true rfl) ?_
    exact ⟨_, rfl, rfl, by omega⟩
  · refine vc_iload_n dX12_ofCorner_8 rfl ?_
    refine vc_iconst dX12_ofCorner_9 rfl ?_
    refine vc_bipush dX12_ofCorner_10 rfl ?_
    refine vc_cSI dX12_ofCorner_12 (sfX12_isInF (M := M) hB0.1  w 0 8 ) rfl okX12_isIn stX12_isIn lkX12_83 rfl (Nat.le_of_ble_eq_true rfl) ⟨rfl, rfl⟩ (Nat.le_of_ble_eq_true rfl) (Nat.le_of_ble_eq_true rfl) (Nat.le_of_ble_eq_true rfl) ?_
    rintro x7 _ ⟨rfl, h8, h9, h10⟩
    refine vc_if_eq dX12_ofCorner_15 (fun h11 => ?_) (fun h11 => ?_)
    · refine vc_bipush dX12_ofCorner_35 rfl ?_
      refine vc_iret dX12_ofCorner_37 rfl (Nat.le_of_ble_eq_true rfl) (Nat.le_of_ble_eq_true rfl) ?_
      exact ⟨_, rfl, rfl, by omega⟩
    · refine vc_aload_n dX12_ofCorner_18 rfl ?_
      refine vc_getR dX12_ofCorner_19 flX12_7 (s_54 hB0.1.1) rfl (r_54_0 hB0.1.1) ?_
      refine vc_bipush dX12_ofCorner_22 rfl ?_
      refine vc_bipush dX12_ofCorner_24 rfl ?_
      refine vc_iload_n dX12_ofCorner_26 rfl ?_
      refine vc_imulE dX12_ofCorner_27 (by omega) (by omega) ?_
      refine vc_iaddE dX12_ofCorner_28 (by omega) (by omega) ?_
      refine vc_iload_n dX12_ofCorner_29 rfl ?_
      refine vc_iaddE dX12_ofCorner_30 (by omega) (by omega) ?_
      refine vc_iaload dX12_ofCorner_31 (s_55 hB0.1.1) (by omega) (by omega) ?_
      refine vc_goto dX12_ofCorner_32 ?_
      refine vc_iret dX12_ofCorner_37 rfl (Nat.le_of_ble_eq_true rfl) (Nat.le_of_ble_eq_true rfl) ?_
      exact ⟨_, rfl, rfl, by omega⟩

set_option maxRecDepth 4000 in
theorem sfX12_ofTellerF {l : Launch} {M : Mem} (hB : Box M)  (t : Int) (w : Int)  : Call l mdX12_ofTeller [aR 54, aI t, aI w] M (fun q N => ∃ r : Int, q = some (aI r) ∧ M = N ∧ (((0 ≤ t ∧ t < mI M 55 2 ∧ 0 ≤ w ∧ w ≤ 4) ∧ r = mI M 55 (154 + 5 * t + w).toNat) ∨ (¬ (0 ≤ t ∧ t < mI M 55 2 ∧ 0 ≤ w ∧ w ≤ 4) ∧ r = -1))) := by
  have hB0 : BF fQ M M := BF.start hB
  refine Call.of [some (aR 54), some (aI t), some (aI w)] rfl (Nat.le_of_ble_eq_true rfl) rfl ?_
  refine vc_ok (fun hoM hoS hoL => ?_)
  have hr1 : -2147483648 ≤ t ∧ t < 2147483648 := hoL 1 _ rfl
  have hr2 : -2147483648 ≤ w ∧ w < 2147483648 := hoL 2 _ rfl
  refine vc_aload_n dX12_ofTeller_0 rfl ?_
  refine vc_iload_n dX12_ofTeller_1 rfl ?_
  refine vc_cVI dX12_ofTeller_2 (sfX12_isTellerF (M := M) hB0.1  t ) rfl okX12_isTeller viX12_isTeller lkX12_103 (s_54 hB0.1.1) cl_12 rfl (Nat.le_of_ble_eq_true rfl) ⟨rfl, rfl⟩ (Nat.le_of_ble_eq_true rfl) (Nat.le_of_ble_eq_true rfl) (Nat.le_of_ble_eq_true rfl) ?_
  rintro x1 _ ⟨rfl, h2, h3, h4, h5⟩
  refine vc_if_eq dX12_ofTeller_5 (fun h6 => ?_) (fun h6 => ?_)
  · refine vc_iconst dX12_ofTeller_34 rfl ?_
    refine vc_iret dX12_ofTeller_35 rfl (Nat.le_of_ble_eq_true rfl) (Nat.le_of_ble_eq_true rfl) ?_
    exact ⟨_, rfl, rfl, by omega⟩
  · refine vc_iload_n dX12_ofTeller_8 rfl ?_
    refine vc_iconst dX12_ofTeller_9 rfl ?_
    refine vc_iconst dX12_ofTeller_10 rfl ?_
    refine vc_cSI dX12_ofTeller_11 (sfX12_isInF (M := M) hB0.1  w 0 4 ) rfl okX12_isIn stX12_isIn lkX12_83 rfl (Nat.le_of_ble_eq_true rfl) ⟨rfl, rfl⟩ (Nat.le_of_ble_eq_true rfl) (Nat.le_of_ble_eq_true rfl) (Nat.le_of_ble_eq_true rfl) ?_
    rintro x7 _ ⟨rfl, h8, h9, h10⟩
    refine vc_if_eq dX12_ofTeller_14 (fun h11 => ?_) (fun h11 => ?_)
    · refine vc_iconst dX12_ofTeller_34 rfl ?_
      refine vc_iret dX12_ofTeller_35 rfl (Nat.le_of_ble_eq_true rfl) (Nat.le_of_ble_eq_true rfl) ?_
      exact ⟨_, rfl, rfl, by omega⟩
    · refine vc_aload_n dX12_ofTeller_17 rfl ?_
      refine vc_getR dX12_ofTeller_18 flX12_7 (s_54 hB0.1.1) rfl (r_54_0 hB0.1.1) ?_
      refine vc_sipush dX12_ofTeller_21 rfl ?_
      refine vc_iconst dX12_ofTeller_24 rfl ?_
      refine vc_iload_n dX12_ofTeller_25 rfl ?_
      refine vc_imulE dX12_ofTeller_26 (by omega) (by omega) ?_
      refine vc_iaddE dX12_ofTeller_27 (by omega) (by omega) ?_
      refine vc_iload_n dX12_ofTeller_28 rfl ?_
      refine vc_iaddE dX12_ofTeller_29 (by omega) (by omega) ?_
      refine vc_iaload dX12_ofTeller_30 (s_55 hB0.1.1) (by omega) (by omega) ?_
      refine vc_goto dX12_ofTeller_31 ?_
      refine vc_iret dX12_ofTeller_35 rfl (Nat.le_of_ble_eq_true rfl) (Nat.le_of_ble_eq_true rfl) ?_
      exact ⟨_, rfl, rfl, by omega⟩

set_option maxRecDepth 4000 in
theorem sfX12_walkerF {l : Launch} {M : Mem} (hB : Box M)  (w : Int)  : Call l mdX12_walker [aR 54, aI w] M (fun q N => ∃ r : Int, q = some (aI r) ∧ M = N ∧ (((mI M 55 256 ≠ -1 ∧ 0 ≤ w ∧ w ≤ 2) ∧ r = mI M 55 (256 + w).toNat) ∨ (¬ (mI M 55 256 ≠ -1 ∧ 0 ≤ w ∧ w ≤ 2) ∧ r = -1))) := by
  have hB0 : BF fQ M M := BF.start hB
  refine Call.of [some (aR 54), some (aI w)] rfl (Nat.le_of_ble_eq_true rfl) rfl ?_
  refine vc_ok (fun hoM hoS hoL => ?_)
  have hr1 : -2147483648 ≤ w ∧ w < 2147483648 := hoL 1 _ rfl
  refine vc_aload_n dX12_walker_0 rfl ?_
  refine vc_cVI dX12_walker_1 (sfX12_isWalkerF (M := M) hB0.1   ) rfl okX12_isWalker viX12_isWalker lkX12_379 (s_54 hB0.1.1) cl_12 rfl (Nat.le_of_ble_eq_true rfl) ⟨rfl, rfl⟩ (Nat.le_of_ble_eq_true rfl) (Nat.le_of_ble_eq_true rfl) (Nat.le_of_ble_eq_true rfl) ?_
  rintro x1 _ ⟨rfl, h2, h3, h4, h5⟩
  refine vc_if_eq dX12_walker_4 (fun h6 => ?_) (fun h6 => ?_)
  · refine vc_iconst dX12_walker_29 rfl ?_
    refine vc_iret dX12_walker_30 rfl (Nat.le_of_ble_eq_true rfl) (Nat.le_of_ble_eq_true rfl) ?_
    exact ⟨_, rfl, rfl, by omega⟩
  · refine vc_iload_n dX12_walker_7 rfl ?_
    refine vc_iconst dX12_walker_8 rfl ?_
    refine vc_iconst dX12_walker_9 rfl ?_
    refine vc_cSI dX12_walker_10 (sfX12_isInF (M := M) hB0.1  w 0 2 ) rfl okX12_isIn stX12_isIn lkX12_83 rfl (Nat.le_of_ble_eq_true rfl) ⟨rfl, rfl⟩ (Nat.le_of_ble_eq_true rfl) (Nat.le_of_ble_eq_true rfl) (Nat.le_of_ble_eq_true rfl) ?_
    rintro x7 _ ⟨rfl, h8, h9, h10⟩
    refine vc_if_eq dX12_walker_13 (fun h11 => ?_) (fun h11 => ?_)
    · refine vc_iconst dX12_walker_29 rfl ?_
      refine vc_iret dX12_walker_30 rfl (Nat.le_of_ble_eq_true rfl) (Nat.le_of_ble_eq_true rfl) ?_
      exact ⟨_, rfl, rfl, by omega⟩
    · refine vc_aload_n dX12_walker_16 rfl ?_
      refine vc_getR dX12_walker_17 flX12_7 (s_54 hB0.1.1) rfl (r_54_0 hB0.1.1) ?_
      refine vc_sipush dX12_walker_20 rfl ?_
      refine vc_iload_n dX12_walker_23 rfl ?_
      refine vc_iaddE dX12_walker_24 (by omega) (by omega) ?_
      refine vc_iaload dX12_walker_25 (s_55 hB0.1.1) (by omega) (by omega) ?_
      refine vc_goto dX12_walker_26 ?_
      refine vc_iret dX12_walker_30 rfl (Nat.le_of_ble_eq_true rfl) (Nat.le_of_ble_eq_true rfl) ?_
      exact ⟨_, rfl, rfl, by omega⟩

set_option maxRecDepth 4000 in
theorem sfX12_leadsF {l : Launch} {M : Mem} (hB : Box M) (S : Sw) (t : Int) (s : Int) (p0 : TA (mI M 55) S) (p1 : LwS S (mI M 57)) (p2 : nmT S) : Call l mdX12_leads [aR 54, aI t, aI s] M (fun q N => ∃ r : Int, q = some (aI r) ∧ BF fQ M N ∧ (((0 ≤ t ∧ t < mI M 55 3 ∧ 0 ≤ s ∧ s ≤ 7) ∧ r = leS S t s (-1)) ∨ (¬ (0 ≤ t ∧ t < mI M 55 3 ∧ 0 ≤ s ∧ s ≤ 7) ∧ r = -1))) := by
  have hB0 : BF fQ M M := BF.start hB
  refine Call.of [some (aR 54), some (aI t), some (aI s)] rfl (Nat.le_of_ble_eq_true rfl) rfl ?_
  refine vc_ok (fun hoM hoS hoL => ?_)
  have hr1 : -2147483648 ≤ t ∧ t < 2147483648 := hoL 1 _ rfl
  have hr2 : -2147483648 ≤ s ∧ s < 2147483648 := hoL 2 _ rfl
  have c3 := p0.1.2.2.2.1
  refine vc_aload_n dX12_leads_0 rfl ?_
  refine vc_iload_n dX12_leads_1 rfl ?_
  refine vc_cVI dX12_leads_2 (sfX12_isTellingF (M := M) hB0.1  t ) rfl okX12_isTelling viX12_isTelling lkX12_400 (s_54 hB0.1.1) cl_12 rfl (Nat.le_of_ble_eq_true rfl) ⟨rfl, rfl⟩ (Nat.le_of_ble_eq_true rfl) (Nat.le_of_ble_eq_true rfl) (Nat.le_of_ble_eq_true rfl) ?_
  rintro x1 _ ⟨rfl, h2, h3, h4, h5⟩
  refine vc_if_eq dX12_leads_5 (fun h6 => ?_) (fun h6 => ?_)
  · refine vc_iconst dX12_leads_27 rfl ?_
    refine vc_iret dX12_leads_28 rfl (Nat.le_of_ble_eq_true rfl) (Nat.le_of_ble_eq_true rfl) ?_
    exact ⟨_, rfl, hB0, Or.inr ⟨by omega, rfl⟩⟩
  · refine vc_iload_n dX12_leads_8 rfl ?_
    refine vc_iconst dX12_leads_9 rfl ?_
    refine vc_bipush dX12_leads_10 rfl ?_
    refine vc_cSI dX12_leads_12 (sfX12_isInF (M := M) hB0.1  s 0 7 ) rfl okX12_isIn stX12_isIn lkX12_83 rfl (Nat.le_of_ble_eq_true rfl) ⟨rfl, rfl⟩ (Nat.le_of_ble_eq_true rfl) (Nat.le_of_ble_eq_true rfl) (Nat.le_of_ble_eq_true rfl) ?_
    rintro x7 _ ⟨rfl, h8, h9, h10⟩
    refine vc_if_eq dX12_leads_15 (fun h11 => ?_) (fun h11 => ?_)
    · refine vc_iconst dX12_leads_27 rfl ?_
      refine vc_iret dX12_leads_28 rfl (Nat.le_of_ble_eq_true rfl) (Nat.le_of_ble_eq_true rfl) ?_
      exact ⟨_, rfl, hB0, Or.inr ⟨by omega, rfl⟩⟩
    · refine vc_aload_n dX12_leads_18 rfl ?_
      refine vc_iload_n dX12_leads_19 rfl ?_
      refine vc_iload_n dX12_leads_20 rfl ?_
      refine vc_cVI dX12_leads_21 (sfX12_leadsOfF (M := M) hB0.1 S t s (by omega) (by omega) (by omega) (by omega) (by exact p0) (by omega) (by exact p1) (by exact p2)) rfl okX12_leadsOf viX12_leadsOf lkX12_449 (s_54 hB0.1.1) cl_12 rfl (Nat.le_of_ble_eq_true rfl) ⟨rfl, rfl⟩ (Nat.le_of_ble_eq_true rfl) (Nat.le_of_ble_eq_true rfl) (Nat.le_of_ble_eq_true rfl) ?_
      rintro x12 M13 ⟨hB14, kp15, h16, h17, h18⟩
      have hB19 : BF fQ M M13 := BF.go hB0 hB14.sq
      refine vc_goto dX12_leads_24 ?_
      refine vc_iret dX12_leads_28 rfl (Nat.le_of_ble_eq_true rfl) (Nat.le_of_ble_eq_true rfl) ?_
      exact ⟨_, rfl, hB19, Or.inl ⟨by omega, h18⟩⟩

set_option maxRecDepth 4000 in
theorem sfX12_aboutF {l : Launch} {M : Mem} (hB : Box M)  (w : Int)  : Call l mdX12_about [aR 54, aI w] M (fun q N => ∃ r : Int, q = some (aI r) ∧ M = N ∧ ((0 ≤ w ∧ w ≤ 7 ∧ r = mI M 55 w.toNat) ∨ (w = 8 ∧ r = mI M 54 6) ∨ (¬ (0 ≤ w ∧ w ≤ 8) ∧ r = -2))) := by
  have hB0 : BF fQ M M := BF.start hB
  refine Call.of [some (aR 54), some (aI w)] rfl (Nat.le_of_ble_eq_true rfl) rfl ?_
  refine vc_ok (fun hoM hoS hoL => ?_)
  have hr1 : -2147483648 ≤ w ∧ w < 2147483648 := hoL 1 _ rfl
  refine vc_iload_n dX12_about_0 rfl ?_
  refine vc_iconst dX12_about_1 rfl ?_
  refine vc_bipush dX12_about_2 rfl ?_
  refine vc_cSI dX12_about_4 (sfX12_isInF (M := M) hB0.1  w 0 7 ) rfl okX12_isIn stX12_isIn lkX12_83 rfl (Nat.le_of_ble_eq_true rfl) ⟨rfl, rfl⟩ (Nat.le_of_ble_eq_true rfl) (Nat.le_of_ble_eq_true rfl) (Nat.le_of_ble_eq_true rfl) ?_
  rintro x1 _ ⟨rfl, h2, h3, h4⟩
  refine vc_if_eq dX12_about_7 (fun h5 => ?_) (fun h5 => ?_)
  · refine vc_iload_n dX12_about_19 rfl ?_
    refine vc_bipush dX12_about_20 rfl ?_
    refine vc_icmp_ne dX12_about_22 (fun h6 => ?_) (fun h6 => ?_)
    · refine vc_bipush dX12_about_32 rfl ?_
      refine vc_iret dX12_about_34 rfl (Nat.le_of_ble_eq_true rfl) (Nat.le_of_ble_eq_true rfl) ?_
      exact ⟨_, rfl, rfl, by omega⟩
    · refine vc_aload_n dX12_about_25 rfl ?_
      refine vc_getI dX12_about_26 flX12_112 (s_54 hB0.1.1) rfl ?_
      have k7 : 0 ≤ mI M 54 6 ∧ mI M 54 6 ≤ 300 := b54_6 (M := M) hB0.1
      refine vc_goto dX12_about_29 ?_
      refine vc_iret dX12_about_34 rfl (Nat.le_of_ble_eq_true rfl) (Nat.le_of_ble_eq_true rfl) ?_
      exact ⟨_, rfl, rfl, by omega⟩
  · refine vc_aload_n dX12_about_10 rfl ?_
    refine vc_getR dX12_about_11 flX12_7 (s_54 hB0.1.1) rfl (r_54_0 hB0.1.1) ?_
    refine vc_iload_n dX12_about_14 rfl ?_
    refine vc_iaload dX12_about_15 (s_55 hB0.1.1) (by omega) (by omega) ?_
    refine vc_goto dX12_about_16 ?_
    refine vc_iret dX12_about_34 rfl (Nat.le_of_ble_eq_true rfl) (Nat.le_of_ble_eq_true rfl) ?_
    exact ⟨_, rfl, rfl, by omega⟩

