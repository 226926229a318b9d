set_option maxHeartbeats 4000000 in
set_option maxRecDepth 4000 in
theorem sfX12_summedF {l : Launch} {M : Mem} (hB : Box M) (g : Nat → Int) (n p : Int) (hT : RT g n M p)  (p0 : mI M 54 14 = 873 * mI M 55 5) (p1 : mI M 54 10 ≤ mI M 54 9) (p2 : mI M 54 11 = 0 ∨ mI M 54 10 < mI M 54 9) (p3 : mI M 54 15 ≤ mI M 54 10) (p4 : 0 ≤ mI M 54 16) (p5 : mI M 54 16 ≤ 4) : Call l mdX12_summed [aR 54] M (fun q N => ∃ r : Int, q = some (aI r) ∧ BF fT M N ∧ mI N 55 = mI M 55 ∧ (r = 0 → wfC (mI N 57) (mI N 54 15 - mI M 54 15).toNat (mI M 54 14 + 265 + 2 * mI M 54 15).toNat 0) ∧ (r ≠ 0 ∨ mI M 54 15 ≤ mI N 54 15) ∧ (r ≠ 0 ∨ mI N 54 15 ≤ mI N 54 10) ∧ mI N 54 10 ≤ mI N 54 9 ∧ (mI N 54 11 = 0 ∨ mI N 54 10 < mI N 54 9) ∧ mI N 54 14 = mI M 54 14 ∧ mI N 54 16 = mI M 54 16 ∧ mI N 54 21 = mI M 54 21 ∧ (∀ j : Nat, (j : Int) < mI M 54 14 + 265 + 2 * mI M 54 15 → mI N 57 j = mI M 57 j) ∧ mI M 54 10 ≤ mI N 54 10 ∧ ((FR g n N r (sLaw (tk g n) (nx g n) (mI M 54 16) p)) ∧ (r = 0 → Cd (tk g n) (nx g n) [] false p (Co N (mI M 54 15))))) := by
  have hB0 : BF fT M M := BF.start hB
  refine Call.of [some (aR 54), none, none] rfl (Nat.le_of_ble_eq_true rfl) rfl ?_
  obtain ⟨S, hS⟩ : ∃ S, S = mI M 54 15 := ⟨_, rfl⟩
  have hk9 := b54_9 hB
  have hk10 := b54_10 hB
  have hk15 := b54_15 hB
  have hk14 := b54_14 hB
  have rg1 := RT.rg hT
  refine vc_aload_n dX12_summed_0 rfl ?_
  refine vc_iconst dX12_summed_1 rfl ?_
  refine vc_putI dX12_summed_2 (plX12_180 _ rfl) (s_54 hB0.1.1) rfl ?_
  have kp2 : mI (sI M 54 18 0) 55 = mI M 55 := (kp_sI rfl rfl)
  have hB3 : BF fT M (sI M 54 18 0) := BF.w54_18 hB0 rfl (by omega) (by omega)
  refine vc_aload_n dX12_summed_5 rfl ?_
  refine vc_iconst dX12_summed_6 rfl ?_
  refine vc_putI dX12_summed_7 (plX12_190 _ rfl) (s_54 hB3.1.1) rfl ?_
  have kp4 : mI (sI (sI M 54 18 0) 54 19 0) 55 = mI M 55 := (kp_sI kp2 rfl)
  have hB5 : BF fT M (sI (sI M 54 18 0) 54 19 0) := BF.w54_19 hB3 rfl
  refine vc_aload_n dX12_summed_10 rfl ?_
  refine vc_iconst dX12_summed_11 rfl ?_
  refine vc_putZ dX12_summed_12 (plX12_207 _ rfl) (s_54 hB5.1.1) rfl (by first | decide | omega) ?_
  have kp6 : mI (sI (sI (sI M 54 18 0) 54 19 0) 54 20 0) 55 = mI M 55 := (kp_sI kp4 rfl)
  have hB7 : BF fT M (sI (sI (sI M 54 18 0) 54 19 0) 54 20 0) := BF.w54_20 hB5 rfl
  have lp15 : ∀ (n15 : Nat) (Mq15 : Mem) , (BF fT M Mq15) → (mI Mq15 55 = mI M 55) → (PI Mq15 S) → (mI Mq15 54 10 ≤ mI Mq15 54 9) → (mI Mq15 54 11 = 0 ∨ mI Mq15 54 10 < mI Mq15 54 9) → (mI Mq15 54 14 = mI M 54 14) → (mI Mq15 54 16 = mI M 54 16) → (mI Mq15 54 21 = mI M 54 21) → (∀ j : Nat, (j : Int) < mI M 54 14 + 265 + 2 * S → mI Mq15 57 j = mI M 57 j) → (mI M 54 10 ≤ mI Mq15 54 10) → (SUM g n (mI M 54 16) Mq15 p) → (SUMc g n S p Mq15) → (300 - mI Mq15 54 10).toNat < n15 → VC l mdX12_summed 15 [some (aR 54), none, none] [] Mq15 0 0 (fun q N => ∃ r : Int, q = some (aI r) ∧ BF fT M N ∧ mI N 55 = mI M 55 ∧ (r = 0 → wfC (mI N 57) (mI N 54 15 - mI M 54 15).toNat (mI M 54 14 + 265 + 2 * mI M 54 15).toNat 0) ∧ (r ≠ 0 ∨ mI M 54 15 ≤ mI N 54 15) ∧ (r ≠ 0 ∨ mI N 54 15 ≤ mI N 54 10) ∧ mI N 54 10 ≤ mI N 54 9 ∧ (mI N 54 11 = 0 ∨ mI N 54 10 < mI N 54 9) ∧ mI N 54 14 = mI M 54 14 ∧ mI N 54 16 = mI M 54 16 ∧ mI N 54 21 = mI M 54 21 ∧ (∀ j : Nat, (j : Int) < mI M 54 14 + 265 + 2 * mI M 54 15 → mI N 57 j = mI M 57 j) ∧ mI M 54 10 ≤ mI N 54 10 ∧ ((FR g n N r (sLaw (tk g n) (nx g n) (mI M 54 16) p)) ∧ (r = 0 → Cd (tk g n) (nx g n) [] false p (Co N (mI M 54 15))))) := by
    intro n15
    induction n15 with
    | zero => intro Mq15 hQ15 kp15_55 g15i0 g15i1 g15i2 g15i3 g15i4 g15i5 g15i6 g15i7 g15i8 g15i9 hm15; exact absurd hm15 (Nat.not_lt_zero _)
    | succ n15 ih15 =>
      intro Mq15 hQ15 kp15_55 g15i0 g15i1 g15i2 g15i3 g15i4 g15i5 g15i6 g15i7 g15i8 g15i9 hm15
      obtain ⟨sk, q, hSk, hTq, hkq⟩ := g15i8
      have hrgq := RT.rg hTq
      refine vc_aload_n dX12_summed_15 rfl ?_
      refine vc_getZ dX12_summed_16 flX12_207 (s_54 hQ15.1.1) rfl ?_
      refine vc_nameI (fun x8 ex8 => ?_)
      refine vc_istore_n dX12_summed_19 (by decide) rfl (show _ = [some (aR 54), some (aI x8), none] from rfl) ?_
      refine vc_iload_n dX12_summed_20 rfl ?_
      refine vc_if_eq dX12_summed_21 (fun h9 => ?_) (fun h9 => ?_)
      · refine vc_aload_n dX12_summed_31 rfl ?_
        have hz5 := congrFun kp15_55 5
        have hl5 := g15i0.len
        refine vc_cVI dX12_summed_32 (sfX12_beginOneF (M := Mq15) hQ15.1  S g n q hTq sk hSk (mI M 54 16) (by exact g15i0) (by omega) (by omega) (by omega) (by omega) (by omega) (by omega) (by omega)) rfl okX12_beginOne viX12_beginOne lkX12_226 (s_54 hQ15.1.1) cl_12 rfl (Nat.le_of_ble_eq_true rfl) ⟨rfl, rfl⟩ (Nat.le_of_ble_eq_true rfl) (Nat.le_of_ble_eq_true rfl) (Nat.le_of_ble_eq_true rfl) ?_
        rintro x10 M11 ⟨hB12, kp13, h14, h15, h16, h17, h18, h19, h20, h21, h22, h23, h24, h25⟩
        have hB26 : BF fT M M11 := BF.go hQ15 hB12
        have kp27 : mI M11 55 = mI M 55 := kp_go kp15_55 kp13
        have hb0 := h16
        have hfr : ∀ j : Nat, (j : Int) < mI M 54 14 + 265 + 2 * S → mI M11 57 j = mI M 57 j := fun j hj => (h23 j (by omega)).trans (g15i6 j hj)
        have hbx := b54_10 (M := M11) hB26.1
        refine vc_istore_n dX12_summed_35 (by decide) rfl (show _ = [some (aR 54), some (aI x8), some (aI x10)] from rfl) ?_
        refine vc_iload_n dX12_summed_36 rfl ?_
        refine vc_if_ne dX12_summed_37 (fun h28 => ?_) (fun h28 => ?_)
        · refine vc_iload_n dX12_summed_43 rfl ?_
          refine vc_if_ne dX12_summed_44 (fun h29 => by exfalso; omega) (fun h29 => ?_)
          refine vc_iload_n dX12_summed_47 rfl ?_
          refine vc_iret dX12_summed_48 rfl (Nat.le_of_ble_eq_true rfl) (Nat.le_of_ble_eq_true rfl) ?_
          exact ⟨_, rfl, hB26, kp27, fun h => absurd h (by assumption), by omega, by omega, by omega, by omega, by omega, by omega, by omega, fun j hj => hfr j (by omega), by omega, ⟨(by first | exact SUM.bad hkq (by omega) h25.1 (by omega) | (exfalso; omega)), fun h => absurd h (by assumption)⟩⟩
        · have hsumN : SUM g n (mI M 54 16) M11 p := SUM.bo hkq (by omega) h25.1 (by omega)
          have hscN : SUMc g n S p M11 := SUMc.go g15i9 hTq.2.1.1 (dcF (by omega)) h25.2 (by omega)
          refine vc_goto dX12_summed_40 ?_
          refine vc_less [some (aR 54), none, none] (lessL_keep (lessL_drop (lessL_drop (lessL_nil)))) ?_
          exact ih15 M11 hB26 kp27 (by first | exact hnew | exact hc0 | exact hb0 (by omega)) (by omega) (by omega) (by omega) (by omega) (by omega) (by first | exact hfr | (intro j hj; rfl)) (by omega) (by first | exact hsum0 | exact hsumN) (by first | exact hsc0 | exact hscN) (by omega)
      · refine vc_aload_n dX12_summed_24 rfl ?_
        have hz5 := congrFun kp15_55 5
        have hl5 := g15i0.len
        refine vc_cVI dX12_summed_25 (sfX12_behindOneF (M := Mq15) hQ15.1  S g n q hTq sk hSk (mI M 54 16) (by exact g15i0) (by omega) (by omega) (by omega) (by omega) (by omega) (by omega) (by omega)) rfl okX12_behindOne viX12_behindOne lkX12_223 (s_54 hQ15.1.1) cl_12 rfl (Nat.le_of_ble_eq_true rfl) ⟨rfl, rfl⟩ (Nat.le_of_ble_eq_true rfl) (Nat.le_of_ble_eq_true rfl) (Nat.le_of_ble_eq_true rfl) ?_
        rintro x30 M31 ⟨hB32, kp33, h34, h35, h36, h37, h38, h39, h40, h41, h42, h43, h44, h45, h46⟩
        have hB47 : BF fT M M31 := BF.go hQ15 hB32
        have kp48 : mI M31 55 = mI M 55 := kp_go kp15_55 kp33
        have hb0 := h36
        have hfr : ∀ j : Nat, (j : Int) < mI M 54 14 + 265 + 2 * S → mI M31 57 j = mI M 57 j := fun j hj => (h43 j (by omega)).trans (g15i6 j hj)
        have hbx := b54_10 (M := M31) hB47.1
        have hc0 := h36
        have hl3 := hc0.len
        refine vc_goto dX12_summed_28 ?_
        refine vc_istore_n dX12_summed_35 (by decide) rfl (show _ = [some (aR 54), some (aI x8), some (aI x30)] from rfl) ?_
        refine vc_iload_n dX12_summed_36 rfl ?_
        refine vc_if_ne dX12_summed_37 (fun h49 => ?_) (fun h49 => ?_)
        · refine vc_iload_n dX12_summed_43 rfl ?_
          refine vc_if_ne dX12_summed_44 (fun h50 => ?_) (fun h50 => ?_)
          · obtain ⟨hS1, hT1, hE1, hR1⟩ := BH.one h46.1 (by omega)
            have hrg1 := RT.rg hT1
            refine vc_aload_n dX12_summed_49 rfl ?_
            refine vc_cVI dX12_summed_50 (sfX12_openAt (M := M31) hB47.1   (by omega)) rfl okX12_openAt viX12_openAt lkX12_217 (s_54 hB47.1.1) cl_12 rfl (Nat.le_of_ble_eq_true rfl) ⟨rfl, rfl⟩ (Nat.le_of_ble_eq_true rfl) (Nat.le_of_ble_eq_true rfl) (Nat.le_of_ble_eq_true rfl) ?_
            rintro x51 _ ⟨rfl, h52, h53, h54, h55⟩
            have hno := h55
            have hno1 := h54
            refine vc_if_lt dX12_summed_53 (fun h56 => ?_) (fun h56 => ?_)
            · have hnone : sk = [] := SJ.none hS1 (by omega) hc0 (fun q a => hno q (by omega) a)
              refine vc_aload_n dX12_summed_58 rfl ?_
              refine vc_iconst dX12_summed_59 rfl ?_
              have hz5 := congrFun kp48 5
              have hl5 := g15i0.len
              refine vc_cVU dX12_summed_60 (sfX12_settlePileF (M := M31) hB47.1  S 1 (by omega) (by omega) (by exact hc0) (by omega) (by omega)) rfl okX12_settlePile viX12_settlePile lkX12_211 (s_54 hB47.1.1) cl_12 rfl (Nat.le_of_ble_eq_true rfl) ⟨rfl, rfl⟩ (Nat.le_of_ble_eq_true rfl) (Nat.le_of_ble_eq_true rfl) (Nat.le_of_ble_eq_true rfl) ?_
              rintro M57 ⟨hB58, kp59, kp60, h61, h62, h63, h64, h65, h66, h67, h68, h69, h70, h71, h72, h73, h74, h75⟩
              have hB76 : BF fT M M57 := BF.go hB47 hB58
              have kp77 : mI M57 55 = mI M 55 := kp_go kp48 kp59
              have fr78 : ∀ j : Nat, (j : Int) < mI M 54 14 + 265 + 2 * S → mI M57 57 j = mI M 57 j := fun j hj => (h70 j (by omega)).trans (hfr j hj)
              have hl2 := h61.len
              have hn0 := top_no (M := M31) (N := M57) kp60 (by omega) (by omega) h71 (fun q a => hno q (by omega) a)
              have rt79 : RT g n M57 q := RT.same hT1 hB58.2.2 (by omega) (by omega) (by omega) h74 h75
              refine vc_iconst dX12_summed_63 rfl ?_
              refine vc_iret dX12_summed_64 rfl (Nat.le_of_ble_eq_true rfl) (Nat.le_of_ble_eq_true rfl) ?_
              exact ⟨_, rfl, hB76, kp77, fun _ => by have q := h61.fin hn0; rw [show mI M57 54 14 = mI M 54 14 by omega, hS] at q; exact q, by omega, by omega, by omega, by omega, by omega, by omega, by omega, fun j hj => fr78 j (by omega), by omega, ⟨FRo rfl rt79 (sLaw_eq (by rw [dec_t (by omega), hnone] at hkq; exact hkq _ (t_fin hE1))), fun _ => by rw [← hS]; exact SUMc.fin g15i9 hTq.2.1.1 (by omega) hE1 (h46.2.2 (by omega)) h73 hn0⟩⟩
            · obtain ⟨hop, hom⟩ := SJ.opn (k := x51.toNat) hS1 (by omega) hc0 (by omega) (by omega) (fun q a b => hno q (by omega) b)
              refine vc_iconst dX12_summed_56 rfl ?_
              refine vc_iret dX12_summed_57 rfl (Nat.le_of_ble_eq_true rfl) (Nat.le_of_ble_eq_true rfl) ?_
              exact ⟨_, rfl, hB47, kp48, fun h => absurd h (by decide), by omega, by omega, by omega, by omega, by omega, by omega, by omega, fun j hj => hfr j (by omega), by omega, ⟨FRb (q := q) (by decide) (by omega) (sLaw_eq (by rw [dec_t (by omega)] at hkq; exact hkq _ (hR1 (by rw [hop]; exact List.cons_ne_nil _ _)))), fun h => absurd h (by decide)⟩⟩
          · refine vc_iload_n dX12_summed_47 rfl ?_
            refine vc_iret dX12_summed_48 rfl (Nat.le_of_ble_eq_true rfl) (Nat.le_of_ble_eq_true rfl) ?_
            exact ⟨_, rfl, hB47, kp48, fun h => absurd h (by assumption), by omega, by omega, by omega, by omega, by omega, by omega, by omega, fun j hj => hfr j (by omega), by omega, ⟨(by first | exact SUM.bad hkq (by omega) h46.1 (by omega) | (exfalso; omega)), fun h => absurd h (by assumption)⟩⟩
        · have hsumN : SUM g n (mI M 54 16) M31 p := SUM.bh hkq (by omega) h46.1 (by omega)
          have hscN : SUMc g n S p M31 := SUMc.go g15i9 hTq.2.1.1 (dcT (by omega)) h46.2.1 (by omega)
          refine vc_goto dX12_summed_40 ?_
          refine vc_less [some (aR 54), none, none] (lessL_keep (lessL_drop (lessL_drop (lessL_nil)))) ?_
          exact ih15 M31 hB47 kp48 (by first | exact hnew | exact hc0 | exact hb0 (by omega)) (by omega) (by omega) (by omega) (by omega) (by omega) (by first | exact hfr | (intro j hj; rfl)) (by omega) (by first | exact hsum0 | exact hsumN) (by first | exact hsc0 | exact hscN) (by omega)
  have k80 : mI (sI (sI (sI M 54 18 0) 54 19 0) 54 20 0) 54 9 = mI M 54 9 := rfl
  have k81 : mI (sI (sI (sI M 54 18 0) 54 19 0) 54 20 0) 54 10 = mI M 54 10 := rfl
  have k82 : mI (sI (sI (sI M 54 18 0) 54 19 0) 54 20 0) 54 11 = mI M 54 11 := rfl
  have k83 : mI (sI (sI (sI M 54 18 0) 54 19 0) 54 20 0) 54 14 = mI M 54 14 := rfl
  have k84 : mI (sI (sI (sI M 54 18 0) 54 19 0) 54 20 0) 54 15 = mI M 54 15 := rfl
  have k85 : mI (sI (sI (sI M 54 18 0) 54 19 0) 54 20 0) 54 16 = mI M 54 16 := rfl
  have k86 : mI (sI (sI (sI M 54 18 0) 54 19 0) 54 20 0) 54 18 = 0 := rfl
  have k87 : mI (sI (sI (sI M 54 18 0) 54 19 0) 54 20 0) 54 19 = 0 := rfl
  have k88 : mI (sI (sI (sI M 54 18 0) 54 19 0) 54 20 0) 54 20 = 0 := rfl
  have k89 : mI (sI (sI (sI M 54 18 0) 54 19 0) 54 20 0) 54 21 = mI M 54 21 := rfl
  have hnew : PI (sI (sI (sI M 54 18 0) 54 19 0) 54 20 0) S := by rw [hS]; exact PI.new (M := sI (sI (sI M 54 18 0) 54 19 0) 54 20 0) (by omega) (by omega) (by omega) (by omega) (by omega) (by omega) (by omega)
  have hsum0 : SUM g n (mI M 54 16) (sI (sI (sI M 54 18 0) 54 19 0) 54 20 0) p := ⟨[], p, SJ.new rfl rfl, RT.same hT (((Fz.sI rfl).trans (Fz.sI rfl)).trans (Fz.sI rfl)) rfl rfl rfl rfl rfl, fun o z => rn_f rfl z⟩
  have hsc0 : SUMc g n S p (sI (sI (sI M 54 18 0) 54 19 0) 54 20 0) := SUMc.new rfl rfl hT.2.1.1 hS.symm
  exact lp15 _ (sI (sI (sI M 54 18 0) 54 19 0) 54 20 0) hB7 kp6 (by first | exact hnew | exact hc0 | exact hb0 (by omega)) (by omega) (by omega) (by omega) (by omega) (by omega) (by first | exact hfr | (intro j hj; rfl)) (by omega) (by first | exact hsum0 | exact hsumN) (by first | exact hsc0 | exact hscN) (Nat.lt_succ_self _)
