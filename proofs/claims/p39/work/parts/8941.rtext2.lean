/-! TEXTS: class and reference against the spec -/
noncomputable def sAll (g : Nat → Int) (n : Int) : Int × Int := sText (tk g n) (nx g n) 25 (fun _ => 0) 0 (skb g n 0)
def FzC (M N : Mem) : Prop := ∀ k j, fQ k j = true → k ≠ 0 → ¬ (k = 1 ∧ j = 10) → mI N k j = mI M k j
def FzR (M N : Mem) : Prop := ∀ k j, fT k j = true → k ≠ 54 → ¬ (k = 55 ∧ j = 5) → mI N k j = mI M k j
theorem FzF.c {M N : Mem} (h : FzF fQ M N) : FzC M N := fun k j a _ _ => h k j a
theorem Fz.r {M N : Mem} (h : Fz M N) : FzR M N := fun k j a _ _ => h k j a
theorem FzC.trans {A B C : Mem} (h : FzC A B) (g : FzC B C) : FzC A C := fun k j a b c => (g k j a b c).trans (h k j a b c)
theorem FzR.trans {A B C : Mem} (h : FzR A B) (g : FzR B C) : FzR A C := fun k j a b c => (g k j a b c).trans (h k j a b c)
theorem FzC.w0 {M : Mem} {j : Nat} {v : Int} : FzC M (sI M 0 j v) := fun k i a b c => by rw [mI_sI, if_neg (fun e => b e.1)]
theorem FzC.w1 {M : Mem} {v : Int} : FzC M (sI M 1 10 v) := fun k i a b c => by rw [mI_sI, if_neg (fun e => c e)]
/-- the texts of the reference, what TEXT does to them -/
def TCr (M N : Mem) (r : Int) : Prop := (∀ k j : Nat, (k = 7 ∨ k = 14) → mR N k j = mR M k j) ∧ (∀ j : Nat, (j : Int) < 873 * mI M 55 5 → mI N 57 j = mI M 57 j) ∧ (r ≠ -1 → tk (mI M 59) (mI M 54 6) (plS (tk (mI M 59) (mI M 54 6)) (nx (mI M 59) (mI M 54 6)) (skb (mI M 59) (mI M 54 6) 0) (mI N 57 (873 * mI M 55 5).toNat).toNat) = 0 ∧ ∀ e : Nat, (e : Int) < mI N 57 (873 * mI M 55 5).toNat → Q57 (tk (mI M 59) (mI M 54 6)) (nx (mI M 59) (mI M 54 6)) (mI N 57) (873 * mI M 55 5 + 1 + 11 * e) (plS (tk (mI M 59) (mI M 54 6)) (nx (mI M 59) (mI M 54 6)) (skb (mI M 59) (mI M 54 6) 0) e) ∧ (sBody (tk (mI M 59) (mI M 54 6)) (nx (mI M 59) (mI M 54 6)) (tk (mI M 59) (mI M 54 6) (plS (tk (mI M 59) (mI M 54 6)) (nx (mI M 59) (mI M 54 6)) (skb (mI M 59) (mI M 54 6) 0) e) - 101) (nx (mI M 59) (mI M 54 6) (plS (tk (mI M 59) (mI M 54 6)) (nx (mI M 59) (mI M 54 6)) (skb (mI M 59) (mI M 54 6) 0) e))).1 = 0)
theorem FzR.w4 {M : Mem} {j : Nat} {v : Int} : FzR M (sI M 54 j v) := fun k i a b c => by rw [mI_sI, if_neg (fun e => b e.1)]
theorem FzR.w5 {M : Mem} {v : Int} : FzR M (sI M 55 5 v) := fun k i a b c => by rw [mI_sI, if_neg (fun e => c e)]
/-- text, class and reference -/
def TXc (M N : Mem) (r : Int) : Prop := (4 ≤ mI M 1 10 ∧ r = -1 ∧ FzF fQ M N) ∨ (mI M 1 10 < 4 ∧ mI N 0 13 = 0 ∧ FzC M N ∧ (((sAll (mI M 21) (mI M 0 13)).1 = 0 ∧ mI N 0 14 = 0 ∧ mI N 0 15 = -1 ∧ mI N 1 10 = mI M 1 10 + 1 ∧ r = mI M 1 10) ∨ ((sAll (mI M 21) (mI M 0 13)).1 ≠ 0 ∧ mI N 0 14 = (sAll (mI M 21) (mI M 0 13)).1 ∧ mI N 0 15 = (sAll (mI M 21) (mI M 0 13)).2 ∧ mI N 1 10 = mI M 1 10 ∧ r = -1)))
def TXr (M N : Mem) (r : Int) : Prop := (mI M 55 5 = 4 ∧ r = -1 ∧ Fz M N) ∨ (mI M 55 5 ≠ 4 ∧ mI N 54 6 = 0 ∧ FzR M N ∧ (((sAll (mI M 59) (mI M 54 6)).1 = 0 ∧ mI N 54 7 = 0 ∧ mI N 54 8 = -1 ∧ mI N 55 5 = mI M 55 5 + 1 ∧ r = mI M 55 5) ∨ ((sAll (mI M 59) (mI M 54 6)).1 ≠ 0 ∧ mI N 54 7 = (sAll (mI M 59) (mI M 54 6)).1 ∧ mI N 54 8 = (sAll (mI M 59) (mI M 54 6)).2 ∧ mI N 55 5 = mI M 55 5 ∧ r = -1)))
/-- the code of the laws of a text that was read -/
def TLr (M N : Mem) (r : Int) : Prop := r ≠ -1 → ∀ e : Nat, (e : Int) < mI N 57 (873 * mI M 55 5).toNat → tk (mI M 59) (mI M 54 6) (plS (tk (mI M 59) (mI M 54 6)) (nx (mI M 59) (mI M 54 6)) (skb (mI M 59) (mI M 54 6) 0) e) ≤ 105 → LB9 (tk (mI M 59) (mI M 54 6)) (nx (mI M 59) (mI M 54 6)) (mI N 57) (873 * mI M 55 5) (873 * mI M 55 5 + 1 + 11 * e) (nx (mI M 59) (mI M 54 6) (plS (tk (mI M 59) (mI M 54 6)) (nx (mI M 59) (mI M 54 6)) (skb (mI M 59) (mI M 54 6) 0) e))
set_option maxRecDepth 4000 in
theorem sfX12_readTextF {l : Launch} {M : Mem} (hB : Box M)   (p0 : mI M 55 5 ≤ 3) (p1 : byt (mI M 59)) : Call l mdX12_readText [aR 54] M (fun q N => ∃ r : Int, q = some (aI r) ∧ BF fT M N ∧ mI N 55 = mI M 55 ∧ (r = 0 → wfT (mI N 57) (mI M 55 5).toNat) ∧ ((r = (sAll (mI M 59) (mI M 54 6)).1 ∧ (r ≠ 0 → mI N 54 10 = (sAll (mI M 59) (mI M 54 6)).2)) ∧ (r = 0 → mI N 54 14 = 873 * mI M 55 5 ∧ (∀ j : Nat, (j : Int) < mI N 54 14 → mI N 57 j = mI M 57 j) ∧ tk (mI M 59) (mI M 54 6) (plS (tk (mI M 59) (mI M 54 6)) (nx (mI M 59) (mI M 54 6)) (skb (mI M 59) (mI M 54 6) 0) (mI N 57 (mI N 54 14).toNat).toNat) = 0 ∧ ∀ e : Nat, (e : Int) < mI N 57 (mI N 54 14).toNat → Q57 (tk (mI M 59) (mI M 54 6)) (nx (mI M 59) (mI M 54 6)) (mI N 57) (mI N 54 14 + 1 + 11 * e) (plS (tk (mI M 59) (mI M 54 6)) (nx (mI M 59) (mI M 54 6)) (skb (mI M 59) (mI M 54 6) 0) e) ∧ (sBody (tk (mI M 59) (mI M 54 6)) (nx (mI M 59) (mI M 54 6)) (tk (mI M 59) (mI M 54 6) (plS (tk (mI M 59) (mI M 54 6)) (nx (mI M 59) (mI M 54 6)) (skb (mI M 59) (mI M 54 6) 0) e) - 101) (nx (mI M 59) (mI M 54 6) (plS (tk (mI M 59) (mI M 54 6)) (nx (mI M 59) (mI M 54 6)) (skb (mI M 59) (mI M 54 6) 0) e))).1 = 0) ∧ (r = 0 → LIr (mI M 59) (mI M 54 6) N))) := by
  have hB0 : BF fT M M := BF.start hB
  refine Call.of [some (aR 54), none] rfl (Nat.le_of_ble_eq_true rfl) rfl ?_
  have hk5 := b55_5 hB
  obtain ⟨g, hgE⟩ : ∃ g, g = mI M 59 := ⟨_, rfl⟩
  obtain ⟨n, hnE⟩ : ∃ n, n = mI M 54 6 := ⟨_, rfl⟩
  refine vc_aload_n dX12_readText_0 rfl ?_
  refine vc_sipush dX12_readText_1 rfl ?_
  refine vc_aload_n dX12_readText_4 rfl ?_
  refine vc_getR dX12_readText_5 flX12_7 (s_54 hB0.1.1) rfl (r_54_0 hB0.1.1) ?_
  refine vc_iconst dX12_readText_8 rfl ?_
  refine vc_iaload dX12_readText_9 (s_55 hB0.1.1) (by omega) (by omega) ?_
  refine vc_topI (mI M 55 5) rfl ?_
  have k1 : 0 ≤ mI M 55 5 ∧ mI M 55 5 ≤ 4 := b55_5 (M := M) hB0.1
  refine vc_imulE dX12_readText_10 (by omega) (by omega) ?_
  refine vc_putI dX12_readText_11 (plX12_167 _ rfl) (s_54 hB0.1.1) rfl ?_
  have kp3 : mI (sI M 54 14 (873 * (mI M 55 5))) 55 = mI M 55 := (kp_sI rfl rfl)
  have hB4 : BF fT M (sI M 54 14 (873 * (mI M 55 5))) := BF.w54_14 hB0 rfl (by omega) (by omega)
  refine vc_aload_n dX12_readText_14 rfl ?_
  refine vc_getR dX12_readText_15 flX12_16 (s_54 hB4.1.1) rfl (r_54_2 hB4.1.1) ?_
  refine vc_aload_n dX12_readText_18 rfl ?_
  refine vc_getI dX12_readText_19 flX12_167 (s_54 hB4.1.1) rfl ?_
  refine vc_topI (873 * (mI M 55 5)) rfl ?_
  refine vc_iconst dX12_readText_22 rfl ?_
  refine vc_iastore dX12_readText_23 (s_57 hB4.1.1) (by omega) (by omega) ?_
  have kp5 : mI (sI (sI M 54 14 (873 * (mI M 55 5))) 57 ((873 * (mI M 55 5)).toNat) 0) 55 = mI M 55 := (kp_sI kp3 rfl)
  have hB6 : BF fT M (sI (sI M 54 14 (873 * (mI M 55 5))) 57 ((873 * (mI M 55 5)).toNat) 0) := BF.x57 (x := 873 * (mI M 55 5)) hB4 (by first | omega | (show 873 * mI M 55 5 ≤ _; omega))
  refine vc_aload_n dX12_readText_24 rfl ?_
  refine vc_iconst dX12_readText_25 rfl ?_
  refine vc_putI dX12_readText_26 (plX12_170 _ rfl) (s_54 hB6.1.1) rfl ?_
  have kp7 : mI (sI (sI (sI M 54 14 (873 * (mI M 55 5))) 57 ((873 * (mI M 55 5)).toNat) 0) 54 15 0) 55 = mI M 55 := (kp_sI kp5 rfl)
  have hB8 : BF fT M (sI (sI (sI M 54 14 (873 * (mI M 55 5))) 57 ((873 * (mI M 55 5)).toNat) 0) 54 15 0) := BF.w54_15 hB6 rfl (by omega) (by omega)
  refine vc_aload_n dX12_readText_29 rfl ?_
  refine vc_iconst dX12_readText_30 rfl ?_
  refine vc_putI dX12_readText_31 (plX12_265 _ rfl) (s_54 hB8.1.1) rfl ?_
  have kp9 : mI (sI (sI (sI (sI M 54 14 (873 * (mI M 55 5))) 57 ((873 * (mI M 55 5)).toNat) 0) 54 15 0) 54 21 0) 55 = mI M 55 := (kp_sI kp7 rfl)
  have hB10 : BF fT M (sI (sI (sI (sI M 54 14 (873 * (mI M 55 5))) 57 ((873 * (mI M 55 5)).toNat) 0) 54 15 0) 54 21 0) := BF.w54_21 hB8 rfl
  refine vc_aload_n dX12_readText_34 rfl ?_
  refine vc_iconst dX12_readText_35 rfl ?_
  refine vc_putI dX12_readText_36 (plX12_119 _ rfl) (s_54 hB10.1.1) rfl ?_
  have kp11 : mI (sI (sI (sI (sI (sI M 54 14 (873 * (mI M 55 5))) 57 ((873 * (mI M 55 5)).toNat) 0) 54 15 0) 54 21 0) 54 9 0) 55 = mI M 55 := (kp_sI kp9 rfl)
  have hB12 : BF fT M (sI (sI (sI (sI (sI M 54 14 (873 * (mI M 55 5))) 57 ((873 * (mI M 55 5)).toNat) 0) 54 15 0) 54 21 0) 54 9 0) := BF.w54_9 hB10 rfl (by omega) (by omega)
  refine vc_aload_n dX12_readText_39 rfl ?_
  have k13 : mI (sI (sI (sI (sI (sI M 54 14 (873 * (mI M 55 5))) 57 ((873 * (mI M 55 5)).toNat) 0) 54 15 0) 54 21 0) 54 9 0) 54 9 = 0 := rfl
  have k14 : mI (sI (sI (sI (sI (sI M 54 14 (873 * (mI M 55 5))) 57 ((873 * (mI M 55 5)).toNat) 0) 54 15 0) 54 21 0) 54 9 0) 54 10 = mI M 54 10 := rfl
  have k15 : mI (sI (sI (sI (sI (sI M 54 14 (873 * (mI M 55 5))) 57 ((873 * (mI M 55 5)).toNat) 0) 54 15 0) 54 21 0) 54 9 0) 54 11 = mI M 54 11 := rfl
  have k16 : mI (sI (sI (sI (sI (sI M 54 14 (873 * (mI M 55 5))) 57 ((873 * (mI M 55 5)).toNat) 0) 54 15 0) 54 21 0) 54 9 0) 54 14 = 873 * (mI M 55 5) := rfl
  have k17 : mI (sI (sI (sI (sI (sI M 54 14 (873 * (mI M 55 5))) 57 ((873 * (mI M 55 5)).toNat) 0) 54 15 0) 54 21 0) 54 9 0) 54 15 = 0 := rfl
  have k18 : mI (sI (sI (sI (sI (sI M 54 14 (873 * (mI M 55 5))) 57 ((873 * (mI M 55 5)).toNat) 0) 54 15 0) 54 21 0) 54 9 0) 54 16 = mI M 54 16 := rfl
  have k19 : mI (sI (sI (sI (sI (sI M 54 14 (873 * (mI M 55 5))) 57 ((873 * (mI M 55 5)).toNat) 0) 54 15 0) 54 21 0) 54 9 0) 54 18 = mI M 54 18 := rfl
  have k20 : mI (sI (sI (sI (sI (sI M 54 14 (873 * (mI M 55 5))) 57 ((873 * (mI M 55 5)).toNat) 0) 54 15 0) 54 21 0) 54 9 0) 54 19 = mI M 54 19 := rfl
  have k21 : mI (sI (sI (sI (sI (sI M 54 14 (873 * (mI M 55 5))) 57 ((873 * (mI M 55 5)).toNat) 0) 54 15 0) 54 21 0) 54 9 0) 54 20 = mI M 54 20 := rfl
  have k22 : mI (sI (sI (sI (sI (sI M 54 14 (873 * (mI M 55 5))) 57 ((873 * (mI M 55 5)).toNat) 0) 54 15 0) 54 21 0) 54 9 0) 54 21 = 0 := rfl
  have h59 : mI (sI (sI (sI (sI (sI M 54 14 (873 * (mI M 55 5))) 57 ((873 * (mI M 55 5)).toNat) 0) 54 15 0) 54 21 0) 54 9 0) 59 = mI M 59 := funext fun j => hB12.2.2 59 j rfl
  have h6 : mI (sI (sI (sI (sI (sI M 54 14 (873 * (mI M 55 5))) 57 ((873 * (mI M 55 5)).toNat) 0) 54 15 0) 54 21 0) 54 9 0) 54 6 = mI M 54 6 := hB12.2.2 54 6 rfl
  have hbt : byt (mI (sI (sI (sI (sI (sI M 54 14 (873 * (mI M 55 5))) 57 ((873 * (mI M 55 5)).toNat) 0) 54 15 0) 54 21 0) 54 9 0) 59) := by rw [h59]; exact p1
  have hk6 := b54_6 hB
  have hk9 : mI (sI (sI (sI (sI (sI M 54 14 (873 * (mI M 55 5))) 57 ((873 * (mI M 55 5)).toNat) 0) 54 15 0) 54 21 0) 54 9 0) 54 9 = 0 := rfl
  have hk21 : mI (sI (sI (sI (sI (sI M 54 14 (873 * (mI M 55 5))) 57 ((873 * (mI M 55 5)).toNat) 0) 54 15 0) 54 21 0) 54 9 0) 54 21 = 0 := rfl
  refine vc_cVU dX12_readText_40 (sfX12_nextTokenF (M := (sI (sI (sI (sI (sI M 54 14 (873 * (mI M 55 5))) 57 ((873 * (mI M 55 5)).toNat) 0) 54 15 0) 54 21 0) 54 9 0)) hB12.1   (by first | (rw [hgf.2.1]; omega) | omega) (by first | (rw [hgf.1]; exact hgf.2.2) | assumption)) rfl okX12_nextToken viX12_nextToken lkX12_193 (s_54 hB12.1.1) cl_12 rfl (Nat.le_of_ble_eq_true rfl) ⟨rfl, rfl⟩ (Nat.le_of_ble_eq_true rfl) (Nat.le_of_ble_eq_true rfl) (Nat.le_of_ble_eq_true rfl) ?_
  rintro M23 ⟨hB24, kp25, kp26, kp27, h28, h29, h30, h31, h32, h33, h34, h35, h36, h37, h38⟩
  have hB39 : BF fT M M23 := BF.go hB12 hB24.t
  have kp40 : mI M23 55 = mI M 55 := kp_go kp11 kp25
  have hn0 : mI M23 57 (mI M23 54 14).toNat = 0 := by rw [kp26, show mI M23 54 14 = 873 * mI M 55 5 by omega]; exact mI_same
  have hcl0 : CLS (mI M23 57) (mI M23 54 14) (mI M23 54 15) (mI M23 57 (mI M23 54 14).toNat) := by rw [hn0]; intro k hk; exfalso; omega
  have hT0 : RT g n M23 (skb g n 0) := by
    have z := h38
    rw [h59, h6, hk9, ← hgE, ← hnE] at z
    exact z
  have hlo0 : ∀ j : Nat, (j : Int) < mI M23 54 14 → mI M23 57 j = mI M 57 j := fun j hj => (congrFun kp26 j).trans (by (repeat rw [mI_sI, if_neg (fun e => by omega)]); first | done | rfl)
  have hri0 : RIr g n M23 := by unfold RIr; rw [hn0]; exact ⟨fun q2 h2 => RT.uq hT0 h2, fun e he => absurd he (by omega)⟩
  have hli0 : LIr g n M23 := by unfold LIr; rw [hn0]; exact fun e he => absurd he (by omega)
  have hti0 : TIr g n M23 (sAll g n) := ⟨_, _, hT0, by rw [show mI M23 54 21 = 0 by omega]; exact ONb.new, by omega, by omega, by rw [hn0]; rfl⟩
  have lp43 : ∀ (n43 : Nat) (Mq43 : Mem) , (BF fT M Mq43) → (mI Mq43 55 = mI M 55) → (CLS (mI Mq43 57) (mI Mq43 54 14) (mI Mq43 54 15) (mI Mq43 57 (mI Mq43 54 14).toNat)) → (0 ≤ mI Mq43 57 (mI Mq43 54 14).toNat) → (mI Mq43 57 (mI Mq43 54 14).toNat ≤ 24) → (mI Mq43 54 15 ≤ mI Mq43 54 10) → (mI Mq43 54 14 = 873 * mI M 55 5) → (mI Mq43 54 10 ≤ mI Mq43 54 9) → (mI Mq43 54 11 = 0 ∨ mI Mq43 54 10 < mI Mq43 54 9) → (TIr g n Mq43 (sAll g n)) → (RIr g n Mq43) → (∀ j : Nat, (j : Int) < mI Mq43 54 14 → mI Mq43 57 j = mI M 57 j) → (LIr g n Mq43) → (300 - mI Mq43 54 10).toNat < n43 → VC l mdX12_readText 43 [some (aR 54), none] [] Mq43 0 0 (fun q N => ∃ r : Int, q = some (aI r) ∧ BF fT M N ∧ mI N 55 = mI M 55 ∧ (r = 0 → wfT (mI N 57) (mI M 55 5).toNat) ∧ ((r = (sAll (mI M 59) (mI M 54 6)).1 ∧ (r ≠ 0 → mI N 54 10 = (sAll (mI M 59) (mI M 54 6)).2)) ∧ (r = 0 → mI N 54 14 = 873 * mI M 55 5 ∧ (∀ j : Nat, (j : Int) < mI N 54 14 → mI N 57 j = mI M 57 j) ∧ tk (mI M 59) (mI M 54 6) (plS (tk (mI M 59) (mI M 54 6)) (nx (mI M 59) (mI M 54 6)) (skb (mI M 59) (mI M 54 6) 0) (mI N 57 (mI N 54 14).toNat).toNat) = 0 ∧ ∀ e : Nat, (e : Int) < mI N 57 (mI N 54 14).toNat → Q57 (tk (mI M 59) (mI M 54 6)) (nx (mI M 59) (mI M 54 6)) (mI N 57) (mI N 54 14 + 1 + 11 * e) (plS (tk (mI M 59) (mI M 54 6)) (nx (mI M 59) (mI M 54 6)) (skb (mI M 59) (mI M 54 6) 0) e) ∧ (sBody (tk (mI M 59) (mI M 54 6)) (nx (mI M 59) (mI M 54 6)) (tk (mI M 59) (mI M 54 6) (plS (tk (mI M 59) (mI M 54 6)) (nx (mI M 59) (mI M 54 6)) (skb (mI M 59) (mI M 54 6) 0) e) - 101) (nx (mI M 59) (mI M 54 6) (plS (tk (mI M 59) (mI M 54 6)) (nx (mI M 59) (mI M 54 6)) (skb (mI M 59) (mI M 54 6) 0) e))).1 = 0) ∧ (r = 0 → LIr (mI M 59) (mI M 54 6) N))) := by
    intro n43
    induction n43 with
    | zero => intro Mq43 hQ43 kp43_55 g43i0 g43i1 g43i2 g43i3 g43i4 g43i5 g43i6 g43i7 g43i8 g43i9 g43i10 hm43; exact absurd hm43 (Nat.not_lt_zero _)
    | succ n43 ih43 =>
      intro Mq43 hQ43 kp43_55 g43i0 g43i1 g43i2 g43i3 g43i4 g43i5 g43i6 g43i7 g43i8 g43i9 g43i10 hm43
      obtain ⟨q, on, hTq, hon, hc0, hc24, hSq⟩ := g43i7
      have hzr := RT.zr hTq
      refine vc_aload_n dX12_readText_43 rfl ?_
      refine vc_getI dX12_readText_44 flX12_129 (s_54 hQ43.1.1) rfl ?_
      refine vc_if_eq dX12_readText_47 (fun h41 => ?_) (fun h41 => ?_)
      · refine vc_iconst dX12_readText_64 rfl ?_
        refine vc_iret dX12_readText_65 rfl (Nat.le_of_ble_eq_true rfl) (Nat.le_of_ble_eq_true rfl) ?_
        refine ⟨_, rfl, hQ43, kp43_55, fun _ => ⟨?_, ?_, fun k hk => ?_⟩, by rw [← hgE, ← hnE]; exact ⟨⟨(TIr.fin hSq (by omega)).symm, fun h => absurd rfl h⟩, fun _ => ⟨by omega, g43i9, by rw [← g43i8.1 q hTq]; omega, g43i8.2⟩, fun _ => g43i10⟩⟩
        · rw [show 873 * (mI M 55 5).toNat = (mI Mq43 54 14).toNat by omega]; exact g43i1
        · rw [show 873 * (mI M 55 5).toNat = (mI Mq43 54 14).toNat by omega]; exact g43i2
        · rw [show 873 * (mI M 55 5).toNat = (mI Mq43 54 14).toNat by omega] at hk ⊢
          exact (g43i0 k hk).1
      · refine vc_aload_n dX12_readText_50 rfl ?_
        have hz5 := congrFun kp43_55 5
        refine vc_cVI dX12_readText_51 (sfX12_clauseF (M := Mq43) hQ43.1  g n q hTq on (by omega) (by omega) (by omega) (by omega) (by omega) (by omega) (by exact g43i0) (by exact hon)) rfl okX12_clause viX12_clause lkX12_275 (s_54 hQ43.1.1) cl_12 rfl (Nat.le_of_ble_eq_true rfl) ⟨rfl, rfl⟩ (Nat.le_of_ble_eq_true rfl) (Nat.le_of_ble_eq_true rfl) (Nat.le_of_ble_eq_true rfl) ?_
        rintro x42 M43 ⟨hB44, kp45, h46, h47, h48, h49, h50, h51, h52, h53⟩
        have hB54 : BF fT M M43 := BF.go hQ43 hB44
        have kp55 : mI M43 55 = mI M 55 := kp_go kp43_55 kp45
        have hcn := h46
        have hbx := b54_10 (M := M43) hB54.1
        refine vc_istore_n dX12_readText_54 (by decide) rfl (show _ = [some (aR 54), some (aI x42)] from rfl) ?_
        refine vc_iload_n dX12_readText_55 rfl ?_
        refine vc_if_eq dX12_readText_56 (fun h56 => ?_) (fun h56 => ?_)
        · have hliN : LIr g n M43 := LIr.next g43i10 g43i8 hTq hc0 (by omega) (by omega) h53.1 h53.2.1 h53.2.2 (by omega) (by omega)
          have hloN : ∀ j : Nat, (j : Int) < mI M43 54 14 → mI M43 57 j = mI M 57 j := fun j hj => ((h53.2.1 (by omega)).2 j (by omega) (by omega)).trans (g43i9 j (by omega))
          have hriN : RIr g n M43 := RIr.next g43i8 hTq hc0 (by omega) h53.1 h53.2.1 (by omega) (by omega)
          have htiN : TIr g n M43 (sAll g n) := TIr.next hSq hc0 hc24 (by omega) h53.1 (by omega) (by omega)
          refine vc_goto dX12_readText_61 ?_
          refine vc_less [some (aR 54), none] (lessL_keep (lessL_drop (lessL_nil))) ?_
          exact ih43 M43 hB54 kp55 (by first | exact hcl0 | exact hcn (by omega)) (by omega) (by omega) (by omega) (by omega) (by omega) (by omega) (by first | exact hti0 | exact htiN) (by first | exact hri0 | exact hriN) (by first | exact hlo0 | exact hloN) (by first | exact hli0 | exact hliN) (by omega)
        · refine vc_iload_n dX12_readText_59 rfl ?_
          refine vc_iret dX12_readText_60 rfl (Nat.le_of_ble_eq_true rfl) (Nat.le_of_ble_eq_true rfl) ?_
          exact ⟨_, rfl, hB54, kp55, fun h => absurd h (by first | decide | assumption), by rw [← hgE, ← hnE]; exact ⟨TIr.bad hSq hc0 hc24 (by omega) h53.1 (by omega), (fun h => absurd h (by first | assumption | omega)), fun h => absurd h (by first | assumption | omega)⟩⟩
  exact lp43 _ M23 hB39 kp40 (by first | exact hcl0 | exact hcn (by omega)) (by omega) (by omega) (by omega) (by omega) (by omega) (by omega) (by first | exact hti0 | exact htiN) (by first | exact hri0 | exact hriN) (by first | exact hlo0 | exact hloN) (by first | exact hli0 | exact hliN) (Nat.lt_succ_self _)

set_option maxRecDepth 4000 in
theorem sfX12_textF {l : Launch} {M : Mem} (hB : Box M)   (p0 : byt (mI M 59)) : Call l mdX12_text [aR 54] M (fun q N => ∃ r : Int, q = some (aI r) ∧ BX M N ∧ TXr M N r ∧ TCr M N r ∧ TLr M N r) := by
  have hB0 : BX M M := BX.start hB
  refine Call.of [some (aR 54)] rfl (Nat.le_of_ble_eq_true rfl) rfl ?_
  have hk5 := b55_5 hB
  refine vc_aload_n dX12_text_0 rfl ?_
  refine vc_getR dX12_text_1 flX12_7 (s_54 hB0.1.1) rfl (r_54_0 hB0.1.1) ?_
  refine vc_iconst dX12_text_4 rfl ?_
  refine vc_iaload dX12_text_5 (s_55 hB0.1.1) (by omega) (by omega) ?_
  refine vc_topI (mI M 55 5) rfl ?_
  have k1 : 0 ≤ mI M 55 5 ∧ mI M 55 5 ≤ 4 := b55_5 (M := M) hB0.1
  refine vc_iconst dX12_text_6 rfl ?_
  refine vc_icmp_ne dX12_text_7 (fun h2 => ?_) (fun h2 => ?_)
  · refine vc_aload_n dX12_text_12 rfl ?_
    refine vc_aload_n dX12_text_13 rfl ?_
    refine vc_cVI dX12_text_14 (sfX12_readTextF (M := M) hB0.1   (by omega) (by omega)) rfl okX12_readText viX12_readText lkX12_278 (s_54 hB0.1.1) cl_12 rfl (Nat.le_of_ble_eq_true rfl) ⟨rfl, rfl⟩ (Nat.le_of_ble_eq_true rfl) (Nat.le_of_ble_eq_true rfl) (Nat.le_of_ble_eq_true rfl) ?_
    rintro x3 M4 ⟨hB5, kp6, h7, h8⟩
    have hB9 : BX M M4 := BX.go hB0 hB5.x
    have hwt := h7
    have ht5 := congrFun kp6 5
    have hrd := h8.1
    have hrd2 := h8.2.1
    have hrd3 := h8.2.2
    have hfz := hB5.2.2
    have hrl := hB5.2.1.2.2.1 rfl
    have hrr := hB5.2.1.2.1 rfl
    refine vc_putI dX12_text_17 (plX12_25 _ rfl) (s_54 hB9.1.1) rfl ?_
    have hB10 : BX M (sI M4 54 7 x3) := BX.w54_7 hB9
    refine vc_aload_n dX12_text_20 rfl ?_
    refine vc_aload_n dX12_text_21 rfl ?_
    refine vc_getI dX12_text_22 flX12_25 (s_54 hB10.1.1) rfl ?_
    refine vc_topI (x3) rfl ?_
    refine vc_if_ne dX12_text_25 (fun h11 => ?_) (fun h11 => ?_)
    · refine vc_aload_n dX12_text_32 rfl ?_
      refine vc_getI dX12_text_33 flX12_126 (s_54 hB10.1.1) rfl ?_
      refine vc_topI (mI M4 54 10) rfl ?_
      have k12 : 0 ≤ mI M4 54 10 ∧ mI M4 54 10 ≤ 300 := b54_10 (M := (sI M4 54 7 x3)) hB10.1
      refine vc_putI dX12_text_36 (plX12_29 _ rfl) (s_54 hB10.1.1) rfl ?_
      have hB13 : BX M (sI (sI M4 54 7 x3) 54 8 (mI M4 54 10)) := BX.w54_8 hB10
      refine vc_aload_n dX12_text_39 rfl ?_
      refine vc_iconst dX12_text_40 rfl ?_
      refine vc_putI dX12_text_41 (plX12_112 _ rfl) (s_54 hB13.1.1) rfl ?_
      have hB14 : BX M (sI (sI (sI M4 54 7 x3) 54 8 (mI M4 54 10)) 54 6 0) := BX.w54_6 hB13 (by omega) (by omega)
      refine vc_aload_n dX12_text_44 rfl ?_
      refine vc_getI dX12_text_45 flX12_25 (s_54 hB14.1.1) rfl ?_
      refine vc_topI (x3) rfl ?_
      refine vc_if_eq dX12_text_48 (fun h15 => ?_) (fun h15 => ?_)
      · refine vc_aload_n dX12_text_53 rfl ?_
        refine vc_getR dX12_text_54 flX12_7 (s_54 hB14.1.1) rfl (r_54_0 hB14.1.1) ?_
        refine vc_iconst dX12_text_57 rfl ?_
        refine vc_dup2 dX12_text_58 rfl rfl ?_
        refine vc_iaload dX12_text_59 (s_55 hB14.1.1) (by omega) (by omega) ?_
        refine vc_topI (mI M4 55 5) rfl ?_
        have k16 : 0 ≤ mI M4 55 5 ∧ mI M4 55 5 ≤ 4 := b55_5 (M := (sI (sI (sI M4 54 7 x3) 54 8 (mI M4 54 10)) 54 6 0)) hB14.1
        refine vc_iconst dX12_text_60 rfl ?_
        refine vc_iaddE dX12_text_61 (by omega) (by omega) ?_
        refine vc_iastore dX12_text_62 (s_55 hB14.1.1) (by omega) (by omega) ?_
        refine vc_mem (sI (sI (sI (sI M4 54 7 x3) 54 8 (mI M4 54 10)) 54 6 0) 55 5 ((mI M4 55 5) + 1)) rfl ?_
        have hB17 : BX M (sI (sI (sI (sI M4 54 7 x3) 54 8 (mI M4 54 10)) 54 6 0) 55 5 ((mI M4 55 5) + 1)) := BX.a5 hB14 (by first | rfl | omega) (by first | omega | (show mI M4 55 5 + 1 ≤ 4; omega)) (by have q := hwt (by omega); rw [← ht5] at q; exact q)
        refine vc_aload_n dX12_text_63 rfl ?_
        refine vc_getR dX12_text_64 flX12_7 (s_54 hB17.1.1) rfl (r_54_0 hB17.1.1) ?_
        refine vc_iconst dX12_text_67 rfl ?_
        refine vc_iaload dX12_text_68 (s_55 hB17.1.1) (by omega) (by omega) ?_
        refine vc_topI ((mI M4 55 5) + 1) rfl ?_
        refine vc_iconst dX12_text_69 rfl ?_
        refine vc_isubE dX12_text_70 (by omega) (by omega) ?_
        refine vc_iret dX12_text_71 rfl (Nat.le_of_ble_eq_true rfl) (Nat.le_of_ble_eq_true rfl) ?_
        have k18 : mI (sI (sI (sI (sI M4 54 7 x3) 54 8 (mI M4 54 10)) 54 6 0) 55 5 ((mI M4 55 5) + 1)) 54 6 = 0 := rfl
        have k19 : mI (sI (sI (sI (sI M4 54 7 x3) 54 8 (mI M4 54 10)) 54 6 0) 55 5 ((mI M4 55 5) + 1)) 54 7 = x3 := rfl
        have k20 : mI (sI (sI (sI (sI M4 54 7 x3) 54 8 (mI M4 54 10)) 54 6 0) 55 5 ((mI M4 55 5) + 1)) 54 8 = mI M4 54 10 := rfl
        have e55 : mI (sI (sI (sI (sI M4 54 7 x3) 54 8 (mI M4 54 10)) 54 6 0) 55 5 ((mI M4 55 5) + 1)) 55 5 = mI M4 55 5 + 1 := mI_same
        exact ⟨_, rfl, hB17, Or.inr ⟨by omega, by omega, (((((Fz.r hfz).trans FzR.w4).trans FzR.w4).trans FzR.w4).trans FzR.w5), Or.inl ⟨by omega, by omega, by omega, by omega, by omega⟩⟩, ⟨hrr, hrl, fun _ => by obtain ⟨k1, _, k3, k4⟩ := hrd2 (by omega); rw [k1] at k3 k4; exact ⟨k3, k4⟩⟩, fun _ => by obtain ⟨k1, _⟩ := hrd2 (by omega); have z := hrd3 (by omega); unfold LIr at z; rw [k1] at z; exact fun e he hk => (z e he hk).1⟩
      · refine vc_iconst dX12_text_51 rfl ?_
        refine vc_iret dX12_text_52 rfl (Nat.le_of_ble_eq_true rfl) (Nat.le_of_ble_eq_true rfl) ?_
        have k21 : mI (sI (sI (sI M4 54 7 x3) 54 8 (mI M4 54 10)) 54 6 0) 54 6 = 0 := rfl
        have k22 : mI (sI (sI (sI M4 54 7 x3) 54 8 (mI M4 54 10)) 54 6 0) 54 7 = x3 := rfl
        have k23 : mI (sI (sI (sI M4 54 7 x3) 54 8 (mI M4 54 10)) 54 6 0) 54 8 = mI M4 54 10 := rfl
        have e55 : mI (sI (sI (sI M4 54 7 x3) 54 8 (mI M4 54 10)) 54 6 0) 55 5 = mI M4 55 5 := rfl
        have hr2 := hrd.2 (by omega)
        exact ⟨_, rfl, hB14, Or.inr ⟨by omega, by omega, ((((Fz.r hfz).trans FzR.w4).trans FzR.w4).trans FzR.w4), Or.inr ⟨by omega, by omega, by omega, by omega, by omega⟩⟩, ⟨hrr, hrl, fun h => absurd rfl h⟩, fun h => absurd rfl h⟩
    · refine vc_iconst dX12_text_28 rfl ?_
      refine vc_goto dX12_text_29 ?_
      refine vc_putI dX12_text_36 (plX12_29 _ rfl) (s_54 hB10.1.1) rfl ?_
      have hB24 : BX M (sI (sI M4 54 7 x3) 54 8 (-1)) := BX.w54_8 hB10
      refine vc_aload_n dX12_text_39 rfl ?_
      refine vc_iconst dX12_text_40 rfl ?_
      refine vc_putI dX12_text_41 (plX12_112 _ rfl) (s_54 hB24.1.1) rfl ?_
      have hB25 : BX M (sI (sI (sI M4 54 7 x3) 54 8 (-1)) 54 6 0) := BX.w54_6 hB24 (by omega) (by omega)
      refine vc_aload_n dX12_text_44 rfl ?_
      refine vc_getI dX12_text_45 flX12_25 (s_54 hB25.1.1) rfl ?_
      refine vc_topI (x3) rfl ?_
      refine vc_if_eq dX12_text_48 (fun h26 => ?_) (fun h26 => by exfalso; omega)
      refine vc_aload_n dX12_text_53 rfl ?_
      refine vc_getR dX12_text_54 flX12_7 (s_54 hB25.1.1) rfl (r_54_0 hB25.1.1) ?_
      refine vc_iconst dX12_text_57 rfl ?_
      refine vc_dup2 dX12_text_58 rfl rfl ?_
      refine vc_iaload dX12_text_59 (s_55 hB25.1.1) (by omega) (by omega) ?_
      refine vc_topI (mI M4 55 5) rfl ?_
      have k27 : 0 ≤ mI M4 55 5 ∧ mI M4 55 5 ≤ 4 := b55_5 (M := (sI (sI (sI M4 54 7 x3) 54 8 (-1)) 54 6 0)) hB25.1
      refine vc_iconst dX12_text_60 rfl ?_
      refine vc_iaddE dX12_text_61 (by omega) (by omega) ?_
      refine vc_iastore dX12_text_62 (s_55 hB25.1.1) (by omega) (by omega) ?_
      refine vc_mem (sI (sI (sI (sI M4 54 7 x3) 54 8 (-1)) 54 6 0) 55 5 ((mI M4 55 5) + 1)) rfl ?_
      have hB28 : BX M (sI (sI (sI (sI M4 54 7 x3) 54 8 (-1)) 54 6 0) 55 5 ((mI M4 55 5) + 1)) := BX.a5 hB25 (by first | rfl | omega) (by first | omega | (show mI M4 55 5 + 1 ≤ 4; omega)) (by have q := hwt (by omega); rw [← ht5] at q; exact q)
      refine vc_aload_n dX12_text_63 rfl ?_
      refine vc_getR dX12_text_64 flX12_7 (s_54 hB28.1.1) rfl (r_54_0 hB28.1.1) ?_
      refine vc_iconst dX12_text_67 rfl ?_
      refine vc_iaload dX12_text_68 (s_55 hB28.1.1) (by omega) (by omega) ?_
      refine vc_topI ((mI M4 55 5) + 1) rfl ?_
      refine vc_iconst dX12_text_69 rfl ?_
      refine vc_isubE dX12_text_70 (by omega) (by omega) ?_
      refine vc_iret dX12_text_71 rfl (Nat.le_of_ble_eq_true rfl) (Nat.le_of_ble_eq_true rfl) ?_
      have k29 : mI (sI (sI (sI (sI M4 54 7 x3) 54 8 (-1)) 54 6 0) 55 5 ((mI M4 55 5) + 1)) 54 6 = 0 := rfl
      have k30 : mI (sI (sI (sI (sI M4 54 7 x3) 54 8 (-1)) 54 6 0) 55 5 ((mI M4 55 5) + 1)) 54 7 = x3 := rfl
      have k31 : mI (sI (sI (sI (sI M4 54 7 x3) 54 8 (-1)) 54 6 0) 55 5 ((mI M4 55 5) + 1)) 54 8 = (-1) := rfl
      have e55 : mI (sI (sI (sI (sI M4 54 7 x3) 54 8 (-1)) 54 6 0) 55 5 ((mI M4 55 5) + 1)) 55 5 = mI M4 55 5 + 1 := mI_same
      exact ⟨_, rfl, hB28, Or.inr ⟨by omega, by omega, (((((Fz.r hfz).trans FzR.w4).trans FzR.w4).trans FzR.w4).trans FzR.w5), Or.inl ⟨by omega, by omega, by omega, by omega, by omega⟩⟩, ⟨hrr, hrl, fun _ => by obtain ⟨k1, _, k3, k4⟩ := hrd2 (by omega); rw [k1] at k3 k4; exact ⟨k3, k4⟩⟩, fun _ => by obtain ⟨k1, _⟩ := hrd2 (by omega); have z := hrd3 (by omega); unfold LIr at z; rw [k1] at z; exact fun e he hk => (z e he hk).1⟩
  · refine vc_iconst dX12_text_10 rfl ?_
    refine vc_iret dX12_text_11 rfl (Nat.le_of_ble_eq_true rfl) (Nat.le_of_ble_eq_true rfl) ?_
    exact ⟨_, rfl, hB0, Or.inl ⟨by omega, rfl, Fz.refl M⟩, ⟨fun _ _ _ => rfl, fun _ _ => rfl, fun h => absurd rfl h⟩, fun h => absurd rfl h⟩
