/-! TEXTS: class and reference against the spec -/
noncomputable def sAll (g : Nat → Int) (n : Int) : Int × Int := sText (tk g n) (nx g n) 25 (fun _ => 0) 0 (skb g n 0)
def FzC (M N : Mem) : Prop := ∀ k j, fz k j = true → k ≠ 0 → k ≠ 1 → mI N k j = mI M k j
def FzR (M N : Mem) : Prop := ∀ k j, fz k j = true → k ≠ 54 → k ≠ 55 → mI N k j = mI M k j
theorem Fz.c {M N : Mem} (h : Fz M N) : FzC M N := fun k j a _ _ => h k j a
theorem Fz.r {M N : Mem} (h : Fz M N) : FzR M N := fun k j a _ _ => h k j a
theorem FzC.trans {A B C : Mem} (h : FzC A B) (g : FzC B C) : FzC A C := fun k j a b c => (g k j a b c).trans (h k j a b c)
theorem FzR.trans {A B C : Mem} (h : FzR A B) (g : FzR B C) : FzR A C := fun k j a b c => (g k j a b c).trans (h k j a b c)
theorem FzC.w0 {M : Mem} {j : Nat} {v : Int} : FzC M (sI M 0 j v) := fun k i a b c => by rw [mI_sI, if_neg (fun e => b e.1)]
theorem FzC.w1 {M : Mem} {j : Nat} {v : Int} : FzC M (sI M 1 j v) := fun k i a b c => by rw [mI_sI, if_neg (fun e => c e.1)]
theorem FzR.w4 {M : Mem} {j : Nat} {v : Int} : FzR M (sI M 54 j v) := fun k i a b c => by rw [mI_sI, if_neg (fun e => b e.1)]
theorem FzR.w5 {M : Mem} {j : Nat} {v : Int} : FzR M (sI M 55 j v) := fun k i a b c => by rw [mI_sI, if_neg (fun e => c e.1)]
/-- text, class and reference -/
def TXc (M N : Mem) (r : Int) : Prop := (4 ≤ mI M 1 10 ∧ r = -1 ∧ Fz M N) ∨ (mI M 1 10 < 4 ∧ mI N 0 13 = 0 ∧ FzC M N ∧ (((sAll (mI M 21) (mI M 0 13)).1 = 0 ∧ mI N 0 14 = 0 ∧ mI N 0 15 = -1 ∧ mI N 1 10 = mI M 1 10 + 1 ∧ r = mI M 1 10) ∨ ((sAll (mI M 21) (mI M 0 13)).1 ≠ 0 ∧ mI N 0 14 = (sAll (mI M 21) (mI M 0 13)).1 ∧ mI N 0 15 = (sAll (mI M 21) (mI M 0 13)).2 ∧ mI N 1 10 = mI M 1 10 ∧ r = -1)))
def TXr (M N : Mem) (r : Int) : Prop := (mI M 55 5 = 4 ∧ r = -1 ∧ Fz M N) ∨ (mI M 55 5 ≠ 4 ∧ mI N 54 6 = 0 ∧ FzR M N ∧ (((sAll (mI M 59) (mI M 54 6)).1 = 0 ∧ mI N 54 7 = 0 ∧ mI N 54 8 = -1 ∧ mI N 55 5 = mI M 55 5 + 1 ∧ r = mI M 55 5) ∨ ((sAll (mI M 59) (mI M 54 6)).1 ≠ 0 ∧ mI N 54 7 = (sAll (mI M 59) (mI M 54 6)).1 ∧ mI N 54 8 = (sAll (mI M 59) (mI M 54 6)).2 ∧ mI N 55 5 = mI M 55 5 ∧ r = -1)))
set_option maxRecDepth 4000 in
theorem sfX12_readTextF {l : Launch} {M : Mem} (hB : Box M)   (p0 : mI M 55 5 ≤ 3) (p1 : byt (mI M 59)) : Call l mdX12_readText [aR 54] M (fun q N => ∃ r : Int, q = some (aI r) ∧ BD M N ∧ mI N 55 = mI M 55 ∧ (r = 0 → wfT (mI N 57) (mI M 55 5).toNat) ∧ (r = (sAll (mI M 59) (mI M 54 6)).1 ∧ (r ≠ 0 → mI N 54 10 = (sAll (mI M 59) (mI M 54 6)).2))) := by
  have hB0 := BD.start hB
  refine Call.of [some (aR 54), none] rfl (Nat.le_of_ble_eq_true rfl) rfl ?_
  have hk5 := b55_5 hB
  obtain ⟨g, hgE⟩ : ∃ g, g = mI M 59 := ⟨_, rfl⟩
  obtain ⟨n, hnE⟩ : ∃ n, n = mI M 54 6 := ⟨_, rfl⟩
  refine vc_aload_n dX12_readText_0 rfl ?_
  refine vc_sipush dX12_readText_1 rfl ?_
  refine vc_aload_n dX12_readText_4 rfl ?_
  refine vc_getR dX12_readText_5 flX12_7 (s_54 hB0.1.1) rfl (r_54_0 hB0.1.1) ?_
  refine vc_iconst dX12_readText_8 rfl ?_
  refine vc_iaload dX12_readText_9 (s_55 hB0.1.1) (by omega) (by omega) ?_
  refine vc_topI (mI M 55 5) rfl ?_
  have k1 : 0 ≤ mI M 55 5 ∧ mI M 55 5 ≤ 4 := b55_5 (M := M) hB0.1
  refine vc_imulE dX12_readText_10 (by omega) (by omega) ?_
  refine vc_putI dX12_readText_11 (plX12_167 _ rfl) (s_54 hB0.1.1) rfl ?_
  have kp3 : mI (sI M 54 14 (873 * (mI M 55 5))) 55 = mI M 55 := (kp_sI rfl rfl)
  have hB4 : BD M (sI M 54 14 (873 * (mI M 55 5))) := BD.w54_14 hB0 (by omega) (by omega)
  refine vc_aload_n dX12_readText_14 rfl ?_
  refine vc_getR dX12_readText_15 flX12_16 (s_54 hB4.1.1) rfl (r_54_2 hB4.1.1) ?_
  refine vc_aload_n dX12_readText_18 rfl ?_
  refine vc_getI dX12_readText_19 flX12_167 (s_54 hB4.1.1) rfl ?_
  refine vc_topI (873 * (mI M 55 5)) rfl ?_
  refine vc_iconst dX12_readText_22 rfl ?_
  refine vc_iastore dX12_readText_23 (s_57 hB4.1.1) (by omega) (by omega) ?_
  have kp5 : mI (sI (sI M 54 14 (873 * (mI M 55 5))) 57 ((873 * (mI M 55 5)).toNat) 0) 55 = mI M 55 := (kp_sI kp3 rfl)
  have hB6 : BD M (sI (sI M 54 14 (873 * (mI M 55 5))) 57 ((873 * (mI M 55 5)).toNat) 0) := BD.x57 (x := 873 * (mI M 55 5)) hB4 (by first | omega | (show 873 * mI M 55 5 ≤ _; omega))
  refine vc_aload_n dX12_readText_24 rfl ?_
  refine vc_iconst dX12_readText_25 rfl ?_
  refine vc_putI dX12_readText_26 (plX12_170 _ rfl) (s_54 hB6.1.1) rfl ?_
  have kp7 : mI (sI (sI (sI M 54 14 (873 * (mI M 55 5))) 57 ((873 * (mI M 55 5)).toNat) 0) 54 15 0) 55 = mI M 55 := (kp_sI kp5 rfl)
  have hB8 : BD M (sI (sI (sI M 54 14 (873 * (mI M 55 5))) 57 ((873 * (mI M 55 5)).toNat) 0) 54 15 0) := BD.w54_15 hB6 (by omega) (by omega)
  refine vc_aload_n dX12_readText_29 rfl ?_
  refine vc_iconst dX12_readText_30 rfl ?_
  refine vc_putI dX12_readText_31 (plX12_265 _ rfl) (s_54 hB8.1.1) rfl ?_
  have kp9 : mI (sI (sI (sI (sI M 54 14 (873 * (mI M 55 5))) 57 ((873 * (mI M 55 5)).toNat) 0) 54 15 0) 54 21 0) 55 = mI M 55 := (kp_sI kp7 rfl)
  have hB10 : BD M (sI (sI (sI (sI M 54 14 (873 * (mI M 55 5))) 57 ((873 * (mI M 55 5)).toNat) 0) 54 15 0) 54 21 0) := BD.w54_21 hB8
  refine vc_aload_n dX12_readText_34 rfl ?_
  refine vc_iconst dX12_readText_35 rfl ?_
  refine vc_putI dX12_readText_36 (plX12_119 _ rfl) (s_54 hB10.1.1) rfl ?_
  have kp11 : mI (sI (sI (sI (sI (sI M 54 14 (873 * (mI M 55 5))) 57 ((873 * (mI M 55 5)).toNat) 0) 54 15 0) 54 21 0) 54 9 0) 55 = mI M 55 := (kp_sI kp9 rfl)
  have hB12 : BD M (sI (sI (sI (sI (sI M 54 14 (873 * (mI M 55 5))) 57 ((873 * (mI M 55 5)).toNat) 0) 54 15 0) 54 21 0) 54 9 0) := BD.w54_9 hB10 (by omega) (by omega)
  refine vc_aload_n dX12_readText_39 rfl ?_
  have k13 : mI (sI (sI (sI (sI (sI M 54 14 (873 * (mI M 55 5))) 57 ((873 * (mI M 55 5)).toNat) 0) 54 15 0) 54 21 0) 54 9 0) 54 9 = 0 := rfl
  have k14 : mI (sI (sI (sI (sI (sI M 54 14 (873 * (mI M 55 5))) 57 ((873 * (mI M 55 5)).toNat) 0) 54 15 0) 54 21 0) 54 9 0) 54 10 = mI M 54 10 := rfl
  have k15 : mI (sI (sI (sI (sI (sI M 54 14 (873 * (mI M 55 5))) 57 ((873 * (mI M 55 5)).toNat) 0) 54 15 0) 54 21 0) 54 9 0) 54 11 = mI M 54 11 := rfl
  have k16 : mI (sI (sI (sI (sI (sI M 54 14 (873 * (mI M 55 5))) 57 ((873 * (mI M 55 5)).toNat) 0) 54 15 0) 54 21 0) 54 9 0) 54 14 = 873 * (mI M 55 5) := rfl
  have k17 : mI (sI (sI (sI (sI (sI M 54 14 (873 * (mI M 55 5))) 57 ((873 * (mI M 55 5)).toNat) 0) 54 15 0) 54 21 0) 54 9 0) 54 15 = 0 := rfl
  have k18 : mI (sI (sI (sI (sI (sI M 54 14 (873 * (mI M 55 5))) 57 ((873 * (mI M 55 5)).toNat) 0) 54 15 0) 54 21 0) 54 9 0) 54 16 = mI M 54 16 := rfl
  have k19 : mI (sI (sI (sI (sI (sI M 54 14 (873 * (mI M 55 5))) 57 ((873 * (mI M 55 5)).toNat) 0) 54 15 0) 54 21 0) 54 9 0) 54 18 = mI M 54 18 := rfl
  have k20 : mI (sI (sI (sI (sI (sI M 54 14 (873 * (mI M 55 5))) 57 ((873 * (mI M 55 5)).toNat) 0) 54 15 0) 54 21 0) 54 9 0) 54 19 = mI M 54 19 := rfl
  have k21 : mI (sI (sI (sI (sI (sI M 54 14 (873 * (mI M 55 5))) 57 ((873 * (mI M 55 5)).toNat) 0) 54 15 0) 54 21 0) 54 9 0) 54 20 = mI M 54 20 := rfl
  have k22 : mI (sI (sI (sI (sI (sI M 54 14 (873 * (mI M 55 5))) 57 ((873 * (mI M 55 5)).toNat) 0) 54 15 0) 54 21 0) 54 9 0) 54 21 = 0 := rfl
  have h59 : mI (sI (sI (sI (sI (sI M 54 14 (873 * (mI M 55 5))) 57 ((873 * (mI M 55 5)).toNat) 0) 54 15 0) 54 21 0) 54 9 0) 59 = mI M 59 := funext fun j => hB12.2.2 59 j rfl
  have h6 : mI (sI (sI (sI (sI (sI M 54 14 (873 * (mI M 55 5))) 57 ((873 * (mI M 55 5)).toNat) 0) 54 15 0) 54 21 0) 54 9 0) 54 6 = mI M 54 6 := hB12.2.2 54 6 rfl
  have hbt : byt (mI (sI (sI (sI (sI (sI M 54 14 (873 * (mI M 55 5))) 57 ((873 * (mI M 55 5)).toNat) 0) 54 15 0) 54 21 0) 54 9 0) 59) := by rw [h59]; exact p1
  have hk6 := b54_6 hB
  have hk9 : mI (sI (sI (sI (sI (sI M 54 14 (873 * (mI M 55 5))) 57 ((873 * (mI M 55 5)).toNat) 0) 54 15 0) 54 21 0) 54 9 0) 54 9 = 0 := rfl
  have hk21 : mI (sI (sI (sI (sI (sI M 54 14 (873 * (mI M 55 5))) 57 ((873 * (mI M 55 5)).toNat) 0) 54 15 0) 54 21 0) 54 9 0) 54 21 = 0 := rfl
  refine vc_cVU dX12_readText_40 (sfX12_nextTokenF (M := (sI (sI (sI (sI (sI M 54 14 (873 * (mI M 55 5))) 57 ((873 * (mI M 55 5)).toNat) 0) 54 15 0) 54 21 0) 54 9 0)) hB12.1   (by first | (rw [hgf.2.1]; omega) | omega) (by first | (rw [hgf.1]; exact hgf.2.2) | assumption)) rfl okX12_nextToken viX12_nextToken lkX12_193 (s_54 hB12.1.1) cl_12 rfl (Nat.le_of_ble_eq_true rfl) ⟨rfl, rfl⟩ (Nat.le_of_ble_eq_true rfl) (Nat.le_of_ble_eq_true rfl) (Nat.le_of_ble_eq_true rfl) ?_
  rintro M23 ⟨hB24, kp25, kp26, kp27, h28, h29, h30, h31, h32, h33, h34, h35, h36, h37, h38⟩
  have hB39 : BD M M23 := BD.go hB12 hB24
  have kp40 : mI M23 55 = mI M 55 := kp_go kp11 kp25
  have hn0 : mI M23 57 (mI M23 54 14).toNat = 0 := by rw [kp26, show mI M23 54 14 = 873 * mI M 55 5 by omega]; exact mI_same
  have hcl0 : CLS (mI M23 57) (mI M23 54 14) (mI M23 54 15) (mI M23 57 (mI M23 54 14).toNat) := by rw [hn0]; intro k hk; exfalso; omega
  have hT0 : RT g n M23 (skb g n 0) := by
    have z := h38
    rw [h59, h6, hk9, ← hgE, ← hnE] at z
    exact z
  have hti0 : TIr g n M23 (sAll g n) := ⟨_, _, hT0, by rw [show mI M23 54 21 = 0 by omega]; exact ONb.new, by omega, by omega, by rw [hn0]; rfl⟩
  have lp43 : ∀ (n43 : Nat) (Mq43 : Mem) , (BD M Mq43) → (mI Mq43 55 = mI M 55) → (CLS (mI Mq43 57) (mI Mq43 54 14) (mI Mq43 54 15) (mI Mq43 57 (mI Mq43 54 14).toNat)) → (0 ≤ mI Mq43 57 (mI Mq43 54 14).toNat) → (mI Mq43 57 (mI Mq43 54 14).toNat ≤ 24) → (mI Mq43 54 15 ≤ mI Mq43 54 10) → (mI Mq43 54 14 = 873 * mI M 55 5) → (mI Mq43 54 10 ≤ mI Mq43 54 9) → (mI Mq43 54 11 = 0 ∨ mI Mq43 54 10 < mI Mq43 54 9) → (TIr g n Mq43 (sAll g n)) → (300 - mI Mq43 54 10).toNat < n43 → VC l mdX12_readText 43 [some (aR 54), none] [] Mq43 0 0 (fun q N => ∃ r : Int, q = some (aI r) ∧ BD M N ∧ mI N 55 = mI M 55 ∧ (r = 0 → wfT (mI N 57) (mI M 55 5).toNat) ∧ (r = (sAll (mI M 59) (mI M 54 6)).1 ∧ (r ≠ 0 → mI N 54 10 = (sAll (mI M 59) (mI M 54 6)).2))) := by
    intro n43
    induction n43 with
    | zero => intro Mq43 hQ43 kp43_55 g43i0 g43i1 g43i2 g43i3 g43i4 g43i5 g43i6 g43i7 hm43; exact absurd hm43 (Nat.not_lt_zero _)
    | succ n43 ih43 =>
      intro Mq43 hQ43 kp43_55 g43i0 g43i1 g43i2 g43i3 g43i4 g43i5 g43i6 g43i7 hm43
      obtain ⟨q, on, hTq, hon, hc0, hc24, hSq⟩ := g43i7
      have hzr := RT.zr hTq
      refine vc_aload_n dX12_readText_43 rfl ?_
      refine vc_getI dX12_readText_44 flX12_129 (s_54 hQ43.1.1) rfl ?_
      refine vc_if_eq dX12_readText_47 (fun h41 => ?_) (fun h41 => ?_)
      · refine vc_iconst dX12_readText_64 rfl ?_
        refine vc_iret dX12_readText_65 rfl (Nat.le_of_ble_eq_true rfl) (Nat.le_of_ble_eq_true rfl) ?_
        refine ⟨_, rfl, hQ43, kp43_55, fun _ => ⟨?_, ?_, fun k hk => ?_⟩, by rw [← hgE, ← hnE]; exact ⟨(TIr.fin hSq (by omega)).symm, fun h => absurd rfl h⟩⟩
        · rw [show 873 * (mI M 55 5).toNat = (mI Mq43 54 14).toNat by omega]; exact g43i1
        · rw [show 873 * (mI M 55 5).toNat = (mI Mq43 54 14).toNat by omega]; exact g43i2
        · rw [show 873 * (mI M 55 5).toNat = (mI Mq43 54 14).toNat by omega] at hk ⊢
          exact (g43i0 k hk).1
      · refine vc_aload_n dX12_readText_50 rfl ?_
        have hz5 := congrFun kp43_55 5
        refine vc_cVI dX12_readText_51 (sfX12_clauseF (M := Mq43) hQ43.1  g n q hTq on (by omega) (by omega) (by omega) (by omega) (by omega) (by omega) (by exact g43i0) (by exact hon)) rfl okX12_clause viX12_clause lkX12_275 (s_54 hQ43.1.1) cl_12 rfl (Nat.le_of_ble_eq_true rfl) ⟨rfl, rfl⟩ (Nat.le_of_ble_eq_true rfl) (Nat.le_of_ble_eq_true rfl) (Nat.le_of_ble_eq_true rfl) ?_
        rintro x42 M43 ⟨hB44, kp45, h46, h47, h48, h49, h50, h51, h52, h53⟩
        have hB54 : BD M M43 := BD.go hQ43 hB44
        have kp55 : mI M43 55 = mI M 55 := kp_go kp43_55 kp45
        have hcn := h46
        have hbx := b54_10 (M := M43) hB54.1
        refine vc_istore_n dX12_readText_54 (by decide) rfl (show _ = [some (aR 54), some (aI x42)] from rfl) ?_
        refine vc_iload_n dX12_readText_55 rfl ?_
        refine vc_if_eq dX12_readText_56 (fun h56 => ?_) (fun h56 => ?_)
        · have htiN : TIr g n M43 (sAll g n) := TIr.next hSq hc0 hc24 (by omega) h53 (by omega) (by omega)
          refine vc_goto dX12_readText_61 ?_
          refine vc_less [some (aR 54), none] (lessL_keep (lessL_drop (lessL_nil))) ?_
          exact ih43 M43 hB54 kp55 (by first | exact hcl0 | exact hcn (by omega)) (by omega) (by omega) (by omega) (by omega) (by omega) (by omega) (by first | exact hti0 | exact htiN) (by omega)
        · refine vc_iload_n dX12_readText_59 rfl ?_
          refine vc_iret dX12_readText_60 rfl (Nat.le_of_ble_eq_true rfl) (Nat.le_of_ble_eq_true rfl) ?_
          exact ⟨_, rfl, hB54, kp55, fun h => absurd h (by first | decide | assumption), by rw [← hgE, ← hnE]; exact TIr.bad hSq hc0 hc24 (by omega) h53 (by omega)⟩
  exact lp43 _ M23 hB39 kp40 (by first | exact hcl0 | exact hcn (by omega)) (by omega) (by omega) (by omega) (by omega) (by omega) (by omega) (by first | exact hti0 | exact htiN) (Nat.lt_succ_self _)

set_option maxRecDepth 4000 in
theorem sfX12_textF {l : Launch} {M : Mem} (hB : Box M)   (p0 : byt (mI M 59)) : Call l mdX12_text [aR 54] M (fun q N => ∃ r : Int, q = some (aI r) ∧ BX M N ∧ TXr M N r) := by
  have hB0 := BX.start hB
  refine Call.of [some (aR 54)] rfl (Nat.le_of_ble_eq_true rfl) rfl ?_
  have hk5 := b55_5 hB
  refine vc_aload_n dX12_text_0 rfl ?_
  refine vc_getR dX12_text_1 flX12_7 (s_54 hB0.1.1) rfl (r_54_0 hB0.1.1) ?_
  refine vc_iconst dX12_text_4 rfl ?_
  refine vc_iaload dX12_text_5 (s_55 hB0.1.1) (by omega) (by omega) ?_
  refine vc_topI (mI M 55 5) rfl ?_
  have k1 : 0 ≤ mI M 55 5 ∧ mI M 55 5 ≤ 4 := b55_5 (M := M) hB0.1
  refine vc_iconst dX12_text_6 rfl ?_
  refine vc_icmp_ne dX12_text_7 (fun h2 => ?_) (fun h2 => ?_)
  · refine vc_aload_n dX12_text_12 rfl ?_
    refine vc_aload_n dX12_text_13 rfl ?_
    refine vc_cVI dX12_text_14 (sfX12_readTextF (M := M) hB0.1   (by omega) (by omega)) rfl okX12_readText viX12_readText lkX12_278 (s_54 hB0.1.1) cl_12 rfl (Nat.le_of_ble_eq_true rfl) ⟨rfl, rfl⟩ (Nat.le_of_ble_eq_true rfl) (Nat.le_of_ble_eq_true rfl) (Nat.le_of_ble_eq_true rfl) ?_
    rintro x3 M4 ⟨hB5, kp6, h7, h8⟩
    have hB9 : BX M M4 := BX.go hB0 hB5.x
    have hwt := h7
    have ht5 := congrFun kp6 5
    have hrd := h8
    have hfz := hB5.2.2
    refine vc_putI dX12_text_17 (plX12_25 _ rfl) (s_54 hB9.1.1) rfl ?_
    have hB10 : BX M (sI M4 54 7 x3) := BX.w54_7 hB9
    refine vc_aload_n dX12_text_20 rfl ?_
    refine vc_aload_n dX12_text_21 rfl ?_
    refine vc_getI dX12_text_22 flX12_25 (s_54 hB10.1.1) rfl ?_
    refine vc_topI (x3) rfl ?_
    refine vc_if_ne dX12_text_25 (fun h11 => ?_) (fun h11 => ?_)
    · refine vc_aload_n dX12_text_32 rfl ?_
      refine vc_getI dX12_text_33 flX12_126 (s_54 hB10.1.1) rfl ?_
      refine vc_topI (mI M4 54 10) rfl ?_
      have k12 : 0 ≤ mI M4 54 10 ∧ mI M4 54 10 ≤ 300 := b54_10 (M := (sI M4 54 7 x3)) hB10.1
      refine vc_putI dX12_text_36 (plX12_29 _ rfl) (s_54 hB10.1.1) rfl ?_
      have hB13 : BX M (sI (sI M4 54 7 x3) 54 8 (mI M4 54 10)) := BX.w54_8 hB10
      refine vc_aload_n dX12_text_39 rfl ?_
      refine vc_iconst dX12_text_40 rfl ?_
      refine vc_putI dX12_text_41 (plX12_112 _ rfl) (s_54 hB13.1.1) rfl ?_
      have hB14 : BX M (sI (sI (sI M4 54 7 x3) 54 8 (mI M4 54 10)) 54 6 0) := BX.w54_6 hB13 (by omega) (by omega)
      refine vc_aload_n dX12_text_44 rfl ?_
      refine vc_getI dX12_text_45 flX12_25 (s_54 hB14.1.1) rfl ?_
      refine vc_topI (x3) rfl ?_
      refine vc_if_eq dX12_text_48 (fun h15 => ?_) (fun h15 => ?_)
      · refine vc_aload_n dX12_text_53 rfl ?_
        refine vc_getR dX12_text_54 flX12_7 (s_54 hB14.1.1) rfl (r_54_0 hB14.1.1) ?_
        refine vc_iconst dX12_text_57 rfl ?_
        refine vc_dup2 dX12_text_58 rfl rfl ?_
        refine vc_iaload dX12_text_59 (s_55 hB14.1.1) (by omega) (by omega) ?_
        refine vc_topI (mI M4 55 5) rfl ?_
        have k16 : 0 ≤ mI M4 55 5 ∧ mI M4 55 5 ≤ 4 := b55_5 (M := (sI (sI (sI M4 54 7 x3) 54 8 (mI M4 54 10)) 54 6 0)) hB14.1
        refine vc_iconst dX12_text_60 rfl ?_
        refine vc_iaddE dX12_text_61 (by omega) (by omega) ?_
        refine vc_iastore dX12_text_62 (s_55 hB14.1.1) (by omega) (by omega) ?_
        refine vc_mem (sI (sI (sI (sI M4 54 7 x3) 54 8 (mI M4 54 10)) 54 6 0) 55 5 ((mI M4 55 5) + 1)) rfl ?_
        have hB17 : BX M (sI (sI (sI (sI M4 54 7 x3) 54 8 (mI M4 54 10)) 54 6 0) 55 5 ((mI M4 55 5) + 1)) := BX.a5 hB14 (by first | rfl | omega) (by first | omega | (show mI M4 55 5 + 1 ≤ 4; omega)) (by have q := hwt (by omega); rw [← ht5] at q; exact q)
        refine vc_aload_n dX12_text_63 rfl ?_
        refine vc_getR dX12_text_64 flX12_7 (s_54 hB17.1.1) rfl (r_54_0 hB17.1.1) ?_
        refine vc_iconst dX12_text_67 rfl ?_
        refine vc_iaload dX12_text_68 (s_55 hB17.1.1) (by omega) (by omega) ?_
        refine vc_topI ((mI M4 55 5) + 1) rfl ?_
        refine vc_iconst dX12_text_69 rfl ?_
        refine vc_isubE dX12_text_70 (by omega) (by omega) ?_
        refine vc_iret dX12_text_71 rfl (Nat.le_of_ble_eq_true rfl) (Nat.le_of_ble_eq_true rfl) ?_
        have k18 : mI (sI (sI (sI (sI M4 54 7 x3) 54 8 (mI M4 54 10)) 54 6 0) 55 5 ((mI M4 55 5) + 1)) 54 6 = 0 := rfl
        have k19 : mI (sI (sI (sI (sI M4 54 7 x3) 54 8 (mI M4 54 10)) 54 6 0) 55 5 ((mI M4 55 5) + 1)) 54 7 = x3 := rfl
        have k20 : mI (sI (sI (sI (sI M4 54 7 x3) 54 8 (mI M4 54 10)) 54 6 0) 55 5 ((mI M4 55 5) + 1)) 54 8 = mI M4 54 10 := rfl
        have e55 : mI (sI (sI (sI (sI M4 54 7 x3) 54 8 (mI M4 54 10)) 54 6 0) 55 5 ((mI M4 55 5) + 1)) 55 5 = mI M4 55 5 + 1 := mI_same
        exact ⟨_, rfl, hB17, Or.inr ⟨by omega, by omega, (((((Fz.r hfz).trans FzR.w4).trans FzR.w4).trans FzR.w4).trans FzR.w5), Or.inl ⟨by omega, by omega, by omega, by omega, by omega⟩⟩⟩
      · refine vc_iconst dX12_text_51 rfl ?_
        refine vc_iret dX12_text_52 rfl (Nat.le_of_ble_eq_true rfl) (Nat.le_of_ble_eq_true rfl) ?_
        have k21 : mI (sI (sI (sI M4 54 7 x3) 54 8 (mI M4 54 10)) 54 6 0) 54 6 = 0 := rfl
        have k22 : mI (sI (sI (sI M4 54 7 x3) 54 8 (mI M4 54 10)) 54 6 0) 54 7 = x3 := rfl
        have k23 : mI (sI (sI (sI M4 54 7 x3) 54 8 (mI M4 54 10)) 54 6 0) 54 8 = mI M4 54 10 := rfl
        have e55 : mI (sI (sI (sI M4 54 7 x3) 54 8 (mI M4 54 10)) 54 6 0) 55 5 = mI M4 55 5 := rfl
        have hr2 := hrd.2 (by omega)
        exact ⟨_, rfl, hB14, Or.inr ⟨by omega, by omega, ((((Fz.r hfz).trans FzR.w4).trans FzR.w4).trans FzR.w4), Or.inr ⟨by omega, by omega, by omega, by omega, by omega⟩⟩⟩
    · refine vc_iconst dX12_text_28 rfl ?_
      refine vc_goto dX12_text_29 ?_
      refine vc_putI dX12_text_36 (plX12_29 _ rfl) (s_54 hB10.1.1) rfl ?_
      have hB24 : BX M (sI (sI M4 54 7 x3) 54 8 (-1)) := BX.w54_8 hB10
      refine vc_aload_n dX12_text_39 rfl ?_
      refine vc_iconst dX12_text_40 rfl ?_
      refine vc_putI dX12_text_41 (plX12_112 _ rfl) (s_54 hB24.1.1) rfl ?_
      have hB25 : BX M (sI (sI (sI M4 54 7 x3) 54 8 (-1)) 54 6 0) := BX.w54_6 hB24 (by omega) (by omega)
      refine vc_aload_n dX12_text_44 rfl ?_
      refine vc_getI dX12_text_45 flX12_25 (s_54 hB25.1.1) rfl ?_
      refine vc_topI (x3) rfl ?_
      refine vc_if_eq dX12_text_48 (fun h26 => ?_) (fun h26 => by exfalso; omega)
      refine vc_aload_n dX12_text_53 rfl ?_
      refine vc_getR dX12_text_54 flX12_7 (s_54 hB25.1.1) rfl (r_54_0 hB25.1.1) ?_
      refine vc_iconst dX12_text_57 rfl ?_
      refine vc_dup2 dX12_text_58 rfl rfl ?_
      refine vc_iaload dX12_text_59 (s_55 hB25.1.1) (by omega) (by omega) ?_
      refine vc_topI (mI M4 55 5) rfl ?_
      have k27 : 0 ≤ mI M4 55 5 ∧ mI M4 55 5 ≤ 4 := b55_5 (M := (sI (sI (sI M4 54 7 x3) 54 8 (-1)) 54 6 0)) hB25.1
      refine vc_iconst dX12_text_60 rfl ?_
      refine vc_iaddE dX12_text_61 (by omega) (by omega) ?_
      refine vc_iastore dX12_text_62 (s_55 hB25.1.1) (by omega) (by omega) ?_
      refine vc_mem (sI (sI (sI (sI M4 54 7 x3) 54 8 (-1)) 54 6 0) 55 5 ((mI M4 55 5) + 1)) rfl ?_
      have hB28 : BX M (sI (sI (sI (sI M4 54 7 x3) 54 8 (-1)) 54 6 0) 55 5 ((mI M4 55 5) + 1)) := BX.a5 hB25 (by first | rfl | omega) (by first | omega | (show mI M4 55 5 + 1 ≤ 4; omega)) (by have q := hwt (by omega); rw [← ht5] at q; exact q)
      refine vc_aload_n dX12_text_63 rfl ?_
      refine vc_getR dX12_text_64 flX12_7 (s_54 hB28.1.1) rfl (r_54_0 hB28.1.1) ?_
      refine vc_iconst dX12_text_67 rfl ?_
      refine vc_iaload dX12_text_68 (s_55 hB28.1.1) (by omega) (by omega) ?_
      refine vc_topI ((mI M4 55 5) + 1) rfl ?_
      refine vc_iconst dX12_text_69 rfl ?_
      refine vc_isubE dX12_text_70 (by omega) (by omega) ?_
      refine vc_iret dX12_text_71 rfl (Nat.le_of_ble_eq_true rfl) (Nat.le_of_ble_eq_true rfl) ?_
      have k29 : mI (sI (sI (sI (sI M4 54 7 x3) 54 8 (-1)) 54 6 0) 55 5 ((mI M4 55 5) + 1)) 54 6 = 0 := rfl
      have k30 : mI (sI (sI (sI (sI M4 54 7 x3) 54 8 (-1)) 54 6 0) 55 5 ((mI M4 55 5) + 1)) 54 7 = x3 := rfl
      have k31 : mI (sI (sI (sI (sI M4 54 7 x3) 54 8 (-1)) 54 6 0) 55 5 ((mI M4 55 5) + 1)) 54 8 = (-1) := rfl
      have e55 : mI (sI (sI (sI (sI M4 54 7 x3) 54 8 (-1)) 54 6 0) 55 5 ((mI M4 55 5) + 1)) 55 5 = mI M4 55 5 + 1 := mI_same
      exact ⟨_, rfl, hB28, Or.inr ⟨by omega, by omega, (((((Fz.r hfz).trans FzR.w4).trans FzR.w4).trans FzR.w4).trans FzR.w5), Or.inl ⟨by omega, by omega, by omega, by omega, by omega⟩⟩⟩
  · refine vc_iconst dX12_text_10 rfl ?_
    refine vc_iret dX12_text_11 rfl (Nat.le_of_ble_eq_true rfl) (Nat.le_of_ble_eq_true rfl) ?_
    exact ⟨_, rfl, hB0, Or.inl ⟨by omega, rfl, Fz.refl M⟩⟩
/-! TEXT of the class against the spec -/
set_option maxRecDepth 4000 in
theorem sfX6_addTextF {l : Launch} {M : Mem} (hB : Box M)  (t : Option Nat) (p0 : ∀ y, t = some y → TxO M y) : Call l mdX6_addText [aR 1, .inr (.inr t)] M (fun q N => ∃ r : Int, q = some (aI r) ∧ BX M N ∧ (mI M 1 10 < 4 → r = mI M 1 10 ∧ mI N 1 10 = mI M 1 10 + 1) ∧ FzC M N ∧ mI N 0 = mI M 0) := by
  have hB0 := BX.start hB
  refine Call.of [some (aR 1), some (.inr (.inr t))] rfl (Nat.le_of_ble_eq_true rfl) rfl ?_
  refine vc_aload_n dX6_addText_0 rfl ?_
  refine vc_getI dX6_addText_1 flX6_61 (s_1 hB0.1.1) rfl ?_
  have k1 : 0 ≤ mI M 1 10 ∧ mI M 1 10 ≤ 4 := b1_10 (M := M) hB0.1
  refine vc_iconst dX6_addText_4 rfl ?_
  refine vc_icmp_lt dX6_addText_5 (fun h2 => ?_) (fun h2 => ?_)
  · refine vc_aload_n dX6_addText_10 rfl ?_
    refine vc_getR dX6_addText_11 flX6_29 (s_1 hB0.1.1) rfl (r_1_5 hB0.1.1) ?_
    refine vc_aload_n dX6_addText_14 rfl ?_
    refine vc_getI dX6_addText_15 flX6_61 (s_1 hB0.1.1) rfl ?_
    refine vc_aload_n dX6_addText_18 rfl ?_
    refine vc_aastore dX6_addText_19 (s_7 hB0.1.1) (by omega) (by omega) (fun y hy => (p0 y hy).2.1) ?_
    have hB3 : BX M (sR M 7 ((mI M 1 10).toNat) t) := BX.T7 hB0 _ (fun y hy => p0 y hy)
    refine vc_aload_n dX6_addText_20 rfl ?_
    refine vc_dup dX6_addText_21 rfl ?_
    refine vc_getI dX6_addText_22 flX6_61 (s_1 hB3.1.1) rfl ?_
    refine vc_topI (mI M 1 10) rfl ?_
    have k4 : 0 ≤ mI M 1 10 ∧ mI M 1 10 ≤ 4 := b1_10 (M := (sR M 7 ((mI M 1 10).toNat) t)) hB3.1
    refine vc_iconst dX6_addText_25 rfl ?_
    refine vc_iaddE dX6_addText_26 (by omega) (by omega) ?_
    refine vc_putI dX6_addText_27 (plX6_61 _ rfl) (s_1 hB3.1.1) rfl ?_
    have hB5 : BX M (sI (sR M 7 ((mI M 1 10).toNat) t) 1 10 ((mI M 1 10) + 1)) := BX.w1_10 hB3 (by omega) (by omega)
    refine vc_aload_n dX6_addText_30 rfl ?_
    refine vc_getI dX6_addText_31 flX6_61 (s_1 hB5.1.1) rfl ?_
    refine vc_topI ((mI M 1 10) + 1) rfl ?_
    refine vc_iconst dX6_addText_34 rfl ?_
    refine vc_isubE dX6_addText_35 (by omega) (by omega) ?_
    refine vc_iret dX6_addText_36 rfl (Nat.le_of_ble_eq_true rfl) (Nat.le_of_ble_eq_true rfl) ?_
    have e10 : mI (sI (sR M 7 ((mI M 1 10).toNat) t) 1 10 ((mI M 1 10) + 1)) 1 10 = mI M 1 10 + 1 := mI_same
    exact ⟨_, rfl, hB5, fun h => ⟨by omega, by omega⟩, (fun k j a b c => by rw [mI_sI, if_neg (fun e => c e.1)]; rfl), rfl⟩
  · refine vc_iconst dX6_addText_8 rfl ?_
    refine vc_iret dX6_addText_9 rfl (Nat.le_of_ble_eq_true rfl) (Nat.le_of_ble_eq_true rfl) ?_
    exact ⟨_, rfl, hB0, fun h => by omega, (Fz.refl M).c, rfl⟩

set_option maxRecDepth 4000 in
theorem sfX11_textF {l : Launch} {M : Mem} (hB : Box M)   (p0 : byt (mI M 21)) : Call l mdX11_text [aR 0] M (fun q N => ∃ r : Int, q = some (aI r) ∧ BX M N ∧ TXc M N r) := by
  have hB0 := BX.start hB
  refine Call.of [some (aR 0), none] rfl (Nat.le_of_ble_eq_true rfl) rfl ?_
  refine vc_aload_n dX11_text_0 rfl ?_
  refine vc_getR dX11_text_1 flX11_10 (s_0 hB0.1.1) rfl (r_0_0 hB0.1.1) ?_
  refine vc_getI dX11_text_4 flX11_136 (s_1 hB0.1.1) rfl ?_
  have k1 : 0 ≤ mI M 1 10 ∧ mI M 1 10 ≤ 4 := b1_10 (M := M) hB0.1
  refine vc_iconst dX11_text_7 rfl ?_
  refine vc_icmp_lt dX11_text_8 (fun h2 => ?_) (fun h2 => ?_)
  · refine vc_aload_n dX11_text_13 rfl ?_
    refine vc_getR dX11_text_14 flX11_38 (s_0 hB0.1.1) rfl (r_0_5 hB0.1.1) ?_
    refine vc_aload_n dX11_text_17 rfl ?_
    refine vc_getI dX11_text_18 flX11_103 (s_0 hB0.1.1) rfl ?_
    have k3 : 0 ≤ mI M 0 13 ∧ mI M 0 13 ≤ 300 := b0_13 (M := M) hB0.1
    refine vc_cVI dX11_text_21 (sfX4_readsF (M := M) hB0.1  (mI M 0 13) (by omega) (by omega) (by exact p0)) rfl okX4_reads viX4_reads lkX11_139 (s_22 hB0.1.1) cl_4 rfl (Nat.le_of_ble_eq_true rfl) ⟨rfl, rfl⟩ (Nat.le_of_ble_eq_true rfl) (Nat.le_of_ble_eq_true rfl) (Nat.le_of_ble_eq_true rfl) ?_
    rintro x4 M5 ⟨hB6, h7, h8, h9⟩
    have hB10 : BX M M5 := BX.go hB0 hB6.x
    have htx := h9
    unfold TX at htx
    have hfz := hB6.2.2
    have e10 := hfz 1 10 rfl
    refine vc_istore_n dX11_text_24 (by decide) rfl (show _ = [some (aR 0), some (aI x4)] from rfl) ?_
    refine vc_aload_n dX11_text_25 rfl ?_
    refine vc_iconst dX11_text_26 rfl ?_
    refine vc_putI dX11_text_27 (plX11_103 _ rfl) (s_0 hB10.1.1) rfl ?_
    have hB11 : BX M (sI M5 0 13 0) := BX.w0_13 hB10 (by omega) (by omega)
    refine vc_aload_n dX11_text_30 rfl ?_
    refine vc_aload_n dX11_text_31 rfl ?_
    refine vc_getR dX11_text_32 flX11_38 (s_0 hB11.1.1) rfl (r_0_5 hB11.1.1) ?_
    refine vc_getI dX11_text_35 flX11_142 (s_22 hB11.1.1) rfl ?_
    refine vc_topI (mI M5 22 7) rfl ?_
    refine vc_putI dX11_text_38 (plX11_107 _ rfl) (s_0 hB11.1.1) rfl ?_
    have hB12 : BX M (sI (sI M5 0 13 0) 0 14 (mI M5 22 7)) := BX.w0_14 hB11
    refine vc_aload_n dX11_text_41 rfl ?_
    refine vc_aload_n dX11_text_42 rfl ?_
    refine vc_getR dX11_text_43 flX11_38 (s_0 hB12.1.1) rfl (r_0_5 hB12.1.1) ?_
    refine vc_getI dX11_text_46 flX11_145 (s_22 hB12.1.1) rfl ?_
    refine vc_topI (mI M5 22 8) rfl ?_
    refine vc_putI dX11_text_49 (plX11_110 _ rfl) (s_0 hB12.1.1) rfl ?_
    have hB13 : BX M (sI (sI (sI M5 0 13 0) 0 14 (mI M5 22 7)) 0 15 (mI M5 22 8)) := BX.w0_15 hB12
    refine vc_iload_n dX11_text_52 rfl ?_
    refine vc_if_eq dX11_text_53 (fun h14 => ?_) (fun h14 => ?_)
    · refine vc_iconst dX11_text_73 rfl ?_
      refine vc_iret dX11_text_74 rfl (Nat.le_of_ble_eq_true rfl) (Nat.le_of_ble_eq_true rfl) ?_
      have k15 : mI (sI (sI (sI M5 0 13 0) 0 14 (mI M5 22 7)) 0 15 (mI M5 22 8)) 0 13 = 0 := rfl
      have k16 : mI (sI (sI (sI M5 0 13 0) 0 14 (mI M5 22 7)) 0 15 (mI M5 22 8)) 0 14 = mI M5 22 7 := rfl
      have k17 : mI (sI (sI (sI M5 0 13 0) 0 14 (mI M5 22 7)) 0 15 (mI M5 22 8)) 0 15 = mI M5 22 8 := rfl
      have htx2 : (x4 = 1 ∧ (sAll (mI M 21) (mI M 0 13)).1 = 0 ∧ mI M5 22 7 = 0 ∧ mI M5 22 8 = -1) ∨ (x4 = 0 ∧ (sAll (mI M 21) (mI M 0 13)).1 ≠ 0 ∧ mI M5 22 7 = (sAll (mI M 21) (mI M 0 13)).1 ∧ mI M5 22 8 = (sAll (mI M 21) (mI M 0 13)).2) := htx
      clear htx
      have ew10 : mI (sI (sI (sI M5 0 13 0) 0 14 (mI M5 22 7)) 0 15 (mI M5 22 8)) 1 10 = mI M5 1 10 := rfl
      exact ⟨_, rfl, hB13, Or.inr ⟨by omega, by omega, ((((Fz.c hfz).trans FzC.w0).trans FzC.w0).trans FzC.w0), Or.inr ⟨by omega, by omega, by omega, by omega, by omega⟩⟩⟩
    · refine vc_aload_n dX11_text_56 rfl ?_
      refine vc_getR dX11_text_57 flX11_10 (s_0 hB13.1.1) rfl (r_0_0 hB13.1.1) ?_
      refine vc_aload_n dX11_text_60 rfl ?_
      refine vc_getR dX11_text_61 flX11_38 (s_0 hB13.1.1) rfl (r_0_5 hB13.1.1) ?_
      have k18 : mI (sI (sI (sI M5 0 13 0) 0 14 (mI M5 22 7)) 0 15 (mI M5 22 8)) 0 13 = 0 := rfl
      have k19 : mI (sI (sI (sI M5 0 13 0) 0 14 (mI M5 22 7)) 0 15 (mI M5 22 8)) 0 14 = mI M5 22 7 := rfl
      have k20 : mI (sI (sI (sI M5 0 13 0) 0 14 (mI M5 22 7)) 0 15 (mI M5 22 8)) 0 15 = mI M5 22 8 := rfl
      have ew13 : mI (sI (sI (sI M5 0 13 0) 0 14 (mI M5 22 7)) 0 15 (mI M5 22 8)) 0 13 = 0 := rfl
      have ew14 : mI (sI (sI (sI M5 0 13 0) 0 14 (mI M5 22 7)) 0 15 (mI M5 22 8)) 0 14 = mI M5 22 7 := rfl
      have ew15 : mI (sI (sI (sI M5 0 13 0) 0 14 (mI M5 22 7)) 0 15 (mI M5 22 8)) 0 15 = mI M5 22 8 := rfl
      have ew10 : mI (sI (sI (sI M5 0 13 0) 0 14 (mI M5 22 7)) 0 15 (mI M5 22 8)) 1 10 = mI M5 1 10 := rfl
      refine vc_aVO dX11_text_64 (sfX4_asRead (M := (sI (sI (sI M5 0 13 0) 0 14 (mI M5 22 7)) 0 15 (mI M5 22 8))) hB13.1   ) rfl okX4_asRead viX4_asRead lkX11_148 (s_22 hB13.1.1) cl_4 rfl (Nat.le_of_ble_eq_true rfl) (Nat.le_of_ble_eq_true rfl) (Nat.le_of_ble_eq_true rfl) (Nat.le_of_ble_eq_true rfl) ?_
      rintro o21 M22 ⟨hB23, h24⟩
      have hB25 : BX M M22 := BX.go hB13 hB23.x
      have hty := h24
      have hfa := hB23.2.2
      have ea13 := hfa 0 13 rfl
      have ea14 := hfa 0 14 rfl
      have ea15 := hfa 0 15 rfl
      have ea10 := hfa 1 10 rfl
      refine vc_cVI dX11_text_67 (sfX6_addTextF (M := M22) hB25.1  o21 (by exact hty)) rfl okX6_addText viX6_addText lkX11_152 (s_1 hB25.1.1) cl_6 rfl (Nat.le_of_ble_eq_true rfl) ⟨rfl, rfl⟩ (Nat.le_of_ble_eq_true rfl) (Nat.le_of_ble_eq_true rfl) (Nat.le_of_ble_eq_true rfl) ?_
      rintro x26 M27 ⟨hB28, h29, h30, h31⟩
      have hB32 : BX M M27 := BX.go hB25 hB28
      have had := h29 (by omega)
      have hfc := h30
      have et13 := congrFun h31 13
      have et14 := congrFun h31 14
      have et15 := congrFun h31 15
      refine vc_goto dX11_text_70 ?_
      refine vc_iret dX11_text_74 rfl (Nat.le_of_ble_eq_true rfl) (Nat.le_of_ble_eq_true rfl) ?_
      have htx2 : (x4 = 1 ∧ (sAll (mI M 21) (mI M 0 13)).1 = 0 ∧ mI M5 22 7 = 0 ∧ mI M5 22 8 = -1) ∨ (x4 = 0 ∧ (sAll (mI M 21) (mI M 0 13)).1 ≠ 0 ∧ mI M5 22 7 = (sAll (mI M 21) (mI M 0 13)).1 ∧ mI M5 22 8 = (sAll (mI M 21) (mI M 0 13)).2) := htx
      clear htx
      exact ⟨_, rfl, hB32, Or.inr ⟨by omega, by omega, (((((Fz.c hfz).trans FzC.w0).trans FzC.w0).trans FzC.w0).trans hfa.c).trans hfc, Or.inl ⟨by omega, by omega, by omega, by omega, by omega⟩⟩⟩
  · refine vc_iconst dX11_text_11 rfl ?_
    refine vc_iret dX11_text_12 rfl (Nat.le_of_ble_eq_true rfl) (Nat.le_of_ble_eq_true rfl) ?_
    exact ⟨_, rfl, hB0, Or.inl ⟨by omega, by omega, Fz.refl M⟩⟩
/-! THE RELATION of the two at the law's head, for feed, end, text, fault, by -/
def RLt (M : Mem) : Prop := byt (mI M 21) ∧ mI M 59 = mI M 21 ∧ mI M 54 6 = mI M 0 13 ∧ mI M 54 7 = mI M 0 14 ∧ mI M 54 8 = mI M 0 15 ∧ mI M 55 5 = mI M 1 10 ∧ mI M 56 5 = mI M 8 10
def RB (M : Mem) : Prop := Box M ∧ RLt M
theorem RLt.fz {M N : Mem} (h : RLt M) (f : Fz M N) : RLt N := by
  unfold RLt
  rw [show mI N 21 = mI M 21 from funext fun j => f 21 j rfl, show mI N 59 = mI M 59 from funext fun j => f 59 j rfl, f 54 6 rfl, f 0 13 rfl, f 54 7 rfl, f 0 14 rfl, f 54 8 rfl, f 0 15 rfl, f 55 5 rfl, f 1 10 rfl, f 56 5 rfl, f 8 10 rfl]
  exact h
/-- four bytes more -/
def up4 (f : Nat → Int) (n v : Int) : Nat → Int := fun j => if j = (n + 1 + 1 + 1).toNat then v / 1 % 256 else if j = (n + 1 + 1).toNat then v / 256 % 256 else if j = (n + 1).toNat then v / 65536 % 256 else if j = n.toNat then v / 16777216 % 256 else f j
theorem up4_byt {f : Nat → Int} {n v : Int} (h : byt f) : byt (up4 f n v) := fun j => by
  unfold up4
  split
  · exact ⟨by omega, by omega⟩
  · split
    · exact ⟨by omega, by omega⟩
    · split
      · exact ⟨by omega, by omega⟩
      · split
        · exact ⟨by omega, by omega⟩
        · exact h j
theorem pb_t (M : Mem) (v : Int) : mI (gX11_putBytes M v) 21 = up4 (mI M 21) (mI M 0 13) v := funext fun j => by
  unfold gX11_putBytes up4
  rw [mI_sI, if_neg (fun e => by omega), mI_sI]
  by_cases e1 : j = (mI M 0 13 + 1 + 1 + 1).toNat
  · rw [if_pos ⟨rfl, e1⟩, if_pos e1]
  · rw [if_neg (fun e => e1 e.2), if_neg e1, mI_sI, if_neg (fun e => by omega), mI_sI]
    by_cases e2 : j = (mI M 0 13 + 1 + 1).toNat
    · rw [if_pos ⟨rfl, e2⟩, if_pos e2]
    · rw [if_neg (fun e => e2 e.2), if_neg e2, mI_sI, if_neg (fun e => by omega), mI_sI]
      by_cases e3 : j = (mI M 0 13 + 1).toNat
      · rw [if_pos ⟨rfl, e3⟩, if_pos e3]
      · rw [if_neg (fun e => e3 e.2), if_neg e3, mI_sI, if_neg (fun e => by omega), mI_sI]
        by_cases e4 : j = (mI M 0 13).toNat
        · rw [if_pos ⟨rfl, e4⟩, if_pos e4]
        · rw [if_neg (fun e => e4 e.2), if_neg e4]
theorem fo_t (M : Mem) (v : Int) : mI (gX12_four M v) 59 = up4 (mI M 59) (mI M 54 6) v := funext fun j => by
  unfold gX12_four up4
  rw [mI_sI, if_neg (fun e => by omega), mI_sI]
  by_cases e1 : j = (mI M 54 6 + 1 + 1 + 1).toNat
  · rw [if_pos ⟨rfl, e1⟩, if_pos e1]
  · rw [if_neg (fun e => e1 e.2), if_neg e1, mI_sI, if_neg (fun e => by omega), mI_sI]
    by_cases e2 : j = (mI M 54 6 + 1 + 1).toNat
    · rw [if_pos ⟨rfl, e2⟩, if_pos e2]
    · rw [if_neg (fun e => e2 e.2), if_neg e2, mI_sI, if_neg (fun e => by omega), mI_sI]
      by_cases e3 : j = (mI M 54 6 + 1).toNat
      · rw [if_pos ⟨rfl, e3⟩, if_pos e3]
      · rw [if_neg (fun e => e3 e.2), if_neg e3, mI_sI, if_neg (fun e => by omega), mI_sI]
        by_cases e4 : j = (mI M 54 6).toNat
        · rw [if_pos ⟨rfl, e4⟩, if_pos e4]
        · rw [if_neg (fun e => e4 e.2), if_neg e4]
theorem pb_o (M : Mem) (v : Int) {k j : Nat} (h1 : k ≠ 21) (h2 : ¬ (k = 0 ∧ j = 13)) : mI (gX11_putBytes M v) k j = mI M k j := by
  unfold gX11_putBytes
  rw [mI_sI, if_neg (fun e => h2 e), mI_sI, if_neg (fun e => h1 e.1), mI_sI, if_neg (fun e => h2 e), mI_sI, if_neg (fun e => h1 e.1), mI_sI, if_neg (fun e => h2 e), mI_sI, if_neg (fun e => h1 e.1), mI_sI, if_neg (fun e => h2 e), mI_sI, if_neg (fun e => h1 e.1)]
theorem fo_o (M : Mem) (v : Int) {k j : Nat} (h1 : k ≠ 59) (h2 : ¬ (k = 54 ∧ j = 6)) : mI (gX12_four M v) k j = mI M k j := by
  unfold gX12_four
  rw [mI_sI, if_neg (fun e => h2 e), mI_sI, if_neg (fun e => h1 e.1), mI_sI, if_neg (fun e => h2 e), mI_sI, if_neg (fun e => h1 e.1), mI_sI, if_neg (fun e => h2 e), mI_sI, if_neg (fun e => h1 e.1), mI_sI, if_neg (fun e => h2 e), mI_sI, if_neg (fun e => h1 e.1)]
theorem pb_box {A M : Mem} {v : Int} (h : BX A M) (h0 : 0 ≤ mI M 0 13) (h1 : mI M 0 13 ≤ 296) : BX A (gX11_putBytes M v) := by
  unfold gX11_putBytes
  exact BX.w0_13 (BX.w21 (BX.w0_13 (BX.w21 (BX.w0_13 (BX.w21 (BX.w0_13 (BX.w21 h _) (by omega) (by omega)) _) (by omega) (by omega)) _) (by omega) (by omega)) _) (by omega) (by omega)
theorem fo_box {A M : Mem} {v : Int} (h : BX A M) (h0 : 0 ≤ mI M 54 6) (h1 : mI M 54 6 ≤ 296) : BX A (gX12_four M v) := by
  unfold gX12_four
  exact BX.w54_6 (BX.w59 (BX.w54_6 (BX.w59 (BX.w54_6 (BX.w59 (BX.w54_6 (BX.w59 h _) (by omega) (by omega)) _) (by omega) (by omega)) _) (by omega) (by omega)) _) (by omega) (by omega)
/-- five times four -/
def fd5 (M : Mem) (a b c d e : Int) : Mem := gX11_putBytes (gX11_putBytes (gX11_putBytes (gX11_putBytes (gX11_putBytes M a) b) c) d) e
def fr5 (M : Mem) (a b c d e : Int) : Mem := gX12_four (gX12_four (gX12_four (gX12_four (gX12_four M a) b) c) d) e
theorem fd5_o (M : Mem) (a b c d e : Int) {k j : Nat} (h1 : k ≠ 21) (h2 : ¬ (k = 0 ∧ j = 13)) : mI (fd5 M a b c d e) k j = mI M k j := by
  unfold fd5
  rw [pb_o _ _ h1 h2, pb_o _ _ h1 h2, pb_o _ _ h1 h2, pb_o _ _ h1 h2, pb_o _ _ h1 h2]
theorem fr5_o (M : Mem) (a b c d e : Int) {k j : Nat} (h1 : k ≠ 59) (h2 : ¬ (k = 54 ∧ j = 6)) : mI (fr5 M a b c d e) k j = mI M k j := by
  unfold fr5
  rw [fo_o _ _ h1 h2, fo_o _ _ h1 h2, fo_o _ _ h1 h2, fo_o _ _ h1 h2, fo_o _ _ h1 h2]
theorem fd5_n (M : Mem) (a b c d e : Int) : mI (fd5 M a b c d e) 0 13 = mI M 0 13 + 20 := by
  unfold fd5
  rw [pb_fed, pb_fed, pb_fed, pb_fed, pb_fed]
  omega
theorem fr5_n (M : Mem) (a b c d e : Int) : mI (fr5 M a b c d e) 54 6 = mI M 54 6 + 20 := by
  unfold fr5
  rw [fo_fed, fo_fed, fo_fed, fo_fed, fo_fed]
  omega
def up20 (f : Nat → Int) (n a b c d e : Int) : Nat → Int := up4 (up4 (up4 (up4 (up4 f n a) (n + 4) b) (n + 4 + 4) c) (n + 4 + 4 + 4) d) (n + 4 + 4 + 4 + 4) e
theorem fd5_t (M : Mem) (a b c d e : Int) : mI (fd5 M a b c d e) 21 = up20 (mI M 21) (mI M 0 13) a b c d e := by
  unfold fd5 up20
  simp only [pb_t, pb_fed]
theorem fr5_t (M : Mem) (a b c d e : Int) : mI (fr5 M a b c d e) 59 = up20 (mI M 59) (mI M 54 6) a b c d e := by
  unfold fr5 up20
  simp only [fo_t, fo_fed]
theorem fd5_box {M : Mem} {a b c d e : Int} (h : Box M) (h1 : ¬ 280 < mI M 0 13) : Box (fd5 M a b c d e) := by
  have k := b0_13 h
  unfold fd5
  exact (pb_box (pb_box (pb_box (pb_box (pb_box (BX.start h) (by omega) (by omega)) (by rw [pb_fed]; omega) (by rw [pb_fed]; omega)) (by rw [pb_fed, pb_fed]; omega) (by rw [pb_fed, pb_fed]; omega)) (by rw [pb_fed, pb_fed, pb_fed]; omega) (by rw [pb_fed, pb_fed, pb_fed]; omega)) (by rw [pb_fed, pb_fed, pb_fed, pb_fed]; omega) (by rw [pb_fed, pb_fed, pb_fed, pb_fed]; omega)).1
theorem fr5_box {M : Mem} {a b c d e : Int} (h : Box M) (h1 : ¬ 280 < mI M 54 6) : Box (fr5 M a b c d e) := by
  have k := b54_6 h
  unfold fr5
  exact (fo_box (fo_box (fo_box (fo_box (fo_box (BX.start h) (by omega) (by omega)) (by rw [fo_fed]; omega) (by rw [fo_fed]; omega)) (by rw [fo_fed, fo_fed]; omega) (by rw [fo_fed, fo_fed]; omega)) (by rw [fo_fed, fo_fed, fo_fed]; omega) (by rw [fo_fed, fo_fed, fo_fed]; omega)) (by rw [fo_fed, fo_fed, fo_fed, fo_fed]; omega) (by rw [fo_fed, fo_fed, fo_fed, fo_fed]; omega)).1
theorem feed_box {M : Mem} {a b c d e : Int} (h : Box M) : Box (gX11_feed M a b c d e) := by
  unfold gX11_feed
  by_cases k : 280 < mI M 0 13
  · rw [if_pos k]; exact h
  · rw [if_neg k]; exact fd5_box h k
theorem feed_both {M : Mem} {a b c d e : Int} (h : RB M) : RB (gX12_feed (gX11_feed M a b c d e) a b c d e) ∧ fX11_feed M a b c d e = fX12_feed (gX11_feed M a b c d e) a b c d e := by
  obtain ⟨hB, hR⟩ := h
  have hR0 := hR
  obtain ⟨h1, h2, h3, h4, h5, h6, h7⟩ := hR
  unfold fX11_feed fX12_feed gX12_feed
  by_cases k : 280 < mI M 0 13
  · have eG : gX11_feed M a b c d e = M := if_pos k
    rw [eG, h3]; simp only [if_pos k]
    exact ⟨⟨hB, hR0⟩, trivial⟩
  · have eG : gX11_feed M a b c d e = fd5 M a b c d e := if_neg k
    have e6 : mI (fd5 M a b c d e) 54 6 = mI M 0 13 := by rw [fd5_o M a b c d e (by decide) (by decide)]; exact h3
    have hb := fd5_box (a := a) (b := b) (c := c) (d := d) (e := e) hB k
    rw [eG, e6]; simp only [if_neg k]
    refine ⟨⟨fr5_box hb (by rw [e6]; exact k), ?_⟩, trivial⟩
    show RLt (fr5 (fd5 M a b c d e) a b c d e)
    unfold RLt
    rw [show mI (fr5 (fd5 M a b c d e) a b c d e) 21 = mI (fd5 M a b c d e) 21 from funext fun j => fr5_o _ a b c d e (by decide) (fun e => by omega), fr5_t, e6, show mI (fd5 M a b c d e) 59 = mI M 59 from funext fun j => fd5_o _ a b c d e (by decide) (fun e => by omega), h2, fd5_t, fr5_n, e6]
    rw [fr5_o (k := 0) (j := 13) _ a b c d e (by decide) (by decide), fd5_n, fr5_o (k := 54) (j := 7) _ a b c d e (by decide) (by decide), fd5_o (k := 54) (j := 7) _ a b c d e (by decide) (by decide), fr5_o (k := 0) (j := 14) _ a b c d e (by decide) (by decide), fd5_o (k := 0) (j := 14) _ a b c d e (by decide) (by decide), fr5_o (k := 54) (j := 8) _ a b c d e (by decide) (by decide), fd5_o (k := 54) (j := 8) _ a b c d e (by decide) (by decide), fr5_o (k := 0) (j := 15) _ a b c d e (by decide) (by decide), fd5_o (k := 0) (j := 15) _ a b c d e (by decide) (by decide), fr5_o (k := 55) (j := 5) _ a b c d e (by decide) (by decide), fd5_o (k := 55) (j := 5) _ a b c d e (by decide) (by decide), fr5_o (k := 1) (j := 10) _ a b c d e (by decide) (by decide), fd5_o (k := 1) (j := 10) _ a b c d e (by decide) (by decide), fr5_o (k := 56) (j := 5) _ a b c d e (by decide) (by decide), fd5_o (k := 56) (j := 5) _ a b c d e (by decide) (by decide), fr5_o (k := 8) (j := 10) _ a b c d e (by decide) (by decide), fd5_o (k := 8) (j := 10) _ a b c d e (by decide) (by decide)]
    exact ⟨up4_byt (up4_byt (up4_byt (up4_byt (up4_byt h1)))), rfl, rfl, h4, h5, h6, h7⟩
/-- text -/
theorem text_byt {M N : Mem} {r : Int} (h : RLt M) (t : TXc M N r) : byt (mI N 59) := by
  have e : mI N 59 = mI M 59 := by
    rcases t with ⟨_, _, f⟩ | ⟨_, _, f, _⟩
    · exact funext fun j => f 59 j rfl
    · exact funext fun j => f 59 j rfl (by decide) (by decide)
  rw [e, h.2.1]
  exact h.1
theorem text_both {M N P : Mem} {r s : Int} (hB : Box M) (h : RLt M) (t : TXc M N r) (u : TXr N P s) : RLt P ∧ r = s := by
  have hb := (b1_10 hB).2
  have h0 := h
  obtain ⟨h1, h2, h3, h4, h5, h6, h7⟩ := h
  rcases t with ⟨a1, a2, a3⟩ | ⟨a1, a2, a3, a4⟩
  · rcases u with ⟨b1, b2, b3⟩ | ⟨b1, b2, b3, b4⟩
    · exact ⟨h0.fz (a3.trans b3), by omega⟩
    · exfalso
      have z := a3 55 5 rfl
      omega
  · have c59 : mI N 59 = mI M 59 := funext fun j => a3 59 j rfl (by decide) (by decide)
    have c6 := a3 54 6 rfl (by decide) (by decide)
    have c5 := a3 55 5 rfl (by decide) (by decide)
    have c56 := a3 56 5 rfl (by decide) (by decide)
    have c8 := a3 8 10 rfl (by decide) (by decide)
    have c21 : mI N 21 = mI M 21 := funext fun j => a3 21 j rfl (by decide) (by decide)
    rcases u with ⟨b1, b2, b3⟩ | ⟨b1, b2, b3, b4⟩
    · omega
    · rw [c59, h2, c6, h3] at b4
      have d59 : mI P 59 = mI N 59 := funext fun j => b3 59 j rfl (by decide) (by decide)
      have d21 : mI P 21 = mI N 21 := funext fun j => b3 21 j rfl (by decide) (by decide)
      have d13 := b3 0 13 rfl (by decide) (by decide)
      have d14 := b3 0 14 rfl (by decide) (by decide)
      have d15 := b3 0 15 rfl (by decide) (by decide)
      have d10 := b3 1 10 rfl (by decide) (by decide)
      have d8 := b3 8 10 rfl (by decide) (by decide)
      have d56 := b3 56 5 rfl (by decide) (by decide)
      rcases a4 with ⟨p1, p2, p3, p4, p5⟩ | ⟨p1, p2, p3, p4, p5⟩
      · rcases b4 with ⟨q1, q2, q3, q4, q5⟩ | ⟨q1, q2, q3, q4, q5⟩
        · exact ⟨⟨by rw [d21, c21]; exact h1, by rw [d59, d21, c59, c21]; exact h2, by omega, by omega, by omega, by omega, by omega⟩, by omega⟩
        · exact absurd p1 q1
      · rcases b4 with ⟨q1, q2, q3, q4, q5⟩ | ⟨q1, q2, q3, q4, q5⟩
        · exact absurd q1 p1
        · exact ⟨⟨by rw [d21, c21]; exact h1, by rw [d59, d21, c59, c21]; exact h2, by omega, by omega, by omega, by omega, by omega⟩, by omega⟩
/-- end -/
def ENc (M N : Mem) (n r : Int) : Prop := (∀ k j, fz k j = true → ¬ (k = 0 ∧ j = 13) → mI N k j = mI M k j) ∧ ((0 ≤ n ∧ n ≤ mI M 0 13 ∧ r = n ∧ mI N 0 13 = n) ∨ (¬ (0 ≤ n ∧ n ≤ mI M 0 13) ∧ r = -1 ∧ mI N 0 13 = mI M 0 13))
def ENr (M N : Mem) (n r : Int) : Prop := (∀ k j, fz k j = true → ¬ (k = 54 ∧ j = 6) → mI N k j = mI M k j) ∧ ((0 ≤ n ∧ n ≤ mI M 54 6 ∧ r = n ∧ mI N 54 6 = n) ∨ (¬ (0 ≤ n ∧ n ≤ mI M 54 6) ∧ r = -1 ∧ mI N 54 6 = mI M 54 6))
theorem end_both {M N P : Mem} {n r s : Int} (h : RLt M) (t : ENc M N n r) (u : ENr N P n s) : RLt P ∧ r = s := by
  obtain ⟨h1, h2, h3, h4, h5, h6, h7⟩ := h
  obtain ⟨a, b⟩ := t
  obtain ⟨c, d⟩ := u
  have e21 : mI P 21 = mI M 21 := funext fun j => (c 21 j rfl (fun e => by omega)).trans (a 21 j rfl (fun e => by omega))
  have e59 : mI P 59 = mI M 59 := funext fun j => (c 59 j rfl (fun e => by omega)).trans (a 59 j rfl (fun e => by omega))
  have x1 := a 54 6 rfl (by decide)
  have x2 := c 0 13 rfl (by decide)
  have x3 := (c 54 7 rfl (by decide)).trans (a 54 7 rfl (by decide))
  have x4 := (c 0 14 rfl (by decide)).trans (a 0 14 rfl (by decide))
  have x5 := (c 54 8 rfl (by decide)).trans (a 54 8 rfl (by decide))
  have x6 := (c 0 15 rfl (by decide)).trans (a 0 15 rfl (by decide))
  have x7 := (c 55 5 rfl (by decide)).trans (a 55 5 rfl (by decide))
  have x8 := (c 1 10 rfl (by decide)).trans (a 1 10 rfl (by decide))
  have x9 := (c 56 5 rfl (by decide)).trans (a 56 5 rfl (by decide))
  have x10 := (c 8 10 rfl (by decide)).trans (a 8 10 rfl (by decide))
  exact ⟨⟨by rw [e21]; exact h1, by rw [e59, e21]; exact h2, by omega, by omega, by omega, by omega, by omega⟩, by omega⟩
/-- image, back -/
def IMc (M N : Mem) : Prop := mI N 8 10 = mI M 1 10 ∧ ∀ k j, fz k j = true → k ≠ 8 → mI N k j = mI M k j
def BAc (M N : Mem) : Prop := mI N 1 10 = mI M 8 10 ∧ ∀ k j, fz k j = true → k ≠ 1 → mI N k j = mI M k j
theorem cp_o {M : Mem} {t f k j : Nat} (h : k ≠ t) : mI (cpI M t f 0 0 589) k j = mI M k j := by
  rw [mI_cpI, if_neg (fun e => h e.1)]
theorem cp_5 {M : Mem} {t f : Nat} : mI (cpI M t f 0 0 589) t 5 = mI M f 5 := by
  rw [mI_cpI, if_pos ⟨rfl, by decide, by decide⟩]
theorem img_both {M N : Mem} (h : RLt M) (t : IMc M N) : RLt (cpI N 56 55 0 0 589) := by
  obtain ⟨h1, h2, h3, h4, h5, h6, h7⟩ := h
  obtain ⟨a, b⟩ := t
  unfold RLt
  rw [show mI (cpI N 56 55 0 0 589) 21 = mI M 21 from funext fun j => (cp_o (by decide)).trans (b 21 j rfl (by decide)), show mI (cpI N 56 55 0 0 589) 59 = mI M 59 from funext fun j => (cp_o (by decide)).trans (b 59 j rfl (by decide)), cp_5, cp_o (k := 54) (j := 6) (by decide), cp_o (k := 0) (j := 13) (by decide), cp_o (k := 54) (j := 7) (by decide), cp_o (k := 0) (j := 14) (by decide), cp_o (k := 54) (j := 8) (by decide), cp_o (k := 0) (j := 15) (by decide), cp_o (k := 55) (j := 5) (by decide), cp_o (k := 1) (j := 10) (by decide), cp_o (k := 8) (j := 10) (by decide), b 54 6 rfl (by decide), b 0 13 rfl (by decide), b 54 7 rfl (by decide), b 0 14 rfl (by decide), b 54 8 rfl (by decide), b 0 15 rfl (by decide), b 55 5 rfl (by decide), b 1 10 rfl (by decide), a]
  exact ⟨h1, h2, h3, h4, h5, h6, h6⟩
theorem bck_both {M N : Mem} (h : RLt M) (t : BAc M N) : RLt (cpI N 55 56 0 0 589) := by
  obtain ⟨h1, h2, h3, h4, h5, h6, h7⟩ := h
  obtain ⟨a, b⟩ := t
  unfold RLt
  rw [show mI (cpI N 55 56 0 0 589) 21 = mI M 21 from funext fun j => (cp_o (by decide)).trans (b 21 j rfl (by decide)), show mI (cpI N 55 56 0 0 589) 59 = mI M 59 from funext fun j => (cp_o (by decide)).trans (b 59 j rfl (by decide)), cp_5, cp_o (k := 54) (j := 6) (by decide), cp_o (k := 0) (j := 13) (by decide), cp_o (k := 54) (j := 7) (by decide), cp_o (k := 0) (j := 14) (by decide), cp_o (k := 54) (j := 8) (by decide), cp_o (k := 0) (j := 15) (by decide), cp_o (k := 56) (j := 5) (by decide), cp_o (k := 1) (j := 10) (by decide), cp_o (k := 8) (j := 10) (by decide), b 54 6 rfl (by decide), b 0 13 rfl (by decide), b 54 7 rfl (by decide), b 0 14 rfl (by decide), b 54 8 rfl (by decide), b 0 15 rfl (by decide), b 56 5 rfl (by decide), b 8 10 rfl (by decide), a]
  exact ⟨h1, h2, h3, h4, h5, h7, h7⟩

set_option maxRecDepth 4000 in
theorem sfX11_endF {l : Launch} {M : Mem} (hB : Box M)  (n : Int)  : Call l mdX11_end [aR 0, aI n] M (fun q N => ∃ r : Int, q = some (aI r) ∧ BX M N ∧ ENc M N n r) := by
  have hB0 := BX.start hB
  refine Call.of [some (aR 0), some (aI n)] rfl (Nat.le_of_ble_eq_true rfl) rfl ?_
  refine vc_ok (fun hoM hoS hoL => ?_)
  have hr1 : -2147483648 ≤ n ∧ n < 2147483648 := hoL 1 _ rfl
  refine vc_iload_n dX11_end_0 rfl ?_
  refine vc_if_lt dX11_end_1 (fun h1 => ?_) (fun h1 => ?_)
  · refine vc_iconst dX11_end_12 rfl ?_
    refine vc_iret dX11_end_13 rfl (Nat.le_of_ble_eq_true rfl) (Nat.le_of_ble_eq_true rfl) ?_
    exact ⟨_, rfl, hB0, fun k j _ _ => rfl, by omega⟩
  · refine vc_iload_n dX11_end_4 rfl ?_
    refine vc_aload_n dX11_end_5 rfl ?_
    refine vc_getI dX11_end_6 flX11_103 (s_0 hB0.1.1) rfl ?_
    have k2 : 0 ≤ mI M 0 13 ∧ mI M 0 13 ≤ 300 := b0_13 (M := M) hB0.1
    refine vc_icmp_le dX11_end_9 (fun h3 => ?_) (fun h3 => ?_)
    · refine vc_aload_n dX11_end_14 rfl ?_
      refine vc_iload_n dX11_end_15 rfl ?_
      refine vc_putI dX11_end_16 (plX11_103 _ rfl) (s_0 hB0.1.1) rfl ?_
      have hB4 : BX M (sI M 0 13 n) := BX.w0_13 hB0 (by omega) (by omega)
      refine vc_iload_n dX11_end_19 rfl ?_
      refine vc_iret dX11_end_20 rfl (Nat.le_of_ble_eq_true rfl) (Nat.le_of_ble_eq_true rfl) ?_
      have e1 : mI (sI M 0 13 n) 0 13 = n := mI_same
      exact ⟨_, rfl, hB4, fun k j _ h => by rw [mI_sI, if_neg h], by omega⟩
    · refine vc_iconst dX11_end_12 rfl ?_
      refine vc_iret dX11_end_13 rfl (Nat.le_of_ble_eq_true rfl) (Nat.le_of_ble_eq_true rfl) ?_
      exact ⟨_, rfl, hB0, fun k j _ _ => rfl, by omega⟩

set_option maxRecDepth 4000 in
theorem sfX12_endF {l : Launch} {M : Mem} (hB : Box M)  (n : Int)  : Call l mdX12_end [aR 54, aI n] M (fun q N => ∃ r : Int, q = some (aI r) ∧ BX M N ∧ ENr M N n r) := by
  have hB0 := BX.start hB
  refine Call.of [some (aR 54), some (aI n)] rfl (Nat.le_of_ble_eq_true rfl) rfl ?_
  refine vc_ok (fun hoM hoS hoL => ?_)
  have hr1 : -2147483648 ≤ n ∧ n < 2147483648 := hoL 1 _ rfl
  have hk6 := b54_6 hB
  refine vc_iload_n dX12_end_0 rfl ?_
  refine vc_iconst dX12_end_1 rfl ?_
  refine vc_aload_n dX12_end_2 rfl ?_
  refine vc_getI dX12_end_3 flX12_112 (s_54 hB0.1.1) rfl ?_
  have k1 : 0 ≤ mI M 54 6 ∧ mI M 54 6 ≤ 300 := b54_6 (M := M) hB0.1
  refine vc_cSI dX12_end_6 (sfX12_isInF (M := M) hB0.1  n 0 (mI M 54 6) ) rfl okX12_isIn stX12_isIn lkX12_83 rfl (Nat.le_of_ble_eq_true rfl) ⟨rfl, rfl⟩ (Nat.le_of_ble_eq_true rfl) (Nat.le_of_ble_eq_true rfl) (Nat.le_of_ble_eq_true rfl) ?_
  rintro x2 _ ⟨rfl, h3, h4, h5⟩
  refine vc_if_ne dX12_end_9 (fun h6 => ?_) (fun h6 => ?_)
  · refine vc_aload_n dX12_end_14 rfl ?_
    refine vc_iload_n dX12_end_15 rfl ?_
    refine vc_putI dX12_end_16 (plX12_112 _ rfl) (s_54 hB0.1.1) rfl ?_
    have hB7 : BX M (sI M 54 6 n) := BX.w54_6 hB0 (by omega) (by omega)
    refine vc_iload_n dX12_end_19 rfl ?_
    refine vc_iret dX12_end_20 rfl (Nat.le_of_ble_eq_true rfl) (Nat.le_of_ble_eq_true rfl) ?_
    have e1 : mI (sI M 54 6 n) 54 6 = n := mI_same
    exact ⟨_, rfl, hB7, fun k j _ h => by rw [mI_sI, if_neg h], by omega⟩
  · refine vc_iconst dX12_end_12 rfl ?_
    refine vc_iret dX12_end_13 rfl (Nat.le_of_ble_eq_true rfl) (Nat.le_of_ble_eq_true rfl) ?_
    exact ⟨_, rfl, hB0, fun k j _ _ => rfl, by omega⟩

set_option maxRecDepth 4000 in
theorem sfX11_faultF {l : Launch} {M : Mem} (hB : Box M)  (w : Int)  : Call l mdX11_fault [aR 0, aI w] M (fun q N => ∃ r : Int, q = some (aI r) ∧ M = N ∧ ((w = 0 ∧ r = mI M 0 14) ∨ (w = 1 ∧ r = mI M 0 15) ∨ (w ≠ 0 ∧ w ≠ 1 ∧ r = -1))) := by
  have hB0 := BD.start hB
  refine Call.of [some (aR 0), some (aI w)] rfl (Nat.le_of_ble_eq_true rfl) rfl ?_
  refine vc_ok (fun hoM hoS hoL => ?_)
  have hr1 : -2147483648 ≤ w ∧ w < 2147483648 := hoL 1 _ rfl
  refine vc_iload_n dX11_fault_0 rfl ?_
  refine vc_if_ne dX11_fault_1 (fun h1 => ?_) (fun h1 => ?_)
  · refine vc_iload_n dX11_fault_9 rfl ?_
    refine vc_iconst dX11_fault_10 rfl ?_
    refine vc_icmp_ne dX11_fault_11 (fun h2 => ?_) (fun h2 => ?_)
    · refine vc_iconst dX11_fault_21 rfl ?_
      refine vc_iret dX11_fault_22 rfl (Nat.le_of_ble_eq_true rfl) (Nat.le_of_ble_eq_true rfl) ?_
      exact ⟨_, rfl, rfl, by omega⟩
    · refine vc_aload_n dX11_fault_14 rfl ?_
      refine vc_getI dX11_fault_15 flX11_110 (s_0 hB0.1.1) rfl ?_
      refine vc_goto dX11_fault_18 ?_
      refine vc_iret dX11_fault_22 rfl (Nat.le_of_ble_eq_true rfl) (Nat.le_of_ble_eq_true rfl) ?_
      exact ⟨_, rfl, rfl, by omega⟩
  · refine vc_aload_n dX11_fault_4 rfl ?_
    refine vc_getI dX11_fault_5 flX11_107 (s_0 hB0.1.1) rfl ?_
    refine vc_iret dX11_fault_8 rfl (Nat.le_of_ble_eq_true rfl) (Nat.le_of_ble_eq_true rfl) ?_
    exact ⟨_, rfl, rfl, by omega⟩

set_option maxRecDepth 4000 in
theorem sfX12_faultF {l : Launch} {M : Mem} (hB : Box M)  (w : Int)  : Call l mdX12_fault [aR 54, aI w] M (fun q N => ∃ r : Int, q = some (aI r) ∧ M = N ∧ ((w = 0 ∧ r = mI M 54 7) ∨ (w = 1 ∧ r = mI M 54 8) ∨ (w ≠ 0 ∧ w ≠ 1 ∧ r = -1))) := by
  have hB0 := BD.start hB
  refine Call.of [some (aR 54), some (aI w)] rfl (Nat.le_of_ble_eq_true rfl) rfl ?_
  refine vc_ok (fun hoM hoS hoL => ?_)
  have hr1 : -2147483648 ≤ w ∧ w < 2147483648 := hoL 1 _ rfl
  refine vc_iload_n dX12_fault_0 rfl ?_
  refine vc_if_ne dX12_fault_1 (fun h1 => ?_) (fun h1 => ?_)
  · refine vc_iload_n dX12_fault_11 rfl ?_
    refine vc_iconst dX12_fault_12 rfl ?_
    refine vc_icmp_ne dX12_fault_13 (fun h2 => ?_) (fun h2 => ?_)
    · refine vc_iconst dX12_fault_23 rfl ?_
      refine vc_iret dX12_fault_24 rfl (Nat.le_of_ble_eq_true rfl) (Nat.le_of_ble_eq_true rfl) ?_
      exact ⟨_, rfl, rfl, by omega⟩
    · refine vc_aload_n dX12_fault_16 rfl ?_
      refine vc_getI dX12_fault_17 flX12_29 (s_54 hB0.1.1) rfl ?_
      refine vc_goto dX12_fault_20 ?_
      refine vc_iret dX12_fault_24 rfl (Nat.le_of_ble_eq_true rfl) (Nat.le_of_ble_eq_true rfl) ?_
      exact ⟨_, rfl, rfl, by omega⟩
  · refine vc_aload_n dX12_fault_4 rfl ?_
    refine vc_getI dX12_fault_5 flX12_25 (s_54 hB0.1.1) rfl ?_
    refine vc_goto dX12_fault_8 ?_
    refine vc_iret dX12_fault_24 rfl (Nat.le_of_ble_eq_true rfl) (Nat.le_of_ble_eq_true rfl) ?_
    exact ⟨_, rfl, rfl, by omega⟩

set_option maxRecDepth 4000 in
theorem sfX11_byF {l : Launch} {M : Mem} (hB : Box M)  (t : Int)  : Call l mdX11_by [aR 0, aI t] M (fun q N => ∃ r : Int, q = some (aI r) ∧ BD M N ∧ 0 ≤ r ∧ r ≤ 1 ∧ ((r = 1 ∧ -1 ≤ t ∧ t < mI M 1 10) ∨ (r = 0 ∧ ¬ (-1 ≤ t ∧ t < mI M 1 10)))) := by
  have hB0 := BD.start hB
  refine Call.of [some (aR 0), some (aI t)] rfl (Nat.le_of_ble_eq_true rfl) rfl ?_
  refine vc_ok (fun hoM hoS hoL => ?_)
  have hr1 : -2147483648 ≤ t ∧ t < 2147483648 := hoL 1 _ rfl
  refine vc_iload_n dX11_by_0 rfl ?_
  refine vc_iconst dX11_by_1 rfl ?_
  refine vc_icmp_lt dX11_by_2 (fun h1 => ?_) (fun h1 => ?_)
  · refine vc_iconst dX11_by_16 rfl ?_
    refine vc_zret dX11_by_17 rfl (by first | decide | omega) (Nat.le_of_ble_eq_true rfl) (Nat.le_of_ble_eq_true rfl) ?_
    exact ⟨_, rfl, hB0, by omega, by omega, by omega⟩
  · refine vc_iload_n dX11_by_5 rfl ?_
    refine vc_aload_n dX11_by_6 rfl ?_
    refine vc_getR dX11_by_7 flX11_10 (s_0 hB0.1.1) rfl (r_0_0 hB0.1.1) ?_
    refine vc_getI dX11_by_10 flX11_136 (s_1 hB0.1.1) rfl ?_
    have k2 : 0 ≤ mI M 1 10 ∧ mI M 1 10 ≤ 4 := b1_10 (M := M) hB0.1
    refine vc_icmp_lt dX11_by_13 (fun h3 => ?_) (fun h3 => ?_)
    · refine vc_aload_n dX11_by_18 rfl ?_
      refine vc_getR dX11_by_19 flX11_10 (s_0 hB0.1.1) rfl (r_0_0 hB0.1.1) ?_
      refine vc_iload_n dX11_by_22 rfl ?_
      refine vc_putI dX11_by_23 (plX11_156 _ rfl) (s_1 hB0.1.1) rfl ?_
      have hB4 : BD M (sI M 1 11 t) := BD.w1_11 hB0
      refine vc_iconst dX11_by_26 rfl ?_
      refine vc_zret dX11_by_27 rfl (by first | decide | omega) (Nat.le_of_ble_eq_true rfl) (Nat.le_of_ble_eq_true rfl) ?_
      exact ⟨_, rfl, hB4, by omega, by omega, by omega⟩
    · refine vc_iconst dX11_by_16 rfl ?_
      refine vc_zret dX11_by_17 rfl (by first | decide | omega) (Nat.le_of_ble_eq_true rfl) (Nat.le_of_ble_eq_true rfl) ?_
      exact ⟨_, rfl, hB0, by omega, by omega, by omega⟩

set_option maxRecDepth 4000 in
theorem sfX12_byF {l : Launch} {M : Mem} (hB : Box M)  (t : Int)  : Call l mdX12_by [aR 54, aI t] M (fun q N => ∃ r : Int, q = some (aI r) ∧ BD M N ∧ 0 ≤ r ∧ r ≤ 1 ∧ ((r = 1 ∧ -1 ≤ t ∧ t < mI M 55 5) ∨ (r = 0 ∧ ¬ (-1 ≤ t ∧ t < mI M 55 5)))) := by
  have hB0 := BD.start hB
  refine Call.of [some (aR 54), some (aI t)] rfl (Nat.le_of_ble_eq_true rfl) rfl ?_
  refine vc_ok (fun hoM hoS hoL => ?_)
  have hr1 : -2147483648 ≤ t ∧ t < 2147483648 := hoL 1 _ rfl
  have hk5 := b55_5 hB
  refine vc_iload_n dX12_by_0 rfl ?_
  refine vc_iconst dX12_by_1 rfl ?_
  refine vc_aload_n dX12_by_2 rfl ?_
  refine vc_getR dX12_by_3 flX12_7 (s_54 hB0.1.1) rfl (r_54_0 hB0.1.1) ?_
  refine vc_iconst dX12_by_6 rfl ?_
  refine vc_iaload dX12_by_7 (s_55 hB0.1.1) (by omega) (by omega) ?_
  refine vc_topI (mI M 55 5) rfl ?_
  have k1 : 0 ≤ mI M 55 5 ∧ mI M 55 5 ≤ 4 := b55_5 (M := M) hB0.1
  refine vc_iconst dX12_by_8 rfl ?_
  refine vc_isubE dX12_by_9 (by omega) (by omega) ?_
  refine vc_cSI dX12_by_10 (sfX12_isInF (M := M) hB0.1  t (-1) ((mI M 55 5) - 1) ) rfl okX12_isIn stX12_isIn lkX12_83 rfl (Nat.le_of_ble_eq_true rfl) ⟨rfl, rfl⟩ (Nat.le_of_ble_eq_true rfl) (Nat.le_of_ble_eq_true rfl) (Nat.le_of_ble_eq_true rfl) ?_
  rintro x2 _ ⟨rfl, h3, h4, h5⟩
  refine vc_if_ne dX12_by_13 (fun h6 => ?_) (fun h6 => ?_)
  · refine vc_aload_n dX12_by_18 rfl ?_
    refine vc_getR dX12_by_19 flX12_7 (s_54 hB0.1.1) rfl (r_54_0 hB0.1.1) ?_
    refine vc_bipush dX12_by_22 rfl ?_
    refine vc_iload_n dX12_by_24 rfl ?_
    refine vc_iastore dX12_by_25 (s_55 hB0.1.1) (by omega) (by omega) ?_
    refine vc_mem (sI M 55 6 t) rfl ?_
    have hB7 : BD M (sI M 55 6 t) := BD.a6 hB0 (by omega) (by omega)
    refine vc_iconst dX12_by_26 rfl ?_
    refine vc_zret dX12_by_27 rfl (by first | decide | omega) (Nat.le_of_ble_eq_true rfl) (Nat.le_of_ble_eq_true rfl) ?_
    exact ⟨_, rfl, hB7, by omega, by omega, by omega⟩
  · refine vc_iconst dX12_by_16 rfl ?_
    refine vc_zret dX12_by_17 rfl (by first | decide | omega) (Nat.le_of_ble_eq_true rfl) (Nat.le_of_ble_eq_true rfl) ?_
    exact ⟨_, rfl, hB0, by omega, by omega, by omega⟩

set_option maxRecDepth 4000 in
theorem sfX6_copyFromF8 {l : Launch} {M : Mem} (hB : Box M)    : Call l mdX6_copyFrom [aR 8, aR 1] M (fun q N => q = none ∧ BX M N ∧ mI N 8 10 = mI M 1 10 ∧ (∀ k j, fz k j = true → k ≠ 8 → mI N k j = mI M k j)) := by
  have hB0 := BX.start hB
  refine Call.of [some (aR 8), some (aR 1), none] rfl (Nat.le_of_ble_eq_true rfl) rfl ?_
  refine vc_aload_n dX6_copyFrom_0 rfl ?_
  refine vc_getR dX6_copyFrom_1 flX6_9 (s_1 hB0.1.1) rfl (r_1_0 hB0.1.1) ?_
  refine vc_iconst dX6_copyFrom_4 rfl ?_
  refine vc_aload_n dX6_copyFrom_5 rfl ?_
  refine vc_getR dX6_copyFrom_6 flX6_9 (s_8 hB0.1.1) rfl (r_8_0 hB0.1.1) ?_
  refine vc_iconst dX6_copyFrom_9 rfl ?_
  refine vc_bipush dX6_copyFrom_10 rfl ?_
  refine vc_acopy dX6_copyFrom_12 acX6_46 (s_2 hB0.1.1) (s_9 hB0.1.1) (by omega) (by omega) (by omega) (by omega) (by omega) (Nat.le_of_ble_eq_true rfl) ?_
  refine vc_mem (cpI M 9 2 0 0 16) rfl ?_
  have hB1 : BX M (cpI M 9 2 0 0 16) := BX.C9 hB0 _ _ _ _
  refine vc_aload_n dX6_copyFrom_15 rfl ?_
  refine vc_getR dX6_copyFrom_16 flX6_15 (s_1 hB1.1.1) rfl (r_1_1 hB1.1.1) ?_
  refine vc_iconst dX6_copyFrom_19 rfl ?_
  refine vc_aload_n dX6_copyFrom_20 rfl ?_
  refine vc_getR dX6_copyFrom_21 flX6_15 (s_8 hB1.1.1) rfl (r_8_1 hB1.1.1) ?_
  refine vc_iconst dX6_copyFrom_24 rfl ?_
  refine vc_bipush dX6_copyFrom_25 rfl ?_
  refine vc_acopy dX6_copyFrom_27 acX6_46 (s_3 hB1.1.1) (s_10 hB1.1.1) (by omega) (by omega) (by omega) (by omega) (by omega) (Nat.le_of_ble_eq_true rfl) ?_
  refine vc_mem (cpI (cpI M 9 2 0 0 16) 10 3 0 0 64) rfl ?_
  have hB2 : BX M (cpI (cpI M 9 2 0 0 16) 10 3 0 0 64) := BX.C10 hB1 _ _ _ _ rfl
  refine vc_aload_n dX6_copyFrom_30 rfl ?_
  refine vc_getR dX6_copyFrom_31 flX6_18 (s_1 hB2.1.1) rfl (r_1_2 hB2.1.1) ?_
  refine vc_iconst dX6_copyFrom_34 rfl ?_
  refine vc_aload_n dX6_copyFrom_35 rfl ?_
  refine vc_getR dX6_copyFrom_36 flX6_18 (s_8 hB2.1.1) rfl (r_8_2 hB2.1.1) ?_
  refine vc_iconst dX6_copyFrom_39 rfl ?_
  refine vc_bipush dX6_copyFrom_40 rfl ?_
  refine vc_acopy dX6_copyFrom_42 acX6_46 (s_4 hB2.1.1) (s_11 hB2.1.1) (by omega) (by omega) (by omega) (by omega) (by omega) (Nat.le_of_ble_eq_true rfl) ?_
  refine vc_mem (cpI (cpI (cpI M 9 2 0 0 16) 10 3 0 0 64) 11 4 0 0 64) rfl ?_
  have hB3 : BX M (cpI (cpI (cpI M 9 2 0 0 16) 10 3 0 0 64) 11 4 0 0 64) := BX.C11 hB2 _ _ _ _
  refine vc_aload_n dX6_copyFrom_45 rfl ?_
  refine vc_getR dX6_copyFrom_46 flX6_21 (s_1 hB3.1.1) rfl (r_1_3 hB3.1.1) ?_
  refine vc_iconst dX6_copyFrom_49 rfl ?_
  refine vc_aload_n dX6_copyFrom_50 rfl ?_
  refine vc_getR dX6_copyFrom_51 flX6_21 (s_8 hB3.1.1) rfl (r_8_3 hB3.1.1) ?_
  refine vc_iconst dX6_copyFrom_54 rfl ?_
  refine vc_bipush dX6_copyFrom_55 rfl ?_
  refine vc_acopy dX6_copyFrom_57 acX6_46 (s_5 hB3.1.1) (s_12 hB3.1.1) (by omega) (by omega) (by omega) (by omega) (by omega) (Nat.le_of_ble_eq_true rfl) ?_
  refine vc_mem (cpI (cpI (cpI (cpI M 9 2 0 0 16) 10 3 0 0 64) 11 4 0 0 64) 12 5 0 0 24) rfl ?_
  have hB4 : BX M (cpI (cpI (cpI (cpI M 9 2 0 0 16) 10 3 0 0 64) 11 4 0 0 64) 12 5 0 0 24) := BX.C12 hB3 _ _ _ _
  refine vc_aload_n dX6_copyFrom_60 rfl ?_
  refine vc_getR dX6_copyFrom_61 flX6_24 (s_1 hB4.1.1) rfl (r_1_4 hB4.1.1) ?_
  refine vc_iconst dX6_copyFrom_64 rfl ?_
  refine vc_aload_n dX6_copyFrom_65 rfl ?_
  refine vc_getR dX6_copyFrom_66 flX6_24 (s_8 hB4.1.1) rfl (r_8_4 hB4.1.1) ?_
  refine vc_iconst dX6_copyFrom_69 rfl ?_
  refine vc_bipush dX6_copyFrom_70 rfl ?_
  refine vc_acopy dX6_copyFrom_72 acX6_46 (s_6 hB4.1.1) (s_13 hB4.1.1) (by omega) (by omega) (by omega) (by omega) (by omega) (Nat.le_of_ble_eq_true rfl) ?_
  refine vc_mem (cpI (cpI (cpI (cpI (cpI M 9 2 0 0 16) 10 3 0 0 64) 11 4 0 0 64) 12 5 0 0 24) 13 6 0 0 72) rfl ?_
  have hB5 : BX M (cpI (cpI (cpI (cpI (cpI M 9 2 0 0 16) 10 3 0 0 64) 11 4 0 0 64) 12 5 0 0 24) 13 6 0 0 72) := BX.C13 hB4 _ _ _ _
  refine vc_iconst dX6_copyFrom_75 rfl ?_
  refine vc_istore_n dX6_copyFrom_76 (by decide) rfl (show _ = [some (aR 8), some (aR 1), some (aI 0)] from rfl) ?_
  have lp77 : ∀ (n77 : Nat) (Mq77 : Mem) (v2 : Int), (BX M Mq77) → (0 ≤ v2) → (v2 ≤ 4) → (Fz M Mq77) → (4 - v2).toNat < n77 → VC l mdX6_copyFrom 77 [some (aR 8), some (aR 1), some (aI v2)] [] Mq77 0 0 (fun q N => q = none ∧ BX M N ∧ mI N 8 10 = mI M 1 10 ∧ (∀ k j, fz k j = true → k ≠ 8 → mI N k j = mI M k j)) := by
    intro n77
    induction n77 with
    | zero => intro Mq77 v2 hQ77 g77_2a g77_2b g77i0 hm77; exact absurd hm77 (Nat.not_lt_zero _)
    | succ n77 ih77 =>
      intro Mq77 v2 hQ77 g77_2a g77_2b g77i0 hm77
      refine vc_iload_n dX6_copyFrom_77 rfl ?_
      refine vc_iconst dX6_copyFrom_78 rfl ?_
      refine vc_icmp_ge dX6_copyFrom_79 (fun h6 => ?_) (fun h6 => ?_)
      · refine vc_aload_n dX6_copyFrom_100 rfl ?_
        refine vc_aload_n dX6_copyFrom_101 rfl ?_
        refine vc_getI dX6_copyFrom_102 flX6_52 (s_1 hQ77.1.1) rfl ?_
        have k7 : 0 ≤ mI Mq77 1 6 ∧ mI Mq77 1 6 ≤ 16 := b1_6 (M := Mq77) hQ77.1
        refine vc_putI dX6_copyFrom_105 (plX6_52 _ rfl) (s_8 hQ77.1.1) rfl ?_
        have hB8 : BX M (sI Mq77 8 6 (mI Mq77 1 6)) := BX.w8_6 hQ77 (by omega) (by omega)
        refine vc_aload_n dX6_copyFrom_108 rfl ?_
        refine vc_aload_n dX6_copyFrom_109 rfl ?_
        refine vc_getI dX6_copyFrom_110 flX6_39 (s_1 hB8.1.1) rfl ?_
        refine vc_topI (mI Mq77 1 7) rfl ?_
        have k9 : (-1) ≤ mI Mq77 1 7 ∧ mI Mq77 1 7 ≤ 15 := b1_7 (M := (sI Mq77 8 6 (mI Mq77 1 6))) hB8.1
        refine vc_putI dX6_copyFrom_113 (plX6_39 _ rfl) (s_8 hB8.1.1) rfl ?_
        have hB10 : BX M (sI (sI Mq77 8 6 (mI Mq77 1 6)) 8 7 (mI Mq77 1 7)) := BX.w8_7 hB8 (by omega) (by omega)
        refine vc_aload_n dX6_copyFrom_116 rfl ?_
        refine vc_aload_n dX6_copyFrom_117 rfl ?_
        refine vc_getI dX6_copyFrom_118 flX6_55 (s_1 hB10.1.1) rfl ?_
        refine vc_topI (mI Mq77 1 8) rfl ?_
        have k11 : 0 ≤ mI Mq77 1 8 ∧ mI Mq77 1 8 ≤ 6 := b1_8 (M := (sI (sI Mq77 8 6 (mI Mq77 1 6)) 8 7 (mI Mq77 1 7))) hB10.1
        refine vc_putI dX6_copyFrom_121 (plX6_55 _ rfl) (s_8 hB10.1.1) rfl ?_
        have hB12 : BX M (sI (sI (sI Mq77 8 6 (mI Mq77 1 6)) 8 7 (mI Mq77 1 7)) 8 8 (mI Mq77 1 8)) := BX.w8_8 hB10 (by omega) (by omega)
        refine vc_aload_n dX6_copyFrom_124 rfl ?_
        refine vc_aload_n dX6_copyFrom_125 rfl ?_
        refine vc_getI dX6_copyFrom_126 flX6_58 (s_1 hB12.1.1) rfl ?_
        refine vc_topI (mI Mq77 1 9) rfl ?_
        have k13 : 0 ≤ mI Mq77 1 9 ∧ mI Mq77 1 9 ≤ 8 := b1_9 (M := (sI (sI (sI Mq77 8 6 (mI Mq77 1 6)) 8 7 (mI Mq77 1 7)) 8 8 (mI Mq77 1 8))) hB12.1
        refine vc_putI dX6_copyFrom_129 (plX6_58 _ rfl) (s_8 hB12.1.1) rfl ?_
        have hB14 : BX M (sI (sI (sI (sI Mq77 8 6 (mI Mq77 1 6)) 8 7 (mI Mq77 1 7)) 8 8 (mI Mq77 1 8)) 8 9 (mI Mq77 1 9)) := BX.w8_9 hB12 (by omega) (by omega)
        refine vc_aload_n dX6_copyFrom_132 rfl ?_
        refine vc_aload_n dX6_copyFrom_133 rfl ?_
        refine vc_getI dX6_copyFrom_134 flX6_61 (s_1 hB14.1.1) rfl ?_
        refine vc_topI (mI Mq77 1 10) rfl ?_
        have k15 : 0 ≤ mI Mq77 1 10 ∧ mI Mq77 1 10 ≤ 4 := b1_10 (M := (sI (sI (sI (sI Mq77 8 6 (mI Mq77 1 6)) 8 7 (mI Mq77 1 7)) 8 8 (mI Mq77 1 8)) 8 9 (mI Mq77 1 9))) hB14.1
        refine vc_putI dX6_copyFrom_137 (plX6_61 _ rfl) (s_8 hB14.1.1) rfl ?_
        have hB16 : BX M (sI (sI (sI (sI (sI Mq77 8 6 (mI Mq77 1 6)) 8 7 (mI Mq77 1 7)) 8 8 (mI Mq77 1 8)) 8 9 (mI Mq77 1 9)) 8 10 (mI Mq77 1 10)) := BX.w8_10 hB14 (by omega) (by omega)
        refine vc_aload_n dX6_copyFrom_140 rfl ?_
        refine vc_aload_n dX6_copyFrom_141 rfl ?_
        refine vc_getI dX6_copyFrom_142 flX6_43 (s_1 hB16.1.1) rfl ?_
        refine vc_topI (mI Mq77 1 11) rfl ?_
        refine vc_putI dX6_copyFrom_145 (plX6_43 _ rfl) (s_8 hB16.1.1) rfl ?_
        have hB17 : BX M (sI (sI (sI (sI (sI (sI Mq77 8 6 (mI Mq77 1 6)) 8 7 (mI Mq77 1 7)) 8 8 (mI Mq77 1 8)) 8 9 (mI Mq77 1 9)) 8 10 (mI Mq77 1 10)) 8 11 (mI Mq77 1 11)) := BX.w8_11 hB16
        refine vc_vret dX6_copyFrom_148 rfl (Nat.le_of_ble_eq_true rfl) (Nat.le_of_ble_eq_true rfl) ?_
        exact ⟨rfl, hB17, (show mI Mq77 1 10 = mI M 1 10 from g77i0 1 10 rfl), fun k j a b => by
          repeat rw [mI_sI, if_neg (fun e => b e.1)]
          exact g77i0 k j a⟩
      · refine vc_aload_n dX6_copyFrom_82 rfl ?_
        refine vc_getR dX6_copyFrom_83 flX6_29 (s_8 hQ77.1.1) rfl (r_8_5 hQ77.1.1) ?_
        refine vc_iload_n dX6_copyFrom_86 rfl ?_
        refine vc_aload_n dX6_copyFrom_87 rfl ?_
        refine vc_getR dX6_copyFrom_88 flX6_29 (s_1 hQ77.1.1) rfl (r_1_5 hQ77.1.1) ?_
        refine vc_iload_n dX6_copyFrom_91 rfl ?_
        refine vc_aaload dX6_copyFrom_92 (s_7 hQ77.1.1) (by omega) (by omega) ?_
        refine vc_nameO (fun o18 eo18 => ?_)
        refine vc_aastore dX6_copyFrom_93 (s_14 hQ77.1.1) (by omega) (by omega) (fun y hy => (hQ77.tx (k := 7) (Or.inl rfl) eo18 y hy).2.1) ?_
        have hB19 : BX M (sR Mq77 14 v2.toNat o18) := BX.T14 hQ77 _ (fun y hy => hQ77.tx (k := 7) (Or.inl rfl) eo18 y hy)
        refine vc_iincE dX6_copyFrom_94 rfl (by omega) (by omega) (by decide) rfl (show _ = [some (aR 8), some (aR 1), some (aI (v2 + 1))] from rfl) ?_
        refine vc_goto dX6_copyFrom_97 ?_
        exact ih77 (sR Mq77 14 v2.toNat o18) (v2 + 1) hB19 (by omega) (by omega) (by first | exact (((((Fz.cp (fun _ => rfl)).trans (Fz.cp (fun _ => rfl))).trans (Fz.cp (fun _ => rfl))).trans (Fz.cp (fun _ => rfl))).trans (Fz.cp (fun _ => rfl))) | exact g77i0) (by omega)
  exact lp77 _ (cpI (cpI (cpI (cpI (cpI M 9 2 0 0 16) 10 3 0 0 64) 11 4 0 0 64) 12 5 0 0 24) 13 6 0 0 72) 0 hB5 (by omega) (by omega) (by first | exact (((((Fz.cp (fun _ => rfl)).trans (Fz.cp (fun _ => rfl))).trans (Fz.cp (fun _ => rfl))).trans (Fz.cp (fun _ => rfl))).trans (Fz.cp (fun _ => rfl))) | exact g77i0) (Nat.lt_succ_self _)

set_option maxRecDepth 4000 in
theorem sfX6_copyFromF1 {l : Launch} {M : Mem} (hB : Box M)    : Call l mdX6_copyFrom [aR 1, aR 8] M (fun q N => q = none ∧ BX M N ∧ mI N 1 10 = mI M 8 10 ∧ (∀ k j, fz k j = true → k ≠ 1 → mI N k j = mI M k j)) := by
  have hB0 := BX.start hB
  refine Call.of [some (aR 1), some (aR 8), none] rfl (Nat.le_of_ble_eq_true rfl) rfl ?_
  refine vc_aload_n dX6_copyFrom_0 rfl ?_
  refine vc_getR dX6_copyFrom_1 flX6_9 (s_8 hB0.1.1) rfl (r_8_0 hB0.1.1) ?_
  refine vc_iconst dX6_copyFrom_4 rfl ?_
  refine vc_aload_n dX6_copyFrom_5 rfl ?_
  refine vc_getR dX6_copyFrom_6 flX6_9 (s_1 hB0.1.1) rfl (r_1_0 hB0.1.1) ?_
  refine vc_iconst dX6_copyFrom_9 rfl ?_
  refine vc_bipush dX6_copyFrom_10 rfl ?_
  refine vc_acopy dX6_copyFrom_12 acX6_46 (s_9 hB0.1.1) (s_2 hB0.1.1) (by omega) (by omega) (by omega) (by omega) (by omega) (Nat.le_of_ble_eq_true rfl) ?_
  refine vc_mem (cpI M 2 9 0 0 16) rfl ?_
  have hB1 : BX M (cpI M 2 9 0 0 16) := BX.C2 hB0 _ _ _ _
  refine vc_aload_n dX6_copyFrom_15 rfl ?_
  refine vc_getR dX6_copyFrom_16 flX6_15 (s_8 hB1.1.1) rfl (r_8_1 hB1.1.1) ?_
  refine vc_iconst dX6_copyFrom_19 rfl ?_
  refine vc_aload_n dX6_copyFrom_20 rfl ?_
  refine vc_getR dX6_copyFrom_21 flX6_15 (s_1 hB1.1.1) rfl (r_1_1 hB1.1.1) ?_
  refine vc_iconst dX6_copyFrom_24 rfl ?_
  refine vc_bipush dX6_copyFrom_25 rfl ?_
  refine vc_acopy dX6_copyFrom_27 acX6_46 (s_10 hB1.1.1) (s_3 hB1.1.1) (by omega) (by omega) (by omega) (by omega) (by omega) (Nat.le_of_ble_eq_true rfl) ?_
  refine vc_mem (cpI (cpI M 2 9 0 0 16) 3 10 0 0 64) rfl ?_
  have hB2 : BX M (cpI (cpI M 2 9 0 0 16) 3 10 0 0 64) := BX.C3 hB1 _ _ _ _ rfl
  refine vc_aload_n dX6_copyFrom_30 rfl ?_
  refine vc_getR dX6_copyFrom_31 flX6_18 (s_8 hB2.1.1) rfl (r_8_2 hB2.1.1) ?_
  refine vc_iconst dX6_copyFrom_34 rfl ?_
  refine vc_aload_n dX6_copyFrom_35 rfl ?_
  refine vc_getR dX6_copyFrom_36 flX6_18 (s_1 hB2.1.1) rfl (r_1_2 hB2.1.1) ?_
  refine vc_iconst dX6_copyFrom_39 rfl ?_
  refine vc_bipush dX6_copyFrom_40 rfl ?_
  refine vc_acopy dX6_copyFrom_42 acX6_46 (s_11 hB2.1.1) (s_4 hB2.1.1) (by omega) (by omega) (by omega) (by omega) (by omega) (Nat.le_of_ble_eq_true rfl) ?_
  refine vc_mem (cpI (cpI (cpI M 2 9 0 0 16) 3 10 0 0 64) 4 11 0 0 64) rfl ?_
  have hB3 : BX M (cpI (cpI (cpI M 2 9 0 0 16) 3 10 0 0 64) 4 11 0 0 64) := BX.C4 hB2 _ _ _ _
  refine vc_aload_n dX6_copyFrom_45 rfl ?_
  refine vc_getR dX6_copyFrom_46 flX6_21 (s_8 hB3.1.1) rfl (r_8_3 hB3.1.1) ?_
  refine vc_iconst dX6_copyFrom_49 rfl ?_
  refine vc_aload_n dX6_copyFrom_50 rfl ?_
  refine vc_getR dX6_copyFrom_51 flX6_21 (s_1 hB3.1.1) rfl (r_1_3 hB3.1.1) ?_
  refine vc_iconst dX6_copyFrom_54 rfl ?_
  refine vc_bipush dX6_copyFrom_55 rfl ?_
  refine vc_acopy dX6_copyFrom_57 acX6_46 (s_12 hB3.1.1) (s_5 hB3.1.1) (by omega) (by omega) (by omega) (by omega) (by omega) (Nat.le_of_ble_eq_true rfl) ?_
  refine vc_mem (cpI (cpI (cpI (cpI M 2 9 0 0 16) 3 10 0 0 64) 4 11 0 0 64) 5 12 0 0 24) rfl ?_
  have hB4 : BX M (cpI (cpI (cpI (cpI M 2 9 0 0 16) 3 10 0 0 64) 4 11 0 0 64) 5 12 0 0 24) := BX.C5 hB3 _ _ _ _
  refine vc_aload_n dX6_copyFrom_60 rfl ?_
  refine vc_getR dX6_copyFrom_61 flX6_24 (s_8 hB4.1.1) rfl (r_8_4 hB4.1.1) ?_
  refine vc_iconst dX6_copyFrom_64 rfl ?_
  refine vc_aload_n dX6_copyFrom_65 rfl ?_
  refine vc_getR dX6_copyFrom_66 flX6_24 (s_1 hB4.1.1) rfl (r_1_4 hB4.1.1) ?_
  refine vc_iconst dX6_copyFrom_69 rfl ?_
  refine vc_bipush dX6_copyFrom_70 rfl ?_
  refine vc_acopy dX6_copyFrom_72 acX6_46 (s_13 hB4.1.1) (s_6 hB4.1.1) (by omega) (by omega) (by omega) (by omega) (by omega) (Nat.le_of_ble_eq_true rfl) ?_
  refine vc_mem (cpI (cpI (cpI (cpI (cpI M 2 9 0 0 16) 3 10 0 0 64) 4 11 0 0 64) 5 12 0 0 24) 6 13 0 0 72) rfl ?_
  have hB5 : BX M (cpI (cpI (cpI (cpI (cpI M 2 9 0 0 16) 3 10 0 0 64) 4 11 0 0 64) 5 12 0 0 24) 6 13 0 0 72) := BX.C6 hB4 _ _ _ _
  refine vc_iconst dX6_copyFrom_75 rfl ?_
  refine vc_istore_n dX6_copyFrom_76 (by decide) rfl (show _ = [some (aR 1), some (aR 8), some (aI 0)] from rfl) ?_
  have lp77 : ∀ (n77 : Nat) (Mq77 : Mem) (v2 : Int), (BX M Mq77) → (0 ≤ v2) → (v2 ≤ 4) → (Fz M Mq77) → (4 - v2).toNat < n77 → VC l mdX6_copyFrom 77 [some (aR 1), some (aR 8), some (aI v2)] [] Mq77 0 0 (fun q N => q = none ∧ BX M N ∧ mI N 1 10 = mI M 8 10 ∧ (∀ k j, fz k j = true → k ≠ 1 → mI N k j = mI M k j)) := by
    intro n77
    induction n77 with
    | zero => intro Mq77 v2 hQ77 g77_2a g77_2b g77i0 hm77; exact absurd hm77 (Nat.not_lt_zero _)
    | succ n77 ih77 =>
      intro Mq77 v2 hQ77 g77_2a g77_2b g77i0 hm77
      refine vc_iload_n dX6_copyFrom_77 rfl ?_
      refine vc_iconst dX6_copyFrom_78 rfl ?_
      refine vc_icmp_ge dX6_copyFrom_79 (fun h6 => ?_) (fun h6 => ?_)
      · refine vc_aload_n dX6_copyFrom_100 rfl ?_
        refine vc_aload_n dX6_copyFrom_101 rfl ?_
        refine vc_getI dX6_copyFrom_102 flX6_52 (s_8 hQ77.1.1) rfl ?_
        have k7 : 0 ≤ mI Mq77 8 6 ∧ mI Mq77 8 6 ≤ 16 := b8_6 (M := Mq77) hQ77.1
        refine vc_putI dX6_copyFrom_105 (plX6_52 _ rfl) (s_1 hQ77.1.1) rfl ?_
        have hB8 : BX M (sI Mq77 1 6 (mI Mq77 8 6)) := BX.w1_6 hQ77 (by omega) (by omega)
        refine vc_aload_n dX6_copyFrom_108 rfl ?_
        refine vc_aload_n dX6_copyFrom_109 rfl ?_
        refine vc_getI dX6_copyFrom_110 flX6_39 (s_8 hB8.1.1) rfl ?_
        refine vc_topI (mI Mq77 8 7) rfl ?_
        have k9 : (-1) ≤ mI Mq77 8 7 ∧ mI Mq77 8 7 ≤ 15 := b8_7 (M := (sI Mq77 1 6 (mI Mq77 8 6))) hB8.1
        refine vc_putI dX6_copyFrom_113 (plX6_39 _ rfl) (s_1 hB8.1.1) rfl ?_
        have hB10 : BX M (sI (sI Mq77 1 6 (mI Mq77 8 6)) 1 7 (mI Mq77 8 7)) := BX.w1_7 hB8 (by omega) (by omega)
        refine vc_aload_n dX6_copyFrom_116 rfl ?_
        refine vc_aload_n dX6_copyFrom_117 rfl ?_
        refine vc_getI dX6_copyFrom_118 flX6_55 (s_8 hB10.1.1) rfl ?_
        refine vc_topI (mI Mq77 8 8) rfl ?_
        have k11 : 0 ≤ mI Mq77 8 8 ∧ mI Mq77 8 8 ≤ 6 := b8_8 (M := (sI (sI Mq77 1 6 (mI Mq77 8 6)) 1 7 (mI Mq77 8 7))) hB10.1
        refine vc_putI dX6_copyFrom_121 (plX6_55 _ rfl) (s_1 hB10.1.1) rfl ?_
        have hB12 : BX M (sI (sI (sI Mq77 1 6 (mI Mq77 8 6)) 1 7 (mI Mq77 8 7)) 1 8 (mI Mq77 8 8)) := BX.w1_8 hB10 (by omega) (by omega)
        refine vc_aload_n dX6_copyFrom_124 rfl ?_
        refine vc_aload_n dX6_copyFrom_125 rfl ?_
        refine vc_getI dX6_copyFrom_126 flX6_58 (s_8 hB12.1.1) rfl ?_
        refine vc_topI (mI Mq77 8 9) rfl ?_
        have k13 : 0 ≤ mI Mq77 8 9 ∧ mI Mq77 8 9 ≤ 8 := b8_9 (M := (sI (sI (sI Mq77 1 6 (mI Mq77 8 6)) 1 7 (mI Mq77 8 7)) 1 8 (mI Mq77 8 8))) hB12.1
        refine vc_putI dX6_copyFrom_129 (plX6_58 _ rfl) (s_1 hB12.1.1) rfl ?_
        have hB14 : BX M (sI (sI (sI (sI Mq77 1 6 (mI Mq77 8 6)) 1 7 (mI Mq77 8 7)) 1 8 (mI Mq77 8 8)) 1 9 (mI Mq77 8 9)) := BX.w1_9 hB12 (by omega) (by omega)
        refine vc_aload_n dX6_copyFrom_132 rfl ?_
        refine vc_aload_n dX6_copyFrom_133 rfl ?_
        refine vc_getI dX6_copyFrom_134 flX6_61 (s_8 hB14.1.1) rfl ?_
        refine vc_topI (mI Mq77 8 10) rfl ?_
        have k15 : 0 ≤ mI Mq77 8 10 ∧ mI Mq77 8 10 ≤ 4 := b8_10 (M := (sI (sI (sI (sI Mq77 1 6 (mI Mq77 8 6)) 1 7 (mI Mq77 8 7)) 1 8 (mI Mq77 8 8)) 1 9 (mI Mq77 8 9))) hB14.1
        refine vc_putI dX6_copyFrom_137 (plX6_61 _ rfl) (s_1 hB14.1.1) rfl ?_
        have hB16 : BX M (sI (sI (sI (sI (sI Mq77 1 6 (mI Mq77 8 6)) 1 7 (mI Mq77 8 7)) 1 8 (mI Mq77 8 8)) 1 9 (mI Mq77 8 9)) 1 10 (mI Mq77 8 10)) := BX.w1_10 hB14 (by omega) (by omega)
        refine vc_aload_n dX6_copyFrom_140 rfl ?_
        refine vc_aload_n dX6_copyFrom_141 rfl ?_
        refine vc_getI dX6_copyFrom_142 flX6_43 (s_8 hB16.1.1) rfl ?_
        refine vc_topI (mI Mq77 8 11) rfl ?_
        refine vc_putI dX6_copyFrom_145 (plX6_43 _ rfl) (s_1 hB16.1.1) rfl ?_
        have hB17 : BX M (sI (sI (sI (sI (sI (sI Mq77 1 6 (mI Mq77 8 6)) 1 7 (mI Mq77 8 7)) 1 8 (mI Mq77 8 8)) 1 9 (mI Mq77 8 9)) 1 10 (mI Mq77 8 10)) 1 11 (mI Mq77 8 11)) := BX.w1_11 hB16
        refine vc_vret dX6_copyFrom_148 rfl (Nat.le_of_ble_eq_true rfl) (Nat.le_of_ble_eq_true rfl) ?_
        exact ⟨rfl, hB17, (show mI Mq77 8 10 = mI M 8 10 from g77i0 8 10 rfl), fun k j a b => by
          repeat rw [mI_sI, if_neg (fun e => b e.1)]
          exact g77i0 k j a⟩
      · refine vc_aload_n dX6_copyFrom_82 rfl ?_
        refine vc_getR dX6_copyFrom_83 flX6_29 (s_1 hQ77.1.1) rfl (r_1_5 hQ77.1.1) ?_
        refine vc_iload_n dX6_copyFrom_86 rfl ?_
        refine vc_aload_n dX6_copyFrom_87 rfl ?_
        refine vc_getR dX6_copyFrom_88 flX6_29 (s_8 hQ77.1.1) rfl (r_8_5 hQ77.1.1) ?_
        refine vc_iload_n dX6_copyFrom_91 rfl ?_
        refine vc_aaload dX6_copyFrom_92 (s_14 hQ77.1.1) (by omega) (by omega) ?_
        refine vc_nameO (fun o18 eo18 => ?_)
        refine vc_aastore dX6_copyFrom_93 (s_7 hQ77.1.1) (by omega) (by omega) (fun y hy => (hQ77.tx (k := 14) (Or.inr rfl) eo18 y hy).2.1) ?_
        have hB19 : BX M (sR Mq77 7 v2.toNat o18) := BX.T7 hQ77 _ (fun y hy => hQ77.tx (k := 14) (Or.inr rfl) eo18 y hy)
        refine vc_iincE dX6_copyFrom_94 rfl (by omega) (by omega) (by decide) rfl (show _ = [some (aR 1), some (aR 8), some (aI (v2 + 1))] from rfl) ?_
        refine vc_goto dX6_copyFrom_97 ?_
        exact ih77 (sR Mq77 7 v2.toNat o18) (v2 + 1) hB19 (by omega) (by omega) (by first | exact (((((Fz.cp (fun _ => rfl)).trans (Fz.cp (fun _ => rfl))).trans (Fz.cp (fun _ => rfl))).trans (Fz.cp (fun _ => rfl))).trans (Fz.cp (fun _ => rfl))) | exact g77i0) (by omega)
  exact lp77 _ (cpI (cpI (cpI (cpI (cpI M 2 9 0 0 16) 3 10 0 0 64) 4 11 0 0 64) 5 12 0 0 24) 6 13 0 0 72) 0 hB5 (by omega) (by omega) (by first | exact (((((Fz.cp (fun _ => rfl)).trans (Fz.cp (fun _ => rfl))).trans (Fz.cp (fun _ => rfl))).trans (Fz.cp (fun _ => rfl))).trans (Fz.cp (fun _ => rfl))) | exact g77i0) (Nat.lt_succ_self _)

set_option maxRecDepth 4000 in
theorem sfX11_imageF {l : Launch} {M : Mem} (hB : Box M)    : Call l mdX11_image [aR 0] M (fun q N => ∃ r : Int, q = some (aI r) ∧ BX M N ∧ IMc M N) := by
  have hB0 := BX.start hB
  refine Call.of [some (aR 0)] rfl (Nat.le_of_ble_eq_true rfl) rfl ?_
  refine vc_aload_n dX11_image_0 rfl ?_
  refine vc_getR dX11_image_1 flX11_16 (s_0 hB0.1.1) rfl (r_0_1 hB0.1.1) ?_
  refine vc_aload_n dX11_image_4 rfl ?_
  refine vc_getR dX11_image_5 flX11_10 (s_0 hB0.1.1) rfl (r_0_0 hB0.1.1) ?_
  refine vc_cVU dX11_image_8 (sfX6_copyFromF8 (M := M) hB0.1   ) rfl okX6_copyFrom viX6_copyFrom lkX11_347 (s_8 hB0.1.1) cl_6 rfl (Nat.le_of_ble_eq_true rfl) ⟨rfl, rfl⟩ (Nat.le_of_ble_eq_true rfl) (Nat.le_of_ble_eq_true rfl) (Nat.le_of_ble_eq_true rfl) ?_
  rintro M1 ⟨hB2, h3, h4⟩
  have hB5 : BX M M1 := BX.go hB0 hB2
  refine vc_aload_n dX11_image_11 rfl ?_
  refine vc_getR dX11_image_12 flX11_26 (s_0 hB5.1.1) rfl (r_0_3 hB5.1.1) ?_
  refine vc_aload_n dX11_image_15 rfl ?_
  refine vc_getR dX11_image_16 flX11_22 (s_0 hB5.1.1) rfl (r_0_2 hB5.1.1) ?_
  refine vc_cVU dX11_image_19 (sfX8_copyFrom_18 (M := M1) hB5.1   ) rfl okX8_copyFrom viX8_copyFrom lkX11_350 (s_18 hB5.1.1) cl_8 rfl (Nat.le_of_ble_eq_true rfl) ⟨rfl, rfl⟩ (Nat.le_of_ble_eq_true rfl) (Nat.le_of_ble_eq_true rfl) (Nat.le_of_ble_eq_true rfl) ?_
  rintro M6 hB7
  have hB8 : BX M M6 := BX.go hB5 hB7.x
  have hf8 := hB7.2.2
  refine vc_aload_n dX11_image_22 rfl ?_
  refine vc_getR dX11_image_23 flX11_10 (s_0 hB8.1.1) rfl (r_0_0 hB8.1.1) ?_
  refine vc_getI dX11_image_26 flX11_265 (s_1 hB8.1.1) rfl ?_
  have k9 : 0 ≤ mI M6 1 6 ∧ mI M6 1 6 ≤ 16 := b1_6 (M := M6) hB8.1
  refine vc_iret dX11_image_29 rfl (Nat.le_of_ble_eq_true rfl) (Nat.le_of_ble_eq_true rfl) ?_
  exact ⟨_, rfl, hB8, (hf8 8 10 rfl).trans h3, fun k j a b => (hf8 k j a).trans (h4 k j a b)⟩

set_option maxRecDepth 4000 in
theorem sfX11_backF {l : Launch} {M : Mem} (hB : Box M)    : Call l mdX11_back [aR 0] M (fun q N => ∃ r : Int, q = some (aI r) ∧ BX M N ∧ BAc M N) := by
  have hB0 := BX.start hB
  refine Call.of [some (aR 0)] rfl (Nat.le_of_ble_eq_true rfl) rfl ?_
  refine vc_aload_n dX11_back_0 rfl ?_
  refine vc_getR dX11_back_1 flX11_10 (s_0 hB0.1.1) rfl (r_0_0 hB0.1.1) ?_
  refine vc_aload_n dX11_back_4 rfl ?_
  refine vc_getR dX11_back_5 flX11_16 (s_0 hB0.1.1) rfl (r_0_1 hB0.1.1) ?_
  refine vc_cVU dX11_back_8 (sfX6_copyFromF1 (M := M) hB0.1   ) rfl okX6_copyFrom viX6_copyFrom lkX11_347 (s_1 hB0.1.1) cl_6 rfl (Nat.le_of_ble_eq_true rfl) ⟨rfl, rfl⟩ (Nat.le_of_ble_eq_true rfl) (Nat.le_of_ble_eq_true rfl) (Nat.le_of_ble_eq_true rfl) ?_
  rintro M1 ⟨hB2, h3, h4⟩
  have hB5 : BX M M1 := BX.go hB0 hB2
  refine vc_aload_n dX11_back_11 rfl ?_
  refine vc_getR dX11_back_12 flX11_22 (s_0 hB5.1.1) rfl (r_0_2 hB5.1.1) ?_
  refine vc_aload_n dX11_back_15 rfl ?_
  refine vc_getR dX11_back_16 flX11_26 (s_0 hB5.1.1) rfl (r_0_3 hB5.1.1) ?_
  refine vc_cVU dX11_back_19 (sfX8_copyFrom_15 (M := M1) hB5.1   ) rfl okX8_copyFrom viX8_copyFrom lkX11_350 (s_15 hB5.1.1) cl_8 rfl (Nat.le_of_ble_eq_true rfl) ⟨rfl, rfl⟩ (Nat.le_of_ble_eq_true rfl) (Nat.le_of_ble_eq_true rfl) (Nat.le_of_ble_eq_true rfl) ?_
  rintro M6 hB7
  have hB8 : BX M M6 := BX.go hB5 hB7.x
  have hf8 := hB7.2.2
  refine vc_aload_n dX11_back_22 rfl ?_
  refine vc_getR dX11_back_23 flX11_10 (s_0 hB8.1.1) rfl (r_0_0 hB8.1.1) ?_
  refine vc_getI dX11_back_26 flX11_265 (s_1 hB8.1.1) rfl ?_
  have k9 : 0 ≤ mI M6 1 6 ∧ mI M6 1 6 ≤ 16 := b1_6 (M := M6) hB8.1
  refine vc_iret dX11_back_29 rfl (Nat.le_of_ble_eq_true rfl) (Nat.le_of_ble_eq_true rfl) ?_
  exact ⟨_, rfl, hB8, (hf8 1 10 rfl).trans h3, fun k j a b => (hf8 k j a).trans (h4 k j a b)⟩

theorem sfX12_imageF {l : Launch} {M : Mem} (hB : Box M) : Call l mdX12_image [aR 54] M (fun q N => ∃ r : Int, q = some (aI r) ∧ BX M N ∧ N = cpI M 56 55 0 0 589) := (qX12_image hB.1).mono (fun r N h => ⟨_, h.1, by rw [h.2]; exact BX.img hB, h.2⟩)
theorem sfX12_backF {l : Launch} {M : Mem} (hB : Box M) : Call l mdX12_back [aR 54] M (fun q N => ∃ r : Int, q = some (aI r) ∧ BX M N ∧ N = cpI M 55 56 0 0 589) := (qX12_back hB.1).mono (fun r N h => ⟨_, h.1, by rw [h.2]; exact BX.bck hB, h.2⟩)
