theorem cd41 {v : Int} (h : v = 41 ∨ v = 43) : (if v = 43 then 41 else if v = 44 then 42 else v) = (41 : Int) := by
  rcases h with h | h <;> subst h <;> rfl
theorem cd42 {v : Int} (h : v = 42 ∨ v = 44) : (if v = 43 then 41 else if v = 44 then 42 else v) = (42 : Int) := by
  rcases h with h | h <;> subst h <;> rfl
theorem cd40 {v : Int} (h : v = 40) : (if v = 43 then 41 else if v = 44 then 42 else v) = (40 : Int) := by
  subst h; rfl
theorem pl_at {f : Nat → Int} : ∀ (m k : Nat), plO f m → k < m → (2 ≤ f k ∧ f k ≤ 6) ∨ (40 ≤ f k ∧ f k ≤ 44)
  | 0, _, _, h => absurd h (Nat.not_lt_zero _)
  | m + 1, k, h, hk => by
    by_cases e : k = m
    · rw [e]; exact h.2.1
    · exact pl_at m k h.1 (by omega)
theorem PI.at {M : Mem} {S : Int} {k : Nat} (h : PI M S) (hk : (k : Int) < mI M 54 18) : (2 ≤ mI M 60 k ∧ mI M 60 k ≤ 6) ∨ (40 ≤ mI M 60 k ∧ mI M 60 k ≤ 44) := pl_at _ k h.pl (by omega)
theorem SI0.mk {M N : Mem} {t : List Int} {k : Nat} (h1 : t = stk (mI M 60) k) (h2 : OM (mI M 60) k) (e60 : mI N 60 = mI M 60) (e18 : mI N 54 18 = k) : SI0 N t := by
  unfold SI0
  rw [e60, e18]
  exact ⟨h1, h2⟩
def SUM (g : Nat → Int) (n w : Int) (N : Mem) (p : Int) : Prop := ∃ s q, SJ N s ∧ RT g n N q ∧ ∀ o, Rn (tk g n) (nx g n) w s (decide (mI N 54 20 = 1)) q o → Rn (tk g n) (nx g n) w [] false p o
theorem SUM.bo {g : Nat → Int} {n w : Int} {M N : Mem} {s : List Int} {p q r : Int} (hk : ∀ o, Rn (tk g n) (nx g n) w s (decide (mI M 54 20 = 1)) q o → Rn (tk g n) (nx g n) w [] false p o) (h20 : mI M 54 20 = 0) (h : BO g n w N r q s) (hr : r = 0) : SUM g n w N p := by
  rcases h with ⟨a, s', q', b, c, d⟩ | h
  · rw [dec_f h20] at hk
    exact ⟨s', q', b, c, fun o z => hk o (d o z)⟩
  · exact absurd hr h.1
theorem SUM.bh {g : Nat → Int} {n w : Int} {M N : Mem} {s : List Int} {p q r : Int} (hk : ∀ o, Rn (tk g n) (nx g n) w s (decide (mI M 54 20 = 1)) q o → Rn (tk g n) (nx g n) w [] false p o) (h20 : mI M 54 20 = 1) (h : BH g n w N r q s) (hr : r = 0) : SUM g n w N p := by
  rcases h with ⟨a, s', q', b, c, d⟩ | h
  · rw [dec_t h20] at hk
    exact ⟨s', q', b, c, fun o z => hk o (d o z)⟩
  · omega
theorem SUM.bad {g : Nat → Int} {n w : Int} {M N : Mem} {s : List Int} {p q r : Int} (hk : ∀ o, Rn (tk g n) (nx g n) w s (decide (mI M 54 20 = 1)) q o → Rn (tk g n) (nx g n) w [] false p o) (h20 : mI M 54 20 = 0) (h : BO g n w N r q s) (hr : r ≠ 0) : FR g n N r (sLaw (tk g n) (nx g n) w p) := by
  rcases h with ⟨a, s', q', b, c, d⟩ | ⟨a, b⟩
  · omega
  · rw [dec_f h20] at hk
    exact FRb hr rfl (sLaw_eq (hk _ b))
theorem BH.one {g : Nat → Int} {n w : Int} {N : Mem} {s : List Int} {p r : Int} (h : BH g n w N r p s) (hr : r ≠ 0) : SJ N s ∧ RT g n N p ∧ EOp g n p ∧ (s ≠ [] → Rn (tk g n) (nx g n) w s true p (1, p)) := by
  rcases h with ⟨a, s', q', b, c, d⟩ | h
  · omega
  · exact h.2

/-! THE REFERENCE'S CODE behind an operand, and a sum's -/
theorem Pl.topk {M N : Mem} {kk : Nat} (e60 : mI N 60 = mI M 60) (e18 : mI N 54 18 = (kk : Int) + 1) : Pl N = mI M 60 kk :: pls (mI M 60) kk := by
  unfold Pl
  rw [e60, show (mI N 54 18).toNat = kk + 1 by omega]
  rfl
theorem Pl.atk {M N : Mem} {kk : Nat} (e60 : mI N 60 = mI M 60) (e18 : mI N 54 18 = (kk : Int)) : Pl N = pls (mI M 60) kk := by
  unfold Pl
  rw [e60, show (mI N 54 18).toNat = kk by omega]
theorem Pl.inc {M N : Mem} {k : Nat} {v : Int} (e60 : mI N 60 = mI (sI M 60 k v) 60) (e18 : mI N 54 18 = (k : Int) + 1) : Pl N = v :: pls (mI M 60) k := by
  unfold Pl
  rw [show (mI N 54 18).toNat = k + 1 by omega]
  show mI N 60 _ :: pls (mI N 60) _ = _
  rw [e60, mI_same]
  congr 1
  exact pls_co _ (fun i hi => by rw [mI_sI, if_neg (by omega)])
theorem Pl.no {N : Mem} (h : mI N 54 18 = 0) : Pl N = [] := by
  unfold Pl
  rw [h]
  rfl
def SHc (S : Int) (M N : Mem) (o : Int) (kk : Nat) : Prop := (stP 1 (Pl M)).2 = mI M 60 kk :: pls (mI M 60) kk ∧ Pl N = (stP 3 (pls (mI M 60) kk)).2 ∧ Co N S = Co M S ++ ((stP 1 (Pl M)).1 ++ ((if o = 40 then [] else [((if o = 42 then 7 else 8), 0)]) ++ (stP 3 (pls (mI M 60) kk)).1))
theorem SHc.mk0 {S o : Int} {M N Q : Mem} {kk : Nat} {E : List (Int × Int)} (h1 : (stP 1 (Pl M)).2 = mI M 60 kk :: pls (mI M 60) kk) (h2 : Pl Q = pls (mI M 60) kk) (h3 : Co Q S = Co M S ++ ((stP 1 (Pl M)).1 ++ E)) (hE : (if o = 40 then [] else [((if o = 42 then 7 else 8), 0)]) = E) (h : Pl N = (stP 3 (Pl Q)).2 ∧ Co N S = Co Q S ++ (stP 3 (Pl Q)).1) : SHc S M N o kk := by
  refine ⟨h1, by rw [h.1, h2], ?_⟩
  rw [h.2, h3, h2, hE, List.append_assoc, List.append_assoc]
theorem BOc.sh0 {g : Nat → Int} {n S : Int} {M N : Mem} {o p : Int} {kk : Nat} (h : SHc S M N o kk) (rt : RT g n N (nx g n p)) (h20 : mI N 54 20 = 1) (ho : mI M 60 kk = o) (h40 : o = 40) (ht : tk g n p = -259) : BOc g n S M N 0 p true := fun _ => by
  obtain ⟨a, b, c⟩ := h
  refine ⟨_, _, rt, c, fun d z => ?_⟩
  rw [dcT h20, b] at z
  rw [ho, h40] at a
  rw [if_pos h40, List.nil_append, List.append_assoc]
  exact c_shut a ht z
theorem BOc.sh2 {g : Nat → Int} {n S : Int} {M N : Mem} {o p : Int} {kk : Nat} (h : SHc S M N o kk) (rt : RT g n N (nx g n p)) (h20 : mI N 54 20 = 1) (ho : mI M 60 kk = o) (h42 : o = 42 ∨ o = 44) (ht : tk g n p = 121) : BOc g n S M N 0 p true := fun _ => by
  obtain ⟨a, b, c⟩ := h
  refine ⟨_, _, rt, c, fun d z => ?_⟩
  rw [dcT h20, b] at z
  rw [ho] at a
  rw [if_neg (by omega), List.append_assoc, List.append_assoc]
  exact c_end a h42 ht z
theorem BOc.op {g : Nat → Int} {n S : Int} {M N : Mem} {o e p : Int} (rt : RT g n N (nx g n p)) (h20 : mI N 54 20 = 0) (ht : tk g n p = -258 ∨ tk g n p = -257 ∨ tk g n p = -255 ∨ tk g n p = -253) (ho : opO (tk g n p) = o) (he : e = rkI o) (hpl : Pl N = o :: (stP e (Pl M)).2) (hco : Co N S = Co M S ++ (stP e (Pl M)).1) : BOc g n S M N 0 p true := fun _ => by
  subst ho
  subst he
  refine ⟨_, _, rt, hco, fun d z => ?_⟩
  rw [dcF h20, hpl] at z
  exact c_op ht z
theorem BOc.com {g : Nat → Int} {n S : Int} {M N : Mem} {o p : Int} {t : List Int} (rt : RT g n N (nx g n p)) (h20 : mI N 54 20 = 0) (e : (stP 1 (Pl M)).2 = o :: t) (ho : o = 41 ∨ o = 43) (ht : tk g n p = -256) (hpl : Pl N = (o + 1) :: t) (hco : Co N S = Co M S ++ (stP 1 (Pl M)).1) : BOc g n S M N 0 p true := fun _ => by
  refine ⟨_, _, rt, hco, fun d z => ?_⟩
  rw [dcF h20, hpl] at z
  exact c_com e ho ht z
/-- what is still to be written makes the sum's code complete -/
def SUMc (g : Nat → Int) (n S p : Int) (N : Mem) : Prop := ∀ c, Cd (tk g n) (nx g n) (Pl N) (decide (mI N 54 20 = 1)) (mI N 54 10) c → Cd (tk g n) (nx g n) [] false p (Co N S ++ c)
theorem SUMc.new {g : Nat → Int} {n S p : Int} {N : Mem} (h18 : mI N 54 18 = 0) (h20 : mI N 54 20 = 0) (h10 : mI N 54 10 = p) (h15 : mI N 54 15 = S) : SUMc g n S p N := by
  intro c z
  rw [dcF h20, h10, Pl.no h18] at z
  rw [Co.nil h15]
  exact z
theorem SUMc.go {g : Nat → Int} {n S p q r : Int} {b : Bool} {M N : Mem} (h : SUMc g n S p M) (hq : mI M 54 10 = q) (hb : decide (mI M 54 20 = 1) = b) (hs : BOc g n S M N r q b) (hr : r = 0) : SUMc g n S p N := by
  obtain ⟨q', D, rt, hco, hc⟩ := hs hr
  intro c z
  rw [rt.2.1.1] at z
  rw [hco, List.append_assoc]
  refine h _ ?_
  rw [hb, hq]
  exact hc c z
theorem SUMc.fin {g : Nat → Int} {n S p q : Int} {M M1 N : Mem} (h : SUMc g n S p M) (hq : mI M 54 10 = q) (h20 : mI M 54 20 = 1) (hE : EOp g n q) (hM : Pl M1 = Pl M ∧ Co M1 S = Co M S) (hN : Pl N = (stP 1 (Pl M1)).2 ∧ Co N S = Co M1 S ++ (stP 1 (Pl M1)).1) (h0 : mI N 54 18 = 0) : Cd (tk g n) (nx g n) [] false p (Co N S) := by
  rw [hN.2, hM.1, hM.2]
  refine h _ ?_
  rw [dcT h20, hq]
  refine c_fin hE ?_
  rw [← hM.1, ← hN.1]
  exact Pl.no h0

set_option maxHeartbeats 4000000 in
set_option maxRecDepth 4000 in
theorem sfX12_shutF {l : Launch} {M : Mem} (hB : Box M) (S : Int) (g : Nat → Int) (n p : Int) (hT : RT g n M p) (t : List Int) (kk : Nat) (hk : t = stk (mI M 60) kk ∧ OM (mI M 60) kk ∧ (kk : Int) < mI M 54 18 ∧ (∀ q : Nat, kk < q → (q : Int) < mI M 54 18 → mI M 60 q < 40) ∧ 40 ≤ mI M 60 kk) (o : Int) (p0 : PI M S) (p1 : mI M 54 14 = 873 * mI M 55 5) (p2 : mI M 54 10 ≤ mI M 54 9) (p3 : mI M 54 11 = 0 ∨ mI M 54 10 < mI M 54 9) (p4 : mI M 54 20 = 1) (p5 : mI M 54 11 ≠ 0) (p6 : ∃ k : Nat, (k : Int) < mI M 54 18 ∧ mI M 60 k = o ∧ ∀ q : Nat, k < q → (q : Int) < mI M 54 18 → mI M 60 q < 40) (p7 : o = 40 ∨ o = 42 ∨ o = 44) (p8 : tk g n p = -259 ∨ tk g n p = 121) : Call l mdX12_shut [aR 54, aI o] M (fun q N => q = none ∧ BF fT M N ∧ mI N 55 = mI M 55 ∧ PI N S ∧ mI M 54 10 < mI N 54 10 ∧ mI N 54 10 ≤ mI N 54 9 ∧ (mI N 54 11 = 0 ∨ mI N 54 10 < mI N 54 9) ∧ mI N 54 14 = mI M 54 14 ∧ mI N 54 16 = mI M 54 16 ∧ mI N 54 21 = mI M 54 21 ∧ (∀ j : Nat, (j : Int) < mI M 54 14 + 265 + 2 * S → mI N 57 j = mI M 57 j) ∧ ((SJ N (dm t) ∧ mI N 54 20 = 1 ∧ RT g n N (nx g n p)) ∧ SHc S M N o kk)) := by
  have hB0 : BF fT M M := BF.start hB
  refine Call.of [some (aR 54), some (aI o)] rfl (Nat.le_of_ble_eq_true rfl) rfl ?_
  refine vc_ok (fun hoM hoS hoL => ?_)
  have hr1 : -2147483648 ≤ o ∧ o < 2147483648 := hoL 1 _ rfl
  have hle := p0.len
  have hk9 := b54_9 hB
  have hk5 := b55_5 hB
  have rg1 := RT.rg hT
  refine vc_aload_n dX12_shut_0 rfl ?_
  refine vc_iconst dX12_shut_1 rfl ?_
  refine vc_cVU dX12_shut_2 (sfX12_settlePileF (M := M) hB0.1  S 1 (by omega) (by omega) (by exact p0) (by omega) (by omega)) rfl okX12_settlePile viX12_settlePile lkX12_211 (s_54 hB0.1.1) cl_12 rfl (Nat.le_of_ble_eq_true rfl) ⟨rfl, rfl⟩ (Nat.le_of_ble_eq_true rfl) (Nat.le_of_ble_eq_true rfl) (Nat.le_of_ble_eq_true rfl) ?_
  rintro M2 ⟨hB3, kp4, kp5, h6, h7, h8, h9, h10, h11, h12, h13, h14, h15, h16, h17, h18, h19, h20⟩
  have hB21 : BF fT M M2 := BF.go hB0 hB3
  have kp22 : mI M2 55 = mI M 55 := kp_go rfl kp4
  have fr23 : ∀ j : Nat, (j : Int) < mI M 54 14 + 265 + 2 * S → mI M2 57 j = mI M 57 j := fun j hj => (h15 j (by omega)).trans ((fun _ _ => rfl) j hj)
  have hl2 := h6.len
  obtain ⟨k, k1, k2, k3⟩ := id p6
  have htop := top_at (M := M) (N := M2) kp5 (by omega) (by omega) h16 h17 k1 (by omega) k3
  have htk : mI M2 60 (mI M2 54 18 - 1).toNat = o := by rw [htop, kp5, show ((k : Int) + 1 - 1).toNat = k by omega]; exact k2
  have htop2 := top_at (M := M) (N := M2) (k := kk) kp5 (by omega) (by omega) h16 h17 hk.2.2.1 hk.2.2.2.2 hk.2.2.2.1
  have hst : (stP 1 (Pl M)).2 = mI M 60 kk :: pls (mI M 60) kk := h18.1.symm.trans (Pl.topk (kk := kk) kp5 htop2)
  refine vc_aload_n dX12_shut_5 rfl ?_
  refine vc_dup dX12_shut_6 rfl ?_
  refine vc_getI dX12_shut_7 flX12_180 (s_54 hB21.1.1) rfl ?_
  have k24 : 0 ≤ mI M2 54 18 ∧ mI M2 54 18 ≤ 160 := b54_18 (M := M2) hB21.1
  refine vc_iconst dX12_shut_10 rfl ?_
  refine vc_isubE dX12_shut_11 (by omega) (by omega) ?_
  refine vc_putI dX12_shut_12 (plX12_180 _ rfl) (s_54 hB21.1.1) rfl ?_
  have kp25 : mI (sI M2 54 18 ((mI M2 54 18) - 1)) 55 = mI M 55 := (kp_sI kp22 rfl)
  have hB26 : BF fT M (sI M2 54 18 ((mI M2 54 18) - 1)) := BF.w54_18 hB21 rfl (by omega) (by omega)
  refine vc_aload_n dX12_shut_15 rfl ?_
  refine vc_dup dX12_shut_16 rfl ?_
  refine vc_getI dX12_shut_17 flX12_190 (s_54 hB26.1.1) rfl ?_
  refine vc_topI (mI M2 54 19) rfl ?_
  refine vc_iconst dX12_shut_20 rfl ?_
  refine vc_isubE dX12_shut_21 (by omega) (by omega) ?_
  refine vc_putI dX12_shut_22 (plX12_190 _ rfl) (s_54 hB26.1.1) rfl ?_
  have kp27 : mI (sI (sI M2 54 18 ((mI M2 54 18) - 1)) 54 19 ((mI M2 54 19) - 1)) 55 = mI M 55 := (kp_sI kp25 rfl)
  have hB28 : BF fT M (sI (sI M2 54 18 ((mI M2 54 18) - 1)) 54 19 ((mI M2 54 19) - 1)) := BF.w54_19 hB26 rfl
  refine vc_iload_n dX12_shut_25 rfl ?_
  refine vc_bipush dX12_shut_26 rfl ?_
  refine vc_icmp_eq dX12_shut_28 (fun h29 => ?_) (fun h29 => ?_)
  · refine vc_aload_n dX12_shut_49 rfl ?_
    have hgf := RT.gf hT hB28.2.2
    have hat0 := RT.at hT (by omega)
    have hrg0 := RT.rg hT
    have k30 : mI (sI (sI M2 54 18 ((mI M2 54 18) - 1)) 54 19 ((mI M2 54 19) - 1)) 54 9 = mI M2 54 9 := rfl
    have k31 : mI (sI (sI M2 54 18 ((mI M2 54 18) - 1)) 54 19 ((mI M2 54 19) - 1)) 54 10 = mI M2 54 10 := rfl
    have k32 : mI (sI (sI M2 54 18 ((mI M2 54 18) - 1)) 54 19 ((mI M2 54 19) - 1)) 54 11 = mI M2 54 11 := rfl
    have k33 : mI (sI (sI M2 54 18 ((mI M2 54 18) - 1)) 54 19 ((mI M2 54 19) - 1)) 54 14 = mI M2 54 14 := rfl
    have k34 : mI (sI (sI M2 54 18 ((mI M2 54 18) - 1)) 54 19 ((mI M2 54 19) - 1)) 54 15 = mI M2 54 15 := rfl
    have k35 : mI (sI (sI M2 54 18 ((mI M2 54 18) - 1)) 54 19 ((mI M2 54 19) - 1)) 54 16 = mI M2 54 16 := rfl
    have k36 : mI (sI (sI M2 54 18 ((mI M2 54 18) - 1)) 54 19 ((mI M2 54 19) - 1)) 54 18 = (mI M2 54 18) - 1 := rfl
    have k37 : mI (sI (sI M2 54 18 ((mI M2 54 18) - 1)) 54 19 ((mI M2 54 19) - 1)) 54 19 = (mI M2 54 19) - 1 := rfl
    have k38 : mI (sI (sI M2 54 18 ((mI M2 54 18) - 1)) 54 19 ((mI M2 54 19) - 1)) 54 20 = mI M2 54 20 := rfl
    have k39 : mI (sI (sI M2 54 18 ((mI M2 54 18) - 1)) 54 19 ((mI M2 54 19) - 1)) 54 21 = mI M2 54 21 := rfl
    refine vc_cVU dX12_shut_50 (sfX12_nextTokenF (M := (sI (sI M2 54 18 ((mI M2 54 18) - 1)) 54 19 ((mI M2 54 19) - 1))) hB28.1   (by first | (rw [hgf.2.1]; omega) | omega) (by first | (rw [hgf.1]; exact hgf.2.2) | assumption)) rfl okX12_nextToken viX12_nextToken lkX12_193 (s_54 hB28.1.1) cl_12 rfl (Nat.le_of_ble_eq_true rfl) ⟨rfl, rfl⟩ (Nat.le_of_ble_eq_true rfl) (Nat.le_of_ble_eq_true rfl) (Nat.le_of_ble_eq_true rfl) ?_
    rintro M40 ⟨hB41, kp42, kp43, kp44, h45, h46, h47, h48, h49, h50, h51, h52, h53, h54, h55⟩
    have hB56 : BF fT M M40 := BF.go hB28 hB41.t
    have kp57 : mI M40 55 = mI M 55 := kp_go kp27 kp42
    have rt58 : RT g n M40 (nx g n p) := by
      have z := h55
      rw [hgf.1, hgf.2.1, show mI (sI (sI M2 54 18 ((mI M2 54 18) - 1)) 54 19 ((mI M2 54 19) - 1)) 54 9 = en g n p by first | omega | (show mI M2 54 9 = _; omega)] at z
      exact z
    clear hrg0
    have rg59 := RT.rg rt58
    have fr60 : ∀ j : Nat, (j : Int) < mI M 54 14 + 265 + 2 * S → mI M40 57 j = mI M 57 j := fun j hj => (congrFun kp43 j).trans (fr23 j hj)
    have hbx := b54_10 (M := M40) hB56.1
    have hPI61 : PI M40 S := PI.par (M := M2) h6 (by omega) (by omega) (htk.trans (by omega)) kp43 kp44 (by omega) (by omega) (by omega) (by omega) (by omega) (by omega) (by omega)
    have e60s : mI M40 60 = mI M 60 := (show mI M40 60 = mI M2 60 from kp44).trans kp5
    have hSI0 : SI0 M40 t := SI0.mk hk.1 hk.2.1 e60s (by omega)
    have hplQ : Pl M40 = pls (mI M 60) kk := Pl.atk e60s (by omega)
    have hcoQ : Co M40 S = Co M S ++ ((stP 1 (Pl M)).1 ++ []) := (Co.same (M := M2) kp43 (by omega) (by omega)).trans (by rw [h18.2, List.append_nil])
    have hEE : (if o = 40 then [] else [((if o = 42 then (7 : Int) else 8), (0 : Int))]) = [] := by rw [if_pos (by omega)]
    refine vc_aload_n dX12_shut_53 rfl ?_
    refine vc_iconst dX12_shut_54 rfl ?_
    have hz6 := congrFun kp57 5
    refine vc_cVU dX12_shut_55 (sfX12_settlePileF (M := M40) hB56.1  S 3 (by omega) (by omega) (by assumption) (by omega) (by omega)) rfl okX12_settlePile viX12_settlePile lkX12_211 (s_54 hB56.1.1) cl_12 rfl (Nat.le_of_ble_eq_true rfl) ⟨rfl, rfl⟩ (Nat.le_of_ble_eq_true rfl) (Nat.le_of_ble_eq_true rfl) (Nat.le_of_ble_eq_true rfl) ?_
    rintro M62 ⟨hB63, kp64, kp65, h66, h67, h68, h69, h70, h71, h72, h73, h74, h75, h76, h77, h78, h79, h80⟩
    have hB81 : BF fT M M62 := BF.go hB56 hB63
    have kp82 : mI M62 55 = mI M 55 := kp_go kp57 kp64
    have fr83 : ∀ j : Nat, (j : Int) < mI M 54 14 + 265 + 2 * S → mI M62 57 j = mI M 57 j := fun j hj => (h75 j (by omega)).trans (fr60 j hj)
    have hl2 := h66.len
    have hSJn : SJ M62 (dm t) := SJ.min (M := M40) hSI0 hPI61 kp65 (by omega) (by omega) h76 h77
    have rt84 : RT g n M62 (nx g n p) := RT.same rt58 hB63.2.2 (by omega) (by omega) (by omega) h79 h80
    have hshc : SHc S M M62 o kk := SHc.mk0 hst hplQ hcoQ hEE h78
    refine vc_vret dX12_shut_58 rfl (Nat.le_of_ble_eq_true rfl) (Nat.le_of_ble_eq_true rfl) ?_
    exact ⟨rfl, hB81, kp82, h66, by omega, by omega, by omega, by omega, by omega, by omega, fr83, ⟨⟨hSJn, by omega, rt84⟩, hshc⟩⟩
  · refine vc_aload_n dX12_shut_31 rfl ?_
    refine vc_iload_n dX12_shut_32 rfl ?_
    refine vc_bipush dX12_shut_33 rfl ?_
    refine vc_icmp_ne dX12_shut_35 (fun h85 => ?_) (fun h85 => ?_)
    · refine vc_bipush dX12_shut_43 rfl ?_
      refine vc_iconst dX12_shut_45 rfl ?_
      have k86 : mI (sI (sI M2 54 18 ((mI M2 54 18) - 1)) 54 19 ((mI M2 54 19) - 1)) 54 9 = mI M2 54 9 := rfl
      have k87 : mI (sI (sI M2 54 18 ((mI M2 54 18) - 1)) 54 19 ((mI M2 54 19) - 1)) 54 10 = mI M2 54 10 := rfl
      have k88 : mI (sI (sI M2 54 18 ((mI M2 54 18) - 1)) 54 19 ((mI M2 54 19) - 1)) 54 11 = mI M2 54 11 := rfl
      have k89 : mI (sI (sI M2 54 18 ((mI M2 54 18) - 1)) 54 19 ((mI M2 54 19) - 1)) 54 14 = mI M2 54 14 := rfl
      have k90 : mI (sI (sI M2 54 18 ((mI M2 54 18) - 1)) 54 19 ((mI M2 54 19) - 1)) 54 15 = mI M2 54 15 := rfl
      have k91 : mI (sI (sI M2 54 18 ((mI M2 54 18) - 1)) 54 19 ((mI M2 54 19) - 1)) 54 16 = mI M2 54 16 := rfl
      have k92 : mI (sI (sI M2 54 18 ((mI M2 54 18) - 1)) 54 19 ((mI M2 54 19) - 1)) 54 18 = (mI M2 54 18) - 1 := rfl
      have k93 : mI (sI (sI M2 54 18 ((mI M2 54 18) - 1)) 54 19 ((mI M2 54 19) - 1)) 54 19 = (mI M2 54 19) - 1 := rfl
      have k94 : mI (sI (sI M2 54 18 ((mI M2 54 18) - 1)) 54 19 ((mI M2 54 19) - 1)) 54 20 = mI M2 54 20 := rfl
      have k95 : mI (sI (sI M2 54 18 ((mI M2 54 18) - 1)) 54 19 ((mI M2 54 19) - 1)) 54 21 = mI M2 54 21 := rfl
      have hz5 := congrFun kp27 5
      refine vc_cVU dX12_shut_46 (sfX12_emitF (M := (sI (sI M2 54 18 ((mI M2 54 18) - 1)) 54 19 ((mI M2 54 19) - 1))) hB28.1  8 0 (by omega) (by omega)) rfl okX12_emit viX12_emit lkX12_186 (s_54 hB28.1.1) cl_12 rfl (Nat.le_of_ble_eq_true rfl) ⟨rfl, rfl⟩ (Nat.le_of_ble_eq_true rfl) (Nat.le_of_ble_eq_true rfl) (Nat.le_of_ble_eq_true rfl) ?_
      rintro M96 ⟨hB97, kp98, kp99, h100, h101, h102, h103, h104, h105, h106, h107, h108, h109, h110, h111, h112, h113⟩
      have hB114 : BF fT M M96 := BF.go hB28 hB97
      have kp115 : mI M96 55 = mI M 55 := kp_go kp27 kp98
      have h57 := h101
      have h60 := kp99
      have fr116 := fr_emit (A := M) (B := M2) (t := mI M 54 14 + 265 + 2 * S) (by omega) (by omega) h57 fr23
      have hcoE : Co M96 S = Co M S ++ ((stP 1 (Pl M)).1 ++ [(8, 0)]) := (h111 S h6.2.1 h6.2.2.1).trans (by rw [show Co (sI (sI M2 54 18 ((mI M2 54 18) - 1)) 54 19 ((mI M2 54 19) - 1)) S = Co M2 S from Co.same rfl rfl rfl, h18.2, List.append_assoc])
      refine vc_aload_n dX12_shut_49 rfl ?_
      have hgf := RT.gf hT hB114.2.2
      have hat0 := RT.at hT (by omega)
      have hrg0 := RT.rg hT
      refine vc_cVU dX12_shut_50 (sfX12_nextTokenF (M := M96) hB114.1   (by first | (rw [hgf.2.1]; omega) | omega) (by first | (rw [hgf.1]; exact hgf.2.2) | assumption)) rfl okX12_nextToken viX12_nextToken lkX12_193 (s_54 hB114.1.1) cl_12 rfl (Nat.le_of_ble_eq_true rfl) ⟨rfl, rfl⟩ (Nat.le_of_ble_eq_true rfl) (Nat.le_of_ble_eq_true rfl) (Nat.le_of_ble_eq_true rfl) ?_
      rintro M117 ⟨hB118, kp119, kp120, kp121, h122, h123, h124, h125, h126, h127, h128, h129, h130, h131, h132⟩
      have hB133 : BF fT M M117 := BF.go hB114 hB118.t
      have kp134 : mI M117 55 = mI M 55 := kp_go kp115 kp119
      have rt135 : RT g n M117 (nx g n p) := by
        have z := h132
        rw [hgf.1, hgf.2.1, show mI M96 54 9 = en g n p by first | omega | (show mI M96 54 9 = _; omega)] at z
        exact z
      clear hrg0
      have rg136 := RT.rg rt135
      have fr137 : ∀ j : Nat, (j : Int) < mI M 54 14 + 265 + 2 * S → mI M117 57 j = mI M 57 j := fun j hj => (congrFun kp120 j).trans (fr116 j hj)
      have hbx := b54_10 (M := M117) hB133.1
      have hPI138 : PI M117 S := PI.end (M := M2) (o := o) (o2 := 8) h6 (by omega) (by omega) htk (by omega) (by omega) (kp120.trans h57) (kp121.trans h60) (by omega) (by omega) (by omega) (by omega) (by omega) (by omega) (by omega)
      have e60s : mI M117 60 = mI M 60 := (show mI M117 60 = mI M2 60 from kp121.trans h60).trans kp5
      have hSI0 : SI0 M117 t := SI0.mk hk.1 hk.2.1 e60s (by omega)
      have hplQ : Pl M117 = pls (mI M 60) kk := Pl.atk e60s (by omega)
      have hcoQ : Co M117 S = Co M S ++ ((stP 1 (Pl M)).1 ++ [(8, 0)]) := (Co.same kp120 (by omega) (by omega)).trans hcoE
      have hEE : (if o = 40 then [] else [((if o = 42 then (7 : Int) else 8), (0 : Int))]) = [(8, 0)] := by rw [if_neg (by omega), if_neg (by omega)]
      refine vc_aload_n dX12_shut_53 rfl ?_
      refine vc_iconst dX12_shut_54 rfl ?_
      have hz6 := congrFun kp134 5
      refine vc_cVU dX12_shut_55 (sfX12_settlePileF (M := M117) hB133.1  S 3 (by omega) (by omega) (by assumption) (by omega) (by omega)) rfl okX12_settlePile viX12_settlePile lkX12_211 (s_54 hB133.1.1) cl_12 rfl (Nat.le_of_ble_eq_true rfl) ⟨rfl, rfl⟩ (Nat.le_of_ble_eq_true rfl) (Nat.le_of_ble_eq_true rfl) (Nat.le_of_ble_eq_true rfl) ?_
      rintro M139 ⟨hB140, kp141, kp142, h143, h144, h145, h146, h147, h148, h149, h150, h151, h152, h153, h154, h155, h156, h157⟩
      have hB158 : BF fT M M139 := BF.go hB133 hB140
      have kp159 : mI M139 55 = mI M 55 := kp_go kp134 kp141
      have fr160 : ∀ j : Nat, (j : Int) < mI M 54 14 + 265 + 2 * S → mI M139 57 j = mI M 57 j := fun j hj => (h152 j (by omega)).trans (fr137 j hj)
      have hl2 := h143.len
      have hSJn : SJ M139 (dm t) := SJ.min (M := M117) hSI0 hPI138 kp142 (by omega) (by omega) h153 h154
      have rt161 : RT g n M139 (nx g n p) := RT.same rt135 hB140.2.2 (by omega) (by omega) (by omega) h156 h157
      have hshc : SHc S M M139 o kk := SHc.mk0 hst hplQ hcoQ hEE h155
      refine vc_vret dX12_shut_58 rfl (Nat.le_of_ble_eq_true rfl) (Nat.le_of_ble_eq_true rfl) ?_
      exact ⟨rfl, hB158, kp159, h143, by omega, by omega, by omega, by omega, by omega, by omega, fr160, ⟨⟨hSJn, by omega, rt161⟩, hshc⟩⟩
    · refine vc_bipush dX12_shut_38 rfl ?_
      refine vc_goto dX12_shut_40 ?_
      refine vc_iconst dX12_shut_45 rfl ?_
      have k162 : mI (sI (sI M2 54 18 ((mI M2 54 18) - 1)) 54 19 ((mI M2 54 19) - 1)) 54 9 = mI M2 54 9 := rfl
      have k163 : mI (sI (sI M2 54 18 ((mI M2 54 18) - 1)) 54 19 ((mI M2 54 19) - 1)) 54 10 = mI M2 54 10 := rfl
      have k164 : mI (sI (sI M2 54 18 ((mI M2 54 18) - 1)) 54 19 ((mI M2 54 19) - 1)) 54 11 = mI M2 54 11 := rfl
      have k165 : mI (sI (sI M2 54 18 ((mI M2 54 18) - 1)) 54 19 ((mI M2 54 19) - 1)) 54 14 = mI M2 54 14 := rfl
      have k166 : mI (sI (sI M2 54 18 ((mI M2 54 18) - 1)) 54 19 ((mI M2 54 19) - 1)) 54 15 = mI M2 54 15 := rfl
      have k167 : mI (sI (sI M2 54 18 ((mI M2 54 18) - 1)) 54 19 ((mI M2 54 19) - 1)) 54 16 = mI M2 54 16 := rfl
      have k168 : mI (sI (sI M2 54 18 ((mI M2 54 18) - 1)) 54 19 ((mI M2 54 19) - 1)) 54 18 = (mI M2 54 18) - 1 := rfl
      have k169 : mI (sI (sI M2 54 18 ((mI M2 54 18) - 1)) 54 19 ((mI M2 54 19) - 1)) 54 19 = (mI M2 54 19) - 1 := rfl
      have k170 : mI (sI (sI M2 54 18 ((mI M2 54 18) - 1)) 54 19 ((mI M2 54 19) - 1)) 54 20 = mI M2 54 20 := rfl
      have k171 : mI (sI (sI M2 54 18 ((mI M2 54 18) - 1)) 54 19 ((mI M2 54 19) - 1)) 54 21 = mI M2 54 21 := rfl
      have hz5 := congrFun kp27 5
      refine vc_cVU dX12_shut_46 (sfX12_emitF (M := (sI (sI M2 54 18 ((mI M2 54 18) - 1)) 54 19 ((mI M2 54 19) - 1))) hB28.1  7 0 (by omega) (by omega)) rfl okX12_emit viX12_emit lkX12_186 (s_54 hB28.1.1) cl_12 rfl (Nat.le_of_ble_eq_true rfl) ⟨rfl, rfl⟩ (Nat.le_of_ble_eq_true rfl) (Nat.le_of_ble_eq_true rfl) (Nat.le_of_ble_eq_true rfl) ?_
      rintro M172 ⟨hB173, kp174, kp175, h176, h177, h178, h179, h180, h181, h182, h183, h184, h185, h186, h187, h188, h189⟩
      have hB190 : BF fT M M172 := BF.go hB28 hB173
      have kp191 : mI M172 55 = mI M 55 := kp_go kp27 kp174
      have h57 := h177
      have h60 := kp175
      have fr192 := fr_emit (A := M) (B := M2) (t := mI M 54 14 + 265 + 2 * S) (by omega) (by omega) h57 fr23
      have hcoE : Co M172 S = Co M S ++ ((stP 1 (Pl M)).1 ++ [(7, 0)]) := (h187 S h6.2.1 h6.2.2.1).trans (by rw [show Co (sI (sI M2 54 18 ((mI M2 54 18) - 1)) 54 19 ((mI M2 54 19) - 1)) S = Co M2 S from Co.same rfl rfl rfl, h18.2, List.append_assoc])
      refine vc_aload_n dX12_shut_49 rfl ?_
      have hgf := RT.gf hT hB190.2.2
      have hat0 := RT.at hT (by omega)
      have hrg0 := RT.rg hT
      refine vc_cVU dX12_shut_50 (sfX12_nextTokenF (M := M172) hB190.1   (by first | (rw [hgf.2.1]; omega) | omega) (by first | (rw [hgf.1]; exact hgf.2.2) | assumption)) rfl okX12_nextToken viX12_nextToken lkX12_193 (s_54 hB190.1.1) cl_12 rfl (Nat.le_of_ble_eq_true rfl) ⟨rfl, rfl⟩ (Nat.le_of_ble_eq_true rfl) (Nat.le_of_ble_eq_true rfl) (Nat.le_of_ble_eq_true rfl) ?_
      rintro M193 ⟨hB194, kp195, kp196, kp197, h198, h199, h200, h201, h202, h203, h204, h205, h206, h207, h208⟩
      have hB209 : BF fT M M193 := BF.go hB190 hB194.t
      have kp210 : mI M193 55 = mI M 55 := kp_go kp191 kp195
      have rt211 : RT g n M193 (nx g n p) := by
        have z := h208
        rw [hgf.1, hgf.2.1, show mI M172 54 9 = en g n p by first | omega | (show mI M172 54 9 = _; omega)] at z
        exact z
      clear hrg0
      have rg212 := RT.rg rt211
      have fr213 : ∀ j : Nat, (j : Int) < mI M 54 14 + 265 + 2 * S → mI M193 57 j = mI M 57 j := fun j hj => (congrFun kp196 j).trans (fr192 j hj)
      have hbx := b54_10 (M := M193) hB209.1
      have hPI214 : PI M193 S := PI.end (M := M2) (o := o) (o2 := 7) h6 (by omega) (by omega) htk (by omega) (by omega) (kp196.trans h57) (kp197.trans h60) (by omega) (by omega) (by omega) (by omega) (by omega) (by omega) (by omega)
      have e60s : mI M193 60 = mI M 60 := (show mI M193 60 = mI M2 60 from kp197.trans h60).trans kp5
      have hSI0 : SI0 M193 t := SI0.mk hk.1 hk.2.1 e60s (by omega)
      have hplQ : Pl M193 = pls (mI M 60) kk := Pl.atk e60s (by omega)
      have hcoQ : Co M193 S = Co M S ++ ((stP 1 (Pl M)).1 ++ [(7, 0)]) := (Co.same kp196 (by omega) (by omega)).trans hcoE
      have hEE : (if o = 40 then [] else [((if o = 42 then (7 : Int) else 8), (0 : Int))]) = [(7, 0)] := by rw [if_neg (by omega), if_pos (by omega)]
      refine vc_aload_n dX12_shut_53 rfl ?_
      refine vc_iconst dX12_shut_54 rfl ?_
      have hz6 := congrFun kp210 5
      refine vc_cVU dX12_shut_55 (sfX12_settlePileF (M := M193) hB209.1  S 3 (by omega) (by omega) (by assumption) (by omega) (by omega)) rfl okX12_settlePile viX12_settlePile lkX12_211 (s_54 hB209.1.1) cl_12 rfl (Nat.le_of_ble_eq_true rfl) ⟨rfl, rfl⟩ (Nat.le_of_ble_eq_true rfl) (Nat.le_of_ble_eq_true rfl) (Nat.le_of_ble_eq_true rfl) ?_
      rintro M215 ⟨hB216, kp217, kp218, h219, h220, h221, h222, h223, h224, h225, h226, h227, h228, h229, h230, h231, h232, h233⟩
      have hB234 : BF fT M M215 := BF.go hB209 hB216
      have kp235 : mI M215 55 = mI M 55 := kp_go kp210 kp217
      have fr236 : ∀ j : Nat, (j : Int) < mI M 54 14 + 265 + 2 * S → mI M215 57 j = mI M 57 j := fun j hj => (h228 j (by omega)).trans (fr213 j hj)
      have hl2 := h219.len
      have hSJn : SJ M215 (dm t) := SJ.min (M := M193) hSI0 hPI214 kp218 (by omega) (by omega) h229 h230
      have rt237 : RT g n M215 (nx g n p) := RT.same rt211 hB216.2.2 (by omega) (by omega) (by omega) h232 h233
      have hshc : SHc S M M215 o kk := SHc.mk0 hst hplQ hcoQ hEE h231
      refine vc_vret dX12_shut_58 rfl (Nat.le_of_ble_eq_true rfl) (Nat.le_of_ble_eq_true rfl) ?_
      exact ⟨rfl, hB234, kp235, h219, by omega, by omega, by omega, by omega, by omega, by omega, fr236, ⟨⟨hSJn, by omega, rt237⟩, hshc⟩⟩
