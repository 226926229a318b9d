theorem TT9.co {k x : Int → Int} {R R' : Nat → Int} {b p m : Int} (b0 : 0 ≤ b) (m6 : m ≤ 6) (h : TT9 k x R b p m) (hr : ∀ j : Nat, b + 1 ≤ (j : Int) → (j : Int) ≤ b + 10 → R' j = R j) : TT9 k x R' b p m := ⟨by rw [hr _ (by omega) (by omega)]; exact h.1, fun i hi => by rw [hr _ (by omega) (by omega)]; exact h.2.1 i hi, h.2.2⟩
theorem TL9.co {k x : Int → Int} {R R' : Nat → Int} {b p : Int} (b0 : 0 ≤ b) (h : TL9 k x R b p) (hr : ∀ j : Nat, b + 1 ≤ (j : Int) → (j : Int) ≤ b + 10 → R' j = R j) : TL9 k x R' b p := by
  obtain ⟨a, c, m, hm, ht, hk⟩ := h
  exact ⟨by rw [hr _ (by omega) (by omega)]; exact a, by rw [hr _ (by omega) (by omega)]; exact c, m, hm, ht.co b0 hm.2 hr, hk⟩
/-- the row at b of the reference's texts is the clause at p -/
def Q57 (k x : Int → Int) (R : Nat → Int) (b p : Int) : Prop := (101 ≤ k p ∧ k p ≤ 116) ∧ R b.toNat = k p - 101 ∧ (106 ≤ k p → R (b + 1).toNat = rw1 k (k p - 101) (x p)) ∧ (k p = 107 ∨ k p = 108 ∨ k p = 111 ∨ k p = 112 → R (b + 2).toNat = rw2 k x (k p - 101) (x p)) ∧ (k p = 107 ∨ k p = 108 → R (b + 3).toNat = rw3 k x (k p - 101) (x p)) ∧ (k p = 111 → TL9 k x R b (x p))
theorem Q57.co {k x : Int → Int} {R R' : Nat → Int} {b p : Int} (b0 : 0 ≤ b) (h : Q57 k x R b p) (hr : ∀ j : Nat, b ≤ (j : Int) → (j : Int) ≤ b + 10 → R' j = R j) : Q57 k x R' b p := by
  obtain ⟨a, c, d, e, f, g⟩ := h
  exact ⟨a, by rw [hr _ (by omega) (by omega)]; exact c, fun q => by rw [hr _ (by omega) (by omega)]; exact d q, fun q => by rw [hr _ (by omega) (by omega)]; exact e q, fun q => by rw [hr _ (by omega) (by omega)]; exact f q, fun q => (g q).co b0 (fun j j1 j2 => hr j (by omega) j2)⟩
theorem Q57.of {k x : Int → Int} {R : Nat → Int} {b w p : Int} (hk : 101 ≤ k p ∧ k p ≤ 116) (hw : w = k p - 101) (h0 : R b.toNat = w) (hd : 5 ≤ w → R (b + 1).toNat = rw1 k w (x p) ∧ (w = 6 ∨ w = 7 ∨ w = 10 ∨ w = 11 → R (b + 2).toNat = rw2 k x w (x p)) ∧ (w = 6 ∨ w = 7 → R (b + 3).toNat = rw3 k x w (x p)) ∧ (w = 10 → TL9 k x R b (x p))) : Q57 k x R b p := by
  subst hw
  exact ⟨hk, h0, fun q => (hd (by omega)).1, fun q => (hd (by omega)).2.1 (by omega), fun q => (hd (by omega)).2.2.1 (by omega), fun q => (hd (by omega)).2.2.2 (by omega)⟩
/-- a clause was read: its row, and those before -/
def CL9 (g : Nat → Int) (n : Int) (M N : Mem) (r p : Int) : Prop := r = 0 → Q57 (tk g n) (nx g n) (mI N 57) (mI M 54 14 + 1 + 11 * mI M 57 (mI M 54 14).toNat) p ∧ ∀ j : Nat, (j : Int) ≠ mI M 54 14 → (j : Int) < mI M 54 14 + 1 + 11 * mI M 57 (mI M 54 14).toNat → mI N 57 j = mI M 57 j
/-- the clauses that were read -/
def RIr (g : Nat → Int) (n : Int) (N : Mem) : Prop := (∀ q, RT g n N q → q = plS (tk g n) (nx g n) (skb g n 0) (mI N 57 (mI N 54 14).toNat).toNat) ∧ ∀ e : Nat, (e : Int) < mI N 57 (mI N 54 14).toNat → Q57 (tk g n) (nx g n) (mI N 57) (mI N 54 14 + 1 + 11 * e) (plS (tk g n) (nx g n) (skb g n 0) e) ∧ (sBody (tk g n) (nx g n) (tk g n (plS (tk g n) (nx g n) (skb g n 0) e) - 101) (nx g n (plS (tk g n) (nx g n) (skb g n 0) e))).1 = 0
theorem RIr.next {g : Nat → Int} {n : Int} {M N : Mem} {on : Int → Int} {q r : Int} (h : RIr g n M) (hq : RT g n M q) (h0 : 0 ≤ mI M 57 (mI M 54 14).toNat) (h14 : mI N 54 14 = mI M 54 14) (hc : CLr g n M N on r q) (h9 : CL9 g n M N r q) (hr : r = 0) (t0 : 0 ≤ mI M 54 14) : RIr g n N := by
  have eq := h.1 q hq
  obtain ⟨a, b⟩ := h9 hr
  obtain ⟨c, d⟩ := hc
  have c1 := c.ok hr
  have d1 := (d hr).2
  have k := sClause_ok c1.1
  unfold RIr
  rw [d1, h14]
  refine ⟨fun q2 h2 => ?_, fun e he => ?_⟩
  · rw [RT.uq c1.2 h2, k.1, show (mI M 57 (mI M 54 14).toNat + 1).toNat = (mI M 57 (mI M 54 14).toNat).toNat + 1 by omega, eq]
    rfl
  · by_cases e1 : (e : Int) = mI M 57 (mI M 54 14).toNat
    · rw [e1, show e = (mI M 57 (mI M 54 14).toNat).toNat by omega, ← eq]
      exact ⟨a, k.2.1⟩
    · exact ⟨(h.2 e (by omega)).1.co (by omega) (fun j j1 j2 => b j (by omega) (by omega)), (h.2 e (by omega)).2⟩
theorem CL9_of {g : Nat → Int} {n : Int} {M C N : Mem} {X so r p : Int} (hX : X = mI M 54 14 + 1 + 11 * mI M 57 (mI M 54 14).toNat) (h14 : 0 ≤ mI M 54 14) (c0 : 0 ≤ mI M 57 (mI M 54 14).toNat) (hs : tk g n p = 101 + so ∧ 0 ≤ so ∧ so ≤ 15) (hn : ∀ j : Nat, j ≠ (mI M 54 14).toNat → mI C 57 j = mI N 57 j) (hb : mI N 57 X.toNat = so) (hd : 5 ≤ so → mI N 57 (X + 1).toNat = rw1 (tk g n) so (nx g n p) ∧ (so = 6 ∨ so = 7 ∨ so = 10 ∨ so = 11 → mI N 57 (X + 2).toNat = rw2 (tk g n) (nx g n) so (nx g n p)) ∧ (so = 6 ∨ so = 7 → mI N 57 (X + 3).toNat = rw3 (tk g n) (nx g n) so (nx g n p)) ∧ (so = 10 → TL9 (tk g n) (nx g n) (mI N 57) X (nx g n p))) (hf : ∀ j : Nat, (j : Int) < X → mI N 57 j = mI M 57 j) : CL9 g n M C r p := fun _ => by
  obtain ⟨s1, s2, s3⟩ := hs
  rw [← hX]
  refine ⟨Q57.of (w := so) ⟨by omega, by omega⟩ (by omega) ((hn _ (by omega)).trans hb) (fun h5 => ?_), fun j j1 j2 => (hn j (by omega)).trans (hf j j2)⟩
  obtain ⟨z1, z2, z3, z4⟩ := hd h5
  exact ⟨(hn _ (by omega)).trans z1, fun q => (hn _ (by omega)).trans (z2 q), fun q => (hn _ (by omega)).trans (z3 q), fun q => (z4 q).co (by omega) (fun j j1 j2 => hn j (by omega))⟩

/-- a clause was read: the code of its law, and what was written stays -/
def LW5 (g : Nat → Int) (n : Int) (M N : Mem) (r p : Int) : Prop := r = 0 → (∀ j : Nat, mI M 54 14 + 265 ≤ j → (j : Int) < mI M 54 14 + 265 + 2 * mI M 54 15 → mI N 57 j = mI M 57 j) ∧ mI M 54 15 ≤ mI N 54 15 ∧ (tk g n p ≤ 105 → LB9 (tk g n) (nx g n) (mI N 57) (mI M 54 14) (mI M 54 14 + 1 + 11 * mI M 57 (mI M 54 14).toNat) (nx g n p) ∧ mI N 57 (mI M 54 14 + 1 + 11 * mI M 57 (mI M 54 14).toNat + 2).toNat ≤ mI N 54 15)
theorem LW5.of {g : Nat → Int} {n : Int} {M C N : Mem} {X so r p t1 : Int} (hX : X = mI M 54 14 + 1 + 11 * mI M 57 (mI M 54 14).toNat) (h14 : 0 ≤ mI M 54 14) (c0 : 0 ≤ mI M 57 (mI M 54 14).toNat) (c24 : mI M 57 (mI M 54 14).toNat ≤ 23) (hs : tk g n p = 101 + so ∧ 0 ≤ so ∧ so ≤ 15) (hn : ∀ j : Nat, j ≠ (mI M 54 14).toNat → mI C 57 j = mI N 57 j) (ht1 : t1 = mI M 54 14) (hd : so ≤ 4 → LB9 (tk g n) (nx g n) (mI N 57) t1 X (nx g n p) ∧ mI N 57 (X + 2).toNat ≤ mI N 54 15) (hf : ∀ j : Nat, (mI M 54 14 < j ∧ (j : Int) < X ∨ (X + 11 ≤ j ∧ (j : Int) < mI M 54 14 + 265 + 2 * mI M 54 15)) → mI N 57 j = mI M 57 j) (hw : mI M 54 15 ≤ mI C 54 15) (e15 : mI C 54 15 = mI N 54 15) : LW5 g n M C r p := fun _ => by
  subst ht1
  rw [← hX]
  refine ⟨fun j j1 j2 => (hn j (by omega)).trans (hf j (Or.inr ⟨by omega, j2⟩)), hw, fun h5 => ?_⟩
  obtain ⟨a, b⟩ := hd (by omega)
  exact ⟨a.co h14 (hn _ (by omega)) (hn _ (by omega)) (fun j j1 j2 => hn j (by omega)), by rw [hn _ (by omega), e15]; exact b⟩
/-- the laws that were read -/
def LIr (g : Nat → Int) (n : Int) (N : Mem) : Prop := ∀ e : Nat, (e : Int) < mI N 57 (mI N 54 14).toNat → tk g n (plS (tk g n) (nx g n) (skb g n 0) e) ≤ 105 → LB9 (tk g n) (nx g n) (mI N 57) (mI N 54 14) (mI N 54 14 + 1 + 11 * e) (nx g n (plS (tk g n) (nx g n) (skb g n 0) e)) ∧ mI N 57 (mI N 54 14 + 1 + 11 * e + 2).toNat ≤ mI N 54 15
theorem LIr.next {g : Nat → Int} {n : Int} {M N : Mem} {on : Int → Int} {q r : Int} (h : LIr g n M) (hR : RIr g n M) (hq : RT g n M q) (h0 : 0 ≤ mI M 57 (mI M 54 14).toNat) (h24 : mI M 57 (mI M 54 14).toNat ≤ 24) (h14 : mI N 54 14 = mI M 54 14) (hc : CLr g n M N on r q) (h9 : CL9 g n M N r q) (h5 : LW5 g n M N r q) (hr : r = 0) (t0 : 0 ≤ mI M 54 14) : LIr g n N := by
  have eq := hR.1 q hq
  obtain ⟨a, b⟩ := h9 hr
  obtain ⟨f, w, l⟩ := h5 hr
  obtain ⟨c, d⟩ := hc
  have d1 := (d hr).2
  unfold LIr
  rw [d1, h14]
  intro e he hk
  by_cases e1 : (e : Int) = mI M 57 (mI M 54 14).toNat
  · rw [e1]
    rw [show e = (mI M 57 (mI M 54 14).toNat).toNat by omega, ← eq] at hk ⊢
    exact l hk
  · obtain ⟨z1, z2⟩ := h e (by omega) hk
    have y : ∀ i : Int, 0 ≤ i → i ≤ 10 → mI N 57 (mI M 54 14 + 1 + 11 * e + i).toNat = mI M 57 (mI M 54 14 + 1 + 11 * e + i).toNat := fun i i0 i1 => b _ (by omega) (by omega)
    have y1 := y 1 (by omega) (by omega)
    have y2 := y 2 (by omega) (by omega)
    exact ⟨z1.co t0 y1 y2 (fun j j1 j2 => f j j1 (by omega)), by omega⟩
set_option maxRecDepth 4000 in
theorem sfX12_hasF {l : Launch} {M : Mem} (hB : Box M)  (s : Int) (k : Int)  : Call l mdX12_has [aI s, aI k] M (fun q N => ∃ r : Int, q = some (aI r) ∧ M = N ∧ 0 ≤ r ∧ r ≤ 1 ∧ ((r = 1 ∧ shrI s k % 2 = 1) ∨ (r = 0 ∧ ¬ shrI s k % 2 = 1))) := by
  have hB0 : BF fQ M M := BF.start hB
  refine Call.of [some (aI s), some (aI k)] rfl (Nat.le_of_ble_eq_true rfl) rfl ?_
  refine vc_ok (fun hoM hoS hoL => ?_)
  have hr0 : -2147483648 ≤ s ∧ s < 2147483648 := hoL 0 _ rfl
  have hr1 : -2147483648 ≤ k ∧ k < 2147483648 := hoL 1 _ rfl
  refine vc_iload_n dX12_has_0 rfl ?_
  refine vc_iload_n dX12_has_1 rfl ?_
  refine vc_ishr dX12_has_2 ?_
  refine vc_iconst dX12_has_3 rfl ?_
  refine vc_iandM dX12_has_4 2 1 rfl (by decide) rfl ?_
  refine vc_iconst dX12_has_5 rfl ?_
  refine vc_icmp_ne dX12_has_6 (fun h1 => ?_) (fun h1 => ?_)
  · refine vc_iconst dX12_has_13 rfl ?_
    refine vc_zret dX12_has_14 rfl (by first | decide | omega) (Nat.le_of_ble_eq_true rfl) (Nat.le_of_ble_eq_true rfl) ?_
    exact ⟨_, rfl, rfl, by omega, by omega, by omega⟩
  · refine vc_iconst dX12_has_9 rfl ?_
    refine vc_goto dX12_has_10 ?_
    refine vc_zret dX12_has_14 rfl (by first | decide | omega) (Nat.le_of_ble_eq_true rfl) (Nat.le_of_ble_eq_true rfl) ?_
    exact ⟨_, rfl, rfl, by omega, by omega, by omega⟩

set_option maxHeartbeats 4000000 in
set_option maxRecDepth 4000 in
theorem sfX12_clauseF {l : Launch} {M : Mem} (hB : Box M) (g : Nat → Int) (n p : Int) (hT : RT g n M p) (on : Int → Int)  (p0 : mI M 54 14 = 873 * mI M 55 5) (p1 : mI M 54 10 ≤ mI M 54 9) (p2 : mI M 54 11 = 0 ∨ mI M 54 10 < mI M 54 9) (p3 : mI M 54 15 ≤ mI M 54 10) (p4 : 0 ≤ mI M 57 (mI M 54 14).toNat) (p5 : mI M 57 (mI M 54 14).toNat ≤ 24) (p6 : CLS (mI M 57) (mI M 54 14) (mI M 54 15) (mI M 57 (mI M 54 14).toNat)) (p7 : ONb (mI M 54 21) on) : Call l mdX12_clause [aR 54] M (fun q N => ∃ r : Int, q = some (aI r) ∧ BF fT M N ∧ mI N 55 = mI M 55 ∧ (r = 0 → CLS (mI N 57) (mI N 54 14) (mI N 54 15) (mI N 57 (mI N 54 14).toNat)) ∧ (r ≠ 0 ∨ (0 ≤ mI N 57 (mI N 54 14).toNat ∧ mI N 57 (mI N 54 14).toNat ≤ 24)) ∧ (r ≠ 0 ∨ mI N 54 15 ≤ mI N 54 10) ∧ (r ≠ 0 ∨ mI M 54 10 < mI N 54 10) ∧ mI N 54 10 ≤ mI N 54 9 ∧ (mI N 54 11 = 0 ∨ mI N 54 10 < mI N 54 9) ∧ mI N 54 14 = mI M 54 14 ∧ (CLr g n M N on r p ∧ CL9 g n M N r p ∧ LW5 g n M N r p)) := by
  have hB0 : BF fT M M := BF.start hB
  refine Call.of [some (aR 54), none, none, none, none] rfl (Nat.le_of_ble_eq_true rfl) rfl ?_
  have pCL := p6
  have hk10 := b54_10 hB
  have hk9 := b54_9 hB
  have hk15 := b54_15 hB
  have hk14 := b54_14 hB
  have hk5 := b55_5 hB
  have rg1 := hT.2.1
  refine vc_aload_n dX12_clause_0 rfl ?_
  refine vc_cVI dX12_clause_1 (sfX12_sortOfF (M := M) hB0.1  g n p hT ) rfl okX12_sortOf viX12_sortOf lkX12_262 (s_54 hB0.1.1) cl_12 rfl (Nat.le_of_ble_eq_true rfl) ⟨rfl, rfl⟩ (Nat.le_of_ble_eq_true rfl) (Nat.le_of_ble_eq_true rfl) (Nat.le_of_ble_eq_true rfl) ?_
  rintro x2 _ ⟨rfl, h3, h4, h5, h6⟩
  have hsort := h6
  refine vc_istore_n dX12_clause_4 (by decide) rfl (show _ = [some (aR 54), some (aI x2), none, none, none] from rfl) ?_
  refine vc_iload_n dX12_clause_5 rfl ?_
  refine vc_if_ge dX12_clause_6 (fun h7 => ?_) (fun h7 => ?_)
  · have hs1 : tk g n p = 101 + x2 ∧ 0 ≤ x2 ∧ x2 ≤ 15 := by omega
    clear hsort
    refine vc_iload_n dX12_clause_11 rfl ?_
    refine vc_iconst dX12_clause_12 rfl ?_
    refine vc_icmp_gt dX12_clause_13 (fun h8 => ?_) (fun h8 => ?_)
    · refine vc_aload_n dX12_clause_29 rfl ?_
      refine vc_getR dX12_clause_30 flX12_16 (s_54 hB0.1.1) rfl (r_54_2 hB0.1.1) ?_
      refine vc_aload_n dX12_clause_33 rfl ?_
      refine vc_getI dX12_clause_34 flX12_167 (s_54 hB0.1.1) rfl ?_
      have k9 : 0 ≤ mI M 54 14 ∧ mI M 54 14 ≤ 2619 := b54_14 (M := M) hB0.1
      refine vc_iaload dX12_clause_37 (s_57 hB0.1.1) (by omega) (by omega) ?_
      refine vc_nameI (fun x10 ex10 => ?_)
      refine vc_istore_n dX12_clause_38 (by decide) rfl (show _ = [some (aR 54), some (aI x2), some (aI x10), none, none] from rfl) ?_
      refine vc_iload_n dX12_clause_39 rfl ?_
      refine vc_bipush dX12_clause_40 rfl ?_
      refine vc_icmp_ne dX12_clause_42 (fun h11 => ?_) (fun h11 => ?_)
      · refine vc_iload_n dX12_clause_48 rfl ?_
        refine vc_iconst dX12_clause_49 rfl ?_
        refine vc_icmp_gt dX12_clause_50 (fun h12 => ?_) (fun h12 => by exfalso; omega)
        refine vc_aload_n dX12_clause_65 rfl ?_
        refine vc_iload_n dX12_clause_66 rfl ?_
        refine vc_putI dX12_clause_67 (plX12_177 _ rfl) (s_54 hB0.1.1) rfl ?_
        have kp13 : mI (sI M 54 16 x2) 55 = mI M 55 := (kp_sI rfl rfl)
        have hB14 : BF fT M (sI M 54 16 x2) := BF.w54_16 hB0 rfl
        refine vc_aload_n dX12_clause_70 rfl ?_
        have hgf := RT.gf hT hB14.2.2
        have hat0 := RT.at hT (by omega)
        have hrg0 := RT.rg hT
        have k15 : mI (sI M 54 16 x2) 54 9 = mI M 54 9 := rfl
        have k16 : mI (sI M 54 16 x2) 54 10 = mI M 54 10 := rfl
        have k17 : mI (sI M 54 16 x2) 54 11 = mI M 54 11 := rfl
        have k18 : mI (sI M 54 16 x2) 54 14 = mI M 54 14 := rfl
        have k19 : mI (sI M 54 16 x2) 54 15 = mI M 54 15 := rfl
        have k20 : mI (sI M 54 16 x2) 54 16 = x2 := rfl
        have k21 : mI (sI M 54 16 x2) 54 18 = mI M 54 18 := rfl
        have k22 : mI (sI M 54 16 x2) 54 19 = mI M 54 19 := rfl
        have k23 : mI (sI M 54 16 x2) 54 20 = mI M 54 20 := rfl
        have k24 : mI (sI M 54 16 x2) 54 21 = mI M 54 21 := rfl
        refine vc_cVU dX12_clause_71 (sfX12_nextTokenF (M := (sI M 54 16 x2)) hB14.1   (by first | (rw [hgf.2.1]; omega) | omega) (by first | (rw [hgf.1]; exact hgf.2.2) | assumption)) rfl okX12_nextToken viX12_nextToken lkX12_193 (s_54 hB14.1.1) cl_12 rfl (Nat.le_of_ble_eq_true rfl) ⟨rfl, rfl⟩ (Nat.le_of_ble_eq_true rfl) (Nat.le_of_ble_eq_true rfl) (Nat.le_of_ble_eq_true rfl) ?_
        rintro M25 ⟨hB26, kp27, kp28, kp29, h30, h31, h32, h33, h34, h35, h36, h37, h38, h39, h40⟩
        have hB41 : BF fT M M25 := BF.go hB14 hB26.t
        have kp42 : mI M25 55 = mI M 55 := kp_go kp13 kp27
        have rt43 : RT g n M25 (nx g n p) := by
          have z := h40
          rw [hgf.1, hgf.2.1, show mI (sI M 54 16 x2) 54 9 = en g n p by first | omega | (show mI M 54 9 = _; omega)] at z
          exact z
        clear hrg0
        have hnt : mI M25 57 = mI M 57 := kp28
        have hb9 := b54_9 (M := M25) hB41.1
        refine vc_aload_n dX12_clause_74 rfl ?_
        refine vc_getI dX12_clause_75 flX12_167 (s_54 hB41.1.1) rfl ?_
        have k44 : 0 ≤ mI M25 54 14 ∧ mI M25 54 14 ≤ 2619 := b54_14 (M := M25) hB41.1
        refine vc_iconst dX12_clause_78 rfl ?_
        refine vc_iaddE dX12_clause_79 (by omega) (by omega) ?_
        refine vc_bipush dX12_clause_80 rfl ?_
        refine vc_iload_n dX12_clause_82 rfl ?_
        refine vc_imulE dX12_clause_83 (by omega) (by omega) ?_
        refine vc_iaddE dX12_clause_84 (by omega) (by omega) ?_
        refine vc_nameI (fun x45 ex45 => ?_)
        refine vc_istore_n dX12_clause_85 (by decide) rfl (show _ = [some (aR 54), some (aI x2), some (aI x10), some (aI x45), none] from rfl) ?_
        have hz5 := congrFun kp42 5
        refine vc_aload_n dX12_clause_86 rfl ?_
        refine vc_getR dX12_clause_87 flX12_16 (s_54 hB41.1.1) rfl (r_54_2 hB41.1.1) ?_
        refine vc_iload_n dX12_clause_90 rfl ?_
        refine vc_iload_n dX12_clause_91 rfl ?_
        refine vc_iastore dX12_clause_92 (s_57 hB41.1.1) (by omega) (by omega) ?_
        have kp46 : mI (sI M25 57 x45.toNat x2) 55 = mI M 55 := (kp_sI kp42 rfl)
        have hB47 : BF fT M (sI M25 57 x45.toNat x2) := BF.x57 (x := x45) hB41 (by omega)
        refine vc_aload_n dX12_clause_93 rfl ?_
        refine vc_iload_n dX12_clause_94 rfl ?_
        refine vc_iload_n dX12_clause_95 rfl ?_
        have rt48 : RT g n (sI M25 57 x45.toNat x2) (nx g n p) := RT.same rt43 (Fz.sI rfl) rfl rfl rfl rfl rfl
        have k49 : mI (sI M25 57 x45.toNat x2) 54 9 = mI M25 54 9 := rfl
        have k50 : mI (sI M25 57 x45.toNat x2) 54 10 = mI M25 54 10 := rfl
        have k51 : mI (sI M25 57 x45.toNat x2) 54 11 = mI M25 54 11 := rfl
        have k52 : mI (sI M25 57 x45.toNat x2) 54 14 = mI M25 54 14 := rfl
        have k53 : mI (sI M25 57 x45.toNat x2) 54 15 = mI M25 54 15 := rfl
        have k54 : mI (sI M25 57 x45.toNat x2) 54 16 = mI M25 54 16 := rfl
        have k55 : mI (sI M25 57 x45.toNat x2) 54 18 = mI M25 54 18 := rfl
        have k56 : mI (sI M25 57 x45.toNat x2) 54 19 = mI M25 54 19 := rfl
        have k57 : mI (sI M25 57 x45.toNat x2) 54 20 = mI M25 54 20 := rfl
        have k58 : mI (sI M25 57 x45.toNat x2) 54 21 = mI M25 54 21 := rfl
        have hz5 := congrFun kp46 5
        have hbx := b54_10 (M := (sI M25 57 x45.toNat x2)) hB47.1
        have hX9 : x45 = mI M 54 14 + 1 + 11 * mI M 57 (mI M 54 14).toNat := by omega
        have h149 : 0 ≤ mI M 54 14 := by omega
        have c09 : 0 ≤ mI M 57 (mI M 54 14).toNat := by omega
        have c249 : mI M 57 (mI M 54 14).toNat ≤ 23 := by omega
        have ht19 : mI (sI M25 57 x45.toNat x2) 54 14 = mI M 54 14 := by omega
        refine vc_cVI dX12_clause_96 (sfX12_bodyF (M := (sI M25 57 x45.toNat x2)) hB47.1  g n (nx g n p) rt48 x2 x45 (by omega) (by omega) (by omega) (by omega) (by omega) (by omega) (by omega) (by omega) (by omega) (by omega) (by omega)) rfl okX12_body viX12_body lkX12_272 (s_54 hB47.1.1) cl_12 rfl (Nat.le_of_ble_eq_true rfl) ⟨rfl, rfl⟩ (Nat.le_of_ble_eq_true rfl) (Nat.le_of_ble_eq_true rfl) (Nat.le_of_ble_eq_true rfl) ?_
        rintro x59 M60 ⟨hB61, kp62, h63, h64, h65, h66, h67, h68, h69, h70, h71, h72, h73, h74, h75⟩
        have hB76 : BF fT M M60 := BF.go hB47 hB61
        have kp77 : mI M60 55 = mI M 55 := kp_go kp46 kp62
        have hF78 : FR g n M60 x59 (sBody (tk g n) (nx g n) x2 (nx g n p)) := h75.1
        have hbf := h74
        have hbs : mI M60 57 (x45).toNat = x2 := (hbf (x45).toNat (by omega)).trans mI_same
        have hb0 : mI M60 57 (mI M 54 14).toNat = x10 := (hbf (mI M 54 14).toNat (by omega)).trans (by rw [mI_sI, if_neg (fun e => by omega), hnt]; omega)
        have hbc := h65
        have hbw := b54_15 (M := M60) hB76.1
        have hfj : ∀ j : Nat, (mI M 54 14 < j ∧ (j : Int) < x45 ∨ (x45 + 11 ≤ j ∧ (j : Int) < mI M 54 14 + 265 + 2 * mI M 54 15)) → mI M60 57 j = mI M 57 j := fun j hj => (hbf j (by omega)).trans (by rw [mI_sI, if_neg (fun e => by omega), hnt])
        have hbi : mI M60 57 (mI M60 54 14).toNat = x10 := by rw [show mI M60 54 14 = mI M 54 14 by omega]; exact hb0
        refine vc_istore dX12_clause_99 (by decide) rfl (show _ = [some (aR 54), some (aI x2), some (aI x10), some (aI x45), some (aI x59)] from rfl) ?_
        refine vc_iload dX12_clause_101 rfl ?_
        refine vc_if_eq dX12_clause_103 (fun h79 => ?_) (fun h79 => ?_)
        · have e80 := FR.ok hF78 (by omega)
          have hz5 := congrFun kp77 5
          have hx0 : x59 = 0 := by omega
          have ybt := h63.resolve_left (fun h => h hx0)
          have ybl := h64.resolve_left (fun h => h hx0)
          have y3 := h66.resolve_left (fun h => h hx0)
          have y4 := h67.resolve_left (fun h => h hx0)
          have y5 := h68.resolve_left (fun h => h hx0)
          clear h63 h64 h66 h67 h68
          refine vc_aload_n dX12_clause_109 rfl ?_
          refine vc_getR dX12_clause_110 flX12_16 (s_54 hB76.1.1) rfl (r_54_2 hB76.1.1) ?_
          refine vc_aload_n dX12_clause_113 rfl ?_
          refine vc_getI dX12_clause_114 flX12_167 (s_54 hB76.1.1) rfl ?_
          have k81 : 0 ≤ mI M60 54 14 ∧ mI M60 54 14 ≤ 2619 := b54_14 (M := M60) hB76.1
          refine vc_dup2 dX12_clause_117 rfl rfl ?_
          refine vc_iaload dX12_clause_118 (s_57 hB76.1.1) (by omega) (by omega) ?_
          refine vc_iconst dX12_clause_119 rfl ?_
          refine vc_iaddE dX12_clause_120 (by omega) (by omega) ?_
          refine vc_iastore dX12_clause_121 (s_57 hB76.1.1) (by omega) (by omega) ?_
          have kp82 : mI (sI M60 57 ((mI M60 54 14).toNat) ((mI M60 57 ((mI M60 54 14).toNat)) + 1)) 55 = mI M 55 := (kp_sI kp77 rfl)
          have hB83 : BF fT M (sI M60 57 ((mI M60 54 14).toNat) ((mI M60 57 ((mI M60 54 14).toNat)) + 1)) := BF.x57 (x := mI M60 54 14) hB76 (by omega)
          have hs59 := RT.sg e80.2 59 (t := -241) (by decide) (by decide)
          refine vc_aload_n dX12_clause_122 rfl ?_
          refine vc_getI dX12_clause_123 flX12_129 (s_54 hB83.1.1) rfl ?_
          refine vc_topI (mI M60 54 11) rfl ?_
          refine vc_bipush dX12_clause_126 rfl ?_
          refine vc_icmp_eq dX12_clause_128 (fun h84 => ?_) (fun h84 => ?_)
          · have ht59 : tk g n ((sBody (tk g n) (nx g n) x2 (nx g n p)).2) = -241 := hs59.mp (by omega)
            clear hs59
            refine vc_aload_n dX12_clause_133 rfl ?_
            have hgf := RT.gf hT hB83.2.2
            have hat0 := RT.at e80.2 (by omega)
            have hrg0 := RT.rg e80.2
            have k85 : mI (sI M60 57 ((mI M60 54 14).toNat) ((mI M60 57 ((mI M60 54 14).toNat)) + 1)) 54 9 = mI M60 54 9 := rfl
            have k86 : mI (sI M60 57 ((mI M60 54 14).toNat) ((mI M60 57 ((mI M60 54 14).toNat)) + 1)) 54 10 = mI M60 54 10 := rfl
            have k87 : mI (sI M60 57 ((mI M60 54 14).toNat) ((mI M60 57 ((mI M60 54 14).toNat)) + 1)) 54 11 = mI M60 54 11 := rfl
            have k88 : mI (sI M60 57 ((mI M60 54 14).toNat) ((mI M60 57 ((mI M60 54 14).toNat)) + 1)) 54 14 = mI M60 54 14 := rfl
            have k89 : mI (sI M60 57 ((mI M60 54 14).toNat) ((mI M60 57 ((mI M60 54 14).toNat)) + 1)) 54 15 = mI M60 54 15 := rfl
            have k90 : mI (sI M60 57 ((mI M60 54 14).toNat) ((mI M60 57 ((mI M60 54 14).toNat)) + 1)) 54 16 = mI M60 54 16 := rfl
            have k91 : mI (sI M60 57 ((mI M60 54 14).toNat) ((mI M60 57 ((mI M60 54 14).toNat)) + 1)) 54 18 = mI M60 54 18 := rfl
            have k92 : mI (sI M60 57 ((mI M60 54 14).toNat) ((mI M60 57 ((mI M60 54 14).toNat)) + 1)) 54 19 = mI M60 54 19 := rfl
            have k93 : mI (sI M60 57 ((mI M60 54 14).toNat) ((mI M60 57 ((mI M60 54 14).toNat)) + 1)) 54 20 = mI M60 54 20 := rfl
            have k94 : mI (sI M60 57 ((mI M60 54 14).toNat) ((mI M60 57 ((mI M60 54 14).toNat)) + 1)) 54 21 = mI M60 54 21 := rfl
            refine vc_cVU dX12_clause_134 (sfX12_nextTokenF (M := (sI M60 57 ((mI M60 54 14).toNat) ((mI M60 57 ((mI M60 54 14).toNat)) + 1))) hB83.1   (by first | (rw [hgf.2.1]; omega) | omega) (by first | (rw [hgf.1]; exact hgf.2.2) | assumption)) rfl okX12_nextToken viX12_nextToken lkX12_193 (s_54 hB83.1.1) cl_12 rfl (Nat.le_of_ble_eq_true rfl) ⟨rfl, rfl⟩ (Nat.le_of_ble_eq_true rfl) (Nat.le_of_ble_eq_true rfl) (Nat.le_of_ble_eq_true rfl) ?_
            rintro M95 ⟨hB96, kp97, kp98, kp99, h100, h101, h102, h103, h104, h105, h106, h107, h108, h109, h110⟩
            have hB111 : BF fT M M95 := BF.go hB83 hB96.t
            have kp112 : mI M95 55 = mI M 55 := kp_go kp82 kp97
            have rt113 : RT g n M95 (nx g n ((sBody (tk g n) (nx g n) x2 (nx g n p)).2)) := by
              have z := h110
              rw [hgf.1, hgf.2.1, show mI (sI M60 57 ((mI M60 54 14).toNat) ((mI M60 57 ((mI M60 54 14).toNat)) + 1)) 54 9 = en g n ((sBody (tk g n) (nx g n) x2 (nx g n p)).2) by first | omega | (show mI M60 54 9 = _; omega)] at z
              exact z
            clear hrg0
            have hn57 : ∀ j : Nat, j ≠ (mI M 54 14).toNat → mI M95 57 j = mI M60 57 j := fun j hj => (congrFun kp98 j).trans (by rw [show mI M60 54 14 = mI M 54 14 by omega, mI_sI, if_neg (fun e => hj e.2)])
            have hn0 : mI M95 57 (mI M 54 14).toNat = x10 + 1 := (congrFun kp98 _).trans (by rw [show mI M60 54 14 = mI M 54 14 by omega, mI_same, hb0])
            have hn1 : mI M95 57 (mI M95 54 14).toNat = x10 + 1 := by rw [show mI M95 54 14 = mI M 54 14 by omega]; exact hn0
            have hg0 := hn57 (x45 ).toNat (by omega)
            have hg1 := hn57 (x45 + 1).toNat (by omega)
            have hg2 := hn57 (x45 + 2).toNat (by omega)
            have hg3 := hn57 (x45 + 3).toNat (by omega)
            have hcls : CLS (mI M95 57) (mI M95 54 14) (mI M95 54 15) (mI M95 57 (mI M95 54 14).toNat) := by
              rw [show mI M95 54 14 = mI M 54 14 by omega, hn0]
              refine CLS_add (f := mI M 57) (wr := mI M 54 15) (x := x45) (h := by have q := pCL; rw [show mI M 57 (mI M 54 14).toNat = x10 by omega] at q; exact q) (by omega) (by omega) (by omega) (by omega) (by omega) (by omega) (by omega) (fun j hj => (hn57 j (by omega)).trans (hfj j (by omega))) ?_ ?_ ?_
              · omega
              · omega
              · intro h4
                rw [hg1, hg2]
                refine wfC_co _ _ _ (fun q a b => hn57 q (by omega)) ?_
                have q := hbc hx0 (by omega)
                rw [show mI (sI M25 57 x45.toNat x2) 54 14 = mI M 54 14 by omega] at q
                exact q
            clear ybt ybl hg0 hg1 hg2 hg3
            refine vc_iconst dX12_clause_137 rfl ?_
            refine vc_iret dX12_clause_138 rfl (Nat.le_of_ble_eq_true rfl) (Nat.le_of_ble_eq_true rfl) ?_
            have hfk : ∀ j : Nat, (j : Int) < x45 → mI M60 57 j = mI M 57 j := fun j hj => (hbf j (Or.inl (by omega))).trans (by rw [mI_sI, if_neg (fun e => by omega), hnt])
            exact ⟨_, rfl, hB111, kp112, fun _ => hcls, by omega, by omega, by omega, by omega, by omega, by omega, ⟨⟨by unfold sClause; rw [if_neg (by omega), if_neg (fun hh => by have h1 := hh.1; have h2 := hh.2; rw [show tk g n p - 101 = x2 by omega] at h2; omega), if_neg (by omega), show tk g n p - 101 = x2 by omega]; exact FR.b_ok hF78 (by omega) (FRo rfl rt113 (by unfold sTok; rw [if_pos (by omega)])), fun _ => ⟨by rw [show tk g n p - 101 = x2 by omega, show mI M95 54 21 = mI M 54 21 by omega]; exact ONb.deed p7 (by omega), by omega⟩⟩, CL9_of (N := M60) (X := x45) (so := x2) hX9 h149 c09 hs1 hn57 hbs (h75.2.1 hx0) hfk, LW5.of (N := M60) (X := x45) (so := x2) hX9 h149 c09 c249 hs1 hn57 ht19 (fun h4 => h75.2.2 hx0 h4) hfj (by omega) (by omega)⟩⟩
          · have hn59 : tk g n ((sBody (tk g n) (nx g n) x2 (nx g n p)).2) ≠ -241 := fun e => absurd (hs59.mpr e) (by omega)
            clear hs59
            refine vc_iconst dX12_clause_131 rfl ?_
            refine vc_iret dX12_clause_132 rfl (Nat.le_of_ble_eq_true rfl) (Nat.le_of_ble_eq_true rfl) ?_
            have k114 : mI (sI M60 57 ((mI M60 54 14).toNat) ((mI M60 57 ((mI M60 54 14).toNat)) + 1)) 54 9 = mI M60 54 9 := rfl
            have k115 : mI (sI M60 57 ((mI M60 54 14).toNat) ((mI M60 57 ((mI M60 54 14).toNat)) + 1)) 54 10 = mI M60 54 10 := rfl
            have k116 : mI (sI M60 57 ((mI M60 54 14).toNat) ((mI M60 57 ((mI M60 54 14).toNat)) + 1)) 54 11 = mI M60 54 11 := rfl
            have k117 : mI (sI M60 57 ((mI M60 54 14).toNat) ((mI M60 57 ((mI M60 54 14).toNat)) + 1)) 54 14 = mI M60 54 14 := rfl
            have k118 : mI (sI M60 57 ((mI M60 54 14).toNat) ((mI M60 57 ((mI M60 54 14).toNat)) + 1)) 54 15 = mI M60 54 15 := rfl
            have k119 : mI (sI M60 57 ((mI M60 54 14).toNat) ((mI M60 57 ((mI M60 54 14).toNat)) + 1)) 54 16 = mI M60 54 16 := rfl
            have k120 : mI (sI M60 57 ((mI M60 54 14).toNat) ((mI M60 57 ((mI M60 54 14).toNat)) + 1)) 54 18 = mI M60 54 18 := rfl
            have k121 : mI (sI M60 57 ((mI M60 54 14).toNat) ((mI M60 57 ((mI M60 54 14).toNat)) + 1)) 54 19 = mI M60 54 19 := rfl
            have k122 : mI (sI M60 57 ((mI M60 54 14).toNat) ((mI M60 57 ((mI M60 54 14).toNat)) + 1)) 54 20 = mI M60 54 20 := rfl
            have k123 : mI (sI M60 57 ((mI M60 54 14).toNat) ((mI M60 57 ((mI M60 54 14).toNat)) + 1)) 54 21 = mI M60 54 21 := rfl
            exact ⟨_, rfl, hB83, kp82, fun h => absurd h (by first | decide | assumption), by omega, by omega, by omega, by omega, by omega, by omega, ⟨⟨by unfold sClause; rw [if_neg (by omega), if_neg (fun hh => by have h1 := hh.1; have h2 := hh.2; rw [show tk g n p - 101 = x2 by omega] at h2; omega), if_neg (by omega), show tk g n p - 101 = x2 by omega]; exact FR.b_ok hF78 (by omega) (FRb (q := ((sBody (tk g n) (nx g n) x2 (nx g n p)).2)) (by decide) (by have := RT.rg e80.2; omega) (by unfold sTok; rw [if_neg (by omega)])), fun hr => absurd hr (by first | decide | omega)⟩, (fun hr => absurd hr (by first | decide | assumption | omega)), fun hr => absurd hr (by first | decide | assumption | omega)⟩⟩
        · clear h63 h64 h66 h67 h68
          refine vc_iload dX12_clause_106 rfl ?_
          refine vc_iret dX12_clause_108 rfl (Nat.le_of_ble_eq_true rfl) (Nat.le_of_ble_eq_true rfl) ?_
          exact ⟨_, rfl, hB76, kp77, fun h => absurd h (by first | decide | assumption), by omega, by omega, by omega, by omega, by omega, by omega, ⟨⟨by unfold sClause; rw [if_neg (by omega), if_neg (fun hh => by have h1 := hh.1; have h2 := hh.2; rw [show tk g n p - 101 = x2 by omega] at h2; omega), if_neg (by omega), show tk g n p - 101 = x2 by omega]; exact FR.b_bad hF78 (by omega) (by omega), fun hr => absurd hr (by first | assumption | omega)⟩, (fun hr => absurd hr (by first | decide | assumption | omega)), fun hr => absurd hr (by first | decide | assumption | omega)⟩⟩
      · refine vc_bipush dX12_clause_45 rfl ?_
        refine vc_iret dX12_clause_47 rfl (Nat.le_of_ble_eq_true rfl) (Nat.le_of_ble_eq_true rfl) ?_
        exact ⟨_, rfl, hB0, rfl, fun h => absurd h (by first | decide | assumption), by omega, by omega, by omega, by omega, by omega, by omega, ⟨⟨FRb (q := p) (by decide) (by omega) (by unfold sClause; rw [if_neg (by omega), if_neg (fun hh => by have h1 := hh.1; have h2 := hh.2; rw [show tk g n p - 101 = x2 by omega] at h2; omega), if_pos (by omega)]), fun hr => absurd hr (by first | decide | omega)⟩, (fun hr => absurd hr (by first | decide | assumption | omega)), fun hr => absurd hr (by first | decide | assumption | omega)⟩⟩
    · have hon2 := p7.2.2 x2 (by omega) (by omega)
      refine vc_aload_n dX12_clause_16 rfl ?_
      refine vc_getI dX12_clause_17 flX12_265 (s_54 hB0.1.1) rfl ?_
      refine vc_iload_n dX12_clause_20 rfl ?_
      refine vc_cSI dX12_clause_21 (sfX12_hasF (M := M) hB0.1  (mI M 54 21) x2 ) rfl okX12_has stX12_has lkX12_268 rfl (Nat.le_of_ble_eq_true rfl) ⟨rfl, rfl⟩ (Nat.le_of_ble_eq_true rfl) (Nat.le_of_ble_eq_true rfl) (Nat.le_of_ble_eq_true rfl) ?_
      rintro x124 _ ⟨rfl, h125, h126, h127⟩
      refine vc_if_eq dX12_clause_24 (fun h128 => ?_) (fun h128 => ?_)
      · have ho1 : on x2 ≠ 1 := fun e => absurd (hon2.mpr e) (by omega)
        clear hon2 h127
        refine vc_aload_n dX12_clause_29 rfl ?_
        refine vc_getR dX12_clause_30 flX12_16 (s_54 hB0.1.1) rfl (r_54_2 hB0.1.1) ?_
        refine vc_aload_n dX12_clause_33 rfl ?_
        refine vc_getI dX12_clause_34 flX12_167 (s_54 hB0.1.1) rfl ?_
        have k129 : 0 ≤ mI M 54 14 ∧ mI M 54 14 ≤ 2619 := b54_14 (M := M) hB0.1
        refine vc_iaload dX12_clause_37 (s_57 hB0.1.1) (by omega) (by omega) ?_
        refine vc_nameI (fun x130 ex130 => ?_)
        refine vc_istore_n dX12_clause_38 (by decide) rfl (show _ = [some (aR 54), some (aI x2), some (aI x130), none, none] from rfl) ?_
        refine vc_iload_n dX12_clause_39 rfl ?_
        refine vc_bipush dX12_clause_40 rfl ?_
        refine vc_icmp_ne dX12_clause_42 (fun h131 => ?_) (fun h131 => ?_)
        · refine vc_iload_n dX12_clause_48 rfl ?_
          refine vc_iconst dX12_clause_49 rfl ?_
          refine vc_icmp_gt dX12_clause_50 (fun h132 => by exfalso; omega) (fun h132 => ?_)
          refine vc_aload_n dX12_clause_53 rfl ?_
          refine vc_dup dX12_clause_54 rfl ?_
          refine vc_getI dX12_clause_55 flX12_265 (s_54 hB0.1.1) rfl ?_
          refine vc_iconst dX12_clause_58 rfl ?_
          refine vc_iload_n dX12_clause_59 rfl ?_
          refine vc_ishl dX12_clause_60 ?_
          refine vc_ior dX12_clause_61 ?_
          refine vc_putI dX12_clause_62 (plX12_265 _ rfl) (s_54 hB0.1.1) rfl ?_
          have kp133 : mI (sI M 54 21 (orI (mI M 54 21) (shlI 1 x2))) 55 = mI M 55 := (kp_sI rfl rfl)
          have hB134 : BF fT M (sI M 54 21 (orI (mI M 54 21) (shlI 1 x2))) := BF.w54_21 hB0 rfl
          refine vc_aload_n dX12_clause_65 rfl ?_
          refine vc_iload_n dX12_clause_66 rfl ?_
          refine vc_putI dX12_clause_67 (plX12_177 _ rfl) (s_54 hB134.1.1) rfl ?_
          have kp135 : mI (sI (sI M 54 21 (orI (mI M 54 21) (shlI 1 x2))) 54 16 x2) 55 = mI M 55 := (kp_sI kp133 rfl)
          have hB136 : BF fT M (sI (sI M 54 21 (orI (mI M 54 21) (shlI 1 x2))) 54 16 x2) := BF.w54_16 hB134 rfl
          refine vc_aload_n dX12_clause_70 rfl ?_
          have hgf := RT.gf hT hB136.2.2
          have hat0 := RT.at hT (by omega)
          have hrg0 := RT.rg hT
          have k137 : mI (sI (sI M 54 21 (orI (mI M 54 21) (shlI 1 x2))) 54 16 x2) 54 9 = mI M 54 9 := rfl
          have k138 : mI (sI (sI M 54 21 (orI (mI M 54 21) (shlI 1 x2))) 54 16 x2) 54 10 = mI M 54 10 := rfl
          have k139 : mI (sI (sI M 54 21 (orI (mI M 54 21) (shlI 1 x2))) 54 16 x2) 54 11 = mI M 54 11 := rfl
          have k140 : mI (sI (sI M 54 21 (orI (mI M 54 21) (shlI 1 x2))) 54 16 x2) 54 14 = mI M 54 14 := rfl
          have k141 : mI (sI (sI M 54 21 (orI (mI M 54 21) (shlI 1 x2))) 54 16 x2) 54 15 = mI M 54 15 := rfl
          have k142 : mI (sI (sI M 54 21 (orI (mI M 54 21) (shlI 1 x2))) 54 16 x2) 54 16 = x2 := rfl
          have k143 : mI (sI (sI M 54 21 (orI (mI M 54 21) (shlI 1 x2))) 54 16 x2) 54 18 = mI M 54 18 := rfl
          have k144 : mI (sI (sI M 54 21 (orI (mI M 54 21) (shlI 1 x2))) 54 16 x2) 54 19 = mI M 54 19 := rfl
          have k145 : mI (sI (sI M 54 21 (orI (mI M 54 21) (shlI 1 x2))) 54 16 x2) 54 20 = mI M 54 20 := rfl
          have k146 : mI (sI (sI M 54 21 (orI (mI M 54 21) (shlI 1 x2))) 54 16 x2) 54 21 = orI (mI M 54 21) (shlI 1 x2) := rfl
          refine vc_cVU dX12_clause_71 (sfX12_nextTokenF (M := (sI (sI M 54 21 (orI (mI M 54 21) (shlI 1 x2))) 54 16 x2)) hB136.1   (by first | (rw [hgf.2.1]; omega) | omega) (by first | (rw [hgf.1]; exact hgf.2.2) | assumption)) rfl okX12_nextToken viX12_nextToken lkX12_193 (s_54 hB136.1.1) cl_12 rfl (Nat.le_of_ble_eq_true rfl) ⟨rfl, rfl⟩ (Nat.le_of_ble_eq_true rfl) (Nat.le_of_ble_eq_true rfl) (Nat.le_of_ble_eq_true rfl) ?_
          rintro M147 ⟨hB148, kp149, kp150, kp151, h152, h153, h154, h155, h156, h157, h158, h159, h160, h161, h162⟩
          have hB163 : BF fT M M147 := BF.go hB136 hB148.t
          have kp164 : mI M147 55 = mI M 55 := kp_go kp135 kp149
          have rt165 : RT g n M147 (nx g n p) := by
            have z := h162
            rw [hgf.1, hgf.2.1, show mI (sI (sI M 54 21 (orI (mI M 54 21) (shlI 1 x2))) 54 16 x2) 54 9 = en g n p by first | omega | (show mI M 54 9 = _; omega)] at z
            exact z
          clear hrg0
          have hnt : mI M147 57 = mI M 57 := kp150
          have hb9 := b54_9 (M := M147) hB163.1
          refine vc_aload_n dX12_clause_74 rfl ?_
          refine vc_getI dX12_clause_75 flX12_167 (s_54 hB163.1.1) rfl ?_
          have k166 : 0 ≤ mI M147 54 14 ∧ mI M147 54 14 ≤ 2619 := b54_14 (M := M147) hB163.1
          refine vc_iconst dX12_clause_78 rfl ?_
          refine vc_iaddE dX12_clause_79 (by omega) (by omega) ?_
          refine vc_bipush dX12_clause_80 rfl ?_
          refine vc_iload_n dX12_clause_82 rfl ?_
          refine vc_imulE dX12_clause_83 (by omega) (by omega) ?_
          refine vc_iaddE dX12_clause_84 (by omega) (by omega) ?_
          refine vc_nameI (fun x167 ex167 => ?_)
          refine vc_istore_n dX12_clause_85 (by decide) rfl (show _ = [some (aR 54), some (aI x2), some (aI x130), some (aI x167), none] from rfl) ?_
          have hz5 := congrFun kp164 5
          refine vc_aload_n dX12_clause_86 rfl ?_
          refine vc_getR dX12_clause_87 flX12_16 (s_54 hB163.1.1) rfl (r_54_2 hB163.1.1) ?_
          refine vc_iload_n dX12_clause_90 rfl ?_
          refine vc_iload_n dX12_clause_91 rfl ?_
          refine vc_iastore dX12_clause_92 (s_57 hB163.1.1) (by omega) (by omega) ?_
          have kp168 : mI (sI M147 57 x167.toNat x2) 55 = mI M 55 := (kp_sI kp164 rfl)
          have hB169 : BF fT M (sI M147 57 x167.toNat x2) := BF.x57 (x := x167) hB163 (by omega)
          refine vc_aload_n dX12_clause_93 rfl ?_
          refine vc_iload_n dX12_clause_94 rfl ?_
          refine vc_iload_n dX12_clause_95 rfl ?_
          have rt170 : RT g n (sI M147 57 x167.toNat x2) (nx g n p) := RT.same rt165 (Fz.sI rfl) rfl rfl rfl rfl rfl
          have k171 : mI (sI M147 57 x167.toNat x2) 54 9 = mI M147 54 9 := rfl
          have k172 : mI (sI M147 57 x167.toNat x2) 54 10 = mI M147 54 10 := rfl
          have k173 : mI (sI M147 57 x167.toNat x2) 54 11 = mI M147 54 11 := rfl
          have k174 : mI (sI M147 57 x167.toNat x2) 54 14 = mI M147 54 14 := rfl
          have k175 : mI (sI M147 57 x167.toNat x2) 54 15 = mI M147 54 15 := rfl
          have k176 : mI (sI M147 57 x167.toNat x2) 54 16 = mI M147 54 16 := rfl
          have k177 : mI (sI M147 57 x167.toNat x2) 54 18 = mI M147 54 18 := rfl
          have k178 : mI (sI M147 57 x167.toNat x2) 54 19 = mI M147 54 19 := rfl
          have k179 : mI (sI M147 57 x167.toNat x2) 54 20 = mI M147 54 20 := rfl
          have k180 : mI (sI M147 57 x167.toNat x2) 54 21 = mI M147 54 21 := rfl
          have hz5 := congrFun kp168 5
          have hbx := b54_10 (M := (sI M147 57 x167.toNat x2)) hB169.1
          have hX9 : x167 = mI M 54 14 + 1 + 11 * mI M 57 (mI M 54 14).toNat := by omega
          have h149 : 0 ≤ mI M 54 14 := by omega
          have c09 : 0 ≤ mI M 57 (mI M 54 14).toNat := by omega
          have c249 : mI M 57 (mI M 54 14).toNat ≤ 23 := by omega
          have ht19 : mI (sI M147 57 x167.toNat x2) 54 14 = mI M 54 14 := by omega
          refine vc_cVI dX12_clause_96 (sfX12_bodyF (M := (sI M147 57 x167.toNat x2)) hB169.1  g n (nx g n p) rt170 x2 x167 (by omega) (by omega) (by omega) (by omega) (by omega) (by omega) (by omega) (by omega) (by omega) (by omega) (by omega)) rfl okX12_body viX12_body lkX12_272 (s_54 hB169.1.1) cl_12 rfl (Nat.le_of_ble_eq_true rfl) ⟨rfl, rfl⟩ (Nat.le_of_ble_eq_true rfl) (Nat.le_of_ble_eq_true rfl) (Nat.le_of_ble_eq_true rfl) ?_
          rintro x181 M182 ⟨hB183, kp184, h185, h186, h187, h188, h189, h190, h191, h192, h193, h194, h195, h196, h197⟩
          have hB198 : BF fT M M182 := BF.go hB169 hB183
          have kp199 : mI M182 55 = mI M 55 := kp_go kp168 kp184
          have hF200 : FR g n M182 x181 (sBody (tk g n) (nx g n) x2 (nx g n p)) := h197.1
          have hbf := h196
          have hbs : mI M182 57 (x167).toNat = x2 := (hbf (x167).toNat (by omega)).trans mI_same
          have hb0 : mI M182 57 (mI M 54 14).toNat = x130 := (hbf (mI M 54 14).toNat (by omega)).trans (by rw [mI_sI, if_neg (fun e => by omega), hnt]; omega)
          have hbc := h187
          have hbw := b54_15 (M := M182) hB198.1
          have hfj : ∀ j : Nat, (mI M 54 14 < j ∧ (j : Int) < x167 ∨ (x167 + 11 ≤ j ∧ (j : Int) < mI M 54 14 + 265 + 2 * mI M 54 15)) → mI M182 57 j = mI M 57 j := fun j hj => (hbf j (by omega)).trans (by rw [mI_sI, if_neg (fun e => by omega), hnt])
          have hbi : mI M182 57 (mI M182 54 14).toNat = x130 := by rw [show mI M182 54 14 = mI M 54 14 by omega]; exact hb0
          refine vc_istore dX12_clause_99 (by decide) rfl (show _ = [some (aR 54), some (aI x2), some (aI x130), some (aI x167), some (aI x181)] from rfl) ?_
          refine vc_iload dX12_clause_101 rfl ?_
          refine vc_if_eq dX12_clause_103 (fun h201 => ?_) (fun h201 => ?_)
          · have e202 := FR.ok hF200 (by omega)
            have hz5 := congrFun kp199 5
            have hx0 : x181 = 0 := by omega
            have ybt := h185.resolve_left (fun h => h hx0)
            have ybl := h186.resolve_left (fun h => h hx0)
            have y3 := h188.resolve_left (fun h => h hx0)
            have y4 := h189.resolve_left (fun h => h hx0)
            have y5 := h190.resolve_left (fun h => h hx0)
            clear h185 h186 h188 h189 h190
            refine vc_aload_n dX12_clause_109 rfl ?_
            refine vc_getR dX12_clause_110 flX12_16 (s_54 hB198.1.1) rfl (r_54_2 hB198.1.1) ?_
            refine vc_aload_n dX12_clause_113 rfl ?_
            refine vc_getI dX12_clause_114 flX12_167 (s_54 hB198.1.1) rfl ?_
            have k203 : 0 ≤ mI M182 54 14 ∧ mI M182 54 14 ≤ 2619 := b54_14 (M := M182) hB198.1
            refine vc_dup2 dX12_clause_117 rfl rfl ?_
            refine vc_iaload dX12_clause_118 (s_57 hB198.1.1) (by omega) (by omega) ?_
            refine vc_iconst dX12_clause_119 rfl ?_
            refine vc_iaddE dX12_clause_120 (by omega) (by omega) ?_
            refine vc_iastore dX12_clause_121 (s_57 hB198.1.1) (by omega) (by omega) ?_
            have kp204 : mI (sI M182 57 ((mI M182 54 14).toNat) ((mI M182 57 ((mI M182 54 14).toNat)) + 1)) 55 = mI M 55 := (kp_sI kp199 rfl)
            have hB205 : BF fT M (sI M182 57 ((mI M182 54 14).toNat) ((mI M182 57 ((mI M182 54 14).toNat)) + 1)) := BF.x57 (x := mI M182 54 14) hB198 (by omega)
            have hs59 := RT.sg e202.2 59 (t := -241) (by decide) (by decide)
            refine vc_aload_n dX12_clause_122 rfl ?_
            refine vc_getI dX12_clause_123 flX12_129 (s_54 hB205.1.1) rfl ?_
            refine vc_topI (mI M182 54 11) rfl ?_
            refine vc_bipush dX12_clause_126 rfl ?_
            refine vc_icmp_eq dX12_clause_128 (fun h206 => ?_) (fun h206 => ?_)
            · have ht59 : tk g n ((sBody (tk g n) (nx g n) x2 (nx g n p)).2) = -241 := hs59.mp (by omega)
              clear hs59
              refine vc_aload_n dX12_clause_133 rfl ?_
              have hgf := RT.gf hT hB205.2.2
              have hat0 := RT.at e202.2 (by omega)
              have hrg0 := RT.rg e202.2
              have k207 : mI (sI M182 57 ((mI M182 54 14).toNat) ((mI M182 57 ((mI M182 54 14).toNat)) + 1)) 54 9 = mI M182 54 9 := rfl
              have k208 : mI (sI M182 57 ((mI M182 54 14).toNat) ((mI M182 57 ((mI M182 54 14).toNat)) + 1)) 54 10 = mI M182 54 10 := rfl
              have k209 : mI (sI M182 57 ((mI M182 54 14).toNat) ((mI M182 57 ((mI M182 54 14).toNat)) + 1)) 54 11 = mI M182 54 11 := rfl
              have k210 : mI (sI M182 57 ((mI M182 54 14).toNat) ((mI M182 57 ((mI M182 54 14).toNat)) + 1)) 54 14 = mI M182 54 14 := rfl
              have k211 : mI (sI M182 57 ((mI M182 54 14).toNat) ((mI M182 57 ((mI M182 54 14).toNat)) + 1)) 54 15 = mI M182 54 15 := rfl
              have k212 : mI (sI M182 57 ((mI M182 54 14).toNat) ((mI M182 57 ((mI M182 54 14).toNat)) + 1)) 54 16 = mI M182 54 16 := rfl
              have k213 : mI (sI M182 57 ((mI M182 54 14).toNat) ((mI M182 57 ((mI M182 54 14).toNat)) + 1)) 54 18 = mI M182 54 18 := rfl
              have k214 : mI (sI M182 57 ((mI M182 54 14).toNat) ((mI M182 57 ((mI M182 54 14).toNat)) + 1)) 54 19 = mI M182 54 19 := rfl
              have k215 : mI (sI M182 57 ((mI M182 54 14).toNat) ((mI M182 57 ((mI M182 54 14).toNat)) + 1)) 54 20 = mI M182 54 20 := rfl
              have k216 : mI (sI M182 57 ((mI M182 54 14).toNat) ((mI M182 57 ((mI M182 54 14).toNat)) + 1)) 54 21 = mI M182 54 21 := rfl
              refine vc_cVU dX12_clause_134 (sfX12_nextTokenF (M := (sI M182 57 ((mI M182 54 14).toNat) ((mI M182 57 ((mI M182 54 14).toNat)) + 1))) hB205.1   (by first | (rw [hgf.2.1]; omega) | omega) (by first | (rw [hgf.1]; exact hgf.2.2) | assumption)) rfl okX12_nextToken viX12_nextToken lkX12_193 (s_54 hB205.1.1) cl_12 rfl (Nat.le_of_ble_eq_true rfl) ⟨rfl, rfl⟩ (Nat.le_of_ble_eq_true rfl) (Nat.le_of_ble_eq_true rfl) (Nat.le_of_ble_eq_true rfl) ?_
              rintro M217 ⟨hB218, kp219, kp220, kp221, h222, h223, h224, h225, h226, h227, h228, h229, h230, h231, h232⟩
              have hB233 : BF fT M M217 := BF.go hB205 hB218.t
              have kp234 : mI M217 55 = mI M 55 := kp_go kp204 kp219
              have rt235 : RT g n M217 (nx g n ((sBody (tk g n) (nx g n) x2 (nx g n p)).2)) := by
                have z := h232
                rw [hgf.1, hgf.2.1, show mI (sI M182 57 ((mI M182 54 14).toNat) ((mI M182 57 ((mI M182 54 14).toNat)) + 1)) 54 9 = en g n ((sBody (tk g n) (nx g n) x2 (nx g n p)).2) by first | omega | (show mI M182 54 9 = _; omega)] at z
                exact z
              clear hrg0
              have hn57 : ∀ j : Nat, j ≠ (mI M 54 14).toNat → mI M217 57 j = mI M182 57 j := fun j hj => (congrFun kp220 j).trans (by rw [show mI M182 54 14 = mI M 54 14 by omega, mI_sI, if_neg (fun e => hj e.2)])
              have hn0 : mI M217 57 (mI M 54 14).toNat = x130 + 1 := (congrFun kp220 _).trans (by rw [show mI M182 54 14 = mI M 54 14 by omega, mI_same, hb0])
              have hn1 : mI M217 57 (mI M217 54 14).toNat = x130 + 1 := by rw [show mI M217 54 14 = mI M 54 14 by omega]; exact hn0
              have hg0 := hn57 (x167 ).toNat (by omega)
              have hg1 := hn57 (x167 + 1).toNat (by omega)
              have hg2 := hn57 (x167 + 2).toNat (by omega)
              have hg3 := hn57 (x167 + 3).toNat (by omega)
              have hcls : CLS (mI M217 57) (mI M217 54 14) (mI M217 54 15) (mI M217 57 (mI M217 54 14).toNat) := by
                rw [show mI M217 54 14 = mI M 54 14 by omega, hn0]
                refine CLS_add (f := mI M 57) (wr := mI M 54 15) (x := x167) (h := by have q := pCL; rw [show mI M 57 (mI M 54 14).toNat = x130 by omega] at q; exact q) (by omega) (by omega) (by omega) (by omega) (by omega) (by omega) (by omega) (fun j hj => (hn57 j (by omega)).trans (hfj j (by omega))) ?_ ?_ ?_
                · omega
                · omega
                · intro h4
                  rw [hg1, hg2]
                  refine wfC_co _ _ _ (fun q a b => hn57 q (by omega)) ?_
                  have q := hbc hx0 (by omega)
                  rw [show mI (sI M147 57 x167.toNat x2) 54 14 = mI M 54 14 by omega] at q
                  exact q
              clear ybt ybl hg0 hg1 hg2 hg3
              refine vc_iconst dX12_clause_137 rfl ?_
              refine vc_iret dX12_clause_138 rfl (Nat.le_of_ble_eq_true rfl) (Nat.le_of_ble_eq_true rfl) ?_
              have hfk : ∀ j : Nat, (j : Int) < x167 → mI M182 57 j = mI M 57 j := fun j hj => (hbf j (Or.inl (by omega))).trans (by rw [mI_sI, if_neg (fun e => by omega), hnt])
              exact ⟨_, rfl, hB233, kp234, fun _ => hcls, by omega, by omega, by omega, by omega, by omega, by omega, ⟨⟨by unfold sClause; rw [if_neg (by omega), if_neg (fun hh => by have h1 := hh.1; have h2 := hh.2; rw [show tk g n p - 101 = x2 by omega] at h2; omega), if_neg (by omega), show tk g n p - 101 = x2 by omega]; exact FR.b_ok hF200 (by omega) (FRo rfl rt235 (by unfold sTok; rw [if_pos (by omega)])), fun _ => ⟨by rw [show tk g n p - 101 = x2 by omega, show mI M217 54 21 = orI (mI M 54 21) (shlI 1 x2) by omega]; exact ONb.law p7 (by omega) (by omega), by omega⟩⟩, CL9_of (N := M182) (X := x167) (so := x2) hX9 h149 c09 hs1 hn57 hbs (h197.2.1 hx0) hfk, LW5.of (N := M182) (X := x167) (so := x2) hX9 h149 c09 c249 hs1 hn57 ht19 (fun h4 => h197.2.2 hx0 h4) hfj (by omega) (by omega)⟩⟩
            · have hn59 : tk g n ((sBody (tk g n) (nx g n) x2 (nx g n p)).2) ≠ -241 := fun e => absurd (hs59.mpr e) (by omega)
              clear hs59
              refine vc_iconst dX12_clause_131 rfl ?_
              refine vc_iret dX12_clause_132 rfl (Nat.le_of_ble_eq_true rfl) (Nat.le_of_ble_eq_true rfl) ?_
              have k236 : mI (sI M182 57 ((mI M182 54 14).toNat) ((mI M182 57 ((mI M182 54 14).toNat)) + 1)) 54 9 = mI M182 54 9 := rfl
              have k237 : mI (sI M182 57 ((mI M182 54 14).toNat) ((mI M182 57 ((mI M182 54 14).toNat)) + 1)) 54 10 = mI M182 54 10 := rfl
              have k238 : mI (sI M182 57 ((mI M182 54 14).toNat) ((mI M182 57 ((mI M182 54 14).toNat)) + 1)) 54 11 = mI M182 54 11 := rfl
              have k239 : mI (sI M182 57 ((mI M182 54 14).toNat) ((mI M182 57 ((mI M182 54 14).toNat)) + 1)) 54 14 = mI M182 54 14 := rfl
              have k240 : mI (sI M182 57 ((mI M182 54 14).toNat) ((mI M182 57 ((mI M182 54 14).toNat)) + 1)) 54 15 = mI M182 54 15 := rfl
              have k241 : mI (sI M182 57 ((mI M182 54 14).toNat) ((mI M182 57 ((mI M182 54 14).toNat)) + 1)) 54 16 = mI M182 54 16 := rfl
              have k242 : mI (sI M182 57 ((mI M182 54 14).toNat) ((mI M182 57 ((mI M182 54 14).toNat)) + 1)) 54 18 = mI M182 54 18 := rfl
              have k243 : mI (sI M182 57 ((mI M182 54 14).toNat) ((mI M182 57 ((mI M182 54 14).toNat)) + 1)) 54 19 = mI M182 54 19 := rfl
              have k244 : mI (sI M182 57 ((mI M182 54 14).toNat) ((mI M182 57 ((mI M182 54 14).toNat)) + 1)) 54 20 = mI M182 54 20 := rfl
              have k245 : mI (sI M182 57 ((mI M182 54 14).toNat) ((mI M182 57 ((mI M182 54 14).toNat)) + 1)) 54 21 = mI M182 54 21 := rfl
              exact ⟨_, rfl, hB205, kp204, fun h => absurd h (by first | decide | assumption), by omega, by omega, by omega, by omega, by omega, by omega, ⟨⟨by unfold sClause; rw [if_neg (by omega), if_neg (fun hh => by have h1 := hh.1; have h2 := hh.2; rw [show tk g n p - 101 = x2 by omega] at h2; omega), if_neg (by omega), show tk g n p - 101 = x2 by omega]; exact FR.b_ok hF200 (by omega) (FRb (q := ((sBody (tk g n) (nx g n) x2 (nx g n p)).2)) (by decide) (by have := RT.rg e202.2; omega) (by unfold sTok; rw [if_neg (by omega)])), fun hr => absurd hr (by first | decide | omega)⟩, (fun hr => absurd hr (by first | decide | assumption | omega)), fun hr => absurd hr (by first | decide | assumption | omega)⟩⟩
          · clear h185 h186 h188 h189 h190
            refine vc_iload dX12_clause_106 rfl ?_
            refine vc_iret dX12_clause_108 rfl (Nat.le_of_ble_eq_true rfl) (Nat.le_of_ble_eq_true rfl) ?_
            exact ⟨_, rfl, hB198, kp199, fun h => absurd h (by first | decide | assumption), by omega, by omega, by omega, by omega, by omega, by omega, ⟨⟨by unfold sClause; rw [if_neg (by omega), if_neg (fun hh => by have h1 := hh.1; have h2 := hh.2; rw [show tk g n p - 101 = x2 by omega] at h2; omega), if_neg (by omega), show tk g n p - 101 = x2 by omega]; exact FR.b_bad hF200 (by omega) (by omega), fun hr => absurd hr (by first | assumption | omega)⟩, (fun hr => absurd hr (by first | decide | assumption | omega)), fun hr => absurd hr (by first | decide | assumption | omega)⟩⟩
        · refine vc_bipush dX12_clause_45 rfl ?_
          refine vc_iret dX12_clause_47 rfl (Nat.le_of_ble_eq_true rfl) (Nat.le_of_ble_eq_true rfl) ?_
          exact ⟨_, rfl, hB0, rfl, fun h => absurd h (by first | decide | assumption), by omega, by omega, by omega, by omega, by omega, by omega, ⟨⟨FRb (q := p) (by decide) (by omega) (by unfold sClause; rw [if_neg (by omega), if_neg (fun hh => by have h1 := hh.1; have h2 := hh.2; rw [show tk g n p - 101 = x2 by omega] at h2; omega), if_pos (by omega)]), fun hr => absurd hr (by first | decide | omega)⟩, (fun hr => absurd hr (by first | decide | assumption | omega)), fun hr => absurd hr (by first | decide | assumption | omega)⟩⟩
      · have ho1 : on x2 = 1 := hon2.mp (by omega)
        clear hon2
        refine vc_iconst dX12_clause_27 rfl ?_
        refine vc_iret dX12_clause_28 rfl (Nat.le_of_ble_eq_true rfl) (Nat.le_of_ble_eq_true rfl) ?_
        exact ⟨_, rfl, hB0, rfl, fun h => absurd h (by first | decide | assumption), by omega, by omega, by omega, by omega, by omega, by omega, ⟨⟨FRb (q := p) (by decide) (by omega) (by unfold sClause; rw [if_neg (by omega), if_pos ⟨by omega, by rw [show tk g n p - 101 = x2 by omega]; exact ho1⟩]), fun hr => absurd hr (by first | decide | omega)⟩, (fun hr => absurd hr (by first | decide | assumption | omega)), fun hr => absurd hr (by first | decide | assumption | omega)⟩⟩
  · refine vc_iconst dX12_clause_9 rfl ?_
    refine vc_iret dX12_clause_10 rfl (Nat.le_of_ble_eq_true rfl) (Nat.le_of_ble_eq_true rfl) ?_
    exact ⟨_, rfl, hB0, rfl, fun h => absurd h (by first | decide | assumption), by omega, by omega, by omega, by omega, by omega, by omega, ⟨⟨FRb (q := p) (by decide) (by omega) (by unfold sClause; rw [if_pos (by omega)]), fun hr => absurd hr (by first | decide | omega)⟩, (fun hr => absurd hr (by first | decide | assumption | omega)), fun hr => absurd hr (by first | decide | assumption | omega)⟩⟩
