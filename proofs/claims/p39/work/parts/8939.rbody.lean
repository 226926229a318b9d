/-! THE REFERENCE'S CLAUSES AND TEXTS against the spec -/
/-- in the loop of the turns -/
def TLp (g : Nat → Int) (n : Int) (N : Mem) (f k : Int) (S : Int × Int) : Prop := (f = 0 ∧ ∃ q, RT g n N q ∧ S = (if tk g n q = -256 then sTurns (tk g n) (nx g n) (7 - k).toNat k (nx g n q) else (0, q))) ∨ (f ≠ 0 ∧ S = (f, mI N 54 10))
theorem TLp.ok {g : Nat → Int} {n : Int} {N : Mem} {f k : Int} {S : Int × Int} (h : TLp g n N f k S) (h0 : f = 0) : ∃ q, RT g n N q ∧ S = (if tk g n q = -256 then sTurns (tk g n) (nx g n) (7 - k).toNat k (nx g n q) else (0, q)) := by
  rcases h with h | h
  · exact h.2
  · exact absurd h0 h.1
theorem TLp.first {g : Nat → Int} {n : Int} {N : Mem} {f q : Int} (h : FR g n N f (sTurn (tk g n) (nx g n) 0 q)) : TLp g n N f 1 (sTurns (tk g n) (nx g n) 7 0 q) := by
  unfold sTurns
  obtain ⟨a, b | b⟩ := h
  · exact Or.inl ⟨a.trans b.1, _, b.2, sBind_ok b.1⟩
  · exact Or.inr ⟨by rw [a]; exact b.1, by rw [sBind_bad b.1, a, b.2]⟩
theorem TLp.next {g : Nat → Int} {n : Int} {N : Mem} {f k q : Int} {S : Int × Int} (e : S = (if tk g n q = -256 then sTurns (tk g n) (nx g n) (7 - k).toNat k (nx g n q) else (0, q))) (hk : tk g n q = -256) (hk6 : k ≤ 6) (h : FR g n N f (sTurn (tk g n) (nx g n) k (nx g n q))) : TLp g n N f (k + 1) S := by
  rw [if_pos hk, show (7 - k).toNat = (7 - (k + 1)).toNat + 1 by omega, sTurns.eq_2] at e
  obtain ⟨a, b | b⟩ := h
  · rw [sBind_ok b.1] at e
    exact Or.inl ⟨a.trans b.1, _, b.2, e⟩
  · rw [sBind_bad b.1] at e
    exact Or.inr ⟨by rw [a]; exact b.1, by rw [e, a, b.2]⟩
theorem TLp.bad {g : Nat → Int} {n : Int} {N : Mem} {f k : Int} {S : Int × Int} (h : TLp g n N f k S) (h0 : f ≠ 0) : FR g n N f S := by
  rcases h with h | h
  · exact absurd h.1 h0
  · rw [h.2]; exact ⟨rfl, Or.inr ⟨h0, rfl⟩⟩
theorem TLp.fin {g : Nat → Int} {n : Int} {N : Mem} {f k q : Int} {S : Int × Int} (e : S = (if tk g n q = -256 then sTurns (tk g n) (nx g n) (7 - k).toNat k (nx g n q) else (0, q))) (hT : RT g n N q) (hk : tk g n q ≠ -256) (h0 : f = 0) : FR g n N f S := by
  rw [if_neg hk] at e
  exact FRo h0 hT e
/-- the laws that were read, by bits -/
def ONb (o : Int) (on : Int → Int) : Prop := 0 ≤ o ∧ o ≤ 31 ∧ ∀ v : Int, 0 ≤ v → v ≤ 4 → (shrI o v % 2 = 1 ↔ on v = 1)
theorem or_bit : ∀ o : Fin 32, ∀ s : Fin 5, (0 ≤ orI (o.val : Int) (shlI 1 (s.val : Int)) ∧ orI (o.val : Int) (shlI 1 (s.val : Int)) ≤ 31) ∧ ∀ v : Fin 5, shrI (orI (o.val : Int) (shlI 1 (s.val : Int))) (v.val : Int) % 2 = if v = s then 1 else shrI (o.val : Int) (v.val : Int) % 2 := by decide +kernel
theorem ONb.law {o s : Int} {on : Int → Int} (h : ONb o on) (h0 : 0 ≤ s) (h4 : s ≤ 4) : ONb (orI o (shlI 1 s)) (onA on s) := by
  obtain ⟨a, b, c⟩ := h
  have q := or_bit ⟨o.toNat, by omega⟩ ⟨s.toNat, by omega⟩
  have eo : ((o.toNat : Nat) : Int) = o := by omega
  have es : ((s.toNat : Nat) : Int) = s := by omega
  simp only [eo, es] at q
  refine ⟨q.1.1, q.1.2, fun v h0 h1 => ?_⟩
  have z := q.2 ⟨v.toNat, by omega⟩
  have ev : ((v.toNat : Nat) : Int) = v := by omega
  simp only [ev] at z
  rw [z]
  unfold onA
  by_cases e : v = s
  · subst e
    rw [if_pos rfl, if_pos rfl]
  · rw [if_neg e, if_neg (fun x => e (by have := congrArg Fin.val x; simp only at this; omega))]
    exact c v h0 h1
theorem ONb.deed {o s : Int} {on : Int → Int} (h : ONb o on) (h5 : 5 ≤ s) : ONb o (onA on s) := by
  obtain ⟨a, b, c⟩ := h
  refine ⟨a, b, fun v h0 h1 => ?_⟩
  unfold onA
  rw [if_neg (by omega)]
  exact c v h0 h1
theorem ONb.new : ONb 0 (fun _ => 0) := by
  refine ⟨by decide, by decide, fun v h0 h1 => ?_⟩
  have hv : v = 0 ∨ v = 1 ∨ v = 2 ∨ v = 3 ∨ v = 4 := by omega
  have e : shrI 0 v % 2 = 0 := by rcases hv with e | e | e | e | e <;> subst e <;> decide
  rw [e]
/-- in the loop of the clauses -/
def TIr (g : Nat → Int) (n : Int) (N : Mem) (S : Int × Int) : Prop := ∃ q on, RT g n N q ∧ ONb (mI N 54 21) on ∧ 0 ≤ mI N 57 (mI N 54 14).toNat ∧ mI N 57 (mI N 54 14).toNat ≤ 24 ∧ S = sText (tk g n) (nx g n) (25 - mI N 57 (mI N 54 14).toNat).toNat on (mI N 57 (mI N 54 14).toNat) q
theorem FR.same {g : Nat → Int} {n : Int} {M N : Mem} {r : Int} {s : Int × Int} (h : FR g n M r s) (f : Fz M N) (e9 : mI N 54 9 = mI M 54 9) (e10 : mI N 54 10 = mI M 54 10) (e11 : mI N 54 11 = mI M 54 11) (e12 : mI N 54 12 = mI M 54 12) (e13 : mJ N 54 13 = mJ M 54 13) : FR g n N r s := by
  obtain ⟨a, b | b⟩ := h
  · exact ⟨a, Or.inl ⟨b.1, b.2.same f e9 e10 e11 e12 e13⟩⟩
  · exact ⟨a, Or.inr ⟨b.1, by rw [e10]; exact b.2⟩⟩
/-- a clause -/
def CLr (g : Nat → Int) (n : Int) (M N : Mem) (on : Int → Int) (r p : Int) : Prop := FR g n N r (sClause (tk g n) (nx g n) on (mI M 57 (mI M 54 14).toNat) p) ∧ (r = 0 → ONb (mI N 54 21) (onA on (tk g n p - 101)) ∧ mI N 57 (mI N 54 14).toNat = mI M 57 (mI M 54 14).toNat + 1)
theorem TIr.next {g : Nat → Int} {n : Int} {M N : Mem} {on : Int → Int} {r q : Int} {S : Int × Int} (e : S = sText (tk g n) (nx g n) (25 - mI M 57 (mI M 54 14).toNat).toNat on (mI M 57 (mI M 54 14).toNat) q) (h0 : 0 ≤ mI M 57 (mI M 54 14).toNat) (h24 : mI M 57 (mI M 54 14).toNat ≤ 24) (hk : tk g n q ≠ 0) (h : CLr g n M N on r q) (hr : r = 0) (hn : mI N 57 (mI N 54 14).toNat ≤ 24) : TIr g n N S := by
  obtain ⟨a, b⟩ := h
  obtain ⟨b1, b2⟩ := b hr
  have c := a.ok hr
  rw [show (25 - mI M 57 (mI M 54 14).toNat).toNat = (25 - (mI M 57 (mI M 54 14).toNat + 1)).toNat + 1 by omega, sText.eq_2, if_neg hk, sBind_ok c.1] at e
  refine ⟨_, _, c.2, b1, by omega, hn, ?_⟩
  rw [b2]
  exact e
theorem TIr.bad {g : Nat → Int} {n : Int} {M N : Mem} {on : Int → Int} {r q : Int} {S : Int × Int} (e : S = sText (tk g n) (nx g n) (25 - mI M 57 (mI M 54 14).toNat).toNat on (mI M 57 (mI M 54 14).toNat) q) (h0 : 0 ≤ mI M 57 (mI M 54 14).toNat) (h24 : mI M 57 (mI M 54 14).toNat ≤ 24) (hk : tk g n q ≠ 0) (h : CLr g n M N on r q) (hr : r ≠ 0) : r = S.1 ∧ (r ≠ 0 → mI N 54 10 = S.2) := by
  obtain ⟨a, b⟩ := h
  have c := a.bad hr
  rw [show (25 - mI M 57 (mI M 54 14).toNat).toNat = (25 - (mI M 57 (mI M 54 14).toNat + 1)).toNat + 1 by omega, sText.eq_2, if_neg hk, sBind_bad (by omega)] at e
  rw [e]
  exact ⟨c.1.symm, fun _ => c.2⟩
theorem TIr.fin {g : Nat → Int} {n c q : Int} {on : Int → Int} {m : Nat} {S : Int × Int} (e : S = sText (tk g n) (nx g n) m on c q) (hk : tk g n q = 0) : S.1 = 0 := by
  rw [e]
  cases m with
  | zero => rfl
  | succ m => unfold sText; rw [if_pos hk]

/-- a deed's clause, as the reference keeps it -/
def EB9 (k x : Int → Int) (R : Nat → Int) (s b p : Int) : Prop := 5 ≤ s → R (b + 1).toNat = rw1 k s p ∧ (s = 6 ∨ s = 7 ∨ s = 10 ∨ s = 11 → R (b + 2).toNat = rw2 k x s p) ∧ (s = 6 ∨ s = 7 → R (b + 3).toNat = rw3 k x s p) ∧ (s = 10 → TL9 k x R b p)
theorem RT.uq {g : Nat → Int} {n : Int} {N : Mem} {q q2 : Int} (h : RT g n N q) (h2 : RT g n N q2) : q2 = q := (RT.rg h2).1.symm.trans (RT.rg h).1
theorem TT9.add {k x : Int → Int} {R R' : Nat → Int} {b p m : Int} (b0 : 0 ≤ b) (m0 : 1 ≤ m) (h : TT9 k x R b p m) (hr : ∀ j : Nat, (j : Int) ≠ b + 3 → (j : Int) ≠ b + 4 + m → R' j = R j) (h3 : R' (b + 3).toNat = m + 1) (hv : R' (b + 4 + m).toNat = tvS k x (tpS k x p m.toNat)) (ht : isTu (tvS k x (tpS k x p m.toNat))) (hc : k (tnS k x (tpS k x p (m - 1).toNat)) = -256) : TT9 k x R' b p (m + 1) := by
  refine ⟨h3, fun i hi => ?_, fun i hi => ?_⟩
  · by_cases e : (i : Int) = m
    · rw [e, show i = m.toNat by omega]
      exact ⟨hv, ht⟩
    · rw [hr _ (by omega) (by omega)]
      exact h.2.1 i (by omega)
  · by_cases e : (i : Int) + 1 = m
    · rw [show (m - 1).toNat = i by omega] at hc
      exact hc
    · exact h.2.2 i (by omega)
set_option maxHeartbeats 4000000 in
set_option maxRecDepth 4000 in
theorem sfX12_tellingClauseF {l : Launch} {M : Mem} (hB : Box M) (g : Nat → Int) (n p : Int) (hT : RT g n M p) (x : Int) (p0 : 1 ≤ x) (p1 : x ≤ 2873) (p2 : mI M 54 14 = 873 * mI M 55 5) (p3 : mI M 54 14 + 1 ≤ x) (p4 : mI M 54 10 ≤ mI M 54 9) (p5 : mI M 54 11 = 0 ∨ mI M 54 10 < mI M 54 9) : Call l mdX12_tellingClause [aR 54, aI x] M (fun q N => ∃ r : Int, q = some (aI r) ∧ BF fT M N ∧ mI N 55 = mI M 55 ∧ 0 ≤ r ∧ r ≤ 7 ∧ (r ≠ 0 ∨ (1 ≤ mI N 57 (x + 3).toNat ∧ mI N 57 (x + 3).toNat ≤ 6 ∧ 0 ≤ mI N 57 (x + 2).toNat ∧ mI N 57 (x + 2).toNat ≤ 3)) ∧ mI N 54 10 ≤ mI N 54 9 ∧ (mI N 54 11 = 0 ∨ mI N 54 10 < mI N 54 9) ∧ mI M 54 10 ≤ mI N 54 10 ∧ mI N 54 14 = mI M 54 14 ∧ mI N 54 15 = mI M 54 15 ∧ mI N 54 16 = mI M 54 16 ∧ mI N 54 18 = mI M 54 18 ∧ mI N 54 19 = mI M 54 19 ∧ mI N 54 20 = mI M 54 20 ∧ mI N 54 21 = mI M 54 21 ∧ (∀ j : Nat, ((j : Int) ≤ x ∨ x + 11 ≤ j) → mI N 57 j = mI M 57 j) ∧ (FR g n N r (sBind (sNum (tk g n) (nx g n) 0 5 p) (fun q => sBind (sFac (tk g n) (nx g n) q) (fun q => sBind (sTok (tk g n) (nx g n) (-242) q) (fun q => sTurns (tk g n) (nx g n) 7 0 q)))) ∧ (r = 0 → TL9 (tk g n) (nx g n) (mI N 57) x p))) := by
  have hB0 : BF fT M M := BF.start hB
  refine Call.of [some (aR 54), some (aI x), none, none] rfl (Nat.le_of_ble_eq_true rfl) rfl ?_
  have rg1 := hT.2.1
  refine vc_aload_n dX12_tellingClause_0 rfl ?_
  refine vc_iload_n dX12_tellingClause_1 rfl ?_
  refine vc_iconst dX12_tellingClause_2 rfl ?_
  refine vc_iaddE dX12_tellingClause_3 (by omega) (by omega) ?_
  refine vc_iconst dX12_tellingClause_4 rfl ?_
  refine vc_iconst dX12_tellingClause_5 rfl ?_
  refine vc_cVI dX12_tellingClause_6 (sfX12_figureF (M := M) hB0.1  g n p hT (x + 1) 0 5 (by omega) (by omega) (by omega) (by omega) (by omega) (by omega) (by omega)) rfl okX12_figure viX12_figure lkX12_229 (s_54 hB0.1.1) cl_12 rfl (Nat.le_of_ble_eq_true rfl) ⟨rfl, rfl⟩ (Nat.le_of_ble_eq_true rfl) (Nat.le_of_ble_eq_true rfl) (Nat.le_of_ble_eq_true rfl) ?_
  rintro x2 M3 ⟨hB4, kp5, h6, h7, h8, h9, h10, h11, h12, h13, h14, h15, h16, h17, h18, h19, h20⟩
  have hB21 : BF fT M M3 := BF.go hB0 hB4
  have kp22 : mI M3 55 = mI M 55 := kp_go rfl kp5
  have hF23 : FR g n M3 x2 (sNum (tk g n) (nx g n) 0 5 p) := h20.1
  have fr24 : ∀ j : Nat, ((j : Int) ≤ x ∨ x + 11 ≤ j) → mI M3 57 j = mI M 57 j := fun j hj => (h19 j (by omega)).trans ((fun _ _ => rfl) j hj)
  refine vc_istore_n dX12_tellingClause_9 (by decide) rfl (show _ = [some (aR 54), some (aI x), some (aI x2), none] from rfl) ?_
  refine vc_iload_n dX12_tellingClause_10 rfl ?_
  refine vc_if_ne dX12_tellingClause_11 (fun h25 => ?_) (fun h25 => ?_)
  · refine vc_iload_n dX12_tellingClause_39 rfl ?_
    refine vc_if_eq dX12_tellingClause_40 (fun h26 => by exfalso; omega) (fun h26 => ?_)
    refine vc_iload_n dX12_tellingClause_43 rfl ?_
    refine vc_iret dX12_tellingClause_44 rfl (Nat.le_of_ble_eq_true rfl) (Nat.le_of_ble_eq_true rfl) ?_
    exact ⟨_, rfl, hB21, kp22, by omega, by omega, by omega, by omega, by omega, by omega, by omega, by omega, by omega, by omega, by omega, by omega, by omega, fr24, ⟨FR.b_bad hF23 (by omega) (by omega), fun hr => absurd hr (by omega)⟩⟩
  · have e27 := FR.ok hF23 (by omega)
    refine vc_aload_n dX12_tellingClause_14 rfl ?_
    refine vc_bipush dX12_tellingClause_15 rfl ?_
    refine vc_bipush dX12_tellingClause_17 rfl ?_
    refine vc_bipush dX12_tellingClause_19 rfl ?_
    refine vc_bipush dX12_tellingClause_21 rfl ?_
    refine vc_bipush dX12_tellingClause_23 rfl ?_
    refine vc_bipush dX12_tellingClause_25 rfl ?_
    refine vc_cSL dX12_tellingClause_27 (sfX12_w6F (M := M3) hB21.1  102 97 99 105 110 103 ) rfl okX12_w6 stX12_w6 lkX12_173 rfl (Nat.le_of_ble_eq_true rfl) ⟨rfl, rfl⟩ (Nat.le_of_ble_eq_true rfl) (Nat.le_of_ble_eq_true rfl) (Nat.le_of_ble_eq_true rfl) ?_
    rintro x28 _ ⟨rfl, h29⟩
    have hw30 : x28 = 112568465714791 := h29.trans (by decide +kernel)
    refine vc_iload_n dX12_tellingClause_30 rfl ?_
    refine vc_iconst dX12_tellingClause_31 rfl ?_
    refine vc_iaddE dX12_tellingClause_32 (by omega) (by omega) ?_
    refine vc_iconst dX12_tellingClause_33 rfl ?_
    refine vc_iconst dX12_tellingClause_34 rfl ?_
    have hz5 := congrFun kp22 5
    refine vc_cVI dX12_tellingClause_35 (sfX12_wordedF (M := M3) hB21.1  g n ((sNum (tk g n) (nx g n) 0 5 p).2) e27.2 17 x28 (x + 2) 0 3 (by omega) (by omega) (by omega) (by omega) (by omega) (by omega) (by omega) (by decide) (by exact hw30.trans pk_17)) rfl okX12_worded viX12_worded lkX12_233 (s_54 hB21.1.1) cl_12 rfl (Nat.le_of_ble_eq_true rfl) ⟨rfl, rfl⟩ (Nat.le_of_ble_eq_true rfl) (Nat.le_of_ble_eq_true rfl) (Nat.le_of_ble_eq_true rfl) ?_
    rintro x31 M32 ⟨hB33, kp34, h35, h36, h37, h38, h39, h40, h41, h42, h43, h44, h45, h46, h47, h48, h49⟩
    have hB50 : BF fT M M32 := BF.go hB21 hB33
    have kp51 : mI M32 55 = mI M 55 := kp_go kp22 kp34
    have hF52 : FR g n M32 x31 (sFac (tk g n) (nx g n) ((sNum (tk g n) (nx g n) 0 5 p).2)) := h49.1
    have fr53 : ∀ j : Nat, ((j : Int) ≤ x ∨ x + 11 ≤ j) → mI M32 57 j = mI M 57 j := fun j hj => (h48 j (by omega)).trans (fr24 j hj)
    refine vc_istore_n dX12_tellingClause_38 (by decide) rfl (show _ = [some (aR 54), some (aI x), some (aI x31), none] from rfl) ?_
    refine vc_iload_n dX12_tellingClause_39 rfl ?_
    refine vc_if_eq dX12_tellingClause_40 (fun h54 => ?_) (fun h54 => ?_)
    · have e55 := FR.ok hF52 (by omega)
      have hs58 := RT.sg e55.2 58 (t := -242) (by decide) (by decide)
      refine vc_aload_n dX12_tellingClause_45 rfl ?_
      refine vc_getI dX12_tellingClause_46 flX12_129 (s_54 hB50.1.1) rfl ?_
      refine vc_bipush dX12_tellingClause_49 rfl ?_
      refine vc_icmp_eq dX12_tellingClause_51 (fun h56 => ?_) (fun h56 => ?_)
      · have ht58 : tk g n ((sFac (tk g n) (nx g n) ((sNum (tk g n) (nx g n) 0 5 p).2)).2) = -242 := hs58.mp (by omega)
        clear hs58
        refine vc_aload_n dX12_tellingClause_56 rfl ?_
        have hgf := RT.gf hT hB50.2.2
        have hat0 := RT.at e55.2 (by omega)
        have hrg0 := RT.rg e55.2
        refine vc_cVU dX12_tellingClause_57 (sfX12_nextTokenF (M := M32) hB50.1   (by first | (rw [hgf.2.1]; omega) | omega) (by first | (rw [hgf.1]; exact hgf.2.2) | assumption)) rfl okX12_nextToken viX12_nextToken lkX12_193 (s_54 hB50.1.1) cl_12 rfl (Nat.le_of_ble_eq_true rfl) ⟨rfl, rfl⟩ (Nat.le_of_ble_eq_true rfl) (Nat.le_of_ble_eq_true rfl) (Nat.le_of_ble_eq_true rfl) ?_
        rintro M57 ⟨hB58, kp59, kp60, kp61, h62, h63, h64, h65, h66, h67, h68, h69, h70, h71, h72⟩
        have hB73 : BF fT M M57 := BF.go hB50 hB58.t
        have kp74 : mI M57 55 = mI M 55 := kp_go kp51 kp59
        have rt75 : RT g n M57 (nx g n ((sFac (tk g n) (nx g n) ((sNum (tk g n) (nx g n) 0 5 p).2)).2)) := by
          have z := h72
          rw [hgf.1, hgf.2.1, show mI M32 54 9 = en g n ((sFac (tk g n) (nx g n) ((sNum (tk g n) (nx g n) 0 5 p).2)).2) by first | omega | (show mI M32 54 9 = _; omega)] at z
          exact z
        clear hrg0
        have fr76 : ∀ j : Nat, ((j : Int) ≤ x ∨ x + 11 ≤ j) → mI M57 57 j = mI M 57 j := fun j hj => (congrFun kp60 j).trans (fr53 j hj)
        have hq2 := congrFun kp60 (x + 2).toNat
        have hq3 := congrFun kp60 (x + 3).toNat
        refine vc_aload_n dX12_tellingClause_60 rfl ?_
        refine vc_iload_n dX12_tellingClause_61 rfl ?_
        refine vc_iconst dX12_tellingClause_62 rfl ?_
        have hz5 := congrFun kp74 5
        refine vc_cVI dX12_tellingClause_63 (sfX12_oneTurnF (M := M57) hB73.1  g n (nx g n ((sFac (tk g n) (nx g n) ((sNum (tk g n) (nx g n) 0 5 p).2)).2)) rt75 x 0 (by omega) (by omega) (by omega) (by omega) (by omega) (by omega) (by omega) (by omega)) rfl okX12_oneTurn viX12_oneTurn lkX12_241 (s_54 hB73.1.1) cl_12 rfl (Nat.le_of_ble_eq_true rfl) ⟨rfl, rfl⟩ (Nat.le_of_ble_eq_true rfl) (Nat.le_of_ble_eq_true rfl) (Nat.le_of_ble_eq_true rfl) ?_
        rintro x77 M78 ⟨hB79, kp80, h81, h82, h83, h84, h85, h86, h87, h88, h89, h90, h91, h92, h93, h94, h95⟩
        have hB96 : BF fT M M78 := BF.go hB73 hB79
        have kp97 : mI M78 55 = mI M 55 := kp_go kp74 kp80
        have hF98 : FR g n M78 x77 (sTurn (tk g n) (nx g n) 0 (nx g n ((sFac (tk g n) (nx g n) ((sNum (tk g n) (nx g n) 0 5 p).2)).2))) := h95.1
        have fr99 : ∀ j : Nat, ((j : Int) ≤ x ∨ x + 11 ≤ j) → mI M78 57 j = mI M 57 j := fun j hj => (h94 j (by omega)).trans (fr76 j hj)
        have hq4 := h94 (x + 2).toNat (by omega)
        have hp0 := (sNum_ok e27.1).1
        have hp1 := sFac_ok e55.1
        have hp4 : (nx g n ((sFac (tk g n) (nx g n) ((sNum (tk g n) (nx g n) 0 5 p).2)).2)) = nx g n (nx g n (nx g n (nx g n p))) := by rw [hp1, hp0]
        have hot := h95.2
        have ht570 : x77 = 0 → TT9 (tk g n) (nx g n) (mI M78 57) x (nx g n ((sFac (tk g n) (nx g n) ((sNum (tk g n) (nx g n) 0 5 p).2)).2)) 1 ∧ (∀ q, RT g n M78 q → q = tnS (tk g n) (nx g n) (tpS (tk g n) (nx g n) (nx g n ((sFac (tk g n) (nx g n) ((sNum (tk g n) (nx g n) 0 5 p).2)).2)) ((1 : Int) - 1).toNat)) ∧ mI M78 57 (x + 1).toNat = tk g n p - 1000 ∧ mI M78 57 (x + 2).toNat = tk g n (nx g n (nx g n p)) - 1000 := fun h9 => by
          have hF := FR.ok hF98 h9
          have hto := sTurn_ok hF.1
          refine ⟨⟨by omega, fun i hi => ?_, fun i hi => ?_⟩, fun q hq => ?_, (((hot h9).2 (x + 1).toNat (by omega) (by omega)).trans ((congrFun kp60 (x + 1).toNat).trans ((h48 (x + 1).toNat (by omega)).trans (h20.2 (by omega))))), by rw [← hp0]; exact (((hot h9).2 (x + 2).toNat (by omega) (by omega)).trans ((congrFun kp60 (x + 2).toNat).trans (h49.2 (by omega))))⟩
          · rw [show i = 0 by omega]; exact ⟨(hot h9).1, hto.2.1⟩
          · omega
          · have z := RT.uq hF.2 hq; rw [z]; exact hto.1
        have htl0 : TLp g n M78 x77 1 (sTurns (tk g n) (nx g n) 7 0 (nx g n ((sFac (tk g n) (nx g n) ((sNum (tk g n) (nx g n) 0 5 p).2)).2))) := TLp.first hF98
        refine vc_istore_n dX12_tellingClause_66 (by decide) rfl (show _ = [some (aR 54), some (aI x), some (aI x77), none] from rfl) ?_
        refine vc_iconst dX12_tellingClause_67 rfl ?_
        refine vc_istore_n dX12_tellingClause_68 (by decide) rfl (show _ = [some (aR 54), some (aI x), some (aI x77), some (aI 1)] from rfl) ?_
        have lp69 : ∀ (n69 : Nat) (Mq69 : Mem) (v2 : Int) (v3 : Int), (BF fT M Mq69) → (mI Mq69 55 = mI M 55) → (0 ≤ v2) → (v2 ≤ 7) → (1 ≤ v3) → (v3 ≤ 7) → (mI Mq69 54 10 ≤ mI Mq69 54 9) → (mI Mq69 54 11 = 0 ∨ mI Mq69 54 10 < mI Mq69 54 9) → (mI M 54 10 ≤ mI Mq69 54 10) → (mI Mq69 54 14 = mI M 54 14) → (mI Mq69 54 15 = mI M 54 15) → (mI Mq69 54 16 = mI M 54 16) → (mI Mq69 54 18 = mI M 54 18) → (mI Mq69 54 19 = mI M 54 19) → (mI Mq69 54 20 = mI M 54 20) → (mI Mq69 54 21 = mI M 54 21) → (v2 ≠ 0 ∨ (1 ≤ mI Mq69 57 (x + 3).toNat ∧ mI Mq69 57 (x + 3).toNat ≤ 6 ∧ 0 ≤ mI Mq69 57 (x + 2).toNat ∧ mI Mq69 57 (x + 2).toNat ≤ 3)) → (v2 ≠ 0 ∨ v3 ≤ 6) → (∀ j : Nat, ((j : Int) ≤ x ∨ x + 11 ≤ j) → mI Mq69 57 j = mI M 57 j) → (TLp g n Mq69 v2 v3 (sTurns (tk g n) (nx g n) 7 0 (nx g n ((sFac (tk g n) (nx g n) ((sNum (tk g n) (nx g n) 0 5 p).2)).2)))) → (v2 = 0 → TT9 (tk g n) (nx g n) (mI Mq69 57) x (nx g n ((sFac (tk g n) (nx g n) ((sNum (tk g n) (nx g n) 0 5 p).2)).2)) v3 ∧ (∀ q, RT g n Mq69 q → q = tnS (tk g n) (nx g n) (tpS (tk g n) (nx g n) (nx g n ((sFac (tk g n) (nx g n) ((sNum (tk g n) (nx g n) 0 5 p).2)).2)) (v3 - 1).toNat)) ∧ mI Mq69 57 (x + 1).toNat = tk g n p - 1000 ∧ mI Mq69 57 (x + 2).toNat = tk g n (nx g n (nx g n p)) - 1000) → (7 - v3).toNat < n69 → VC l mdX12_tellingClause 69 [some (aR 54), some (aI x), some (aI v2), some (aI v3)] [] Mq69 0 0 (fun q N => ∃ r : Int, q = some (aI r) ∧ BF fT M N ∧ mI N 55 = mI M 55 ∧ 0 ≤ r ∧ r ≤ 7 ∧ (r ≠ 0 ∨ (1 ≤ mI N 57 (x + 3).toNat ∧ mI N 57 (x + 3).toNat ≤ 6 ∧ 0 ≤ mI N 57 (x + 2).toNat ∧ mI N 57 (x + 2).toNat ≤ 3)) ∧ mI N 54 10 ≤ mI N 54 9 ∧ (mI N 54 11 = 0 ∨ mI N 54 10 < mI N 54 9) ∧ mI M 54 10 ≤ mI N 54 10 ∧ mI N 54 14 = mI M 54 14 ∧ mI N 54 15 = mI M 54 15 ∧ mI N 54 16 = mI M 54 16 ∧ mI N 54 18 = mI M 54 18 ∧ mI N 54 19 = mI M 54 19 ∧ mI N 54 20 = mI M 54 20 ∧ mI N 54 21 = mI M 54 21 ∧ (∀ j : Nat, ((j : Int) ≤ x ∨ x + 11 ≤ j) → mI N 57 j = mI M 57 j) ∧ (FR g n N r (sBind (sNum (tk g n) (nx g n) 0 5 p) (fun q => sBind (sFac (tk g n) (nx g n) q) (fun q => sBind (sTok (tk g n) (nx g n) (-242) q) (fun q => sTurns (tk g n) (nx g n) 7 0 q)))) ∧ (r = 0 → TL9 (tk g n) (nx g n) (mI N 57) x p))) := by
          intro n69
          induction n69 with
          | zero => intro Mq69 v2 v3 hQ69 kp69_55 g69_2a g69_2b g69_3a g69_3b g69i0 g69i1 g69i2 g69i3 g69i4 g69i5 g69i6 g69i7 g69i8 g69i9 g69i10 g69i11 g69i12 g69i13 g69i14 hm69; exact absurd hm69 (Nat.not_lt_zero _)
          | succ n69 ih69 =>
            intro Mq69 v2 v3 hQ69 kp69_55 g69_2a g69_2b g69_3a g69_3b g69i0 g69i1 g69i2 g69i3 g69i4 g69i5 g69i6 g69i7 g69i8 g69i9 g69i10 g69i11 g69i12 g69i13 g69i14 hm69
            refine vc_iload_n dX12_tellingClause_69 rfl ?_
            refine vc_if_ne dX12_tellingClause_70 (fun h100 => ?_) (fun h100 => ?_)
            · refine vc_iload_n dX12_tellingClause_99 rfl ?_
              refine vc_iret dX12_tellingClause_100 rfl (Nat.le_of_ble_eq_true rfl) (Nat.le_of_ble_eq_true rfl) ?_
              exact ⟨_, rfl, hQ69, kp69_55, by omega, by omega, by omega, by omega, by omega, by omega, by omega, by omega, by omega, by omega, by omega, by omega, by omega, g69i12, ⟨FR.b_ok hF23 (by omega) (FR.b_ok hF52 (by omega) ((by rw [sTok_yes (by omega)]; exact TLp.bad g69i13 (by omega)))), fun hr => absurd hr (by omega)⟩⟩
            · obtain ⟨q, hTq, hSq⟩ := TLp.ok g69i13 (by omega)
              have hs44 := RT.sg hTq 44 (t := -256) (by decide) (by decide)
              refine vc_aload_n dX12_tellingClause_73 rfl ?_
              refine vc_getI dX12_tellingClause_74 flX12_129 (s_54 hQ69.1.1) rfl ?_
              refine vc_bipush dX12_tellingClause_77 rfl ?_
              refine vc_icmp_ne dX12_tellingClause_79 (fun h101 => ?_) (fun h101 => ?_)
              · have hn44 : tk g n q ≠ -256 := fun e => absurd (hs44.mpr e) (by omega)
                clear hs44
                refine vc_iload_n dX12_tellingClause_99 rfl ?_
                refine vc_iret dX12_tellingClause_100 rfl (Nat.le_of_ble_eq_true rfl) (Nat.le_of_ble_eq_true rfl) ?_
                exact ⟨_, rfl, hQ69, kp69_55, by omega, by omega, by omega, by omega, by omega, by omega, by omega, by omega, by omega, by omega, by omega, by omega, by omega, g69i12, ⟨FR.b_ok hF23 (by omega) (FR.b_ok hF52 (by omega) ((by rw [sTok_yes (by omega)]; exact TLp.fin hSq hTq (by omega) (by omega)))), fun hr => by obtain ⟨z1, z2, z3, z4⟩ := g69i14 (by omega); have zq := z2 q hTq; exact ⟨z3, z4, v3, ⟨by omega, by omega⟩, by rw [← hp4]; exact z1, by rw [← hp4, ← zq]; exact hn44⟩⟩⟩
              · have ht44 : tk g n q = -256 := hs44.mp (by omega)
                clear hs44
                refine vc_aload_n dX12_tellingClause_82 rfl ?_
                have hgf := RT.gf hT hQ69.2.2
                have hat0 := RT.at hTq (by omega)
                have hrg0 := RT.rg hTq
                refine vc_cVU dX12_tellingClause_83 (sfX12_nextTokenF (M := Mq69) hQ69.1   (by first | (rw [hgf.2.1]; omega) | omega) (by first | (rw [hgf.1]; exact hgf.2.2) | assumption)) rfl okX12_nextToken viX12_nextToken lkX12_193 (s_54 hQ69.1.1) cl_12 rfl (Nat.le_of_ble_eq_true rfl) ⟨rfl, rfl⟩ (Nat.le_of_ble_eq_true rfl) (Nat.le_of_ble_eq_true rfl) (Nat.le_of_ble_eq_true rfl) ?_
                rintro M102 ⟨hB103, kp104, kp105, kp106, h107, h108, h109, h110, h111, h112, h113, h114, h115, h116, h117⟩
                have hB118 : BF fT M M102 := BF.go hQ69 hB103.t
                have kp119 : mI M102 55 = mI M 55 := kp_go kp69_55 kp104
                have rt120 : RT g n M102 (nx g n q) := by
                  have z := h117
                  rw [hgf.1, hgf.2.1, show mI Mq69 54 9 = en g n q by first | omega | (show mI Mq69 54 9 = _; omega)] at z
                  exact z
                clear hrg0
                have fr121 : ∀ j : Nat, ((j : Int) ≤ x ∨ x + 11 ≤ j) → mI M102 57 j = mI M 57 j := fun j hj => (congrFun kp105 j).trans (g69i12 j hj)
                have hq2 := congrFun kp105 (x + 2).toNat
                have hq3 := congrFun kp105 (x + 3).toNat
                refine vc_aload_n dX12_tellingClause_86 rfl ?_
                refine vc_iload_n dX12_tellingClause_87 rfl ?_
                refine vc_iload_n dX12_tellingClause_88 rfl ?_
                have hz5 := congrFun kp119 5
                refine vc_cVI dX12_tellingClause_89 (sfX12_oneTurnF (M := M102) hB118.1  g n (nx g n q) rt120 x v3 (by omega) (by omega) (by omega) (by omega) (by omega) (by omega) (by omega) (by omega)) rfl okX12_oneTurn viX12_oneTurn lkX12_241 (s_54 hB118.1.1) cl_12 rfl (Nat.le_of_ble_eq_true rfl) ⟨rfl, rfl⟩ (Nat.le_of_ble_eq_true rfl) (Nat.le_of_ble_eq_true rfl) (Nat.le_of_ble_eq_true rfl) ?_
                rintro x122 M123 ⟨hB124, kp125, h126, h127, h128, h129, h130, h131, h132, h133, h134, h135, h136, h137, h138, h139, h140⟩
                have hB141 : BF fT M M123 := BF.go hB118 hB124
                have kp142 : mI M123 55 = mI M 55 := kp_go kp119 kp125
                have hF143 : FR g n M123 x122 (sTurn (tk g n) (nx g n) v3 (nx g n q)) := h140.1
                have fr144 : ∀ j : Nat, ((j : Int) ≤ x ∨ x + 11 ≤ j) → mI M123 57 j = mI M 57 j := fun j hj => (h139 j (by omega)).trans (fr121 j hj)
                have hq4 := h139 (x + 2).toNat (by omega)
                have hot := h140.2
                have ht57N : x122 = 0 → TT9 (tk g n) (nx g n) (mI M123 57) x (nx g n ((sFac (tk g n) (nx g n) ((sNum (tk g n) (nx g n) 0 5 p).2)).2)) (v3 + 1) ∧ (∀ q, RT g n M123 q → q = tnS (tk g n) (nx g n) (tpS (tk g n) (nx g n) (nx g n ((sFac (tk g n) (nx g n) ((sNum (tk g n) (nx g n) 0 5 p).2)).2)) (v3 + 1 - 1).toNat)) ∧ mI M123 57 (x + 1).toNat = tk g n p - 1000 ∧ mI M123 57 (x + 2).toNat = tk g n (nx g n (nx g n p)) - 1000 := fun h9 => by
                  have hF := FR.ok hF143 h9
                  have hto := sTurn_ok hF.1
                  obtain ⟨z1, z2, z3, z4⟩ := g69i14 (by omega)
                  have zq := z2 q hTq
                  have zp : nx g n q = tpS (tk g n) (nx g n) (nx g n ((sFac (tk g n) (nx g n) ((sNum (tk g n) (nx g n) 0 5 p).2)).2)) v3.toNat := by rw [zq, show v3.toNat = (v3 - 1).toNat + 1 by omega]; rfl
                  have hfr : ∀ j : Nat, (j : Int) ≠ x + 3 → (j : Int) ≠ x + 4 + v3 → mI M123 57 j = mI Mq69 57 j := fun j j1 j2 => ((hot h9).2 j j1 j2).trans (congrFun kp105 j)
                  refine ⟨TT9.add (by omega) (by omega) z1 hfr (by omega) (by rw [← zp]; exact (hot h9).1) (by rw [← zp]; exact hto.2.1) (by rw [← zq]; exact ht44), fun q2 h2 => ?_, (hfr _ (by omega) (by omega)).trans z3, (hfr _ (by omega) (by omega)).trans z4⟩
                  have z := RT.uq hF.2 h2; rw [z, show (v3 + 1 - 1).toNat = v3.toNat by omega, ← zp]; exact hto.1
                have htlN : TLp g n M123 x122 (v3 + 1) (sTurns (tk g n) (nx g n) 7 0 (nx g n ((sFac (tk g n) (nx g n) ((sNum (tk g n) (nx g n) 0 5 p).2)).2))) := TLp.next hSq (by omega) (by omega) hF143
                refine vc_istore_n dX12_tellingClause_92 (by decide) rfl (show _ = [some (aR 54), some (aI x), some (aI x122), some (aI v3)] from rfl) ?_
                refine vc_iincE dX12_tellingClause_93 rfl (by omega) (by omega) (by decide) rfl (show _ = [some (aR 54), some (aI x), some (aI x122), some (aI (v3 + 1))] from rfl) ?_
                refine vc_goto dX12_tellingClause_96 ?_
                exact ih69 M123 x122 (v3 + 1) hB141 kp142 (by omega) (by omega) (by omega) (by omega) (by omega) (by omega) (by omega) (by omega) (by omega) (by omega) (by omega) (by omega) (by omega) (by omega) (by omega) (by omega) fr144 (by first | exact htl0 | exact htlN) (by first | exact ht570 | exact ht57N) (by omega)
        exact lp69 _ M78 x77 1 hB96 kp97 (by omega) (by omega) (by omega) (by omega) (by omega) (by omega) (by omega) (by omega) (by omega) (by omega) (by omega) (by omega) (by omega) (by omega) (by omega) (by omega) fr99 (by first | exact htl0 | exact htlN) (by first | exact ht570 | exact ht57N) (Nat.lt_succ_self _)
      · have hn58 : tk g n ((sFac (tk g n) (nx g n) ((sNum (tk g n) (nx g n) 0 5 p).2)).2) ≠ -242 := fun e => absurd (hs58.mpr e) (by omega)
        clear hs58
        refine vc_iconst dX12_tellingClause_54 rfl ?_
        refine vc_iret dX12_tellingClause_55 rfl (Nat.le_of_ble_eq_true rfl) (Nat.le_of_ble_eq_true rfl) ?_
        exact ⟨_, rfl, hB50, kp51, by omega, by omega, by omega, by omega, by omega, by omega, by omega, by omega, by omega, by omega, by omega, by omega, by omega, fr53, ⟨FR.b_ok hF23 (by omega) (FR.b_ok hF52 (by omega) (FRb (q := ((sFac (tk g n) (nx g n) ((sNum (tk g n) (nx g n) 0 5 p).2)).2)) (by decide) (by have := RT.rg e55.2; omega) (sTok_no (by omega)))), fun hr => absurd hr (by omega)⟩⟩
    · refine vc_iload_n dX12_tellingClause_43 rfl ?_
      refine vc_iret dX12_tellingClause_44 rfl (Nat.le_of_ble_eq_true rfl) (Nat.le_of_ble_eq_true rfl) ?_
      exact ⟨_, rfl, hB50, kp51, by omega, by omega, by omega, by omega, by omega, by omega, by omega, by omega, by omega, by omega, by omega, by omega, by omega, fr53, ⟨FR.b_ok hF23 (by omega) (FR.b_bad hF52 (by omega) (by omega)), fun hr => absurd hr (by omega)⟩⟩

set_option maxHeartbeats 4000000 in
set_option maxRecDepth 4000 in
theorem sfX12_sortOfF {l : Launch} {M : Mem} (hB : Box M) (g : Nat → Int) (n p : Int) (hT : RT g n M p)   : Call l mdX12_sortOf [aR 54] M (fun q N => ∃ r : Int, q = some (aI r) ∧ M = N ∧ (-1) ≤ r ∧ r ≤ 15 ∧ (r < 0 ∨ mI M 54 11 = 2) ∧ ((0 ≤ r ∧ r ≤ 15 ∧ tk g n p = 101 + r) ∨ (r = -1 ∧ ¬ (101 ≤ tk g n p ∧ tk g n p ≤ 116)))) := by
  have hB0 : BF fQ M M := BF.start hB
  refine Call.of [some (aR 54)] rfl (Nat.le_of_ble_eq_true rfl) rfl ?_
  have rg1 := RT.rg hT
  refine vc_aload_n dX12_sortOf_0 rfl ?_
  refine vc_bipush dX12_sortOf_1 rfl ?_
  refine vc_bipush dX12_sortOf_3 rfl ?_
  refine vc_bipush dX12_sortOf_5 rfl ?_
  refine vc_bipush dX12_sortOf_7 rfl ?_
  refine vc_bipush dX12_sortOf_9 rfl ?_
  refine vc_cSL dX12_sortOf_11 (sfX12_w5F (M := M) hB0.1  115 119 97 112 115 ) rfl okX12_w5 stX12_w5 lkX12_163 rfl (Nat.le_of_ble_eq_true rfl) ⟨rfl, rfl⟩ (Nat.le_of_ble_eq_true rfl) (Nat.le_of_ble_eq_true rfl) (Nat.le_of_ble_eq_true rfl) ?_
  rintro x2 _ ⟨rfl, h3⟩
  have hw4 : x2 = 495924113523 := h3.trans (by decide +kernel)
  refine vc_cVI dX12_sortOf_14 (sfX12_isWordF (M := M) hB0.1  x2 ) rfl okX12_isWord viX12_isWord lkX12_196 (s_54 hB0.1.1) cl_12 rfl (Nat.le_of_ble_eq_true rfl) ⟨rfl, rfl⟩ (Nat.le_of_ble_eq_true rfl) (Nat.le_of_ble_eq_true rfl) (Nat.le_of_ble_eq_true rfl) ?_
  rintro x5 _ ⟨rfl, h6, h7, h8⟩
  have hz9 := isw h8 (RT.iw hT 0 (by decide) (hw4.trans pk_0) (t := 101) (by decide))
  clear h8
  refine vc_if_eq dX12_sortOf_17 (fun h10 => ?_) (fun h10 => ?_)
  · have hn0 : tk g n p ≠ 101 := isw_no hz9 (by omega)
    clear hz9
    refine vc_aload_n dX12_sortOf_22 rfl ?_
    refine vc_bipush dX12_sortOf_23 rfl ?_
    refine vc_bipush dX12_sortOf_25 rfl ?_
    refine vc_bipush dX12_sortOf_27 rfl ?_
    refine vc_bipush dX12_sortOf_29 rfl ?_
    refine vc_bipush dX12_sortOf_31 rfl ?_
    refine vc_bipush dX12_sortOf_33 rfl ?_
    refine vc_cSL dX12_sortOf_35 (sfX12_w6F (M := M) hB0.1  108 101 97 118 101 115 ) rfl okX12_w6 stX12_w6 lkX12_173 rfl (Nat.le_of_ble_eq_true rfl) ⟨rfl, rfl⟩ (Nat.le_of_ble_eq_true rfl) (Nat.le_of_ble_eq_true rfl) (Nat.le_of_ble_eq_true rfl) ?_
    rintro x11 _ ⟨rfl, h12⟩
    have hw13 : x11 = 119182682645875 := h12.trans (by decide +kernel)
    refine vc_cVI dX12_sortOf_38 (sfX12_isWordF (M := M) hB0.1  x11 ) rfl okX12_isWord viX12_isWord lkX12_196 (s_54 hB0.1.1) cl_12 rfl (Nat.le_of_ble_eq_true rfl) ⟨rfl, rfl⟩ (Nat.le_of_ble_eq_true rfl) (Nat.le_of_ble_eq_true rfl) (Nat.le_of_ble_eq_true rfl) ?_
    rintro x14 _ ⟨rfl, h15, h16, h17⟩
    have hz18 := isw h17 (RT.iw hT 1 (by decide) (hw13.trans pk_1) (t := 102) (by decide))
    clear h17
    refine vc_if_eq dX12_sortOf_41 (fun h19 => ?_) (fun h19 => ?_)
    · have hn1 : tk g n p ≠ 102 := isw_no hz18 (by omega)
      clear hz18
      refine vc_aload_n dX12_sortOf_46 rfl ?_
      refine vc_bipush dX12_sortOf_47 rfl ?_
      refine vc_bipush dX12_sortOf_49 rfl ?_
      refine vc_bipush dX12_sortOf_51 rfl ?_
      refine vc_bipush dX12_sortOf_53 rfl ?_
      refine vc_bipush dX12_sortOf_55 rfl ?_
      refine vc_cSL dX12_sortOf_57 (sfX12_w5F (M := M) hB0.1  109 105 120 101 115 ) rfl okX12_w5 stX12_w5 lkX12_163 rfl (Nat.le_of_ble_eq_true rfl) ⟨rfl, rfl⟩ (Nat.le_of_ble_eq_true rfl) (Nat.le_of_ble_eq_true rfl) (Nat.le_of_ble_eq_true rfl) ?_
      rintro x20 _ ⟨rfl, h21⟩
      have hw22 : x20 = 469920933235 := h21.trans (by decide +kernel)
      refine vc_cVI dX12_sortOf_60 (sfX12_isWordF (M := M) hB0.1  x20 ) rfl okX12_isWord viX12_isWord lkX12_196 (s_54 hB0.1.1) cl_12 rfl (Nat.le_of_ble_eq_true rfl) ⟨rfl, rfl⟩ (Nat.le_of_ble_eq_true rfl) (Nat.le_of_ble_eq_true rfl) (Nat.le_of_ble_eq_true rfl) ?_
      rintro x23 _ ⟨rfl, h24, h25, h26⟩
      have hz27 := isw h26 (RT.iw hT 2 (by decide) (hw22.trans pk_2) (t := 103) (by decide))
      clear h26
      refine vc_if_eq dX12_sortOf_63 (fun h28 => ?_) (fun h28 => ?_)
      · have hn2 : tk g n p ≠ 103 := isw_no hz27 (by omega)
        clear hz27
        refine vc_aload_n dX12_sortOf_68 rfl ?_
        refine vc_bipush dX12_sortOf_69 rfl ?_
        refine vc_bipush dX12_sortOf_71 rfl ?_
        refine vc_bipush dX12_sortOf_73 rfl ?_
        refine vc_bipush dX12_sortOf_75 rfl ?_
        refine vc_cSL dX12_sortOf_77 (sfX12_w4F (M := M) hB0.1  112 97 99 101 ) rfl okX12_w4 stX12_w4 lkX12_159 rfl (Nat.le_of_ble_eq_true rfl) ⟨rfl, rfl⟩ (Nat.le_of_ble_eq_true rfl) (Nat.le_of_ble_eq_true rfl) (Nat.le_of_ble_eq_true rfl) ?_
        rintro x29 _ ⟨rfl, h30⟩
        have hw31 : x29 = 1885430629 := h30.trans (by decide +kernel)
        refine vc_cVI dX12_sortOf_80 (sfX12_isWordF (M := M) hB0.1  x29 ) rfl okX12_isWord viX12_isWord lkX12_196 (s_54 hB0.1.1) cl_12 rfl (Nat.le_of_ble_eq_true rfl) ⟨rfl, rfl⟩ (Nat.le_of_ble_eq_true rfl) (Nat.le_of_ble_eq_true rfl) (Nat.le_of_ble_eq_true rfl) ?_
        rintro x32 _ ⟨rfl, h33, h34, h35⟩
        have hz36 := isw h35 (RT.iw hT 3 (by decide) (hw31.trans pk_3) (t := 104) (by decide))
        clear h35
        refine vc_if_eq dX12_sortOf_83 (fun h37 => ?_) (fun h37 => ?_)
        · have hn3 : tk g n p ≠ 104 := isw_no hz36 (by omega)
          clear hz36
          refine vc_aload_n dX12_sortOf_88 rfl ?_
          refine vc_bipush dX12_sortOf_89 rfl ?_
          refine vc_bipush dX12_sortOf_91 rfl ?_
          refine vc_bipush dX12_sortOf_93 rfl ?_
          refine vc_bipush dX12_sortOf_95 rfl ?_
          refine vc_cSL dX12_sortOf_97 (sfX12_w4F (M := M) hB0.1  97 115 107 115 ) rfl okX12_w4 stX12_w4 lkX12_159 rfl (Nat.le_of_ble_eq_true rfl) ⟨rfl, rfl⟩ (Nat.le_of_ble_eq_true rfl) (Nat.le_of_ble_eq_true rfl) (Nat.le_of_ble_eq_true rfl) ?_
          rintro x38 _ ⟨rfl, h39⟩
          have hw40 : x38 = 1634954099 := h39.trans (by decide +kernel)
          refine vc_cVI dX12_sortOf_100 (sfX12_isWordF (M := M) hB0.1  x38 ) rfl okX12_isWord viX12_isWord lkX12_196 (s_54 hB0.1.1) cl_12 rfl (Nat.le_of_ble_eq_true rfl) ⟨rfl, rfl⟩ (Nat.le_of_ble_eq_true rfl) (Nat.le_of_ble_eq_true rfl) (Nat.le_of_ble_eq_true rfl) ?_
          rintro x41 _ ⟨rfl, h42, h43, h44⟩
          have hz45 := isw h44 (RT.iw hT 4 (by decide) (hw40.trans pk_4) (t := 105) (by decide))
          clear h44
          refine vc_if_eq dX12_sortOf_103 (fun h46 => ?_) (fun h46 => ?_)
          · have hn4 : tk g n p ≠ 105 := isw_no hz45 (by omega)
            clear hz45
            refine vc_aload_n dX12_sortOf_108 rfl ?_
            refine vc_bipush dX12_sortOf_109 rfl ?_
            refine vc_bipush dX12_sortOf_111 rfl ?_
            refine vc_bipush dX12_sortOf_113 rfl ?_
            refine vc_bipush dX12_sortOf_115 rfl ?_
            refine vc_bipush dX12_sortOf_117 rfl ?_
            refine vc_bipush dX12_sortOf_119 rfl ?_
            refine vc_cSL dX12_sortOf_121 (sfX12_w6F (M := M) hB0.1  99 111 114 110 101 114 ) rfl okX12_w6 stX12_w6 lkX12_173 rfl (Nat.le_of_ble_eq_true rfl) ⟨rfl, rfl⟩ (Nat.le_of_ble_eq_true rfl) (Nat.le_of_ble_eq_true rfl) (Nat.le_of_ble_eq_true rfl) ?_
            rintro x47 _ ⟨rfl, h48⟩
            have hw49 : x47 = 109330312357234 := h48.trans (by decide +kernel)
            refine vc_cVI dX12_sortOf_124 (sfX12_isWordF (M := M) hB0.1  x47 ) rfl okX12_isWord viX12_isWord lkX12_196 (s_54 hB0.1.1) cl_12 rfl (Nat.le_of_ble_eq_true rfl) ⟨rfl, rfl⟩ (Nat.le_of_ble_eq_true rfl) (Nat.le_of_ble_eq_true rfl) (Nat.le_of_ble_eq_true rfl) ?_
            rintro x50 _ ⟨rfl, h51, h52, h53⟩
            have hz54 := isw h53 (RT.iw hT 5 (by decide) (hw49.trans pk_5) (t := 106) (by decide))
            clear h53
            refine vc_if_eq dX12_sortOf_127 (fun h55 => ?_) (fun h55 => ?_)
            · have hn5 : tk g n p ≠ 106 := isw_no hz54 (by omega)
              clear hz54
              refine vc_aload_n dX12_sortOf_132 rfl ?_
              refine vc_bipush dX12_sortOf_133 rfl ?_
              refine vc_bipush dX12_sortOf_135 rfl ?_
              refine vc_bipush dX12_sortOf_137 rfl ?_
              refine vc_bipush dX12_sortOf_139 rfl ?_
              refine vc_bipush dX12_sortOf_141 rfl ?_
              refine vc_bipush dX12_sortOf_143 rfl ?_
              refine vc_cSL dX12_sortOf_145 (sfX12_w6F (M := M) hB0.1  115 116 114 101 101 116 ) rfl okX12_w6 stX12_w6 lkX12_173 rfl (Nat.le_of_ble_eq_true rfl) ⟨rfl, rfl⟩ (Nat.le_of_ble_eq_true rfl) (Nat.le_of_ble_eq_true rfl) (Nat.le_of_ble_eq_true rfl) ?_
              rintro x56 _ ⟨rfl, h57⟩
              have hw58 : x56 = 126943972648308 := h57.trans (by decide +kernel)
              refine vc_cVI dX12_sortOf_148 (sfX12_isWordF (M := M) hB0.1  x56 ) rfl okX12_isWord viX12_isWord lkX12_196 (s_54 hB0.1.1) cl_12 rfl (Nat.le_of_ble_eq_true rfl) ⟨rfl, rfl⟩ (Nat.le_of_ble_eq_true rfl) (Nat.le_of_ble_eq_true rfl) (Nat.le_of_ble_eq_true rfl) ?_
              rintro x59 _ ⟨rfl, h60, h61, h62⟩
              have hz63 := isw h62 (RT.iw hT 6 (by decide) (hw58.trans pk_6) (t := 107) (by decide))
              clear h62
              refine vc_if_eq dX12_sortOf_151 (fun h64 => ?_) (fun h64 => ?_)
              · have hn6 : tk g n p ≠ 107 := isw_no hz63 (by omega)
                clear hz63
                refine vc_aload_n dX12_sortOf_157 rfl ?_
                refine vc_bipush dX12_sortOf_158 rfl ?_
                refine vc_bipush dX12_sortOf_160 rfl ?_
                refine vc_bipush dX12_sortOf_162 rfl ?_
                refine vc_bipush dX12_sortOf_164 rfl ?_
                refine vc_cSL dX12_sortOf_166 (sfX12_w4F (M := M) hB0.1  108 97 110 101 ) rfl okX12_w4 stX12_w4 lkX12_159 rfl (Nat.le_of_ble_eq_true rfl) ⟨rfl, rfl⟩ (Nat.le_of_ble_eq_true rfl) (Nat.le_of_ble_eq_true rfl) (Nat.le_of_ble_eq_true rfl) ?_
                rintro x65 _ ⟨rfl, h66⟩
                have hw67 : x65 = 1818324581 := h66.trans (by decide +kernel)
                refine vc_cVI dX12_sortOf_169 (sfX12_isWordF (M := M) hB0.1  x65 ) rfl okX12_isWord viX12_isWord lkX12_196 (s_54 hB0.1.1) cl_12 rfl (Nat.le_of_ble_eq_true rfl) ⟨rfl, rfl⟩ (Nat.le_of_ble_eq_true rfl) (Nat.le_of_ble_eq_true rfl) (Nat.le_of_ble_eq_true rfl) ?_
                rintro x68 _ ⟨rfl, h69, h70, h71⟩
                have hz72 := isw h71 (RT.iw hT 7 (by decide) (hw67.trans pk_7) (t := 108) (by decide))
                clear h71
                refine vc_if_eq dX12_sortOf_172 (fun h73 => ?_) (fun h73 => ?_)
                · have hn7 : tk g n p ≠ 108 := isw_no hz72 (by omega)
                  clear hz72
                  refine vc_aload_n dX12_sortOf_178 rfl ?_
                  refine vc_bipush dX12_sortOf_179 rfl ?_
                  refine vc_bipush dX12_sortOf_181 rfl ?_
                  refine vc_bipush dX12_sortOf_183 rfl ?_
                  refine vc_bipush dX12_sortOf_185 rfl ?_
                  refine vc_cSL dX12_sortOf_187 (sfX12_w4F (M := M) hB0.1  103 111 97 108 ) rfl okX12_w4 stX12_w4 lkX12_159 rfl (Nat.le_of_ble_eq_true rfl) ⟨rfl, rfl⟩ (Nat.le_of_ble_eq_true rfl) (Nat.le_of_ble_eq_true rfl) (Nat.le_of_ble_eq_true rfl) ?_
                  rintro x74 _ ⟨rfl, h75⟩
                  have hw76 : x74 = 1735352684 := h75.trans (by decide +kernel)
                  refine vc_cVI dX12_sortOf_190 (sfX12_isWordF (M := M) hB0.1  x74 ) rfl okX12_isWord viX12_isWord lkX12_196 (s_54 hB0.1.1) cl_12 rfl (Nat.le_of_ble_eq_true rfl) ⟨rfl, rfl⟩ (Nat.le_of_ble_eq_true rfl) (Nat.le_of_ble_eq_true rfl) (Nat.le_of_ble_eq_true rfl) ?_
                  rintro x77 _ ⟨rfl, h78, h79, h80⟩
                  have hz81 := isw h80 (RT.iw hT 8 (by decide) (hw76.trans pk_8) (t := 109) (by decide))
                  clear h80
                  refine vc_if_eq dX12_sortOf_193 (fun h82 => ?_) (fun h82 => ?_)
                  · have hn8 : tk g n p ≠ 109 := isw_no hz81 (by omega)
                    clear hz81
                    refine vc_aload_n dX12_sortOf_199 rfl ?_
                    refine vc_bipush dX12_sortOf_200 rfl ?_
                    refine vc_bipush dX12_sortOf_202 rfl ?_
                    refine vc_bipush dX12_sortOf_204 rfl ?_
                    refine vc_bipush dX12_sortOf_206 rfl ?_
                    refine vc_bipush dX12_sortOf_208 rfl ?_
                    refine vc_bipush dX12_sortOf_210 rfl ?_
                    refine vc_cSL dX12_sortOf_212 (sfX12_w6F (M := M) hB0.1  116 101 108 108 101 114 ) rfl okX12_w6 stX12_w6 lkX12_173 rfl (Nat.le_of_ble_eq_true rfl) ⟨rfl, rfl⟩ (Nat.le_of_ble_eq_true rfl) (Nat.le_of_ble_eq_true rfl) (Nat.le_of_ble_eq_true rfl) ?_
                    rintro x83 _ ⟨rfl, h84⟩
                    have hw85 : x83 = 127978959562098 := h84.trans (by decide +kernel)
                    refine vc_cVI dX12_sortOf_215 (sfX12_isWordF (M := M) hB0.1  x83 ) rfl okX12_isWord viX12_isWord lkX12_196 (s_54 hB0.1.1) cl_12 rfl (Nat.le_of_ble_eq_true rfl) ⟨rfl, rfl⟩ (Nat.le_of_ble_eq_true rfl) (Nat.le_of_ble_eq_true rfl) (Nat.le_of_ble_eq_true rfl) ?_
                    rintro x86 _ ⟨rfl, h87, h88, h89⟩
                    have hz90 := isw h89 (RT.iw hT 9 (by decide) (hw85.trans pk_9) (t := 110) (by decide))
                    clear h89
                    refine vc_if_eq dX12_sortOf_218 (fun h91 => ?_) (fun h91 => ?_)
                    · have hn9 : tk g n p ≠ 110 := isw_no hz90 (by omega)
                      clear hz90
                      refine vc_aload_n dX12_sortOf_224 rfl ?_
                      refine vc_bipush dX12_sortOf_225 rfl ?_
                      refine vc_bipush dX12_sortOf_227 rfl ?_
                      refine vc_bipush dX12_sortOf_229 rfl ?_
                      refine vc_cSL dX12_sortOf_231 (sfX12_w3F (M := M) hB0.1  116 101 108 ) rfl okX12_w3 stX12_w3 lkX12_155 rfl (Nat.le_of_ble_eq_true rfl) ⟨rfl, rfl⟩ (Nat.le_of_ble_eq_true rfl) (Nat.le_of_ble_eq_true rfl) (Nat.le_of_ble_eq_true rfl) ?_
                      rintro x92 _ ⟨rfl, h93⟩
                      have hw94 : x92 = 7628140 := h93.trans (by decide +kernel)
                      refine vc_bipush dX12_sortOf_234 rfl ?_
                      refine vc_lshl dX12_sortOf_236 ?_
                      refine vc_bipush dX12_sortOf_237 rfl ?_
                      refine vc_bipush dX12_sortOf_239 rfl ?_
                      refine vc_bipush dX12_sortOf_241 rfl ?_
                      refine vc_bipush dX12_sortOf_243 rfl ?_
                      refine vc_cSL dX12_sortOf_245 (sfX12_w4F (M := M) hB0.1  108 105 110 103 ) rfl okX12_w4 stX12_w4 lkX12_159 rfl (Nat.le_of_ble_eq_true rfl) ⟨rfl, rfl⟩ (Nat.le_of_ble_eq_true rfl) (Nat.le_of_ble_eq_true rfl) (Nat.le_of_ble_eq_true rfl) ?_
                      rintro x95 _ ⟨rfl, h96⟩
                      have hw97 : x95 = 1818848871 := h96.trans (by decide +kernel)
                      refine vc_lor dX12_sortOf_248 ?_
                      refine vc_cVI dX12_sortOf_249 (sfX12_isWordF (M := M) hB0.1  (orL (shlL x92 32) x95) ) rfl okX12_isWord viX12_isWord lkX12_196 (s_54 hB0.1.1) cl_12 rfl (Nat.le_of_ble_eq_true rfl) ⟨rfl, rfl⟩ (Nat.le_of_ble_eq_true rfl) (Nat.le_of_ble_eq_true rfl) (Nat.le_of_ble_eq_true rfl) ?_
                      rintro x98 _ ⟨rfl, h99, h100, h101⟩
                      have hw102 : orL (shlL x92 32) x95 = 32762613648158311 := by rw [hw94, hw97]; decide +kernel
                      have hz103 := isw h101 (RT.iw hT 10 (by decide) (hw102.trans pk_10) (t := 111) (by decide))
                      clear h101
                      refine vc_if_eq dX12_sortOf_252 (fun h104 => ?_) (fun h104 => ?_)
                      · have hn10 : tk g n p ≠ 111 := isw_no hz103 (by omega)
                        clear hz103
                        refine vc_aload_n dX12_sortOf_258 rfl ?_
                        refine vc_bipush dX12_sortOf_259 rfl ?_
                        refine vc_bipush dX12_sortOf_261 rfl ?_
                        refine vc_bipush dX12_sortOf_263 rfl ?_
                        refine vc_bipush dX12_sortOf_265 rfl ?_
                        refine vc_bipush dX12_sortOf_267 rfl ?_
                        refine vc_cSL dX12_sortOf_269 (sfX12_w5F (M := M) hB0.1  115 116 97 114 116 ) rfl okX12_w5 stX12_w5 lkX12_163 rfl (Nat.le_of_ble_eq_true rfl) ⟨rfl, rfl⟩ (Nat.le_of_ble_eq_true rfl) (Nat.le_of_ble_eq_true rfl) (Nat.le_of_ble_eq_true rfl) ?_
                        rintro x105 _ ⟨rfl, h106⟩
                        have hw107 : x105 = 495873782388 := h106.trans (by decide +kernel)
                        refine vc_cVI dX12_sortOf_272 (sfX12_isWordF (M := M) hB0.1  x105 ) rfl okX12_isWord viX12_isWord lkX12_196 (s_54 hB0.1.1) cl_12 rfl (Nat.le_of_ble_eq_true rfl) ⟨rfl, rfl⟩ (Nat.le_of_ble_eq_true rfl) (Nat.le_of_ble_eq_true rfl) (Nat.le_of_ble_eq_true rfl) ?_
                        rintro x108 _ ⟨rfl, h109, h110, h111⟩
                        have hz112 := isw h111 (RT.iw hT 11 (by decide) (hw107.trans pk_11) (t := 112) (by decide))
                        clear h111
                        refine vc_if_eq dX12_sortOf_275 (fun h113 => ?_) (fun h113 => ?_)
                        · have hn11 : tk g n p ≠ 112 := isw_no hz112 (by omega)
                          clear hz112
                          refine vc_aload_n dX12_sortOf_281 rfl ?_
                          refine vc_bipush dX12_sortOf_282 rfl ?_
                          refine vc_bipush dX12_sortOf_284 rfl ?_
                          refine vc_bipush dX12_sortOf_286 rfl ?_
                          refine vc_bipush dX12_sortOf_288 rfl ?_
                          refine vc_cSL dX12_sortOf_290 (sfX12_w4F (M := M) hB0.1  119 97 108 107 ) rfl okX12_w4 stX12_w4 lkX12_159 rfl (Nat.le_of_ble_eq_true rfl) ⟨rfl, rfl⟩ (Nat.le_of_ble_eq_true rfl) (Nat.le_of_ble_eq_true rfl) (Nat.le_of_ble_eq_true rfl) ?_
                          rintro x114 _ ⟨rfl, h115⟩
                          have hw116 : x114 = 2002873451 := h115.trans (by decide +kernel)
                          refine vc_cVI dX12_sortOf_293 (sfX12_isWordF (M := M) hB0.1  x114 ) rfl okX12_isWord viX12_isWord lkX12_196 (s_54 hB0.1.1) cl_12 rfl (Nat.le_of_ble_eq_true rfl) ⟨rfl, rfl⟩ (Nat.le_of_ble_eq_true rfl) (Nat.le_of_ble_eq_true rfl) (Nat.le_of_ble_eq_true rfl) ?_
                          rintro x117 _ ⟨rfl, h118, h119, h120⟩
                          have hz121 := isw h120 (RT.iw hT 12 (by decide) (hw116.trans pk_12) (t := 113) (by decide))
                          clear h120
                          refine vc_if_eq dX12_sortOf_296 (fun h122 => ?_) (fun h122 => ?_)
                          · have hn12 : tk g n p ≠ 113 := isw_no hz121 (by omega)
                            clear hz121
                            refine vc_aload_n dX12_sortOf_302 rfl ?_
                            refine vc_bipush dX12_sortOf_303 rfl ?_
                            refine vc_bipush dX12_sortOf_305 rfl ?_
                            refine vc_bipush dX12_sortOf_307 rfl ?_
                            refine vc_bipush dX12_sortOf_309 rfl ?_
                            refine vc_cSL dX12_sortOf_311 (sfX12_w4F (M := M) hB0.1  116 117 114 110 ) rfl okX12_w4 stX12_w4 lkX12_159 rfl (Nat.le_of_ble_eq_true rfl) ⟨rfl, rfl⟩ (Nat.le_of_ble_eq_true rfl) (Nat.le_of_ble_eq_true rfl) (Nat.le_of_ble_eq_true rfl) ?_
                            rintro x123 _ ⟨rfl, h124⟩
                            have hw125 : x123 = 1953854062 := h124.trans (by decide +kernel)
                            refine vc_cVI dX12_sortOf_314 (sfX12_isWordF (M := M) hB0.1  x123 ) rfl okX12_isWord viX12_isWord lkX12_196 (s_54 hB0.1.1) cl_12 rfl (Nat.le_of_ble_eq_true rfl) ⟨rfl, rfl⟩ (Nat.le_of_ble_eq_true rfl) (Nat.le_of_ble_eq_true rfl) (Nat.le_of_ble_eq_true rfl) ?_
                            rintro x126 _ ⟨rfl, h127, h128, h129⟩
                            have hz130 := isw h129 (RT.iw hT 13 (by decide) (hw125.trans pk_13) (t := 114) (by decide))
                            clear h129
                            refine vc_if_eq dX12_sortOf_317 (fun h131 => ?_) (fun h131 => ?_)
                            · have hn13 : tk g n p ≠ 114 := isw_no hz130 (by omega)
                              clear hz130
                              refine vc_aload_n dX12_sortOf_323 rfl ?_
                              refine vc_bipush dX12_sortOf_324 rfl ?_
                              refine vc_bipush dX12_sortOf_326 rfl ?_
                              refine vc_bipush dX12_sortOf_328 rfl ?_
                              refine vc_cSL dX12_sortOf_330 (sfX12_w3F (M := M) hB0.1  97 115 107 ) rfl okX12_w3 stX12_w3 lkX12_155 rfl (Nat.le_of_ble_eq_true rfl) ⟨rfl, rfl⟩ (Nat.le_of_ble_eq_true rfl) (Nat.le_of_ble_eq_true rfl) (Nat.le_of_ble_eq_true rfl) ?_
                              rintro x132 _ ⟨rfl, h133⟩
                              have hw134 : x132 = 6386539 := h133.trans (by decide +kernel)
                              refine vc_cVI dX12_sortOf_333 (sfX12_isWordF (M := M) hB0.1  x132 ) rfl okX12_isWord viX12_isWord lkX12_196 (s_54 hB0.1.1) cl_12 rfl (Nat.le_of_ble_eq_true rfl) ⟨rfl, rfl⟩ (Nat.le_of_ble_eq_true rfl) (Nat.le_of_ble_eq_true rfl) (Nat.le_of_ble_eq_true rfl) ?_
                              rintro x135 _ ⟨rfl, h136, h137, h138⟩
                              have hz139 := isw h138 (RT.iw hT 14 (by decide) (hw134.trans pk_14) (t := 115) (by decide))
                              clear h138
                              refine vc_if_eq dX12_sortOf_336 (fun h140 => ?_) (fun h140 => ?_)
                              · have hn14 : tk g n p ≠ 115 := isw_no hz139 (by omega)
                                clear hz139
                                refine vc_aload_n dX12_sortOf_344 rfl ?_
                                refine vc_bipush dX12_sortOf_345 rfl ?_
                                refine vc_bipush dX12_sortOf_347 rfl ?_
                                refine vc_bipush dX12_sortOf_349 rfl ?_
                                refine vc_bipush dX12_sortOf_351 rfl ?_
                                refine vc_bipush dX12_sortOf_353 rfl ?_
                                refine vc_bipush dX12_sortOf_355 rfl ?_
                                refine vc_cSL dX12_sortOf_357 (sfX12_w6F (M := M) hB0.1  102 111 108 108 111 119 ) rfl okX12_w6 stX12_w6 lkX12_173 rfl (Nat.le_of_ble_eq_true rfl) ⟨rfl, rfl⟩ (Nat.le_of_ble_eq_true rfl) (Nat.le_of_ble_eq_true rfl) (Nat.le_of_ble_eq_true rfl) ?_
                                rintro x141 _ ⟨rfl, h142⟩
                                have hw143 : x141 = 112628746448759 := h142.trans (by decide +kernel)
                                refine vc_cVI dX12_sortOf_360 (sfX12_isWordF (M := M) hB0.1  x141 ) rfl okX12_isWord viX12_isWord lkX12_196 (s_54 hB0.1.1) cl_12 rfl (Nat.le_of_ble_eq_true rfl) ⟨rfl, rfl⟩ (Nat.le_of_ble_eq_true rfl) (Nat.le_of_ble_eq_true rfl) (Nat.le_of_ble_eq_true rfl) ?_
                                rintro x144 _ ⟨rfl, h145, h146, h147⟩
                                have hz148 := isw h147 (RT.iw hT 15 (by decide) (hw143.trans pk_15) (t := 116) (by decide))
                                clear h147
                                refine vc_if_eq dX12_sortOf_363 (fun h149 => ?_) (fun h149 => ?_)
                                · have hn15 : tk g n p ≠ 116 := isw_no hz148 (by omega)
                                  clear hz148
                                  refine vc_iconst dX12_sortOf_371 rfl ?_
                                  refine vc_iret dX12_sortOf_372 rfl (Nat.le_of_ble_eq_true rfl) (Nat.le_of_ble_eq_true rfl) ?_
                                  exact ⟨_, rfl, rfl, by omega, by omega, by omega, Or.inr ⟨rfl, by omega⟩⟩
                                · refine vc_bipush dX12_sortOf_366 rfl ?_
                                  refine vc_goto dX12_sortOf_368 ?_
                                  refine vc_iret dX12_sortOf_372 rfl (Nat.le_of_ble_eq_true rfl) (Nat.le_of_ble_eq_true rfl) ?_
                                  exact ⟨_, rfl, rfl, by omega, by omega, Or.inr ((RT.w2 hT).mpr (by have := isw_yes hz148 (by omega); omega)), Or.inl ⟨by decide, by decide, isw_yes hz148 (by omega)⟩⟩
                              · refine vc_bipush dX12_sortOf_339 rfl ?_
                                refine vc_goto dX12_sortOf_341 ?_
                                refine vc_iret dX12_sortOf_372 rfl (Nat.le_of_ble_eq_true rfl) (Nat.le_of_ble_eq_true rfl) ?_
                                exact ⟨_, rfl, rfl, by omega, by omega, Or.inr ((RT.w2 hT).mpr (by have := isw_yes hz139 (by omega); omega)), Or.inl ⟨by decide, by decide, isw_yes hz139 (by omega)⟩⟩
                            · refine vc_bipush dX12_sortOf_320 rfl ?_
                              refine vc_iret dX12_sortOf_322 rfl (Nat.le_of_ble_eq_true rfl) (Nat.le_of_ble_eq_true rfl) ?_
                              exact ⟨_, rfl, rfl, by omega, by omega, Or.inr ((RT.w2 hT).mpr (by have := isw_yes hz130 (by omega); omega)), Or.inl ⟨by decide, by decide, isw_yes hz130 (by omega)⟩⟩
                          · refine vc_bipush dX12_sortOf_299 rfl ?_
                            refine vc_iret dX12_sortOf_301 rfl (Nat.le_of_ble_eq_true rfl) (Nat.le_of_ble_eq_true rfl) ?_
                            exact ⟨_, rfl, rfl, by omega, by omega, Or.inr ((RT.w2 hT).mpr (by have := isw_yes hz121 (by omega); omega)), Or.inl ⟨by decide, by decide, isw_yes hz121 (by omega)⟩⟩
                        · refine vc_bipush dX12_sortOf_278 rfl ?_
                          refine vc_iret dX12_sortOf_280 rfl (Nat.le_of_ble_eq_true rfl) (Nat.le_of_ble_eq_true rfl) ?_
                          exact ⟨_, rfl, rfl, by omega, by omega, Or.inr ((RT.w2 hT).mpr (by have := isw_yes hz112 (by omega); omega)), Or.inl ⟨by decide, by decide, isw_yes hz112 (by omega)⟩⟩
                      · refine vc_bipush dX12_sortOf_255 rfl ?_
                        refine vc_iret dX12_sortOf_257 rfl (Nat.le_of_ble_eq_true rfl) (Nat.le_of_ble_eq_true rfl) ?_
                        exact ⟨_, rfl, rfl, by omega, by omega, Or.inr ((RT.w2 hT).mpr (by have := isw_yes hz103 (by omega); omega)), Or.inl ⟨by decide, by decide, isw_yes hz103 (by omega)⟩⟩
                    · refine vc_bipush dX12_sortOf_221 rfl ?_
                      refine vc_iret dX12_sortOf_223 rfl (Nat.le_of_ble_eq_true rfl) (Nat.le_of_ble_eq_true rfl) ?_
                      exact ⟨_, rfl, rfl, by omega, by omega, Or.inr ((RT.w2 hT).mpr (by have := isw_yes hz90 (by omega); omega)), Or.inl ⟨by decide, by decide, isw_yes hz90 (by omega)⟩⟩
                  · refine vc_bipush dX12_sortOf_196 rfl ?_
                    refine vc_iret dX12_sortOf_198 rfl (Nat.le_of_ble_eq_true rfl) (Nat.le_of_ble_eq_true rfl) ?_
                    exact ⟨_, rfl, rfl, by omega, by omega, Or.inr ((RT.w2 hT).mpr (by have := isw_yes hz81 (by omega); omega)), Or.inl ⟨by decide, by decide, isw_yes hz81 (by omega)⟩⟩
                · refine vc_bipush dX12_sortOf_175 rfl ?_
                  refine vc_iret dX12_sortOf_177 rfl (Nat.le_of_ble_eq_true rfl) (Nat.le_of_ble_eq_true rfl) ?_
                  exact ⟨_, rfl, rfl, by omega, by omega, Or.inr ((RT.w2 hT).mpr (by have := isw_yes hz72 (by omega); omega)), Or.inl ⟨by decide, by decide, isw_yes hz72 (by omega)⟩⟩
              · refine vc_bipush dX12_sortOf_154 rfl ?_
                refine vc_iret dX12_sortOf_156 rfl (Nat.le_of_ble_eq_true rfl) (Nat.le_of_ble_eq_true rfl) ?_
                exact ⟨_, rfl, rfl, by omega, by omega, Or.inr ((RT.w2 hT).mpr (by have := isw_yes hz63 (by omega); omega)), Or.inl ⟨by decide, by decide, isw_yes hz63 (by omega)⟩⟩
            · refine vc_iconst dX12_sortOf_130 rfl ?_
              refine vc_iret dX12_sortOf_131 rfl (Nat.le_of_ble_eq_true rfl) (Nat.le_of_ble_eq_true rfl) ?_
              exact ⟨_, rfl, rfl, by omega, by omega, Or.inr ((RT.w2 hT).mpr (by have := isw_yes hz54 (by omega); omega)), Or.inl ⟨by decide, by decide, isw_yes hz54 (by omega)⟩⟩
          · refine vc_iconst dX12_sortOf_106 rfl ?_
            refine vc_iret dX12_sortOf_107 rfl (Nat.le_of_ble_eq_true rfl) (Nat.le_of_ble_eq_true rfl) ?_
            exact ⟨_, rfl, rfl, by omega, by omega, Or.inr ((RT.w2 hT).mpr (by have := isw_yes hz45 (by omega); omega)), Or.inl ⟨by decide, by decide, isw_yes hz45 (by omega)⟩⟩
        · refine vc_iconst dX12_sortOf_86 rfl ?_
          refine vc_iret dX12_sortOf_87 rfl (Nat.le_of_ble_eq_true rfl) (Nat.le_of_ble_eq_true rfl) ?_
          exact ⟨_, rfl, rfl, by omega, by omega, Or.inr ((RT.w2 hT).mpr (by have := isw_yes hz36 (by omega); omega)), Or.inl ⟨by decide, by decide, isw_yes hz36 (by omega)⟩⟩
      · refine vc_iconst dX12_sortOf_66 rfl ?_
        refine vc_iret dX12_sortOf_67 rfl (Nat.le_of_ble_eq_true rfl) (Nat.le_of_ble_eq_true rfl) ?_
        exact ⟨_, rfl, rfl, by omega, by omega, Or.inr ((RT.w2 hT).mpr (by have := isw_yes hz27 (by omega); omega)), Or.inl ⟨by decide, by decide, isw_yes hz27 (by omega)⟩⟩
    · refine vc_iconst dX12_sortOf_44 rfl ?_
      refine vc_iret dX12_sortOf_45 rfl (Nat.le_of_ble_eq_true rfl) (Nat.le_of_ble_eq_true rfl) ?_
      exact ⟨_, rfl, rfl, by omega, by omega, Or.inr ((RT.w2 hT).mpr (by have := isw_yes hz18 (by omega); omega)), Or.inl ⟨by decide, by decide, isw_yes hz18 (by omega)⟩⟩
  · refine vc_iconst dX12_sortOf_20 rfl ?_
    refine vc_iret dX12_sortOf_21 rfl (Nat.le_of_ble_eq_true rfl) (Nat.le_of_ble_eq_true rfl) ?_
    exact ⟨_, rfl, rfl, by omega, by omega, Or.inr ((RT.w2 hT).mpr (by have := isw_yes hz9 (by omega); omega)), Or.inl ⟨by decide, by decide, isw_yes hz9 (by omega)⟩⟩

/-- the code of a law's clause -/
def LB9 (k x : Int → Int) (R : Nat → Int) (t0 X p : Int) : Prop := 0 ≤ R (X + 1).toNat ∧ R (X + 1).toNat ≤ R (X + 2).toNat ∧ Cd k x [] false p (cdL R t0 (R (X + 1).toNat) (R (X + 2).toNat - R (X + 1).toNat).toNat)
theorem LB9.mk {k x : Int → Int} {N1 N : Mem} {S t0 X p : Int} (hS : 0 ≤ S) (ht : 0 ≤ t0) (hX : X + 2 < t0 + 265) (h15 : S ≤ mI N1 54 15) (h : Cd k x [] false p (Co N1 S)) (h14 : mI N1 54 14 = t0) (e57 : mI N 57 = mI (sI N1 57 (X + 2).toNat (mI N1 54 15)) 57) (f1 : mI N 57 (X + 1).toNat = S) (f2 : mI N 57 (X + 2).toNat = mI N1 54 15) : LB9 k x (mI N 57) t0 X p := by
  unfold LB9
  rw [f1, f2]
  refine ⟨hS, h15, ?_⟩
  rw [e57]
  have z := cdL_co (f := mI N1 57) (f' := mI (sI N1 57 (X + 2).toNat (mI N1 54 15)) 57) (t := t0) (a := S) (by omega) (mI N1 54 15 - S).toNat (fun j j1 j2 => by rw [mI_sI, if_neg (fun e => by omega)])
  rw [z]
  unfold Co at h
  rw [h14] at h
  exact h
theorem LB9.co {k x : Int → Int} {R R2 : Nat → Int} {t0 X p : Int} (h : LB9 k x R t0 X p) (h0 : 0 ≤ t0) (e1 : R2 (X + 1).toNat = R (X + 1).toNat) (e2 : R2 (X + 2).toNat = R (X + 2).toNat) (hr : ∀ j : Nat, t0 + 265 ≤ j → (j : Int) < t0 + 265 + 2 * R (X + 2).toNat → R2 j = R j) : LB9 k x R2 t0 X p := by
  obtain ⟨ha, hab, h⟩ := h
  unfold LB9
  rw [e1, e2, cdL_co (f := R) (f' := R2) (t := t0) (a := R (X + 1).toNat) (by omega) (R (X + 2).toNat - R (X + 1).toNat).toNat (fun j j1 j2 => hr j (by omega) (by omega))]
  exact ⟨ha, hab, h⟩
set_option maxHeartbeats 4000000 in
set_option maxRecDepth 4000 in
theorem sfX12_lawClauseF {l : Launch} {M : Mem} (hB : Box M) (g : Nat → Int) (n p : Int) (hT : RT g n M p) (x : Int) (p0 : 1 ≤ x) (p1 : x ≤ 2873) (p2 : mI M 54 14 = 873 * mI M 55 5) (p3 : mI M 54 14 + 1 ≤ x) (p4 : x ≤ mI M 54 14 + 254) (p5 : mI M 54 10 ≤ mI M 54 9) (p6 : mI M 54 11 = 0 ∨ mI M 54 10 < mI M 54 9) (p7 : mI M 54 15 ≤ mI M 54 10) (p8 : 0 ≤ mI M 54 16) (p9 : mI M 54 16 ≤ 4) : Call l mdX12_lawClause [aR 54, aI x] M (fun q N => ∃ r : Int, q = some (aI r) ∧ BF fT M N ∧ mI N 55 = mI M 55 ∧ (r ≠ 0 ∨ (0 ≤ mI N 57 (x + 1).toNat ∧ mI N 57 (x + 1).toNat ≤ mI N 57 (x + 2).toNat ∧ mI N 57 (x + 2).toNat ≤ mI N 54 15)) ∧ (r = 0 → wfC (mI N 57) (mI N 57 (x + 2).toNat - mI N 57 (x + 1).toNat).toNat (mI M 54 14 + 265 + 2 * mI N 57 (x + 1).toNat).toNat 0) ∧ (r ≠ 0 ∨ mI M 54 15 ≤ mI N 54 15) ∧ (r ≠ 0 ∨ mI N 54 15 ≤ mI N 54 10) ∧ (r ≠ 0 ∨ mI M 54 10 ≤ mI N 54 10) ∧ mI N 54 10 ≤ mI N 54 9 ∧ (mI N 54 11 = 0 ∨ mI N 54 10 < mI N 54 9) ∧ mI N 54 14 = mI M 54 14 ∧ mI N 54 16 = mI M 54 16 ∧ mI N 54 21 = mI M 54 21 ∧ (∀ j : Nat, ((j : Int) ≤ x ∨ (x + 11 ≤ j ∧ (j : Int) < mI M 54 14 + 265 + 2 * mI M 54 15)) → mI N 57 j = mI M 57 j) ∧ ((FR g n N r (sLaw (tk g n) (nx g n) (mI M 54 16) p)) ∧ (r = 0 → LB9 (tk g n) (nx g n) (mI N 57) (mI M 54 14) x p ∧ mI N 57 (x + 2).toNat ≤ mI N 54 15))) := by
  have hB0 : BF fT M M := BF.start hB
  refine Call.of [some (aR 54), some (aI x), none] rfl (Nat.le_of_ble_eq_true rfl) rfl ?_
  have hk10 := b54_10 hB
  have hk15 := b54_15 hB
  have hk14 := b54_14 hB
  have hk5 := b55_5 hB
  have rg1 := RT.rg hT
  refine vc_aload_n dX12_lawClause_0 rfl ?_
  refine vc_getR dX12_lawClause_1 flX12_16 (s_54 hB0.1.1) rfl (r_54_2 hB0.1.1) ?_
  refine vc_iload_n dX12_lawClause_4 rfl ?_
  refine vc_iconst dX12_lawClause_5 rfl ?_
  refine vc_iaddE dX12_lawClause_6 (by omega) (by omega) ?_
  refine vc_aload_n dX12_lawClause_7 rfl ?_
  refine vc_getI dX12_lawClause_8 flX12_170 (s_54 hB0.1.1) rfl ?_
  have k2 : 0 ≤ mI M 54 15 ∧ mI M 54 15 ≤ 300 := b54_15 (M := M) hB0.1
  refine vc_iastore dX12_lawClause_11 (s_57 hB0.1.1) (by omega) (by omega) ?_
  have kp3 : mI (sI M 57 ((x + 1).toNat) (mI M 54 15)) 55 = mI M 55 := (kp_sI rfl rfl)
  have hB4 : BF fT M (sI M 57 ((x + 1).toNat) (mI M 54 15)) := BF.x57 (x := x + 1) hB0 (by omega)
  refine vc_aload_n dX12_lawClause_12 rfl ?_
  have rt5 : RT g n (sI M 57 ((x + 1).toNat) (mI M 54 15)) p := RT.same hT (Fz.sI rfl) rfl rfl rfl rfl rfl
  have k6 : mI (sI M 57 ((x + 1).toNat) (mI M 54 15)) 54 9 = mI M 54 9 := rfl
  have k7 : mI (sI M 57 ((x + 1).toNat) (mI M 54 15)) 54 10 = mI M 54 10 := rfl
  have k8 : mI (sI M 57 ((x + 1).toNat) (mI M 54 15)) 54 11 = mI M 54 11 := rfl
  have k9 : mI (sI M 57 ((x + 1).toNat) (mI M 54 15)) 54 14 = mI M 54 14 := rfl
  have k10 : mI (sI M 57 ((x + 1).toNat) (mI M 54 15)) 54 15 = mI M 54 15 := rfl
  have k11 : mI (sI M 57 ((x + 1).toNat) (mI M 54 15)) 54 16 = mI M 54 16 := rfl
  have k12 : mI (sI M 57 ((x + 1).toNat) (mI M 54 15)) 54 18 = mI M 54 18 := rfl
  have k13 : mI (sI M 57 ((x + 1).toNat) (mI M 54 15)) 54 19 = mI M 54 19 := rfl
  have k14 : mI (sI M 57 ((x + 1).toNat) (mI M 54 15)) 54 20 = mI M 54 20 := rfl
  have k15 : mI (sI M 57 ((x + 1).toNat) (mI M 54 15)) 54 21 = mI M 54 21 := rfl
  have hz5 := congrFun kp3 5
  refine vc_cVI dX12_lawClause_13 (sfX12_summedF (M := (sI M 57 ((x + 1).toNat) (mI M 54 15))) hB4.1  g n p rt5 (by omega) (by omega) (by omega) (by omega) (by omega) (by omega)) rfl okX12_summed viX12_summed lkX12_244 (s_54 hB4.1.1) cl_12 rfl (Nat.le_of_ble_eq_true rfl) ⟨rfl, rfl⟩ (Nat.le_of_ble_eq_true rfl) (Nat.le_of_ble_eq_true rfl) (Nat.le_of_ble_eq_true rfl) ?_
  rintro x16 M17 ⟨hB18, kp19, h20, h21, h22, h23, h24, h25, h26, h27, h28, h29, h30⟩
  have hB31 : BF fT M M17 := BF.go hB4 hB18
  have kp32 : mI M17 55 = mI M 55 := kp_go kp3 kp19
  have hF33 : FR g n M17 x16 (sLaw (tk g n) (nx g n) (mI M 54 16) p) := h30.1
  have hwc := h20
  have hfs := h28
  have e1 : mI M17 57 (x + 1).toNat = mI M 54 15 := (hfs (x + 1).toNat (by show ((x + 1).toNat : Int) < mI M 54 14 + 265 + 2 * mI M 54 15; omega)).trans mI_same
  have hfr : ∀ j : Nat, ((j : Int) ≤ x ∨ (x + 11 ≤ j ∧ (j : Int) < mI M 54 14 + 265 + 2 * mI M 54 15)) → mI M17 57 j = mI M 57 j := fun j hj => (hfs j (by show (j : Int) < mI M 54 14 + 265 + 2 * mI M 54 15; omega)).trans (by rw [mI_sI, if_neg (fun e => by omega)])
  refine vc_istore_n dX12_lawClause_16 (by decide) rfl (show _ = [some (aR 54), some (aI x), some (aI x16)] from rfl) ?_
  have hz5 := congrFun kp32 5
  refine vc_aload_n dX12_lawClause_17 rfl ?_
  refine vc_getR dX12_lawClause_18 flX12_16 (s_54 hB31.1.1) rfl (r_54_2 hB31.1.1) ?_
  refine vc_iload_n dX12_lawClause_21 rfl ?_
  refine vc_iconst dX12_lawClause_22 rfl ?_
  refine vc_iaddE dX12_lawClause_23 (by omega) (by omega) ?_
  refine vc_aload_n dX12_lawClause_24 rfl ?_
  refine vc_getI dX12_lawClause_25 flX12_170 (s_54 hB31.1.1) rfl ?_
  have k34 : 0 ≤ mI M17 54 15 ∧ mI M17 54 15 ≤ 300 := b54_15 (M := M17) hB31.1
  refine vc_iastore dX12_lawClause_28 (s_57 hB31.1.1) (by omega) (by omega) ?_
  have kp35 : mI (sI M17 57 ((x + 2).toNat) (mI M17 54 15)) 55 = mI M 55 := (kp_sI kp32 rfl)
  have hB36 : BF fT M (sI M17 57 ((x + 2).toNat) (mI M17 54 15)) := BF.x57 (x := x + 2) hB31 (by omega)
  refine vc_iload_n dX12_lawClause_29 rfl ?_
  refine vc_iret dX12_lawClause_30 rfl (Nat.le_of_ble_eq_true rfl) (Nat.le_of_ble_eq_true rfl) ?_
  have k37 : mI (sI M17 57 ((x + 2).toNat) (mI M17 54 15)) 54 9 = mI M17 54 9 := rfl
  have k38 : mI (sI M17 57 ((x + 2).toNat) (mI M17 54 15)) 54 10 = mI M17 54 10 := rfl
  have k39 : mI (sI M17 57 ((x + 2).toNat) (mI M17 54 15)) 54 11 = mI M17 54 11 := rfl
  have k40 : mI (sI M17 57 ((x + 2).toNat) (mI M17 54 15)) 54 14 = mI M17 54 14 := rfl
  have k41 : mI (sI M17 57 ((x + 2).toNat) (mI M17 54 15)) 54 15 = mI M17 54 15 := rfl
  have k42 : mI (sI M17 57 ((x + 2).toNat) (mI M17 54 15)) 54 16 = mI M17 54 16 := rfl
  have k43 : mI (sI M17 57 ((x + 2).toNat) (mI M17 54 15)) 54 18 = mI M17 54 18 := rfl
  have k44 : mI (sI M17 57 ((x + 2).toNat) (mI M17 54 15)) 54 19 = mI M17 54 19 := rfl
  have k45 : mI (sI M17 57 ((x + 2).toNat) (mI M17 54 15)) 54 20 = mI M17 54 20 := rfl
  have k46 : mI (sI M17 57 ((x + 2).toNat) (mI M17 54 15)) 54 21 = mI M17 54 21 := rfl
  have f1 : mI (sI M17 57 ((x + 2).toNat) (mI M17 54 15)) 57 (x + 1).toNat = mI M 54 15 := by rw [mI_sI, if_neg (fun e => by omega)]; exact e1
  have f2 : mI (sI M17 57 ((x + 2).toNat) (mI M17 54 15)) 57 (x + 2).toNat = mI M17 54 15 := mI_same
  refine ⟨_, rfl, hB36, kp35, by omega, fun hr0 => ?_, by omega, by omega, by omega, by omega, by omega, by omega, by omega, by omega, fun j hj => ?_, ⟨FR.cast (FR.same hF33 (Fz.sI rfl) rfl rfl rfl rfl rfl) (by omega), fun hr => ⟨LB9.mk (N1 := M17) (by omega) (by omega) (by omega) (by omega) (h30.2 hr) (by omega) rfl f1 f2, by omega⟩⟩⟩
  · rw [f1, f2]
    exact wfC_co _ _ _ (fun q a b => by rw [mI_sI, if_neg (fun e => by omega)]) (hwc hr0)
  · rw [mI_sI, if_neg (fun e => by omega)]
    exact hfr j hj

set_option maxHeartbeats 4000000 in
set_option maxRecDepth 4000 in
theorem sfX12_bodyF {l : Launch} {M : Mem} (hB : Box M) (g : Nat → Int) (n p : Int) (hT : RT g n M p) (s : Int) (x : Int) (p0 : 0 ≤ s) (p1 : s ≤ 15) (p2 : 1 ≤ x) (p3 : x ≤ 2873) (p4 : mI M 54 14 = 873 * mI M 55 5) (p5 : mI M 54 14 + 1 ≤ x) (p6 : x ≤ mI M 54 14 + 254) (p7 : mI M 54 10 ≤ mI M 54 9) (p8 : mI M 54 11 = 0 ∨ mI M 54 10 < mI M 54 9) (p9 : mI M 54 15 ≤ mI M 54 10) (p10 : mI M 54 16 = s) : Call l mdX12_body [aR 54, aI s, aI x] M (fun q N => ∃ r : Int, q = some (aI r) ∧ BF fT M N ∧ mI N 55 = mI M 55 ∧ (r ≠ 0 ∨ s ≠ 10 ∨ (1 ≤ mI N 57 (x + 3).toNat ∧ mI N 57 (x + 3).toNat ≤ 6 ∧ 0 ≤ mI N 57 (x + 2).toNat ∧ mI N 57 (x + 2).toNat ≤ 3)) ∧ (r ≠ 0 ∨ 4 < s ∨ (0 ≤ mI N 57 (x + 1).toNat ∧ mI N 57 (x + 1).toNat ≤ mI N 57 (x + 2).toNat ∧ mI N 57 (x + 2).toNat ≤ mI N 54 15)) ∧ (r = 0 → s ≤ 4 → wfC (mI N 57) (mI N 57 (x + 2).toNat - mI N 57 (x + 1).toNat).toNat (mI M 54 14 + 265 + 2 * mI N 57 (x + 1).toNat).toNat 0) ∧ (r ≠ 0 ∨ mI M 54 15 ≤ mI N 54 15) ∧ (r ≠ 0 ∨ mI N 54 15 ≤ mI N 54 10) ∧ (r ≠ 0 ∨ mI M 54 10 ≤ mI N 54 10) ∧ mI N 54 10 ≤ mI N 54 9 ∧ (mI N 54 11 = 0 ∨ mI N 54 10 < mI N 54 9) ∧ mI N 54 14 = mI M 54 14 ∧ mI N 54 16 = mI M 54 16 ∧ mI N 54 21 = mI M 54 21 ∧ (∀ j : Nat, ((j : Int) ≤ x ∨ (x + 11 ≤ j ∧ (j : Int) < mI M 54 14 + 265 + 2 * mI M 54 15)) → mI N 57 j = mI M 57 j) ∧ (FR g n N r (sBody (tk g n) (nx g n) s p) ∧ (r = 0 → EB9 (tk g n) (nx g n) (mI N 57) s x p) ∧ (r = 0 → s ≤ 4 → LB9 (tk g n) (nx g n) (mI N 57) (mI M 54 14) x p ∧ mI N 57 (x + 2).toNat ≤ mI N 54 15))) := by
  have hB0 : BF fT M M := BF.start hB
  refine Call.of [some (aR 54), some (aI s), some (aI x)] rfl (Nat.le_of_ble_eq_true rfl) rfl ?_
  have rg1 := RT.rg hT
  refine vc_iload_n dX12_body_0 rfl ?_
  by_cases h2 : s = 5
  · refine vc_tabIn dX12_body_1 5 60 h2 rfl rfl rfl ?_
    refine vc_aload_n dX12_body_60 rfl ?_
    refine vc_iload_n dX12_body_61 rfl ?_
    refine vc_iconst dX12_body_62 rfl ?_
    refine vc_iaddE dX12_body_63 (by omega) (by omega) ?_
    refine vc_iconst dX12_body_64 rfl ?_
    refine vc_iconst dX12_body_65 rfl ?_
    refine vc_cVI dX12_body_66 (sfX12_figureF (M := M) hB0.1  g n p hT (x + 1) 0 5 (by omega) (by omega) (by omega) (by omega) (by omega) (by omega) (by omega)) rfl okX12_figure viX12_figure lkX12_229 (s_54 hB0.1.1) cl_12 rfl (Nat.le_of_ble_eq_true rfl) ⟨rfl, rfl⟩ (Nat.le_of_ble_eq_true rfl) (Nat.le_of_ble_eq_true rfl) (Nat.le_of_ble_eq_true rfl) ?_
    rintro x3 M4 ⟨hB5, kp6, h7, h8, h9, h10, h11, h12, h13, h14, h15, h16, h17, h18, h19, h20, h21⟩
    have hB22 : BF fT M M4 := BF.go hB0 hB5
    have kp23 : mI M4 55 = mI M 55 := kp_go rfl kp6
    have hF24 : FR g n M4 x3 (sNum (tk g n) (nx g n) 0 5 p) := h21.1
    refine vc_iret dX12_body_69 rfl (Nat.le_of_ble_eq_true rfl) (Nat.le_of_ble_eq_true rfl) ?_
    exact ⟨_, rfl, hB22, kp23, by omega, by omega, fun _ h => by exfalso; omega, by omega, by omega, by omega, by omega, by omega, by omega, by omega, by omega, fun j hj => h20 j (by omega), ⟨(by rw [sB5 (by omega)]; exact FR.cast hF24 (by omega)), (fun hr h5 => (by have z := h21.2 (by omega); exact ⟨by unfold rw1; rw [if_neg (by omega)]; exact z, fun hw => absurd hw (by omega), fun hw => absurd hw (by omega), fun hw => absurd hw (by omega)⟩)), fun _ h4 => absurd h4 (by omega)⟩⟩
  by_cases h25 : s = 6
  · refine vc_tabIn dX12_body_1 6 70 h25 rfl rfl rfl ?_
    refine vc_aload_n dX12_body_70 rfl ?_
    refine vc_iload_n dX12_body_71 rfl ?_
    refine vc_cVI dX12_body_72 (sfX12_streetClauseF (M := M) hB0.1  g n p hT x (by omega) (by omega) (by omega) (by omega) (by omega) (by omega)) rfl okX12_streetClause viX12_streetClause lkX12_247 (s_54 hB0.1.1) cl_12 rfl (Nat.le_of_ble_eq_true rfl) ⟨rfl, rfl⟩ (Nat.le_of_ble_eq_true rfl) (Nat.le_of_ble_eq_true rfl) (Nat.le_of_ble_eq_true rfl) ?_
    rintro x26 M27 ⟨hB28, kp29, h30, h31, h32, h33, h34, h35, h36, h37, h38, h39, h40, h41, h42, h43⟩
    have hB44 : BF fT M M27 := BF.go hB0 hB28
    have kp45 : mI M27 55 = mI M 55 := kp_go rfl kp29
    have hF46 : FR g n M27 x26 (sBind (sNum (tk g n) (nx g n) 0 15 p) (fun q => sBind (sNum (tk g n) (nx g n) 0 3 q) (fun q => sBind (sTok (tk g n) (nx g n) 117 q) (fun q => sNum (tk g n) (nx g n) 0 15 q)))) := h43.1
    refine vc_iret dX12_body_75 rfl (Nat.le_of_ble_eq_true rfl) (Nat.le_of_ble_eq_true rfl) ?_
    exact ⟨_, rfl, hB44, kp45, by omega, by omega, fun _ h => by exfalso; omega, by omega, by omega, by omega, by omega, by omega, by omega, by omega, by omega, fun j hj => h42 j (by omega), ⟨(by rw [sB6 (by omega)]; exact FR.cast hF46 (by omega)), (fun hr h5 => (by have z := h43.2 (by omega); exact ⟨by unfold rw1; rw [if_neg (by omega)]; exact z.1, fun _ => by unfold rw2; rw [if_pos (by omega)]; exact z.2.1, fun _ => by unfold rw3; rw [if_neg (by omega)]; exact z.2.2, fun hw => absurd hw (by omega)⟩)), fun _ h4 => absurd h4 (by omega)⟩⟩
  by_cases h47 : s = 7
  · refine vc_tabIn dX12_body_1 7 76 h47 rfl rfl rfl ?_
    refine vc_aload_n dX12_body_76 rfl ?_
    refine vc_iload_n dX12_body_77 rfl ?_
    refine vc_cVI dX12_body_78 (sfX12_streetClauseF (M := M) hB0.1  g n p hT x (by omega) (by omega) (by omega) (by omega) (by omega) (by omega)) rfl okX12_streetClause viX12_streetClause lkX12_247 (s_54 hB0.1.1) cl_12 rfl (Nat.le_of_ble_eq_true rfl) ⟨rfl, rfl⟩ (Nat.le_of_ble_eq_true rfl) (Nat.le_of_ble_eq_true rfl) (Nat.le_of_ble_eq_true rfl) ?_
    rintro x48 M49 ⟨hB50, kp51, h52, h53, h54, h55, h56, h57, h58, h59, h60, h61, h62, h63, h64, h65⟩
    have hB66 : BF fT M M49 := BF.go hB0 hB50
    have kp67 : mI M49 55 = mI M 55 := kp_go rfl kp51
    have hF68 : FR g n M49 x48 (sBind (sNum (tk g n) (nx g n) 0 15 p) (fun q => sBind (sNum (tk g n) (nx g n) 0 3 q) (fun q => sBind (sTok (tk g n) (nx g n) 117 q) (fun q => sNum (tk g n) (nx g n) 0 15 q)))) := h65.1
    refine vc_iret dX12_body_81 rfl (Nat.le_of_ble_eq_true rfl) (Nat.le_of_ble_eq_true rfl) ?_
    exact ⟨_, rfl, hB66, kp67, by omega, by omega, fun _ h => by exfalso; omega, by omega, by omega, by omega, by omega, by omega, by omega, by omega, by omega, fun j hj => h64 j (by omega), ⟨(by rw [sB6 (by omega)]; exact FR.cast hF68 (by omega)), (fun hr h5 => (by have z := h65.2 (by omega); exact ⟨by unfold rw1; rw [if_neg (by omega)]; exact z.1, fun _ => by unfold rw2; rw [if_pos (by omega)]; exact z.2.1, fun _ => by unfold rw3; rw [if_neg (by omega)]; exact z.2.2, fun hw => absurd hw (by omega)⟩)), fun _ h4 => absurd h4 (by omega)⟩⟩
  by_cases h69 : s = 8
  · refine vc_tabIn dX12_body_1 8 82 h69 rfl rfl rfl ?_
    refine vc_aload_n dX12_body_82 rfl ?_
    refine vc_iload_n dX12_body_83 rfl ?_
    refine vc_iconst dX12_body_84 rfl ?_
    refine vc_iaddE dX12_body_85 (by omega) (by omega) ?_
    refine vc_iconst dX12_body_86 rfl ?_
    refine vc_bipush dX12_body_87 rfl ?_
    refine vc_cVI dX12_body_89 (sfX12_figureF (M := M) hB0.1  g n p hT (x + 1) 0 15 (by omega) (by omega) (by omega) (by omega) (by omega) (by omega) (by omega)) rfl okX12_figure viX12_figure lkX12_229 (s_54 hB0.1.1) cl_12 rfl (Nat.le_of_ble_eq_true rfl) ⟨rfl, rfl⟩ (Nat.le_of_ble_eq_true rfl) (Nat.le_of_ble_eq_true rfl) (Nat.le_of_ble_eq_true rfl) ?_
    rintro x70 M71 ⟨hB72, kp73, h74, h75, h76, h77, h78, h79, h80, h81, h82, h83, h84, h85, h86, h87, h88⟩
    have hB89 : BF fT M M71 := BF.go hB0 hB72
    have kp90 : mI M71 55 = mI M 55 := kp_go rfl kp73
    have hF91 : FR g n M71 x70 (sNum (tk g n) (nx g n) 0 15 p) := h88.1
    refine vc_iret dX12_body_92 rfl (Nat.le_of_ble_eq_true rfl) (Nat.le_of_ble_eq_true rfl) ?_
    exact ⟨_, rfl, hB89, kp90, by omega, by omega, fun _ h => by exfalso; omega, by omega, by omega, by omega, by omega, by omega, by omega, by omega, by omega, fun j hj => h87 j (by omega), ⟨(by rw [sB8 (by omega)]; exact FR.cast hF91 (by omega)), (fun hr h5 => (by have z := h88.2 (by omega); exact ⟨by unfold rw1; rw [if_neg (by omega)]; exact z, fun hw => absurd hw (by omega), fun hw => absurd hw (by omega), fun hw => absurd hw (by omega)⟩)), fun _ h4 => absurd h4 (by omega)⟩⟩
  by_cases h92 : s = 9
  · refine vc_tabIn dX12_body_1 9 93 h92 rfl rfl rfl ?_
    refine vc_aload_n dX12_body_93 rfl ?_
    refine vc_iload_n dX12_body_94 rfl ?_
    refine vc_iconst dX12_body_95 rfl ?_
    refine vc_iaddE dX12_body_96 (by omega) (by omega) ?_
    refine vc_iconst dX12_body_97 rfl ?_
    refine vc_bipush dX12_body_98 rfl ?_
    refine vc_cVI dX12_body_100 (sfX12_figureF (M := M) hB0.1  g n p hT (x + 1) 0 15 (by omega) (by omega) (by omega) (by omega) (by omega) (by omega) (by omega)) rfl okX12_figure viX12_figure lkX12_229 (s_54 hB0.1.1) cl_12 rfl (Nat.le_of_ble_eq_true rfl) ⟨rfl, rfl⟩ (Nat.le_of_ble_eq_true rfl) (Nat.le_of_ble_eq_true rfl) (Nat.le_of_ble_eq_true rfl) ?_
    rintro x93 M94 ⟨hB95, kp96, h97, h98, h99, h100, h101, h102, h103, h104, h105, h106, h107, h108, h109, h110, h111⟩
    have hB112 : BF fT M M94 := BF.go hB0 hB95
    have kp113 : mI M94 55 = mI M 55 := kp_go rfl kp96
    have hF114 : FR g n M94 x93 (sNum (tk g n) (nx g n) 0 15 p) := h111.1
    refine vc_iret dX12_body_103 rfl (Nat.le_of_ble_eq_true rfl) (Nat.le_of_ble_eq_true rfl) ?_
    exact ⟨_, rfl, hB112, kp113, by omega, by omega, fun _ h => by exfalso; omega, by omega, by omega, by omega, by omega, by omega, by omega, by omega, by omega, fun j hj => h110 j (by omega), ⟨(by rw [sB8 (by omega)]; exact FR.cast hF114 (by omega)), (fun hr h5 => (by have z := h111.2 (by omega); exact ⟨by unfold rw1; rw [if_neg (by omega)]; exact z, fun hw => absurd hw (by omega), fun hw => absurd hw (by omega), fun hw => absurd hw (by omega)⟩)), fun _ h4 => absurd h4 (by omega)⟩⟩
  by_cases h115 : s = 10
  · refine vc_tabIn dX12_body_1 10 104 h115 rfl rfl rfl ?_
    refine vc_aload_n dX12_body_104 rfl ?_
    refine vc_iload_n dX12_body_105 rfl ?_
    refine vc_cVI dX12_body_106 (sfX12_tellingClauseF (M := M) hB0.1  g n p hT x (by omega) (by omega) (by omega) (by omega) (by omega) (by omega)) rfl okX12_tellingClause viX12_tellingClause lkX12_250 (s_54 hB0.1.1) cl_12 rfl (Nat.le_of_ble_eq_true rfl) ⟨rfl, rfl⟩ (Nat.le_of_ble_eq_true rfl) (Nat.le_of_ble_eq_true rfl) (Nat.le_of_ble_eq_true rfl) ?_
    rintro x116 M117 ⟨hB118, kp119, h120, h121, h122, h123, h124, h125, h126, h127, h128, h129, h130, h131, h132, h133, h134⟩
    have hB135 : BF fT M M117 := BF.go hB0 hB118
    have kp136 : mI M117 55 = mI M 55 := kp_go rfl kp119
    have hF137 : FR g n M117 x116 (sBind (sNum (tk g n) (nx g n) 0 5 p) (fun q => sBind (sFac (tk g n) (nx g n) q) (fun q => sBind (sTok (tk g n) (nx g n) (-242) q) (fun q => sTurns (tk g n) (nx g n) 7 0 q)))) := h134.1
    refine vc_iret dX12_body_109 rfl (Nat.le_of_ble_eq_true rfl) (Nat.le_of_ble_eq_true rfl) ?_
    exact ⟨_, rfl, hB135, kp136, by omega, by omega, fun _ h => by exfalso; omega, by omega, by omega, by omega, by omega, by omega, by omega, by omega, by omega, fun j hj => h133 j (by omega), ⟨(by rw [sB10 (by omega)]; exact FR.cast hF137 (by omega)), (fun hr h5 => (by have z := h134.2 (by omega); exact ⟨by unfold rw1; rw [if_neg (by omega)]; exact z.1, fun _ => by unfold rw2; rw [if_neg (by omega)]; exact z.2.1, fun hw => absurd hw (by omega), fun _ => z⟩)), fun _ h4 => absurd h4 (by omega)⟩⟩
  by_cases h138 : s = 11
  · refine vc_tabIn dX12_body_1 11 110 h138 rfl rfl rfl ?_
    refine vc_aload_n dX12_body_110 rfl ?_
    refine vc_iload_n dX12_body_111 rfl ?_
    refine vc_cVI dX12_body_112 (sfX12_startClauseF (M := M) hB0.1  g n p hT x (by omega) (by omega) (by omega) (by omega) (by omega) (by omega)) rfl okX12_startClause viX12_startClause lkX12_253 (s_54 hB0.1.1) cl_12 rfl (Nat.le_of_ble_eq_true rfl) ⟨rfl, rfl⟩ (Nat.le_of_ble_eq_true rfl) (Nat.le_of_ble_eq_true rfl) (Nat.le_of_ble_eq_true rfl) ?_
    rintro x139 M140 ⟨hB141, kp142, h143, h144, h145, h146, h147, h148, h149, h150, h151, h152, h153, h154, h155, h156⟩
    have hB157 : BF fT M M140 := BF.go hB0 hB141
    have kp158 : mI M140 55 = mI M 55 := kp_go rfl kp142
    have hF159 : FR g n M140 x139 (sBind (sNum (tk g n) (nx g n) 0 15 p) (fun q => sFac (tk g n) (nx g n) q)) := h156.1
    refine vc_iret dX12_body_115 rfl (Nat.le_of_ble_eq_true rfl) (Nat.le_of_ble_eq_true rfl) ?_
    exact ⟨_, rfl, hB157, kp158, by omega, by omega, fun _ h => by exfalso; omega, by omega, by omega, by omega, by omega, by omega, by omega, by omega, by omega, fun j hj => h155 j (by omega), ⟨(by rw [sB11 (by omega)]; exact FR.cast hF159 (by omega)), (fun hr h5 => (by have z := h156.2 (by omega); exact ⟨by unfold rw1; rw [if_neg (by omega)]; exact z.1, fun _ => by unfold rw2; rw [if_neg (by omega)]; exact z.2, fun hw => absurd hw (by omega), fun hw => absurd hw (by omega)⟩)), fun _ h4 => absurd h4 (by omega)⟩⟩
  by_cases h160 : s = 12
  · refine vc_tabIn dX12_body_1 12 116 h160 rfl rfl rfl ?_
    refine vc_aload_n dX12_body_116 rfl ?_
    refine vc_iload_n dX12_body_117 rfl ?_
    refine vc_iconst dX12_body_118 rfl ?_
    refine vc_iaddE dX12_body_119 (by omega) (by omega) ?_
    refine vc_iconst dX12_body_120 rfl ?_
    refine vc_bipush dX12_body_121 rfl ?_
    refine vc_cVI dX12_body_123 (sfX12_figureF (M := M) hB0.1  g n p hT (x + 1) 1 20 (by omega) (by omega) (by omega) (by omega) (by omega) (by omega) (by omega)) rfl okX12_figure viX12_figure lkX12_229 (s_54 hB0.1.1) cl_12 rfl (Nat.le_of_ble_eq_true rfl) ⟨rfl, rfl⟩ (Nat.le_of_ble_eq_true rfl) (Nat.le_of_ble_eq_true rfl) (Nat.le_of_ble_eq_true rfl) ?_
    rintro x161 M162 ⟨hB163, kp164, h165, h166, h167, h168, h169, h170, h171, h172, h173, h174, h175, h176, h177, h178, h179⟩
    have hB180 : BF fT M M162 := BF.go hB0 hB163
    have kp181 : mI M162 55 = mI M 55 := kp_go rfl kp164
    have hF182 : FR g n M162 x161 (sNum (tk g n) (nx g n) 1 20 p) := h179.1
    refine vc_iret dX12_body_126 rfl (Nat.le_of_ble_eq_true rfl) (Nat.le_of_ble_eq_true rfl) ?_
    exact ⟨_, rfl, hB180, kp181, by omega, by omega, fun _ h => by exfalso; omega, by omega, by omega, by omega, by omega, by omega, by omega, by omega, by omega, fun j hj => h178 j (by omega), ⟨(by rw [sB12 (by omega)]; exact FR.cast hF182 (by omega)), (fun hr h5 => (by have z := h179.2 (by omega); exact ⟨by unfold rw1; rw [if_neg (by omega)]; exact z, fun hw => absurd hw (by omega), fun hw => absurd hw (by omega), fun hw => absurd hw (by omega)⟩)), fun _ h4 => absurd h4 (by omega)⟩⟩
  by_cases h183 : s = 13
  · refine vc_tabIn dX12_body_1 13 127 h183 rfl rfl rfl ?_
    refine vc_aload_n dX12_body_127 rfl ?_
    refine vc_iload_n dX12_body_128 rfl ?_
    refine vc_cVI dX12_body_129 (sfX12_turnClauseF (M := M) hB0.1  g n p hT x (by omega) (by omega) (by omega) (by omega) (by omega) (by omega)) rfl okX12_turnClause viX12_turnClause lkX12_256 (s_54 hB0.1.1) cl_12 rfl (Nat.le_of_ble_eq_true rfl) ⟨rfl, rfl⟩ (Nat.le_of_ble_eq_true rfl) (Nat.le_of_ble_eq_true rfl) (Nat.le_of_ble_eq_true rfl) ?_
    rintro x184 M185 ⟨hB186, kp187, h188, h189, h190, h191, h192, h193, h194, h195, h196, h197, h198, h199, h200, h201⟩
    have hB202 : BF fT M M185 := BF.go hB0 hB186
    have kp203 : mI M185 55 = mI M 55 := kp_go rfl kp187
    have hF204 : FR g n M185 x184 (sSide (tk g n) (nx g n) p) := h201.1
    refine vc_iret dX12_body_132 rfl (Nat.le_of_ble_eq_true rfl) (Nat.le_of_ble_eq_true rfl) ?_
    exact ⟨_, rfl, hB202, kp203, by omega, by omega, fun _ h => by exfalso; omega, by omega, by omega, by omega, by omega, by omega, by omega, by omega, by omega, fun j hj => h200 j (by omega), ⟨(by rw [sB13 (by omega)]; exact FR.cast hF204 (by omega)), (fun hr h5 => (by have z := h201.2 (by omega); exact ⟨by rw [show s = 13 by omega]; exact z, fun hw => absurd hw (by omega), fun hw => absurd hw (by omega), fun hw => absurd hw (by omega)⟩)), fun _ h4 => absurd h4 (by omega)⟩⟩
  by_cases h205 : s = 14
  · refine vc_tabIn dX12_body_1 14 133 h205 rfl rfl rfl ?_
    refine vc_aload_n dX12_body_133 rfl ?_
    refine vc_iload_n dX12_body_134 rfl ?_
    refine vc_iconst dX12_body_135 rfl ?_
    refine vc_iaddE dX12_body_136 (by omega) (by omega) ?_
    refine vc_iconst dX12_body_137 rfl ?_
    refine vc_iconst dX12_body_138 rfl ?_
    refine vc_cVI dX12_body_139 (sfX12_figureF (M := M) hB0.1  g n p hT (x + 1) 0 5 (by omega) (by omega) (by omega) (by omega) (by omega) (by omega) (by omega)) rfl okX12_figure viX12_figure lkX12_229 (s_54 hB0.1.1) cl_12 rfl (Nat.le_of_ble_eq_true rfl) ⟨rfl, rfl⟩ (Nat.le_of_ble_eq_true rfl) (Nat.le_of_ble_eq_true rfl) (Nat.le_of_ble_eq_true rfl) ?_
    rintro x206 M207 ⟨hB208, kp209, h210, h211, h212, h213, h214, h215, h216, h217, h218, h219, h220, h221, h222, h223, h224⟩
    have hB225 : BF fT M M207 := BF.go hB0 hB208
    have kp226 : mI M207 55 = mI M 55 := kp_go rfl kp209
    have hF227 : FR g n M207 x206 (sNum (tk g n) (nx g n) 0 5 p) := h224.1
    refine vc_iret dX12_body_142 rfl (Nat.le_of_ble_eq_true rfl) (Nat.le_of_ble_eq_true rfl) ?_
    exact ⟨_, rfl, hB225, kp226, by omega, by omega, fun _ h => by exfalso; omega, by omega, by omega, by omega, by omega, by omega, by omega, by omega, by omega, fun j hj => h223 j (by omega), ⟨(by rw [sB14 (by omega)]; exact FR.cast hF227 (by omega)), (fun hr h5 => (by have z := h224.2 (by omega); exact ⟨by unfold rw1; rw [if_neg (by omega)]; exact z, fun hw => absurd hw (by omega), fun hw => absurd hw (by omega), fun hw => absurd hw (by omega)⟩)), fun _ h4 => absurd h4 (by omega)⟩⟩
  by_cases h228 : s = 15
  · refine vc_tabIn dX12_body_1 15 143 h228 rfl rfl rfl ?_
    refine vc_aload_n dX12_body_143 rfl ?_
    refine vc_iload_n dX12_body_144 rfl ?_
    refine vc_iconst dX12_body_145 rfl ?_
    refine vc_iaddE dX12_body_146 (by omega) (by omega) ?_
    refine vc_iconst dX12_body_147 rfl ?_
    refine vc_bipush dX12_body_148 rfl ?_
    refine vc_cVI dX12_body_150 (sfX12_figureF (M := M) hB0.1  g n p hT (x + 1) 0 7 (by omega) (by omega) (by omega) (by omega) (by omega) (by omega) (by omega)) rfl okX12_figure viX12_figure lkX12_229 (s_54 hB0.1.1) cl_12 rfl (Nat.le_of_ble_eq_true rfl) ⟨rfl, rfl⟩ (Nat.le_of_ble_eq_true rfl) (Nat.le_of_ble_eq_true rfl) (Nat.le_of_ble_eq_true rfl) ?_
    rintro x229 M230 ⟨hB231, kp232, h233, h234, h235, h236, h237, h238, h239, h240, h241, h242, h243, h244, h245, h246, h247⟩
    have hB248 : BF fT M M230 := BF.go hB0 hB231
    have kp249 : mI M230 55 = mI M 55 := kp_go rfl kp232
    have hF250 : FR g n M230 x229 (sNum (tk g n) (nx g n) 0 7 p) := h247.1
    refine vc_iret dX12_body_153 rfl (Nat.le_of_ble_eq_true rfl) (Nat.le_of_ble_eq_true rfl) ?_
    exact ⟨_, rfl, hB248, kp249, by omega, by omega, fun _ h => by exfalso; omega, by omega, by omega, by omega, by omega, by omega, by omega, by omega, by omega, fun j hj => h246 j (by omega), ⟨(by rw [sB15 (by omega)]; exact FR.cast hF250 (by omega)), (fun hr h5 => (by have z := h247.2 (by omega); exact ⟨by unfold rw1; rw [if_neg (by omega)]; exact z, fun hw => absurd hw (by omega), fun hw => absurd hw (by omega), fun hw => absurd hw (by omega)⟩)), fun _ h4 => absurd h4 (by omega)⟩⟩
  refine vc_tabOut dX12_body_1 154 (by omega) rfl ?_
  refine vc_aload_n dX12_body_154 rfl ?_
  refine vc_iload_n dX12_body_155 rfl ?_
  refine vc_cVI dX12_body_156 (sfX12_lawClauseF (M := M) hB0.1  g n p hT x (by omega) (by omega) (by omega) (by omega) (by omega) (by omega) (by omega) (by omega) (by omega) (by omega)) rfl okX12_lawClause viX12_lawClause lkX12_259 (s_54 hB0.1.1) cl_12 rfl (Nat.le_of_ble_eq_true rfl) ⟨rfl, rfl⟩ (Nat.le_of_ble_eq_true rfl) (Nat.le_of_ble_eq_true rfl) (Nat.le_of_ble_eq_true rfl) ?_
  rintro x251 M252 ⟨hB253, kp254, h255, h256, h257, h258, h259, h260, h261, h262, h263, h264, h265, h266⟩
  have hB267 : BF fT M M252 := BF.go hB0 hB253
  have kp268 : mI M252 55 = mI M 55 := kp_go rfl kp254
  have hF269 : FR g n M252 x251 (sLaw (tk g n) (nx g n) (mI M 54 16) p) := h266.1
  refine vc_iret dX12_body_159 rfl (Nat.le_of_ble_eq_true rfl) (Nat.le_of_ble_eq_true rfl) ?_
  exact ⟨_, rfl, hB267, kp268, by omega, by omega, fun h _ => h256 h, by omega, by omega, by omega, by omega, by omega, by omega, by omega, by omega, fun j hj => h265 j (by omega), ⟨(by rw [sB4 (by omega), ← p10]; exact FR.cast hF269 (by omega)), (fun hr h5 => absurd h5 (by omega)), fun hr _ => h266.2 hr⟩⟩
