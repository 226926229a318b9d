/-! THE LAWS of the reference (written by wip/laws2/e3.py) -/
/-- one law's clause of the reference, and its code in the class -/
def LwE (C L R : Nat → Int) (t0 X w : Int) : Prop := 0 ≤ R (X + 1).toNat ∧ R (X + 1).toNat ≤ R (X + 2).toNat ∧ ∃ c, c = cdL R t0 (R (X + 1).toNat) (R (X + 2).toNat - R (X + 1).toNat).toNat ∧ H1 c 27 ∧ rgO w c ∧ 0 ≤ L (2 * w).toNat ∧ L (2 * w + 1).toNat = L (2 * w).toNat + c.length ∧ ∀ i : Nat, i < c.length → C ((L (2 * w).toNat).toNat + i) = enc (nth c i)
/-- the laws of a text of n clauses: the class's arrays C, L and the reference's slot at t0 -/
def LwT (C L R : Nat → Int) (t0 n : Int) : Prop := (∀ e : Nat, (e : Int) < n → 0 ≤ R (t0 + 1 + 11 * e).toNat → R (t0 + 1 + 11 * e).toNat ≤ 4 → LwE C L R t0 (t0 + 1 + 11 * e) (R (t0 + 1 + 11 * e).toNat)) ∧ ∀ w : Nat, w ≤ 4 → (∀ e : Nat, (e : Int) < n → R (t0 + 1 + 11 * e).toNat ≠ w) → L (2 * w) = -1
theorem LwT.co {C L R C2 L2 R2 : Nat → Int} {t0 n wr : Int} (h : LwT C L R t0 n) (h0 : 0 ≤ t0) (n24 : n ≤ 24) (hC : C2 = C) (hL : L2 = L) (hR : ∀ j : Nat, t0 < j → (j : Int) < t0 + 873 → R2 j = R j) (hw : wr ≤ 300) (hb : ∀ e : Nat, (e : Int) < n → 0 ≤ R (t0 + 1 + 11 * e).toNat → R (t0 + 1 + 11 * e).toNat ≤ 4 → R (t0 + 1 + 11 * e + 2).toNat ≤ wr) : LwT C2 L2 R2 t0 n := by
  subst hC
  subst hL
  have er : ∀ (e : Nat) (k : Int), (e : Int) < n → 0 ≤ k → k ≤ 10 → R2 (t0 + 1 + 11 * e + k).toNat = R (t0 + 1 + 11 * e + k).toNat := fun e k he k0 k1 => hR _ (by omega) (by omega)
  have er0 : ∀ (e : Nat), (e : Int) < n → R2 (t0 + 1 + 11 * e).toNat = R (t0 + 1 + 11 * e).toNat := fun e he => hR _ (by omega) (by omega)
  refine ⟨fun e he q0 q4 => ?_, fun w hw2 hn => h.2 w hw2 (fun e he hh => hn e he ((er0 e he).trans hh))⟩
  rw [er0 e he] at q0 q4 ⊢
  have hb1 := hb e he q0 q4
  obtain ⟨g1, g2, c, g3, g⟩ := h.1 e he q0 q4
  unfold LwE
  rw [er e 1 he (by omega) (by omega), er e 2 he (by omega) (by omega)]
  refine ⟨g1, g2, c, ?_, g⟩
  rw [g3]
  exact (cdL_co (by omega) _ (fun j j1 j2 => hR j (by omega) (by omega))).symm
/-- the laws of all texts, on both sides -/
def LwS (S : Sw) (R : Nat → Int) : Prop := ∀ t : Nat, (t : Int) < S 1 10 → LwT (S (1000 + t)) (S (1010 + t)) R (873 * t) (R (873 * t))
theorem LwS.lk {S S' : Sw} {R : Nat → Int} (h : LwS S R) (g : Lk S S') : LwS S' R := fun t ht => by
  rw [g.1.1] at ht
  rw [show S' (1000 + t) = S (1000 + t) from funext fun j => g.2 _ _ (by omega), show S' (1010 + t) = S (1010 + t) from funext fun j => g.2 _ _ (by omega)]
  exact h t ht
def nmR (M : Mem) : Int → Int := fun v => mI M 61 v.toNat
def bdN (w : Int) (nm : Int → Int) : Prop := ∀ v, 0 ≤ v → v ≤ 8 → okLw w v → -1000000 ≤ nm v ∧ nm v ≤ 1000000
theorem LwS.at {S : Sw} {R : Nat → Int} (h : LwS S R) (t0 : 0 ≤ S 1 11) (t1 : S 1 11 < S 1 10) : LwT (S (1000 + (S 1 11).toNat)) (S (1010 + (S 1 11).toNat)) R (873 * S 1 11) (R (873 * S 1 11).toNat) := by
  have e1 : ((S 1 11).toNat : Int) = S 1 11 := by omega
  have z := h (S 1 11).toNat (by omega)
  rw [e1, show 873 * (S 1 11).toNat = (873 * S 1 11).toNat by omega] at z
  exact z
theorem LwS.no {S : Sw} {R : Nat → Int} {w : Int} (h : LwS S R) (w0 : 0 ≤ w) (w4 : w ≤ 4) (hn : ∀ e : Nat, (e : Int) < R (873 * S 1 11).toNat → R (873 * S 1 11 + 1 + 11 * e).toNat ≠ w) : ¬ ruS S w := by
  rintro ⟨t0, t1, hc⟩
  apply hc
  have z := (h.at t0 t1).2 w.toNat (by omega) (fun e he => by rw [show ((w.toNat : Nat) : Int) = w by omega]; exact hn e he)
  rw [show (2 * w).toNat = 2 * w.toNat by omega]
  exact z
theorem LwS.yes {S : Sw} {R : Nat → Int} {w : Int} (h : LwS S R) (w0 : 0 ≤ w) (w4 : w ≤ 4) (t0 : 0 ≤ S 1 11) (t1 : S 1 11 < S 1 10) {e : Nat} (he : (e : Int) < R (873 * S 1 11).toNat) (hw : R (873 * S 1 11 + 1 + 11 * e).toNat = w) : ruS S w ∧ ∃ c, rgO w c ∧ H1 c 27 ∧ (0 ≤ R (873 * S 1 11 + 1 + 11 * e + 1).toNat ∧ R (873 * S 1 11 + 1 + 11 * e + 1).toNat ≤ R (873 * S 1 11 + 1 + 11 * e + 2).toNat) ∧ c = cdL R (873 * S 1 11) (R (873 * S 1 11 + 1 + 11 * e + 1).toNat) (R (873 * S 1 11 + 1 + 11 * e + 2).toNat - R (873 * S 1 11 + 1 + 11 * e + 1).toNat).toNat ∧ ∀ nm, evKV nm (tLw S (S 1 11).toNat w.toNat) = evKV nm c := by
  have z := (h.at t0 t1).1 e he (by rw [hw]; exact w0) (by rw [hw]; exact w4)
  rw [hw] at z
  obtain ⟨g1, g2, c, g3, g4, g5, g6, g7, g8⟩ := z
  have q1 : (2 * w).toNat = 2 * w.toNat := by omega
  have q2 : (2 * w + 1).toNat = 2 * w.toNat + 1 := by omega
  refine ⟨⟨t0, t1, by omega⟩, c, g5, g4, ⟨g1, g2⟩, g3, fun nm => ?_⟩
  rw [q1] at g6 g7 g8
  rw [q2] at g7
  unfold tLw
  rw [g7, show (S (1010 + (S 1 11).toNat) (2 * w.toNat) + (c.length : Int) - S (1010 + (S 1 11).toNat) (2 * w.toNat)).toNat = c.length by omega]
  exact lsC_V g5 g8
theorem LwS.nm {S : Sw} {R : Nat → Int} {w : Int} {nm nm' : Int → Int} {lo hi df : Int} (h : LwS S R) (w0 : 0 ≤ w) (w4 : w ≤ 4) (hn : ∀ v, 0 ≤ v → v ≤ 8 → okLw w v → nm v = nm' v) : lwS S w nm lo hi df = lwS S w nm' lo hi df := by
  by_cases hr : ruS S w
  · have hx : ∃ e : Nat, (e : Int) < R (873 * S 1 11).toNat ∧ R (873 * S 1 11 + 1 + 11 * e).toNat = w := Classical.byContradiction (fun hc => h.no w0 w4 (fun e he q => hc ⟨e, he, q⟩) hr)
    obtain ⟨e, he, hw⟩ := hx
    obtain ⟨_, c, hc, _, _, _, hev⟩ := h.yes w0 w4 hr.1 hr.2.1 he hw
    rw [lwS_y hr, lwS_y hr, hev, hev, evKV_co hn hc]
  · rw [lwS_n hr, lwS_n hr]
theorem bdN.stale {w : Int} {nm : Int → Int} (h : bdN w nm) : ∀ v, 0 ≤ v → v ≤ 8 → okLw w v → -1000000 ≤ nm v ∧ nm v ≤ 1000000 := h
/-- the town alone -/
theorem TA.st {a : Nat → Int} {S : Sw} (h : TA a S) {c d : Int} (c0 : 0 ≤ c) (c1 : c < S 1 6) (d0 : 0 ≤ d) (d1 : d ≤ 3) : a (10 + 9 * c + 1 + d).toNat = ahS S c d := by
  have z := ((h.2.1 c.toNat (by omega)).2 d.toNat (by omega)).1
  rw [show 10 + 9 * c.toNat + 1 + d.toNat = (10 + 9 * c + 1 + d).toNat by omega] at z
  unfold ahS
  rw [if_pos ⟨c0, c1⟩, show (4 * c + d % 4).toNat = 4 * c.toNat + d.toNat by omega]
  exact z
theorem TA.ahr {a : Nat → Int} {S : Sw} (h : TA a S) (c d : Int) : -1 ≤ ahS S c d ∧ ahS S c d < S 1 6 := by
  have w := h.2.2.2.2.2.2.2
  obtain ⟨w1, w2, _⟩ := w
  unfold ahS
  split
  · exact h.2.2.2.2.1.2.1 _ (by omega)
  · omega
theorem TA.si {a : Nat → Int} {S : Sw} (h : TA a S) {c : Int} (c0 : 0 ≤ c) (c1 : c < S 1 6) : a (10 + 9 * c).toNat = siS S c := by
  have z := (h.2.1 c.toNat (by omega)).1
  rw [show 10 + 9 * c.toNat = (10 + 9 * c).toNat by omega] at z
  unfold siS
  rw [if_pos ⟨c0, c1⟩]
  exact z
theorem TA.la {a : Nat → Int} {S : Sw} (h : TA a S) {c d : Int} (c0 : 0 ≤ c) (c1 : c < S 1 6) (d0 : 0 ≤ d) (d1 : d ≤ 3) {la : Int} : cntS S c d la ↔ (0 ≤ a (10 + 9 * c + 1 + d).toNat ∧ (la ≠ 0 ∨ a (10 + 9 * c + 5 + d).toNat ≠ 1)) := by
  obtain ⟨z1, z2⟩ := (h.2.1 c.toNat (by omega)).2 d.toNat (by omega)
  rw [show 10 + 9 * c.toNat + 1 + d.toNat = (10 + 9 * c + 1 + d).toNat by omega, show 4 * c.toNat + d.toNat = (4 * c + d % 4).toNat by omega] at z1
  rw [show 10 + 9 * c.toNat + 5 + d.toNat = (10 + 9 * c + 5 + d).toNat by omega, show 4 * c.toNat + d.toNat = (4 * c + d % 4).toNat by omega] at z2
  have w := h.2.2.2.2.2.2.2
  obtain ⟨w1, w2, _⟩ := w
  have r := h.2.2.2.2.1.2.1 (4 * c + d % 4).toNat (by omega)
  have q := h.2.2.2.2.1.2.2 (4 * c + d % 4).toNat
  unfold cntS
  rw [z1, z2]
  by_cases e : S 3 (4 * c + d % 4).toNat = -1
  · rw [if_pos e]; omega
  · rw [if_neg e]; omega
/-- a telling of the reference's row is that of the class -/
theorem TA.tg {a : Nat → Int} {S : Sw} (h : TA a S) {t : Int} (t0 : 0 ≤ t) (t1 : t < S 1 9) : (a (184 + 9 * t).toNat = S 6 (9 * t).toNat ∧ a (184 + 9 * t + 1).toNat = S 6 (9 * t + 1).toNat ∧ a (184 + 9 * t + 2).toNat = S 6 (9 * t + 2).toNat) ∧ (0 ≤ S 6 (9 * t).toNat ∧ S 6 (9 * t).toNat < S 1 8) ∧ (0 ≤ S 6 (9 * t + 1).toNat ∧ S 6 (9 * t + 1).toNat ≤ 3) ∧ (1 ≤ S 6 (9 * t + 2).toNat ∧ S 6 (9 * t + 2).toNat ≤ 6) ∧ ∀ i : Nat, (i : Int) < S 6 (9 * t + 2).toNat → a (184 + 9 * t + 3 + i).toNat = S 6 (9 * t + 3 + i).toNat ∧ isTu (S 6 (9 * t + 3 + i).toNat) := by
  obtain ⟨⟨z1, z2, z3⟩, z4⟩ := h.2.2.2.1 t.toNat (by omega)
  obtain ⟨y1, y2, y3, y4, y5, y6, y7⟩ := h.2.2.2.2.2.2.1 t.toNat (by omega)
  rw [show 184 + 9 * t.toNat = (184 + 9 * t).toNat by omega, show 9 * t.toNat = (9 * t).toNat by omega] at z1
  rw [show 184 + 9 * t.toNat + 1 = (184 + 9 * t + 1).toNat by omega, show 9 * t.toNat + 1 = (9 * t + 1).toNat by omega] at z2
  rw [show 184 + 9 * t.toNat + 2 = (184 + 9 * t + 2).toNat by omega, show 9 * t.toNat + 2 = (9 * t + 2).toNat by omega] at z3
  rw [show 9 * t.toNat = (9 * t).toNat by omega] at y1 y2
  rw [show 9 * t.toNat + 1 = (9 * t + 1).toNat by omega] at y3 y4
  rw [show 9 * t.toNat + 2 = (9 * t + 2).toNat by omega] at z4 y5 y6 y7
  refine ⟨⟨z1, z2, z3⟩, ⟨y1, y2⟩, ⟨y3, y4⟩, ⟨y5, y6⟩, fun i hi => ?_⟩
  have q := z4 i hi
  have p := y7 i hi
  rw [show 184 + 9 * t.toNat + 3 + i = (184 + 9 * t + 3 + (i : Int)).toNat by omega, show 9 * t.toNat + 3 + i = (9 * t + 3 + (i : Int)).toNat by omega] at q
  rw [show 9 * t.toNat + 3 + i = (9 * t + 3 + (i : Int)).toNat by omega] at p
  exact ⟨q, p⟩
theorem TA.te {a : Nat → Int} {S : Sw} (h : TA a S) {t : Int} (t0 : 0 ≤ t) (t1 : t < S 1 8) : a (154 + 5 * t).toNat = S 5 (4 * t).toNat ∧ 0 ≤ S 5 (4 * t).toNat ∧ S 5 (4 * t).toNat < S 1 6 := by
  have z := h.2.2.1 t.toNat (by omega) 0 (by decide)
  have y := h.2.2.2.2.2.1 t.toNat (by omega)
  rw [show 154 + 5 * t.toNat + 0 = (154 + 5 * t).toNat by omega, show 4 * t.toNat + 0 = (4 * t).toNat by omega] at z
  rw [show 4 * t.toNat = (4 * t).toNat by omega] at y
  exact ⟨z, y⟩
/-- numbers that were told are small -/
def nmT (S : Sw) : Prop := (∀ c : Nat, (c : Int) < S 1 6 → 0 ≤ S 2 c ∧ S 2 c ≤ 5) ∧ ∀ t : Nat, (t : Int) < S 1 8 → ∀ j : Nat, 1 ≤ j → j ≤ 3 → 0 ≤ S 5 (4 * t + j) ∧ S 5 (4 * t + j) ≤ 10
theorem nmT.co {S S' : Sw} (h : nmT S) (h6 : S' 1 6 = S 1 6) (h8 : S' 1 8 = S 1 8) (h2 : ∀ j, S' 2 j = S 2 j) (h5 : ∀ j, S' 5 j = S 5 j) : nmT S' := ⟨fun c hc => by rw [h2]; rw [h6] at hc; exact h.1 c hc, fun t ht j j1 j2 => by rw [h5]; rw [h8] at ht; exact h.2 t ht j j1 j2⟩
theorem nmT.fr {S S' : Sw} (h : nmT S) (g : ∀ k j : Nat, k ≤ 5 → S' k j = S k j) : nmT S' := h.co (g 1 6 (by decide)) (g 1 8 (by decide)) (fun j => g 2 j (by decide)) (fun j => g 5 j (by decide))
theorem nmT.kp {S : Sw} (h : nmT S) : nmT (fKp S) := h.fr (fun k j hk => fKp_o (by omega) (by omega))
theorem nmT.u16 {S : Sw} {j : Nat} {v : Int} (h : nmT S) : nmT (up S 16 j v) := h.fr (fun a b ha => up_ne (by omega))
theorem nmT.pl {S : Sw} {c f : Int} (h : nmT S) : nmT (fPl c f S) := h.u16.u16
theorem nmT.sc {S : Sw} {v : Int} (h : nmT S) : nmT (sc v S) := h.u16
theorem nmT.ah {S : Sw} (h : nmT S) : nmT (fAh S) := h.pl.sc
theorem nmT.he {S : Sw} {t : Int} (h : nmT S) : nmT (fHe t S) := h.sc.u16
theorem nmT.fa {S : Sw} {w : Int} (h : nmT S) : nmT (fFa w S) := h.u16
theorem nmT.go : ∀ (n : Nat) (S : Sw), nmT S → nmT (goS n S).1
  | 0, _, h => h
  | n + 1, S, h => by
    unfold goS
    split
    · exact h
    · exact nmT.go n _ h.kp.ah
theorem nmT.hl : ∀ (n : Nat) (t : Int) (S : Sw), nmT S → nmT (hlS n t S)
  | 0, _, _, h => h
  | n + 1, t, S, h => by
    unfold hlS
    split
    · exact h.he
    · exact nmT.hl n (t + 1) S h
theorem nmT.dr {S : Sw} {w : Int} (h : nmT S) : nmT (drS w S) := by
  unfold drS
  split
  · exact h.fa
  · split
    · exact nmT.hl _ _ _ h
    · split
      · exact h.ah
      · exact h.fa
theorem nmT.corner {S S' : Sw} {v r : Int} (h : nmT S) (h6 : 0 ≤ S 1 6) (q : CornerS v S S' r) : nmT S' := by
  rcases q with ⟨hv, _, e⟩ | ⟨_, _, e⟩ <;> rw [e]
  · refine ⟨fun c hc => ?_, fun t ht j j1 j2 => ?_⟩
    · rw [up_same] at hc
      rw [up_ne (by omega)]
      by_cases q : c = (S 1 6).toNat
      · rw [q, up_same]; omega
      · rw [up_ne (fun z => q z.2)]; exact h.1 c (by omega)
    · rw [up_ne (by decide), up_ne (by omega)] at ht
      rw [up_ne (by omega), up_ne (by omega)]
      exact h.2 t ht j j1 j2
  · exact h
theorem nmT.street {S S' : Sw} {f d t la r : Int} (h : nmT S) (q : StreetS f d t la S S' r) : nmT S' := by
  rcases q with ⟨_, _, e⟩ | ⟨_, _, e⟩ <;> rw [e]
  · unfold stS
    exact h.co (by rw [up_ne (by omega), up_ne (by omega), up_ne (by omega), up_ne (by omega)]) (by rw [up_ne (by omega), up_ne (by omega), up_ne (by omega), up_ne (by omega)]) (fun j => by rw [up_ne (by omega), up_ne (by omega), up_ne (by omega), up_ne (by omega)]) (fun j => by rw [up_ne (by omega), up_ne (by omega), up_ne (by omega), up_ne (by omega)])
  · exact h
theorem nmT.teller {S S' : Sw} {c a b m r : Int} (h : nmT S) (h8 : 0 ≤ S 1 8) (q : TellerS c a b m S S' r) : nmT S' := by
  rcases q with ⟨hv, _, e⟩ | ⟨_, _, e⟩ <;> rw [e]
  · obtain ⟨_, _, a0, a1, b0, b1, m0, m1, _⟩ := hv
    refine ⟨fun c hc => ?_, fun t ht j j1 j2 => ?_⟩
    · unfold teS at hc ⊢
      rw [up_ne (by decide), up_ne (by omega), up_ne (by omega), up_ne (by omega), up_ne (by omega)] at hc
      rw [up_ne (by omega), up_ne (by omega), up_ne (by omega), up_ne (by omega), up_ne (by omega)]
      exact h.1 c hc
    · unfold teS at ht ⊢
      rw [up_same] at ht
      rw [up_ne (by omega)]
      by_cases q : (t : Int) = S 1 8
      · rcases (by omega : j = 1 ∨ j = 2 ∨ j = 3) with rfl | rfl | rfl
        · rw [up_ne (by omega), up_ne (by omega), show 4 * t + 1 = (4 * S 1 8 + 1).toNat by omega, up_same]; omega
        · rw [up_ne (by omega), show 4 * t + 2 = (4 * S 1 8 + 2).toNat by omega, up_same]; omega
        · rw [show 4 * t + 3 = (4 * S 1 8 + 3).toNat by omega, up_same]; omega
      · rw [up_ne (by omega), up_ne (by omega), up_ne (by omega), up_ne (by omega)]
        exact h.2 t (by omega) j j1 j2
  · exact h
theorem nmT.telling {S S' : Sw} {t f a b r : Int} (h : nmT S) (h9 : 0 ≤ S 1 9) (q : TellingS t f a b S S' r) : nmT S' := by
  rcases q.row h9 with ⟨_, _, hf⟩ | ⟨_, _, S2, n, _, _, e, hf, _⟩
  · exact h.co (hf 1 6 (by omega)) (hf 1 8 (by omega)) (fun j => hf 2 j (by omega)) (fun j => hf 5 j (by omega))
  · have h2 : nmT S2 := h.co (hf 1 6 (by omega)) (hf 1 8 (by omega)) (fun j => hf 2 j (by omega)) (fun j => hf 5 j (by omega))
    rw [e]
    unfold tgS
    exact h2.co (by rw [up_ne (by decide), up_ne (by omega), up_ne (by omega), up_ne (by omega)]) (by rw [up_ne (by decide), up_ne (by omega), up_ne (by omega), up_ne (by omega)]) (fun j => by rw [up_ne (by omega), up_ne (by omega), up_ne (by omega), up_ne (by omega)]) (fun j => by rw [up_ne (by omega), up_ne (by omega), up_ne (by omega), up_ne (by omega)])
theorem nmT.dos {w a b c d : Int} {S S' : Sw} {ok : Int} (h : nmT S) (h6 : 0 ≤ S 1 6) (h8 : 0 ≤ S 1 8) (h9 : 0 ≤ S 1 9) (hD : DoS w a b c d S S' ok) : nmT S' := by
  rcases hD with ⟨_, r, q, _⟩ | ⟨_, q⟩ | ⟨_, q⟩ | ⟨_, q⟩ | ⟨_, r, q, _⟩ | ⟨_, r, q, _⟩ | ⟨_, q⟩ | ⟨_, q, _⟩ | ⟨_, r, q, _⟩ | ⟨_, r, q, _⟩ | ⟨_, r, q, _⟩ | ⟨_, q, _⟩
  · exact h.corner h6 q
  · exact h.street q
  · exact h.street q
  · rcases q with ⟨_, _, e⟩ | ⟨_, _, e⟩ <;> rw [e]
    · exact h.co (up_ne (by decide)) (up_ne (by decide)) (fun j => up_ne (by omega)) (fun j => up_ne (by omega))
    · exact h
  · exact h.teller h8 q
  · exact h.telling h9 q
  · rcases q with ⟨_, _, e⟩ | ⟨_, _, e⟩ <;> rw [e]
    · exact h.kp.pl.sc
    · exact h
  · rw [q]; exact nmT.go _ _ h
  · rcases q with ⟨_, e, _⟩ | ⟨_, e, _⟩ <;> rw [e]
    · exact h.kp.fa
    · exact h
  · rcases q with ⟨_, e, _⟩ | ⟨_, e, _⟩ <;> rw [e]
    · exact h.kp.he
    · exact h
  · rcases q with ⟨_, e, _⟩ | ⟨_, e, _⟩ <;> rw [e]
    · exact h.kp.pl.sc
    · exact h
  · rw [q]; exact h
theorem AR.sec {a : Nat → Int} {s : Sw} (h : AR a s) : a 258 = s 16 2 := h.2.2.2.2.2.2.1
theorem Lk.it : ∀ (n : Nat) (S : Sw), Lk S (itS n S)
  | 0, S => Lk.refl S
  | n + 1, S => (Lk.kp.trans Lk.ah).trans (Lk.it n _)
theorem nmT.it : ∀ (n : Nat) (S : Sw), nmT S → nmT (itS n S)
  | 0, _, h => h
  | n + 1, _, h => nmT.it n _ h.kp.ah
theorem paP_id {S : Sw} {a f : Int} (a0 : 0 ≤ a) (a1 : a ≤ 15) (f0 : 0 ≤ f) (f1 : f ≤ 3) : paP S a f = paS S a f := by
  unfold paP
  rw [wI_id (x := 4 * a) (by omega) (by omega), wI_id (by omega) (by omega), show (4 * a + f) / 4 = a by omega, show (4 * a + f) % 4 = f by omega]
theorem Lk.dR {S : Sw} : Lk S (drR S) := Lk.dr.trans (Lk.up (by decide) (Or.inl (by decide)))
theorem Lk.rI : ∀ (n : Nat) (S : Sw), Lk S (rI n S)
  | 0, S => Lk.refl S
  | n + 1, S => Lk.dR.trans (Lk.rI n _)
theorem nmT.dR {S : Sw} (h : nmT S) : nmT (drR S) := h.dr.u16
theorem nmT.rI : ∀ (n : Nat) (S : Sw), nmT S → nmT (rI n S)
  | 0, _, h => h
  | n + 1, _, h => nmT.rI n _ h.dR
theorem asB.hl9 : ∀ (n : Nat) (t : Int) (S : Sw) (b : Int), asB S b → 0 ≤ b → b ≤ 2000000000 → 0 ≤ t → t + n ≤ 6 → asB (hlS n t S) (b + 1)
  | 0, _, _, _, h, _, _, _, _ => h.le (by omega)
  | n + 1, t, S, b, h, b0, b1, t0, t1 => by
    unfold hlS
    split
    · exact h.he b0 b1 t0 (by omega)
    · exact asB.hl9 n (t + 1) S b h b0 b1 (by omega) (by omega)
theorem asB.dR {S : Sw} {b : Int} (h : asB S b) (b0 : 0 ≤ b) (b1 : b ≤ 2000000000) (h8 : S 1 8 ≤ 6) : asB (drR S) (b + 1) := by
  refine asB.up ?_ (by decide) (by omega)
  unfold drS
  split
  · exact h.fa.le (by omega)
  · split
    · exact asB.hl9 _ _ _ _ h b0 b1 (by decide) (by omega)
    · split
      · exact h.ah.le (by omega)
      · exact h.fa.le (by omega)
theorem dR_8 {S : Sw} : drR S 1 8 = S 1 8 := by
  have hl : ∀ (n : Nat) (t : Int) (T : Sw), hlS n t T 1 8 = T 1 8 := fun n => by
    induction n with
    | zero => intro t T; rfl
    | succ n ih =>
      intro t T
      unfold hlS
      split
      · unfold fHe sc; rw [up_ne (by omega), up_ne (by decide)]
      · exact ih (t + 1) T
  unfold drR
  rw [up_ne (by decide)]
  unfold drS
  split
  · exact up_ne (by decide)
  · split
    · exact hl _ _ _
    · split
      · exact fAh_o (by decide)
      · exact up_ne (by decide)
theorem rI_8 : ∀ (n : Nat) (S : Sw), rI n S 1 8 = S 1 8
  | 0, _ => rfl
  | n + 1, S => (rI_8 n (drR S)).trans dR_8
theorem asB.rI : ∀ (n : Nat) (S : Sw) (b : Int), asB S b → 0 ≤ b → b + n ≤ 2000000000 → S 1 8 ≤ 6 → asB (rI n S) (b + n)
  | 0, _, _, h, _, _, _ => h.le (by omega)
  | n + 1, S, b, h, b0, b1, h8 => (asB.rI n (drR S) (b + 1) (h.dR b0 (by omega) h8) (by omega) (by omega) (by rw [dR_8]; exact h8)).le (by omega)

set_option maxRecDepth 4000 in
theorem sfX12_workedK {l : Launch} {M : Mem} (hB : Box M) (w : Int) (c : List (Int × Int)) (k : Int) (p0 : 0 ≤ k) (p1 : k ≤ 23) (p2 : 0 ≤ mI M 55 6) (p3 : LW M (((873 * mI M 55 6) + 1) + (11 * k)) ((873 * mI M 55 6) + 265)) (p4 : rgO w c) (p5 : H1 c 27) (p6 : c = cdL (mI M 57) (873 * mI M 55 6) (mI M 57 ((((873 * mI M 55 6) + 1) + (11 * k)) + 1).toNat) (mI M 57 ((((873 * mI M 55 6) + 1) + (11 * k)) + 2).toNat - mI M 57 ((((873 * mI M 55 6) + 1) + (11 * k)) + 1).toNat).toNat) (p7 : bdN w (nmR M)) : Call l mdX12_worked [aR 54, aI k] M (fun q N => ∃ r : Int, q = some (aI r) ∧ BF fS M N ∧ mI N 54 = mI M 54 ∧ mI N 55 = mI M 55 ∧ mI N 57 = mI M 57 ∧ mI N 61 = mI M 61 ∧ mI N 63 = mI M 63 ∧ mI N 69 = mI M 69 ∧ mI N 71 = mI M 71 ∧ r = evV (nmR M) c) := by
  have hB0 : BF fS M M := BF.start hB
  refine Call.of [some (aR 54), some (aI k), none, none, none, none, none, none] rfl (Nat.le_of_ble_eq_true rfl) rfl ?_
  refine vc_sipush dX12_worked_0 rfl ?_
  refine vc_aload_n dX12_worked_3 rfl ?_
  refine vc_getR dX12_worked_4 flX12_7 (s_54 hB0.1.1) rfl (r_54_0 hB0.1.1) ?_
  refine vc_bipush dX12_worked_7 rfl ?_
  refine vc_iaload dX12_worked_9 (s_55 hB0.1.1) (by omega) (by omega) ?_
  refine vc_topI (mI M 55 6) rfl ?_
  have k1 : (-1) ≤ mI M 55 6 ∧ mI M 55 6 ≤ 3 := b55_6 (M := M) hB0.1
  refine vc_imulE dX12_worked_10 (by omega) (by omega) ?_
  refine vc_iconst dX12_worked_11 rfl ?_
  refine vc_iaddE dX12_worked_12 (by omega) (by omega) ?_
  refine vc_bipush dX12_worked_13 rfl ?_
  refine vc_iload_n dX12_worked_15 rfl ?_
  refine vc_imulE dX12_worked_16 (by omega) (by omega) ?_
  refine vc_iaddE dX12_worked_17 (by omega) (by omega) ?_
  refine vc_nameI (fun x3 ex3 => ?_)
  refine vc_istore_n dX12_worked_18 (by decide) rfl (show _ = [some (aR 54), some (aI k), some (aI x3), none, none, none, none, none] from rfl) ?_
  refine vc_sipush dX12_worked_19 rfl ?_
  refine vc_aload_n dX12_worked_22 rfl ?_
  refine vc_getR dX12_worked_23 flX12_7 (s_54 hB0.1.1) rfl (r_54_0 hB0.1.1) ?_
  refine vc_bipush dX12_worked_26 rfl ?_
  refine vc_iaload dX12_worked_28 (s_55 hB0.1.1) (by omega) (by omega) ?_
  refine vc_topI (mI M 55 6) rfl ?_
  refine vc_imulE dX12_worked_29 (by omega) (by omega) ?_
  refine vc_sipush dX12_worked_30 rfl ?_
  refine vc_iaddE dX12_worked_33 (by omega) (by omega) ?_
  refine vc_nameI (fun x5 ex5 => ?_)
  refine vc_istore_n dX12_worked_34 (by decide) rfl (show _ = [some (aR 54), some (aI k), some (aI x3), some (aI x5), none, none, none, none] from rfl) ?_
  refine vc_iconst dX12_worked_35 rfl ?_
  refine vc_istore dX12_worked_36 (by decide) rfl (show _ = [some (aR 54), some (aI k), some (aI x3), some (aI x5), some (aI 0), none, none, none] from rfl) ?_
  have hl : LW M x3 x5 := by rw [ex3, ex5]; exact p3
  obtain ⟨l1, l2, l3, l4⟩ := hl
  have yc : c = cdL (mI M 57) (873 * mI M 55 6) (mI M 57 (x3 + 1).toNat) (mI M 57 (x3 + 2).toNat - mI M 57 (x3 + 1).toNat).toNat := by rw [ex3]; exact p6
  have yl : (c.length : Int) = mI M 57 (x3 + 2).toNat - mI M 57 (x3 + 1).toNat := by rw [yc, cdL_len]; omega
  refine vc_aload_n dX12_worked_38 rfl ?_
  refine vc_getR dX12_worked_39 flX12_16 (s_54 hB0.1.1) rfl (r_54_2 hB0.1.1) ?_
  refine vc_iload_n dX12_worked_42 rfl ?_
  refine vc_iconst dX12_worked_43 rfl ?_
  refine vc_iaddE dX12_worked_44 (by omega) (by omega) ?_
  refine vc_iaload dX12_worked_45 (s_57 hB0.1.1) (by omega) (by omega) ?_
  refine vc_nameI (fun x7 ex7 => ?_)
  refine vc_istore dX12_worked_46 (by decide) rfl (show _ = [some (aR 54), some (aI k), some (aI x3), some (aI x5), some (aI 0), some (aI x7), none, none] from rfl) ?_
  have lp48 : ∀ (n48 : Nat) (Mq48 : Mem) (v4 : Int) (v5 : Int), (BF fS M Mq48) → (mI Mq48 69 = mI M 69) → (mI Mq48 71 = mI M 71) → (mI Mq48 54 = mI M 54) → (mI Mq48 55 = mI M 55) → (mI Mq48 57 = mI M 57) → (mI Mq48 61 = mI M 61) → (mI Mq48 63 = mI M 63) → (0 ≤ v4) → (v4 ≤ 300) → (0 ≤ v5) → (v5 ≤ 300) → (mI M 57 (x3 + 1).toNat ≤ v5) → (v5 ≤ mI M 57 (x3 + 2).toNat) → (v4 ≤ v5 - mI M 57 (x3 + 1).toNat) → (wfI (mI M 57) (mI M 57 (x3 + 2).toNat) x5 v5 v4) → (EvJ (nmR M) c (mJ Mq48 62) (v5 - mI M 57 (x3 + 1).toNat) v4) → (mI M 57 (x3 + 2).toNat - v5).toNat < n48 → VC l mdX12_worked 48 [some (aR 54), none, some (aI x3), some (aI x5), some (aI v4), some (aI v5), none, none] [] Mq48 0 0 (fun q N => ∃ r : Int, q = some (aI r) ∧ BF fS M N ∧ mI N 54 = mI M 54 ∧ mI N 55 = mI M 55 ∧ mI N 57 = mI M 57 ∧ mI N 61 = mI M 61 ∧ mI N 63 = mI M 63 ∧ mI N 69 = mI M 69 ∧ mI N 71 = mI M 71 ∧ r = evV (nmR M) c) := by
    intro n48
    induction n48 with
    | zero => intro Mq48 v4 v5 hQ48 kp48_69 kp48_71 kp48_54 kp48_55 kp48_57 kp48_61 kp48_63 g48_4a g48_4b g48_5a g48_5b g48i0 g48i1 g48i2 g48i3 g48i4 hm48; exact absurd hm48 (Nat.not_lt_zero _)
    | succ n48 ih48 =>
      intro Mq48 v4 v5 hQ48 kp48_69 kp48_71 kp48_54 kp48_55 kp48_57 kp48_61 kp48_63 g48_4a g48_4b g48_5a g48_5b g48i0 g48i1 g48i2 g48i3 g48i4 hm48
      refine vc_iload dX12_worked_48 rfl ?_
      refine vc_aload_n dX12_worked_50 rfl ?_
      refine vc_getR dX12_worked_51 flX12_16 (s_54 hQ48.1.1) rfl (r_54_2 hQ48.1.1) ?_
      refine vc_iload_n dX12_worked_54 rfl ?_
      refine vc_iconst dX12_worked_55 rfl ?_
      refine vc_iaddE dX12_worked_56 (by omega) (by omega) ?_
      refine vc_iaload dX12_worked_57 (s_57 hQ48.1.1) (by omega) (by omega) ?_
      have k8 : mI Mq48 57 ((x3 + 2).toNat) = mI M 57 ((x3 + 2).toNat) := congrFun kp48_57 ((x3 + 2).toNat)
      refine vc_icmp_ge dX12_worked_58 (fun h9 => ?_) (fun h9 => ?_)
      · refine vc_aload_n dX12_worked_194 rfl ?_
        refine vc_getR dX12_worked_195 flX12_38 (s_54 hQ48.1.1) rfl (r_54_23 hQ48.1.1) ?_
        refine vc_iconst dX12_worked_198 rfl ?_
        refine vc_laload dX12_worked_199 (s_62 hQ48.1.1) (by omega) (by omega) ?_
        refine vc_topL (mJ Mq48 62 0) rfl ?_
        refine vc_l2i dX12_worked_200 ?_
        refine vc_iret dX12_worked_201 rfl (Nat.le_of_ble_eq_true rfl) (Nat.le_of_ble_eq_true rfl) ?_
        have hf := g48i4.fin (by omega)
        have hb := g48i4.fb (by omega)
        exact ⟨_, rfl, hQ48, kp48_54, kp48_55, kp48_57, kp48_61, kp48_63, kp48_69, kp48_71, by rw [hf.2]; first | done | exact wI_id (by omega) (by omega)⟩
      · refine vc_aload_n dX12_worked_61 rfl ?_
        refine vc_getR dX12_worked_62 flX12_16 (s_54 hQ48.1.1) rfl (r_54_2 hQ48.1.1) ?_
        refine vc_iload_n dX12_worked_65 rfl ?_
        refine vc_iconst dX12_worked_66 rfl ?_
        refine vc_iload dX12_worked_67 rfl ?_
        refine vc_imulE dX12_worked_69 (by omega) (by omega) ?_
        refine vc_iaddE dX12_worked_70 (by omega) (by omega) ?_
        refine vc_iaload dX12_worked_71 (s_57 hQ48.1.1) (by omega) (by omega) ?_
        have k10 : mI Mq48 57 ((x5 + (2 * v5)).toNat) = mI M 57 ((x5 + (2 * v5)).toNat) := congrFun kp48_57 ((x5 + (2 * v5)).toNat)
        refine vc_nameI (fun x11 ex11 => ?_)
        refine vc_istore dX12_worked_72 (by decide) rfl (show _ = [some (aR 54), none, some (aI x3), some (aI x5), some (aI v4), some (aI v5), some (aI x11), none] from rfl) ?_
        refine vc_aload_n dX12_worked_74 rfl ?_
        refine vc_getR dX12_worked_75 flX12_16 (s_54 hQ48.1.1) rfl (r_54_2 hQ48.1.1) ?_
        refine vc_iload_n dX12_worked_78 rfl ?_
        refine vc_iconst dX12_worked_79 rfl ?_
        refine vc_iload dX12_worked_80 rfl ?_
        refine vc_imulE dX12_worked_82 (by omega) (by omega) ?_
        refine vc_iaddE dX12_worked_83 (by omega) (by omega) ?_
        refine vc_iconst dX12_worked_84 rfl ?_
        refine vc_iaddE dX12_worked_85 (by omega) (by omega) ?_
        refine vc_iaload dX12_worked_86 (s_57 hQ48.1.1) (by omega) (by omega) ?_
        have k12 : mI Mq48 57 (((x5 + (2 * v5)) + 1).toNat) = mI M 57 (((x5 + (2 * v5)) + 1).toNat) := congrFun kp48_57 (((x5 + (2 * v5)) + 1).toNat)
        refine vc_nameI (fun x13 ex13 => ?_)
        refine vc_istore dX12_worked_87 (by decide) rfl (show _ = [some (aR 54), none, some (aI x3), some (aI x5), some (aI v4), some (aI v5), some (aI x11), some (aI x13)] from rfl) ?_
        have hn1 : (nth c (v5 - mI M 57 (x3 + 1).toNat).toNat).1 = x11 := by rw [yc, cdL_nth _ _ (by omega)]; show mI M 57 _ = _; rw [ex11, congrFun kp48_57 _]; congr 1; omega
        have hn2 : (nth c (v5 - mI M 57 (x3 + 1).toNat).toNat).2 = x13 := by rw [yc, cdL_nth _ _ (by omega)]; show mI M 57 _ = _; rw [ex13, congrFun kp48_57 _]; congr 1; omega
        have hn8 := (rgO_nth c (v5 - mI M 57 (x3 + 1).toNat).toNat p4 (by omega)).2.1
        refine vc_iload dX12_worked_89 rfl ?_
        refine vc_iconst dX12_worked_91 rfl ?_
        refine vc_icmp_gt dX12_worked_92 (fun h14 => ?_) (fun h14 => ?_)
        · refine vc_iload dX12_worked_127 rfl ?_
          refine vc_iconst dX12_worked_129 rfl ?_
          refine vc_icmp_ne dX12_worked_130 (fun h15 => ?_) (fun h15 => ?_)
          · obtain ⟨wt0, wt⟩ := wfI_two g48i3 (by omega) (by omega) (by omega) (by omega) (by omega)
            have htw := g48i4.two (by omega) (by omega) p4 p7 (by omega)
            have hx9 : -1000000 ≤ mJ Mq48 62 (v4 + (-1) - 1).toNat ∧ mJ Mq48 62 (v4 + (-1) - 1).toNat ≤ 1000000 := by rw [show v4 + (-1) - 1 = v4 - 2 by omega]; exact htw.2.1
            have hy9 : -1000000 ≤ mJ Mq48 62 (v4 + (-1)).toNat ∧ mJ Mq48 62 (v4 + (-1)).toNat ≤ 1000000 := by rw [show v4 + (-1) = v4 - 1 by omega]; exact htw.2.2.1
            refine vc_iincE dX12_worked_155 rfl (by omega) (by omega) (by decide) rfl (show _ = [some (aR 54), none, some (aI x3), some (aI x5), some (aI (v4 + (-1))), some (aI v5), some (aI x11), some (aI x13)] from rfl) ?_
            refine vc_aload_n dX12_worked_158 rfl ?_
            refine vc_getR dX12_worked_159 flX12_38 (s_54 hQ48.1.1) rfl (r_54_23 hQ48.1.1) ?_
            refine vc_iload dX12_worked_162 rfl ?_
            refine vc_iconst dX12_worked_164 rfl ?_
            refine vc_isubE dX12_worked_165 (by omega) (by omega) ?_
            refine vc_iload dX12_worked_166 rfl ?_
            refine vc_aload_n dX12_worked_168 rfl ?_
            refine vc_getR dX12_worked_169 flX12_38 (s_54 hQ48.1.1) rfl (r_54_23 hQ48.1.1) ?_
            refine vc_iload dX12_worked_172 rfl ?_
            refine vc_iconst dX12_worked_174 rfl ?_
            refine vc_isubE dX12_worked_175 (by omega) (by omega) ?_
            refine vc_laload dX12_worked_176 (s_62 hQ48.1.1) (by omega) (by omega) ?_
            refine vc_aload_n dX12_worked_177 rfl ?_
            refine vc_getR dX12_worked_178 flX12_38 (s_54 hQ48.1.1) rfl (r_54_23 hQ48.1.1) ?_
            refine vc_iload dX12_worked_181 rfl ?_
            refine vc_laload dX12_worked_183 (s_62 hQ48.1.1) (by omega) (by omega) ?_
            refine vc_cSL dX12_worked_184 (sfX12_twoV (M := Mq48) hQ48.1  x11 (mJ Mq48 62 (((v4 + (-1)) - 1).toNat)) (mJ Mq48 62 ((v4 + (-1)).toNat)) (by omega) (by omega) (by omega)) rfl okX12_two stX12_two lkX12_289 rfl (Nat.le_of_ble_eq_true rfl) ⟨rfl, rfl⟩ (Nat.le_of_ble_eq_true rfl) (Nat.le_of_ble_eq_true rfl) (Nat.le_of_ble_eq_true rfl) ?_
            rintro x16 _ ⟨rfl, h17⟩
            refine vc_lastore dX12_worked_187 (s_62 hQ48.1.1) (by omega) (by omega) ?_
            have kp18 : mI (sJ Mq48 62 (((v4 + (-1)) - 1).toNat) x16) 69 = mI M 69 := (kp_sJ kp48_69)
            have kp19 : mI (sJ Mq48 62 (((v4 + (-1)) - 1).toNat) x16) 71 = mI M 71 := (kp_sJ kp48_71)
            have kp20 : mI (sJ Mq48 62 (((v4 + (-1)) - 1).toNat) x16) 54 = mI M 54 := (kp_sJ kp48_54)
            have kp21 : mI (sJ Mq48 62 (((v4 + (-1)) - 1).toNat) x16) 55 = mI M 55 := (kp_sJ kp48_55)
            have kp22 : mI (sJ Mq48 62 (((v4 + (-1)) - 1).toNat) x16) 57 = mI M 57 := (kp_sJ kp48_57)
            have kp23 : mI (sJ Mq48 62 (((v4 + (-1)) - 1).toNat) x16) 61 = mI M 61 := (kp_sJ kp48_61)
            have kp24 : mI (sJ Mq48 62 (((v4 + (-1)) - 1).toNat) x16) 63 = mI M 63 := (kp_sJ kp48_63)
            have hB25 : BF fS M (sJ Mq48 62 (((v4 + (-1)) - 1).toNat) x16) := BF.J hQ48 _ _ _ rfl
            have hnx : EvJ (nmR M) c (mJ (sJ Mq48 62 (((v4 + (-1)) - 1).toNat) x16) 62) (v5 + 1 - mI M 57 (x3 + 1).toNat) (v4 + (-1)) := by rw [show v5 + 1 - mI M 57 (x3 + 1).toNat = v5 - mI M 57 (x3 + 1).toNat + 1 by omega]; rw [show v4 + (-1) = v4 - 1 by omega]; exact htw.2.2.2 _ (by rw [mJ_sJ, if_pos (by omega), h17, hn1]; first | done | (congr 1 <;> first | rfl | (congr 1; omega))) (fun j hj => by rw [mJ_sJ, if_neg (by omega)])
            refine vc_iincE dX12_worked_188 rfl (by omega) (by omega) (by decide) rfl (show _ = [some (aR 54), none, some (aI x3), some (aI x5), some (aI (v4 + (-1))), some (aI (v5 + 1)), some (aI x11), some (aI x13)] from rfl) ?_
            refine vc_goto dX12_worked_191 ?_
            refine vc_less [some (aR 54), none, some (aI x3), some (aI x5), some (aI (v4 + (-1))), some (aI (v5 + 1)), none, none] (lessL_keep (lessL_keep (lessL_keep (lessL_keep (lessL_keep (lessL_keep (lessL_drop (lessL_drop (lessL_nil))))))))) ?_
            exact ih48 (sJ Mq48 62 (((v4 + (-1)) - 1).toNat) x16) (v4 + (-1)) (v5 + 1) hB25 kp18 kp19 kp20 kp21 kp22 kp23 kp24 (by omega) (by omega) (by omega) (by omega) (by omega) (by omega) (by omega) (by first | (rw [ex7]; exact l4) | exact w4 | exact wn | exact wt) (by first | exact hnx | (rw [show x7 - mI M 57 (x3 + 1).toNat = 0 by omega]; exact EvJ.start p5)) (by omega)
          · obtain ⟨wn0, wn⟩ := wfI_neg g48i3 (by omega) (by omega) (by omega) (by omega) (by omega)
            have hng := g48i4.neg (by omega) (by omega) p4 p7 (by omega)
            have hnb := hng.2.1
            refine vc_aload_n dX12_worked_133 rfl ?_
            refine vc_getR dX12_worked_134 flX12_38 (s_54 hQ48.1.1) rfl (r_54_23 hQ48.1.1) ?_
            refine vc_iload dX12_worked_137 rfl ?_
            refine vc_iconst dX12_worked_139 rfl ?_
            refine vc_isubE dX12_worked_140 (by omega) (by omega) ?_
            refine vc_aload_n dX12_worked_141 rfl ?_
            refine vc_getR dX12_worked_142 flX12_38 (s_54 hQ48.1.1) rfl (r_54_23 hQ48.1.1) ?_
            refine vc_iload dX12_worked_145 rfl ?_
            refine vc_iconst dX12_worked_147 rfl ?_
            refine vc_isubE dX12_worked_148 (by omega) (by omega) ?_
            refine vc_laload dX12_worked_149 (s_62 hQ48.1.1) (by omega) (by omega) ?_
            refine vc_lneg dX12_worked_150 ?_
            refine vc_lastore dX12_worked_151 (s_62 hQ48.1.1) (by omega) (by omega) ?_
            have kp26 : mI (sJ Mq48 62 ((v4 - 1).toNat) (wL (-(mJ Mq48 62 ((v4 - 1).toNat))))) 69 = mI M 69 := (kp_sJ kp48_69)
            have kp27 : mI (sJ Mq48 62 ((v4 - 1).toNat) (wL (-(mJ Mq48 62 ((v4 - 1).toNat))))) 71 = mI M 71 := (kp_sJ kp48_71)
            have kp28 : mI (sJ Mq48 62 ((v4 - 1).toNat) (wL (-(mJ Mq48 62 ((v4 - 1).toNat))))) 54 = mI M 54 := (kp_sJ kp48_54)
            have kp29 : mI (sJ Mq48 62 ((v4 - 1).toNat) (wL (-(mJ Mq48 62 ((v4 - 1).toNat))))) 55 = mI M 55 := (kp_sJ kp48_55)
            have kp30 : mI (sJ Mq48 62 ((v4 - 1).toNat) (wL (-(mJ Mq48 62 ((v4 - 1).toNat))))) 57 = mI M 57 := (kp_sJ kp48_57)
            have kp31 : mI (sJ Mq48 62 ((v4 - 1).toNat) (wL (-(mJ Mq48 62 ((v4 - 1).toNat))))) 61 = mI M 61 := (kp_sJ kp48_61)
            have kp32 : mI (sJ Mq48 62 ((v4 - 1).toNat) (wL (-(mJ Mq48 62 ((v4 - 1).toNat))))) 63 = mI M 63 := (kp_sJ kp48_63)
            have hB33 : BF fS M (sJ Mq48 62 ((v4 - 1).toNat) (wL (-(mJ Mq48 62 ((v4 - 1).toNat))))) := BF.J hQ48 _ _ _ rfl
            refine vc_goto dX12_worked_152 ?_
            have hnx : EvJ (nmR M) c (mJ (sJ Mq48 62 ((v4 - 1).toNat) (wL (-(mJ Mq48 62 ((v4 - 1).toNat))))) 62) (v5 + 1 - mI M 57 (x3 + 1).toNat) v4 := by rw [show v5 + 1 - mI M 57 (x3 + 1).toNat = v5 - mI M 57 (x3 + 1).toNat + 1 by omega]; exact hng.2.2 _ (by rw [mJ_sJ, if_pos (by omega), wL_id (by omega) (by omega)]) (fun j hj => by rw [mJ_sJ, if_neg (by omega)])
            refine vc_iincE dX12_worked_188 rfl (by omega) (by omega) (by decide) rfl (show _ = [some (aR 54), none, some (aI x3), some (aI x5), some (aI v4), some (aI (v5 + 1)), some (aI x11), some (aI x13)] from rfl) ?_
            refine vc_goto dX12_worked_191 ?_
            refine vc_less [some (aR 54), none, some (aI x3), some (aI x5), some (aI v4), some (aI (v5 + 1)), none, none] (lessL_keep (lessL_keep (lessL_keep (lessL_keep (lessL_keep (lessL_keep (lessL_drop (lessL_drop (lessL_nil))))))))) ?_
            exact ih48 (sJ Mq48 62 ((v4 - 1).toNat) (wL (-(mJ Mq48 62 ((v4 - 1).toNat))))) v4 (v5 + 1) hB33 kp26 kp27 kp28 kp29 kp30 kp31 kp32 (by omega) (by omega) (by omega) (by omega) (by omega) (by omega) (by omega) (by first | (rw [ex7]; exact l4) | exact w4 | exact wn | exact wt) (by first | exact hnx | (rw [show x7 - mI M 57 (x3 + 1).toNat = 0 by omega]; exact EvJ.start p5)) (by omega)
        · obtain ⟨w1, w3, w4⟩ := wfI_num g48i3 (by omega) (by omega) (by omega) (by omega)
          refine vc_aload_n dX12_worked_95 rfl ?_
          refine vc_getR dX12_worked_96 flX12_38 (s_54 hQ48.1.1) rfl (r_54_23 hQ48.1.1) ?_
          refine vc_iload dX12_worked_99 rfl ?_
          refine vc_iload dX12_worked_101 rfl ?_
          refine vc_if_ne dX12_worked_103 (fun h34 => ?_) (fun h34 => ?_)
          · have w5 := w3 (by omega)
            refine vc_aload_n dX12_worked_112 rfl ?_
            refine vc_getR dX12_worked_113 flX12_35 (s_54 hQ48.1.1) rfl (r_54_22 hQ48.1.1) ?_
            refine vc_iload dX12_worked_116 rfl ?_
            refine vc_iaload dX12_worked_118 (s_61 hQ48.1.1) (by omega) (by omega) ?_
            have k35 : mI Mq48 61 x13.toNat = mI M 61 x13.toNat := congrFun kp48_61 x13.toNat
            refine vc_i2l dX12_worked_119 ?_
            refine vc_lastore dX12_worked_120 (s_62 hQ48.1.1) (by omega) (by omega) ?_
            have kp36 : mI (sJ Mq48 62 v4.toNat (mI Mq48 61 x13.toNat)) 69 = mI M 69 := (kp_sJ kp48_69)
            have kp37 : mI (sJ Mq48 62 v4.toNat (mI Mq48 61 x13.toNat)) 71 = mI M 71 := (kp_sJ kp48_71)
            have kp38 : mI (sJ Mq48 62 v4.toNat (mI Mq48 61 x13.toNat)) 54 = mI M 54 := (kp_sJ kp48_54)
            have kp39 : mI (sJ Mq48 62 v4.toNat (mI Mq48 61 x13.toNat)) 55 = mI M 55 := (kp_sJ kp48_55)
            have kp40 : mI (sJ Mq48 62 v4.toNat (mI Mq48 61 x13.toNat)) 57 = mI M 57 := (kp_sJ kp48_57)
            have kp41 : mI (sJ Mq48 62 v4.toNat (mI Mq48 61 x13.toNat)) 61 = mI M 61 := (kp_sJ kp48_61)
            have kp42 : mI (sJ Mq48 62 v4.toNat (mI Mq48 61 x13.toNat)) 63 = mI M 63 := (kp_sJ kp48_63)
            have hB43 : BF fS M (sJ Mq48 62 v4.toNat (mI Mq48 61 x13.toNat)) := BF.J hQ48 _ _ _ rfl
            refine vc_iincE dX12_worked_121 rfl (by omega) (by omega) (by decide) rfl (show _ = [some (aR 54), none, some (aI x3), some (aI x5), some (aI (v4 + 1)), some (aI v5), some (aI x11), some (aI x13)] from rfl) ?_
            refine vc_goto dX12_worked_124 ?_
            have hnx : EvJ (nmR M) c (mJ (sJ Mq48 62 v4.toNat (mI Mq48 61 x13.toNat)) 62) (v5 + 1 - mI M 57 (x3 + 1).toNat) (v4 + 1) := by rw [show v5 + 1 - mI M 57 (x3 + 1).toNat = v5 - mI M 57 (x3 + 1).toNat + 1 by omega]; exact (g48i4.push (f' := mJ (sJ Mq48 62 v4.toNat (mI Mq48 61 x13.toNat)) 62) (v := mI Mq48 61 x13.toNat) (by omega) (by omega) p4 p7 (Or.inr ⟨by omega, by rw [hn2]; first | exact congrFun kp48_61 _ | (show _ = mI M 61 _; rw [← congrFun kp48_61 _])⟩) mJ_same (fun j hj => by rw [mJ_sJ, if_neg (by omega)])).2
            refine vc_iincE dX12_worked_188 rfl (by omega) (by omega) (by decide) rfl (show _ = [some (aR 54), none, some (aI x3), some (aI x5), some (aI (v4 + 1)), some (aI (v5 + 1)), some (aI x11), some (aI x13)] from rfl) ?_
            refine vc_goto dX12_worked_191 ?_
            refine vc_less [some (aR 54), none, some (aI x3), some (aI x5), some (aI (v4 + 1)), some (aI (v5 + 1)), none, none] (lessL_keep (lessL_keep (lessL_keep (lessL_keep (lessL_keep (lessL_keep (lessL_drop (lessL_drop (lessL_nil))))))))) ?_
            exact ih48 (sJ Mq48 62 v4.toNat (mI Mq48 61 x13.toNat)) (v4 + 1) (v5 + 1) hB43 kp36 kp37 kp38 kp39 kp40 kp41 kp42 (by omega) (by omega) (by omega) (by omega) (by omega) (by omega) (by omega) (by first | (rw [ex7]; exact l4) | exact w4 | exact wn | exact wt) (by first | exact hnx | (rw [show x7 - mI M 57 (x3 + 1).toNat = 0 by omega]; exact EvJ.start p5)) (by omega)
          · refine vc_iload dX12_worked_106 rfl ?_
            refine vc_i2l dX12_worked_108 ?_
            refine vc_goto dX12_worked_109 ?_
            refine vc_lastore dX12_worked_120 (s_62 hQ48.1.1) (by omega) (by omega) ?_
            have kp44 : mI (sJ Mq48 62 v4.toNat x13) 69 = mI M 69 := (kp_sJ kp48_69)
            have kp45 : mI (sJ Mq48 62 v4.toNat x13) 71 = mI M 71 := (kp_sJ kp48_71)
            have kp46 : mI (sJ Mq48 62 v4.toNat x13) 54 = mI M 54 := (kp_sJ kp48_54)
            have kp47 : mI (sJ Mq48 62 v4.toNat x13) 55 = mI M 55 := (kp_sJ kp48_55)
            have kp48 : mI (sJ Mq48 62 v4.toNat x13) 57 = mI M 57 := (kp_sJ kp48_57)
            have kp49 : mI (sJ Mq48 62 v4.toNat x13) 61 = mI M 61 := (kp_sJ kp48_61)
            have kp50 : mI (sJ Mq48 62 v4.toNat x13) 63 = mI M 63 := (kp_sJ kp48_63)
            have hB51 : BF fS M (sJ Mq48 62 v4.toNat x13) := BF.J hQ48 _ _ _ rfl
            refine vc_iincE dX12_worked_121 rfl (by omega) (by omega) (by decide) rfl (show _ = [some (aR 54), none, some (aI x3), some (aI x5), some (aI (v4 + 1)), some (aI v5), some (aI x11), some (aI x13)] from rfl) ?_
            refine vc_goto dX12_worked_124 ?_
            have hnx : EvJ (nmR M) c (mJ (sJ Mq48 62 v4.toNat x13) 62) (v5 + 1 - mI M 57 (x3 + 1).toNat) (v4 + 1) := by rw [show v5 + 1 - mI M 57 (x3 + 1).toNat = v5 - mI M 57 (x3 + 1).toNat + 1 by omega]; exact (g48i4.push (f' := mJ (sJ Mq48 62 v4.toNat x13) 62) (v := x13) (by omega) (by omega) p4 p7 (Or.inl ⟨by omega, by omega⟩) mJ_same (fun j hj => by rw [mJ_sJ, if_neg (by omega)])).2
            refine vc_iincE dX12_worked_188 rfl (by omega) (by omega) (by decide) rfl (show _ = [some (aR 54), none, some (aI x3), some (aI x5), some (aI (v4 + 1)), some (aI (v5 + 1)), some (aI x11), some (aI x13)] from rfl) ?_
            refine vc_goto dX12_worked_191 ?_
            refine vc_less [some (aR 54), none, some (aI x3), some (aI x5), some (aI (v4 + 1)), some (aI (v5 + 1)), none, none] (lessL_keep (lessL_keep (lessL_keep (lessL_keep (lessL_keep (lessL_keep (lessL_drop (lessL_drop (lessL_nil))))))))) ?_
            exact ih48 (sJ Mq48 62 v4.toNat x13) (v4 + 1) (v5 + 1) hB51 kp44 kp45 kp46 kp47 kp48 kp49 kp50 (by omega) (by omega) (by omega) (by omega) (by omega) (by omega) (by omega) (by first | (rw [ex7]; exact l4) | exact w4 | exact wn | exact wt) (by first | exact hnx | (rw [show x7 - mI M 57 (x3 + 1).toNat = 0 by omega]; exact EvJ.start p5)) (by omega)
  refine vc_less [some (aR 54), none, some (aI x3), some (aI x5), some (aI 0), some (aI x7), none, none] (lessL_keep (lessL_drop (lessL_keep (lessL_keep (lessL_keep (lessL_keep (lessL_keep (lessL_keep (lessL_nil))))))))) ?_
  exact lp48 _ M 0 x7 hB0 rfl rfl rfl rfl rfl rfl rfl (by omega) (by omega) (by omega) (by omega) (by omega) (by omega) (by omega) (by first | (rw [ex7]; exact l4) | exact w4 | exact wn | exact wt) (by first | exact hnx | (rw [show x7 - mI M 57 (x3 + 1).toNat = 0 by omega]; exact EvJ.start p5)) (Nat.lt_succ_self _)

set_option maxRecDepth 4000 in
theorem sfX12_saysF {l : Launch} {M : Mem} (hB : Box M) (S : Sw) (s : Int) (wo : Int) (lo : Int) (hi : Int) (p0 : 0 ≤ s) (p1 : s ≤ 4) (p2 : mI M 55 6 = S 1 11) (p3 : mI M 55 5 = S 1 10) (p4 : LwS S (mI M 57)) (p5 : bdN s (nmR M)) (p6 : lo ≤ hi) : Call l mdX12_says [aR 54, aI s, aI wo, aI lo, aI hi] M (fun q N => ∃ r : Int, q = some (aI r) ∧ BF fS M N ∧ mI N 54 = mI M 54 ∧ mI N 55 = mI M 55 ∧ mI N 57 = mI M 57 ∧ mI N 61 = mI M 61 ∧ mI N 63 = mI M 63 ∧ mI N 69 = mI M 69 ∧ mI N 71 = mI M 71 ∧ r = lwS S s (nmR M) lo hi wo) := by
  have hB0 : BF fS M M := BF.start hB
  refine Call.of [some (aR 54), some (aI s), some (aI wo), some (aI lo), some (aI hi), none, none] rfl (Nat.le_of_ble_eq_true rfl) rfl ?_
  refine vc_ok (fun hoM hoS hoL => ?_)
  have hr2 : -2147483648 ≤ wo ∧ wo < 2147483648 := hoL 2 _ rfl
  have hr3 : -2147483648 ≤ lo ∧ lo < 2147483648 := hoL 3 _ rfl
  have hr4 : -2147483648 ≤ hi ∧ hi < 2147483648 := hoL 4 _ rfl
  refine vc_iconst dX12_says_0 rfl ?_
  refine vc_istore dX12_says_1 (by decide) rfl (show _ = [some (aR 54), some (aI s), some (aI wo), some (aI lo), some (aI hi), some (aI 0), none] from rfl) ?_
  have lp3 : ∀ (n3 : Nat) (v5 : Int), (0 ≤ v5) → (v5 ≤ 24) → (∀ e : Nat, (e : Int) < v5 → mI M 57 (873 * S 1 11 + 1 + 11 * e).toNat ≠ s) → (24 - v5).toNat < n3 → VC l mdX12_says 3 [some (aR 54), some (aI s), some (aI wo), some (aI lo), some (aI hi), some (aI v5), none] [] M 0 0 (fun q N => ∃ r : Int, q = some (aI r) ∧ BF fS M N ∧ mI N 54 = mI M 54 ∧ mI N 55 = mI M 55 ∧ mI N 57 = mI M 57 ∧ mI N 61 = mI M 61 ∧ mI N 63 = mI M 63 ∧ mI N 69 = mI M 69 ∧ mI N 71 = mI M 71 ∧ r = lwS S s (nmR M) lo hi wo) := by
    intro n3
    induction n3 with
    | zero => intro v5 g3_5a g3_5b g3i0 hm3; exact absurd hm3 (Nat.not_lt_zero _)
    | succ n3 ih3 =>
      intro v5 g3_5a g3_5b g3i0 hm3
      refine vc_aload_n dX12_says_3 rfl ?_
      refine vc_getR dX12_says_4 flX12_7 (s_54 hB0.1.1) rfl (r_54_0 hB0.1.1) ?_
      refine vc_bipush dX12_says_7 rfl ?_
      refine vc_iaload dX12_says_9 (s_55 hB0.1.1) (by omega) (by omega) ?_
      refine vc_topI (mI M 55 6) rfl ?_
      have k1 : (-1) ≤ mI M 55 6 ∧ mI M 55 6 ≤ 3 := b55_6 (M := M) hB0.1
      refine vc_if_lt dX12_says_10 (fun h3 => ?_) (fun h3 => ?_)
      · refine vc_iload_n dX12_says_104 rfl ?_
        refine vc_iret dX12_says_105 rfl (Nat.le_of_ble_eq_true rfl) (Nat.le_of_ble_eq_true rfl) ?_
        exact ⟨_, rfl, hB0, rfl, rfl, rfl, rfl, rfl, rfl, rfl, by rw [lwS_n (fun hr => by first | (have z := hr.1; omega) | (exact p4.no p0 p1 (fun e he => g3i0 e (by rw [← p2] at he; omega)) hr))]⟩
      · have hT := b55_6 (M := M) hB
        have hrl := hB.2.2.2.1.2.2
        have hwt := hB.2.2.2.2.2.2 (mI M 55 6).toNat (by omega)
        have hw1 := hwt.1
        have hw2 := hwt.2.1
        rw [show 873 * (mI M 55 6).toNat = (873 * mI M 55 6).toNat by omega] at hw1 hw2
        refine vc_iload dX12_says_13 rfl ?_
        refine vc_aload_n dX12_says_15 rfl ?_
        refine vc_getR dX12_says_16 flX12_16 (s_54 hB0.1.1) rfl (r_54_2 hB0.1.1) ?_
        refine vc_sipush dX12_says_19 rfl ?_
        refine vc_aload_n dX12_says_22 rfl ?_
        refine vc_getR dX12_says_23 flX12_7 (s_54 hB0.1.1) rfl (r_54_0 hB0.1.1) ?_
        refine vc_bipush dX12_says_26 rfl ?_
        refine vc_iaload dX12_says_28 (s_55 hB0.1.1) (by omega) (by omega) ?_
        refine vc_topI (mI M 55 6) rfl ?_
        refine vc_imulE dX12_says_29 (by omega) (by omega) ?_
        refine vc_iaload dX12_says_30 (s_57 hB0.1.1) (by omega) (by omega) ?_
        refine vc_icmp_ge dX12_says_31 (fun h6 => ?_) (fun h6 => ?_)
        · refine vc_iload_n dX12_says_104 rfl ?_
          refine vc_iret dX12_says_105 rfl (Nat.le_of_ble_eq_true rfl) (Nat.le_of_ble_eq_true rfl) ?_
          exact ⟨_, rfl, hB0, rfl, rfl, rfl, rfl, rfl, rfl, rfl, by rw [lwS_n (fun hr => by first | (have z := hr.1; omega) | (exact p4.no p0 p1 (fun e he => g3i0 e (by rw [← p2] at he; omega)) hr))]⟩
        · refine vc_aload_n dX12_says_34 rfl ?_
          refine vc_getR dX12_says_35 flX12_16 (s_54 hB0.1.1) rfl (r_54_2 hB0.1.1) ?_
          refine vc_sipush dX12_says_38 rfl ?_
          refine vc_aload_n dX12_says_41 rfl ?_
          refine vc_getR dX12_says_42 flX12_7 (s_54 hB0.1.1) rfl (r_54_0 hB0.1.1) ?_
          refine vc_bipush dX12_says_45 rfl ?_
          refine vc_iaload dX12_says_47 (s_55 hB0.1.1) (by omega) (by omega) ?_
          refine vc_topI (mI M 55 6) rfl ?_
          refine vc_imulE dX12_says_48 (by omega) (by omega) ?_
          refine vc_iconst dX12_says_49 rfl ?_
          refine vc_iaddE dX12_says_50 (by omega) (by omega) ?_
          refine vc_bipush dX12_says_51 rfl ?_
          refine vc_iload dX12_says_53 rfl ?_
          refine vc_imulE dX12_says_55 (by omega) (by omega) ?_
          refine vc_iaddE dX12_says_56 (by omega) (by omega) ?_
          refine vc_iaload dX12_says_57 (s_57 hB0.1.1) (by omega) (by omega) ?_
          refine vc_iload_n dX12_says_58 rfl ?_
          refine vc_icmp_eq dX12_says_59 (fun h9 => ?_) (fun h9 => ?_)
          · refine vc_aload_n dX12_says_65 rfl ?_
            refine vc_iload dX12_says_66 rfl ?_
            have hk := (hwt.2.2 v5.toNat (by rw [show 873 * (mI M 55 6).toNat = (873 * mI M 55 6).toNat by omega]; omega)).2
            have hLW : LW M (((873 * mI M 55 6) + 1) + (11 * v5)) ((873 * mI M 55 6) + 265) := by
              rw [show 873 * (mI M 55 6).toNat + 1 + 11 * v5.toNat = ((((873 * mI M 55 6) + 1) + (11 * v5))).toNat by omega] at hk
              obtain ⟨k1, k2, k3, k4⟩ := hk (by omega) (by omega)
              unfold LW wfI
              rw [show ((((873 * mI M 55 6) + 1) + (11 * v5)) + 1).toNat = ((((873 * mI M 55 6) + 1) + (11 * v5))).toNat + 1 by omega, show ((((873 * mI M 55 6) + 1) + (11 * v5)) + 2).toNat = ((((873 * mI M 55 6) + 1) + (11 * v5))).toNat + 2 by omega]
              refine ⟨k1, k2, k3, ?_⟩
              rw [show (((873 * mI M 55 6) + 265) + 2 * mI M 57 (((((873 * mI M 55 6) + 1) + (11 * v5))).toNat + 1)).toNat = 873 * (mI M 55 6).toNat + 265 + 2 * (mI M 57 (((((873 * mI M 55 6) + 1) + (11 * v5))).toNat + 1)).toNat by omega]
              exact k4
            have h55 : mI M 55 6 = S 1 11 := p2
            obtain ⟨hru, cc, hcr, hch, hce, hcc, hev⟩ := p4.yes (e := v5.toNat) p0 p1 (by omega) (by omega) (by rw [← p2]; omega) (by rw [← p2, show 873 * mI M 55 6 + 1 + 11 * ((v5.toNat : Nat) : Int) = ((873 * mI M 55 6) + 1) + (11 * v5) by omega]; assumption)
            rw [← p2, show 873 * mI M 55 6 + 1 + 11 * ((v5.toNat : Nat) : Int) = ((873 * mI M 55 6) + 1) + (11 * v5) by omega] at hcc
            refine vc_cVI dX12_says_68 (sfX12_workedK (M := M) hB0.1 s cc v5 (by omega) (by omega) (by omega) (by exact hLW) (by exact hcr) (by exact hch) (by exact hcc) (by exact p5)) rfl okX12_worked viX12_worked lkX12_293 (s_54 hB0.1.1) cl_12 rfl (Nat.le_of_ble_eq_true rfl) ⟨rfl, rfl⟩ (Nat.le_of_ble_eq_true rfl) (Nat.le_of_ble_eq_true rfl) (Nat.le_of_ble_eq_true rfl) ?_
            rintro x10 M11 ⟨hB12, kp13, kp14, kp15, kp16, kp17, kp18, kp19, h20⟩
            have hB21 : BF fS M M11 := BF.go hB0 hB12
            have kp22 : mI M11 69 = mI M 69 := kp_go rfl kp18
            have kp23 : mI M11 71 = mI M 71 := kp_go rfl kp19
            have kp24 : mI M11 54 = mI M 54 := kp_go rfl kp13
            have kp25 : mI M11 55 = mI M 55 := kp_go rfl kp14
            have kp26 : mI M11 57 = mI M 57 := kp_go rfl kp15
            have kp27 : mI M11 61 = mI M 61 := kp_go rfl kp16
            have kp28 : mI M11 63 = mI M 63 := kp_go rfl kp17
            have hvv : x10 = evKV (nmR M) cc := h20.trans (evKV_eq p5 hcr).symm
            refine vc_istore dX12_says_71 (by decide) rfl (show _ = [some (aR 54), some (aI s), some (aI wo), some (aI lo), some (aI hi), some (aI v5), some (aI x10)] from rfl) ?_
            refine vc_iload dX12_says_73 rfl ?_
            refine vc_iload_n dX12_says_75 rfl ?_
            refine vc_icmp_ge dX12_says_76 (fun h29 => ?_) (fun h29 => ?_)
            · refine vc_iload dX12_says_83 rfl ?_
              refine vc_iload dX12_says_85 rfl ?_
              refine vc_icmp_le dX12_says_87 (fun h30 => ?_) (fun h30 => ?_)
              · refine vc_iload dX12_says_95 rfl ?_
                refine vc_iret dX12_says_97 rfl (Nat.le_of_ble_eq_true rfl) (Nat.le_of_ble_eq_true rfl) ?_
                exact ⟨_, rfl, hB21, kp24, kp25, kp26, kp27, kp28, kp22, kp23, by rw [lwS_y hru, hev, ← hvv]; unfold clS maxZ minZ; (repeat' split) <;> omega⟩
              · refine vc_iload dX12_says_90 rfl ?_
                refine vc_goto dX12_says_92 ?_
                refine vc_iret dX12_says_97 rfl (Nat.le_of_ble_eq_true rfl) (Nat.le_of_ble_eq_true rfl) ?_
                exact ⟨_, rfl, hB21, kp24, kp25, kp26, kp27, kp28, kp22, kp23, by rw [lwS_y hru, hev, ← hvv]; unfold clS maxZ minZ; (repeat' split) <;> omega⟩
            · refine vc_iload_n dX12_says_79 rfl ?_
              refine vc_goto dX12_says_80 ?_
              refine vc_iret dX12_says_97 rfl (Nat.le_of_ble_eq_true rfl) (Nat.le_of_ble_eq_true rfl) ?_
              exact ⟨_, rfl, hB21, kp24, kp25, kp26, kp27, kp28, kp22, kp23, by rw [lwS_y hru, hev, ← hvv]; unfold clS maxZ minZ; (repeat' split) <;> omega⟩
          · refine vc_goto dX12_says_62 ?_
            refine vc_iincE dX12_says_98 rfl (by omega) (by omega) (by decide) rfl (show _ = [some (aR 54), some (aI s), some (aI wo), some (aI lo), some (aI hi), some (aI (v5 + 1)), none] from rfl) ?_
            refine vc_goto dX12_says_101 ?_
            exact ih3 (v5 + 1) (by omega) (by omega) (by first | (intro e he; exfalso; omega) | (intro e he; by_cases q : (e : Int) = v5; (rw [← p2, q]; assumption); (exact g3i0 e (by omega)))) (by omega)
  exact lp3 _ 0 (by omega) (by omega) (by first | (intro e he; exfalso; omega) | (intro e he; by_cases q : (e : Int) = v5; (rw [← p2, q]; assumption); (exact g3i0 e (by omega)))) (Nat.lt_succ_self _)

set_option maxRecDepth 4000 in
theorem sfX12_nameTellerF {l : Launch} {M : Mem} (hB : Box M)  (t : Int) (p0 : 0 ≤ t) (p1 : t ≤ 5) : Call l mdX12_nameTeller [aR 54, aI t] M (fun q N => q = none ∧ BF fS M N ∧ mI N 54 = mI M 54 ∧ mI N 55 = mI M 55 ∧ mI N 57 = mI M 57 ∧ mI N 63 = mI M 63 ∧ mI N 69 = mI M 69 ∧ mI N 71 = mI M 71 ∧ mI N 61 0 = t ∧ mI N 61 1 = mI M 55 (154 + 5 * t).toNat ∧ mI N 61 2 = mI M 55 (154 + 5 * t + 4).toNat) := by
  have hB0 : BF fS M M := BF.start hB
  refine Call.of [some (aR 54), some (aI t)] rfl (Nat.le_of_ble_eq_true rfl) rfl ?_
  refine vc_aload_n dX12_nameTeller_0 rfl ?_
  refine vc_getR dX12_nameTeller_1 flX12_35 (s_54 hB0.1.1) rfl (r_54_22 hB0.1.1) ?_
  refine vc_iconst dX12_nameTeller_4 rfl ?_
  refine vc_iload_n dX12_nameTeller_5 rfl ?_
  refine vc_iastore dX12_nameTeller_6 (s_61 hB0.1.1) (by omega) (by omega) ?_
  refine vc_mem (sI M 61 0 t) rfl ?_
  have kp1 : mI (sI M 61 0 t) 69 = mI M 69 := (kp_sI rfl rfl)
  have kp2 : mI (sI M 61 0 t) 71 = mI M 71 := (kp_sI rfl rfl)
  have kp3 : mI (sI M 61 0 t) 54 = mI M 54 := (kp_sI rfl rfl)
  have kp4 : mI (sI M 61 0 t) 55 = mI M 55 := (kp_sI rfl rfl)
  have kp5 : mI (sI M 61 0 t) 57 = mI M 57 := (kp_sI rfl rfl)
  have kp6 : mI (sI M 61 0 t) 63 = mI M 63 := (kp_sI rfl rfl)
  have hB7 : BF fS M (sI M 61 0 t) := BF.w61 hB0 (fun _ => rfl) _
  refine vc_aload_n dX12_nameTeller_7 rfl ?_
  refine vc_getR dX12_nameTeller_8 flX12_35 (s_54 hB7.1.1) rfl (r_54_22 hB7.1.1) ?_
  refine vc_iconst dX12_nameTeller_11 rfl ?_
  refine vc_aload_n dX12_nameTeller_12 rfl ?_
  refine vc_iload_n dX12_nameTeller_13 rfl ?_
  refine vc_cVI dX12_nameTeller_14 (sfX12_cornerOfF (M := (sI M 61 0 t)) hB7.1  t (by omega) (by omega)) rfl okX12_cornerOf viX12_cornerOf lkX12_296 (s_54 hB7.1.1) cl_12 rfl (Nat.le_of_ble_eq_true rfl) ⟨rfl, rfl⟩ (Nat.le_of_ble_eq_true rfl) (Nat.le_of_ble_eq_true rfl) (Nat.le_of_ble_eq_true rfl) ?_
  rintro x8 _ ⟨rfl, h9, h10, h11⟩
  have q1 : x8 = mI M 55 (154 + 5 * t).toNat := h11
  refine vc_iastore dX12_nameTeller_17 (s_61 hB7.1.1) (by omega) (by omega) ?_
  refine vc_mem (sI (sI M 61 0 t) 61 1 x8) rfl ?_
  have kp12 : mI (sI (sI M 61 0 t) 61 1 x8) 69 = mI M 69 := (kp_sI kp1 rfl)
  have kp13 : mI (sI (sI M 61 0 t) 61 1 x8) 71 = mI M 71 := (kp_sI kp2 rfl)
  have kp14 : mI (sI (sI M 61 0 t) 61 1 x8) 54 = mI M 54 := (kp_sI kp3 rfl)
  have kp15 : mI (sI (sI M 61 0 t) 61 1 x8) 55 = mI M 55 := (kp_sI kp4 rfl)
  have kp16 : mI (sI (sI M 61 0 t) 61 1 x8) 57 = mI M 57 := (kp_sI kp5 rfl)
  have kp17 : mI (sI (sI M 61 0 t) 61 1 x8) 63 = mI M 63 := (kp_sI kp6 rfl)
  have hB18 : BF fS M (sI (sI M 61 0 t) 61 1 x8) := BF.w61 hB7 (fun _ => rfl) _
  refine vc_aload_n dX12_nameTeller_18 rfl ?_
  refine vc_getR dX12_nameTeller_19 flX12_35 (s_54 hB18.1.1) rfl (r_54_22 hB18.1.1) ?_
  refine vc_iconst dX12_nameTeller_22 rfl ?_
  refine vc_aload_n dX12_nameTeller_23 rfl ?_
  refine vc_getR dX12_nameTeller_24 flX12_7 (s_54 hB18.1.1) rfl (r_54_0 hB18.1.1) ?_
  refine vc_sipush dX12_nameTeller_27 rfl ?_
  refine vc_iconst dX12_nameTeller_30 rfl ?_
  refine vc_iload_n dX12_nameTeller_31 rfl ?_
  refine vc_imulE dX12_nameTeller_32 (by omega) (by omega) ?_
  refine vc_iaddE dX12_nameTeller_33 (by omega) (by omega) ?_
  refine vc_iconst dX12_nameTeller_34 rfl ?_
  refine vc_iaddE dX12_nameTeller_35 (by omega) (by omega) ?_
  refine vc_iaload dX12_nameTeller_36 (s_55 hB18.1.1) (by omega) (by omega) ?_
  refine vc_topI (mI M 55 (((154 + (5 * t)) + 4).toNat)) rfl ?_
  have k19 : mI M 55 (((154 + (5 * t)) + 4).toNat) = mI M 55 (((154 + (5 * t)) + 4).toNat) := congrFun kp15 (((154 + (5 * t)) + 4).toNat)
  refine vc_iastore dX12_nameTeller_37 (s_61 hB18.1.1) (by omega) (by omega) ?_
  refine vc_mem (sI (sI (sI M 61 0 t) 61 1 x8) 61 2 (mI M 55 (((154 + (5 * t)) + 4).toNat))) rfl ?_
  have kp20 : mI (sI (sI (sI M 61 0 t) 61 1 x8) 61 2 (mI M 55 (((154 + (5 * t)) + 4).toNat))) 69 = mI M 69 := (kp_sI kp12 rfl)
  have kp21 : mI (sI (sI (sI M 61 0 t) 61 1 x8) 61 2 (mI M 55 (((154 + (5 * t)) + 4).toNat))) 71 = mI M 71 := (kp_sI kp13 rfl)
  have kp22 : mI (sI (sI (sI M 61 0 t) 61 1 x8) 61 2 (mI M 55 (((154 + (5 * t)) + 4).toNat))) 54 = mI M 54 := (kp_sI kp14 rfl)
  have kp23 : mI (sI (sI (sI M 61 0 t) 61 1 x8) 61 2 (mI M 55 (((154 + (5 * t)) + 4).toNat))) 55 = mI M 55 := (kp_sI kp15 rfl)
  have kp24 : mI (sI (sI (sI M 61 0 t) 61 1 x8) 61 2 (mI M 55 (((154 + (5 * t)) + 4).toNat))) 57 = mI M 57 := (kp_sI kp16 rfl)
  have kp25 : mI (sI (sI (sI M 61 0 t) 61 1 x8) 61 2 (mI M 55 (((154 + (5 * t)) + 4).toNat))) 63 = mI M 63 := (kp_sI kp17 rfl)
  have hB26 : BF fS M (sI (sI (sI M 61 0 t) 61 1 x8) 61 2 (mI M 55 (((154 + (5 * t)) + 4).toNat))) := BF.w61 hB18 (fun _ => rfl) _
  refine vc_vret dX12_nameTeller_38 rfl (Nat.le_of_ble_eq_true rfl) (Nat.le_of_ble_eq_true rfl) ?_
  exact ⟨rfl, hB26, kp22, kp23, kp24, kp25, kp20, kp21, rfl, q1, rfl⟩

set_option maxRecDepth 4000 in
theorem sfX12_paceOfF {l : Launch} {M : Mem} (hB : Box M) (S : Sw) (c : Int) (d : Int) (p0 : 0 ≤ c) (p1 : c ≤ 15) (p2 : 0 ≤ d) (p3 : d ≤ 3) (p4 : TA (mI M 55) S) (p5 : c < S 1 6) (p6 : LwS S (mI M 57)) (p7 : 0 ≤ ahS S c d) (p8 : nmT S) : Call l mdX12_paceOf [aR 54, aI c, aI d] M (fun q N => ∃ r : Int, q = some (aI r) ∧ BF fS M N ∧ mI N 54 = mI M 54 ∧ mI N 55 = mI M 55 ∧ mI N 57 = mI M 57 ∧ mI N 63 = mI M 63 ∧ mI N 69 = mI M 69 ∧ mI N 71 = mI M 71 ∧ r = paS S c d) := by
  have hB0 : BF fS M M := BF.start hB
  refine Call.of [some (aR 54), some (aI c), some (aI d)] rfl (Nat.le_of_ble_eq_true rfl) rfl ?_
  have c6 := p4.1.2.2.2.2.2
  have c5 := p4.1.2.2.2.2.1
  refine vc_aload_n dX12_paceOf_0 rfl ?_
  refine vc_getR dX12_paceOf_1 flX12_35 (s_54 hB0.1.1) rfl (r_54_22 hB0.1.1) ?_
  refine vc_bipush dX12_paceOf_4 rfl ?_
  refine vc_aload_n dX12_paceOf_6 rfl ?_
  refine vc_iload_n dX12_paceOf_7 rfl ?_
  refine vc_iload_n dX12_paceOf_8 rfl ?_
  refine vc_cVI dX12_paceOf_9 (sfX12_isLaneF (M := M) hB0.1  c d (by omega) (by omega) (by omega) (by omega)) rfl okX12_isLane viX12_isLane lkX12_315 (s_54 hB0.1.1) cl_12 rfl (Nat.le_of_ble_eq_true rfl) ⟨rfl, rfl⟩ (Nat.le_of_ble_eq_true rfl) (Nat.le_of_ble_eq_true rfl) (Nat.le_of_ble_eq_true rfl) ?_
  rintro x1 _ ⟨rfl, h2, h3, h4⟩
  have hln := h4
  refine vc_if_eq dX12_paceOf_12 (fun h5 => ?_) (fun h5 => ?_)
  · refine vc_iconst dX12_paceOf_19 rfl ?_
    refine vc_iastore dX12_paceOf_20 (s_61 hB0.1.1) (by omega) (by omega) ?_
    refine vc_mem (sI M 61 6 0) rfl ?_
    have kp6 : mI (sI M 61 6 0) 69 = mI M 69 := (kp_sI rfl rfl)
    have kp7 : mI (sI M 61 6 0) 71 = mI M 71 := (kp_sI rfl rfl)
    have kp8 : mI (sI M 61 6 0) 54 = mI M 54 := (kp_sI rfl rfl)
    have kp9 : mI (sI M 61 6 0) 55 = mI M 55 := (kp_sI rfl rfl)
    have kp10 : mI (sI M 61 6 0) 57 = mI M 57 := (kp_sI rfl rfl)
    have kp11 : mI (sI M 61 6 0) 63 = mI M 63 := (kp_sI rfl rfl)
    have hB12 : BF fS M (sI M 61 6 0) := BF.w61 hB0 (fun _ => rfl) _
    refine vc_aload_n dX12_paceOf_21 rfl ?_
    refine vc_getR dX12_paceOf_22 flX12_35 (s_54 hB12.1.1) rfl (r_54_22 hB12.1.1) ?_
    refine vc_bipush dX12_paceOf_25 rfl ?_
    refine vc_aload_n dX12_paceOf_27 rfl ?_
    refine vc_aload_n dX12_paceOf_28 rfl ?_
    refine vc_iload_n dX12_paceOf_29 rfl ?_
    refine vc_iload_n dX12_paceOf_30 rfl ?_
    refine vc_cVI dX12_paceOf_31 (sfX12_streetOfF (M := (sI M 61 6 0)) hB12.1  c d (by omega) (by omega) (by omega) (by omega)) rfl okX12_streetOf viX12_streetOf lkX12_91 (s_54 hB12.1.1) cl_12 rfl (Nat.le_of_ble_eq_true rfl) ⟨rfl, rfl⟩ (Nat.le_of_ble_eq_true rfl) (Nat.le_of_ble_eq_true rfl) (Nat.le_of_ble_eq_true rfl) ?_
    rintro x13 _ ⟨rfl, h14, h15, h16⟩
    have hst : x13 = ahS S c d := h16.trans (p4.st (by omega) p5 (by omega) (by omega))
    have hah := p4.ahr c d
    refine vc_cVI dX12_paceOf_34 (sfX12_sightOfF (M := (sI M 61 6 0)) hB12.1  x13 (by omega) (by omega)) rfl okX12_sightOf viX12_sightOf lkX12_318 (s_54 hB12.1.1) cl_12 rfl (Nat.le_of_ble_eq_true rfl) ⟨rfl, rfl⟩ (Nat.le_of_ble_eq_true rfl) (Nat.le_of_ble_eq_true rfl) (Nat.le_of_ble_eq_true rfl) ?_
    rintro x17 _ ⟨rfl, h18⟩
    have hsi : x17 = siS S (ahS S c d) := by rw [← hst]; exact h18.trans (p4.si (by omega) (by omega))
    refine vc_iastore dX12_paceOf_37 (s_61 hB12.1.1) (by omega) (by omega) ?_
    refine vc_mem (sI (sI M 61 6 0) 61 7 x17) rfl ?_
    have kp19 : mI (sI (sI M 61 6 0) 61 7 x17) 69 = mI M 69 := (kp_sI kp6 rfl)
    have kp20 : mI (sI (sI M 61 6 0) 61 7 x17) 71 = mI M 71 := (kp_sI kp7 rfl)
    have kp21 : mI (sI (sI M 61 6 0) 61 7 x17) 54 = mI M 54 := (kp_sI kp8 rfl)
    have kp22 : mI (sI (sI M 61 6 0) 61 7 x17) 55 = mI M 55 := (kp_sI kp9 rfl)
    have kp23 : mI (sI (sI M 61 6 0) 61 7 x17) 57 = mI M 57 := (kp_sI kp10 rfl)
    have kp24 : mI (sI (sI M 61 6 0) 61 7 x17) 63 = mI M 63 := (kp_sI kp11 rfl)
    have hB25 : BF fS M (sI (sI M 61 6 0) 61 7 x17) := BF.w61 hB12 (fun _ => rfl) _
    refine vc_aload_n dX12_paceOf_38 rfl ?_
    refine vc_getR dX12_paceOf_39 flX12_35 (s_54 hB25.1.1) rfl (r_54_22 hB25.1.1) ?_
    refine vc_bipush dX12_paceOf_42 rfl ?_
    refine vc_iload_n dX12_paceOf_44 rfl ?_
    refine vc_iastore dX12_paceOf_45 (s_61 hB25.1.1) (by omega) (by omega) ?_
    refine vc_mem (sI (sI (sI M 61 6 0) 61 7 x17) 61 8 d) rfl ?_
    have kp26 : mI (sI (sI (sI M 61 6 0) 61 7 x17) 61 8 d) 69 = mI M 69 := (kp_sI kp19 rfl)
    have kp27 : mI (sI (sI (sI M 61 6 0) 61 7 x17) 61 8 d) 71 = mI M 71 := (kp_sI kp20 rfl)
    have kp28 : mI (sI (sI (sI M 61 6 0) 61 7 x17) 61 8 d) 54 = mI M 54 := (kp_sI kp21 rfl)
    have kp29 : mI (sI (sI (sI M 61 6 0) 61 7 x17) 61 8 d) 55 = mI M 55 := (kp_sI kp22 rfl)
    have kp30 : mI (sI (sI (sI M 61 6 0) 61 7 x17) 61 8 d) 57 = mI M 57 := (kp_sI kp23 rfl)
    have kp31 : mI (sI (sI (sI M 61 6 0) 61 7 x17) 61 8 d) 63 = mI M 63 := (kp_sI kp24 rfl)
    have hB32 : BF fS M (sI (sI (sI M 61 6 0) 61 7 x17) 61 8 d) := BF.w61 hB25 (fun _ => rfl) _
    refine vc_aload_n dX12_paceOf_46 rfl ?_
    refine vc_iconst dX12_paceOf_47 rfl ?_
    refine vc_bipush dX12_paceOf_48 rfl ?_
    refine vc_iconst dX12_paceOf_50 rfl ?_
    refine vc_bipush dX12_paceOf_51 rfl ?_
    have n6 : mI (sI (sI (sI M 61 6 0) 61 7 x17) 61 8 d) 61 6 = 0 := by (repeat rw [mI_sI, if_neg (by decide)]); exact mI_same
    have n7 : mI (sI (sI (sI M 61 6 0) 61 7 x17) 61 8 d) 61 7 = x17 := by (repeat rw [mI_sI, if_neg (by decide)]); exact mI_same
    have n8 : mI (sI (sI (sI M 61 6 0) 61 7 x17) 61 8 d) 61 8 = d := by (repeat rw [mI_sI, if_neg (by decide)]); exact mI_same
    have hla : 0 = laI S c d := by have z1 := ((p4.2.1 c.toNat (by omega)).2 d.toNat (by omega)).2; have z2 := ((p4.2.1 c.toNat (by omega)).2 d.toNat (by omega)).1; rw [show 10 + 9 * c.toNat + 5 + d.toNat = (10 + 9 * c + 5 + d).toNat by omega, show 4 * c.toNat + d.toNat = (4 * c + d % 4).toNat by omega] at z1; rw [show 4 * c.toNat + d.toNat = (4 * c + d % 4).toNat by omega] at z2; have z3 : S 3 (4 * c + d % 4).toNat = ahS S c d := (if_pos (show 0 ≤ c ∧ c < S 1 6 by omega)).symm; rw [if_neg (by omega)] at z1; have z4 := p4.2.2.2.2.1.2.2 (4 * c + d % 4).toNat; unfold laI; rw [if_pos (by omega), ← z1]; omega
    have hsb : 0 ≤ siS S (ahS S c d) ∧ siS S (ahS S c d) ≤ 5 := by unfold siS; rw [if_pos (by omega)]; exact p8.1 _ (by omega)
    have hnm : ∀ v, 0 ≤ v → v ≤ 8 → okLw 3 v → nmR (sI (sI (sI M 61 6 0) 61 7 x17) 61 8 d) v = pnS S c d v := fun v v0 v8 ho => by
      have h6 : 6 ≤ v := by unfold okLw at ho; omega
      unfold pnS nmR
      rcases (by omega : v = 6 ∨ v = 7 ∨ v = 8) with rfl | rfl | rfl
      · rw [if_pos rfl]; exact n6.trans hla
      · rw [if_neg (by decide), if_pos rfl]; exact n7.trans hsi
      · rw [if_neg (by decide), if_neg (by decide)]; exact n8
    have hbd : bdN 3 (nmR (sI (sI (sI M 61 6 0) 61 7 x17) 61 8 d)) := fun v v0 v8 ho => by
      have h6 : 6 ≤ v := by unfold okLw at ho; omega
      unfold nmR
      rcases (by omega : v = 6 ∨ v = 7 ∨ v = 8) with rfl | rfl | rfl
      · show -1000000 ≤ mI _ 61 6 ∧ mI _ 61 6 ≤ 1000000; rw [n6]; omega
      · show -1000000 ≤ mI _ 61 7 ∧ mI _ 61 7 ≤ 1000000; rw [n7]; omega
      · show -1000000 ≤ mI _ 61 8 ∧ mI _ 61 8 ≤ 1000000; rw [n8]; omega
    have hL9 : LwS S (mI (sI (sI (sI M 61 6 0) 61 7 x17) 61 8 d) 57) := p6
    refine vc_cVI dX12_paceOf_53 (sfX12_saysF (M := (sI (sI (sI M 61 6 0) 61 7 x17) 61 8 d)) hB32.1 S 3 10 1 99 (by omega) (by omega) (by exact c6) (by exact c5) (by exact hL9) (by exact hbd) (by omega)) rfl okX12_says viX12_says lkX12_311 (s_54 hB32.1.1) cl_12 rfl (Nat.le_of_ble_eq_true rfl) ⟨rfl, rfl⟩ (Nat.le_of_ble_eq_true rfl) (Nat.le_of_ble_eq_true rfl) (Nat.le_of_ble_eq_true rfl) ?_
    rintro x33 M34 ⟨hB35, kp36, kp37, kp38, kp39, kp40, kp41, kp42, h43⟩
    have hB44 : BF fS M M34 := BF.go hB32 hB35
    have kp45 : mI M34 69 = mI M 69 := kp_go kp26 kp41
    have kp46 : mI M34 71 = mI M 71 := kp_go kp27 kp42
    have kp47 : mI M34 54 = mI M 54 := kp_go kp28 kp36
    have kp48 : mI M34 55 = mI M 55 := kp_go kp29 kp37
    have kp49 : mI M34 57 = mI M 57 := kp_go kp30 kp38
    have kp50 : mI M34 63 = mI M 63 := kp_go kp31 kp40
    refine vc_iret dX12_paceOf_56 rfl (Nat.le_of_ble_eq_true rfl) (Nat.le_of_ble_eq_true rfl) ?_
    exact ⟨_, rfl, hB44, kp47, kp48, kp49, kp50, kp45, kp46, by unfold paS; rw [h43]; exact (hL9.nm (by omega) (by omega) hnm)⟩
  · refine vc_iconst dX12_paceOf_15 rfl ?_
    refine vc_goto dX12_paceOf_16 ?_
    refine vc_iastore dX12_paceOf_20 (s_61 hB0.1.1) (by omega) (by omega) ?_
    refine vc_mem (sI M 61 6 1) rfl ?_
    have kp51 : mI (sI M 61 6 1) 69 = mI M 69 := (kp_sI rfl rfl)
    have kp52 : mI (sI M 61 6 1) 71 = mI M 71 := (kp_sI rfl rfl)
    have kp53 : mI (sI M 61 6 1) 54 = mI M 54 := (kp_sI rfl rfl)
    have kp54 : mI (sI M 61 6 1) 55 = mI M 55 := (kp_sI rfl rfl)
    have kp55 : mI (sI M 61 6 1) 57 = mI M 57 := (kp_sI rfl rfl)
    have kp56 : mI (sI M 61 6 1) 63 = mI M 63 := (kp_sI rfl rfl)
    have hB57 : BF fS M (sI M 61 6 1) := BF.w61 hB0 (fun _ => rfl) _
    refine vc_aload_n dX12_paceOf_21 rfl ?_
    refine vc_getR dX12_paceOf_22 flX12_35 (s_54 hB57.1.1) rfl (r_54_22 hB57.1.1) ?_
    refine vc_bipush dX12_paceOf_25 rfl ?_
    refine vc_aload_n dX12_paceOf_27 rfl ?_
    refine vc_aload_n dX12_paceOf_28 rfl ?_
    refine vc_iload_n dX12_paceOf_29 rfl ?_
    refine vc_iload_n dX12_paceOf_30 rfl ?_
    refine vc_cVI dX12_paceOf_31 (sfX12_streetOfF (M := (sI M 61 6 1)) hB57.1  c d (by omega) (by omega) (by omega) (by omega)) rfl okX12_streetOf viX12_streetOf lkX12_91 (s_54 hB57.1.1) cl_12 rfl (Nat.le_of_ble_eq_true rfl) ⟨rfl, rfl⟩ (Nat.le_of_ble_eq_true rfl) (Nat.le_of_ble_eq_true rfl) (Nat.le_of_ble_eq_true rfl) ?_
    rintro x58 _ ⟨rfl, h59, h60, h61⟩
    have hst : x58 = ahS S c d := h61.trans (p4.st (by omega) p5 (by omega) (by omega))
    have hah := p4.ahr c d
    refine vc_cVI dX12_paceOf_34 (sfX12_sightOfF (M := (sI M 61 6 1)) hB57.1  x58 (by omega) (by omega)) rfl okX12_sightOf viX12_sightOf lkX12_318 (s_54 hB57.1.1) cl_12 rfl (Nat.le_of_ble_eq_true rfl) ⟨rfl, rfl⟩ (Nat.le_of_ble_eq_true rfl) (Nat.le_of_ble_eq_true rfl) (Nat.le_of_ble_eq_true rfl) ?_
    rintro x62 _ ⟨rfl, h63⟩
    have hsi : x62 = siS S (ahS S c d) := by rw [← hst]; exact h63.trans (p4.si (by omega) (by omega))
    refine vc_iastore dX12_paceOf_37 (s_61 hB57.1.1) (by omega) (by omega) ?_
    refine vc_mem (sI (sI M 61 6 1) 61 7 x62) rfl ?_
    have kp64 : mI (sI (sI M 61 6 1) 61 7 x62) 69 = mI M 69 := (kp_sI kp51 rfl)
    have kp65 : mI (sI (sI M 61 6 1) 61 7 x62) 71 = mI M 71 := (kp_sI kp52 rfl)
    have kp66 : mI (sI (sI M 61 6 1) 61 7 x62) 54 = mI M 54 := (kp_sI kp53 rfl)
    have kp67 : mI (sI (sI M 61 6 1) 61 7 x62) 55 = mI M 55 := (kp_sI kp54 rfl)
    have kp68 : mI (sI (sI M 61 6 1) 61 7 x62) 57 = mI M 57 := (kp_sI kp55 rfl)
    have kp69 : mI (sI (sI M 61 6 1) 61 7 x62) 63 = mI M 63 := (kp_sI kp56 rfl)
    have hB70 : BF fS M (sI (sI M 61 6 1) 61 7 x62) := BF.w61 hB57 (fun _ => rfl) _
    refine vc_aload_n dX12_paceOf_38 rfl ?_
    refine vc_getR dX12_paceOf_39 flX12_35 (s_54 hB70.1.1) rfl (r_54_22 hB70.1.1) ?_
    refine vc_bipush dX12_paceOf_42 rfl ?_
    refine vc_iload_n dX12_paceOf_44 rfl ?_
    refine vc_iastore dX12_paceOf_45 (s_61 hB70.1.1) (by omega) (by omega) ?_
    refine vc_mem (sI (sI (sI M 61 6 1) 61 7 x62) 61 8 d) rfl ?_
    have kp71 : mI (sI (sI (sI M 61 6 1) 61 7 x62) 61 8 d) 69 = mI M 69 := (kp_sI kp64 rfl)
    have kp72 : mI (sI (sI (sI M 61 6 1) 61 7 x62) 61 8 d) 71 = mI M 71 := (kp_sI kp65 rfl)
    have kp73 : mI (sI (sI (sI M 61 6 1) 61 7 x62) 61 8 d) 54 = mI M 54 := (kp_sI kp66 rfl)
    have kp74 : mI (sI (sI (sI M 61 6 1) 61 7 x62) 61 8 d) 55 = mI M 55 := (kp_sI kp67 rfl)
    have kp75 : mI (sI (sI (sI M 61 6 1) 61 7 x62) 61 8 d) 57 = mI M 57 := (kp_sI kp68 rfl)
    have kp76 : mI (sI (sI (sI M 61 6 1) 61 7 x62) 61 8 d) 63 = mI M 63 := (kp_sI kp69 rfl)
    have hB77 : BF fS M (sI (sI (sI M 61 6 1) 61 7 x62) 61 8 d) := BF.w61 hB70 (fun _ => rfl) _
    refine vc_aload_n dX12_paceOf_46 rfl ?_
    refine vc_iconst dX12_paceOf_47 rfl ?_
    refine vc_bipush dX12_paceOf_48 rfl ?_
    refine vc_iconst dX12_paceOf_50 rfl ?_
    refine vc_bipush dX12_paceOf_51 rfl ?_
    have n6 : mI (sI (sI (sI M 61 6 1) 61 7 x62) 61 8 d) 61 6 = 1 := by (repeat rw [mI_sI, if_neg (by decide)]); exact mI_same
    have n7 : mI (sI (sI (sI M 61 6 1) 61 7 x62) 61 8 d) 61 7 = x62 := by (repeat rw [mI_sI, if_neg (by decide)]); exact mI_same
    have n8 : mI (sI (sI (sI M 61 6 1) 61 7 x62) 61 8 d) 61 8 = d := by (repeat rw [mI_sI, if_neg (by decide)]); exact mI_same
    have hla : 1 = laI S c d := by have z1 := ((p4.2.1 c.toNat (by omega)).2 d.toNat (by omega)).2; have z2 := ((p4.2.1 c.toNat (by omega)).2 d.toNat (by omega)).1; rw [show 10 + 9 * c.toNat + 5 + d.toNat = (10 + 9 * c + 5 + d).toNat by omega, show 4 * c.toNat + d.toNat = (4 * c + d % 4).toNat by omega] at z1; rw [show 4 * c.toNat + d.toNat = (4 * c + d % 4).toNat by omega] at z2; have z3 : S 3 (4 * c + d % 4).toNat = ahS S c d := (if_pos (show 0 ≤ c ∧ c < S 1 6 by omega)).symm; rw [if_neg (by omega)] at z1; have z4 := p4.2.2.2.2.1.2.2 (4 * c + d % 4).toNat; unfold laI; rw [if_pos (by omega), ← z1]; omega
    have hsb : 0 ≤ siS S (ahS S c d) ∧ siS S (ahS S c d) ≤ 5 := by unfold siS; rw [if_pos (by omega)]; exact p8.1 _ (by omega)
    have hnm : ∀ v, 0 ≤ v → v ≤ 8 → okLw 3 v → nmR (sI (sI (sI M 61 6 1) 61 7 x62) 61 8 d) v = pnS S c d v := fun v v0 v8 ho => by
      have h6 : 6 ≤ v := by unfold okLw at ho; omega
      unfold pnS nmR
      rcases (by omega : v = 6 ∨ v = 7 ∨ v = 8) with rfl | rfl | rfl
      · rw [if_pos rfl]; exact n6.trans hla
      · rw [if_neg (by decide), if_pos rfl]; exact n7.trans hsi
      · rw [if_neg (by decide), if_neg (by decide)]; exact n8
    have hbd : bdN 3 (nmR (sI (sI (sI M 61 6 1) 61 7 x62) 61 8 d)) := fun v v0 v8 ho => by
      have h6 : 6 ≤ v := by unfold okLw at ho; omega
      unfold nmR
      rcases (by omega : v = 6 ∨ v = 7 ∨ v = 8) with rfl | rfl | rfl
      · show -1000000 ≤ mI _ 61 6 ∧ mI _ 61 6 ≤ 1000000; rw [n6]; omega
      · show -1000000 ≤ mI _ 61 7 ∧ mI _ 61 7 ≤ 1000000; rw [n7]; omega
      · show -1000000 ≤ mI _ 61 8 ∧ mI _ 61 8 ≤ 1000000; rw [n8]; omega
    have hL9 : LwS S (mI (sI (sI (sI M 61 6 1) 61 7 x62) 61 8 d) 57) := p6
    refine vc_cVI dX12_paceOf_53 (sfX12_saysF (M := (sI (sI (sI M 61 6 1) 61 7 x62) 61 8 d)) hB77.1 S 3 10 1 99 (by omega) (by omega) (by exact c6) (by exact c5) (by exact hL9) (by exact hbd) (by omega)) rfl okX12_says viX12_says lkX12_311 (s_54 hB77.1.1) cl_12 rfl (Nat.le_of_ble_eq_true rfl) ⟨rfl, rfl⟩ (Nat.le_of_ble_eq_true rfl) (Nat.le_of_ble_eq_true rfl) (Nat.le_of_ble_eq_true rfl) ?_
    rintro x78 M79 ⟨hB80, kp81, kp82, kp83, kp84, kp85, kp86, kp87, h88⟩
    have hB89 : BF fS M M79 := BF.go hB77 hB80
    have kp90 : mI M79 69 = mI M 69 := kp_go kp71 kp86
    have kp91 : mI M79 71 = mI M 71 := kp_go kp72 kp87
    have kp92 : mI M79 54 = mI M 54 := kp_go kp73 kp81
    have kp93 : mI M79 55 = mI M 55 := kp_go kp74 kp82
    have kp94 : mI M79 57 = mI M 57 := kp_go kp75 kp83
    have kp95 : mI M79 63 = mI M 63 := kp_go kp76 kp85
    refine vc_iret dX12_paceOf_56 rfl (Nat.le_of_ble_eq_true rfl) (Nat.le_of_ble_eq_true rfl) ?_
    exact ⟨_, rfl, hB89, kp92, kp93, kp94, kp95, kp90, kp91, by unfold paS; rw [h88]; exact (hL9.nm (by omega) (by omega) hnm)⟩

set_option maxRecDepth 4000 in
theorem sfX12_asksOfF {l : Launch} {M : Mem} (hB : Box M) (S : Sw) (t : Int) (p0 : 0 ≤ t) (p1 : t ≤ 5) (p2 : TA (mI M 55) S) (p3 : t < S 1 8) (p4 : aAs (mI M 55) S) (p5 : LwS S (mI M 57)) (p6 : asB S 1000000) : Call l mdX12_asksOf [aR 54, aI t] M (fun q N => ∃ r : Int, q = some (aI r) ∧ BF fS M N ∧ mI N 54 = mI M 54 ∧ mI N 55 = mI M 55 ∧ mI N 57 = mI M 57 ∧ mI N 63 = mI M 63 ∧ mI N 69 = mI M 69 ∧ mI N 71 = mI M 71 ∧ r = akS S t) := by
  have hB0 : BF fS M M := BF.start hB
  refine Call.of [some (aR 54), some (aI t)] rfl (Nat.le_of_ble_eq_true rfl) rfl ?_
  have p6 := p6
  have c6 := p2.1.2.2.2.2.2
  have c5 := p2.1.2.2.2.2.1
  refine vc_aload_n dX12_asksOf_0 rfl ?_
  refine vc_iload_n dX12_asksOf_1 rfl ?_
  refine vc_cVU dX12_asksOf_2 (sfX12_nameTellerF (M := M) hB0.1  t (by omega) (by omega)) rfl okX12_nameTeller viX12_nameTeller lkX12_302 (s_54 hB0.1.1) cl_12 rfl (Nat.le_of_ble_eq_true rfl) ⟨rfl, rfl⟩ (Nat.le_of_ble_eq_true rfl) (Nat.le_of_ble_eq_true rfl) (Nat.le_of_ble_eq_true rfl) ?_
  rintro M1 ⟨hB2, kp3, kp4, kp5, kp6, kp7, kp8, h9, h10, h11⟩
  have hB12 : BF fS M M1 := BF.go hB0 hB2
  have kp13 : mI M1 69 = mI M 69 := kp_go rfl kp7
  have kp14 : mI M1 71 = mI M 71 := kp_go rfl kp8
  have kp15 : mI M1 54 = mI M 54 := kp_go rfl kp3
  have kp16 : mI M1 55 = mI M 55 := kp_go rfl kp4
  have kp17 : mI M1 57 = mI M 57 := kp_go rfl kp5
  have kp18 : mI M1 63 = mI M 63 := kp_go rfl kp6
  have n0 := h9
  have n1 := h10
  have n2 := h11
  refine vc_aload_n dX12_asksOf_5 rfl ?_
  refine vc_iconst dX12_asksOf_6 rfl ?_
  refine vc_bipush dX12_asksOf_7 rfl ?_
  refine vc_iconst dX12_asksOf_9 rfl ?_
  refine vc_bipush dX12_asksOf_10 rfl ?_
  have ht1 : mI M 55 (154 + 5 * t).toNat = S 5 (4 * t).toNat := (p2.te (t := t) (by omega) (by omega)).1
  have ht2 : mI M 55 (154 + 5 * t + 4).toNat = S 16 (4 + t).toNat := by have z := p4 (t).toNat (by omega); rw [show 154 + 5 * (t).toNat + 4 = (154 + 5 * t + 4).toNat by omega, show 4 + (t).toNat = (4 + t).toNat by omega] at z; exact z
  have hb2 : 0 ≤ S 16 (4 + t).toNat ∧ S 16 (4 + t).toNat ≤ 1000000 := by have z := p6.1 (t).toNat (by omega); rw [show 4 + (t).toNat = (4 + t).toNat by omega] at z; exact z
  have hb1 := p2.te (t := t) (by omega) (by omega)
  have hb6 := p2.2.2.2.2.2.2.2.2.1
  have hnm : ∀ v, 0 ≤ v → v ≤ 8 → okLw 4 v → nmR M1 v = anS S t v := fun v v0 v8 ho => by
    have h6 : v ≤ 2 := by unfold okLw at ho; omega
    unfold anS nmR
    rcases (by omega : v = 0 ∨ v = 1 ∨ v = 2) with rfl | rfl | rfl
    · rw [if_pos rfl]; exact n0
    · rw [if_neg (by decide), if_pos rfl]; exact n1.trans ht1
    · rw [if_neg (by decide), if_neg (by decide)]; exact n2.trans ht2
  have hbd : bdN 4 (nmR M1) := fun v v0 v8 ho => by
    have h6 : v ≤ 2 := by unfold okLw at ho; omega
    unfold nmR
    rcases (by omega : v = 0 ∨ v = 1 ∨ v = 2) with rfl | rfl | rfl
    · show -1000000 ≤ mI _ 61 0 ∧ mI _ 61 0 ≤ 1000000; rw [n0]; omega
    · show -1000000 ≤ mI _ 61 1 ∧ mI _ 61 1 ≤ 1000000; rw [n1, ht1]; omega
    · show -1000000 ≤ mI _ 61 2 ∧ mI _ 61 2 ≤ 1000000; rw [n2, ht2]; omega
  have hL9 : LwS S (mI M1 57) := by rw [kp17]; exact p5
  have k6 : mI M1 55 6 = S 1 11 := (congrFun kp16 6).trans c6
  have k5 : mI M1 55 5 = S 1 10 := (congrFun kp16 5).trans c5
  refine vc_cVI dX12_asksOf_12 (sfX12_saysF (M := M1) hB12.1 S 4 20 0 99 (by omega) (by omega) (by exact k6) (by exact k5) (by exact hL9) (by exact hbd) (by omega)) rfl okX12_says viX12_says lkX12_311 (s_54 hB12.1.1) cl_12 rfl (Nat.le_of_ble_eq_true rfl) ⟨rfl, rfl⟩ (Nat.le_of_ble_eq_true rfl) (Nat.le_of_ble_eq_true rfl) (Nat.le_of_ble_eq_true rfl) ?_
  rintro x19 M20 ⟨hB21, kp22, kp23, kp24, kp25, kp26, kp27, kp28, h29⟩
  have hB30 : BF fS M M20 := BF.go hB12 hB21
  have kp31 : mI M20 69 = mI M 69 := kp_go kp13 kp27
  have kp32 : mI M20 71 = mI M 71 := kp_go kp14 kp28
  have kp33 : mI M20 54 = mI M 54 := kp_go kp15 kp22
  have kp34 : mI M20 55 = mI M 55 := kp_go kp16 kp23
  have kp35 : mI M20 57 = mI M 57 := kp_go kp17 kp24
  have kp36 : mI M20 63 = mI M 63 := kp_go kp18 kp26
  refine vc_iret dX12_asksOf_15 rfl (Nat.le_of_ble_eq_true rfl) (Nat.le_of_ble_eq_true rfl) ?_
  exact ⟨_, rfl, hB30, kp33, kp34, kp35, kp36, kp31, kp32, by unfold akS; rw [h29]; exact (hL9.nm (by omega) (by omega) hnm)⟩

