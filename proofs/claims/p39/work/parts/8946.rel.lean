/-! THE RELATION of the two at the law's head, for feed, end, text, fault, by -/
def RLt (M : Mem) : Prop := byt (mI M 21) ∧ mI M 59 = mI M 21 ∧ mI M 54 6 = mI M 0 13 ∧ mI M 54 7 = mI M 0 14 ∧ mI M 54 8 = mI M 0 15 ∧ mI M 55 5 = mI M 1 10 ∧ mI M 56 5 = mI M 8 10
/-- the tape's places -/
def fTp (k j : Nat) : Bool := k == 21 || k == 59 || (k == 54 && (j == 6 || j == 7 || j == 8)) || (k == 0 && (j == 13 || j == 14 || j == 15)) || (k == 55 && j == 5) || (k == 1 && j == 10) || (k == 56 && j == 5) || (k == 8 && j == 10)
def RB (M : Mem) : Prop := Box M ∧ RLt M
theorem RLt.fz {M N : Mem} (h : RLt M) (f : Fz M N) : RLt N := by
  unfold RLt
  rw [show mI N 21 = mI M 21 from funext fun j => f 21 j rfl, show mI N 59 = mI M 59 from funext fun j => f 59 j rfl, f 54 6 rfl, f 0 13 rfl, f 54 7 rfl, f 0 14 rfl, f 54 8 rfl, f 0 15 rfl, f 55 5 rfl, f 1 10 rfl, f 56 5 rfl, f 8 10 rfl]
  exact h
/-- four bytes more -/
def up4 (f : Nat → Int) (n v : Int) : Nat → Int := fun j => if j = (n + 1 + 1 + 1).toNat then v / 1 % 256 else if j = (n + 1 + 1).toNat then v / 256 % 256 else if j = (n + 1).toNat then v / 65536 % 256 else if j = n.toNat then v / 16777216 % 256 else f j
theorem up4_byt {f : Nat → Int} {n v : Int} (h : byt f) : byt (up4 f n v) := fun j => by
  unfold up4
  split
  · exact ⟨by omega, by omega⟩
  · split
    · exact ⟨by omega, by omega⟩
    · split
      · exact ⟨by omega, by omega⟩
      · split
        · exact ⟨by omega, by omega⟩
        · exact h j
theorem pb_t (M : Mem) (v : Int) : mI (gX11_putBytes M v) 21 = up4 (mI M 21) (mI M 0 13) v := funext fun j => by
  unfold gX11_putBytes up4
  rw [mI_sI, if_neg (fun e => by omega), mI_sI]
  by_cases e1 : j = (mI M 0 13 + 1 + 1 + 1).toNat
  · rw [if_pos ⟨rfl, e1⟩, if_pos e1]
  · rw [if_neg (fun e => e1 e.2), if_neg e1, mI_sI, if_neg (fun e => by omega), mI_sI]
    by_cases e2 : j = (mI M 0 13 + 1 + 1).toNat
    · rw [if_pos ⟨rfl, e2⟩, if_pos e2]
    · rw [if_neg (fun e => e2 e.2), if_neg e2, mI_sI, if_neg (fun e => by omega), mI_sI]
      by_cases e3 : j = (mI M 0 13 + 1).toNat
      · rw [if_pos ⟨rfl, e3⟩, if_pos e3]
      · rw [if_neg (fun e => e3 e.2), if_neg e3, mI_sI, if_neg (fun e => by omega), mI_sI]
        by_cases e4 : j = (mI M 0 13).toNat
        · rw [if_pos ⟨rfl, e4⟩, if_pos e4]
        · rw [if_neg (fun e => e4 e.2), if_neg e4]
theorem fo_t (M : Mem) (v : Int) : mI (gX12_four M v) 59 = up4 (mI M 59) (mI M 54 6) v := funext fun j => by
  unfold gX12_four up4
  rw [mI_sI, if_neg (fun e => by omega), mI_sI]
  by_cases e1 : j = (mI M 54 6 + 1 + 1 + 1).toNat
  · rw [if_pos ⟨rfl, e1⟩, if_pos e1]
  · rw [if_neg (fun e => e1 e.2), if_neg e1, mI_sI, if_neg (fun e => by omega), mI_sI]
    by_cases e2 : j = (mI M 54 6 + 1 + 1).toNat
    · rw [if_pos ⟨rfl, e2⟩, if_pos e2]
    · rw [if_neg (fun e => e2 e.2), if_neg e2, mI_sI, if_neg (fun e => by omega), mI_sI]
      by_cases e3 : j = (mI M 54 6 + 1).toNat
      · rw [if_pos ⟨rfl, e3⟩, if_pos e3]
      · rw [if_neg (fun e => e3 e.2), if_neg e3, mI_sI, if_neg (fun e => by omega), mI_sI]
        by_cases e4 : j = (mI M 54 6).toNat
        · rw [if_pos ⟨rfl, e4⟩, if_pos e4]
        · rw [if_neg (fun e => e4 e.2), if_neg e4]
theorem pb_o (M : Mem) (v : Int) {k j : Nat} (h1 : k ≠ 21) (h2 : ¬ (k = 0 ∧ j = 13)) : mI (gX11_putBytes M v) k j = mI M k j := by
  unfold gX11_putBytes
  rw [mI_sI, if_neg (fun e => h2 e), mI_sI, if_neg (fun e => h1 e.1), mI_sI, if_neg (fun e => h2 e), mI_sI, if_neg (fun e => h1 e.1), mI_sI, if_neg (fun e => h2 e), mI_sI, if_neg (fun e => h1 e.1), mI_sI, if_neg (fun e => h2 e), mI_sI, if_neg (fun e => h1 e.1)]
theorem fo_o (M : Mem) (v : Int) {k j : Nat} (h1 : k ≠ 59) (h2 : ¬ (k = 54 ∧ j = 6)) : mI (gX12_four M v) k j = mI M k j := by
  unfold gX12_four
  rw [mI_sI, if_neg (fun e => h2 e), mI_sI, if_neg (fun e => h1 e.1), mI_sI, if_neg (fun e => h2 e), mI_sI, if_neg (fun e => h1 e.1), mI_sI, if_neg (fun e => h2 e), mI_sI, if_neg (fun e => h1 e.1), mI_sI, if_neg (fun e => h2 e), mI_sI, if_neg (fun e => h1 e.1)]
theorem pb_box {A M : Mem} {v : Int} (h : BX A M) (h0 : 0 ≤ mI M 0 13) (h1 : mI M 0 13 ≤ 296) : BX A (gX11_putBytes M v) := by
  unfold gX11_putBytes
  exact BX.w0_13 (BX.w21 (BX.w0_13 (BX.w21 (BX.w0_13 (BX.w21 (BX.w0_13 (BX.w21 h _) (by omega) (by omega)) _) (by omega) (by omega)) _) (by omega) (by omega)) _) (by omega) (by omega)
theorem fo_box {A M : Mem} {v : Int} (h : BX A M) (h0 : 0 ≤ mI M 54 6) (h1 : mI M 54 6 ≤ 296) : BX A (gX12_four M v) := by
  unfold gX12_four
  exact BX.w54_6 (BX.w59 (BX.w54_6 (BX.w59 (BX.w54_6 (BX.w59 (BX.w54_6 (BX.w59 h _) (by omega) (by omega)) _) (by omega) (by omega)) _) (by omega) (by omega)) _) (by omega) (by omega)
/-- five times four -/
def fd5 (M : Mem) (a b c d e : Int) : Mem := gX11_putBytes (gX11_putBytes (gX11_putBytes (gX11_putBytes (gX11_putBytes M a) b) c) d) e
def fr5 (M : Mem) (a b c d e : Int) : Mem := gX12_four (gX12_four (gX12_four (gX12_four (gX12_four M a) b) c) d) e
theorem fd5_o (M : Mem) (a b c d e : Int) {k j : Nat} (h1 : k ≠ 21) (h2 : ¬ (k = 0 ∧ j = 13)) : mI (fd5 M a b c d e) k j = mI M k j := by
  unfold fd5
  rw [pb_o _ _ h1 h2, pb_o _ _ h1 h2, pb_o _ _ h1 h2, pb_o _ _ h1 h2, pb_o _ _ h1 h2]
theorem fr5_o (M : Mem) (a b c d e : Int) {k j : Nat} (h1 : k ≠ 59) (h2 : ¬ (k = 54 ∧ j = 6)) : mI (fr5 M a b c d e) k j = mI M k j := by
  unfold fr5
  rw [fo_o _ _ h1 h2, fo_o _ _ h1 h2, fo_o _ _ h1 h2, fo_o _ _ h1 h2, fo_o _ _ h1 h2]
theorem fd5_n (M : Mem) (a b c d e : Int) : mI (fd5 M a b c d e) 0 13 = mI M 0 13 + 20 := by
  unfold fd5
  rw [pb_fed, pb_fed, pb_fed, pb_fed, pb_fed]
  omega
theorem fr5_n (M : Mem) (a b c d e : Int) : mI (fr5 M a b c d e) 54 6 = mI M 54 6 + 20 := by
  unfold fr5
  rw [fo_fed, fo_fed, fo_fed, fo_fed, fo_fed]
  omega
def up20 (f : Nat → Int) (n a b c d e : Int) : Nat → Int := up4 (up4 (up4 (up4 (up4 f n a) (n + 4) b) (n + 4 + 4) c) (n + 4 + 4 + 4) d) (n + 4 + 4 + 4 + 4) e
theorem fd5_t (M : Mem) (a b c d e : Int) : mI (fd5 M a b c d e) 21 = up20 (mI M 21) (mI M 0 13) a b c d e := by
  unfold fd5 up20
  simp only [pb_t, pb_fed]
theorem fr5_t (M : Mem) (a b c d e : Int) : mI (fr5 M a b c d e) 59 = up20 (mI M 59) (mI M 54 6) a b c d e := by
  unfold fr5 up20
  simp only [fo_t, fo_fed]
theorem fd5_box {M : Mem} {a b c d e : Int} (h : Box M) (h1 : ¬ 280 < mI M 0 13) : Box (fd5 M a b c d e) := by
  have k := b0_13 h
  unfold fd5
  exact (pb_box (pb_box (pb_box (pb_box (pb_box (BX.start h) (by omega) (by omega)) (by rw [pb_fed]; omega) (by rw [pb_fed]; omega)) (by rw [pb_fed, pb_fed]; omega) (by rw [pb_fed, pb_fed]; omega)) (by rw [pb_fed, pb_fed, pb_fed]; omega) (by rw [pb_fed, pb_fed, pb_fed]; omega)) (by rw [pb_fed, pb_fed, pb_fed, pb_fed]; omega) (by rw [pb_fed, pb_fed, pb_fed, pb_fed]; omega)).1
theorem fr5_box {M : Mem} {a b c d e : Int} (h : Box M) (h1 : ¬ 280 < mI M 54 6) : Box (fr5 M a b c d e) := by
  have k := b54_6 h
  unfold fr5
  exact (fo_box (fo_box (fo_box (fo_box (fo_box (BX.start h) (by omega) (by omega)) (by rw [fo_fed]; omega) (by rw [fo_fed]; omega)) (by rw [fo_fed, fo_fed]; omega) (by rw [fo_fed, fo_fed]; omega)) (by rw [fo_fed, fo_fed, fo_fed]; omega) (by rw [fo_fed, fo_fed, fo_fed]; omega)) (by rw [fo_fed, fo_fed, fo_fed, fo_fed]; omega) (by rw [fo_fed, fo_fed, fo_fed, fo_fed]; omega)).1
theorem feed_box {M : Mem} {a b c d e : Int} (h : Box M) : Box (gX11_feed M a b c d e) := by
  unfold gX11_feed
  by_cases k : 280 < mI M 0 13
  · rw [if_pos k]; exact h
  · rw [if_neg k]; exact fd5_box h k
theorem feed_both {M : Mem} {a b c d e : Int} (h : RB M) : RB (gX12_feed (gX11_feed M a b c d e) a b c d e) ∧ fX11_feed M a b c d e = fX12_feed (gX11_feed M a b c d e) a b c d e := by
  obtain ⟨hB, hR⟩ := h
  have hR0 := hR
  obtain ⟨h1, h2, h3, h4, h5, h6, h7⟩ := hR
  unfold fX11_feed fX12_feed gX12_feed
  by_cases k : 280 < mI M 0 13
  · have eG : gX11_feed M a b c d e = M := if_pos k
    rw [eG, h3]; simp only [if_pos k]
    exact ⟨⟨hB, hR0⟩, trivial⟩
  · have eG : gX11_feed M a b c d e = fd5 M a b c d e := if_neg k
    have e6 : mI (fd5 M a b c d e) 54 6 = mI M 0 13 := by rw [fd5_o M a b c d e (by decide) (by decide)]; exact h3
    have hb := fd5_box (a := a) (b := b) (c := c) (d := d) (e := e) hB k
    rw [eG, e6]; simp only [if_neg k]
    refine ⟨⟨fr5_box hb (by rw [e6]; exact k), ?_⟩, trivial⟩
    show RLt (fr5 (fd5 M a b c d e) a b c d e)
    unfold RLt
    rw [show mI (fr5 (fd5 M a b c d e) a b c d e) 21 = mI (fd5 M a b c d e) 21 from funext fun j => fr5_o _ a b c d e (by decide) (fun e => by omega), fr5_t, e6, show mI (fd5 M a b c d e) 59 = mI M 59 from funext fun j => fd5_o _ a b c d e (by decide) (fun e => by omega), h2, fd5_t, fr5_n, e6]
    rw [fr5_o (k := 0) (j := 13) _ a b c d e (by decide) (by decide), fd5_n, fr5_o (k := 54) (j := 7) _ a b c d e (by decide) (by decide), fd5_o (k := 54) (j := 7) _ a b c d e (by decide) (by decide), fr5_o (k := 0) (j := 14) _ a b c d e (by decide) (by decide), fd5_o (k := 0) (j := 14) _ a b c d e (by decide) (by decide), fr5_o (k := 54) (j := 8) _ a b c d e (by decide) (by decide), fd5_o (k := 54) (j := 8) _ a b c d e (by decide) (by decide), fr5_o (k := 0) (j := 15) _ a b c d e (by decide) (by decide), fd5_o (k := 0) (j := 15) _ a b c d e (by decide) (by decide), fr5_o (k := 55) (j := 5) _ a b c d e (by decide) (by decide), fd5_o (k := 55) (j := 5) _ a b c d e (by decide) (by decide), fr5_o (k := 1) (j := 10) _ a b c d e (by decide) (by decide), fd5_o (k := 1) (j := 10) _ a b c d e (by decide) (by decide), fr5_o (k := 56) (j := 5) _ a b c d e (by decide) (by decide), fd5_o (k := 56) (j := 5) _ a b c d e (by decide) (by decide), fr5_o (k := 8) (j := 10) _ a b c d e (by decide) (by decide), fd5_o (k := 8) (j := 10) _ a b c d e (by decide) (by decide)]
    exact ⟨up4_byt (up4_byt (up4_byt (up4_byt (up4_byt h1)))), rfl, rfl, h4, h5, h6, h7⟩
/-- text -/
theorem text_byt {M N : Mem} {r : Int} (h : RLt M) (t : TXc M N r) : byt (mI N 59) := by
  have e : mI N 59 = mI M 59 := by
    rcases t with ⟨_, _, f⟩ | ⟨_, _, f, _⟩
    · exact funext fun j => f 59 j rfl
    · exact funext fun j => f 59 j rfl (by decide) (fun e => absurd e.1 (by decide))
  rw [e, h.2.1]
  exact h.1
theorem text_both {M N P : Mem} {r s : Int} (hB : Box M) (h : RLt M) (t : TXc M N r) (u : TXr N P s) : RLt P ∧ r = s := by
  have hb := (b1_10 hB).2
  have h0 := h
  obtain ⟨h1, h2, h3, h4, h5, h6, h7⟩ := h
  rcases t with ⟨a1, a2, a3⟩ | ⟨a1, a2, a3, a4⟩
  · rcases u with ⟨b1, b2, b3⟩ | ⟨b1, b2, b3, b4⟩
    · exact ⟨h0.fz ((a3.up fT_Q).trans b3), by omega⟩
    · exfalso
      have z := a3 55 5 rfl
      omega
  · have c59 : mI N 59 = mI M 59 := funext fun j => a3 59 j rfl (by decide) (fun e => absurd e.1 (by decide))
    have c6 := a3 54 6 rfl (by decide) (by decide)
    have c5 := a3 55 5 rfl (by decide) (by decide)
    have c56 := a3 56 5 rfl (by decide) (by decide)
    have c8 := a3 8 10 rfl (by decide) (by decide)
    have c21 : mI N 21 = mI M 21 := funext fun j => a3 21 j rfl (by decide) (fun e => absurd e.1 (by decide))
    rcases u with ⟨b1, b2, b3⟩ | ⟨b1, b2, b3, b4⟩
    · omega
    · rw [c59, h2, c6, h3] at b4
      have d59 : mI P 59 = mI N 59 := funext fun j => b3 59 j rfl (by decide) (fun e => absurd e.1 (by decide))
      have d21 : mI P 21 = mI N 21 := funext fun j => b3 21 j rfl (by decide) (fun e => absurd e.1 (by decide))
      have d13 := b3 0 13 rfl (by decide) (by decide)
      have d14 := b3 0 14 rfl (by decide) (by decide)
      have d15 := b3 0 15 rfl (by decide) (by decide)
      have d10 := b3 1 10 rfl (by decide) (by decide)
      have d8 := b3 8 10 rfl (by decide) (by decide)
      have d56 := b3 56 5 rfl (by decide) (by decide)
      rcases a4 with ⟨p1, p2, p3, p4, p5⟩ | ⟨p1, p2, p3, p4, p5⟩
      · rcases b4 with ⟨q1, q2, q3, q4, q5⟩ | ⟨q1, q2, q3, q4, q5⟩
        · exact ⟨⟨by rw [d21, c21]; exact h1, by rw [d59, d21, c59, c21]; exact h2, by omega, by omega, by omega, by omega, by omega⟩, by omega⟩
        · exact absurd p1 q1
      · rcases b4 with ⟨q1, q2, q3, q4, q5⟩ | ⟨q1, q2, q3, q4, q5⟩
        · exact absurd q1 p1
        · exact ⟨⟨by rw [d21, c21]; exact h1, by rw [d59, d21, c59, c21]; exact h2, by omega, by omega, by omega, by omega, by omega⟩, by omega⟩
/-- end -/
def ENc (M N : Mem) (n r : Int) : Prop := (∀ k j, fTp k j = true → ¬ (k = 0 ∧ j = 13) → mI N k j = mI M k j) ∧ ((0 ≤ n ∧ n ≤ mI M 0 13 ∧ r = n ∧ mI N 0 13 = n) ∨ (¬ (0 ≤ n ∧ n ≤ mI M 0 13) ∧ r = -1 ∧ mI N 0 13 = mI M 0 13))
def ENr (M N : Mem) (n r : Int) : Prop := (∀ k j, fTp k j = true → ¬ (k = 54 ∧ j = 6) → mI N k j = mI M k j) ∧ ((0 ≤ n ∧ n ≤ mI M 54 6 ∧ r = n ∧ mI N 54 6 = n) ∨ (¬ (0 ≤ n ∧ n ≤ mI M 54 6) ∧ r = -1 ∧ mI N 54 6 = mI M 54 6))
theorem end_both {M N P : Mem} {n r s : Int} (h : RLt M) (t : ENc M N n r) (u : ENr N P n s) : RLt P ∧ r = s := by
  obtain ⟨h1, h2, h3, h4, h5, h6, h7⟩ := h
  obtain ⟨a, b⟩ := t
  obtain ⟨c, d⟩ := u
  have e21 : mI P 21 = mI M 21 := funext fun j => (c 21 j rfl (fun e => by omega)).trans (a 21 j rfl (fun e => by omega))
  have e59 : mI P 59 = mI M 59 := funext fun j => (c 59 j rfl (fun e => by omega)).trans (a 59 j rfl (fun e => by omega))
  have x1 := a 54 6 rfl (by decide)
  have x2 := c 0 13 rfl (by decide)
  have x3 := (c 54 7 rfl (by decide)).trans (a 54 7 rfl (by decide))
  have x4 := (c 0 14 rfl (by decide)).trans (a 0 14 rfl (by decide))
  have x5 := (c 54 8 rfl (by decide)).trans (a 54 8 rfl (by decide))
  have x6 := (c 0 15 rfl (by decide)).trans (a 0 15 rfl (by decide))
  have x7 := (c 55 5 rfl (by decide)).trans (a 55 5 rfl (by decide))
  have x8 := (c 1 10 rfl (by decide)).trans (a 1 10 rfl (by decide))
  have x9 := (c 56 5 rfl (by decide)).trans (a 56 5 rfl (by decide))
  have x10 := (c 8 10 rfl (by decide)).trans (a 8 10 rfl (by decide))
  exact ⟨⟨by rw [e21]; exact h1, by rw [e59, e21]; exact h2, by omega, by omega, by omega, by omega, by omega⟩, by omega⟩
/-- image, back -/
def IMc (M N : Mem) : Prop := mI N 8 10 = mI M 1 10 ∧ ∀ k j, fTp k j = true → k ≠ 8 → mI N k j = mI M k j
def BAc (M N : Mem) : Prop := mI N 1 10 = mI M 8 10 ∧ ∀ k j, fTp k j = true → k ≠ 1 → mI N k j = mI M k j
theorem cp_o {M : Mem} {t f k j : Nat} (h : k ≠ t) : mI (cpI M t f 0 0 589) k j = mI M k j := by
  rw [mI_cpI, if_neg (fun e => h e.1)]
theorem cp_5 {M : Mem} {t f : Nat} : mI (cpI M t f 0 0 589) t 5 = mI M f 5 := by
  rw [mI_cpI, if_pos ⟨rfl, by decide, by decide⟩]
theorem img_both {M N : Mem} (h : RLt M) (t : IMc M N) : RLt (cpI N 56 55 0 0 589) := by
  obtain ⟨h1, h2, h3, h4, h5, h6, h7⟩ := h
  obtain ⟨a, b⟩ := t
  unfold RLt
  rw [show mI (cpI N 56 55 0 0 589) 21 = mI M 21 from funext fun j => (cp_o (by decide)).trans (b 21 j rfl (by decide)), show mI (cpI N 56 55 0 0 589) 59 = mI M 59 from funext fun j => (cp_o (by decide)).trans (b 59 j rfl (by decide)), cp_5, cp_o (k := 54) (j := 6) (by decide), cp_o (k := 0) (j := 13) (by decide), cp_o (k := 54) (j := 7) (by decide), cp_o (k := 0) (j := 14) (by decide), cp_o (k := 54) (j := 8) (by decide), cp_o (k := 0) (j := 15) (by decide), cp_o (k := 55) (j := 5) (by decide), cp_o (k := 1) (j := 10) (by decide), cp_o (k := 8) (j := 10) (by decide), b 54 6 rfl (by decide), b 0 13 rfl (by decide), b 54 7 rfl (by decide), b 0 14 rfl (by decide), b 54 8 rfl (by decide), b 0 15 rfl (by decide), b 55 5 rfl (by decide), b 1 10 rfl (by decide), a]
  exact ⟨h1, h2, h3, h4, h5, h6, h6⟩
theorem bck_both {M N : Mem} (h : RLt M) (t : BAc M N) : RLt (cpI N 55 56 0 0 589) := by
  obtain ⟨h1, h2, h3, h4, h5, h6, h7⟩ := h
  obtain ⟨a, b⟩ := t
  unfold RLt
  rw [show mI (cpI N 55 56 0 0 589) 21 = mI M 21 from funext fun j => (cp_o (by decide)).trans (b 21 j rfl (by decide)), show mI (cpI N 55 56 0 0 589) 59 = mI M 59 from funext fun j => (cp_o (by decide)).trans (b 59 j rfl (by decide)), cp_5, cp_o (k := 54) (j := 6) (by decide), cp_o (k := 0) (j := 13) (by decide), cp_o (k := 54) (j := 7) (by decide), cp_o (k := 0) (j := 14) (by decide), cp_o (k := 54) (j := 8) (by decide), cp_o (k := 0) (j := 15) (by decide), cp_o (k := 56) (j := 5) (by decide), cp_o (k := 1) (j := 10) (by decide), cp_o (k := 8) (j := 10) (by decide), b 54 6 rfl (by decide), b 0 13 rfl (by decide), b 54 7 rfl (by decide), b 0 14 rfl (by decide), b 54 8 rfl (by decide), b 0 15 rfl (by decide), b 56 5 rfl (by decide), b 8 10 rfl (by decide), a]
  exact ⟨h1, h2, h3, h4, h5, h7, h7⟩

/-- one cell alone is written -/
def OnC (M N : Mem) (c : Nat) : Prop := (∀ k j : Nat, k ≠ c → mI N k j = mI M k j) ∧ (∀ k j, mR N k j = mR M k j) ∧ N.1 = M.1
set_option maxRecDepth 4000 in
theorem sfX11_endF {l : Launch} {M : Mem} (hB : Box M)  (n : Int)  : Call l mdX11_end [aR 0, aI n] M (fun q N => ∃ r : Int, q = some (aI r) ∧ BX M N ∧ OnC M N 0 ∧ ENc M N n r) := by
  have hB0 : BX M M := BX.start hB
  refine Call.of [some (aR 0), some (aI n)] rfl (Nat.le_of_ble_eq_true rfl) rfl ?_
  refine vc_ok (fun hoM hoS hoL => ?_)
  have hr1 : -2147483648 ≤ n ∧ n < 2147483648 := hoL 1 _ rfl
  refine vc_iload_n dX11_end_0 rfl ?_
  refine vc_if_lt dX11_end_1 (fun h1 => ?_) (fun h1 => ?_)
  · refine vc_iconst dX11_end_12 rfl ?_
    refine vc_iret dX11_end_13 rfl (Nat.le_of_ble_eq_true rfl) (Nat.le_of_ble_eq_true rfl) ?_
    exact ⟨_, rfl, hB0, ⟨fun k j _ => rfl, fun _ _ => rfl, rfl⟩, fun k j _ _ => rfl, by omega⟩
  · refine vc_iload_n dX11_end_4 rfl ?_
    refine vc_aload_n dX11_end_5 rfl ?_
    refine vc_getI dX11_end_6 flX11_103 (s_0 hB0.1.1) rfl ?_
    have k2 : 0 ≤ mI M 0 13 ∧ mI M 0 13 ≤ 300 := b0_13 (M := M) hB0.1
    refine vc_icmp_le dX11_end_9 (fun h3 => ?_) (fun h3 => ?_)
    · refine vc_aload_n dX11_end_14 rfl ?_
      refine vc_iload_n dX11_end_15 rfl ?_
      refine vc_putI dX11_end_16 (plX11_103 _ rfl) (s_0 hB0.1.1) rfl ?_
      have hB4 : BX M (sI M 0 13 n) := BX.w0_13 hB0 (by omega) (by omega)
      refine vc_iload_n dX11_end_19 rfl ?_
      refine vc_iret dX11_end_20 rfl (Nat.le_of_ble_eq_true rfl) (Nat.le_of_ble_eq_true rfl) ?_
      have e1 : mI (sI M 0 13 n) 0 13 = n := mI_same
      exact ⟨_, rfl, hB4, ⟨fun k j h => by rw [mI_sI, if_neg (fun e => h e.1)], fun _ _ => rfl, rfl⟩, fun k j _ h => by rw [mI_sI, if_neg h], by omega⟩
    · refine vc_iconst dX11_end_12 rfl ?_
      refine vc_iret dX11_end_13 rfl (Nat.le_of_ble_eq_true rfl) (Nat.le_of_ble_eq_true rfl) ?_
      exact ⟨_, rfl, hB0, ⟨fun k j _ => rfl, fun _ _ => rfl, rfl⟩, fun k j _ _ => rfl, by omega⟩

set_option maxRecDepth 4000 in
theorem sfX12_endF {l : Launch} {M : Mem} (hB : Box M)  (n : Int)  : Call l mdX12_end [aR 54, aI n] M (fun q N => ∃ r : Int, q = some (aI r) ∧ BX M N ∧ OnC M N 54 ∧ ENr M N n r) := by
  have hB0 : BX M M := BX.start hB
  refine Call.of [some (aR 54), some (aI n)] rfl (Nat.le_of_ble_eq_true rfl) rfl ?_
  refine vc_ok (fun hoM hoS hoL => ?_)
  have hr1 : -2147483648 ≤ n ∧ n < 2147483648 := hoL 1 _ rfl
  have hk6 := b54_6 hB
  refine vc_iload_n dX12_end_0 rfl ?_
  refine vc_iconst dX12_end_1 rfl ?_
  refine vc_aload_n dX12_end_2 rfl ?_
  refine vc_getI dX12_end_3 flX12_112 (s_54 hB0.1.1) rfl ?_
  have k1 : 0 ≤ mI M 54 6 ∧ mI M 54 6 ≤ 300 := b54_6 (M := M) hB0.1
  refine vc_cSI dX12_end_6 (sfX12_isInF (M := M) hB0.1  n 0 (mI M 54 6) ) rfl okX12_isIn stX12_isIn lkX12_83 rfl (Nat.le_of_ble_eq_true rfl) ⟨rfl, rfl⟩ (Nat.le_of_ble_eq_true rfl) (Nat.le_of_ble_eq_true rfl) (Nat.le_of_ble_eq_true rfl) ?_
  rintro x2 _ ⟨rfl, h3, h4, h5⟩
  refine vc_if_ne dX12_end_9 (fun h6 => ?_) (fun h6 => ?_)
  · refine vc_aload_n dX12_end_14 rfl ?_
    refine vc_iload_n dX12_end_15 rfl ?_
    refine vc_putI dX12_end_16 (plX12_112 _ rfl) (s_54 hB0.1.1) rfl ?_
    have hB7 : BX M (sI M 54 6 n) := BX.w54_6 hB0 (by omega) (by omega)
    refine vc_iload_n dX12_end_19 rfl ?_
    refine vc_iret dX12_end_20 rfl (Nat.le_of_ble_eq_true rfl) (Nat.le_of_ble_eq_true rfl) ?_
    have e1 : mI (sI M 54 6 n) 54 6 = n := mI_same
    exact ⟨_, rfl, hB7, ⟨fun k j h => by rw [mI_sI, if_neg (fun e => h e.1)], fun _ _ => rfl, rfl⟩, fun k j _ h => by rw [mI_sI, if_neg h], by omega⟩
  · refine vc_iconst dX12_end_12 rfl ?_
    refine vc_iret dX12_end_13 rfl (Nat.le_of_ble_eq_true rfl) (Nat.le_of_ble_eq_true rfl) ?_
    exact ⟨_, rfl, hB0, ⟨fun k j _ => rfl, fun _ _ => rfl, rfl⟩, fun k j _ _ => rfl, by omega⟩

set_option maxRecDepth 4000 in
theorem sfX11_faultF {l : Launch} {M : Mem} (hB : Box M)  (w : Int)  : Call l mdX11_fault [aR 0, aI w] M (fun q N => ∃ r : Int, q = some (aI r) ∧ M = N ∧ ((w = 0 ∧ r = mI M 0 14) ∨ (w = 1 ∧ r = mI M 0 15) ∨ (w ≠ 0 ∧ w ≠ 1 ∧ r = -1))) := by
  have hB0 : BF fQ M M := BF.start hB
  refine Call.of [some (aR 0), some (aI w)] rfl (Nat.le_of_ble_eq_true rfl) rfl ?_
  refine vc_ok (fun hoM hoS hoL => ?_)
  have hr1 : -2147483648 ≤ w ∧ w < 2147483648 := hoL 1 _ rfl
  refine vc_iload_n dX11_fault_0 rfl ?_
  refine vc_if_ne dX11_fault_1 (fun h1 => ?_) (fun h1 => ?_)
  · refine vc_iload_n dX11_fault_9 rfl ?_
    refine vc_iconst dX11_fault_10 rfl ?_
    refine vc_icmp_ne dX11_fault_11 (fun h2 => ?_) (fun h2 => ?_)
    · refine vc_iconst dX11_fault_21 rfl ?_
      refine vc_iret dX11_fault_22 rfl (Nat.le_of_ble_eq_true rfl) (Nat.le_of_ble_eq_true rfl) ?_
      exact ⟨_, rfl, rfl, by omega⟩
    · refine vc_aload_n dX11_fault_14 rfl ?_
      refine vc_getI dX11_fault_15 flX11_110 (s_0 hB0.1.1) rfl ?_
      refine vc_goto dX11_fault_18 ?_
      refine vc_iret dX11_fault_22 rfl (Nat.le_of_ble_eq_true rfl) (Nat.le_of_ble_eq_true rfl) ?_
      exact ⟨_, rfl, rfl, by omega⟩
  · refine vc_aload_n dX11_fault_4 rfl ?_
    refine vc_getI dX11_fault_5 flX11_107 (s_0 hB0.1.1) rfl ?_
    refine vc_iret dX11_fault_8 rfl (Nat.le_of_ble_eq_true rfl) (Nat.le_of_ble_eq_true rfl) ?_
    exact ⟨_, rfl, rfl, by omega⟩

set_option maxRecDepth 4000 in
theorem sfX12_faultF {l : Launch} {M : Mem} (hB : Box M)  (w : Int)  : Call l mdX12_fault [aR 54, aI w] M (fun q N => ∃ r : Int, q = some (aI r) ∧ M = N ∧ ((w = 0 ∧ r = mI M 54 7) ∨ (w = 1 ∧ r = mI M 54 8) ∨ (w ≠ 0 ∧ w ≠ 1 ∧ r = -1))) := by
  have hB0 : BF fQ M M := BF.start hB
  refine Call.of [some (aR 54), some (aI w)] rfl (Nat.le_of_ble_eq_true rfl) rfl ?_
  refine vc_ok (fun hoM hoS hoL => ?_)
  have hr1 : -2147483648 ≤ w ∧ w < 2147483648 := hoL 1 _ rfl
  refine vc_iload_n dX12_fault_0 rfl ?_
  refine vc_if_ne dX12_fault_1 (fun h1 => ?_) (fun h1 => ?_)
  · refine vc_iload_n dX12_fault_11 rfl ?_
    refine vc_iconst dX12_fault_12 rfl ?_
    refine vc_icmp_ne dX12_fault_13 (fun h2 => ?_) (fun h2 => ?_)
    · refine vc_iconst dX12_fault_23 rfl ?_
      refine vc_iret dX12_fault_24 rfl (Nat.le_of_ble_eq_true rfl) (Nat.le_of_ble_eq_true rfl) ?_
      exact ⟨_, rfl, rfl, by omega⟩
    · refine vc_aload_n dX12_fault_16 rfl ?_
      refine vc_getI dX12_fault_17 flX12_29 (s_54 hB0.1.1) rfl ?_
      refine vc_goto dX12_fault_20 ?_
      refine vc_iret dX12_fault_24 rfl (Nat.le_of_ble_eq_true rfl) (Nat.le_of_ble_eq_true rfl) ?_
      exact ⟨_, rfl, rfl, by omega⟩
  · refine vc_aload_n dX12_fault_4 rfl ?_
    refine vc_getI dX12_fault_5 flX12_25 (s_54 hB0.1.1) rfl ?_
    refine vc_goto dX12_fault_8 ?_
    refine vc_iret dX12_fault_24 rfl (Nat.le_of_ble_eq_true rfl) (Nat.le_of_ble_eq_true rfl) ?_
    exact ⟨_, rfl, rfl, by omega⟩

