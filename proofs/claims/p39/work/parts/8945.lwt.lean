/-! LAWS: the class's code and the reference's, one text -/
theorem LwE.of {C L R : Nat → Int} {k x : Int → Int} {t0 X w p : Int} (hc : LC C k x w p (L (2 * w).toNat) (L (2 * w + 1).toNat)) (hr : LB9 k x R t0 X p) : LwE C L R t0 X w := by
  obtain ⟨c, h1, h2, h3, h4, h5, h6⟩ := hc
  obtain ⟨g1, g2, g3⟩ := hr
  exact ⟨g1, g2, c, Cd.one h1 g3, h2, h3, h4, h5, h6⟩
theorem LwT.of {g : Nat → Int} {n : Int} {C L R : Nat → Int} {t0 i : Int} (hc : LWt g n C L i) (hr : ∀ e : Nat, (e : Int) < i → tk g n (plS (tk g n) (nx g n) (skb g n 0) e) ≤ 105 → LB9 (tk g n) (nx g n) R t0 (t0 + 1 + 11 * e) (nx g n (plS (tk g n) (nx g n) (skb g n 0) e))) (hq : ∀ e : Nat, (e : Int) < i → R (t0 + 1 + 11 * e).toNat = tk g n (plS (tk g n) (nx g n) (skb g n 0) e) - 101) : LwT C L R t0 i := by
  refine ⟨fun e he h0 h4 => ?_, fun w hw hn => hc.2 w hw (fun e he h => hn e he ((hq e he).trans h))⟩
  rw [hq e he] at h0 h4 ⊢
  exact LwE.of (hc.1 e he h0 h4) (hr e he (by omega))
