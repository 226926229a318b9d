/-! THE WAYS: what each of the eight weighs and where it leads -/
def sm (f : Nat → Int) : Nat → Int
  | 0 => 0
  | n + 1 => sm f n + f n
theorem sm_co {f g : Nat → Int} : ∀ n : Nat, (∀ i : Nat, i < n → f i = g i) → sm f n = sm g n
  | 0, _ => rfl
  | n + 1, h => by
    show sm f n + f n = sm g n + g n
    rw [sm_co n (fun i hi => h i (Nat.lt_succ_of_lt hi)), h n (Nat.lt_succ_self n)]
def fac (x b : Int) : Int := if b = 0 then 10 - x else x
theorem mlB {a b m n : Int} (h : 0 ≤ a ∧ a ≤ m) (g : 0 ≤ b ∧ b ≤ n) : 0 ≤ a * b ∧ a * b ≤ m * n := ⟨Int.mul_nonneg h.1 g.1, Int.mul_le_mul h.2 g.2 g.1 (Int.le_trans h.1 h.2)⟩
theorem w3 {a b c : Int} (ha : 0 ≤ a ∧ a ≤ 10) (hb : 0 ≤ b ∧ b ≤ 10) (hc : 0 ≤ c ∧ c ≤ 10) : wI (wI (a * b) * c) = a * b * c ∧ 0 ≤ a * b * c ∧ a * b * c ≤ 1000 := by
  have p := mlB ha hb
  have q := mlB p hc
  rw [wI_id (x := a * b) (by omega) (by omega), wI_id (by omega) (by omega)]
  omega
noncomputable def wtS (S : Sw) (t w : Int) : Int := fac (slS S t 0) (w % 2) * fac (slS S t 1) (w / 2 % 2) * fac (slS S t 2) (w / 4 % 2)
noncomputable def enS (S : Sw) (t w : Int) : Int := if wtS S t w = 0 then -1 else leS S t w (-1)
/-- how often, all told: the ways to a corner (-1: to any) that have these slips -/
noncomputable def wcF (S : Sw) (t c s : Int) (w : Nat) : Int := @ite _ (leS S t w (-1) ≠ -1 ∧ (c = -1 ∨ leS S t w (-1) = c) ∧ andI w s = s) (Classical.propDecidable _) (wtS S t w) 0
noncomputable def wcS (S : Sw) (t c s : Int) : Int := sm (wcF S t c s) 8
/-- a telling's laws stay within ten -/
def slOk (S : Sw) (t : Int) : Prop := ∀ k : Int, 0 ≤ k → k ≤ 2 → 0 ≤ slS S t k ∧ slS S t k ≤ 10
theorem slOk.of {S : Sw} {t : Int} (h : nmT S) (t0 : 0 ≤ S 6 (9 * t).toNat) (t1 : S 6 (9 * t).toNat < S 1 8) : slOk S t := fun k k0 k2 => by
  unfold slS
  by_cases hr : ruS S k
  · rw [lwS_y hr]
    exact clS_b (by decide) _
  · rw [lwS_n hr]
    have z := h.2 (S 6 (9 * t).toNat).toNat (by omega) (1 + k).toNat (by omega) (by omega)
    rw [show 4 * (S 6 (9 * t).toNat).toNat + (1 + k).toNat = (4 * S 6 (9 * t).toNat + (1 + k)).toNat by omega] at z
    exact z
/-- what the class's lists say of a telling; what the reference's say -/
def WyC (S : Sw) (t : Int) (f36 f37 : Nat → Int) : Prop := ∀ w : Nat, w < 8 → f36 w = wtS S t w ∧ f37 w = enS S t w
def WyR (S : Sw) (t : Int) (f64 f65 : Nat → Int) : Prop := ∀ w : Nat, w < 8 → f65 w = wtS S t w ∧ f64 w = leS S t w (-1)
noncomputable def cwF (f36 f37 : Nat → Int) (c s : Int) (w : Nat) : Int := @ite _ (f37 w ≠ -1 ∧ (c = -1 ∨ f37 w = c) ∧ andI w s = s) (Classical.propDecidable _) (f36 w) 0
noncomputable def rwF (f64 f65 : Nat → Int) (c : Int) (w : Nat) : Int := @ite _ (f64 w ≠ -1 ∧ (c = -1 ∨ f64 w = c)) (Classical.propDecidable _) (f65 w) 0
theorem WyC.sum {S : Sw} {t : Int} {f36 f37 : Nat → Int} (h : WyC S t f36 f37) (c s : Int) : sm (cwF f36 f37 c s) 8 = wcS S t c s := sm_co 8 (fun w hw => by
  obtain ⟨h1, h2⟩ := h w hw
  unfold cwF wcF
  rw [h1, h2]
  unfold enS
  by_cases z : wtS S t w = 0
  · rw [if_pos z, z]
    split <;> split <;> rfl
  · rw [if_neg z])
theorem and0 : ∀ w : Nat, w < 8 → andI w 0 = 0 := by decide +kernel
theorem WyR.sum {S : Sw} {t : Int} {f64 f65 : Nat → Int} (h : WyR S t f64 f65) (c : Int) : sm (rwF f64 f65 c) 8 = wcS S t c 0 := sm_co 8 (fun w hw => by
  obtain ⟨h1, h2⟩ := h w hw
  unfold rwF wcF
  rw [h1, h2]
  have z := and0 w hw
  by_cases q : leS S t w (-1) ≠ -1 ∧ (c = -1 ∨ leS S t w (-1) = c)
  · rw [if_pos q, if_pos ⟨q.1, q.2, z⟩]
  · rw [if_neg q, if_neg (fun e => q ⟨e.1, e.2.1⟩)])
def LikS (S : Sw) (t c r : Int) : Prop := ((0 ≤ t ∧ t < S 1 9 ∧ (c = -1 ∨ (0 ≤ c ∧ c < S 1 6))) ∧ r = wcS S t c 0) ∨ (¬ (0 ≤ t ∧ t < S 1 9 ∧ (c = -1 ∨ (0 ≤ c ∧ c < S 1 6))) ∧ r = -1)
/-- the reference's weights while they are made -/
noncomputable def pf (S : Sw) (t : Int) (w : Int) : Nat → Int
  | 0 => 1
  | k + 1 => pf S t w k * fac (slS S t k) (shrI w k % 2)
