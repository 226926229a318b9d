/-! THE WAYS: what each of the eight weighs and where it leads -/
def sm (f : Nat → Int) : Nat → Int
  | 0 => 0
  | n + 1 => sm f n + f n
theorem sm_z {f : Nat → Int} {n : Nat} (h : f n = 0) : sm f (n + 1) = sm f n := by
  show sm f n + f n = sm f n
  rw [h, Int.add_zero]
theorem sm_s {f : Nat → Int} {n : Nat} {x : Int} (h : f n = x) : sm f (n + 1) = sm f n + x := by
  show sm f n + f n = sm f n + x
  rw [h]
theorem sm_co {f g : Nat → Int} : ∀ n : Nat, (∀ i : Nat, i < n → f i = g i) → sm f n = sm g n
  | 0, _ => rfl
  | n + 1, h => by
    show sm f n + f n = sm g n + g n
    rw [sm_co n (fun i hi => h i (Nat.lt_succ_of_lt hi)), h n (Nat.lt_succ_self n)]
theorem sm_b {f : Nat → Int} {B : Int} : ∀ n : Nat, (∀ i : Nat, i < n → 0 ≤ f i ∧ f i ≤ 1000) → 0 ≤ sm f n ∧ sm f n ≤ 1000 * n
  | 0, _ => ⟨Int.le_refl _, by show (0 : Int) ≤ 1000 * 0; decide⟩
  | n + 1, h => by
    have a := sm_b (B := B) n (fun i hi => h i (Nat.lt_succ_of_lt hi))
    have b := h n (Nat.lt_succ_self n)
    show 0 ≤ sm f n + f n ∧ sm f n + f n ≤ 1000 * ((n + 1 : Nat) : Int)
    omega
def fac (x b : Int) : Int := if b = 0 then 10 - x else x
theorem fac_b {x : Int} (h : 0 ≤ x ∧ x ≤ 10) (b : Int) : 0 ≤ fac x b ∧ fac x b ≤ 10 := by
  unfold fac
  split <;> omega
theorem mlB {a b m n : Int} (h : 0 ≤ a ∧ a ≤ m) (g : 0 ≤ b ∧ b ≤ n) : 0 ≤ a * b ∧ a * b ≤ m * n := ⟨Int.mul_nonneg h.1 g.1, Int.mul_le_mul h.2 g.2 g.1 (Int.le_trans h.1 h.2)⟩
theorem w3 {a b c : Int} (ha : 0 ≤ a ∧ a ≤ 10) (hb : 0 ≤ b ∧ b ≤ 10) (hc : 0 ≤ c ∧ c ≤ 10) : wI (wI (a * b) * c) = a * b * c ∧ 0 ≤ a * b * c ∧ a * b * c ≤ 1000 := by
  have p := mlB ha hb
  have q := mlB p hc
  rw [wI_id (x := a * b) (by omega) (by omega), wI_id (by omega) (by omega)]
  omega
noncomputable def wtS (S : Sw) (t w : Int) : Int := fac (slS S t 0) (w % 2) * fac (slS S t 1) (w / 2 % 2) * fac (slS S t 2) (w / 4 % 2)
noncomputable def enS (S : Sw) (t w : Int) : Int := if wtS S t w = 0 then -1 else leS S t w (-1)
/-- how often, all told: the ways to a corner (-1: to any) that have these slips -/
noncomputable def wcF (S : Sw) (t c s : Int) (w : Nat) : Int := @ite _ (leS S t w (-1) ≠ -1 ∧ (c = -1 ∨ leS S t w (-1) = c) ∧ andI w s = s) (Classical.propDecidable _) (wtS S t w) 0
noncomputable def wcS (S : Sw) (t c s : Int) : Int := sm (wcF S t c s) 8
/-- a telling's laws stay within ten -/
def slOk (S : Sw) (t : Int) : Prop := ∀ k : Int, 0 ≤ k → k ≤ 2 → 0 ≤ slS S t k ∧ slS S t k ≤ 10
theorem slOk.of {S : Sw} {t : Int} (h : nmT S) (t0 : 0 ≤ S 6 (9 * t).toNat) (t1 : S 6 (9 * t).toNat < S 1 8) : slOk S t := fun k k0 k2 => by
  unfold slS
  by_cases hr : ruS S k
  · rw [lwS_y hr]
    exact clS_b (by decide) _
  · rw [lwS_n hr]
    have z := h.2 (S 6 (9 * t).toNat).toNat (by omega) (1 + k).toNat (by omega) (by omega)
    rw [show 4 * (S 6 (9 * t).toNat).toNat + (1 + k).toNat = (4 * S 6 (9 * t).toNat + (1 + k)).toNat by omega] at z
    exact z
theorem wtS_b {S : Sw} {t : Int} (h : slOk S t) (w : Int) : 0 ≤ wtS S t w ∧ wtS S t w ≤ 1000 := (w3 (fac_b (h 0 (by decide) (by decide)) _) (fac_b (h 1 (by decide) (by decide)) _) (fac_b (h 2 (by decide) (by decide)) _)).2
theorem wcF_b {S : Sw} {t : Int} (h : slOk S t) (c s : Int) (w : Nat) : 0 ≤ wcF S t c s w ∧ wcF S t c s w ≤ 1000 := by
  unfold wcF
  split
  · exact wtS_b h w
  · omega
theorem wcS_b {S : Sw} {t : Int} (h : slOk S t) (c s : Int) : 0 ≤ wcS S t c s ∧ wcS S t c s ≤ 8000 := by
  have z := sm_b (B := 0) 8 (fun i _ => wcF_b h c s i)
  unfold wcS
  omega
/-- what the class's lists say of a telling; what the reference's say -/
def WyC (S : Sw) (t : Int) (f36 f37 : Nat → Int) : Prop := ∀ w : Nat, w < 8 → f36 w = wtS S t w ∧ f37 w = enS S t w
def WyR (S : Sw) (t : Int) (f64 f65 : Nat → Int) : Prop := ∀ w : Nat, w < 8 → f65 w = wtS S t w ∧ f64 w = leS S t w (-1)
noncomputable def cwF (f36 f37 : Nat → Int) (c s : Int) (w : Nat) : Int := @ite _ (f37 w ≠ -1 ∧ (c = -1 ∨ f37 w = c) ∧ andI w s = s) (Classical.propDecidable _) (f36 w) 0
noncomputable def rwF (f64 f65 : Nat → Int) (c : Int) (w : Nat) : Int := @ite _ (f64 w ≠ -1 ∧ (c = -1 ∨ f64 w = c)) (Classical.propDecidable _) (f65 w) 0
theorem WyC.sum {S : Sw} {t : Int} {f36 f37 : Nat → Int} (h : WyC S t f36 f37) (c s : Int) : sm (cwF f36 f37 c s) 8 = wcS S t c s := sm_co 8 (fun w hw => by
  obtain ⟨h1, h2⟩ := h w hw
  unfold cwF wcF
  rw [h1, h2]
  unfold enS
  by_cases z : wtS S t w = 0
  · rw [if_pos z, z]
    split <;> split <;> rfl
  · rw [if_neg z])
theorem and0 : ∀ w : Nat, w < 8 → andI w 0 = 0 := by decide +kernel
theorem WyR.sum {S : Sw} {t : Int} {f64 f65 : Nat → Int} (h : WyR S t f64 f65) (c : Int) : sm (rwF f64 f65 c) 8 = wcS S t c 0 := sm_co 8 (fun w hw => by
  obtain ⟨h1, h2⟩ := h w hw
  unfold rwF wcF
  rw [h1, h2]
  have z := and0 w hw
  by_cases q : leS S t w (-1) ≠ -1 ∧ (c = -1 ∨ leS S t w (-1) = c)
  · rw [if_pos q, if_pos ⟨q.1, q.2, z⟩]
  · rw [if_neg q, if_neg (fun e => q ⟨e.1, e.2.1⟩)])
def LikS (S : Sw) (t c r : Int) : Prop := ((0 ≤ t ∧ t < S 1 9 ∧ (c = -1 ∨ (0 ≤ c ∧ c < S 1 6))) ∧ r = wcS S t c 0) ∨ (¬ (0 ≤ t ∧ t < S 1 9 ∧ (c = -1 ∨ (0 ≤ c ∧ c < S 1 6))) ∧ r = -1)
theorem likely_one {S : Sw} {t c r s : Int} (h : LikS S t c r) (g : LikS S t c s) : r = s := by
  rcases h with ⟨a, h⟩ | ⟨a, h⟩ <;> rcases g with ⟨b, g⟩ | ⟨b, g⟩
  · rw [h, g]
  · exact absurd a b
  · exact absurd b a
  · rw [h, g]
/-- the reference's weights while they are made -/
noncomputable def pf (S : Sw) (t : Int) (w : Int) : Nat → Int
  | 0 => 1
  | k + 1 => pf S t w k * fac (slS S t k) (shrI w k % 2)
theorem pf_b {S : Sw} {t : Int} (h : slOk S t) (w : Int) {k : Nat} (hk : k ≤ 2) : 0 ≤ pf S t w k ∧ pf S t w k ≤ 100 := by
  have a0 : pf S t w 0 = 1 := rfl
  have b0 := fac_b (h 0 (by decide) (by decide)) (shrI w ((0 : Nat) : Int) % 2)
  have b1 := fac_b (h 1 (by decide) (by decide)) (shrI w ((1 : Nat) : Int) % 2)
  have a1 : pf S t w 1 = 1 * fac (slS S t 0) (shrI w ((0 : Nat) : Int) % 2) := rfl
  have a2 : pf S t w 2 = 1 * fac (slS S t 0) (shrI w ((0 : Nat) : Int) % 2) * fac (slS S t 1) (shrI w ((1 : Nat) : Int) % 2) := rfl
  rw [Int.one_mul] at a1 a2
  have q := mlB b0 b1
  rcases (by omega : k = 0 ∨ k = 1 ∨ k = 2) with e | e | e <;> rw [e]
  · rw [a0]; decide
  · rw [a1]; omega
  · rw [a2]; omega
theorem sh_k {w : Int} (h0 : 0 ≤ w) (h7 : w ≤ 7) : shrI w ((0 : Nat) : Int) % 2 = w % 2 ∧ shrI w ((1 : Nat) : Int) % 2 = w / 2 % 2 ∧ shrI w ((2 : Nat) : Int) % 2 = w / 4 % 2 := by
  have hi : inI w := ⟨by omega, by omega⟩
  refine ⟨?_, ?_, ?_⟩
  · rw [shr_m (m := 1) (k := 0) hi (by decide) rfl (by decide)]; omega
  · rw [shr_m (m := 2) (k := 1) hi (by decide) rfl (by decide)]
  · rw [shr_m (m := 4) (k := 2) hi (by decide) rfl (by decide)]
theorem pf_3 {S : Sw} {t w : Int} (h0 : 0 ≤ w) (h7 : w ≤ 7) : pf S t w 3 = wtS S t w := by
  obtain ⟨a, b, c⟩ := sh_k h0 h7
  show 1 * fac (slS S t 0) (shrI w ((0 : Nat) : Int) % 2) * fac (slS S t 1) (shrI w ((1 : Nat) : Int) % 2) * fac (slS S t 2) (shrI w ((2 : Nat) : Int) % 2) = _
  rw [a, b, c, Int.one_mul]
  rfl
theorem pf_s {S : Sw} {t : Int} (h : slOk S t) (w : Int) {k : Nat} (hk : k ≤ 2) {x : Int} (hx : x = slS S t k) : wI (pf S t w k * wI (10 - x)) = pf S t w k * (10 - x) ∧ wI (pf S t w k * x) = pf S t w k * x := by
  have p := pf_b h w hk
  have q : 0 ≤ x ∧ x ≤ 10 := by rw [hx]; exact h k (by omega) (by omega)
  have a := mlB p q
  have b := mlB p (show 0 ≤ 10 - x ∧ 10 - x ≤ 10 by omega)
  rw [wI_id (x := 10 - x) (by omega) (by omega), wI_id (by omega) (by omega), wI_id (by omega) (by omega)]
  exact ⟨rfl, rfl⟩
