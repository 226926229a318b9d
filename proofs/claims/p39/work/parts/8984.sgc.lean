/-! SIGNS: what the class holds -/
def CsS (S : Sw) (F f g : Nat → Int) (l : Int) : Prop := (∀ u : Nat, (u : Int) < S 1 6 → f u = F u) ∧ (∀ u : Nat, (u : Int) < S 1 6 → 1 ≤ F u → g u = 4 * ahS S u (shF S u) + shF S u) ∧ ∃ L : Nat, l = (L : Int) ∧ L < 65536 ∧ ∀ c : Nat, L.testBit c = true ↔ ((c : Int) < S 1 6 ∧ F c ≠ -1)
theorem CsS.z {S : Sw} (h : sgH S) {f g : Nat → Int} {l : Int} (hf : ∀ j : Nat, j < 16 → f j = if (j : Int) = S 1 7 then 0 else -1) (hl : l = shlI 1 (S 1 7)) : CsS S (riG S 0) f g l := by
  obtain ⟨h1, h2, h3, h4, h5⟩ := h
  have er : ∀ u : Nat, riG S 0 u = if (u : Int) = S 1 7 then 0 else -1 := fun _ => rfl
  refine ⟨fun u hu => by rw [er]; exact hf u (by omega), fun u hu q => ?_, 2 ^ (S 1 7).toNat, ?_, ?_, fun c => ?_⟩
  · rw [er] at q
    exfalso
    split at q <;> omega
  · have z := shl_16 (S 1 7).toNat (by omega)
    rw [show (((S 1 7).toNat : Nat) : Int) = S 1 7 by omega] at z
    rw [hl, z]
  · exact (Nat.pow_lt_pow_right (by decide) (by omega) : 2 ^ (S 1 7).toNat < 2 ^ 16)
  · rw [Nat.testBit_two_pow, decide_eq_true_eq, er]
    by_cases q : (c : Int) = S 1 7
    · rw [if_pos q]
      constructor
      · intro _
        exact ⟨by omega, by decide⟩
      · intro _
        omega
    · rw [if_neg q]
      constructor
      · intro e
        exfalso
        omega
      · intro e
        exact absurd rfl e.2
theorem CsS.co {S : Sw} {F G f g : Nat → Int} {l : Int} (h : CsS S F f g l) (e : ∀ u : Nat, (u : Int) < S 1 6 → G u = F u) : CsS S G f g l := by
  obtain ⟨h1, h2, L, h3, h4, h5⟩ := h
  refine ⟨fun u hu => by rw [e u hu]; exact h1 u hu, fun u hu q => h2 u hu (by rw [← e u hu]; exact q), L, h3, h4, fun c => ?_⟩
  rw [h5 c]
  constructor
  · intro z
    exact ⟨z.1, by rw [e c z.1]; exact z.2⟩
  · intro z
    exact ⟨z.1, by rw [← e c z.1]; exact z.2⟩
theorem CsS.put {S : Sw} (hs : sgH S) {F G f g f' g' : Nat → Int} {l l' v : Int} {c : Nat} (h : CsS S F f g l) (hc : (c : Int) < S 1 6) (v0 : v ≠ -1) (eG : ∀ u : Nat, u ≠ c → G u = F u) (gc : G c = v) (ef : ∀ u : Nat, u ≠ c → f' u = f u) (fc : f' c = v) (eg : ∀ u : Nat, u ≠ c → g' u = g u) (hg : g' c = 4 * ahS S c (shF S c) + shF S c) (hl : l' = orI l (shlI 1 (c : Int))) : CsS S G f' g' l' := by
  obtain ⟨h1, h2, L, h3, h4, h5⟩ := h
  have h16 := hs.2.2.1
  have o := lk_or h4 (show c < 16 by omega)
  refine ⟨fun u hu => ?_, fun u hu q => ?_, L ||| 2 ^ c, ?_, o.2, fun e => ?_⟩
  · by_cases w : u = c
    · rw [w, fc, gc]
    · rw [ef u w, eG u w]
      exact h1 u hu
  · by_cases w : u = c
    · rw [w]
      exact hg
    · rw [eg u w]
      exact h2 u hu (by rw [← eG u w]; exact q)
  · rw [hl, h3]
    exact o.1
  · rw [Nat.testBit_or, Nat.testBit_two_pow]
    by_cases w : e = c
    · rw [w, gc, decide_eq_true rfl, Bool.or_true]
      exact ⟨fun _ => ⟨hc, v0⟩, fun _ => rfl⟩
    · rw [eG e w, decide_eq_false (fun z => w z.symm), Bool.or_false]
      exact h5 e
/-- the look around a corner at a ring -/
theorem cs_tow {S : Sw} (hs : sgH S) {f : Nat → Int} {r c : Nat} {x : Int} (r15 : r < 15) (hf : ∀ u : Nat, (u : Int) < S 1 6 → f u = miG S r c u) (hx : loP (sgT S f (r : Int) c) x) (h : riG S r c = -1) : (x = -1 ∧ riG S (r + 1) c = -1) ∨ (0 ≤ x ∧ x ≤ 3 ∧ riG S (r + 1) c = (r : Int) + 1 ∧ x = shF S c ∧ 0 ≤ ahS S c x ∧ ahS S c x < S 1 6) := by
  have e : ∀ d : Nat, d < 4 → (sgT S f (r : Int) c d ↔ sgT S (riG S r) (r : Int) c d) := fun d _ => by
    unfold sgT
    constructor
    · intro z
      have a := sg_ah hs z.1
      exact ⟨z.1, mi_r.mp (by rw [← hf _ (by omega)]; exact z.2)⟩
    · intro z
      have a := sg_ah hs z.1
      exact ⟨z.1, by rw [hf _ (by omega)]; exact mi_r.mpr z.2⟩
  have hy := hx.co e
  have b := hy.b
  rcases hy with ⟨a1, a2⟩ | ⟨d, d4, a1, a2, a3⟩
  · exact Or.inl ⟨a1, ri_no h a2⟩
  · have ok := ri_ok h r15 d4 a2
    have y : loP (okD S c) x := Or.inr ⟨d, d4, a1, (ok d).mp a2, fun e he z => a3 e he ((ok e).mpr z)⟩
    have a := sg_ah hs a2.1
    rw [← a1] at a
    exact Or.inr ⟨by omega, by omega, ri_y ⟨h, d, d4, a2⟩, y.f, a.1, a.2⟩
def LkS (S : Sw) (l : Int) : Prop := ∃ L : Nat, l = (L : Int) ∧ L < 65536 ∧ ∀ c : Nat, L.testBit c = true ↔ ((c : Int) < S 1 6 ∧ dG S c ≠ -1)
def ShT (S : Sw) (g : Nat → Int) : Prop := ∀ u : Nat, (u : Int) < S 1 6 → 1 ≤ dG S u → g u = 4 * ahS S u (shF S u) + shF S u
def OnT (S : Sw) (h : Nat → Int) : Prop := ∀ x : Nat, (x : Int) < 4 * S 1 6 → h x = ((goX S x (onS S ((x / 4 : Nat) : Int) ((x % 4 : Nat) : Int)) : Nat) : Int)
def GoT (S : Sw) (t : Nat) (j : Int) : Prop := ∀ u : Nat, u < 64 → btL j u = true → cmS S t u
theorem GoT.z {S : Sw} {t : Nat} : GoT S t 0 := fun u _ h => by
  rw [bt_0] at h
  exact absurd h (by decide)
theorem LkS.bit {S : Sw} {l v : Int} (h : LkS S l) (v0 : 0 ≤ v) (v1 : v < 16) (v2 : v < S 1 6) : shrI l v % 2 = 0 ↔ dG S v.toNat = -1 := by
  obtain ⟨L, h1, h2, h3⟩ := h
  have z := shr_tb h2 (show v.toNat < 16 by omega)
  rw [show ((v.toNat : Nat) : Int) = v by omega, ← h1, h3] at z
  have y : ((v.toNat : Nat) : Int) < S 1 6 := by omega
  have m : shrI l v % 2 = 0 ∨ shrI l v % 2 = 1 := by omega
  by_cases q : dG S v.toNat = -1
  · have n1 : ¬ shrI l v % 2 = 1 := fun w => (z.mp w).2 q
    exact ⟨fun _ => q, fun _ => by omega⟩
  · have n1 := z.mpr ⟨y, q⟩
    exact ⟨fun w => by omega, fun w => absurd w q⟩
theorem LkS.may {S : Sw} (hs : sgH S) {l : Int} (h : LkS S l) : ∃ m : Nat, andI l (xorI (shlI 1 (S 1 7)) (-1)) = (m : Int) ∧ m < 65536 ∧ ∀ c : Nat, m.testBit c = true ↔ ((c : Int) < S 1 6 ∧ 1 ≤ dG S c) := by
  obtain ⟨L, h1, h2, h3⟩ := h
  obtain ⟨_, _, h16, g0, g1⟩ := hs
  have z := shl_16 (S 1 7).toNat (by omega)
  rw [show (((S 1 7).toNat : Nat) : Int) = S 1 7 by omega] at z
  have hp : 2 ^ (S 1 7).toNat < 2 ^ 16 := Nat.pow_lt_pow_right (by decide) (by omega)
  obtain ⟨m, m1, m2, m3⟩ := an_x h2 (show 2 ^ (S 1 7).toNat < 2147483648 by omega)
  refine ⟨m, by rw [h1, z]; exact m1, by omega, fun c => ?_⟩
  rw [m3 c, Bool.and_eq_true, h3 c, Nat.testBit_two_pow]
  have b := d_b S c
  by_cases q : (c : Int) = S 1 7
  · have d0 := d_0.mpr q
    rw [decide_eq_true (show (S 1 7).toNat = c by omega)]
    exact ⟨fun w => absurd w.2 (by decide), fun w => by have y := w.2; omega⟩
  · rw [decide_eq_false (show ¬ (S 1 7).toNat = c by omega)]
    have d0 : dG S c ≠ 0 := fun e => q (d_0.mp e)
    exact ⟨fun w => ⟨w.1.1, by have y := w.1.2; omega⟩, fun w => ⟨⟨w.1, by have y := w.2; omega⟩, rfl⟩⟩
theorem nx_sg {S : Sw} (hs : sgH S) {t x : Nat} (h : t.testBit (x / 4) = true) (hd : 1 ≤ dG S (x / 4)) : ((nxS S t x : Nat) : Int) = 4 * ahS S ((x / 4 : Nat) : Int) (shF S (x / 4)) + shF S (x / 4) := by
  rcases sh_c S (x / 4) with z | z
  · omega
  · have a := sg_ah hs z.2.2.2
    unfold nxS
    rw [dr_y ⟨h, z.1⟩, gx_y (by omega)]
    omega
theorem nx_on {S : Sw} {t x : Nat} (h : ¬ t.testBit (x / 4) = true) : nxS S t x = goX S x (onS S ((x / 4 : Nat) : Int) ((x % 4 : Nat) : Int)) := by
  unfold nxS
  rw [dr_n (fun z => h z.1)]
theorem on_cls {S : Sw} {c f d1 d2 d3 : Int} (f0 : 0 ≤ f) (f3 : f ≤ 3) (h1 : (ahS S c f ≠ -1 ∧ d1 = f) ∨ (ahS S c f = -1 ∧ d1 = (f + 1) % 4)) (h2 : (ahS S c d1 ≠ -1 ∧ d2 = d1) ∨ (ahS S c d1 = -1 ∧ d2 = (f + 3) % 4)) (h3 : (ahS S c d2 ≠ -1 ∧ d3 = d2) ∨ (ahS S c d2 = -1 ∧ d3 = (d2 + 3) % 4)) : (ahS S c d3 = -1 ∧ onS S c f = -1) ∨ (ahS S c d3 ≠ -1 ∧ onS S c f = d3) := by
  rcases h1 with ⟨a1, a2⟩ | ⟨a1, a2⟩
  · subst a2
    rcases h2 with ⟨b1, b2⟩ | ⟨b1, b2⟩
    · subst b2
      rcases h3 with ⟨c1, c2⟩ | ⟨c1, c2⟩
      · subst c2
        exact Or.inr ⟨c1, on_0 c1⟩
      · exact absurd c1 a1
    · exact absurd b1 a1
  · have n0 : ¬ ahS S c f ≠ -1 := fun z => z a1
    subst a2
    rcases h2 with ⟨b1, b2⟩ | ⟨b1, b2⟩
    · subst b2
      rcases h3 with ⟨c1, c2⟩ | ⟨c1, c2⟩
      · subst c2
        exact Or.inr ⟨c1, on_1 n0 c1⟩
      · exact absurd c1 b1
    · have n1 : ¬ ahS S c ((f + 1) % 4) ≠ -1 := fun z => z b1
      subst b2
      rcases h3 with ⟨c1, c2⟩ | ⟨c1, c2⟩
      · subst c2
        exact Or.inr ⟨c1, on_3 n0 n1 c1⟩
      · have n3 : ¬ ahS S c ((f + 3) % 4) ≠ -1 := fun z => z c1
        have e : ((f + 3) % 4 + 3) % 4 = (f + 2) % 4 := by omega
        rw [e] at c2
        subst c2
        by_cases q : ahS S c ((f + 2) % 4) = -1
        · exact Or.inl ⟨q, on_n n0 n1 n3 (fun z => z q)⟩
        · exact Or.inr ⟨q, on_2 n0 n1 n3 q⟩
theorem onx_v {S : Sw} (hs : sgH S) {x : Nat} {d v : Int} {f : Int} (hf : f = ((x % 4 : Nat) : Int)) (h : (ahS S ((x / 4 : Nat) : Int) d = -1 ∧ onS S ((x / 4 : Nat) : Int) f = -1 ∧ v = (x : Int)) ∨ (ahS S ((x / 4 : Nat) : Int) d ≠ -1 ∧ onS S ((x / 4 : Nat) : Int) f = d ∧ 0 ≤ d ∧ v = 4 * ahS S ((x / 4 : Nat) : Int) d + d)) : v = ((goX S x (onS S ((x / 4 : Nat) : Int) ((x % 4 : Nat) : Int)) : Nat) : Int) := by
  rw [← hf]
  rcases h with ⟨h1, h2, h3⟩ | ⟨h1, h2, h3, h4⟩
  · rw [h2, gx_n rfl]
    exact h3
  · have a := sg_ah hs h1
    rw [h2, gx_y (by omega)]
    omega
/-- what has been passed -/
def PsB (S : Sw) (t x k : Nat) (p : Int) : Prop := ∀ u : Nat, u < 64 → (btL p u = true ↔ ∃ j : Nat, j < k ∧ itG S t j x = u)
theorem PsB.z {S : Sw} {t x : Nat} : PsB S t x 0 0 := fun u _ => by
  rw [bt_0]
  exact ⟨fun z => absurd z (by decide), fun ⟨j, hj, _⟩ => absurd hj (Nat.not_lt_zero j)⟩
theorem PsB.s {S : Sw} {t x k : Nat} {p v : Int} (h : PsB S t x k p) (v0 : 0 ≤ v) (v1 : v < 64) (hv : v.toNat = itG S t k x) : PsB S t x (k + 1) (orL p (shlL 1 v)) := fun u hu => by
  rw [bt_or, bt_sl v0 v1 hu, Bool.or_eq_true, h u hu, decide_eq_true_eq]
  constructor
  · intro z
    rcases z with ⟨j, hj, e⟩ | e
    · exact ⟨j, by omega, e⟩
    · exact ⟨k, by omega, by rw [e, hv]⟩
  · rintro ⟨j, hj, e⟩
    by_cases q : j = k
    · right
      rw [← e, q, hv]
    · exact Or.inl ⟨j, by omega, e⟩
theorem GoT.or {S : Sw} {t x k : Nat} {j p : Int} (h : GoT S t j) (g : PsB S t x k p) (c : cmS S t (itG S t k x)) : GoT S t (orL j p) := fun u hu z => by
  rw [bt_or, Bool.or_eq_true] at z
  rcases z with z | z
  · exact h u hu z
  · obtain ⟨i, hi, e⟩ := (g u hu).mp z
    rw [← e]
    exact cm_in c (by omega)
/-- a set that the class takes -/
def gdT (S : Sw) (t : Nat) : Prop := t < 2 ^ (S 1 6).toNat ∧ (∀ c : Nat, t.testBit c = true → 1 ≤ dG S c) ∧ svS S t
/-- what firstThatServes answers -/
def FtS (S : Sw) (k : Nat) (r : Int) : Prop := (r = -1 ∧ ∀ t : Nat, t ∈ gsL k 16 → ¬ gdT S t) ∨ (∃ t : Nat, r = (t : Int) ∧ t ∈ gsL k 16 ∧ gdT S t ∧ ∀ u : Nat, u ∈ gsL k 16 → u < t → ¬ gdT S u)
theorem gdT.en {S : Sw} {t : Nat} (hs : sgH S) (h : gdT S t) : enT S t := by
  refine ⟨h.1, ?_, h.2.2⟩
  cases q : t.testBit (S 1 7).toNat with
  | false => rfl
  | true =>
    have z := h.2.1 _ q
    have g0 := hs.2.2.2.1
    have y := (d_0 (S := S) (u := (S 1 7).toNat)).mpr (by omega)
    omega
theorem tb_lt {t n c : Nat} (h : t < 2 ^ n) (q : t.testBit c = true) : c < n := by
  by_cases w : c < n
  · exact w
  · have z := Nat.testBit_lt_two_pow (Nat.lt_of_lt_of_le h (Nat.pow_le_pow_right (by decide) (by omega : n ≤ c)))
    rw [z] at q
    exact absurd q (by decide)
def FeI (S : Sw) (m : Nat) : Prop := ∀ t : Nat, enT S t → m ≤ pcN t 16
/-- a sign that shows nothing can be left out -/
theorem en_le {S : Sw} (hs : sgH S) {t c : Nat} (h : enT S t) (q : t.testBit c = true) (w : ¬ 1 ≤ dG S c) : ∃ s : Nat, enT S s ∧ pcN s 16 + 1 = pcN t 16 := by
  have h16 := hs.2.2.1
  have lc := tb_lt h.1 q
  have sh : shF S c = -1 := by
    rcases sh_c S c with z | z
    · exact z.1
    · exact absurd z.2.2.1 w
  refine ⟨t ^^^ 2 ^ c, en_x h sh q, ?_⟩
  have z := pc_x q 16
  rw [if_pos (by omega)] at z
  exact z
theorem FeI.gd {S : Sw} (hs : sgH S) {m u : Nat} (h : FeI S m) (e : enT S u) (p : pcN u 16 = m) : gdT S u := by
  refine ⟨e.1, fun c q => ?_, e.2.2⟩
  by_cases w : 1 ≤ dG S c
  · exact w
  · obtain ⟨s, s1, s2⟩ := en_le hs e q w
    have z := h s s1
    omega
theorem en_16 {S : Sw} (hs : sgH S) {u : Nat} (e : enT S u) : u < 2 ^ 16 := Nat.lt_of_lt_of_le e.1 (Nat.pow_le_pow_right (by decide) (by have z := hs.2.2.1; omega))
theorem FeI.s {S : Sw} (hs : sgH S) {m : Nat} (h : FeI S m) (g : ∀ t : Nat, t ∈ gsL m 16 → ¬ gdT S t) : FeI S (m + 1) := fun u e => by
  have z := h u e
  by_cases q : pcN u 16 = m
  · exact absurd (h.gd hs e q) (g u (gs_mem 16 m u (en_16 hs e) q))
  · omega
theorem FeI.z {S : Sw} : FeI S 0 := fun _ _ => Nat.zero_le _
theorem FeI.e {S : Sw} (hs : sgH S) {m : Nat} {l : Int} (h : FeI S m) (k : LkS S l) (q : bcJ l ≤ (m : Int)) : ∀ u : Nat, ¬ enT S u := by
  obtain ⟨L, h1, h2, h3⟩ := k
  rw [h1, bc_pc h2] at q
  have key : ∀ n u : Nat, pcN u 16 = n → enT S u → False := fun n => by
    induction n with
    | zero =>
      intro u p e
      have g := (FeI.z (S := S)).gd hs e p
      have z := h u e
      have hL : L.testBit (S 1 7).toNat = true := (h3 _).mpr ⟨by have a := hs.2.2.2; omega, by rw [d_0.mpr (by have a := hs.2.2.2; omega)]; decide⟩
      have y := pc_sub1 e.2.1 hL 16 (by have a := hs.2.2; omega) (fun c _ w => (h3 c).mpr ⟨by have b := tb_lt e.1 w; omega, by have b := g.2.1 c w; omega⟩)
      omega
    | succ n ih =>
      intro u p e
      by_cases g : ∀ c : Nat, u.testBit c = true → 1 ≤ dG S c
      · have z := h u e
        have hL : L.testBit (S 1 7).toNat = true := (h3 _).mpr ⟨by have a := hs.2.2.2; omega, by rw [d_0.mpr (by have a := hs.2.2.2; omega)]; decide⟩
        have y := pc_sub1 e.2.1 hL 16 (by have a := hs.2.2; omega) (fun c _ w => (h3 c).mpr ⟨by have b := tb_lt e.1 w; omega, by have b := g c w; omega⟩)
        omega
      · have x : ∃ c : Nat, u.testBit c = true ∧ ¬ 1 ≤ dG S c := Classical.byContradiction (fun w => g (fun c a => Classical.byContradiction (fun b => w ⟨c, a, b⟩)))
        obtain ⟨c, c1, c2⟩ := x
        obtain ⟨s, s1, s2⟩ := en_le hs e c1 c2
        exact ih s (by omega) s1
  exact fun u e => key _ u rfl e
/-- what fewest answers -/
def FewS (S : Sw) (r : Int) : Prop := (∃ t : Nat, r = (t : Int) ∧ pcN t 16 ≤ 4 ∧ enT S t ∧ ∀ u : Nat, enT S u → pcN t 16 < pcN u 16 ∨ (pcN t 16 = pcN u 16 ∧ t ≤ u)) ∨ (r = -1 ∧ ∀ u : Nat, enT S u → 4 < pcN u 16)
theorem FeI.r {S : Sw} (hs : sgH S) {m t : Nat} (h : FeI S m) (m4 : m ≤ 4) (ht : t ∈ gsL m 16) (g : gdT S t) (lo : ∀ u : Nat, u ∈ gsL m 16 → u < t → ¬ gdT S u) : FewS S (t : Int) := by
  have p := (gs_lt 16 m t ht).2
  refine Or.inl ⟨t, rfl, by omega, g.en hs, fun u e => ?_⟩
  have z := h u e
  by_cases q : pcN u 16 = m
  · right
    refine ⟨by omega, ?_⟩
    by_cases w : u < t
    · exact absurd (h.gd hs e q) (lo u (gs_mem 16 m u (en_16 hs e) q) w)
    · omega
  · left
    omega
theorem FeI.f {S : Sw} (hs : sgH S) {m : Nat} {r : Int} (h : FeI S m) (g : FtS S m r) (q : r = -1) : FeI S (m + 1) := by
  rcases g with g | ⟨t, h1, _⟩
  · exact h.s hs g.2
  · exfalso
    omega
theorem FeI.v {S : Sw} (hs : sgH S) {m : Nat} {r : Int} (h : FeI S m) (m4 : m ≤ 4) (g : FtS S m r) (q : r ≠ -1) : FewS S r := by
  rcases g with g | ⟨t, h1, h2, h3, h4⟩
  · exact absurd g.1 q
  · rw [h1]
    exact h.r hs m4 h2 h3 h4
theorem FeI.n {S : Sw} {m : Nat} (h : FeI S m) (q : 5 ≤ m ∨ ∀ u : Nat, ¬ enT S u) : FewS S (-1) := by
  refine Or.inr ⟨rfl, fun u e => ?_⟩
  rcases q with q | q
  · have z := h u e
    omega
  · exact absurd e (q u)
theorem shl_n16 : ∀ k : Nat, k ≤ 16 → shlI 1 (k : Int) = ((2 ^ k : Nat) : Int) := by decide +kernel
theorem shl_S {S : Sw} (hs : sgH S) : shlI 1 (S 1 6) = ((2 ^ (S 1 6).toNat : Nat) : Int) ∧ 2 ^ (S 1 6).toNat ≤ 65536 := by
  have h0 := hs.2.1
  have h16 := hs.2.2.1
  have z := shl_n16 (S 1 6).toNat (by omega)
  rw [show (((S 1 6).toNat : Nat) : Int) = S 1 6 by omega] at z
  exact ⟨z, (Nat.pow_le_pow_right (by decide) (by omega) : 2 ^ (S 1 6).toNat ≤ 2 ^ 16)⟩
/-! the reference's walk -/
theorem TA.sg {a : Nat → Int} {S : Sw} (h : TA a S) (g : S 1 7 ≠ -1) : sgH S := by
  have w := h.2.2.2.2.2.2.2
  exact ⟨h.2.2.2.2.1, w.1, w.2.1, by have z := w.2.2.2.2.2.2.1; omega, w.2.2.2.2.2.2.2.1⟩
theorem mI_up {M : Mem} {k j : Nat} {v : Int} : mI (sI M k j v) k = upF (mI M k) j v := by
  funext u
  rw [mI_sI]
  unfold upF
  by_cases q : u = j
  · rw [if_pos q, if_pos ⟨rfl, q⟩]
  · rw [if_neg q, if_neg (fun z => q z.2)]
theorem nx_v {S : Sw} {t : Nat} {c f d : Int} (c0 : 0 ≤ c) (f0 : 0 ≤ f) (f3 : f ≤ 3) (hd : d = drG S t c.toNat f) : (d = -1 → nxS S t (4 * c + f).toNat = (4 * c + f).toNat) ∧ (d ≠ -1 → nxS S t (4 * c + f).toNat = (4 * ahS S c d + d).toNat) := by
  have e1 : (4 * c + f).toNat / 4 = c.toNat := by omega
  have e2 : (((4 * c + f).toNat % 4 : Nat) : Int) = f := by omega
  have e3 : (((4 * c + f).toNat / 4 : Nat) : Int) = c := by omega
  unfold nxS
  rw [e2, e1, ← hd]
  constructor
  · intro q
    rw [gx_n q]
  · intro q
    rw [gx_y q, e3]
theorem FewS.si {S : Sw} {r : Int} (h : S 1 7 ≠ -1) (g : FewS S r) : SigS S r := Or.inr ⟨h, g⟩
theorem few_r {S : Sw} {v n : Int} {t : Nat} (hv : v = (t : Int)) (hn : (pcN t 16 : Int) = n) (n4 : n ≤ 4) (e : enT S t) (g : ∀ u : Nat, enT S u → n ≤ (pcN u 16 : Int)) (h : ∀ u : Nat, enT S u → (pcN u 16 : Int) = n → v ≤ (u : Int)) : FewS S v := by
  refine Or.inl ⟨t, hv, by omega, e, fun u eu => ?_⟩
  have a := g u eu
  have b := h u eu
  by_cases q : (pcN u 16 : Int) = n
  · have z := b q
    omega
  · omega
