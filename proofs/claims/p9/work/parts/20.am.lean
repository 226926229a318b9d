/-! THE ABSTRACT MACHINE: values are whole numbers (Int) or cells by their number; memory is shapes and three tables. -/
abbrev AV : Type := Int ⊕ (Int ⊕ Option Nat)
abbrev aI (x : Int) : AV := .inl x
abbrev aL (x : Int) : AV := .inr (.inl x)
abbrev aR (k : Nat) : AV := .inr (.inr (some k))
abbrev aN : AV := .inr (.inr none)
abbrev Sh : Type := Nat ⊕ (Nat × Nat)
abbrev Mem : Type := List Sh × (Nat → Nat → Int) × (Nat → Nat → Int) × (Nat → Nat → Option Nat)
def inI (x : Int) : Prop := -2147483648 ≤ x ∧ x < 2147483648
def inL (x : Int) : Prop := -9223372036854775808 ≤ x ∧ x < 9223372036854775808
def wI (x : Int) : Int := x.bmod 4294967296
def wL (x : Int) : Int := x.bmod 18446744073709551616
def mI (M : Mem) (k j : Nat) : Int := M.2.1 k j
def mJ (M : Mem) (k j : Nat) : Int := M.2.2.1 k j
def mR (M : Mem) (k j : Nat) : Option Nat := M.2.2.2 k j
def up2 {α : Type} (f : Nat → Nat → α) (k j : Nat) (v : α) : Nat → Nat → α := fun a b => if a = k ∧ b = j then v else f a b
def sI (M : Mem) (k j : Nat) (v : Int) : Mem := (M.1, up2 M.2.1 k j v, M.2.2)
def sJ (M : Mem) (k j : Nat) (v : Int) : Mem := (M.1, M.2.1, up2 M.2.2.1 k j v, M.2.2.2)
def sR (M : Mem) (k j : Nat) (v : Option Nat) : Mem := (M.1, M.2.1, M.2.2.1, up2 M.2.2.2 k j v)
theorem inI_wI (x : Int) : inI (wI x) := by
  unfold inI wI
  have h1 := Int.le_bmod (x := x) (m := 4294967296) (by decide)
  have h2 := Int.bmod_lt (x := x) (m := 4294967296) (by decide)
  omega
theorem inL_wL (x : Int) : inL (wL x) := by
  unfold inL wL
  have h1 := Int.le_bmod (x := x) (m := 18446744073709551616) (by decide)
  have h2 := Int.bmod_lt (x := x) (m := 18446744073709551616) (by decide)
  omega
theorem wI_id {x : Int} (h1 : -2147483648 ≤ x) (h2 : x < 2147483648) : wI x = x := by
  unfold wI
  exact Int.bmod_eq_of_le_mul_two (by omega) (by omega)
theorem wL_id {x : Int} (h1 : -9223372036854775808 ≤ x) (h2 : x < 9223372036854775808) : wL x = x := by
  unfold wL
  exact Int.bmod_eq_of_le_mul_two (by omega) (by omega)
theorem oI (x : Int) : (Int32.ofInt x).toInt = wI x := Int32.toInt_ofInt
theorem oL (x : Int) : (Int64.ofInt x).toInt = wL x := Int64.toInt_ofInt
theorem oI_id {x : Int} (h : inI x) : (Int32.ofInt x).toInt = x := (oI x).trans (wI_id h.1 h.2)
theorem oL_id {x : Int} (h : inL x) : (Int64.ofInt x).toInt = x := (oL x).trans (wL_id h.1 h.2)
theorem oI_to (x : Int32) : Int32.ofInt x.toInt = x := Int32.ofInt_toInt x
theorem oL_to (x : Int64) : Int64.ofInt x.toInt = x := Int64.ofInt_toInt x
theorem oI_w (x : Int) : Int32.ofInt (wI x) = Int32.ofInt x := by rw [← oI, oI_to]
theorem oL_w (x : Int) : Int64.ofInt (wL x) = Int64.ofInt x := by rw [← oL, oL_to]
theorem inI_to (x : Int32) : inI x.toInt := ⟨x.le_toInt, x.toInt_lt⟩
theorem inL_to (x : Int64) : inL x.toInt := ⟨x.le_toInt, x.toInt_lt⟩
theorem oI_add (x y : Int) : Int32.ofInt x + Int32.ofInt y = Int32.ofInt (wI (x + y)) := by rw [oI_w, Int32.ofInt_add]
theorem oI_sub (x y : Int) : Int32.ofInt x - Int32.ofInt y = Int32.ofInt (wI (x - y)) := by rw [oI_w, Int32.ofInt_sub]
theorem oI_mul (x y : Int) : Int32.ofInt x * Int32.ofInt y = Int32.ofInt (wI (x * y)) := by rw [oI_w, Int32.ofInt_mul]
theorem oI_neg (x : Int) : - Int32.ofInt x = Int32.ofInt (wI (-x)) := by rw [oI_w, Int32.ofInt_neg]
theorem oL_add (x y : Int) : Int64.ofInt x + Int64.ofInt y = Int64.ofInt (wL (x + y)) := by rw [oL_w, Int64.ofInt_add]
theorem oL_sub (x y : Int) : Int64.ofInt x - Int64.ofInt y = Int64.ofInt (wL (x - y)) := by rw [oL_w, Int64.ofInt_sub]
theorem oL_mul (x y : Int) : Int64.ofInt x * Int64.ofInt y = Int64.ofInt (wL (x * y)) := by rw [oL_w, Int64.ofInt_mul]
theorem oL_neg (x : Int) : - Int64.ofInt x = Int64.ofInt (wL (-x)) := by rw [oL_w, Int64.ofInt_neg]
theorem oI_eq {x y : Int} (hx : inI x) (hy : inI y) : Int32.ofInt x = Int32.ofInt y ↔ x = y := by
  rw [← Int32.toInt_inj, oI_id hx, oI_id hy]
theorem oI_lt {x y : Int} (hx : inI x) (hy : inI y) : Int32.ofInt x < Int32.ofInt y ↔ x < y := by
  rw [Int32.lt_iff_toInt_lt, oI_id hx, oI_id hy]
theorem oI_le {x y : Int} (hx : inI x) (hy : inI y) : Int32.ofInt x ≤ Int32.ofInt y ↔ x ≤ y := by
  rw [Int32.le_iff_toInt_le, oI_id hx, oI_id hy]
theorem oL_eq {x y : Int} (hx : inL x) (hy : inL y) : Int64.ofInt x = Int64.ofInt y ↔ x = y := by
  rw [← Int64.toInt_inj, oL_id hx, oL_id hy]
theorem oL_lt {x y : Int} (hx : inL x) (hy : inL y) : Int64.ofInt x < Int64.ofInt y ↔ x < y := by
  rw [Int64.lt_iff_toInt_lt, oL_id hx, oL_id hy]
theorem oI_0 : (0 : Int32) = Int32.ofInt 0 := rfl
theorem inI_0 : inI 0 := ⟨by decide, by decide⟩
def dvI (x y : Int) : Int := wI (x.tdiv y)
def rmI (x y : Int) : Int := x.tmod y
def dvL (x y : Int) : Int := wL (x.tdiv y)
def rmL (x y : Int) : Int := x.tmod y
theorem oI_div {x y : Int} (hx : inI x) (hy : inI y) : Int32.ofInt x / Int32.ofInt y = Int32.ofInt (dvI x y) := by
  apply Int32.toInt_inj.mp
  show _ = (Int32.ofInt (wI _)).toInt
  rw [Int32.toInt_div, oI_id hx, oI_id hy, oI_id (inI_wI _)]
  rfl
theorem oI_rem {x y : Int} (hx : inI x) (hy : inI y) : Int32.ofInt x - Int32.ofInt x / Int32.ofInt y * Int32.ofInt y = Int32.ofInt (rmI x y) := by
  rw [oI_div hx hy]
  unfold dvI rmI
  rw [oI_w, ← Int32.ofInt_mul, ← Int32.ofInt_sub, Int.tmod_def, Int.mul_comm]
theorem inI_rm {x y : Int} (hx : inI x) (hy : ¬ y = 0) : inI (rmI x y) := by
  unfold rmI
  unfold inI at *
  have h1 := Int.natAbs_tmod x y
  have h2 : x.natAbs % y.natAbs ≤ x.natAbs := Nat.mod_le _ _
  have h3 : 0 ≤ x → 0 ≤ x.tmod y := fun h => Int.tmod_nonneg y h
  have h4 : x ≤ 0 → x.tmod y ≤ 0 := fun h => by
    have := Int.tmod_nonneg y (a := -x) (by omega)
    rw [Int.neg_tmod] at this
    omega
  omega
theorem oL_div {x y : Int} (hx : inL x) (hy : inL y) : Int64.ofInt x / Int64.ofInt y = Int64.ofInt (dvL x y) := by
  apply Int64.toInt_inj.mp
  show _ = (Int64.ofInt (wL _)).toInt
  rw [Int64.toInt_div, oL_id hx, oL_id hy, oL_id (inL_wL _)]
  rfl
theorem oL_rem {x y : Int} (hx : inL x) (hy : inL y) : Int64.ofInt x - Int64.ofInt x / Int64.ofInt y * Int64.ofInt y = Int64.ofInt (rmL x y) := by
  rw [oL_div hx hy]
  unfold dvL rmL
  rw [oL_w, ← Int64.ofInt_mul, ← Int64.ofInt_sub, Int.tmod_def, Int.mul_comm]
theorem inL_rm {x y : Int} (hx : inL x) (hy : ¬ y = 0) : inL (rmL x y) := by
  unfold rmL
  unfold inL at *
  have h1 := Int.natAbs_tmod x y
  have h2 : x.natAbs % y.natAbs ≤ x.natAbs := Nat.mod_le _ _
  have h3 : 0 ≤ x → 0 ≤ x.tmod y := fun h => Int.tmod_nonneg y h
  have h4 : x ≤ 0 → x.tmod y ≤ 0 := fun h => by
    have := Int.tmod_nonneg y (a := -x) (by omega)
    rw [Int.neg_tmod] at this
    omega
  omega
def andI (x y : Int) : Int := (Int32.ofInt x &&& Int32.ofInt y).toInt
def orI (x y : Int) : Int := (Int32.ofInt x ||| Int32.ofInt y).toInt
def xorI (x y : Int) : Int := (Int32.ofInt x ^^^ Int32.ofInt y).toInt
def shlI (x y : Int) : Int := (Int32.ofInt x <<< (Int32.ofInt y &&& 31)).toInt
def shrI (x y : Int) : Int := (Int32.ofInt x >>> (Int32.ofInt y &&& 31)).toInt
def ushrI (x y : Int) : Int := ((Int32.ofInt x).toUInt32 >>> ((Int32.ofInt y).toUInt32 &&& Int32.toUInt32 31)).toInt32.toInt
def andL (x y : Int) : Int := (Int64.ofInt x &&& Int64.ofInt y).toInt
def orL (x y : Int) : Int := (Int64.ofInt x ||| Int64.ofInt y).toInt
def shlL (x y : Int) : Int := (Int64.ofInt x <<< ((Int32.ofInt y).toInt64 &&& 63)).toInt
def shrL (x y : Int) : Int := (Int64.ofInt x >>> ((Int32.ofInt y).toInt64 &&& 63)).toInt
def cmpL (x y : Int) : Int := if y < x then 1 else if x = y then 0 else -1
