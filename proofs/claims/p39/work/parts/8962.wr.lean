/-! THE FEWEST TELLERS WHO ARE WRONG: bits counted, sets compared -/
def bc1 (i : Int) : Int := wI (i - andI (ushrI i 1) 1431655765)
def bc2 (i : Int) : Int := wI (andI i 858993459 + andI (ushrI i 2) 858993459)
def bc3 (i : Int) : Int := andI (wI (i + ushrI i 4)) 252645135
def bc4 (i : Int) : Int := wI (i + ushrI i 8)
def bc5 (i : Int) : Int := wI (i + ushrI i 16)
def bcJ (i : Int) : Int := bc5 (bc4 (bc3 (bc2 (bc1 i)))) % 64
/-- the bits of a number below k, counted -/
def bsN (i : Int) : Nat → Int
  | 0 => 0
  | k + 1 => bsN i k + shrI i k % 2
theorem bsN_s {i : Int} {k : Nat} : bsN i (k + 1) = bsN i k + shrI i k % 2 := rfl
/-- a set of tellings of which there are at most m -/
def setS (S : Sw) (s m : Int) : Prop := 0 < s ∧ s < shlI 1 (S 1 9) ∧ bsN s 16 ≤ m
theorem shl_le : ∀ n : Nat, n ≤ 8 → shlI 1 n ≤ 256 ∧ 1 ≤ shlI 1 n := by decide +kernel
theorem setS.b {S : Sw} {s m : Int} (h : setS S s m) (h0 : 0 ≤ S 1 9) (h8 : S 1 9 ≤ 8) : s < 256 := by
  have z := (shl_le (S 1 9).toNat (by omega)).1
  rw [show (((S 1 9).toNat : Nat) : Int) = S 1 9 by omega] at z
  have y := h.2.1
  omega
/-- the first set is less: fewer, or as many and the lesser number -/
def lesB (s t : Int) : Prop := bsN s 16 < bsN t 16 ∨ (bsN s 16 = bsN t 16 ∧ s < t)
/-- the tellings of s that can't lead to c -/
def woF (f : Nat → Int) (s c : Int) (u : Nat) : Int := if shrI s u % 2 = 1 ∧ shrI (f u) c % 2 = 0 then shlI 1 u else 0
noncomputable def woS (S : Sw) (s c : Int) : Int := orN (woF (fun u => cbS S u) s c) (S 1 9).toNat
theorem i32i (x : Int32) : Int32.ofInt x.toInt = x := Int32.ofInt_toInt x
/-- the best set and its corner among the first corners -/
noncomputable def wrB (S : Sw) (s : Int) : Nat → Int × Int
  | 0 => (-1, -1)
  | c + 1 => @ite _ ((wrB S s c).1 = -1 ∨ lesB (woS S s c) (wrB S s c).1) (Classical.propDecidable _) (woS S s c, (c : Int)) (wrB S s c)
def WroS (S : Sw) (s b r : Int) : Prop := (setS S s 8 ∧ r = (if b = 0 then (wrB S s (S 1 6).toNat).1 else (wrB S s (S 1 6).toNat).2)) ∨ (¬ setS S s 8 ∧ r = -1)
