/-! WHERE TELLINGS CAN LEAD: a bit a corner -/
def orN (f : Nat → Int) : Nat → Int
  | 0 => 0
  | n + 1 => orI (orN f n) (f n)
noncomputable def bitF (S : Sw) (t : Int) (w : Nat) : Int := if enS S t w = -1 then 0 else shlI 1 (enS S t w)
/-- the corners that a telling can lead to -/
noncomputable def cbS (S : Sw) (t : Int) : Int := orN (bitF S t) 8
/-- the tellings (bits) that can lead to a corner -/
def reF (f : Nat → Int) (c : Int) (u : Nat) : Int := shlI (shrI (f u) c % 2) u
noncomputable def hrS (S : Sw) (c : Int) : Int := orN (reF (fun u => cbS S u) c) (S 1 9).toNat
def HeaS (S : Sw) (c r : Int) : Prop := ((0 ≤ c ∧ c < S 1 6) ∧ r = hrS S c) ∨ (¬ (0 ≤ c ∧ c < S 1 6) ∧ r = -1)
/-- all tellings' corners are listed -/
def LcS (S : Sw) (f : Nat → Int) : Prop := ∀ u : Nat, (u : Int) < S 1 9 → f u = cbS S u
