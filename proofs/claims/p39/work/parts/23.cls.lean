/-! The classes: their words are among tblG. -/
theorem inG0 : ∀ w ∈ u_ws RX0 TX0 5, w ∈ tblG := by decide +kernel
theorem inG1 : ∀ w ∈ u_ws RX1 TX1 5, w ∈ tblG := by decide +kernel
theorem inG2 : ∀ w ∈ u_ws RX2 TX2 4, w ∈ tblG := by decide +kernel
theorem inG3 : ∀ w ∈ u_ws RX3 TX3 6, w ∈ tblG := by decide +kernel
theorem inG4 : ∀ w ∈ u_ws RX4 TX4 15, w ∈ tblG := by decide +kernel
theorem inG5 : ∀ w ∈ u_ws RX5 TX5 4, w ∈ tblG := by decide +kernel
theorem inG6 : ∀ w ∈ u_ws RX6 TX6 12, w ∈ tblG := by decide +kernel
theorem inG7 : ∀ w ∈ u_ws RX7 TX7 11, w ∈ tblG := by decide +kernel
theorem inG8 : ∀ w ∈ u_ws RX8 TX8 4, w ∈ tblG := by decide +kernel
theorem inG9 : ∀ w ∈ u_ws RX9 TX9 4, w ∈ tblG := by decide +kernel
theorem inG10 : ∀ w ∈ u_ws RX10 TX10 8, w ∈ tblG := by decide +kernel
theorem inG11 : ∀ w ∈ u_ws RX11 TX11 16, w ∈ tblG := by decide +kernel
theorem inG12 : ∀ w ∈ u_ws RX12 TX12 47, w ∈ tblG := by decide +kernel
def clsP (ci : Nat) (q : vw_C) : Prop := (∀ w ∈ u_ws q.1 q.2.1 q.2.2, w ∈ tblG) ∧ (∀ k, k < q.2.2 → parseFieldDescriptor (q.2.1 k).2.2.1 = some (tyC ci k)) ∧ nFC ci = q.2.2 ∧ (∀ a, a < q.2.2 → ∀ b, b < q.2.2 → a ≠ b → (q.2.1 a).2.1 ≠ (q.2.1 b).2.1)
theorem clsOk (ci : Nat) (q : vw_C) (h : vwCl[ci]? = some q) : clsP ci q := by
  match ci, h with
  | 0, h => cases h; exact ⟨inG0, tyX0_ok, rfl, nmX0⟩
  | 1, h => cases h; exact ⟨inG1, tyX1_ok, rfl, nmX1⟩
  | 2, h => cases h; exact ⟨inG2, tyX2_ok, rfl, nmX2⟩
  | 3, h => cases h; exact ⟨inG3, tyX3_ok, rfl, nmX3⟩
  | 4, h => cases h; exact ⟨inG4, tyX4_ok, rfl, nmX4⟩
  | 5, h => cases h; exact ⟨inG5, tyX5_ok, rfl, nmX5⟩
  | 6, h => cases h; exact ⟨inG6, tyX6_ok, rfl, nmX6⟩
  | 7, h => cases h; exact ⟨inG7, tyX7_ok, rfl, nmX7⟩
  | 8, h => cases h; exact ⟨inG8, tyX8_ok, rfl, nmX8⟩
  | 9, h => cases h; exact ⟨inG9, tyX9_ok, rfl, nmX9⟩
  | 10, h => cases h; exact ⟨inG10, tyX10_ok, rfl, nmX10⟩
  | 11, h => cases h; exact ⟨inG11, tyX11_ok, rfl, nmX11⟩
  | 12, h => cases h; exact ⟨inG12, tyX12_ok, rfl, nmX12⟩
  | n + 13, h => simp at h
