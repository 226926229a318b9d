/-! OUTSIDE THE WORLD (written by wip/whole/gen_ext.py) -/
def wTxt : String := "swaps leaves mixes pace asks corner street lane goal teller telling start walk turn ask follow to facing at of end least most left right on back who here asked turns face told narrow sight way "
def wByt : List Int32 := [115, 119, 97, 112, 115, 32, 108, 101, 97, 118, 101, 115, 32, 109, 105, 120, 101, 115, 32, 112, 97, 99, 101, 32, 97, 115, 107, 115, 32, 99, 111, 114, 110, 101, 114, 32, 115, 116, 114, 101, 101, 116, 32, 108, 97, 110, 101, 32, 103, 111, 97, 108, 32, 116, 101, 108, 108, 101, 114, 32, 116, 101, 108, 108, 105, 110, 103, 32, 115, 116, 97, 114, 116, 32, 119, 97, 108, 107, 32, 116, 117, 114, 110, 32, 97, 115, 107, 32, 102, 111, 108, 108, 111, 119, 32, 116, 111, 32, 102, 97, 99, 105, 110, 103, 32, 97, 116, 32, 111, 102, 32, 101, 110, 100, 32, 108, 101, 97, 115, 116, 32, 109, 111, 115, 116, 32, 108, 101, 102, 116, 32, 114, 105, 103, 104, 116, 32, 111, 110, 32, 98, 97, 99, 107, 32, 119, 104, 111, 32, 104, 101, 114, 101, 32, 97, 115, 107, 101, 100, 32, 116, 117, 114, 110, 115, 32, 102, 97, 99, 101, 32, 116, 111, 108, 100, 32, 110, 97, 114, 114, 111, 119, 32, 115, 105, 103, 104, 116, 32, 119, 97, 121, 32]
def wLen : Nat := 193
def nw0 : Cond := .methodLinkNest RX6 81 yX11_isDirection "SecondLeft"
def nw1 : Cond := .methodLinkNest RX6 84 yX11_isSlip "SecondLeft"
def nw2 : Cond := .methodLinkNest RX9 39 yX11_isDirection "SecondLeft"
def nw3 : Cond := .methodLinkNest RX2 57 yX11_held "SecondLeft"
def nwC : Cond := .castable "[I" "java/lang/Cloneable"
def Ext (A : Nat → Prop) (U : State) (H : Heap) : Prop := (va_Nw nw0 U ∧ va_Nw nw1 U ∧ va_Nw nw2 U ∧ va_Nw nw3 U) ∧ va_AO "SecondLeft$Text" U ∧ (∃ adK adV : Nat → Nat, vk_S 1 [wLen] [wByt] adK adV A U H ∧ vk_R "SecondLeft$Reader" 107 wTxt (adK 0) U) ∧ va_Z "java/lang/String" "COMPACT_STRINGS" "Z" (.int 1) A U H ∧ va_Zq "jdk/internal/util/Preconditions" "SIOOBE_FORMATTER" "Ljava/util/function/BiFunction;" A U H ∧ va_Nw nwC U
theorem Ext.same {A : Nat → Prop} {u U : State} {H : Heap} (hv : u.vm = U.vm) (h : Ext A u H) : Ext A U H := by
  obtain ⟨⟨n0, n1, n2, n3⟩, h2, ⟨adK, adV, h3, h4⟩, h5, h6, h7⟩ := h
  have ha : u.vm.Alike U.vm := by rw [hv]; exact Vm.Alike.refl _
  exact ⟨⟨va_Nw.same rfl hv n0, va_Nw.same rfl hv n1, va_Nw.same rfl hv n2, va_Nw.same rfl hv n3⟩, h2.moved ha, ⟨adK, adV, h3.moved ha, vk_R.same hv.symm h4⟩, h5.moved ha, h6.moved ha, va_Nw.same rfl hv h7⟩
theorem Ext.warm {A : Nat → Prop} {u U : State} {H : Heap} (hv : u.WarmedH U.vm) (h : Ext A u H) : Ext A U H := by
  obtain ⟨⟨n0, n1, n2, n3⟩, h2, ⟨adK, adV, h3, h4⟩, h5, h6, h7⟩ := h
  have ha : u.vm.Alike U.vm := hv.alike
  exact ⟨⟨va_Nw.warmM hv n0, va_Nw.warmM hv n1, va_Nw.warmM hv n2, va_Nw.warmM hv n3⟩, h2.moved ha, ⟨adK, adV, h3.moved ha, vk_R.warm hv h4⟩, h5.moved ha, h6.moved ha, va_Nw.warmC hv h7⟩
theorem Ext.kept {A : Nat → Prop} {U : State} {H H1 : Heap} (h : Ext A U H) (hq : ∀ a : Nat, a < H.size → ¬ A a → H1[a]? = H[a]?) : Ext A U H1 := by
  obtain ⟨h1, h2, ⟨adK, adV, h3, h4⟩, h5, h6, h7⟩ := h
  exact ⟨h1, h2, ⟨adK, adV, h3.kept hq, h4⟩, h5.kept hq, h6.kept hq, h7⟩
theorem Ext.narrow {A B : Nat → Prop} {U : State} {H : Heap} (h : Ext A U H) (hAB : ∀ q, B q → A q) : Ext B U H := by
  obtain ⟨h1, h2, ⟨adK, adV, h3, h4⟩, h5, h6, h7⟩ := h
  exact ⟨h1, h2, ⟨adK, adV, h3.narrow hAB, h4⟩, h5.narrow hAB, h6.narrow hAB, h7⟩
