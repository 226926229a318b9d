/-! p35: THE LAW: more rows; the first state lies in the box (written by wip/p35/q61.py) -/
section LC
variable {l : Launch} {b Ls : Nat} {xs : Nat → Int32} {pc pc' tgt : Nat} {L L' : List (Option AV)} {st : List AV} {M : Mem} {kc ks : Nat} {D' : MD} {as : List AV} {v : AV} {M2 : Mem}
theorem vl_pop {v : AV} (hd : At code pc .pop 1 pc') (hv : catA v = 1) (k : VL l b Ls xs pc' L st M kc ks) : VL l b Ls xs pc L (v :: st) M kc ks := by
  intro p e s m below meth c dC dI dA ad H locs ls C X hst hL hW hS hl
  obtain ⟨hd, rfl⟩ := hd
  obtain ⟨hv2, hst⟩ := okS_cons.mp hst
  exact lv_pop C.1 C.2.1 hd (by rw [aV_cat]; exact hv) (k p e s m below meth c dC dI dA ad H locs ls C X hst hL hW hS hl)
theorem vl_pop2 {x : Int} (hd : At code pc .pop2 1 pc') (k : VL l b Ls xs pc' L st M kc ks) : VL l b Ls xs pc L (aL x :: st) M kc ks := by
  intro p e s m below meth c dC dI dA ad H locs ls C X hst hL hW hS hl
  obtain ⟨hd, rfl⟩ := hd
  obtain ⟨hv2, hst⟩ := okS_cons.mp hst
  exact lv_pop2_2 C.1 C.2.1 hd rfl (k p e s m below meth c dC dI dA ad H locs ls C X hst hL hW hS hl)
theorem vl_cI {P : Int → Mem → Prop} {idx k ci n : Nat} {T : u_T} {N : Nat} {stk : List AV} (hd : At code pc (.invokevirtual idx) 3 pc') (hcall : Call l D' (aR k :: as) M (fun r M2 => ∃ x : Int, r = some (aI x) ∧ P x M2)) (hstk : as.reverse ++ aR k :: st = stk) (hm : MOk D' n) (hv : MVi D') (hlk : LkM R_law idx D') (hs : M.1[k]? = some (.inl ci)) (hci : vwCl[ci]? = some ((mY D').cls, T, N)) (hlen : as.length = n) (hlev : mV D' ≤ 1000) (hc1 : kc + mC D' ≤ 600000) (hc2 : ks + mS D' ≤ 7302250) (hsum : (st.map catA).sum ≤ 8) (kk : ∀ x M2, P x M2 → VL l b Ls xs pc' L (aI x :: st) M2 (kc + mC D') (ks + mS D')) : VL l b Ls xs pc L stk M kc ks :=
  vl_callV hd hcall hstk hm hv hlk hs hci hlen hlev hc1 hc2 hsum (fun r M' h _ => by obtain ⟨x, rfl, hp⟩ := h; exact kk x M' hp)
theorem vl_cL {P : Int → Mem → Prop} {idx k ci n : Nat} {T : u_T} {N : Nat} {stk : List AV} (hd : At code pc (.invokevirtual idx) 3 pc') (hcall : Call l D' (aR k :: as) M (fun r M2 => ∃ x : Int, r = some (aL x) ∧ P x M2)) (hstk : as.reverse ++ aR k :: st = stk) (hm : MOk D' n) (hv : MVi D') (hlk : LkM R_law idx D') (hs : M.1[k]? = some (.inl ci)) (hci : vwCl[ci]? = some ((mY D').cls, T, N)) (hlen : as.length = n) (hlev : mV D' ≤ 1000) (hc1 : kc + mC D' ≤ 600000) (hc2 : ks + mS D' ≤ 7302250) (hsum : (st.map catA).sum ≤ 8) (kk : ∀ x M2, P x M2 → VL l b Ls xs pc' L (aL x :: st) M2 (kc + mC D') (ks + mS D')) : VL l b Ls xs pc L stk M kc ks :=
  vl_callV hd hcall hstk hm hv hlk hs hci hlen hlev hc1 hc2 hsum (fun r M' h _ => by obtain ⟨x, rfl, hp⟩ := h; exact kk x M' hp)
theorem vl_cF {idx k ci n : Nat} {T : u_T} {N : Nat} {stk : List AV} (hd : At code pc (.invokevirtual idx) 3 pc') (hcall : Fn l D' (aR k :: as) M (some v) M2) (hstk : as.reverse ++ aR k :: st = stk) (hm : MOk D' n) (hv : MVi D') (hlk : LkM R_law idx D') (hs : M.1[k]? = some (.inl ci)) (hci : vwCl[ci]? = some ((mY D').cls, T, N)) (hlen : as.length = n) (hlev : mV D' ≤ 1000) (hc1 : kc + mC D' ≤ 600000) (hc2 : ks + mS D' ≤ 7302250) (hsum : (st.map catA).sum ≤ 8) (kk : VL l b Ls xs pc' L (v :: st) M2 (kc + mC D') (ks + mS D')) : VL l b Ls xs pc L stk M kc ks :=
  vl_callV hd hcall hstk hm hv hlk hs hci hlen hlev hc1 hc2 hsum (fun r M' h _ => by obtain ⟨rfl, rfl⟩ := h; exact kk)
end LC
def Me : Mem := ([], fun _ _ => 0, fun _ _ => 0, fun _ _ => none)
def Mb : Mem := gX11_init (mkC Me (.inl 11))
def M0 : Mem := gX12_init (mkC Mb (.inl 12))
theorem hlb : Mb.1.length = 54 := lX11_init (M := mkC Me (.inl 11)) rfl
theorem hl0 : M0.1.length = 75 := lX12_init (M := mkC Mb (.inl 12)) (ln_mk hlb)
theorem st0 : St M0 := by
  have h1 : M0.1 = shp0 := by decide +kernel
  have h2 : ∀ q ∈ ref0, mR M0 q.1 q.2.1 = some q.2.2 := by decide +kernel
  exact ⟨fun k x hx => by rw [h1]; exact hx, h2⟩
theorem okMe : okM Me := fun _ _ => ⟨inI_0, ⟨(by show (-9223372036854775808 : Int) ≤ 0; decide), (by show (0 : Int) < 9223372036854775808; decide)⟩, fun _ h => by cases h⟩
theorem aB_z (j : Nat) : aB j 0 := by unfold aB; refine ⟨?_, ?_, ?_, ?_, ?_, ?_, ?_, ?_, ?_, ?_, ?_, ?_, ?_, ?_, ?_, ?_, ?_, ?_⟩ <;> intros <;> decide
theorem bx_0 (k j : Nat) : bxI k j 0 := by
  unfold bxI
  split <;> first | trivial | exact aB_z j | (refine ⟨?_, ?_⟩ <;> decide) | (intros; decide) | (refine ⟨?_, ?_, ?_, ?_, ?_⟩ <;> (intros; decide)) | (refine ⟨?_, ?_, ?_⟩ <;> (intros; decide)) | (refine ⟨?_, ?_⟩ <;> (intros; decide)) | (refine ⟨?_, ?_, ?_, ?_, ?_, ?_, ?_, ?_, ?_, ?_, ?_, ?_⟩ <;> (intros; decide))
/-- ranges and no texts, while the two are made -/
def Bg (M : Mem) : Prop := (∀ a b, bxI a b (mI M a b)) ∧ ∀ k j, (k = 7 ∨ k = 14) → mR M k j = none
theorem Bg.mk {M : Mem} (h : Bg M) (sh : Sh) : Bg (mkC M sh) := by
  refine ⟨fun a b => ?_, fun k j hk => ?_⟩
  · rw [mI_mkC]; split; exact bx_0 a b; exact h.1 a b
  · rw [mR_mkC]; split; rfl; exact h.2 k j hk
theorem Bg.I {M : Mem} (h : Bg M) {k j : Nat} {v : Int} (hv : bxI k j v) : Bg (sI M k j v) := ⟨bx_sI h.1 hv, h.2⟩
theorem Bg.R {M : Mem} (h : Bg M) {k j : Nat} {v : Option Nat} (hk : ¬ (k = 7 ∨ k = 14)) : Bg (sR M k j v) := ⟨h.1, fun a b ha => by rw [mR_sR, if_neg (fun e => hk (by rw [← e.1]; exact ha))]; exact h.2 a b ha⟩
theorem Bg.J {M : Mem} (h : Bg M) {k j : Nat} {v : Int} : Bg (sJ M k j v) := h
theorem Bg.F {M : Mem} (h : Bg M) {k n : Nat} {v : Int} (hv : ∀ j, bxI k j v) : Bg (flI M k n v) := by
  refine ⟨fun a b => ?_, h.2⟩
  rw [mI_flI]
  split
  · rename_i e
    rw [e.1]
    exact hv b
  · exact h.1 a b
theorem Bg.A {M : Mem} (h : Bg M) : Bg (cpI M 56 55 0 0 589) := by
  refine ⟨fun a b => ?_, h.2⟩
  rw [mI_cpI]
  split
  · rename_i e
    rw [e.1, show 0 + (b - 0) = b by omega]
    exact h.1 55 b
  · exact h.1 a b
theorem Bg.e : Bg Me := ⟨fun a b => bx_0 a b, fun _ _ _ => rfl⟩
set_option maxRecDepth 20000 in
theorem bgX6_init_1 {M : Mem} (h : Bg M) : Bg (gX6_init_1 M) := by
  unfold gX6_init_1
  repeat' first | with_reducible exact h | with_reducible apply Bg.mk | with_reducible apply Bg.R | with_reducible apply Bg.J | with_reducible apply Bg.A | with_reducible apply Bg.F | with_reducible apply Bg.I
  all_goals first | decide | (intro h9; exact absurd h9 (by decide)) | (intro j; exact ⟨by decide, by decide⟩) | trivial | (exact ⟨by decide, by decide⟩) | (show aB _ _; unfold aB; refine ⟨?_, ?_, ?_, ?_, ?_, ?_, ?_, ?_, ?_, ?_, ?_, ?_, ?_, ?_, ?_, ?_, ?_, ?_⟩ <;> intros <;> first | decide | (exfalso; omega) | omega) | (refine ⟨?_, ?_, ?_, ?_, ?_⟩ <;> (intros; first | decide | omega | (exfalso; omega))) | (refine ⟨?_, ?_, ?_⟩ <;> (intros; first | decide | omega)) | (refine ⟨?_, ?_⟩ <;> (intros; first | decide | omega)) | (intros; first | decide | omega | (exfalso; omega))
set_option maxRecDepth 20000 in
theorem bgX6_init_8 {M : Mem} (h : Bg M) : Bg (gX6_init_8 M) := by
  unfold gX6_init_8
  repeat' first | with_reducible exact h | with_reducible apply Bg.mk | with_reducible apply Bg.R | with_reducible apply Bg.J | with_reducible apply Bg.A | with_reducible apply Bg.F | with_reducible apply Bg.I | with_reducible apply bgX6_init_1
  all_goals first | decide | (intro h9; exact absurd h9 (by decide)) | (intro j; exact ⟨by decide, by decide⟩) | trivial | (exact ⟨by decide, by decide⟩) | (show aB _ _; unfold aB; refine ⟨?_, ?_, ?_, ?_, ?_, ?_, ?_, ?_, ?_, ?_, ?_, ?_, ?_, ?_, ?_, ?_, ?_, ?_⟩ <;> intros <;> first | decide | (exfalso; omega) | omega) | (refine ⟨?_, ?_, ?_, ?_, ?_⟩ <;> (intros; first | decide | omega | (exfalso; omega))) | (refine ⟨?_, ?_, ?_⟩ <;> (intros; first | decide | omega)) | (refine ⟨?_, ?_⟩ <;> (intros; first | decide | omega)) | (intros; first | decide | omega | (exfalso; omega))
set_option maxRecDepth 20000 in
theorem bgX8_init_15 {M : Mem} (h : Bg M) : Bg (gX8_init_15 M) := by
  unfold gX8_init_15
  repeat' first | with_reducible exact h | with_reducible apply Bg.mk | with_reducible apply Bg.R | with_reducible apply Bg.J | with_reducible apply Bg.A | with_reducible apply Bg.F | with_reducible apply Bg.I | with_reducible apply bgX6_init_1 | with_reducible apply bgX6_init_8
  all_goals first | decide | (intro h9; exact absurd h9 (by decide)) | (intro j; exact ⟨by decide, by decide⟩) | trivial | (exact ⟨by decide, by decide⟩) | (show aB _ _; unfold aB; refine ⟨?_, ?_, ?_, ?_, ?_, ?_, ?_, ?_, ?_, ?_, ?_, ?_, ?_, ?_, ?_, ?_, ?_, ?_⟩ <;> intros <;> first | decide | (exfalso; omega) | omega) | (refine ⟨?_, ?_, ?_, ?_, ?_⟩ <;> (intros; first | decide | omega | (exfalso; omega))) | (refine ⟨?_, ?_, ?_⟩ <;> (intros; first | decide | omega)) | (refine ⟨?_, ?_⟩ <;> (intros; first | decide | omega)) | (intros; first | decide | omega | (exfalso; omega))
set_option maxRecDepth 20000 in
theorem bgX8_init_18 {M : Mem} (h : Bg M) : Bg (gX8_init_18 M) := by
  unfold gX8_init_18
  repeat' first | with_reducible exact h | with_reducible apply Bg.mk | with_reducible apply Bg.R | with_reducible apply Bg.J | with_reducible apply Bg.A | with_reducible apply Bg.F | with_reducible apply Bg.I | with_reducible apply bgX6_init_1 | with_reducible apply bgX6_init_8 | with_reducible apply bgX8_init_15
  all_goals first | decide | (intro h9; exact absurd h9 (by decide)) | (intro j; exact ⟨by decide, by decide⟩) | trivial | (exact ⟨by decide, by decide⟩) | (show aB _ _; unfold aB; refine ⟨?_, ?_, ?_, ?_, ?_, ?_, ?_, ?_, ?_, ?_, ?_, ?_, ?_, ?_, ?_, ?_, ?_, ?_⟩ <;> intros <;> first | decide | (exfalso; omega) | omega) | (refine ⟨?_, ?_, ?_, ?_, ?_⟩ <;> (intros; first | decide | omega | (exfalso; omega))) | (refine ⟨?_, ?_, ?_⟩ <;> (intros; first | decide | omega)) | (refine ⟨?_, ?_⟩ <;> (intros; first | decide | omega)) | (intros; first | decide | omega | (exfalso; omega))
set_option maxRecDepth 20000 in
theorem bgX4_init_0 {M : Mem} (h : Bg M) : Bg (gX4_init_0 M) := by
  unfold gX4_init_0
  repeat' first | with_reducible exact h | with_reducible apply Bg.mk | with_reducible apply Bg.R | with_reducible apply Bg.J | with_reducible apply Bg.A | with_reducible apply Bg.F | with_reducible apply Bg.I | with_reducible apply bgX6_init_1 | with_reducible apply bgX6_init_8 | with_reducible apply bgX8_init_15 | with_reducible apply bgX8_init_18
  all_goals first | decide | (intro h9; exact absurd h9 (by decide)) | (intro j; exact ⟨by decide, by decide⟩) | trivial | (exact ⟨by decide, by decide⟩) | (show aB _ _; unfold aB; refine ⟨?_, ?_, ?_, ?_, ?_, ?_, ?_, ?_, ?_, ?_, ?_, ?_, ?_, ?_, ?_, ?_, ?_, ?_⟩ <;> intros <;> first | decide | (exfalso; omega) | omega) | (refine ⟨?_, ?_, ?_, ?_, ?_⟩ <;> (intros; first | decide | omega | (exfalso; omega))) | (refine ⟨?_, ?_, ?_⟩ <;> (intros; first | decide | omega)) | (refine ⟨?_, ?_⟩ <;> (intros; first | decide | omega)) | (intros; first | decide | omega | (exfalso; omega))
set_option maxRecDepth 20000 in
theorem bgX2_init_0 {M : Mem} (h : Bg M) : Bg (gX2_init_0 M) := by
  unfold gX2_init_0
  repeat' first | with_reducible exact h | with_reducible apply Bg.mk | with_reducible apply Bg.R | with_reducible apply Bg.J | with_reducible apply Bg.A | with_reducible apply Bg.F | with_reducible apply Bg.I | with_reducible apply bgX6_init_1 | with_reducible apply bgX6_init_8 | with_reducible apply bgX8_init_15 | with_reducible apply bgX8_init_18 | with_reducible apply bgX4_init_0
  all_goals first | decide | (intro h9; exact absurd h9 (by decide)) | (intro j; exact ⟨by decide, by decide⟩) | trivial | (exact ⟨by decide, by decide⟩) | (show aB _ _; unfold aB; refine ⟨?_, ?_, ?_, ?_, ?_, ?_, ?_, ?_, ?_, ?_, ?_, ?_, ?_, ?_, ?_, ?_, ?_, ?_⟩ <;> intros <;> first | decide | (exfalso; omega) | omega) | (refine ⟨?_, ?_, ?_, ?_, ?_⟩ <;> (intros; first | decide | omega | (exfalso; omega))) | (refine ⟨?_, ?_, ?_⟩ <;> (intros; first | decide | omega)) | (refine ⟨?_, ?_⟩ <;> (intros; first | decide | omega)) | (intros; first | decide | omega | (exfalso; omega))
set_option maxRecDepth 20000 in
theorem bgX1_init_0 {M : Mem} (h : Bg M) : Bg (gX1_init_0 M) := by
  unfold gX1_init_0
  repeat' first | with_reducible exact h | with_reducible apply Bg.mk | with_reducible apply Bg.R | with_reducible apply Bg.J | with_reducible apply Bg.A | with_reducible apply Bg.F | with_reducible apply Bg.I | with_reducible apply bgX6_init_1 | with_reducible apply bgX6_init_8 | with_reducible apply bgX8_init_15 | with_reducible apply bgX8_init_18 | with_reducible apply bgX4_init_0 | with_reducible apply bgX2_init_0
  all_goals first | decide | (intro h9; exact absurd h9 (by decide)) | (intro j; exact ⟨by decide, by decide⟩) | trivial | (exact ⟨by decide, by decide⟩) | (show aB _ _; unfold aB; refine ⟨?_, ?_, ?_, ?_, ?_, ?_, ?_, ?_, ?_, ?_, ?_, ?_, ?_, ?_, ?_, ?_, ?_, ?_⟩ <;> intros <;> first | decide | (exfalso; omega) | omega) | (refine ⟨?_, ?_, ?_, ?_, ?_⟩ <;> (intros; first | decide | omega | (exfalso; omega))) | (refine ⟨?_, ?_, ?_⟩ <;> (intros; first | decide | omega)) | (refine ⟨?_, ?_⟩ <;> (intros; first | decide | omega)) | (intros; first | decide | omega | (exfalso; omega))
set_option maxRecDepth 20000 in
theorem bgX9_init_0 {M : Mem} (h : Bg M) : Bg (gX9_init_0 M) := by
  unfold gX9_init_0
  repeat' first | with_reducible exact h | with_reducible apply Bg.mk | with_reducible apply Bg.R | with_reducible apply Bg.J | with_reducible apply Bg.A | with_reducible apply Bg.F | with_reducible apply Bg.I | with_reducible apply bgX6_init_1 | with_reducible apply bgX6_init_8 | with_reducible apply bgX8_init_15 | with_reducible apply bgX8_init_18 | with_reducible apply bgX4_init_0 | with_reducible apply bgX2_init_0 | with_reducible apply bgX1_init_0
  all_goals first | decide | (intro h9; exact absurd h9 (by decide)) | (intro j; exact ⟨by decide, by decide⟩) | trivial | (exact ⟨by decide, by decide⟩) | (show aB _ _; unfold aB; refine ⟨?_, ?_, ?_, ?_, ?_, ?_, ?_, ?_, ?_, ?_, ?_, ?_, ?_, ?_, ?_, ?_, ?_, ?_⟩ <;> intros <;> first | decide | (exfalso; omega) | omega) | (refine ⟨?_, ?_, ?_, ?_, ?_⟩ <;> (intros; first | decide | omega | (exfalso; omega))) | (refine ⟨?_, ?_, ?_⟩ <;> (intros; first | decide | omega)) | (refine ⟨?_, ?_⟩ <;> (intros; first | decide | omega)) | (intros; first | decide | omega | (exfalso; omega))
set_option maxRecDepth 20000 in
theorem bgX10_init_0 {M : Mem} (h : Bg M) : Bg (gX10_init_0 M) := by
  unfold gX10_init_0
  repeat' first | with_reducible exact h | with_reducible apply Bg.mk | with_reducible apply Bg.R | with_reducible apply Bg.J | with_reducible apply Bg.A | with_reducible apply Bg.F | with_reducible apply Bg.I | with_reducible apply bgX6_init_1 | with_reducible apply bgX6_init_8 | with_reducible apply bgX8_init_15 | with_reducible apply bgX8_init_18 | with_reducible apply bgX4_init_0 | with_reducible apply bgX2_init_0 | with_reducible apply bgX1_init_0 | with_reducible apply bgX9_init_0
  all_goals first | decide | (intro h9; exact absurd h9 (by decide)) | (intro j; exact ⟨by decide, by decide⟩) | trivial | (exact ⟨by decide, by decide⟩) | (show aB _ _; unfold aB; refine ⟨?_, ?_, ?_, ?_, ?_, ?_, ?_, ?_, ?_, ?_, ?_, ?_, ?_, ?_, ?_, ?_, ?_, ?_⟩ <;> intros <;> first | decide | (exfalso; omega) | omega) | (refine ⟨?_, ?_, ?_, ?_, ?_⟩ <;> (intros; first | decide | omega | (exfalso; omega))) | (refine ⟨?_, ?_, ?_⟩ <;> (intros; first | decide | omega)) | (refine ⟨?_, ?_⟩ <;> (intros; first | decide | omega)) | (intros; first | decide | omega | (exfalso; omega))
set_option maxRecDepth 20000 in
theorem bgX7_init_0 {M : Mem} (h : Bg M) : Bg (gX7_init_0 M) := by
  unfold gX7_init_0
  repeat' first | with_reducible exact h | with_reducible apply Bg.mk | with_reducible apply Bg.R | with_reducible apply Bg.J | with_reducible apply Bg.A | with_reducible apply Bg.F | with_reducible apply Bg.I | with_reducible apply bgX6_init_1 | with_reducible apply bgX6_init_8 | with_reducible apply bgX8_init_15 | with_reducible apply bgX8_init_18 | with_reducible apply bgX4_init_0 | with_reducible apply bgX2_init_0 | with_reducible apply bgX1_init_0 | with_reducible apply bgX9_init_0 | with_reducible apply bgX10_init_0
  all_goals first | decide | (intro h9; exact absurd h9 (by decide)) | (intro j; exact ⟨by decide, by decide⟩) | trivial | (exact ⟨by decide, by decide⟩) | (show aB _ _; unfold aB; refine ⟨?_, ?_, ?_, ?_, ?_, ?_, ?_, ?_, ?_, ?_, ?_, ?_, ?_, ?_, ?_, ?_, ?_, ?_⟩ <;> intros <;> first | decide | (exfalso; omega) | omega) | (refine ⟨?_, ?_, ?_, ?_, ?_⟩ <;> (intros; first | decide | omega | (exfalso; omega))) | (refine ⟨?_, ?_, ?_⟩ <;> (intros; first | decide | omega)) | (refine ⟨?_, ?_⟩ <;> (intros; first | decide | omega)) | (intros; first | decide | omega | (exfalso; omega))
set_option maxRecDepth 20000 in
theorem bgX0_init_0 {M : Mem} (h : Bg M) : Bg (gX0_init_0 M) := by
  unfold gX0_init_0
  repeat' first | with_reducible exact h | with_reducible apply Bg.mk | with_reducible apply Bg.R | with_reducible apply Bg.J | with_reducible apply Bg.A | with_reducible apply Bg.F | with_reducible apply Bg.I | with_reducible apply bgX6_init_1 | with_reducible apply bgX6_init_8 | with_reducible apply bgX8_init_15 | with_reducible apply bgX8_init_18 | with_reducible apply bgX4_init_0 | with_reducible apply bgX2_init_0 | with_reducible apply bgX1_init_0 | with_reducible apply bgX9_init_0 | with_reducible apply bgX10_init_0 | with_reducible apply bgX7_init_0
  all_goals first | decide | (intro h9; exact absurd h9 (by decide)) | (intro j; exact ⟨by decide, by decide⟩) | trivial | (exact ⟨by decide, by decide⟩) | (show aB _ _; unfold aB; refine ⟨?_, ?_, ?_, ?_, ?_, ?_, ?_, ?_, ?_, ?_, ?_, ?_, ?_, ?_, ?_, ?_, ?_, ?_⟩ <;> intros <;> first | decide | (exfalso; omega) | omega) | (refine ⟨?_, ?_, ?_, ?_, ?_⟩ <;> (intros; first | decide | omega | (exfalso; omega))) | (refine ⟨?_, ?_, ?_⟩ <;> (intros; first | decide | omega)) | (refine ⟨?_, ?_⟩ <;> (intros; first | decide | omega)) | (intros; first | decide | omega | (exfalso; omega))
set_option maxRecDepth 20000 in
theorem bgX3_init_0 {M : Mem} (h : Bg M) : Bg (gX3_init_0 M) := by
  unfold gX3_init_0
  repeat' first | with_reducible exact h | with_reducible apply Bg.mk | with_reducible apply Bg.R | with_reducible apply Bg.J | with_reducible apply Bg.A | with_reducible apply Bg.F | with_reducible apply Bg.I | with_reducible apply bgX6_init_1 | with_reducible apply bgX6_init_8 | with_reducible apply bgX8_init_15 | with_reducible apply bgX8_init_18 | with_reducible apply bgX4_init_0 | with_reducible apply bgX2_init_0 | with_reducible apply bgX1_init_0 | with_reducible apply bgX9_init_0 | with_reducible apply bgX10_init_0 | with_reducible apply bgX7_init_0 | with_reducible apply bgX0_init_0
  all_goals first | decide | (intro h9; exact absurd h9 (by decide)) | (intro j; exact ⟨by decide, by decide⟩) | trivial | (exact ⟨by decide, by decide⟩) | (show aB _ _; unfold aB; refine ⟨?_, ?_, ?_, ?_, ?_, ?_, ?_, ?_, ?_, ?_, ?_, ?_, ?_, ?_, ?_, ?_, ?_, ?_⟩ <;> intros <;> first | decide | (exfalso; omega) | omega) | (refine ⟨?_, ?_, ?_, ?_, ?_⟩ <;> (intros; first | decide | omega | (exfalso; omega))) | (refine ⟨?_, ?_, ?_⟩ <;> (intros; first | decide | omega)) | (refine ⟨?_, ?_⟩ <;> (intros; first | decide | omega)) | (intros; first | decide | omega | (exfalso; omega))
set_option maxRecDepth 20000 in
theorem bgX11_init {M : Mem} (h : Bg M) : Bg (gX11_init M) := by
  unfold gX11_init
  repeat' first | with_reducible exact h | with_reducible apply Bg.mk | with_reducible apply Bg.R | with_reducible apply Bg.J | with_reducible apply Bg.A | with_reducible apply Bg.F | with_reducible apply Bg.I | with_reducible apply bgX6_init_1 | with_reducible apply bgX6_init_8 | with_reducible apply bgX8_init_15 | with_reducible apply bgX8_init_18 | with_reducible apply bgX4_init_0 | with_reducible apply bgX2_init_0 | with_reducible apply bgX1_init_0 | with_reducible apply bgX9_init_0 | with_reducible apply bgX10_init_0 | with_reducible apply bgX7_init_0 | with_reducible apply bgX0_init_0 | with_reducible apply bgX3_init_0
  all_goals first | decide | (intro h9; exact absurd h9 (by decide)) | (intro j; exact ⟨by decide, by decide⟩) | trivial | (exact ⟨by decide, by decide⟩) | (show aB _ _; unfold aB; refine ⟨?_, ?_, ?_, ?_, ?_, ?_, ?_, ?_, ?_, ?_, ?_, ?_, ?_, ?_, ?_, ?_, ?_, ?_⟩ <;> intros <;> first | decide | (exfalso; omega) | omega) | (refine ⟨?_, ?_, ?_, ?_, ?_⟩ <;> (intros; first | decide | omega | (exfalso; omega))) | (refine ⟨?_, ?_, ?_⟩ <;> (intros; first | decide | omega)) | (refine ⟨?_, ?_⟩ <;> (intros; first | decide | omega)) | (intros; first | decide | omega | (exfalso; omega))
set_option maxRecDepth 20000 in
theorem bgX12_init {M : Mem} (h : Bg M) : Bg (gX12_init M) := by
  unfold gX12_init
  repeat' first | with_reducible exact h | with_reducible apply Bg.mk | with_reducible apply Bg.R | with_reducible apply Bg.J | with_reducible apply Bg.A | with_reducible apply Bg.F | with_reducible apply Bg.I | with_reducible apply bgX6_init_1 | with_reducible apply bgX6_init_8 | with_reducible apply bgX8_init_15 | with_reducible apply bgX8_init_18 | with_reducible apply bgX4_init_0 | with_reducible apply bgX2_init_0 | with_reducible apply bgX1_init_0 | with_reducible apply bgX9_init_0 | with_reducible apply bgX10_init_0 | with_reducible apply bgX7_init_0 | with_reducible apply bgX0_init_0 | with_reducible apply bgX3_init_0 | with_reducible apply bgX11_init
  all_goals first | decide | (intro h9; exact absurd h9 (by decide)) | (intro j; exact ⟨by decide, by decide⟩) | trivial | (exact ⟨by decide, by decide⟩) | (show aB _ _; unfold aB; refine ⟨?_, ?_, ?_, ?_, ?_, ?_, ?_, ?_, ?_, ?_, ?_, ?_, ?_, ?_, ?_, ?_, ?_, ?_⟩ <;> intros <;> first | decide | (exfalso; omega) | omega) | (refine ⟨?_, ?_, ?_, ?_, ?_⟩ <;> (intros; first | decide | omega | (exfalso; omega))) | (refine ⟨?_, ?_, ?_⟩ <;> (intros; first | decide | omega)) | (refine ⟨?_, ?_⟩ <;> (intros; first | decide | omega)) | (intros; first | decide | omega | (exfalso; omega))
theorem bg0 : Bg M0 := bgX12_init ((bgX11_init (Bg.e.mk _)).mk _)
theorem z55 : mI M0 55 0 = 0 ∧ mI M0 55 3 = 0 ∧ mI M0 55 5 = 0 ∧ mI M0 55 6 = -1 ∧ mI M0 56 0 = 0 ∧ mI M0 56 3 = 0 ∧ mI M0 56 5 = 0 ∧ mI M0 56 6 = -1 := by decide +kernel
theorem box0 : Box M0 := by
  obtain ⟨a, b, c, d, e, f, g, i⟩ := z55
  have hT : TxA M0 := fun k j y hk h => by rw [bg0.2 k j hk] at h; cases h
  have hA5 : relA (mI M0 55) := by
    refine ⟨fun q r h => ?_, fun t h => ?_, ?_⟩
    · exfalso; rw [a] at h; omega
    · exfalso; rw [b] at h; omega
    · rw [c, d]; decide
  have hA6 : relA (mI M0 56) := by
    refine ⟨fun q r h => ?_, fun t h => ?_, ?_⟩
    · exfalso; rw [e] at h; omega
    · exfalso; rw [f] at h; omega
    · rw [g, i]; decide
  have h7 : mI M0 56 5 ≤ mI M0 55 5 := by rw [c, g]; decide
  have hR : relR M0 := ⟨hA5, hA6, h7, fun t h => by exfalso; rw [c] at h; omega⟩
  exact ⟨st0, bg0.1, hT, hR⟩
/-- some cells are empty, while the two are made -/
def Zt (M : Mem) : Prop := ∀ j, mI M 21 j = 0 ∧ mI M 59 j = 0 ∧ mI M 4 j = 0 ∧ mI M 11 j = 0 ∧ mI M 17 j = 0 ∧ mI M 20 j = 0
theorem zC {M : Mem} {sh : Sh} {c j : Nat} (h : mI M c j = 0) : mI (mkC M sh) c j = 0 := by
  rw [mI_mkC]; split; rfl; exact h
theorem zS {M : Mem} {k i c j : Nat} {v : Int} (h : mI M c j = 0) (hk : k ≠ c) : mI (sI M k i v) c j = 0 := by
  rw [mI_sI, if_neg (fun e => hk e.1.symm)]; exact h
theorem zF {M : Mem} {k n c j : Nat} {v : Int} (h : mI M c j = 0) (hk : k ≠ c) : mI (flI M k n v) c j = 0 := by
  rw [mI_flI, if_neg (fun e => hk e.1.symm)]; exact h
theorem zA {M : Mem} {c j : Nat} (h : mI M c j = 0) (hk : c ≠ 56) : mI (cpI M 56 55 0 0 589) c j = 0 := by
  rw [mI_cpI, if_neg (fun e => hk e.1)]; exact h
theorem Zt.mk {M : Mem} (h : Zt M) (sh : Sh) : Zt (mkC M sh) := fun j => ⟨zC (h j).1, zC (h j).2.1, zC (h j).2.2.1, zC (h j).2.2.2.1, zC (h j).2.2.2.2.1, zC (h j).2.2.2.2.2⟩
theorem Zt.I {M : Mem} (h : Zt M) {k j : Nat} {v : Int} (hk : k ≠ 21 ∧ k ≠ 59 ∧ k ≠ 4 ∧ k ≠ 11 ∧ k ≠ 17 ∧ k ≠ 20) : Zt (sI M k j v) := fun j => ⟨zS (h j).1 (hk).1, zS (h j).2.1 (hk).2.1, zS (h j).2.2.1 (hk).2.2.1, zS (h j).2.2.2.1 (hk).2.2.2.1, zS (h j).2.2.2.2.1 (hk).2.2.2.2.1, zS (h j).2.2.2.2.2 (hk).2.2.2.2.2⟩
theorem Zt.R {M : Mem} (h : Zt M) {k j : Nat} {v : Option Nat} : Zt (sR M k j v) := h
theorem Zt.J {M : Mem} (h : Zt M) {k j : Nat} {v : Int} : Zt (sJ M k j v) := h
theorem Zt.F {M : Mem} (h : Zt M) {k n : Nat} {v : Int} (hk : k ≠ 21 ∧ k ≠ 59 ∧ k ≠ 4 ∧ k ≠ 11 ∧ k ≠ 17 ∧ k ≠ 20) : Zt (flI M k n v) := fun j => ⟨zF (h j).1 (hk).1, zF (h j).2.1 (hk).2.1, zF (h j).2.2.1 (hk).2.2.1, zF (h j).2.2.2.1 (hk).2.2.2.1, zF (h j).2.2.2.2.1 (hk).2.2.2.2.1, zF (h j).2.2.2.2.2 (hk).2.2.2.2.2⟩
theorem Zt.A {M : Mem} (h : Zt M) : Zt (cpI M 56 55 0 0 589) := fun j => ⟨zA (h j).1 (by decide), zA (h j).2.1 (by decide), zA (h j).2.2.1 (by decide), zA (h j).2.2.2.1 (by decide), zA (h j).2.2.2.2.1 (by decide), zA (h j).2.2.2.2.2 (by decide)⟩
theorem Zt.e : Zt Me := fun _ => ⟨rfl, rfl, rfl, rfl, rfl, rfl⟩
set_option maxRecDepth 20000 in
theorem zgX6_init_1 {M : Mem} (h : Zt M) : Zt (gX6_init_1 M) := by
  unfold gX6_init_1
  repeat' first | with_reducible exact h | with_reducible apply Zt.mk | with_reducible apply Zt.R | with_reducible apply Zt.J | with_reducible apply Zt.A | with_reducible apply Zt.F | with_reducible apply Zt.I
  all_goals decide
set_option maxRecDepth 20000 in
theorem zgX6_init_8 {M : Mem} (h : Zt M) : Zt (gX6_init_8 M) := by
  unfold gX6_init_8
  repeat' first | with_reducible exact h | with_reducible apply Zt.mk | with_reducible apply Zt.R | with_reducible apply Zt.J | with_reducible apply Zt.A | with_reducible apply Zt.F | with_reducible apply Zt.I | with_reducible apply zgX6_init_1
  all_goals decide
set_option maxRecDepth 20000 in
theorem zgX8_init_15 {M : Mem} (h : Zt M) : Zt (gX8_init_15 M) := by
  unfold gX8_init_15
  repeat' first | with_reducible exact h | with_reducible apply Zt.mk | with_reducible apply Zt.R | with_reducible apply Zt.J | with_reducible apply Zt.A | with_reducible apply Zt.F | with_reducible apply Zt.I | with_reducible apply zgX6_init_1 | with_reducible apply zgX6_init_8
  all_goals decide
set_option maxRecDepth 20000 in
theorem zgX8_init_18 {M : Mem} (h : Zt M) : Zt (gX8_init_18 M) := by
  unfold gX8_init_18
  repeat' first | with_reducible exact h | with_reducible apply Zt.mk | with_reducible apply Zt.R | with_reducible apply Zt.J | with_reducible apply Zt.A | with_reducible apply Zt.F | with_reducible apply Zt.I | with_reducible apply zgX6_init_1 | with_reducible apply zgX6_init_8 | with_reducible apply zgX8_init_15
  all_goals decide
set_option maxRecDepth 20000 in
theorem zgX4_init_0 {M : Mem} (h : Zt M) : Zt (gX4_init_0 M) := by
  unfold gX4_init_0
  repeat' first | with_reducible exact h | with_reducible apply Zt.mk | with_reducible apply Zt.R | with_reducible apply Zt.J | with_reducible apply Zt.A | with_reducible apply Zt.F | with_reducible apply Zt.I | with_reducible apply zgX6_init_1 | with_reducible apply zgX6_init_8 | with_reducible apply zgX8_init_15 | with_reducible apply zgX8_init_18
  all_goals decide
set_option maxRecDepth 20000 in
theorem zgX2_init_0 {M : Mem} (h : Zt M) : Zt (gX2_init_0 M) := by
  unfold gX2_init_0
  repeat' first | with_reducible exact h | with_reducible apply Zt.mk | with_reducible apply Zt.R | with_reducible apply Zt.J | with_reducible apply Zt.A | with_reducible apply Zt.F | with_reducible apply Zt.I | with_reducible apply zgX6_init_1 | with_reducible apply zgX6_init_8 | with_reducible apply zgX8_init_15 | with_reducible apply zgX8_init_18 | with_reducible apply zgX4_init_0
  all_goals decide
set_option maxRecDepth 20000 in
theorem zgX1_init_0 {M : Mem} (h : Zt M) : Zt (gX1_init_0 M) := by
  unfold gX1_init_0
  repeat' first | with_reducible exact h | with_reducible apply Zt.mk | with_reducible apply Zt.R | with_reducible apply Zt.J | with_reducible apply Zt.A | with_reducible apply Zt.F | with_reducible apply Zt.I | with_reducible apply zgX6_init_1 | with_reducible apply zgX6_init_8 | with_reducible apply zgX8_init_15 | with_reducible apply zgX8_init_18 | with_reducible apply zgX4_init_0 | with_reducible apply zgX2_init_0
  all_goals decide
set_option maxRecDepth 20000 in
theorem zgX9_init_0 {M : Mem} (h : Zt M) : Zt (gX9_init_0 M) := by
  unfold gX9_init_0
  repeat' first | with_reducible exact h | with_reducible apply Zt.mk | with_reducible apply Zt.R | with_reducible apply Zt.J | with_reducible apply Zt.A | with_reducible apply Zt.F | with_reducible apply Zt.I | with_reducible apply zgX6_init_1 | with_reducible apply zgX6_init_8 | with_reducible apply zgX8_init_15 | with_reducible apply zgX8_init_18 | with_reducible apply zgX4_init_0 | with_reducible apply zgX2_init_0 | with_reducible apply zgX1_init_0
  all_goals decide
set_option maxRecDepth 20000 in
theorem zgX10_init_0 {M : Mem} (h : Zt M) : Zt (gX10_init_0 M) := by
  unfold gX10_init_0
  repeat' first | with_reducible exact h | with_reducible apply Zt.mk | with_reducible apply Zt.R | with_reducible apply Zt.J | with_reducible apply Zt.A | with_reducible apply Zt.F | with_reducible apply Zt.I | with_reducible apply zgX6_init_1 | with_reducible apply zgX6_init_8 | with_reducible apply zgX8_init_15 | with_reducible apply zgX8_init_18 | with_reducible apply zgX4_init_0 | with_reducible apply zgX2_init_0 | with_reducible apply zgX1_init_0 | with_reducible apply zgX9_init_0
  all_goals decide
set_option maxRecDepth 20000 in
theorem zgX7_init_0 {M : Mem} (h : Zt M) : Zt (gX7_init_0 M) := by
  unfold gX7_init_0
  repeat' first | with_reducible exact h | with_reducible apply Zt.mk | with_reducible apply Zt.R | with_reducible apply Zt.J | with_reducible apply Zt.A | with_reducible apply Zt.F | with_reducible apply Zt.I | with_reducible apply zgX6_init_1 | with_reducible apply zgX6_init_8 | with_reducible apply zgX8_init_15 | with_reducible apply zgX8_init_18 | with_reducible apply zgX4_init_0 | with_reducible apply zgX2_init_0 | with_reducible apply zgX1_init_0 | with_reducible apply zgX9_init_0 | with_reducible apply zgX10_init_0
  all_goals decide
set_option maxRecDepth 20000 in
theorem zgX0_init_0 {M : Mem} (h : Zt M) : Zt (gX0_init_0 M) := by
  unfold gX0_init_0
  repeat' first | with_reducible exact h | with_reducible apply Zt.mk | with_reducible apply Zt.R | with_reducible apply Zt.J | with_reducible apply Zt.A | with_reducible apply Zt.F | with_reducible apply Zt.I | with_reducible apply zgX6_init_1 | with_reducible apply zgX6_init_8 | with_reducible apply zgX8_init_15 | with_reducible apply zgX8_init_18 | with_reducible apply zgX4_init_0 | with_reducible apply zgX2_init_0 | with_reducible apply zgX1_init_0 | with_reducible apply zgX9_init_0 | with_reducible apply zgX10_init_0 | with_reducible apply zgX7_init_0
  all_goals decide
set_option maxRecDepth 20000 in
theorem zgX3_init_0 {M : Mem} (h : Zt M) : Zt (gX3_init_0 M) := by
  unfold gX3_init_0
  repeat' first | with_reducible exact h | with_reducible apply Zt.mk | with_reducible apply Zt.R | with_reducible apply Zt.J | with_reducible apply Zt.A | with_reducible apply Zt.F | with_reducible apply Zt.I | with_reducible apply zgX6_init_1 | with_reducible apply zgX6_init_8 | with_reducible apply zgX8_init_15 | with_reducible apply zgX8_init_18 | with_reducible apply zgX4_init_0 | with_reducible apply zgX2_init_0 | with_reducible apply zgX1_init_0 | with_reducible apply zgX9_init_0 | with_reducible apply zgX10_init_0 | with_reducible apply zgX7_init_0 | with_reducible apply zgX0_init_0
  all_goals decide
set_option maxRecDepth 20000 in
theorem zgX11_init {M : Mem} (h : Zt M) : Zt (gX11_init M) := by
  unfold gX11_init
  repeat' first | with_reducible exact h | with_reducible apply Zt.mk | with_reducible apply Zt.R | with_reducible apply Zt.J | with_reducible apply Zt.A | with_reducible apply Zt.F | with_reducible apply Zt.I | with_reducible apply zgX6_init_1 | with_reducible apply zgX6_init_8 | with_reducible apply zgX8_init_15 | with_reducible apply zgX8_init_18 | with_reducible apply zgX4_init_0 | with_reducible apply zgX2_init_0 | with_reducible apply zgX1_init_0 | with_reducible apply zgX9_init_0 | with_reducible apply zgX10_init_0 | with_reducible apply zgX7_init_0 | with_reducible apply zgX0_init_0 | with_reducible apply zgX3_init_0
  all_goals decide
set_option maxRecDepth 20000 in
theorem zgX12_init {M : Mem} (h : Zt M) : Zt (gX12_init M) := by
  unfold gX12_init
  repeat' first | with_reducible exact h | with_reducible apply Zt.mk | with_reducible apply Zt.R | with_reducible apply Zt.J | with_reducible apply Zt.A | with_reducible apply Zt.F | with_reducible apply Zt.I | with_reducible apply zgX6_init_1 | with_reducible apply zgX6_init_8 | with_reducible apply zgX8_init_15 | with_reducible apply zgX8_init_18 | with_reducible apply zgX4_init_0 | with_reducible apply zgX2_init_0 | with_reducible apply zgX1_init_0 | with_reducible apply zgX9_init_0 | with_reducible apply zgX10_init_0 | with_reducible apply zgX7_init_0 | with_reducible apply zgX0_init_0 | with_reducible apply zgX3_init_0 | with_reducible apply zgX11_init
  all_goals decide
theorem zt0 : Zt M0 := zgX12_init ((zgX11_init (Zt.e.mk _)).mk _)
theorem z54 : mI M0 54 6 = mI M0 0 13 ∧ mI M0 54 7 = mI M0 0 14 ∧ mI M0 54 8 = mI M0 0 15 ∧ mI M0 55 5 = mI M0 1 10 ∧ mI M0 56 5 = mI M0 8 10 := by decide +kernel
theorem rl0 : RLt M0 := ⟨fun j => by rw [(zt0 j).1]; decide, funext fun j => by rw [(zt0 j).1, (zt0 j).2.1], z54⟩
theorem AR_0 {a : Nat → Int} {s : Sw} (ha : a 0 = 0 ∧ a 1 = -1 ∧ a 2 = 0 ∧ a 3 = 0 ∧ a 5 = 0 ∧ a 6 = -1 ∧ a 7 = 0 ∧ a 256 = -1 ∧ a 257 = 0) (hs : s 1 6 = 0 ∧ s 1 7 = -1 ∧ s 1 8 = 0 ∧ s 1 9 = 0 ∧ s 1 10 = 0 ∧ s 1 11 = -1 ∧ s 15 2 = 0 ∧ s 15 3 = 0 ∧ s 16 0 = -1 ∧ s 16 1 = 0 ∧ s 16 3 = a 4) (h6 : ∀ t : Nat, t < 6 → a (154 + 5 * t + 4) = 0 ∧ s 16 (4 + t) = 0) (h3 : ∀ j : Nat, j < 64 → s 3 j = -1) (h4 : ∀ j : Nat, s 4 j = 0) (h5 : a 258 = s 16 2) : AR a s := by
  obtain ⟨a0, a1, a2, a3, a5, a6, a7, a8, a9⟩ := ha
  obtain ⟨s6, s7, s8, s9, s10, s11, t2, t3, u0, u1, u3⟩ := hs
  refine ⟨⟨?_, fun c hc => ?_, fun t ht j hj => ?_, fun t ht => ?_, ⟨fun j _ h2 => h3 j h2, fun j h1 => ?_, fun j => Or.inl (h4 j)⟩, fun t ht => ?_, fun t ht => ?_, ?_⟩, ?_, fun t ht => ?_, fun e he => ?_, ?_, fun t t1 t2 => (h6 t t2).2, h5, fun e he => by exfalso; omega⟩
  · unfold aSc
    rw [a0, a1, a2, a3, a5, a6, s6, s7, s8, s9, s10, s11]
    exact ⟨rfl, rfl, rfl, rfl, rfl, rfl⟩
  · exfalso; omega
  · exfalso; omega
  · exfalso; omega
  · rw [h3 j h1, s6]; decide
  · exfalso; omega
  · exfalso; omega
  · unfold wSc
    rw [s6, s7, s8, s9, s10, s11]
    decide
  · unfold aWk
    rw [u3, a7, t2, a8, a9, u0, u1]
    exact ⟨rfl, rfl, rfl, rfl⟩
  · rw [(h6 t ht).1, (h6 t ht).2]
  · exfalso; omega
  · unfold wWk
    rw [t2, t3, u0, u1, s6]
    decide
theorem f55 : mI M0 55 0 = 0 ∧ mI M0 55 1 = -1 ∧ mI M0 55 2 = 0 ∧ mI M0 55 3 = 0 ∧ mI M0 55 5 = 0 ∧ mI M0 55 6 = -1 ∧ mI M0 55 7 = 0 ∧ mI M0 55 256 = -1 ∧ mI M0 55 257 = 0 := by decide +kernel
theorem f56 : mI M0 56 0 = 0 ∧ mI M0 56 1 = -1 ∧ mI M0 56 2 = 0 ∧ mI M0 56 3 = 0 ∧ mI M0 56 5 = 0 ∧ mI M0 56 6 = -1 ∧ mI M0 56 7 = 0 ∧ mI M0 56 256 = -1 ∧ mI M0 56 257 = 0 := by decide +kernel
theorem f1 : cS M0 1 6 = 0 ∧ cS M0 1 7 = -1 ∧ cS M0 1 8 = 0 ∧ cS M0 1 9 = 0 ∧ cS M0 1 10 = 0 ∧ cS M0 1 11 = -1 ∧ cS M0 15 2 = 0 ∧ cS M0 15 3 = 0 ∧ cS M0 16 0 = -1 ∧ cS M0 16 1 = 0 ∧ cS M0 16 3 = mI M0 55 4 := by decide +kernel
theorem f8 : cS M0 8 6 = 0 ∧ cS M0 8 7 = -1 ∧ cS M0 8 8 = 0 ∧ cS M0 8 9 = 0 ∧ cS M0 8 10 = 0 ∧ cS M0 8 11 = -1 ∧ cS M0 18 2 = 0 ∧ cS M0 18 3 = 0 ∧ cS M0 19 0 = -1 ∧ cS M0 19 1 = 0 ∧ cS M0 19 3 = mI M0 56 4 := by decide +kernel
theorem g55 : ∀ t : Nat, t < 6 → mI M0 55 (154 + 5 * t + 4) = 0 ∧ cS M0 16 (4 + t) = 0 := by decide +kernel
theorem g56 : ∀ t : Nat, t < 6 → mI M0 56 (154 + 5 * t + 4) = 0 ∧ cS M0 19 (4 + t) = 0 := by decide +kernel
theorem g3 : ∀ j : Nat, j < 64 → cS M0 3 j = -1 := by decide +kernel
theorem g10 : ∀ j : Nat, j < 64 → cS M0 10 j = -1 := by decide +kernel
theorem cz {k j : Nat} (hk : k < 1000) (h : mI M0 k j = 0) : cS M0 k j = 0 := by
  unfold cS
  rw [if_neg (show ¬ 1000 ≤ k by omega)]
  split
  · exact h
  · rfl
theorem fse : mI M0 55 258 = cS M0 16 2 ∧ mI M0 56 258 = cS M0 19 2 := by decide +kernel
theorem rd0 : RD M0 0 := ⟨box0, rl0, AR_0 f55 f1 g55 g3 (fun j => cz (by decide) (zt0 j).2.2.1) fse.1, AR_0 f56 f8 g56 g10 (fun j => cz (by decide) (zt0 j).2.2.2.1) fse.2, TxG.nul (by rw [z54.2.2.2.1.symm, f55.2.2.2.2.1]; decide), TxG.nul (by rw [z54.2.2.2.2.symm, f56.2.2.2.2.1]; decide), ⟨fun t ht => by rw [(g55 t ht).2]; decide, fun j _ _ => by rw [cz (by decide) (zt0 j).2.2.2.2.1]; decide⟩, ⟨fun t ht => by show 0 ≤ cS M0 19 (4 + t) ∧ cS M0 19 (4 + t) ≤ 0; rw [(g56 t ht).2]; decide, fun j _ _ => by show 0 ≤ cS M0 20 j ∧ cS M0 20 j ≤ 0; rw [cz (by decide) (zt0 j).2.2.2.2.2]; decide⟩⟩
theorem re0 : RE M0 0 := ⟨rd0, fun t ht => by rw [f1.2.2.2.2.1] at ht; exfalso; omega, fun t ht => by rw [f1.2.2.2.2.1] at ht; exfalso; omega, ⟨fun c hc => by rw [f1.1] at hc; exfalso; omega, fun t ht => by rw [f1.2.2.1] at ht; exfalso; omega⟩, ⟨fun c hc => by have z : iS (cS M0) 1 6 = 0 := f8.1; rw [z] at hc; exfalso; omega, fun t ht => by have z : iS (cS M0) 1 8 = 0 := f8.2.2.1; rw [z] at ht; exfalso; omega⟩, fun t ht => by rw [z54.2.2.2.2.symm, f56.2.2.2.2.1] at ht; exfalso; omega⟩
