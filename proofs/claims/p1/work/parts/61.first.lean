/-! THE LAW on scripts of at most six ints (written by wip/whole/p61.py) -/
def Me : Mem := ([], fun _ _ => 0, fun _ _ => 0, fun _ _ => none)
def Mb : Mem := gX11_init (mkC Me (.inl 11))
def M0 : Mem := gX12_init (mkC Mb (.inl 12))
theorem hlb : Mb.1.length = 54 := lX11_init (M := mkC Me (.inl 11)) rfl
theorem hl0 : M0.1.length = 75 := lX12_init (M := mkC Mb (.inl 12)) (ln_mk hlb)
theorem st0 : St M0 := by
  have h1 : M0.1 = shp0 := by decide +kernel
  have h2 : ∀ q ∈ ref0, mR M0 q.1 q.2.1 = some q.2.2 := by decide +kernel
  exact ⟨fun k x hx => by rw [h1]; exact hx, h2⟩
theorem zc0 : Zc M0 := by unfold Zc; decide +kernel
theorem zm0 : Zm M0 := by unfold Zm; decide +kernel
theorem tx0 : Tx M0 := by
  have h : ∀ k ∈ [7, 14], ∀ j, j < 4 → mR M0 k j = none := by decide +kernel
  intro k j x hk hj hx
  have := h k (by rcases hk with rfl | rfl <;> simp) j hj
  rw [this] at hx
  cases hx
theorem okMe : okM Me := fun _ _ => ⟨inI_0, ⟨(by show (-9223372036854775808 : Int) ≤ 0; decide), (by show (0 : Int) < 9223372036854775808; decide)⟩, fun _ h => by cases h⟩
/-- the first state -/
def F0s (M : Mem) : Prop := St M ∧ Zc M ∧ Zm M ∧ Tx M ∧ M.1.length = 75
section LC
variable {l : Launch} {b Ls : Nat} {xs : Nat → Int32} {pc pc' tgt : Nat} {L L' : List (Option AV)} {st : List AV} {M : Mem} {kc ks : Nat} {D' : MD} {as : List AV} {v : AV} {M2 : Mem}
theorem vl_callF {idx k ci n : Nat} {T : u_T} {N : Nat} {stk : List AV} (hd : At code pc (.invokevirtual idx) 3 pc') (hcall : Fn l D' (aR k :: as) M (some v) M2) (hstk : as.reverse ++ aR k :: st = stk) (hm : MOk D' n) (hv : MVi D') (hlk : LkM R_law idx D') (hs : M.1[k]? = some (.inl ci)) (hci : vwCl[ci]? = some ((mY D').cls, T, N)) (hlen : as.length = n) (hlev : mV D' ≤ 1000) (hc1 : kc + mC D' ≤ 600000) (hc2 : ks + mS D' ≤ 7302250) (hsum : (st.map catA).sum ≤ 8) (kk : VL l b Ls xs pc' L (v :: st) M2 (kc + mC D') (ks + mS D')) : VL l b Ls xs pc L stk M kc ks :=
  vl_callV hd hcall hstk hm hv hlk hs hci hlen hlev hc1 hc2 hsum (fun r M' h _ => by obtain ⟨rfl, rfl⟩ := h; exact kk)
end LC
theorem zX11_corner {M : Mem} (z : Zm M) (si : Int) : Zm (gX11_corner_0 M si) := by
  unfold gX11_corner_0 gX6_addCorner_0
  repeat' split
  all_goals exact z
theorem zX11_goal {M : Mem} (z : Zm M) (c : Int) : Zm (gX11_goal_0 M c) := by
  unfold gX11_goal_0 gX6_setGoal_0
  repeat' split
  all_goals exact z
theorem zX11_end {M : Mem} (z : Zm M) (c : Int) : Zm (gX11_end_0 M c) := by
  unfold gX11_end_0
  repeat' split
  all_goals exact z
theorem zX11_by {M : Mem} (z : Zm M) (c : Int) : Zm (gX11_by_0 M c) := by
  unfold gX11_by_0
  repeat' split
  all_goals exact z
theorem zpb {M : Mem} (z : Zm M) (v : Int) : Zm (gX11_putBytes M v) := by
  unfold gX11_putBytes
  exact z
theorem zX11_feed {M : Mem} (z : Zm M) (a b c d e : Int) : Zm (gX11_feed M a b c d e) := by
  unfold gX11_feed
  split
  · exact z
  · exact zpb (zpb (zpb (zpb (zpb z _) _) _) _) _
theorem tX11_feed {M : Mem} (h : St M) (a b c d e : Int) : St (gX11_feed M a b c d e) := by
  unfold gX11_feed
  split
  · exact h
  · exact tX11_putBytes (tX11_putBytes (tX11_putBytes (tX11_putBytes (tX11_putBytes h _) _) _) _) _
theorem offI {M : Mem} {k j : Nat} {v : Int} {a b : Nat} (h : ¬ (a = k ∧ b = j)) : mI (sI M k j v) a b = mI M a b := by
  rw [mI_sI, if_neg h]
theorem offR {M : Mem} {k j : Nat} {v : Option Nat} {a b : Nat} : mI (sR M k j v) a b = mI M a b := rfl
theorem offC {M : Mem} {k2 k1 dp sp n a b : Nat} (h : ¬ a = k2) : mI (cpI M k2 k1 dp sp n) a b = mI M a b := by
  rw [mI_cpI, if_neg (fun e => h e.1)]
theorem k6i {M : Mem} {a : Nat} (b : Nat) (h : a = 1 ∨ 54 ≤ a) : mI (gX6_copyFrom_i M) a b = mI M a b := by
  unfold gX6_copyFrom_i
  refine Eq.trans (offI (by omega)) ?_
  refine Eq.trans (offI (by omega)) ?_
  refine Eq.trans (offI (by omega)) ?_
  refine Eq.trans (offI (by omega)) ?_
  refine Eq.trans (offI (by omega)) ?_
  refine Eq.trans (offI (by omega)) ?_
  refine Eq.trans offR ?_
  refine Eq.trans offR ?_
  refine Eq.trans offR ?_
  refine Eq.trans offR ?_
  refine Eq.trans (offC (by omega)) ?_
  refine Eq.trans (offC (by omega)) ?_
  refine Eq.trans (offC (by omega)) ?_
  refine Eq.trans (offC (by omega)) ?_
  refine Eq.trans (offC (by omega)) ?_
  exact rfl
theorem k8i {M : Mem} {a : Nat} (b : Nat) (h : a = 1 ∨ 54 ≤ a) : mI (gX8_copyFrom_i M) a b = mI M a b := by
  unfold gX8_copyFrom_i
  refine Eq.trans (offI (by omega)) ?_
  refine Eq.trans (offI (by omega)) ?_
  refine Eq.trans (offC (by omega)) ?_
  refine Eq.trans (offC (by omega)) ?_
  exact rfl
theorem kIm {M : Mem} {a : Nat} (b : Nat) (h : a = 1 ∨ 54 ≤ a) : mI (gX11_image M) a b = mI M a b := by
  unfold gX11_image
  exact (k8i b h).trans (k6i b h)
theorem k6b {M : Mem} {a : Nat} (b : Nat) (h : 54 ≤ a) : mI (gX6_copyFrom_b M) a b = mI M a b := by
  unfold gX6_copyFrom_b
  refine Eq.trans (offI (by omega)) ?_
  refine Eq.trans (offI (by omega)) ?_
  refine Eq.trans (offI (by omega)) ?_
  refine Eq.trans (offI (by omega)) ?_
  refine Eq.trans (offI (by omega)) ?_
  refine Eq.trans (offI (by omega)) ?_
  refine Eq.trans offR ?_
  refine Eq.trans offR ?_
  refine Eq.trans offR ?_
  refine Eq.trans offR ?_
  refine Eq.trans (offC (by omega)) ?_
  refine Eq.trans (offC (by omega)) ?_
  refine Eq.trans (offC (by omega)) ?_
  refine Eq.trans (offC (by omega)) ?_
  refine Eq.trans (offC (by omega)) ?_
  exact rfl
theorem k6b1 {M : Mem} : mI (gX6_copyFrom_b M) 1 6 = mI M 8 6 := by
  unfold gX6_copyFrom_b
  refine Eq.trans (offI (by decide)) ?_
  refine Eq.trans (offI (by decide)) ?_
  refine Eq.trans (offI (by decide)) ?_
  refine Eq.trans (offI (by decide)) ?_
  refine Eq.trans (offI (by decide)) ?_
  refine Eq.trans (mI_sI _ _ _ _ _ _) ?_
  refine Eq.trans (if_pos (by decide)) ?_
  refine Eq.trans offR ?_
  refine Eq.trans offR ?_
  refine Eq.trans offR ?_
  refine Eq.trans offR ?_
  refine Eq.trans (offC (by decide)) ?_
  refine Eq.trans (offC (by decide)) ?_
  refine Eq.trans (offC (by decide)) ?_
  refine Eq.trans (offC (by decide)) ?_
  refine Eq.trans (offC (by decide)) ?_
  exact rfl
theorem k8b {M : Mem} {a : Nat} (b : Nat) (h : a = 1 ∨ 54 ≤ a) : mI (gX8_copyFrom_b M) a b = mI M a b := by
  unfold gX8_copyFrom_b
  refine Eq.trans (offI (by omega)) ?_
  refine Eq.trans (offI (by omega)) ?_
  refine Eq.trans (offC (by omega)) ?_
  refine Eq.trans (offC (by omega)) ?_
  exact rfl
theorem kBa {M : Mem} {a : Nat} (b : Nat) (h : 54 ≤ a) : mI (gX11_back M) a b = mI M a b := by
  unfold gX11_back
  exact (k8b b (.inr h)).trans (k6b b h)
theorem zX11_image {M : Mem} (z : Zm M) : Zm (gX11_image M) := by
  unfold Zm at z ⊢
  rw [kIm 0 (a := 55) (.inr (by decide)), kIm 1 (a := 55) (.inr (by decide)), kIm 2 (a := 55) (.inr (by decide)), kIm 3 (a := 55) (.inr (by decide)), kIm 4 (a := 55) (.inr (by decide)), kIm 5 (a := 55) (.inr (by decide)), kIm 6 (a := 55) (.inr (by decide)), kIm 7 (a := 55) (.inr (by decide)), kIm 256 (a := 55) (.inr (by decide)), kIm 6 (a := 54) (.inr (by decide)), kIm 7 (a := 54) (.inr (by decide)), kIm 8 (a := 54) (.inr (by decide)), kIm 0 (a := 56) (.inr (by decide))]
  exact z
theorem zX11_back {M : Mem} (z : Zm M) : Zm (gX11_back M) := by
  unfold Zm at z ⊢
  rw [kBa 0 (a := 55) (by decide), kBa 1 (a := 55) (by decide), kBa 2 (a := 55) (by decide), kBa 3 (a := 55) (by decide), kBa 4 (a := 55) (by decide), kBa 5 (a := 55) (by decide), kBa 6 (a := 55) (by decide), kBa 7 (a := 55) (by decide), kBa 256 (a := 55) (by decide), kBa 6 (a := 54) (by decide), kBa 7 (a := 54) (by decide), kBa 8 (a := 54) (by decide), kBa 0 (a := 56) (by decide)]
  exact z
theorem zReads {M : Mem} (z : Zm M) : Zm (gX4_reads_z M) := by
  unfold gX4_reads_z
  exact z
theorem zX11_text {M : Mem} (hl : M.1.length = 75) (z : Zm M) : Zm (gText M) := by
  have z1 := zReads z
  have key : ∀ a b : Nat, 54 ≤ a → a < 75 → mI (gText M) a b = mI (gX4_reads_z M) a b := by
    intro a b h1 h2
    unfold gText
    rw [mI_sI, if_neg (by omega)]
    rw [mI_sR, mI_gRead (by rw [ls_sI, ls_sI, ls_sI, rdl]; exact hl) h2]
    rw [mI_sI, if_neg (by omega), mI_sI, if_neg (by omega), mI_sI, if_neg (by omega)]
  unfold Zm at z1 ⊢
  rw [key 55 0 (by decide) (by decide), key 55 1 (by decide) (by decide), key 55 2 (by decide) (by decide), key 55 3 (by decide) (by decide), key 55 4 (by decide) (by decide), key 55 5 (by decide) (by decide), key 55 6 (by decide) (by decide), key 55 7 (by decide) (by decide), key 55 256 (by decide) (by decide), key 54 6 (by decide) (by decide), key 54 7 (by decide) (by decide), key 54 8 (by decide) (by decide), key 56 0 (by decide) (by decide)]
  exact z1
theorem e_corner (s : Int) : fX11_corner_0 s = fX12_corner_0 s := by
  unfold fX11_corner_0 fX6_addCorner_0 fX12_corner_0 fX12_isIn
  repeat' split
  all_goals omega
theorem e_goal (c : Int) : fX11_goal_0 c = fX12_goal_0 c := by
  unfold fX11_goal_0 fX6_setGoal_0 fX12_goal_0
  rfl
theorem e_end (n : Int) : fX11_end_0 n = fX12_end_0 n := by
  unfold fX11_end_0 fX12_end_0 fX12_isIn
  repeat' split
  all_goals omega
theorem e_by (n : Int) : fX11_by_0 n = fX12_by_0 n := by
  unfold fX11_by_0 fX12_by_0 fX12_isIn
  repeat' split
  all_goals omega
theorem e_clash (i : Int) : fX11_clash_0 i = fX12_clash_0 i := rfl
theorem e_about {M : Mem} (z : Zm M) (w : Int) : fX11_about_0 w = fX12_about_0 M w := by
  obtain ⟨z55_0, z55_1, z55_2, z55_3, z55_4, z55_5, z55_6, z55_7, z55_256, z54_6, z54_7, z54_8, z56_0⟩ := id z
  unfold fX12_about_0
  by_cases h : fX12_isIn w 0 7 = 0
  · rw [if_pos h]
    rw [isIn_iff] at h
    unfold fX11_about_0
    repeat' split
    all_goals omega
  · rw [if_neg h]
    rw [isIn_iff] at h
    rcases (show w = 0 ∨ w = 1 ∨ w = 2 ∨ w = 3 ∨ w = 4 ∨ w = 5 ∨ w = 6 ∨ w = 7 by omega) with rfl | rfl | rfl | rfl | rfl | rfl | rfl | rfl
    · exact z55_0.symm
    · exact z55_1.symm
    · exact z55_2.symm
    · exact z55_3.symm
    · exact z55_4.symm
    · exact z55_5.symm
    · exact z55_6.symm
    · exact z55_7.symm
theorem e_feed {M M2 : Mem} (z : Zc M) (z2 : Zm M2) (a b c d e : Int) : fX11_feed M a b c d e = fX12_feed M2 a b c d e := by
  obtain ⟨z1_6, z1_7, z1_8, z1_9, z1_10, z1_11, z16_0, z16_3, z15_2, z0_13, z0_14, z0_15, z8_6⟩ := id z
  obtain ⟨z55_0, z55_1, z55_2, z55_3, z55_4, z55_5, z55_6, z55_7, z55_256, z54_6, z54_7, z54_8, z56_0⟩ := id z2
  unfold fX11_feed fX12_feed
  rw [z0_13, z54_6]
theorem e_image {M M2 : Mem} (z : Zc M) (z2 : Zm M2) : fX11_image M = fX12_image M2 := by
  obtain ⟨z1_6, z1_7, z1_8, z1_9, z1_10, z1_11, z16_0, z16_3, z15_2, z0_13, z0_14, z0_15, z8_6⟩ := id z
  obtain ⟨z55_0, z55_1, z55_2, z55_3, z55_4, z55_5, z55_6, z55_7, z55_256, z54_6, z54_7, z54_8, z56_0⟩ := id z2
  have e1 : fX11_image M = mI M 1 6 := (show mI (gX11_image M) 1 6 = mI M 1 6 from kIm 6 (.inl rfl))
  have e2 : fX12_image M2 = mI M2 55 0 := rfl
  rw [e1, e2, z1_6, z55_0]
theorem e_back {M M2 : Mem} (z : Zc M) (z2 : Zm M2) : fX11_back M = fX12_back M2 := by
  obtain ⟨z1_6, z1_7, z1_8, z1_9, z1_10, z1_11, z16_0, z16_3, z15_2, z0_13, z0_14, z0_15, z8_6⟩ := id z
  obtain ⟨z55_0, z55_1, z55_2, z55_3, z55_4, z55_5, z55_6, z55_7, z55_256, z54_6, z54_7, z54_8, z56_0⟩ := id z2
  have e1 : fX11_back M = mI M 8 6 := (k8b 6 (.inl rfl)).trans k6b1
  have e2 : fX12_back M2 = mI M2 56 0 := rfl
  rw [e1, e2, z8_6, z56_0]
set_option maxRecDepth 8000 in
theorem lc_corner {l : Launch} {b : Nat} {xs : Nat → Int32} {M : Mem} (hF : F0s M) (fin : ∀ (M2 : Mem) (kc ks : Nat), kc ≤ 600000 → ks ≤ 7302250 → VL l b 6 xs 1694 [none, some (aR 0), some (aR 54), some (aI 0)] [] M2 kc ks) : VL l b 6 xs 220 [none, some (aR 0), some (aR 54), some (aI 0)] [] M 75 12789 := by
  obtain ⟨hS, zc, zm, hx, hl⟩ := hF
  refine vl_aload_n dL_law_220 rfl ?_
  refine vl_sk dL_law_221 dL_law_222 dL_law_223 dL_law_224 dL_law_225 rfl rfl (by decide) (by decide) (by decide) ?_
  refine vl_topI (xs 1).toInt rfl ?_
  refine vl_callF dL_law_226 (qX11_corner_0 hS zc ((xs 1).toInt)) rfl okX11_corner viX11_corner lkL_13 (s_0 hS) cl_11 rfl (Nat.le_of_ble_eq_true rfl) (Nat.le_of_ble_eq_true rfl) (Nat.le_of_ble_eq_true rfl) (Nat.le_of_ble_eq_true rfl) ?_
  have hs1 : St (gX11_corner_0 M ((xs 1).toInt)) := tX11_corner_0 hS ((xs 1).toInt)
  have hz1 : Zm (gX11_corner_0 M ((xs 1).toInt)) := zX11_corner zm ((xs 1).toInt)
  refine vl_aload_n dL_law_229 rfl ?_
  refine vl_sk dL_law_230 dL_law_231 dL_law_232 dL_law_233 dL_law_234 rfl rfl (by decide) (by decide) (by decide) ?_
  refine vl_topI (xs 1).toInt rfl ?_
  refine vl_callF dL_law_235 (qX12_corner_0 hs1 hz1 ((xs 1).toInt)) rfl okX12_corner viX12_corner lkL_17 (s_54 hs1) cl_12 rfl (Nat.le_of_ble_eq_true rfl) (Nat.le_of_ble_eq_true rfl) (Nat.le_of_ble_eq_true rfl) (Nat.le_of_ble_eq_true rfl) ?_
  refine vl_icmp_eq dL_law_238 (fun _ => ?_) (fun h9 => absurd (e_corner ((xs 1).toInt)) h9)
  exact fin _ _ _ (Nat.le_of_ble_eq_true rfl) (Nat.le_of_ble_eq_true rfl)
set_option maxRecDepth 8000 in
theorem lc_street {l : Launch} {b : Nat} {xs : Nat → Int32} {M : Mem} (hF : F0s M) (fin : ∀ (M2 : Mem) (kc ks : Nat), kc ≤ 600000 → ks ≤ 7302250 → VL l b 6 xs 1694 [none, some (aR 0), some (aR 54), some (aI 0)] [] M2 kc ks) : VL l b 6 xs 243 [none, some (aR 0), some (aR 54), some (aI 0)] [] M 75 12789 := by
  obtain ⟨hS, zc, zm, hx, hl⟩ := hF
  refine vl_aload_n dL_law_243 rfl ?_
  refine vl_sk dL_law_244 dL_law_245 dL_law_246 dL_law_247 dL_law_248 rfl rfl (by decide) (by decide) (by decide) ?_
  refine vl_topI (xs 1).toInt rfl ?_
  refine vl_sk dL_law_249 dL_law_250 dL_law_251 dL_law_252 dL_law_253 rfl rfl (by decide) (by decide) (by decide) ?_
  refine vl_topI (xs 2).toInt rfl ?_
  refine vl_sk dL_law_254 dL_law_255 dL_law_256 dL_law_257 dL_law_258 rfl rfl (by decide) (by decide) (by decide) ?_
  refine vl_topI (xs 3).toInt rfl ?_
  refine vl_sk dL_law_259 dL_law_260 dL_law_261 dL_law_262 dL_law_263 rfl rfl (by decide) (by decide) (by decide) ?_
  refine vl_topI (xs 4).toInt rfl ?_
  refine vl_if_eq dL_law_264 (fun g0 => ?_) (fun g0 => ?_)
  · refine vl_iconst dL_law_271 rfl ?_
    refine vl_callF dL_law_272 (qX11_street_0 hS zc ((xs 1).toInt) ((xs 2).toInt) ((xs 3).toInt) 0) rfl okX11_street viX11_street lkL_18 (s_0 hS) cl_11 rfl (Nat.le_of_ble_eq_true rfl) (Nat.le_of_ble_eq_true rfl) (Nat.le_of_ble_eq_true rfl) (Nat.le_of_ble_eq_true rfl) ?_
    have hs1 := hS
    have hz1 := zm
    refine vl_aload_n dL_law_275 rfl ?_
    refine vl_sk dL_law_276 dL_law_277 dL_law_278 dL_law_279 dL_law_280 rfl rfl (by decide) (by decide) (by decide) ?_
    refine vl_topI (xs 1).toInt rfl ?_
    refine vl_sk dL_law_281 dL_law_282 dL_law_283 dL_law_284 dL_law_285 rfl rfl (by decide) (by decide) (by decide) ?_
    refine vl_topI (xs 2).toInt rfl ?_
    refine vl_sk dL_law_286 dL_law_287 dL_law_288 dL_law_289 dL_law_290 rfl rfl (by decide) (by decide) (by decide) ?_
    refine vl_topI (xs 3).toInt rfl ?_
    refine vl_sk dL_law_291 dL_law_292 dL_law_293 dL_law_294 dL_law_295 rfl rfl (by decide) (by decide) (by decide) ?_
    refine vl_topI (xs 4).toInt rfl ?_
    refine vl_if_eq dL_law_296 (fun _ => ?_) (fun h9 => absurd g0 h9)
    refine vl_iconst dL_law_303 rfl ?_
    refine vl_callF dL_law_304 (qX12_street_0 hs1 hz1 ((xs 1).toInt) ((xs 2).toInt) ((xs 3).toInt) 0) rfl okX12_street viX12_street lkL_22 (s_54 hs1) cl_12 rfl (Nat.le_of_ble_eq_true rfl) (Nat.le_of_ble_eq_true rfl) (Nat.le_of_ble_eq_true rfl) (Nat.le_of_ble_eq_true rfl) ?_
    refine vl_icmp_eq dL_law_307 (fun _ => ?_) (fun h9 => absurd (rfl) h9)
    exact fin _ _ _ (Nat.le_of_ble_eq_true rfl) (Nat.le_of_ble_eq_true rfl)
  · refine vl_iconst dL_law_267 rfl ?_
    refine vl_goto dL_law_268 ?_
    refine vl_callF dL_law_272 (qX11_street_0 hS zc ((xs 1).toInt) ((xs 2).toInt) ((xs 3).toInt) 1) rfl okX11_street viX11_street lkL_18 (s_0 hS) cl_11 rfl (Nat.le_of_ble_eq_true rfl) (Nat.le_of_ble_eq_true rfl) (Nat.le_of_ble_eq_true rfl) (Nat.le_of_ble_eq_true rfl) ?_
    have hs1 := hS
    have hz1 := zm
    refine vl_aload_n dL_law_275 rfl ?_
    refine vl_sk dL_law_276 dL_law_277 dL_law_278 dL_law_279 dL_law_280 rfl rfl (by decide) (by decide) (by decide) ?_
    refine vl_topI (xs 1).toInt rfl ?_
    refine vl_sk dL_law_281 dL_law_282 dL_law_283 dL_law_284 dL_law_285 rfl rfl (by decide) (by decide) (by decide) ?_
    refine vl_topI (xs 2).toInt rfl ?_
    refine vl_sk dL_law_286 dL_law_287 dL_law_288 dL_law_289 dL_law_290 rfl rfl (by decide) (by decide) (by decide) ?_
    refine vl_topI (xs 3).toInt rfl ?_
    refine vl_sk dL_law_291 dL_law_292 dL_law_293 dL_law_294 dL_law_295 rfl rfl (by decide) (by decide) (by decide) ?_
    refine vl_topI (xs 4).toInt rfl ?_
    refine vl_if_eq dL_law_296 (fun h9 => absurd h9 g0) (fun _ => ?_)
    refine vl_iconst dL_law_299 rfl ?_
    refine vl_goto dL_law_300 ?_
    refine vl_callF dL_law_304 (qX12_street_0 hs1 hz1 ((xs 1).toInt) ((xs 2).toInt) ((xs 3).toInt) 1) rfl okX12_street viX12_street lkL_22 (s_54 hs1) cl_12 rfl (Nat.le_of_ble_eq_true rfl) (Nat.le_of_ble_eq_true rfl) (Nat.le_of_ble_eq_true rfl) (Nat.le_of_ble_eq_true rfl) ?_
    refine vl_icmp_eq dL_law_307 (fun _ => ?_) (fun h9 => absurd (rfl) h9)
    exact fin _ _ _ (Nat.le_of_ble_eq_true rfl) (Nat.le_of_ble_eq_true rfl)
set_option maxRecDepth 8000 in
theorem lc_goal {l : Launch} {b : Nat} {xs : Nat → Int32} {M : Mem} (hF : F0s M) (fin : ∀ (M2 : Mem) (kc ks : Nat), kc ≤ 600000 → ks ≤ 7302250 → VL l b 6 xs 1694 [none, some (aR 0), some (aR 54), some (aI 0)] [] M2 kc ks) : VL l b 6 xs 312 [none, some (aR 0), some (aR 54), some (aI 0)] [] M 75 12789 := by
  obtain ⟨hS, zc, zm, hx, hl⟩ := hF
  refine vl_aload_n dL_law_312 rfl ?_
  refine vl_sk dL_law_313 dL_law_314 dL_law_315 dL_law_316 dL_law_317 rfl rfl (by decide) (by decide) (by decide) ?_
  refine vl_topI (xs 1).toInt rfl ?_
  refine vl_callF dL_law_318 (qX11_goal_0 hS zc ((xs 1).toInt)) rfl okX11_goal viX11_goal lkL_23 (s_0 hS) cl_11 rfl (Nat.le_of_ble_eq_true rfl) (Nat.le_of_ble_eq_true rfl) (Nat.le_of_ble_eq_true rfl) (Nat.le_of_ble_eq_true rfl) ?_
  have hs1 : St (gX11_goal_0 M ((xs 1).toInt)) := tX11_goal_0 hS ((xs 1).toInt)
  have hz1 : Zm (gX11_goal_0 M ((xs 1).toInt)) := zX11_goal zm ((xs 1).toInt)
  refine vl_aload_n dL_law_321 rfl ?_
  refine vl_sk dL_law_322 dL_law_323 dL_law_324 dL_law_325 dL_law_326 rfl rfl (by decide) (by decide) (by decide) ?_
  refine vl_topI (xs 1).toInt rfl ?_
  refine vl_callF dL_law_327 (qX12_goal_0 hs1 hz1 ((xs 1).toInt)) rfl okX12_goal viX12_goal lkL_27 (s_54 hs1) cl_12 rfl (Nat.le_of_ble_eq_true rfl) (Nat.le_of_ble_eq_true rfl) (Nat.le_of_ble_eq_true rfl) (Nat.le_of_ble_eq_true rfl) ?_
  refine vl_icmp_eq dL_law_330 (fun _ => ?_) (fun h9 => absurd (e_goal ((xs 1).toInt)) h9)
  exact fin _ _ _ (Nat.le_of_ble_eq_true rfl) (Nat.le_of_ble_eq_true rfl)
set_option maxRecDepth 8000 in
theorem lc_teller {l : Launch} {b : Nat} {xs : Nat → Int32} {M : Mem} (hF : F0s M) (fin : ∀ (M2 : Mem) (kc ks : Nat), kc ≤ 600000 → ks ≤ 7302250 → VL l b 6 xs 1694 [none, some (aR 0), some (aR 54), some (aI 0)] [] M2 kc ks) : VL l b 6 xs 335 [none, some (aR 0), some (aR 54), some (aI 0)] [] M 75 12789 := by
  obtain ⟨hS, zc, zm, hx, hl⟩ := hF
  refine vl_aload_n dL_law_335 rfl ?_
  refine vl_sk dL_law_336 dL_law_337 dL_law_338 dL_law_339 dL_law_340 rfl rfl (by decide) (by decide) (by decide) ?_
  refine vl_topI (xs 1).toInt rfl ?_
  refine vl_sk dL_law_341 dL_law_342 dL_law_343 dL_law_344 dL_law_345 rfl rfl (by decide) (by decide) (by decide) ?_
  refine vl_topI (xs 2).toInt rfl ?_
  refine vl_sk dL_law_346 dL_law_347 dL_law_348 dL_law_349 dL_law_350 rfl rfl (by decide) (by decide) (by decide) ?_
  refine vl_topI (xs 3).toInt rfl ?_
  refine vl_sk dL_law_351 dL_law_352 dL_law_353 dL_law_354 dL_law_355 rfl rfl (by decide) (by decide) (by decide) ?_
  refine vl_topI (xs 4).toInt rfl ?_
  refine vl_callF dL_law_356 (qX11_teller_0 hS zc ((xs 1).toInt) ((xs 2).toInt) ((xs 3).toInt) ((xs 4).toInt)) rfl okX11_teller viX11_teller lkL_28 (s_0 hS) cl_11 rfl (Nat.le_of_ble_eq_true rfl) (Nat.le_of_ble_eq_true rfl) (Nat.le_of_ble_eq_true rfl) (Nat.le_of_ble_eq_true rfl) ?_
  have hs1 := hS
  have hz1 := zm
  refine vl_aload_n dL_law_359 rfl ?_
  refine vl_sk dL_law_360 dL_law_361 dL_law_362 dL_law_363 dL_law_364 rfl rfl (by decide) (by decide) (by decide) ?_
  refine vl_topI (xs 1).toInt rfl ?_
  refine vl_sk dL_law_365 dL_law_366 dL_law_367 dL_law_368 dL_law_369 rfl rfl (by decide) (by decide) (by decide) ?_
  refine vl_topI (xs 2).toInt rfl ?_
  refine vl_sk dL_law_370 dL_law_371 dL_law_372 dL_law_373 dL_law_374 rfl rfl (by decide) (by decide) (by decide) ?_
  refine vl_topI (xs 3).toInt rfl ?_
  refine vl_sk dL_law_375 dL_law_376 dL_law_377 dL_law_378 dL_law_379 rfl rfl (by decide) (by decide) (by decide) ?_
  refine vl_topI (xs 4).toInt rfl ?_
  refine vl_callF dL_law_380 (qX12_teller_0 hs1 hz1 ((xs 1).toInt) ((xs 2).toInt) ((xs 3).toInt) ((xs 4).toInt)) rfl okX12_teller viX12_teller lkL_32 (s_54 hs1) cl_12 rfl (Nat.le_of_ble_eq_true rfl) (Nat.le_of_ble_eq_true rfl) (Nat.le_of_ble_eq_true rfl) (Nat.le_of_ble_eq_true rfl) ?_
  refine vl_icmp_eq dL_law_383 (fun _ => ?_) (fun h9 => absurd (rfl) h9)
  exact fin _ _ _ (Nat.le_of_ble_eq_true rfl) (Nat.le_of_ble_eq_true rfl)
set_option maxRecDepth 8000 in
theorem lc_telling {l : Launch} {b : Nat} {xs : Nat → Int32} {M : Mem} (hF : F0s M) (fin : ∀ (M2 : Mem) (kc ks : Nat), kc ≤ 600000 → ks ≤ 7302250 → VL l b 6 xs 1694 [none, some (aR 0), some (aR 54), some (aI 0)] [] M2 kc ks) : VL l b 6 xs 388 [none, some (aR 0), some (aR 54), some (aI 0)] [] M 75 12789 := by
  obtain ⟨hS, zc, zm, hx, hl⟩ := hF
  refine vl_aload_n dL_law_388 rfl ?_
  refine vl_sk dL_law_389 dL_law_390 dL_law_391 dL_law_392 dL_law_393 rfl rfl (by decide) (by decide) (by decide) ?_
  refine vl_topI (xs 1).toInt rfl ?_
  refine vl_sk dL_law_394 dL_law_395 dL_law_396 dL_law_397 dL_law_398 rfl rfl (by decide) (by decide) (by decide) ?_
  refine vl_topI (xs 2).toInt rfl ?_
  refine vl_sk dL_law_399 dL_law_400 dL_law_401 dL_law_402 dL_law_403 rfl rfl (by decide) (by decide) (by decide) ?_
  refine vl_topI (xs 3).toInt rfl ?_
  refine vl_sk dL_law_404 dL_law_405 dL_law_406 dL_law_407 dL_law_408 rfl rfl (by decide) (by decide) (by decide) ?_
  refine vl_topI (xs 4).toInt rfl ?_
  refine vl_callF dL_law_409 (qX11_telling_0 hS zc ((xs 1).toInt) ((xs 2).toInt) ((xs 3).toInt) ((xs 4).toInt)) rfl okX11_telling viX11_telling lkL_33 (s_0 hS) cl_11 rfl (Nat.le_of_ble_eq_true rfl) (Nat.le_of_ble_eq_true rfl) (Nat.le_of_ble_eq_true rfl) (Nat.le_of_ble_eq_true rfl) ?_
  have hs1 := hS
  have hz1 := zm
  refine vl_aload_n dL_law_412 rfl ?_
  refine vl_sk dL_law_413 dL_law_414 dL_law_415 dL_law_416 dL_law_417 rfl rfl (by decide) (by decide) (by decide) ?_
  refine vl_topI (xs 1).toInt rfl ?_
  refine vl_sk dL_law_418 dL_law_419 dL_law_420 dL_law_421 dL_law_422 rfl rfl (by decide) (by decide) (by decide) ?_
  refine vl_topI (xs 2).toInt rfl ?_
  refine vl_sk dL_law_423 dL_law_424 dL_law_425 dL_law_426 dL_law_427 rfl rfl (by decide) (by decide) (by decide) ?_
  refine vl_topI (xs 3).toInt rfl ?_
  refine vl_sk dL_law_428 dL_law_429 dL_law_430 dL_law_431 dL_law_432 rfl rfl (by decide) (by decide) (by decide) ?_
  refine vl_topI (xs 4).toInt rfl ?_
  refine vl_callF dL_law_433 (qX12_telling_0 hs1 hz1 ((xs 1).toInt) ((xs 2).toInt) ((xs 3).toInt) ((xs 4).toInt)) rfl okX12_telling viX12_telling lkL_36 (s_54 hs1) cl_12 rfl (Nat.le_of_ble_eq_true rfl) (Nat.le_of_ble_eq_true rfl) (Nat.le_of_ble_eq_true rfl) (Nat.le_of_ble_eq_true rfl) ?_
  refine vl_icmp_eq dL_law_436 (fun _ => ?_) (fun h9 => absurd (rfl) h9)
  exact fin _ _ _ (Nat.le_of_ble_eq_true rfl) (Nat.le_of_ble_eq_true rfl)
set_option maxRecDepth 8000 in
theorem lc_feed {l : Launch} {b : Nat} {xs : Nat → Int32} {M : Mem} (hF : F0s M) (fin : ∀ (M2 : Mem) (kc ks : Nat), kc ≤ 600000 → ks ≤ 7302250 → VL l b 6 xs 1694 [none, some (aR 0), some (aR 54), some (aI 0)] [] M2 kc ks) : VL l b 6 xs 441 [none, some (aR 0), some (aR 54), some (aI 0)] [] M 75 12789 := by
  obtain ⟨hS, zc, zm, hx, hl⟩ := hF
  refine vl_aload_n dL_law_441 rfl ?_
  refine vl_sk dL_law_442 dL_law_443 dL_law_444 dL_law_445 dL_law_446 rfl rfl (by decide) (by decide) (by decide) ?_
  refine vl_topI (xs 1).toInt rfl ?_
  refine vl_sk dL_law_447 dL_law_448 dL_law_449 dL_law_450 dL_law_451 rfl rfl (by decide) (by decide) (by decide) ?_
  refine vl_topI (xs 2).toInt rfl ?_
  refine vl_sk dL_law_452 dL_law_453 dL_law_454 dL_law_455 dL_law_456 rfl rfl (by decide) (by decide) (by decide) ?_
  refine vl_topI (xs 3).toInt rfl ?_
  refine vl_sk dL_law_457 dL_law_458 dL_law_459 dL_law_460 dL_law_461 rfl rfl (by decide) (by decide) (by decide) ?_
  refine vl_topI (xs 4).toInt rfl ?_
  refine vl_sk dL_law_462 dL_law_463 dL_law_464 dL_law_465 dL_law_466 rfl rfl (by decide) (by decide) (by decide) ?_
  refine vl_topI (xs 5).toInt rfl ?_
  refine vl_callF dL_law_467 (qX11_feed hS (by have := zc.2.2.2.2.2.2.2.2.2.1; omega) ((xs 1).toInt) ((xs 2).toInt) ((xs 3).toInt) ((xs 4).toInt) ((xs 5).toInt)) rfl okX11_feed viX11_feed lkL_37 (s_0 hS) cl_11 rfl (Nat.le_of_ble_eq_true rfl) (Nat.le_of_ble_eq_true rfl) (Nat.le_of_ble_eq_true rfl) (Nat.le_of_ble_eq_true rfl) ?_
  have hs1 : St (gX11_feed M ((xs 1).toInt) ((xs 2).toInt) ((xs 3).toInt) ((xs 4).toInt) ((xs 5).toInt)) := tX11_feed hS ((xs 1).toInt) ((xs 2).toInt) ((xs 3).toInt) ((xs 4).toInt) ((xs 5).toInt)
  have hz1 : Zm (gX11_feed M ((xs 1).toInt) ((xs 2).toInt) ((xs 3).toInt) ((xs 4).toInt) ((xs 5).toInt)) := zX11_feed zm ((xs 1).toInt) ((xs 2).toInt) ((xs 3).toInt) ((xs 4).toInt) ((xs 5).toInt)
  refine vl_aload_n dL_law_470 rfl ?_
  refine vl_sk dL_law_471 dL_law_472 dL_law_473 dL_law_474 dL_law_475 rfl rfl (by decide) (by decide) (by decide) ?_
  refine vl_topI (xs 1).toInt rfl ?_
  refine vl_sk dL_law_476 dL_law_477 dL_law_478 dL_law_479 dL_law_480 rfl rfl (by decide) (by decide) (by decide) ?_
  refine vl_topI (xs 2).toInt rfl ?_
  refine vl_sk dL_law_481 dL_law_482 dL_law_483 dL_law_484 dL_law_485 rfl rfl (by decide) (by decide) (by decide) ?_
  refine vl_topI (xs 3).toInt rfl ?_
  refine vl_sk dL_law_486 dL_law_487 dL_law_488 dL_law_489 dL_law_490 rfl rfl (by decide) (by decide) (by decide) ?_
  refine vl_topI (xs 4).toInt rfl ?_
  refine vl_sk dL_law_491 dL_law_492 dL_law_493 dL_law_494 dL_law_495 rfl rfl (by decide) (by decide) (by decide) ?_
  refine vl_topI (xs 5).toInt rfl ?_
  refine vl_callF dL_law_496 (qX12_feed hs1 (by have := hz1.2.2.2.2.2.2.2.2.2.1; omega) ((xs 1).toInt) ((xs 2).toInt) ((xs 3).toInt) ((xs 4).toInt) ((xs 5).toInt)) rfl okX12_feed viX12_feed lkL_41 (s_54 hs1) cl_12 rfl (Nat.le_of_ble_eq_true rfl) (Nat.le_of_ble_eq_true rfl) (Nat.le_of_ble_eq_true rfl) (Nat.le_of_ble_eq_true rfl) ?_
  refine vl_icmp_eq dL_law_499 (fun _ => ?_) (fun h9 => absurd (e_feed zc hz1 ((xs 1).toInt) ((xs 2).toInt) ((xs 3).toInt) ((xs 4).toInt) ((xs 5).toInt)) h9)
  exact fin _ _ _ (Nat.le_of_ble_eq_true rfl) (Nat.le_of_ble_eq_true rfl)
set_option maxRecDepth 8000 in
theorem lc_end {l : Launch} {b : Nat} {xs : Nat → Int32} {M : Mem} (hF : F0s M) (fin : ∀ (M2 : Mem) (kc ks : Nat), kc ≤ 600000 → ks ≤ 7302250 → VL l b 6 xs 1694 [none, some (aR 0), some (aR 54), some (aI 0)] [] M2 kc ks) : VL l b 6 xs 504 [none, some (aR 0), some (aR 54), some (aI 0)] [] M 75 12789 := by
  obtain ⟨hS, zc, zm, hx, hl⟩ := hF
  refine vl_aload_n dL_law_504 rfl ?_
  refine vl_sk dL_law_505 dL_law_506 dL_law_507 dL_law_508 dL_law_509 rfl rfl (by decide) (by decide) (by decide) ?_
  refine vl_topI (xs 1).toInt rfl ?_
  refine vl_callF dL_law_510 (qX11_end_0 hS zc ((xs 1).toInt)) rfl okX11_end viX11_end lkL_42 (s_0 hS) cl_11 rfl (Nat.le_of_ble_eq_true rfl) (Nat.le_of_ble_eq_true rfl) (Nat.le_of_ble_eq_true rfl) (Nat.le_of_ble_eq_true rfl) ?_
  have hs1 : St (gX11_end_0 M ((xs 1).toInt)) := tX11_end_0 hS ((xs 1).toInt)
  have hz1 : Zm (gX11_end_0 M ((xs 1).toInt)) := zX11_end zm ((xs 1).toInt)
  refine vl_aload_n dL_law_513 rfl ?_
  refine vl_sk dL_law_514 dL_law_515 dL_law_516 dL_law_517 dL_law_518 rfl rfl (by decide) (by decide) (by decide) ?_
  refine vl_topI (xs 1).toInt rfl ?_
  refine vl_callF dL_law_519 (qX12_end_0 hs1 hz1 ((xs 1).toInt)) rfl okX12_end viX12_end lkL_45 (s_54 hs1) cl_12 rfl (Nat.le_of_ble_eq_true rfl) (Nat.le_of_ble_eq_true rfl) (Nat.le_of_ble_eq_true rfl) (Nat.le_of_ble_eq_true rfl) ?_
  refine vl_icmp_eq dL_law_522 (fun _ => ?_) (fun h9 => absurd (e_end ((xs 1).toInt)) h9)
  exact fin _ _ _ (Nat.le_of_ble_eq_true rfl) (Nat.le_of_ble_eq_true rfl)
set_option maxRecDepth 8000 in
theorem lc_text {l : Launch} {b : Nat} {xs : Nat → Int32} {M : Mem} (hF : F0s M) (fin : ∀ (M2 : Mem) (kc ks : Nat), kc ≤ 600000 → ks ≤ 7302250 → VL l b 6 xs 1694 [none, some (aR 0), some (aR 54), some (aI 0)] [] M2 kc ks) : VL l b 6 xs 527 [none, some (aR 0), some (aR 54), some (aI 0)] [] M 75 12789 := by
  obtain ⟨hS, zc, zm, hx, hl⟩ := hF
  refine vl_aload_n dL_law_527 rfl ?_
  refine vl_callF dL_law_528 (qX11_text_z hS zc hl) rfl okX11_text viX11_text lkL_46 (s_0 hS) cl_11 rfl (Nat.le_of_ble_eq_true rfl) (Nat.le_of_ble_eq_true rfl) (Nat.le_of_ble_eq_true rfl) (Nat.le_of_ble_eq_true rfl) ?_
  have hs1 : St (gText M) := tText hS
  have hz1 : Zm (gText M) := zX11_text hl zm
  refine vl_aload_n dL_law_531 rfl ?_
  refine vl_callF dL_law_532 (qX12_text_z hs1 hz1) rfl okX12_text viX12_text lkL_50 (s_54 hs1) cl_12 rfl (Nat.le_of_ble_eq_true rfl) (Nat.le_of_ble_eq_true rfl) (Nat.le_of_ble_eq_true rfl) (Nat.le_of_ble_eq_true rfl) ?_
  refine vl_icmp_eq dL_law_535 (fun _ => ?_) (fun h9 => absurd (rfl) h9)
  exact fin _ _ _ (Nat.le_of_ble_eq_true rfl) (Nat.le_of_ble_eq_true rfl)
set_option maxRecDepth 8000 in
theorem lc_fault {l : Launch} {b : Nat} {xs : Nat → Int32} {M : Mem} (hF : F0s M) (fin : ∀ (M2 : Mem) (kc ks : Nat), kc ≤ 600000 → ks ≤ 7302250 → VL l b 6 xs 1694 [none, some (aR 0), some (aR 54), some (aI 0)] [] M2 kc ks) : VL l b 6 xs 540 [none, some (aR 0), some (aR 54), some (aI 0)] [] M 75 12789 := by
  obtain ⟨hS, zc, zm, hx, hl⟩ := hF
  refine vl_aload_n dL_law_540 rfl ?_
  refine vl_sk dL_law_541 dL_law_542 dL_law_543 dL_law_544 dL_law_545 rfl rfl (by decide) (by decide) (by decide) ?_
  refine vl_topI (xs 1).toInt rfl ?_
  refine vl_callF dL_law_546 (qX11_fault_0 hS zc ((xs 1).toInt)) rfl okX11_fault viX11_fault lkL_51 (s_0 hS) cl_11 rfl (Nat.le_of_ble_eq_true rfl) (Nat.le_of_ble_eq_true rfl) (Nat.le_of_ble_eq_true rfl) (Nat.le_of_ble_eq_true rfl) ?_
  have hs1 := hS
  have hz1 := zm
  refine vl_aload_n dL_law_549 rfl ?_
  refine vl_sk dL_law_550 dL_law_551 dL_law_552 dL_law_553 dL_law_554 rfl rfl (by decide) (by decide) (by decide) ?_
  refine vl_topI (xs 1).toInt rfl ?_
  refine vl_callF dL_law_555 (qX12_fault_0 hs1 hz1 ((xs 1).toInt)) rfl okX12_fault viX12_fault lkL_54 (s_54 hs1) cl_12 rfl (Nat.le_of_ble_eq_true rfl) (Nat.le_of_ble_eq_true rfl) (Nat.le_of_ble_eq_true rfl) (Nat.le_of_ble_eq_true rfl) ?_
  refine vl_icmp_eq dL_law_558 (fun _ => ?_) (fun h9 => absurd (rfl) h9)
  exact fin _ _ _ (Nat.le_of_ble_eq_true rfl) (Nat.le_of_ble_eq_true rfl)
set_option maxRecDepth 8000 in
theorem lc_by {l : Launch} {b : Nat} {xs : Nat → Int32} {M : Mem} (hF : F0s M) (fin : ∀ (M2 : Mem) (kc ks : Nat), kc ≤ 600000 → ks ≤ 7302250 → VL l b 6 xs 1694 [none, some (aR 0), some (aR 54), some (aI 0)] [] M2 kc ks) : VL l b 6 xs 563 [none, some (aR 0), some (aR 54), some (aI 0)] [] M 75 12789 := by
  obtain ⟨hS, zc, zm, hx, hl⟩ := hF
  refine vl_aload_n dL_law_563 rfl ?_
  refine vl_sk dL_law_564 dL_law_565 dL_law_566 dL_law_567 dL_law_568 rfl rfl (by decide) (by decide) (by decide) ?_
  refine vl_topI (xs 1).toInt rfl ?_
  refine vl_callF dL_law_569 (qX11_by_0 hS zc ((xs 1).toInt)) rfl okX11_by viX11_by lkL_55 (s_0 hS) cl_11 rfl (Nat.le_of_ble_eq_true rfl) (Nat.le_of_ble_eq_true rfl) (Nat.le_of_ble_eq_true rfl) (Nat.le_of_ble_eq_true rfl) ?_
  have hs1 : St (gX11_by_0 M ((xs 1).toInt)) := tX11_by_0 hS ((xs 1).toInt)
  have hz1 : Zm (gX11_by_0 M ((xs 1).toInt)) := zX11_by zm ((xs 1).toInt)
  refine vl_aload_n dL_law_572 rfl ?_
  refine vl_sk dL_law_573 dL_law_574 dL_law_575 dL_law_576 dL_law_577 rfl rfl (by decide) (by decide) (by decide) ?_
  refine vl_topI (xs 1).toInt rfl ?_
  refine vl_callF dL_law_578 (qX12_by_0 hs1 hz1 ((xs 1).toInt)) rfl okX12_by viX12_by lkL_58 (s_54 hs1) cl_12 rfl (Nat.le_of_ble_eq_true rfl) (Nat.le_of_ble_eq_true rfl) (Nat.le_of_ble_eq_true rfl) (Nat.le_of_ble_eq_true rfl) ?_
  refine vl_icmp_eq dL_law_581 (fun _ => ?_) (fun h9 => absurd (e_by ((xs 1).toInt)) h9)
  exact fin _ _ _ (Nat.le_of_ble_eq_true rfl) (Nat.le_of_ble_eq_true rfl)
set_option maxRecDepth 8000 in
theorem lc_start {l : Launch} {b : Nat} {xs : Nat → Int32} {M : Mem} (hF : F0s M) (fin : ∀ (M2 : Mem) (kc ks : Nat), kc ≤ 600000 → ks ≤ 7302250 → VL l b 6 xs 1694 [none, some (aR 0), some (aR 54), some (aI 0)] [] M2 kc ks) : VL l b 6 xs 586 [none, some (aR 0), some (aR 54), some (aI 0)] [] M 75 12789 := by
  obtain ⟨hS, zc, zm, hx, hl⟩ := hF
  refine vl_aload_n dL_law_586 rfl ?_
  refine vl_sk dL_law_587 dL_law_588 dL_law_589 dL_law_590 dL_law_591 rfl rfl (by decide) (by decide) (by decide) ?_
  refine vl_topI (xs 1).toInt rfl ?_
  refine vl_sk dL_law_592 dL_law_593 dL_law_594 dL_law_595 dL_law_596 rfl rfl (by decide) (by decide) (by decide) ?_
  refine vl_topI (xs 2).toInt rfl ?_
  refine vl_callF dL_law_597 (qX11_start_0 hS zc ((xs 1).toInt) ((xs 2).toInt)) rfl okX11_start viX11_start lkL_59 (s_0 hS) cl_11 rfl (Nat.le_of_ble_eq_true rfl) (Nat.le_of_ble_eq_true rfl) (Nat.le_of_ble_eq_true rfl) (Nat.le_of_ble_eq_true rfl) ?_
  have hs1 := hS
  have hz1 := zm
  refine vl_aload_n dL_law_600 rfl ?_
  refine vl_sk dL_law_601 dL_law_602 dL_law_603 dL_law_604 dL_law_605 rfl rfl (by decide) (by decide) (by decide) ?_
  refine vl_topI (xs 1).toInt rfl ?_
  refine vl_sk dL_law_606 dL_law_607 dL_law_608 dL_law_609 dL_law_610 rfl rfl (by decide) (by decide) (by decide) ?_
  refine vl_topI (xs 2).toInt rfl ?_
  refine vl_callF dL_law_611 (qX12_start_0 hs1 hz1 ((xs 1).toInt) ((xs 2).toInt)) rfl okX12_start viX12_start lkL_63 (s_54 hs1) cl_12 rfl (Nat.le_of_ble_eq_true rfl) (Nat.le_of_ble_eq_true rfl) (Nat.le_of_ble_eq_true rfl) (Nat.le_of_ble_eq_true rfl) ?_
  refine vl_icmp_eq dL_law_614 (fun _ => ?_) (fun h9 => absurd (rfl) h9)
  exact fin _ _ _ (Nat.le_of_ble_eq_true rfl) (Nat.le_of_ble_eq_true rfl)
set_option maxRecDepth 8000 in
theorem lc_walk {l : Launch} {b : Nat} {xs : Nat → Int32} {M : Mem} (hF : F0s M) (fin : ∀ (M2 : Mem) (kc ks : Nat), kc ≤ 600000 → ks ≤ 7302250 → VL l b 6 xs 1694 [none, some (aR 0), some (aR 54), some (aI 0)] [] M2 kc ks) : VL l b 6 xs 619 [none, some (aR 0), some (aR 54), some (aI 0)] [] M 75 12789 := by
  obtain ⟨hS, zc, zm, hx, hl⟩ := hF
  refine vl_aload_n dL_law_619 rfl ?_
  refine vl_sk dL_law_620 dL_law_621 dL_law_622 dL_law_623 dL_law_624 rfl rfl (by decide) (by decide) (by decide) ?_
  refine vl_topI (xs 1).toInt rfl ?_
  refine vl_callF dL_law_625 (qX11_walk_0 hS zc ((xs 1).toInt)) rfl okX11_walk viX11_walk lkL_64 (s_0 hS) cl_11 rfl (Nat.le_of_ble_eq_true rfl) (Nat.le_of_ble_eq_true rfl) (Nat.le_of_ble_eq_true rfl) (Nat.le_of_ble_eq_true rfl) ?_
  have hs1 := hS
  have hz1 := zm
  refine vl_aload_n dL_law_628 rfl ?_
  refine vl_sk dL_law_629 dL_law_630 dL_law_631 dL_law_632 dL_law_633 rfl rfl (by decide) (by decide) (by decide) ?_
  refine vl_topI (xs 1).toInt rfl ?_
  refine vl_callF dL_law_634 (qX12_walk_0 hs1 hz1 ((xs 1).toInt)) rfl okX12_walk viX12_walk lkL_67 (s_54 hs1) cl_12 rfl (Nat.le_of_ble_eq_true rfl) (Nat.le_of_ble_eq_true rfl) (Nat.le_of_ble_eq_true rfl) (Nat.le_of_ble_eq_true rfl) ?_
  refine vl_icmp_eq dL_law_637 (fun _ => ?_) (fun h9 => absurd (rfl) h9)
  exact fin _ _ _ (Nat.le_of_ble_eq_true rfl) (Nat.le_of_ble_eq_true rfl)
set_option maxRecDepth 8000 in
theorem lc_turn {l : Launch} {b : Nat} {xs : Nat → Int32} {M : Mem} (hF : F0s M) (fin : ∀ (M2 : Mem) (kc ks : Nat), kc ≤ 600000 → ks ≤ 7302250 → VL l b 6 xs 1694 [none, some (aR 0), some (aR 54), some (aI 0)] [] M2 kc ks) : VL l b 6 xs 642 [none, some (aR 0), some (aR 54), some (aI 0)] [] M 75 12789 := by
  obtain ⟨hS, zc, zm, hx, hl⟩ := hF
  refine vl_aload_n dL_law_642 rfl ?_
  refine vl_sk dL_law_643 dL_law_644 dL_law_645 dL_law_646 dL_law_647 rfl rfl (by decide) (by decide) (by decide) ?_
  refine vl_topI (xs 1).toInt rfl ?_
  refine vl_callF dL_law_648 (qX11_turn_0 hS zc ((xs 1).toInt)) rfl okX11_turn viX11_turn lkL_68 (s_0 hS) cl_11 rfl (Nat.le_of_ble_eq_true rfl) (Nat.le_of_ble_eq_true rfl) (Nat.le_of_ble_eq_true rfl) (Nat.le_of_ble_eq_true rfl) ?_
  have hs1 := hS
  have hz1 := zm
  refine vl_aload_n dL_law_651 rfl ?_
  refine vl_sk dL_law_652 dL_law_653 dL_law_654 dL_law_655 dL_law_656 rfl rfl (by decide) (by decide) (by decide) ?_
  refine vl_topI (xs 1).toInt rfl ?_
  refine vl_callF dL_law_657 (qX12_turn_0 hs1 hz1 ((xs 1).toInt)) rfl okX12_turn viX12_turn lkL_71 (s_54 hs1) cl_12 rfl (Nat.le_of_ble_eq_true rfl) (Nat.le_of_ble_eq_true rfl) (Nat.le_of_ble_eq_true rfl) (Nat.le_of_ble_eq_true rfl) ?_
  refine vl_icmp_eq dL_law_660 (fun _ => ?_) (fun h9 => absurd (rfl) h9)
  exact fin _ _ _ (Nat.le_of_ble_eq_true rfl) (Nat.le_of_ble_eq_true rfl)
set_option maxRecDepth 8000 in
theorem lc_ask {l : Launch} {b : Nat} {xs : Nat → Int32} {M : Mem} (hF : F0s M) (fin : ∀ (M2 : Mem) (kc ks : Nat), kc ≤ 600000 → ks ≤ 7302250 → VL l b 6 xs 1694 [none, some (aR 0), some (aR 54), some (aI 0)] [] M2 kc ks) : VL l b 6 xs 665 [none, some (aR 0), some (aR 54), some (aI 0)] [] M 75 12789 := by
  obtain ⟨hS, zc, zm, hx, hl⟩ := hF
  refine vl_aload_n dL_law_665 rfl ?_
  refine vl_sk dL_law_666 dL_law_667 dL_law_668 dL_law_669 dL_law_670 rfl rfl (by decide) (by decide) (by decide) ?_
  refine vl_topI (xs 1).toInt rfl ?_
  refine vl_callF dL_law_671 (qX11_ask_0 hS zc ((xs 1).toInt)) rfl okX11_ask viX11_ask lkL_72 (s_0 hS) cl_11 rfl (Nat.le_of_ble_eq_true rfl) (Nat.le_of_ble_eq_true rfl) (Nat.le_of_ble_eq_true rfl) (Nat.le_of_ble_eq_true rfl) ?_
  have hs1 := hS
  have hz1 := zm
  refine vl_aload_n dL_law_674 rfl ?_
  refine vl_sk dL_law_675 dL_law_676 dL_law_677 dL_law_678 dL_law_679 rfl rfl (by decide) (by decide) (by decide) ?_
  refine vl_topI (xs 1).toInt rfl ?_
  refine vl_callF dL_law_680 (qX12_ask_0 hs1 hz1 ((xs 1).toInt)) rfl okX12_ask viX12_ask lkL_75 (s_54 hs1) cl_12 rfl (Nat.le_of_ble_eq_true rfl) (Nat.le_of_ble_eq_true rfl) (Nat.le_of_ble_eq_true rfl) (Nat.le_of_ble_eq_true rfl) ?_
  refine vl_icmp_eq dL_law_683 (fun _ => ?_) (fun h9 => absurd (rfl) h9)
  exact fin _ _ _ (Nat.le_of_ble_eq_true rfl) (Nat.le_of_ble_eq_true rfl)
set_option maxRecDepth 8000 in
theorem lc_follow {l : Launch} {b : Nat} {xs : Nat → Int32} {M : Mem} (hF : F0s M) (fin : ∀ (M2 : Mem) (kc ks : Nat), kc ≤ 600000 → ks ≤ 7302250 → VL l b 6 xs 1694 [none, some (aR 0), some (aR 54), some (aI 0)] [] M2 kc ks) : VL l b 6 xs 688 [none, some (aR 0), some (aR 54), some (aI 0)] [] M 75 12789 := by
  obtain ⟨hS, zc, zm, hx, hl⟩ := hF
  refine vl_aload_n dL_law_688 rfl ?_
  refine vl_sk dL_law_689 dL_law_690 dL_law_691 dL_law_692 dL_law_693 rfl rfl (by decide) (by decide) (by decide) ?_
  refine vl_topI (xs 1).toInt rfl ?_
  refine vl_callF dL_law_694 (qX11_follow_0 hS zc ((xs 1).toInt)) rfl okX11_follow viX11_follow lkL_76 (s_0 hS) cl_11 rfl (Nat.le_of_ble_eq_true rfl) (Nat.le_of_ble_eq_true rfl) (Nat.le_of_ble_eq_true rfl) (Nat.le_of_ble_eq_true rfl) ?_
  have hs1 := hS
  have hz1 := zm
  refine vl_aload_n dL_law_697 rfl ?_
  refine vl_sk dL_law_698 dL_law_699 dL_law_700 dL_law_701 dL_law_702 rfl rfl (by decide) (by decide) (by decide) ?_
  refine vl_topI (xs 1).toInt rfl ?_
  refine vl_callF dL_law_703 (qX12_follow_0 hs1 hz1 ((xs 1).toInt)) rfl okX12_follow viX12_follow lkL_79 (s_54 hs1) cl_12 rfl (Nat.le_of_ble_eq_true rfl) (Nat.le_of_ble_eq_true rfl) (Nat.le_of_ble_eq_true rfl) (Nat.le_of_ble_eq_true rfl) ?_
  refine vl_icmp_eq dL_law_706 (fun _ => ?_) (fun h9 => absurd (rfl) h9)
  exact fin _ _ _ (Nat.le_of_ble_eq_true rfl) (Nat.le_of_ble_eq_true rfl)
set_option maxRecDepth 8000 in
theorem lc_played {l : Launch} {b : Nat} {xs : Nat → Int32} {M : Mem} (hF : F0s M) (fin : ∀ (M2 : Mem) (kc ks : Nat), kc ≤ 600000 → ks ≤ 7302250 → VL l b 6 xs 1694 [none, some (aR 0), some (aR 54), some (aI 0)] [] M2 kc ks) : VL l b 6 xs 711 [none, some (aR 0), some (aR 54), some (aI 0)] [] M 75 12789 := by
  obtain ⟨hS, zc, zm, hx, hl⟩ := hF
  refine vl_aload_n dL_law_711 rfl ?_
  refine vl_sk dL_law_712 dL_law_713 dL_law_714 dL_law_715 dL_law_716 rfl rfl (by decide) (by decide) (by decide) ?_
  refine vl_topI (xs 1).toInt rfl ?_
  refine vl_callF dL_law_717 (qX11_played_0 hS zc ((xs 1).toInt)) rfl okX11_played viX11_played lkL_80 (s_0 hS) cl_11 rfl (Nat.le_of_ble_eq_true rfl) (Nat.le_of_ble_eq_true rfl) (Nat.le_of_ble_eq_true rfl) (Nat.le_of_ble_eq_true rfl) ?_
  have hs1 := hS
  have hz1 := zm
  refine vl_aload_n dL_law_720 rfl ?_
  refine vl_sk dL_law_721 dL_law_722 dL_law_723 dL_law_724 dL_law_725 rfl rfl (by decide) (by decide) (by decide) ?_
  refine vl_topI (xs 1).toInt rfl ?_
  refine vl_callF dL_law_726 (qX12_played_0 hs1 hz1 ((xs 1).toInt)) rfl okX12_played viX12_played lkL_83 (s_54 hs1) cl_12 rfl (Nat.le_of_ble_eq_true rfl) (Nat.le_of_ble_eq_true rfl) (Nat.le_of_ble_eq_true rfl) (Nat.le_of_ble_eq_true rfl) ?_
  refine vl_icmp_eq dL_law_729 (fun _ => ?_) (fun h9 => absurd (rfl) h9)
  exact fin _ _ _ (Nat.le_of_ble_eq_true rfl) (Nat.le_of_ble_eq_true rfl)
set_option maxRecDepth 8000 in
theorem lc_day {l : Launch} {b : Nat} {xs : Nat → Int32} {M : Mem} (hF : F0s M) (fin : ∀ (M2 : Mem) (kc ks : Nat), kc ≤ 600000 → ks ≤ 7302250 → VL l b 6 xs 1694 [none, some (aR 0), some (aR 54), some (aI 0)] [] M2 kc ks) : VL l b 6 xs 734 [none, some (aR 0), some (aR 54), some (aI 0)] [] M 75 12789 := by
  obtain ⟨hS, zc, zm, hx, hl⟩ := hF
  refine vl_aload_n dL_law_734 rfl ?_
  refine vl_sk dL_law_735 dL_law_736 dL_law_737 dL_law_738 dL_law_739 rfl rfl (by decide) (by decide) (by decide) ?_
  refine vl_topI (xs 1).toInt rfl ?_
  refine vl_sk dL_law_740 dL_law_741 dL_law_742 dL_law_743 dL_law_744 rfl rfl (by decide) (by decide) (by decide) ?_
  refine vl_topI (xs 2).toInt rfl ?_
  refine vl_callF dL_law_745 (qX11_day_0 hS zc ((xs 1).toInt) ((xs 2).toInt)) rfl okX11_day viX11_day lkL_84 (s_0 hS) cl_11 rfl (Nat.le_of_ble_eq_true rfl) (Nat.le_of_ble_eq_true rfl) (Nat.le_of_ble_eq_true rfl) (Nat.le_of_ble_eq_true rfl) ?_
  have hs1 := hS
  have hz1 := zm
  refine vl_aload_n dL_law_748 rfl ?_
  refine vl_sk dL_law_749 dL_law_750 dL_law_751 dL_law_752 dL_law_753 rfl rfl (by decide) (by decide) (by decide) ?_
  refine vl_topI (xs 1).toInt rfl ?_
  refine vl_sk dL_law_754 dL_law_755 dL_law_756 dL_law_757 dL_law_758 rfl rfl (by decide) (by decide) (by decide) ?_
  refine vl_topI (xs 2).toInt rfl ?_
  refine vl_callF dL_law_759 (qX12_day_0 hs1 hz1 ((xs 1).toInt) ((xs 2).toInt)) rfl okX12_day viX12_day lkL_88 (s_54 hs1) cl_12 rfl (Nat.le_of_ble_eq_true rfl) (Nat.le_of_ble_eq_true rfl) (Nat.le_of_ble_eq_true rfl) (Nat.le_of_ble_eq_true rfl) ?_
  refine vl_icmp_eq dL_law_762 (fun _ => ?_) (fun h9 => absurd (rfl) h9)
  exact fin _ _ _ (Nat.le_of_ble_eq_true rfl) (Nat.le_of_ble_eq_true rfl)
set_option maxRecDepth 8000 in
theorem lc_undo {l : Launch} {b : Nat} {xs : Nat → Int32} {M : Mem} (hF : F0s M) (fin : ∀ (M2 : Mem) (kc ks : Nat), kc ≤ 600000 → ks ≤ 7302250 → VL l b 6 xs 1694 [none, some (aR 0), some (aR 54), some (aI 0)] [] M2 kc ks) : VL l b 6 xs 767 [none, some (aR 0), some (aR 54), some (aI 0)] [] M 75 12789 := by
  obtain ⟨hS, zc, zm, hx, hl⟩ := hF
  refine vl_aload_n dL_law_767 rfl ?_
  refine vl_callF dL_law_768 (qX11_undo_0 hS zc ) rfl okX11_undo viX11_undo lkL_89 (s_0 hS) cl_11 rfl (Nat.le_of_ble_eq_true rfl) (Nat.le_of_ble_eq_true rfl) (Nat.le_of_ble_eq_true rfl) (Nat.le_of_ble_eq_true rfl) ?_
  have hs1 := hS
  have hz1 := zm
  refine vl_aload_n dL_law_771 rfl ?_
  refine vl_callF dL_law_772 (qX12_undo_0 hs1 hz1 ) rfl okX12_undo viX12_undo lkL_92 (s_54 hs1) cl_12 rfl (Nat.le_of_ble_eq_true rfl) (Nat.le_of_ble_eq_true rfl) (Nat.le_of_ble_eq_true rfl) (Nat.le_of_ble_eq_true rfl) ?_
  refine vl_icmp_eq dL_law_775 (fun _ => ?_) (fun h9 => absurd (rfl) h9)
  exact fin _ _ _ (Nat.le_of_ble_eq_true rfl) (Nat.le_of_ble_eq_true rfl)
set_option maxRecDepth 8000 in
theorem lc_walker {l : Launch} {b : Nat} {xs : Nat → Int32} {M : Mem} (hF : F0s M) (fin : ∀ (M2 : Mem) (kc ks : Nat), kc ≤ 600000 → ks ≤ 7302250 → VL l b 6 xs 1694 [none, some (aR 0), some (aR 54), some (aI 0)] [] M2 kc ks) : VL l b 6 xs 780 [none, some (aR 0), some (aR 54), some (aI 0)] [] M 75 12789 := by
  obtain ⟨hS, zc, zm, hx, hl⟩ := hF
  refine vl_aload_n dL_law_780 rfl ?_
  refine vl_sk dL_law_781 dL_law_782 dL_law_783 dL_law_784 dL_law_785 rfl rfl (by decide) (by decide) (by decide) ?_
  refine vl_topI (xs 1).toInt rfl ?_
  refine vl_callF dL_law_786 (qX11_walker_0 hS zc ((xs 1).toInt)) rfl okX11_walker viX11_walker lkL_93 (s_0 hS) cl_11 rfl (Nat.le_of_ble_eq_true rfl) (Nat.le_of_ble_eq_true rfl) (Nat.le_of_ble_eq_true rfl) (Nat.le_of_ble_eq_true rfl) ?_
  have hs1 := hS
  have hz1 := zm
  refine vl_aload_n dL_law_789 rfl ?_
  refine vl_sk dL_law_790 dL_law_791 dL_law_792 dL_law_793 dL_law_794 rfl rfl (by decide) (by decide) (by decide) ?_
  refine vl_topI (xs 1).toInt rfl ?_
  refine vl_callF dL_law_795 (qX12_walker_0 hs1 hz1 ((xs 1).toInt)) rfl okX12_walker viX12_walker lkL_96 (s_54 hs1) cl_12 rfl (Nat.le_of_ble_eq_true rfl) (Nat.le_of_ble_eq_true rfl) (Nat.le_of_ble_eq_true rfl) (Nat.le_of_ble_eq_true rfl) ?_
  refine vl_icmp_eq dL_law_798 (fun _ => ?_) (fun h9 => absurd (rfl) h9)
  exact fin _ _ _ (Nat.le_of_ble_eq_true rfl) (Nat.le_of_ble_eq_true rfl)
set_option maxRecDepth 8000 in
theorem lc_ofCorner {l : Launch} {b : Nat} {xs : Nat → Int32} {M : Mem} (hF : F0s M) (fin : ∀ (M2 : Mem) (kc ks : Nat), kc ≤ 600000 → ks ≤ 7302250 → VL l b 6 xs 1694 [none, some (aR 0), some (aR 54), some (aI 0)] [] M2 kc ks) : VL l b 6 xs 803 [none, some (aR 0), some (aR 54), some (aI 0)] [] M 75 12789 := by
  obtain ⟨hS, zc, zm, hx, hl⟩ := hF
  refine vl_aload_n dL_law_803 rfl ?_
  refine vl_sk dL_law_804 dL_law_805 dL_law_806 dL_law_807 dL_law_808 rfl rfl (by decide) (by decide) (by decide) ?_
  refine vl_topI (xs 1).toInt rfl ?_
  refine vl_sk dL_law_809 dL_law_810 dL_law_811 dL_law_812 dL_law_813 rfl rfl (by decide) (by decide) (by decide) ?_
  refine vl_topI (xs 2).toInt rfl ?_
  refine vl_callF dL_law_814 (qX11_ofCorner_0 hS zc ((xs 1).toInt) ((xs 2).toInt)) rfl okX11_ofCorner viX11_ofCorner lkL_97 (s_0 hS) cl_11 rfl (Nat.le_of_ble_eq_true rfl) (Nat.le_of_ble_eq_true rfl) (Nat.le_of_ble_eq_true rfl) (Nat.le_of_ble_eq_true rfl) ?_
  have hs1 := hS
  have hz1 := zm
  refine vl_aload_n dL_law_817 rfl ?_
  refine vl_sk dL_law_818 dL_law_819 dL_law_820 dL_law_821 dL_law_822 rfl rfl (by decide) (by decide) (by decide) ?_
  refine vl_topI (xs 1).toInt rfl ?_
  refine vl_sk dL_law_823 dL_law_824 dL_law_825 dL_law_826 dL_law_827 rfl rfl (by decide) (by decide) (by decide) ?_
  refine vl_topI (xs 2).toInt rfl ?_
  refine vl_callF dL_law_828 (qX12_ofCorner_0 hs1 hz1 ((xs 1).toInt) ((xs 2).toInt)) rfl okX12_ofCorner viX12_ofCorner lkL_100 (s_54 hs1) cl_12 rfl (Nat.le_of_ble_eq_true rfl) (Nat.le_of_ble_eq_true rfl) (Nat.le_of_ble_eq_true rfl) (Nat.le_of_ble_eq_true rfl) ?_
  refine vl_icmp_eq dL_law_831 (fun _ => ?_) (fun h9 => absurd (rfl) h9)
  exact fin _ _ _ (Nat.le_of_ble_eq_true rfl) (Nat.le_of_ble_eq_true rfl)
set_option maxRecDepth 8000 in
theorem lc_ofTeller {l : Launch} {b : Nat} {xs : Nat → Int32} {M : Mem} (hF : F0s M) (fin : ∀ (M2 : Mem) (kc ks : Nat), kc ≤ 600000 → ks ≤ 7302250 → VL l b 6 xs 1694 [none, some (aR 0), some (aR 54), some (aI 0)] [] M2 kc ks) : VL l b 6 xs 836 [none, some (aR 0), some (aR 54), some (aI 0)] [] M 75 12789 := by
  obtain ⟨hS, zc, zm, hx, hl⟩ := hF
  refine vl_aload_n dL_law_836 rfl ?_
  refine vl_sk dL_law_837 dL_law_838 dL_law_839 dL_law_840 dL_law_841 rfl rfl (by decide) (by decide) (by decide) ?_
  refine vl_topI (xs 1).toInt rfl ?_
  refine vl_sk dL_law_842 dL_law_843 dL_law_844 dL_law_845 dL_law_846 rfl rfl (by decide) (by decide) (by decide) ?_
  refine vl_topI (xs 2).toInt rfl ?_
  refine vl_callF dL_law_847 (qX11_ofTeller_0 hS zc ((xs 1).toInt) ((xs 2).toInt)) rfl okX11_ofTeller viX11_ofTeller lkL_101 (s_0 hS) cl_11 rfl (Nat.le_of_ble_eq_true rfl) (Nat.le_of_ble_eq_true rfl) (Nat.le_of_ble_eq_true rfl) (Nat.le_of_ble_eq_true rfl) ?_
  have hs1 := hS
  have hz1 := zm
  refine vl_aload_n dL_law_850 rfl ?_
  refine vl_sk dL_law_851 dL_law_852 dL_law_853 dL_law_854 dL_law_855 rfl rfl (by decide) (by decide) (by decide) ?_
  refine vl_topI (xs 1).toInt rfl ?_
  refine vl_sk dL_law_856 dL_law_857 dL_law_858 dL_law_859 dL_law_860 rfl rfl (by decide) (by decide) (by decide) ?_
  refine vl_topI (xs 2).toInt rfl ?_
  refine vl_callF dL_law_861 (qX12_ofTeller_0 hs1 hz1 ((xs 1).toInt) ((xs 2).toInt)) rfl okX12_ofTeller viX12_ofTeller lkL_104 (s_54 hs1) cl_12 rfl (Nat.le_of_ble_eq_true rfl) (Nat.le_of_ble_eq_true rfl) (Nat.le_of_ble_eq_true rfl) (Nat.le_of_ble_eq_true rfl) ?_
  refine vl_icmp_eq dL_law_864 (fun _ => ?_) (fun h9 => absurd (rfl) h9)
  exact fin _ _ _ (Nat.le_of_ble_eq_true rfl) (Nat.le_of_ble_eq_true rfl)
set_option maxRecDepth 8000 in
theorem lc_ofTelling {l : Launch} {b : Nat} {xs : Nat → Int32} {M : Mem} (hF : F0s M) (fin : ∀ (M2 : Mem) (kc ks : Nat), kc ≤ 600000 → ks ≤ 7302250 → VL l b 6 xs 1694 [none, some (aR 0), some (aR 54), some (aI 0)] [] M2 kc ks) : VL l b 6 xs 869 [none, some (aR 0), some (aR 54), some (aI 0)] [] M 75 12789 := by
  obtain ⟨hS, zc, zm, hx, hl⟩ := hF
  refine vl_aload_n dL_law_869 rfl ?_
  refine vl_sk dL_law_870 dL_law_871 dL_law_872 dL_law_873 dL_law_874 rfl rfl (by decide) (by decide) (by decide) ?_
  refine vl_topI (xs 1).toInt rfl ?_
  refine vl_sk dL_law_875 dL_law_876 dL_law_877 dL_law_878 dL_law_879 rfl rfl (by decide) (by decide) (by decide) ?_
  refine vl_topI (xs 2).toInt rfl ?_
  refine vl_callF dL_law_880 (qX11_ofTelling_0 hS zc ((xs 1).toInt) ((xs 2).toInt)) rfl okX11_ofTelling viX11_ofTelling lkL_105 (s_0 hS) cl_11 rfl (Nat.le_of_ble_eq_true rfl) (Nat.le_of_ble_eq_true rfl) (Nat.le_of_ble_eq_true rfl) (Nat.le_of_ble_eq_true rfl) ?_
  have hs1 := hS
  have hz1 := zm
  refine vl_aload_n dL_law_883 rfl ?_
  refine vl_sk dL_law_884 dL_law_885 dL_law_886 dL_law_887 dL_law_888 rfl rfl (by decide) (by decide) (by decide) ?_
  refine vl_topI (xs 1).toInt rfl ?_
  refine vl_sk dL_law_889 dL_law_890 dL_law_891 dL_law_892 dL_law_893 rfl rfl (by decide) (by decide) (by decide) ?_
  refine vl_topI (xs 2).toInt rfl ?_
  refine vl_callF dL_law_894 (qX12_ofTelling_0 hs1 hz1 ((xs 1).toInt) ((xs 2).toInt)) rfl okX12_ofTelling viX12_ofTelling lkL_108 (s_54 hs1) cl_12 rfl (Nat.le_of_ble_eq_true rfl) (Nat.le_of_ble_eq_true rfl) (Nat.le_of_ble_eq_true rfl) (Nat.le_of_ble_eq_true rfl) ?_
  refine vl_icmp_eq dL_law_897 (fun _ => ?_) (fun h9 => absurd (rfl) h9)
  exact fin _ _ _ (Nat.le_of_ble_eq_true rfl) (Nat.le_of_ble_eq_true rfl)
set_option maxRecDepth 8000 in
theorem lc_leads {l : Launch} {b : Nat} {xs : Nat → Int32} {M : Mem} (hF : F0s M) (fin : ∀ (M2 : Mem) (kc ks : Nat), kc ≤ 600000 → ks ≤ 7302250 → VL l b 6 xs 1694 [none, some (aR 0), some (aR 54), some (aI 0)] [] M2 kc ks) : VL l b 6 xs 902 [none, some (aR 0), some (aR 54), some (aI 0)] [] M 75 12789 := by
  obtain ⟨hS, zc, zm, hx, hl⟩ := hF
  refine vl_aload_n dL_law_902 rfl ?_
  refine vl_sk dL_law_903 dL_law_904 dL_law_905 dL_law_906 dL_law_907 rfl rfl (by decide) (by decide) (by decide) ?_
  refine vl_topI (xs 1).toInt rfl ?_
  refine vl_sk dL_law_908 dL_law_909 dL_law_910 dL_law_911 dL_law_912 rfl rfl (by decide) (by decide) (by decide) ?_
  refine vl_topI (xs 2).toInt rfl ?_
  refine vl_callF dL_law_913 (qX11_leads_0 hS zc ((xs 1).toInt) ((xs 2).toInt)) rfl okX11_leads viX11_leads lkL_109 (s_0 hS) cl_11 rfl (Nat.le_of_ble_eq_true rfl) (Nat.le_of_ble_eq_true rfl) (Nat.le_of_ble_eq_true rfl) (Nat.le_of_ble_eq_true rfl) ?_
  have hs1 := hS
  have hz1 := zm
  refine vl_aload_n dL_law_916 rfl ?_
  refine vl_sk dL_law_917 dL_law_918 dL_law_919 dL_law_920 dL_law_921 rfl rfl (by decide) (by decide) (by decide) ?_
  refine vl_topI (xs 1).toInt rfl ?_
  refine vl_sk dL_law_922 dL_law_923 dL_law_924 dL_law_925 dL_law_926 rfl rfl (by decide) (by decide) (by decide) ?_
  refine vl_topI (xs 2).toInt rfl ?_
  refine vl_callF dL_law_927 (qX12_leads_0 hs1 hz1 ((xs 1).toInt) ((xs 2).toInt)) rfl okX12_leads viX12_leads lkL_112 (s_54 hs1) cl_12 rfl (Nat.le_of_ble_eq_true rfl) (Nat.le_of_ble_eq_true rfl) (Nat.le_of_ble_eq_true rfl) (Nat.le_of_ble_eq_true rfl) ?_
  refine vl_icmp_eq dL_law_930 (fun _ => ?_) (fun h9 => absurd (rfl) h9)
  exact fin _ _ _ (Nat.le_of_ble_eq_true rfl) (Nat.le_of_ble_eq_true rfl)
set_option maxRecDepth 8000 in
theorem lc_likely {l : Launch} {b : Nat} {xs : Nat → Int32} {M : Mem} (hF : F0s M) (fin : ∀ (M2 : Mem) (kc ks : Nat), kc ≤ 600000 → ks ≤ 7302250 → VL l b 6 xs 1694 [none, some (aR 0), some (aR 54), some (aI 0)] [] M2 kc ks) : VL l b 6 xs 935 [none, some (aR 0), some (aR 54), some (aI 0)] [] M 75 12789 := by
  obtain ⟨hS, zc, zm, hx, hl⟩ := hF
  refine vl_aload_n dL_law_935 rfl ?_
  refine vl_sk dL_law_936 dL_law_937 dL_law_938 dL_law_939 dL_law_940 rfl rfl (by decide) (by decide) (by decide) ?_
  refine vl_topI (xs 1).toInt rfl ?_
  refine vl_sk dL_law_941 dL_law_942 dL_law_943 dL_law_944 dL_law_945 rfl rfl (by decide) (by decide) (by decide) ?_
  refine vl_topI (xs 2).toInt rfl ?_
  refine vl_callF dL_law_946 (qX11_likely_0 hS zc ((xs 1).toInt) ((xs 2).toInt)) rfl okX11_likely viX11_likely lkL_113 (s_0 hS) cl_11 rfl (Nat.le_of_ble_eq_true rfl) (Nat.le_of_ble_eq_true rfl) (Nat.le_of_ble_eq_true rfl) (Nat.le_of_ble_eq_true rfl) ?_
  have hs1 := hS
  have hz1 := zm
  refine vl_aload_n dL_law_949 rfl ?_
  refine vl_sk dL_law_950 dL_law_951 dL_law_952 dL_law_953 dL_law_954 rfl rfl (by decide) (by decide) (by decide) ?_
  refine vl_topI (xs 1).toInt rfl ?_
  refine vl_sk dL_law_955 dL_law_956 dL_law_957 dL_law_958 dL_law_959 rfl rfl (by decide) (by decide) (by decide) ?_
  refine vl_topI (xs 2).toInt rfl ?_
  refine vl_callF dL_law_960 (qX12_likely_0 hs1 hz1 ((xs 1).toInt) ((xs 2).toInt)) rfl okX12_likely viX12_likely lkL_116 (s_54 hs1) cl_12 rfl (Nat.le_of_ble_eq_true rfl) (Nat.le_of_ble_eq_true rfl) (Nat.le_of_ble_eq_true rfl) (Nat.le_of_ble_eq_true rfl) ?_
  refine vl_icmp_eq dL_law_963 (fun _ => ?_) (fun h9 => absurd (rfl) h9)
  exact fin _ _ _ (Nat.le_of_ble_eq_true rfl) (Nat.le_of_ble_eq_true rfl)
set_option maxRecDepth 8000 in
theorem lc_byAll {l : Launch} {b : Nat} {xs : Nat → Int32} {M : Mem} (hF : F0s M) (fin : ∀ (M2 : Mem) (kc ks : Nat), kc ≤ 600000 → ks ≤ 7302250 → VL l b 6 xs 1694 [none, some (aR 0), some (aR 54), some (aI 0)] [] M2 kc ks) : VL l b 6 xs 968 [none, some (aR 0), some (aR 54), some (aI 0)] [] M 75 12789 := by
  obtain ⟨hS, zc, zm, hx, hl⟩ := hF
  refine vl_aload_n dL_law_968 rfl ?_
  refine vl_sk dL_law_969 dL_law_970 dL_law_971 dL_law_972 dL_law_973 rfl rfl (by decide) (by decide) (by decide) ?_
  refine vl_topI (xs 1).toInt rfl ?_
  refine vl_sk dL_law_974 dL_law_975 dL_law_976 dL_law_977 dL_law_978 rfl rfl (by decide) (by decide) (by decide) ?_
  refine vl_topI (xs 2).toInt rfl ?_
  refine vl_sk dL_law_979 dL_law_980 dL_law_981 dL_law_982 dL_law_983 rfl rfl (by decide) (by decide) (by decide) ?_
  refine vl_topI (xs 3).toInt rfl ?_
  refine vl_if_eq dL_law_984 (fun g0 => ?_) (fun g0 => ?_)
  · refine vl_iconst dL_law_991 rfl ?_
    refine vl_callF dL_law_992 (qX11_byAll_0 hS zc ((xs 1).toInt) ((xs 2).toInt) 0) rfl okX11_byAll viX11_byAll lkL_117 (s_0 hS) cl_11 rfl (Nat.le_of_ble_eq_true rfl) (Nat.le_of_ble_eq_true rfl) (Nat.le_of_ble_eq_true rfl) (Nat.le_of_ble_eq_true rfl) ?_
    have hs1 := hS
    have hz1 := zm
    refine vl_aload_n dL_law_995 rfl ?_
    refine vl_sk dL_law_996 dL_law_997 dL_law_998 dL_law_999 dL_law_1000 rfl rfl (by decide) (by decide) (by decide) ?_
    refine vl_topI (xs 1).toInt rfl ?_
    refine vl_sk dL_law_1001 dL_law_1002 dL_law_1003 dL_law_1004 dL_law_1005 rfl rfl (by decide) (by decide) (by decide) ?_
    refine vl_topI (xs 2).toInt rfl ?_
    refine vl_sk dL_law_1006 dL_law_1007 dL_law_1008 dL_law_1009 dL_law_1010 rfl rfl (by decide) (by decide) (by decide) ?_
    refine vl_topI (xs 3).toInt rfl ?_
    refine vl_if_eq dL_law_1011 (fun _ => ?_) (fun h9 => absurd g0 h9)
    refine vl_iconst dL_law_1018 rfl ?_
    refine vl_callF dL_law_1019 (qX12_byAll_0 hs1 hz1 ((xs 1).toInt) ((xs 2).toInt) 0) rfl okX12_byAll viX12_byAll lkL_121 (s_54 hs1) cl_12 rfl (Nat.le_of_ble_eq_true rfl) (Nat.le_of_ble_eq_true rfl) (Nat.le_of_ble_eq_true rfl) (Nat.le_of_ble_eq_true rfl) ?_
    refine vl_lif_eq dL_law_1022 dL_law_1023 (fun _ => ?_) (fun h9 => absurd (rfl) h9)
    exact fin _ _ _ (Nat.le_of_ble_eq_true rfl) (Nat.le_of_ble_eq_true rfl)
  · refine vl_iconst dL_law_987 rfl ?_
    refine vl_goto dL_law_988 ?_
    refine vl_callF dL_law_992 (qX11_byAll_0 hS zc ((xs 1).toInt) ((xs 2).toInt) 1) rfl okX11_byAll viX11_byAll lkL_117 (s_0 hS) cl_11 rfl (Nat.le_of_ble_eq_true rfl) (Nat.le_of_ble_eq_true rfl) (Nat.le_of_ble_eq_true rfl) (Nat.le_of_ble_eq_true rfl) ?_
    have hs1 := hS
    have hz1 := zm
    refine vl_aload_n dL_law_995 rfl ?_
    refine vl_sk dL_law_996 dL_law_997 dL_law_998 dL_law_999 dL_law_1000 rfl rfl (by decide) (by decide) (by decide) ?_
    refine vl_topI (xs 1).toInt rfl ?_
    refine vl_sk dL_law_1001 dL_law_1002 dL_law_1003 dL_law_1004 dL_law_1005 rfl rfl (by decide) (by decide) (by decide) ?_
    refine vl_topI (xs 2).toInt rfl ?_
    refine vl_sk dL_law_1006 dL_law_1007 dL_law_1008 dL_law_1009 dL_law_1010 rfl rfl (by decide) (by decide) (by decide) ?_
    refine vl_topI (xs 3).toInt rfl ?_
    refine vl_if_eq dL_law_1011 (fun h9 => absurd h9 g0) (fun _ => ?_)
    refine vl_iconst dL_law_1014 rfl ?_
    refine vl_goto dL_law_1015 ?_
    refine vl_callF dL_law_1019 (qX12_byAll_0 hs1 hz1 ((xs 1).toInt) ((xs 2).toInt) 1) rfl okX12_byAll viX12_byAll lkL_121 (s_54 hs1) cl_12 rfl (Nat.le_of_ble_eq_true rfl) (Nat.le_of_ble_eq_true rfl) (Nat.le_of_ble_eq_true rfl) (Nat.le_of_ble_eq_true rfl) ?_
    refine vl_lif_eq dL_law_1022 dL_law_1023 (fun _ => ?_) (fun h9 => absurd (rfl) h9)
    exact fin _ _ _ (Nat.le_of_ble_eq_true rfl) (Nat.le_of_ble_eq_true rfl)
set_option maxRecDepth 8000 in
theorem lc_clash {l : Launch} {b : Nat} {xs : Nat → Int32} {M : Mem} (hF : F0s M) (fin : ∀ (M2 : Mem) (kc ks : Nat), kc ≤ 600000 → ks ≤ 7302250 → VL l b 6 xs 1694 [none, some (aR 0), some (aR 54), some (aI 0)] [] M2 kc ks) : VL l b 6 xs 1028 [none, some (aR 0), some (aR 54), some (aI 0)] [] M 75 12789 := by
  obtain ⟨hS, zc, zm, hx, hl⟩ := hF
  refine vl_aload_n dL_law_1028 rfl ?_
  refine vl_sk dL_law_1029 dL_law_1030 dL_law_1031 dL_law_1032 dL_law_1033 rfl rfl (by decide) (by decide) (by decide) ?_
  refine vl_topI (xs 1).toInt rfl ?_
  refine vl_callF dL_law_1034 (qX11_clash_0 hS zc ((xs 1).toInt)) rfl okX11_clash viX11_clash lkL_122 (s_0 hS) cl_11 rfl (Nat.le_of_ble_eq_true rfl) (Nat.le_of_ble_eq_true rfl) (Nat.le_of_ble_eq_true rfl) (Nat.le_of_ble_eq_true rfl) ?_
  have hs1 := hS
  have hz1 := zm
  refine vl_aload_n dL_law_1037 rfl ?_
  refine vl_sk dL_law_1038 dL_law_1039 dL_law_1040 dL_law_1041 dL_law_1042 rfl rfl (by decide) (by decide) (by decide) ?_
  refine vl_topI (xs 1).toInt rfl ?_
  refine vl_callF dL_law_1043 (qX12_clash_0 hs1 hz1 ((xs 1).toInt)) rfl okX12_clash viX12_clash lkL_125 (s_54 hs1) cl_12 rfl (Nat.le_of_ble_eq_true rfl) (Nat.le_of_ble_eq_true rfl) (Nat.le_of_ble_eq_true rfl) (Nat.le_of_ble_eq_true rfl) ?_
  refine vl_icmp_eq dL_law_1046 (fun _ => ?_) (fun h9 => absurd (e_clash ((xs 1).toInt)) h9)
  exact fin _ _ _ (Nat.le_of_ble_eq_true rfl) (Nat.le_of_ble_eq_true rfl)
set_option maxRecDepth 8000 in
theorem lc_wrong {l : Launch} {b : Nat} {xs : Nat → Int32} {M : Mem} (hF : F0s M) (fin : ∀ (M2 : Mem) (kc ks : Nat), kc ≤ 600000 → ks ≤ 7302250 → VL l b 6 xs 1694 [none, some (aR 0), some (aR 54), some (aI 0)] [] M2 kc ks) : VL l b 6 xs 1051 [none, some (aR 0), some (aR 54), some (aI 0)] [] M 75 12789 := by
  obtain ⟨hS, zc, zm, hx, hl⟩ := hF
  refine vl_aload_n dL_law_1051 rfl ?_
  refine vl_sk dL_law_1052 dL_law_1053 dL_law_1054 dL_law_1055 dL_law_1056 rfl rfl (by decide) (by decide) (by decide) ?_
  refine vl_topI (xs 1).toInt rfl ?_
  refine vl_sk dL_law_1057 dL_law_1058 dL_law_1059 dL_law_1060 dL_law_1061 rfl rfl (by decide) (by decide) (by decide) ?_
  refine vl_topI (xs 2).toInt rfl ?_
  refine vl_if_eq dL_law_1062 (fun g0 => ?_) (fun g0 => ?_)
  · refine vl_iconst dL_law_1069 rfl ?_
    refine vl_callF dL_law_1070 (qX11_wrong_0 hS zc ((xs 1).toInt) 0) rfl okX11_wrong viX11_wrong lkL_126 (s_0 hS) cl_11 rfl (Nat.le_of_ble_eq_true rfl) (Nat.le_of_ble_eq_true rfl) (Nat.le_of_ble_eq_true rfl) (Nat.le_of_ble_eq_true rfl) ?_
    have hs1 := hS
    have hz1 := zm
    refine vl_aload_n dL_law_1073 rfl ?_
    refine vl_sk dL_law_1074 dL_law_1075 dL_law_1076 dL_law_1077 dL_law_1078 rfl rfl (by decide) (by decide) (by decide) ?_
    refine vl_topI (xs 1).toInt rfl ?_
    refine vl_sk dL_law_1079 dL_law_1080 dL_law_1081 dL_law_1082 dL_law_1083 rfl rfl (by decide) (by decide) (by decide) ?_
    refine vl_topI (xs 2).toInt rfl ?_
    refine vl_if_eq dL_law_1084 (fun _ => ?_) (fun h9 => absurd g0 h9)
    refine vl_iconst dL_law_1091 rfl ?_
    refine vl_callF dL_law_1092 (qX12_wrong_0 hs1 hz1 ((xs 1).toInt) 0) rfl okX12_wrong viX12_wrong lkL_130 (s_54 hs1) cl_12 rfl (Nat.le_of_ble_eq_true rfl) (Nat.le_of_ble_eq_true rfl) (Nat.le_of_ble_eq_true rfl) (Nat.le_of_ble_eq_true rfl) ?_
    refine vl_icmp_eq dL_law_1095 (fun _ => ?_) (fun h9 => absurd (rfl) h9)
    exact fin _ _ _ (Nat.le_of_ble_eq_true rfl) (Nat.le_of_ble_eq_true rfl)
  · refine vl_iconst dL_law_1065 rfl ?_
    refine vl_goto dL_law_1066 ?_
    refine vl_callF dL_law_1070 (qX11_wrong_0 hS zc ((xs 1).toInt) 1) rfl okX11_wrong viX11_wrong lkL_126 (s_0 hS) cl_11 rfl (Nat.le_of_ble_eq_true rfl) (Nat.le_of_ble_eq_true rfl) (Nat.le_of_ble_eq_true rfl) (Nat.le_of_ble_eq_true rfl) ?_
    have hs1 := hS
    have hz1 := zm
    refine vl_aload_n dL_law_1073 rfl ?_
    refine vl_sk dL_law_1074 dL_law_1075 dL_law_1076 dL_law_1077 dL_law_1078 rfl rfl (by decide) (by decide) (by decide) ?_
    refine vl_topI (xs 1).toInt rfl ?_
    refine vl_sk dL_law_1079 dL_law_1080 dL_law_1081 dL_law_1082 dL_law_1083 rfl rfl (by decide) (by decide) (by decide) ?_
    refine vl_topI (xs 2).toInt rfl ?_
    refine vl_if_eq dL_law_1084 (fun h9 => absurd h9 g0) (fun _ => ?_)
    refine vl_iconst dL_law_1087 rfl ?_
    refine vl_goto dL_law_1088 ?_
    refine vl_callF dL_law_1092 (qX12_wrong_0 hs1 hz1 ((xs 1).toInt) 1) rfl okX12_wrong viX12_wrong lkL_130 (s_54 hs1) cl_12 rfl (Nat.le_of_ble_eq_true rfl) (Nat.le_of_ble_eq_true rfl) (Nat.le_of_ble_eq_true rfl) (Nat.le_of_ble_eq_true rfl) ?_
    refine vl_icmp_eq dL_law_1095 (fun _ => ?_) (fun h9 => absurd (rfl) h9)
    exact fin _ _ _ (Nat.le_of_ble_eq_true rfl) (Nat.le_of_ble_eq_true rfl)
set_option maxRecDepth 8000 in
theorem lc_far {l : Launch} {b : Nat} {xs : Nat → Int32} {M : Mem} (hF : F0s M) (fin : ∀ (M2 : Mem) (kc ks : Nat), kc ≤ 600000 → ks ≤ 7302250 → VL l b 6 xs 1694 [none, some (aR 0), some (aR 54), some (aI 0)] [] M2 kc ks) : VL l b 6 xs 1100 [none, some (aR 0), some (aR 54), some (aI 0)] [] M 75 12789 := by
  obtain ⟨hS, zc, zm, hx, hl⟩ := hF
  refine vl_aload_n dL_law_1100 rfl ?_
  refine vl_sk dL_law_1101 dL_law_1102 dL_law_1103 dL_law_1104 dL_law_1105 rfl rfl (by decide) (by decide) (by decide) ?_
  refine vl_topI (xs 1).toInt rfl ?_
  refine vl_sk dL_law_1106 dL_law_1107 dL_law_1108 dL_law_1109 dL_law_1110 rfl rfl (by decide) (by decide) (by decide) ?_
  refine vl_topI (xs 2).toInt rfl ?_
  refine vl_callF dL_law_1111 (qX11_far_0 hS zc ((xs 1).toInt) ((xs 2).toInt)) rfl okX11_far viX11_far lkL_131 (s_0 hS) cl_11 rfl (Nat.le_of_ble_eq_true rfl) (Nat.le_of_ble_eq_true rfl) (Nat.le_of_ble_eq_true rfl) (Nat.le_of_ble_eq_true rfl) ?_
  have hs1 := hS
  have hz1 := zm
  refine vl_aload_n dL_law_1114 rfl ?_
  refine vl_sk dL_law_1115 dL_law_1116 dL_law_1117 dL_law_1118 dL_law_1119 rfl rfl (by decide) (by decide) (by decide) ?_
  refine vl_topI (xs 1).toInt rfl ?_
  refine vl_sk dL_law_1120 dL_law_1121 dL_law_1122 dL_law_1123 dL_law_1124 rfl rfl (by decide) (by decide) (by decide) ?_
  refine vl_topI (xs 2).toInt rfl ?_
  refine vl_callF dL_law_1125 (qX12_far_0 hs1 hz1 ((xs 1).toInt) ((xs 2).toInt)) rfl okX12_far viX12_far lkL_134 (s_54 hs1) cl_12 rfl (Nat.le_of_ble_eq_true rfl) (Nat.le_of_ble_eq_true rfl) (Nat.le_of_ble_eq_true rfl) (Nat.le_of_ble_eq_true rfl) ?_
  refine vl_icmp_eq dL_law_1128 (fun _ => ?_) (fun h9 => absurd (rfl) h9)
  exact fin _ _ _ (Nat.le_of_ble_eq_true rfl) (Nat.le_of_ble_eq_true rfl)
set_option maxRecDepth 8000 in
theorem lc_see {l : Launch} {b : Nat} {xs : Nat → Int32} {M : Mem} (hF : F0s M) (fin : ∀ (M2 : Mem) (kc ks : Nat), kc ≤ 600000 → ks ≤ 7302250 → VL l b 6 xs 1694 [none, some (aR 0), some (aR 54), some (aI 0)] [] M2 kc ks) : VL l b 6 xs 1133 [none, some (aR 0), some (aR 54), some (aI 0)] [] M 75 12789 := by
  obtain ⟨hS, zc, zm, hx, hl⟩ := hF
  refine vl_aload_n dL_law_1133 rfl ?_
  refine vl_sk dL_law_1134 dL_law_1135 dL_law_1136 dL_law_1137 dL_law_1138 rfl rfl (by decide) (by decide) (by decide) ?_
  refine vl_topI (xs 1).toInt rfl ?_
  refine vl_sk dL_law_1139 dL_law_1140 dL_law_1141 dL_law_1142 dL_law_1143 rfl rfl (by decide) (by decide) (by decide) ?_
  refine vl_topI (xs 2).toInt rfl ?_
  refine vl_callF dL_law_1144 (qX11_see_0 hS zc ((xs 1).toInt) ((xs 2).toInt)) rfl okX11_see viX11_see lkL_135 (s_0 hS) cl_11 rfl (Nat.le_of_ble_eq_true rfl) (Nat.le_of_ble_eq_true rfl) (Nat.le_of_ble_eq_true rfl) (Nat.le_of_ble_eq_true rfl) ?_
  have hs1 := hS
  have hz1 := zm
  refine vl_aload_n dL_law_1147 rfl ?_
  refine vl_sk dL_law_1148 dL_law_1149 dL_law_1150 dL_law_1151 dL_law_1152 rfl rfl (by decide) (by decide) (by decide) ?_
  refine vl_topI (xs 1).toInt rfl ?_
  refine vl_sk dL_law_1153 dL_law_1154 dL_law_1155 dL_law_1156 dL_law_1157 rfl rfl (by decide) (by decide) (by decide) ?_
  refine vl_topI (xs 2).toInt rfl ?_
  refine vl_callF dL_law_1158 (qX12_see_0 hs1 hz1 ((xs 1).toInt) ((xs 2).toInt)) rfl okX12_see viX12_see lkL_139 (s_54 hs1) cl_12 rfl (Nat.le_of_ble_eq_true rfl) (Nat.le_of_ble_eq_true rfl) (Nat.le_of_ble_eq_true rfl) (Nat.le_of_ble_eq_true rfl) ?_
  refine vl_lif_eq dL_law_1161 dL_law_1162 (fun _ => ?_) (fun h9 => absurd (rfl) h9)
  exact fin _ _ _ (Nat.le_of_ble_eq_true rfl) (Nat.le_of_ble_eq_true rfl)
set_option maxRecDepth 8000 in
theorem lc_orAsk {l : Launch} {b : Nat} {xs : Nat → Int32} {M : Mem} (hF : F0s M) (fin : ∀ (M2 : Mem) (kc ks : Nat), kc ≤ 600000 → ks ≤ 7302250 → VL l b 6 xs 1694 [none, some (aR 0), some (aR 54), some (aI 0)] [] M2 kc ks) : VL l b 6 xs 1167 [none, some (aR 0), some (aR 54), some (aI 0)] [] M 75 12789 := by
  obtain ⟨hS, zc, zm, hx, hl⟩ := hF
  refine vl_aload_n dL_law_1167 rfl ?_
  refine vl_sk dL_law_1168 dL_law_1169 dL_law_1170 dL_law_1171 dL_law_1172 rfl rfl (by decide) (by decide) (by decide) ?_
  refine vl_topI (xs 1).toInt rfl ?_
  refine vl_callF dL_law_1173 (qX11_orAsk_0 hS zc ((xs 1).toInt)) rfl okX11_orAsk viX11_orAsk lkL_140 (s_0 hS) cl_11 rfl (Nat.le_of_ble_eq_true rfl) (Nat.le_of_ble_eq_true rfl) (Nat.le_of_ble_eq_true rfl) (Nat.le_of_ble_eq_true rfl) ?_
  have hs1 := hS
  have hz1 := zm
  refine vl_aload_n dL_law_1176 rfl ?_
  refine vl_sk dL_law_1177 dL_law_1178 dL_law_1179 dL_law_1180 dL_law_1181 rfl rfl (by decide) (by decide) (by decide) ?_
  refine vl_topI (xs 1).toInt rfl ?_
  refine vl_callF dL_law_1182 (qX12_orAsk_0 hs1 hz1 ((xs 1).toInt)) rfl okX12_orAsk viX12_orAsk lkL_143 (s_54 hs1) cl_12 rfl (Nat.le_of_ble_eq_true rfl) (Nat.le_of_ble_eq_true rfl) (Nat.le_of_ble_eq_true rfl) (Nat.le_of_ble_eq_true rfl) ?_
  refine vl_icmp_eq dL_law_1185 (fun _ => ?_) (fun h9 => absurd (rfl) h9)
  exact fin _ _ _ (Nat.le_of_ble_eq_true rfl) (Nat.le_of_ble_eq_true rfl)
set_option maxRecDepth 8000 in
theorem lc_safeSoFar {l : Launch} {b : Nat} {xs : Nat → Int32} {M : Mem} (hF : F0s M) (fin : ∀ (M2 : Mem) (kc ks : Nat), kc ≤ 600000 → ks ≤ 7302250 → VL l b 6 xs 1694 [none, some (aR 0), some (aR 54), some (aI 0)] [] M2 kc ks) : VL l b 6 xs 1190 [none, some (aR 0), some (aR 54), some (aI 0)] [] M 75 12789 := by
  obtain ⟨hS, zc, zm, hx, hl⟩ := hF
  refine vl_aload_n dL_law_1190 rfl ?_
  refine vl_sk dL_law_1191 dL_law_1192 dL_law_1193 dL_law_1194 dL_law_1195 rfl rfl (by decide) (by decide) (by decide) ?_
  refine vl_topI (xs 1).toInt rfl ?_
  refine vl_sk dL_law_1196 dL_law_1197 dL_law_1198 dL_law_1199 dL_law_1200 rfl rfl (by decide) (by decide) (by decide) ?_
  refine vl_topI (xs 2).toInt rfl ?_
  refine vl_sk dL_law_1201 dL_law_1202 dL_law_1203 dL_law_1204 dL_law_1205 rfl rfl (by decide) (by decide) (by decide) ?_
  refine vl_topI (xs 3).toInt rfl ?_
  refine vl_if_eq dL_law_1206 (fun g0 => ?_) (fun g0 => ?_)
  · refine vl_iconst dL_law_1213 rfl ?_
    refine vl_callF dL_law_1214 (qX11_safeSoFar_0 hS zc ((xs 1).toInt) ((xs 2).toInt) 0) rfl okX11_safeSoFar viX11_safeSoFar lkL_144 (s_0 hS) cl_11 rfl (Nat.le_of_ble_eq_true rfl) (Nat.le_of_ble_eq_true rfl) (Nat.le_of_ble_eq_true rfl) (Nat.le_of_ble_eq_true rfl) ?_
    have hs1 := hS
    have hz1 := zm
    refine vl_aload_n dL_law_1217 rfl ?_
    refine vl_sk dL_law_1218 dL_law_1219 dL_law_1220 dL_law_1221 dL_law_1222 rfl rfl (by decide) (by decide) (by decide) ?_
    refine vl_topI (xs 1).toInt rfl ?_
    refine vl_sk dL_law_1223 dL_law_1224 dL_law_1225 dL_law_1226 dL_law_1227 rfl rfl (by decide) (by decide) (by decide) ?_
    refine vl_topI (xs 2).toInt rfl ?_
    refine vl_sk dL_law_1228 dL_law_1229 dL_law_1230 dL_law_1231 dL_law_1232 rfl rfl (by decide) (by decide) (by decide) ?_
    refine vl_topI (xs 3).toInt rfl ?_
    refine vl_if_eq dL_law_1233 (fun _ => ?_) (fun h9 => absurd g0 h9)
    refine vl_iconst dL_law_1240 rfl ?_
    refine vl_callF dL_law_1241 (qX12_safeSoFar_0 hs1 hz1 ((xs 1).toInt) ((xs 2).toInt) 0) rfl okX12_safeSoFar viX12_safeSoFar lkL_148 (s_54 hs1) cl_12 rfl (Nat.le_of_ble_eq_true rfl) (Nat.le_of_ble_eq_true rfl) (Nat.le_of_ble_eq_true rfl) (Nat.le_of_ble_eq_true rfl) ?_
    refine vl_icmp_eq dL_law_1244 (fun _ => ?_) (fun h9 => absurd (rfl) h9)
    exact fin _ _ _ (Nat.le_of_ble_eq_true rfl) (Nat.le_of_ble_eq_true rfl)
  · refine vl_iconst dL_law_1209 rfl ?_
    refine vl_goto dL_law_1210 ?_
    refine vl_callF dL_law_1214 (qX11_safeSoFar_0 hS zc ((xs 1).toInt) ((xs 2).toInt) 1) rfl okX11_safeSoFar viX11_safeSoFar lkL_144 (s_0 hS) cl_11 rfl (Nat.le_of_ble_eq_true rfl) (Nat.le_of_ble_eq_true rfl) (Nat.le_of_ble_eq_true rfl) (Nat.le_of_ble_eq_true rfl) ?_
    have hs1 := hS
    have hz1 := zm
    refine vl_aload_n dL_law_1217 rfl ?_
    refine vl_sk dL_law_1218 dL_law_1219 dL_law_1220 dL_law_1221 dL_law_1222 rfl rfl (by decide) (by decide) (by decide) ?_
    refine vl_topI (xs 1).toInt rfl ?_
    refine vl_sk dL_law_1223 dL_law_1224 dL_law_1225 dL_law_1226 dL_law_1227 rfl rfl (by decide) (by decide) (by decide) ?_
    refine vl_topI (xs 2).toInt rfl ?_
    refine vl_sk dL_law_1228 dL_law_1229 dL_law_1230 dL_law_1231 dL_law_1232 rfl rfl (by decide) (by decide) (by decide) ?_
    refine vl_topI (xs 3).toInt rfl ?_
    refine vl_if_eq dL_law_1233 (fun h9 => absurd h9 g0) (fun _ => ?_)
    refine vl_iconst dL_law_1236 rfl ?_
    refine vl_goto dL_law_1237 ?_
    refine vl_callF dL_law_1241 (qX12_safeSoFar_0 hs1 hz1 ((xs 1).toInt) ((xs 2).toInt) 1) rfl okX12_safeSoFar viX12_safeSoFar lkL_148 (s_54 hs1) cl_12 rfl (Nat.le_of_ble_eq_true rfl) (Nat.le_of_ble_eq_true rfl) (Nat.le_of_ble_eq_true rfl) (Nat.le_of_ble_eq_true rfl) ?_
    refine vl_icmp_eq dL_law_1244 (fun _ => ?_) (fun h9 => absurd (rfl) h9)
    exact fin _ _ _ (Nat.le_of_ble_eq_true rfl) (Nat.le_of_ble_eq_true rfl)
set_option maxRecDepth 8000 in
theorem lc_howFar {l : Launch} {b : Nat} {xs : Nat → Int32} {M : Mem} (hF : F0s M) (fin : ∀ (M2 : Mem) (kc ks : Nat), kc ≤ 600000 → ks ≤ 7302250 → VL l b 6 xs 1694 [none, some (aR 0), some (aR 54), some (aI 0)] [] M2 kc ks) : VL l b 6 xs 1249 [none, some (aR 0), some (aR 54), some (aI 0)] [] M 75 12789 := by
  obtain ⟨hS, zc, zm, hx, hl⟩ := hF
  refine vl_aload_n dL_law_1249 rfl ?_
  refine vl_sk dL_law_1250 dL_law_1251 dL_law_1252 dL_law_1253 dL_law_1254 rfl rfl (by decide) (by decide) (by decide) ?_
  refine vl_topI (xs 1).toInt rfl ?_
  refine vl_sk dL_law_1255 dL_law_1256 dL_law_1257 dL_law_1258 dL_law_1259 rfl rfl (by decide) (by decide) (by decide) ?_
  refine vl_topI (xs 2).toInt rfl ?_
  refine vl_callF dL_law_1260 (qX11_howFar_0 hS zc ((xs 1).toInt) ((xs 2).toInt)) rfl okX11_howFar viX11_howFar lkL_149 (s_0 hS) cl_11 rfl (Nat.le_of_ble_eq_true rfl) (Nat.le_of_ble_eq_true rfl) (Nat.le_of_ble_eq_true rfl) (Nat.le_of_ble_eq_true rfl) ?_
  have hs1 := hS
  have hz1 := zm
  refine vl_aload_n dL_law_1263 rfl ?_
  refine vl_sk dL_law_1264 dL_law_1265 dL_law_1266 dL_law_1267 dL_law_1268 rfl rfl (by decide) (by decide) (by decide) ?_
  refine vl_topI (xs 1).toInt rfl ?_
  refine vl_sk dL_law_1269 dL_law_1270 dL_law_1271 dL_law_1272 dL_law_1273 rfl rfl (by decide) (by decide) (by decide) ?_
  refine vl_topI (xs 2).toInt rfl ?_
  refine vl_callF dL_law_1274 (qX12_howFar_0 hs1 hz1 ((xs 1).toInt) ((xs 2).toInt)) rfl okX12_howFar viX12_howFar lkL_152 (s_54 hs1) cl_12 rfl (Nat.le_of_ble_eq_true rfl) (Nat.le_of_ble_eq_true rfl) (Nat.le_of_ble_eq_true rfl) (Nat.le_of_ble_eq_true rfl) ?_
  refine vl_icmp_eq dL_law_1277 (fun _ => ?_) (fun h9 => absurd (rfl) h9)
  exact fin _ _ _ (Nat.le_of_ble_eq_true rfl) (Nat.le_of_ble_eq_true rfl)
set_option maxRecDepth 8000 in
theorem lc_lost {l : Launch} {b : Nat} {xs : Nat → Int32} {M : Mem} (hF : F0s M) (fin : ∀ (M2 : Mem) (kc ks : Nat), kc ≤ 600000 → ks ≤ 7302250 → VL l b 6 xs 1694 [none, some (aR 0), some (aR 54), some (aI 0)] [] M2 kc ks) : VL l b 6 xs 1282 [none, some (aR 0), some (aR 54), some (aI 0)] [] M 75 12789 := by
  obtain ⟨hS, zc, zm, hx, hl⟩ := hF
  refine vl_aload_n dL_law_1282 rfl ?_
  refine vl_sk dL_law_1283 dL_law_1284 dL_law_1285 dL_law_1286 dL_law_1287 rfl rfl (by decide) (by decide) (by decide) ?_
  refine vl_topI (xs 1).toInt rfl ?_
  refine vl_sk dL_law_1288 dL_law_1289 dL_law_1290 dL_law_1291 dL_law_1292 rfl rfl (by decide) (by decide) (by decide) ?_
  refine vl_topI (xs 2).toInt rfl ?_
  refine vl_callF dL_law_1293 (qX11_lost_0 hS zc ((xs 1).toInt) ((xs 2).toInt)) rfl okX11_lost viX11_lost lkL_153 (s_0 hS) cl_11 rfl (Nat.le_of_ble_eq_true rfl) (Nat.le_of_ble_eq_true rfl) (Nat.le_of_ble_eq_true rfl) (Nat.le_of_ble_eq_true rfl) ?_
  have hs1 := hS
  have hz1 := zm
  refine vl_aload_n dL_law_1296 rfl ?_
  refine vl_sk dL_law_1297 dL_law_1298 dL_law_1299 dL_law_1300 dL_law_1301 rfl rfl (by decide) (by decide) (by decide) ?_
  refine vl_topI (xs 1).toInt rfl ?_
  refine vl_sk dL_law_1302 dL_law_1303 dL_law_1304 dL_law_1305 dL_law_1306 rfl rfl (by decide) (by decide) (by decide) ?_
  refine vl_topI (xs 2).toInt rfl ?_
  refine vl_callF dL_law_1307 (qX12_lost_0 hs1 hz1 ((xs 1).toInt) ((xs 2).toInt)) rfl okX12_lost viX12_lost lkL_156 (s_54 hs1) cl_12 rfl (Nat.le_of_ble_eq_true rfl) (Nat.le_of_ble_eq_true rfl) (Nat.le_of_ble_eq_true rfl) (Nat.le_of_ble_eq_true rfl) ?_
  refine vl_icmp_eq dL_law_1310 (fun _ => ?_) (fun h9 => absurd (rfl) h9)
  exact fin _ _ _ (Nat.le_of_ble_eq_true rfl) (Nat.le_of_ble_eq_true rfl)
set_option maxRecDepth 8000 in
theorem lc_listen {l : Launch} {b : Nat} {xs : Nat → Int32} {M : Mem} (hF : F0s M) (fin : ∀ (M2 : Mem) (kc ks : Nat), kc ≤ 600000 → ks ≤ 7302250 → VL l b 6 xs 1694 [none, some (aR 0), some (aR 54), some (aI 0)] [] M2 kc ks) : VL l b 6 xs 1315 [none, some (aR 0), some (aR 54), some (aI 0)] [] M 75 12789 := by
  obtain ⟨hS, zc, zm, hx, hl⟩ := hF
  refine vl_aload_n dL_law_1315 rfl ?_
  refine vl_sk dL_law_1316 dL_law_1317 dL_law_1318 dL_law_1319 dL_law_1320 rfl rfl (by decide) (by decide) (by decide) ?_
  refine vl_topI (xs 1).toInt rfl ?_
  refine vl_sk dL_law_1321 dL_law_1322 dL_law_1323 dL_law_1324 dL_law_1325 rfl rfl (by decide) (by decide) (by decide) ?_
  refine vl_topI (xs 2).toInt rfl ?_
  refine vl_sk dL_law_1326 dL_law_1327 dL_law_1328 dL_law_1329 dL_law_1330 rfl rfl (by decide) (by decide) (by decide) ?_
  refine vl_topI (xs 3).toInt rfl ?_
  refine vl_sk dL_law_1331 dL_law_1332 dL_law_1333 dL_law_1334 dL_law_1335 rfl rfl (by decide) (by decide) (by decide) ?_
  refine vl_topI (xs 4).toInt rfl ?_
  refine vl_sk dL_law_1336 dL_law_1337 dL_law_1338 dL_law_1339 dL_law_1340 rfl rfl (by decide) (by decide) (by decide) ?_
  refine vl_topI (xs 5).toInt rfl ?_
  refine vl_if_eq dL_law_1341 (fun g0 => ?_) (fun g0 => ?_)
  · refine vl_iconst dL_law_1348 rfl ?_
    refine vl_callF dL_law_1349 (qX11_listen hS ((xs 1).toInt) ((xs 2).toInt) ((xs 3).toInt) ((xs 4).toInt) 0) rfl okX11_listen viX11_listen lkL_157 (s_0 hS) cl_11 rfl (Nat.le_of_ble_eq_true rfl) (Nat.le_of_ble_eq_true rfl) (Nat.le_of_ble_eq_true rfl) (Nat.le_of_ble_eq_true rfl) ?_
    have hs1 := hS
    have hz1 := zm
    refine vl_aload_n dL_law_1352 rfl ?_
    refine vl_sk dL_law_1353 dL_law_1354 dL_law_1355 dL_law_1356 dL_law_1357 rfl rfl (by decide) (by decide) (by decide) ?_
    refine vl_topI (xs 1).toInt rfl ?_
    refine vl_sk dL_law_1358 dL_law_1359 dL_law_1360 dL_law_1361 dL_law_1362 rfl rfl (by decide) (by decide) (by decide) ?_
    refine vl_topI (xs 2).toInt rfl ?_
    refine vl_sk dL_law_1363 dL_law_1364 dL_law_1365 dL_law_1366 dL_law_1367 rfl rfl (by decide) (by decide) (by decide) ?_
    refine vl_topI (xs 3).toInt rfl ?_
    refine vl_sk dL_law_1368 dL_law_1369 dL_law_1370 dL_law_1371 dL_law_1372 rfl rfl (by decide) (by decide) (by decide) ?_
    refine vl_topI (xs 4).toInt rfl ?_
    refine vl_sk dL_law_1373 dL_law_1374 dL_law_1375 dL_law_1376 dL_law_1377 rfl rfl (by decide) (by decide) (by decide) ?_
    refine vl_topI (xs 5).toInt rfl ?_
    refine vl_if_eq dL_law_1378 (fun _ => ?_) (fun h9 => absurd g0 h9)
    refine vl_iconst dL_law_1385 rfl ?_
    refine vl_callF dL_law_1386 (qX12_listen hs1 ((xs 1).toInt) ((xs 2).toInt) ((xs 3).toInt) ((xs 4).toInt) 0) rfl okX12_listen viX12_listen lkL_161 (s_54 hs1) cl_12 rfl (Nat.le_of_ble_eq_true rfl) (Nat.le_of_ble_eq_true rfl) (Nat.le_of_ble_eq_true rfl) (Nat.le_of_ble_eq_true rfl) ?_
    refine vl_lif_eq dL_law_1389 dL_law_1390 (fun _ => ?_) (fun h9 => absurd (rfl) h9)
    exact fin _ _ _ (Nat.le_of_ble_eq_true rfl) (Nat.le_of_ble_eq_true rfl)
  · refine vl_iconst dL_law_1344 rfl ?_
    refine vl_goto dL_law_1345 ?_
    refine vl_callF dL_law_1349 (qX11_listen hS ((xs 1).toInt) ((xs 2).toInt) ((xs 3).toInt) ((xs 4).toInt) 1) rfl okX11_listen viX11_listen lkL_157 (s_0 hS) cl_11 rfl (Nat.le_of_ble_eq_true rfl) (Nat.le_of_ble_eq_true rfl) (Nat.le_of_ble_eq_true rfl) (Nat.le_of_ble_eq_true rfl) ?_
    have hs1 := hS
    have hz1 := zm
    refine vl_aload_n dL_law_1352 rfl ?_
    refine vl_sk dL_law_1353 dL_law_1354 dL_law_1355 dL_law_1356 dL_law_1357 rfl rfl (by decide) (by decide) (by decide) ?_
    refine vl_topI (xs 1).toInt rfl ?_
    refine vl_sk dL_law_1358 dL_law_1359 dL_law_1360 dL_law_1361 dL_law_1362 rfl rfl (by decide) (by decide) (by decide) ?_
    refine vl_topI (xs 2).toInt rfl ?_
    refine vl_sk dL_law_1363 dL_law_1364 dL_law_1365 dL_law_1366 dL_law_1367 rfl rfl (by decide) (by decide) (by decide) ?_
    refine vl_topI (xs 3).toInt rfl ?_
    refine vl_sk dL_law_1368 dL_law_1369 dL_law_1370 dL_law_1371 dL_law_1372 rfl rfl (by decide) (by decide) (by decide) ?_
    refine vl_topI (xs 4).toInt rfl ?_
    refine vl_sk dL_law_1373 dL_law_1374 dL_law_1375 dL_law_1376 dL_law_1377 rfl rfl (by decide) (by decide) (by decide) ?_
    refine vl_topI (xs 5).toInt rfl ?_
    refine vl_if_eq dL_law_1378 (fun h9 => absurd h9 g0) (fun _ => ?_)
    refine vl_iconst dL_law_1381 rfl ?_
    refine vl_goto dL_law_1382 ?_
    refine vl_callF dL_law_1386 (qX12_listen hs1 ((xs 1).toInt) ((xs 2).toInt) ((xs 3).toInt) ((xs 4).toInt) 1) rfl okX12_listen viX12_listen lkL_161 (s_54 hs1) cl_12 rfl (Nat.le_of_ble_eq_true rfl) (Nat.le_of_ble_eq_true rfl) (Nat.le_of_ble_eq_true rfl) (Nat.le_of_ble_eq_true rfl) ?_
    refine vl_lif_eq dL_law_1389 dL_law_1390 (fun _ => ?_) (fun h9 => absurd (rfl) h9)
    exact fin _ _ _ (Nat.le_of_ble_eq_true rfl) (Nat.le_of_ble_eq_true rfl)
set_option maxRecDepth 8000 in
theorem lc_tell {l : Launch} {b : Nat} {xs : Nat → Int32} {M : Mem} (hF : F0s M) (fin : ∀ (M2 : Mem) (kc ks : Nat), kc ≤ 600000 → ks ≤ 7302250 → VL l b 6 xs 1694 [none, some (aR 0), some (aR 54), some (aI 0)] [] M2 kc ks) : VL l b 6 xs 1395 [none, some (aR 0), some (aR 54), some (aI 0)] [] M 75 12789 := by
  obtain ⟨hS, zc, zm, hx, hl⟩ := hF
  refine vl_aload_n dL_law_1395 rfl ?_
  refine vl_sk dL_law_1396 dL_law_1397 dL_law_1398 dL_law_1399 dL_law_1400 rfl rfl (by decide) (by decide) (by decide) ?_
  refine vl_topI (xs 1).toInt rfl ?_
  refine vl_sk dL_law_1401 dL_law_1402 dL_law_1403 dL_law_1404 dL_law_1405 rfl rfl (by decide) (by decide) (by decide) ?_
  refine vl_topI (xs 2).toInt rfl ?_
  refine vl_sk dL_law_1406 dL_law_1407 dL_law_1408 dL_law_1409 dL_law_1410 rfl rfl (by decide) (by decide) (by decide) ?_
  refine vl_topI (xs 3).toInt rfl ?_
  refine vl_sk dL_law_1411 dL_law_1412 dL_law_1413 dL_law_1414 dL_law_1415 rfl rfl (by decide) (by decide) (by decide) ?_
  refine vl_topI (xs 4).toInt rfl ?_
  refine vl_callF dL_law_1416 (qX11_tell_0 hS zc ((xs 1).toInt) ((xs 2).toInt) ((xs 3).toInt) ((xs 4).toInt)) rfl okX11_tell viX11_tell lkL_162 (s_0 hS) cl_11 rfl (Nat.le_of_ble_eq_true rfl) (Nat.le_of_ble_eq_true rfl) (Nat.le_of_ble_eq_true rfl) (Nat.le_of_ble_eq_true rfl) ?_
  have hs1 := hS
  have hz1 := zm
  refine vl_aload_n dL_law_1419 rfl ?_
  refine vl_sk dL_law_1420 dL_law_1421 dL_law_1422 dL_law_1423 dL_law_1424 rfl rfl (by decide) (by decide) (by decide) ?_
  refine vl_topI (xs 1).toInt rfl ?_
  refine vl_sk dL_law_1425 dL_law_1426 dL_law_1427 dL_law_1428 dL_law_1429 rfl rfl (by decide) (by decide) (by decide) ?_
  refine vl_topI (xs 2).toInt rfl ?_
  refine vl_sk dL_law_1430 dL_law_1431 dL_law_1432 dL_law_1433 dL_law_1434 rfl rfl (by decide) (by decide) (by decide) ?_
  refine vl_topI (xs 3).toInt rfl ?_
  refine vl_sk dL_law_1435 dL_law_1436 dL_law_1437 dL_law_1438 dL_law_1439 rfl rfl (by decide) (by decide) (by decide) ?_
  refine vl_topI (xs 4).toInt rfl ?_
  refine vl_callF dL_law_1440 (qX12_tell_0 hs1 hz1 ((xs 1).toInt) ((xs 2).toInt) ((xs 3).toInt) ((xs 4).toInt)) rfl okX12_tell viX12_tell lkL_165 (s_54 hs1) cl_12 rfl (Nat.le_of_ble_eq_true rfl) (Nat.le_of_ble_eq_true rfl) (Nat.le_of_ble_eq_true rfl) (Nat.le_of_ble_eq_true rfl) ?_
  refine vl_icmp_eq dL_law_1443 (fun _ => ?_) (fun h9 => absurd (rfl) h9)
  exact fin _ _ _ (Nat.le_of_ble_eq_true rfl) (Nat.le_of_ble_eq_true rfl)
set_option maxRecDepth 8000 in
theorem lc_where {l : Launch} {b : Nat} {xs : Nat → Int32} {M : Mem} (hF : F0s M) (fin : ∀ (M2 : Mem) (kc ks : Nat), kc ≤ 600000 → ks ≤ 7302250 → VL l b 6 xs 1694 [none, some (aR 0), some (aR 54), some (aI 0)] [] M2 kc ks) : VL l b 6 xs 1448 [none, some (aR 0), some (aR 54), some (aI 0)] [] M 75 12789 := by
  obtain ⟨hS, zc, zm, hx, hl⟩ := hF
  refine vl_aload_n dL_law_1448 rfl ?_
  refine vl_sk dL_law_1449 dL_law_1450 dL_law_1451 dL_law_1452 dL_law_1453 rfl rfl (by decide) (by decide) (by decide) ?_
  refine vl_topI (xs 1).toInt rfl ?_
  refine vl_sk dL_law_1454 dL_law_1455 dL_law_1456 dL_law_1457 dL_law_1458 rfl rfl (by decide) (by decide) (by decide) ?_
  refine vl_topI (xs 2).toInt rfl ?_
  refine vl_if_eq dL_law_1459 (fun g0 => ?_) (fun g0 => ?_)
  · refine vl_iconst dL_law_1466 rfl ?_
    refine vl_callF dL_law_1467 (qX11_where_0 hS zc ((xs 1).toInt) 0) rfl okX11_where viX11_where lkL_166 (s_0 hS) cl_11 rfl (Nat.le_of_ble_eq_true rfl) (Nat.le_of_ble_eq_true rfl) (Nat.le_of_ble_eq_true rfl) (Nat.le_of_ble_eq_true rfl) ?_
    have hs1 := hS
    have hz1 := zm
    refine vl_aload_n dL_law_1470 rfl ?_
    refine vl_sk dL_law_1471 dL_law_1472 dL_law_1473 dL_law_1474 dL_law_1475 rfl rfl (by decide) (by decide) (by decide) ?_
    refine vl_topI (xs 1).toInt rfl ?_
    refine vl_sk dL_law_1476 dL_law_1477 dL_law_1478 dL_law_1479 dL_law_1480 rfl rfl (by decide) (by decide) (by decide) ?_
    refine vl_topI (xs 2).toInt rfl ?_
    refine vl_if_eq dL_law_1481 (fun _ => ?_) (fun h9 => absurd g0 h9)
    refine vl_iconst dL_law_1488 rfl ?_
    refine vl_callF dL_law_1489 (qX12_where_0 hs1 hz1 ((xs 1).toInt) 0) rfl okX12_where viX12_where lkL_169 (s_54 hs1) cl_12 rfl (Nat.le_of_ble_eq_true rfl) (Nat.le_of_ble_eq_true rfl) (Nat.le_of_ble_eq_true rfl) (Nat.le_of_ble_eq_true rfl) ?_
    refine vl_icmp_eq dL_law_1492 (fun _ => ?_) (fun h9 => absurd (rfl) h9)
    exact fin _ _ _ (Nat.le_of_ble_eq_true rfl) (Nat.le_of_ble_eq_true rfl)
  · refine vl_iconst dL_law_1462 rfl ?_
    refine vl_goto dL_law_1463 ?_
    refine vl_callF dL_law_1467 (qX11_where_0 hS zc ((xs 1).toInt) 1) rfl okX11_where viX11_where lkL_166 (s_0 hS) cl_11 rfl (Nat.le_of_ble_eq_true rfl) (Nat.le_of_ble_eq_true rfl) (Nat.le_of_ble_eq_true rfl) (Nat.le_of_ble_eq_true rfl) ?_
    have hs1 := hS
    have hz1 := zm
    refine vl_aload_n dL_law_1470 rfl ?_
    refine vl_sk dL_law_1471 dL_law_1472 dL_law_1473 dL_law_1474 dL_law_1475 rfl rfl (by decide) (by decide) (by decide) ?_
    refine vl_topI (xs 1).toInt rfl ?_
    refine vl_sk dL_law_1476 dL_law_1477 dL_law_1478 dL_law_1479 dL_law_1480 rfl rfl (by decide) (by decide) (by decide) ?_
    refine vl_topI (xs 2).toInt rfl ?_
    refine vl_if_eq dL_law_1481 (fun h9 => absurd h9 g0) (fun _ => ?_)
    refine vl_iconst dL_law_1484 rfl ?_
    refine vl_goto dL_law_1485 ?_
    refine vl_callF dL_law_1489 (qX12_where_0 hs1 hz1 ((xs 1).toInt) 1) rfl okX12_where viX12_where lkL_169 (s_54 hs1) cl_12 rfl (Nat.le_of_ble_eq_true rfl) (Nat.le_of_ble_eq_true rfl) (Nat.le_of_ble_eq_true rfl) (Nat.le_of_ble_eq_true rfl) ?_
    refine vl_icmp_eq dL_law_1492 (fun _ => ?_) (fun h9 => absurd (rfl) h9)
    exact fin _ _ _ (Nat.le_of_ble_eq_true rfl) (Nat.le_of_ble_eq_true rfl)
set_option maxRecDepth 8000 in
theorem lc_map {l : Launch} {b : Nat} {xs : Nat → Int32} {M : Mem} (hF : F0s M) (fin : ∀ (M2 : Mem) (kc ks : Nat), kc ≤ 600000 → ks ≤ 7302250 → VL l b 6 xs 1694 [none, some (aR 0), some (aR 54), some (aI 0)] [] M2 kc ks) : VL l b 6 xs 1497 [none, some (aR 0), some (aR 54), some (aI 0)] [] M 75 12789 := by
  obtain ⟨hS, zc, zm, hx, hl⟩ := hF
  refine vl_aload_n dL_law_1497 rfl ?_
  refine vl_sk dL_law_1498 dL_law_1499 dL_law_1500 dL_law_1501 dL_law_1502 rfl rfl (by decide) (by decide) (by decide) ?_
  refine vl_topI (xs 1).toInt rfl ?_
  refine vl_sk dL_law_1503 dL_law_1504 dL_law_1505 dL_law_1506 dL_law_1507 rfl rfl (by decide) (by decide) (by decide) ?_
  refine vl_topI (xs 2).toInt rfl ?_
  refine vl_sk dL_law_1508 dL_law_1509 dL_law_1510 dL_law_1511 dL_law_1512 rfl rfl (by decide) (by decide) (by decide) ?_
  refine vl_topI (xs 3).toInt rfl ?_
  refine vl_callF dL_law_1513 (qX11_map_0 hS zc ((xs 1).toInt) ((xs 2).toInt) ((xs 3).toInt)) rfl okX11_map viX11_map lkL_170 (s_0 hS) cl_11 rfl (Nat.le_of_ble_eq_true rfl) (Nat.le_of_ble_eq_true rfl) (Nat.le_of_ble_eq_true rfl) (Nat.le_of_ble_eq_true rfl) ?_
  have hs1 := hS
  have hz1 := zm
  refine vl_aload_n dL_law_1516 rfl ?_
  refine vl_sk dL_law_1517 dL_law_1518 dL_law_1519 dL_law_1520 dL_law_1521 rfl rfl (by decide) (by decide) (by decide) ?_
  refine vl_topI (xs 1).toInt rfl ?_
  refine vl_sk dL_law_1522 dL_law_1523 dL_law_1524 dL_law_1525 dL_law_1526 rfl rfl (by decide) (by decide) (by decide) ?_
  refine vl_topI (xs 2).toInt rfl ?_
  refine vl_sk dL_law_1527 dL_law_1528 dL_law_1529 dL_law_1530 dL_law_1531 rfl rfl (by decide) (by decide) (by decide) ?_
  refine vl_topI (xs 3).toInt rfl ?_
  refine vl_callF dL_law_1532 (qX12_map_0 hs1 hz1 ((xs 1).toInt) ((xs 2).toInt) ((xs 3).toInt)) rfl okX12_map viX12_map lkL_174 (s_54 hs1) cl_12 rfl (Nat.le_of_ble_eq_true rfl) (Nat.le_of_ble_eq_true rfl) (Nat.le_of_ble_eq_true rfl) (Nat.le_of_ble_eq_true rfl) ?_
  refine vl_icmp_eq dL_law_1535 (fun _ => ?_) (fun h9 => absurd (rfl) h9)
  exact fin _ _ _ (Nat.le_of_ble_eq_true rfl) (Nat.le_of_ble_eq_true rfl)
set_option maxRecDepth 8000 in
theorem lc_signs {l : Launch} {b : Nat} {xs : Nat → Int32} {M : Mem} (hF : F0s M) (fin : ∀ (M2 : Mem) (kc ks : Nat), kc ≤ 600000 → ks ≤ 7302250 → VL l b 6 xs 1694 [none, some (aR 0), some (aR 54), some (aI 0)] [] M2 kc ks) : VL l b 6 xs 1540 [none, some (aR 0), some (aR 54), some (aI 0)] [] M 75 12789 := by
  obtain ⟨hS, zc, zm, hx, hl⟩ := hF
  refine vl_aload_n dL_law_1540 rfl ?_
  refine vl_callF dL_law_1541 (qX11_signs_0 hS zc ) rfl okX11_signs viX11_signs lkL_175 (s_0 hS) cl_11 rfl (Nat.le_of_ble_eq_true rfl) (Nat.le_of_ble_eq_true rfl) (Nat.le_of_ble_eq_true rfl) (Nat.le_of_ble_eq_true rfl) ?_
  have hs1 := hS
  have hz1 := zm
  refine vl_aload_n dL_law_1544 rfl ?_
  refine vl_callF dL_law_1545 (qX12_signs_0 hs1 hz1 ) rfl okX12_signs viX12_signs lkL_178 (s_54 hs1) cl_12 rfl (Nat.le_of_ble_eq_true rfl) (Nat.le_of_ble_eq_true rfl) (Nat.le_of_ble_eq_true rfl) (Nat.le_of_ble_eq_true rfl) ?_
  refine vl_icmp_eq dL_law_1548 (fun _ => ?_) (fun h9 => absurd (rfl) h9)
  exact fin _ _ _ (Nat.le_of_ble_eq_true rfl) (Nat.le_of_ble_eq_true rfl)
set_option maxRecDepth 8000 in
theorem lc_whose {l : Launch} {b : Nat} {xs : Nat → Int32} {M : Mem} (hF : F0s M) (fin : ∀ (M2 : Mem) (kc ks : Nat), kc ≤ 600000 → ks ≤ 7302250 → VL l b 6 xs 1694 [none, some (aR 0), some (aR 54), some (aI 0)] [] M2 kc ks) : VL l b 6 xs 1553 [none, some (aR 0), some (aR 54), some (aI 0)] [] M 75 12789 := by
  obtain ⟨hS, zc, zm, hx, hl⟩ := hF
  refine vl_aload_n dL_law_1553 rfl ?_
  refine vl_sk dL_law_1554 dL_law_1555 dL_law_1556 dL_law_1557 dL_law_1558 rfl rfl (by decide) (by decide) (by decide) ?_
  refine vl_topI (xs 1).toInt rfl ?_
  refine vl_sk dL_law_1559 dL_law_1560 dL_law_1561 dL_law_1562 dL_law_1563 rfl rfl (by decide) (by decide) (by decide) ?_
  refine vl_topI (xs 2).toInt rfl ?_
  refine vl_sk dL_law_1564 dL_law_1565 dL_law_1566 dL_law_1567 dL_law_1568 rfl rfl (by decide) (by decide) (by decide) ?_
  refine vl_topI (xs 3).toInt rfl ?_
  refine vl_sk dL_law_1569 dL_law_1570 dL_law_1571 dL_law_1572 dL_law_1573 rfl rfl (by decide) (by decide) (by decide) ?_
  refine vl_topI (xs 4).toInt rfl ?_
  refine vl_if_eq dL_law_1574 (fun g0 => ?_) (fun g0 => ?_)
  · refine vl_iconst dL_law_1581 rfl ?_
    refine vl_callF dL_law_1582 (qX11_whose_0 hS zc ((xs 1).toInt) ((xs 2).toInt) ((xs 3).toInt) 0) rfl okX11_whose viX11_whose lkL_179 (s_0 hS) cl_11 rfl (Nat.le_of_ble_eq_true rfl) (Nat.le_of_ble_eq_true rfl) (Nat.le_of_ble_eq_true rfl) (Nat.le_of_ble_eq_true rfl) ?_
    have hs1 := hS
    have hz1 := zm
    refine vl_aload_n dL_law_1585 rfl ?_
    refine vl_sk dL_law_1586 dL_law_1587 dL_law_1588 dL_law_1589 dL_law_1590 rfl rfl (by decide) (by decide) (by decide) ?_
    refine vl_topI (xs 1).toInt rfl ?_
    refine vl_sk dL_law_1591 dL_law_1592 dL_law_1593 dL_law_1594 dL_law_1595 rfl rfl (by decide) (by decide) (by decide) ?_
    refine vl_topI (xs 2).toInt rfl ?_
    refine vl_sk dL_law_1596 dL_law_1597 dL_law_1598 dL_law_1599 dL_law_1600 rfl rfl (by decide) (by decide) (by decide) ?_
    refine vl_topI (xs 3).toInt rfl ?_
    refine vl_sk dL_law_1601 dL_law_1602 dL_law_1603 dL_law_1604 dL_law_1605 rfl rfl (by decide) (by decide) (by decide) ?_
    refine vl_topI (xs 4).toInt rfl ?_
    refine vl_if_eq dL_law_1606 (fun _ => ?_) (fun h9 => absurd g0 h9)
    refine vl_iconst dL_law_1613 rfl ?_
    refine vl_callF dL_law_1614 (qX12_whose_0 hs1 hz1 ((xs 1).toInt) ((xs 2).toInt) ((xs 3).toInt) 0) rfl okX12_whose viX12_whose lkL_183 (s_54 hs1) cl_12 rfl (Nat.le_of_ble_eq_true rfl) (Nat.le_of_ble_eq_true rfl) (Nat.le_of_ble_eq_true rfl) (Nat.le_of_ble_eq_true rfl) ?_
    refine vl_icmp_eq dL_law_1617 (fun _ => ?_) (fun h9 => absurd (rfl) h9)
    exact fin _ _ _ (Nat.le_of_ble_eq_true rfl) (Nat.le_of_ble_eq_true rfl)
  · refine vl_iconst dL_law_1577 rfl ?_
    refine vl_goto dL_law_1578 ?_
    refine vl_callF dL_law_1582 (qX11_whose_0 hS zc ((xs 1).toInt) ((xs 2).toInt) ((xs 3).toInt) 1) rfl okX11_whose viX11_whose lkL_179 (s_0 hS) cl_11 rfl (Nat.le_of_ble_eq_true rfl) (Nat.le_of_ble_eq_true rfl) (Nat.le_of_ble_eq_true rfl) (Nat.le_of_ble_eq_true rfl) ?_
    have hs1 := hS
    have hz1 := zm
    refine vl_aload_n dL_law_1585 rfl ?_
    refine vl_sk dL_law_1586 dL_law_1587 dL_law_1588 dL_law_1589 dL_law_1590 rfl rfl (by decide) (by decide) (by decide) ?_
    refine vl_topI (xs 1).toInt rfl ?_
    refine vl_sk dL_law_1591 dL_law_1592 dL_law_1593 dL_law_1594 dL_law_1595 rfl rfl (by decide) (by decide) (by decide) ?_
    refine vl_topI (xs 2).toInt rfl ?_
    refine vl_sk dL_law_1596 dL_law_1597 dL_law_1598 dL_law_1599 dL_law_1600 rfl rfl (by decide) (by decide) (by decide) ?_
    refine vl_topI (xs 3).toInt rfl ?_
    refine vl_sk dL_law_1601 dL_law_1602 dL_law_1603 dL_law_1604 dL_law_1605 rfl rfl (by decide) (by decide) (by decide) ?_
    refine vl_topI (xs 4).toInt rfl ?_
    refine vl_if_eq dL_law_1606 (fun h9 => absurd h9 g0) (fun _ => ?_)
    refine vl_iconst dL_law_1609 rfl ?_
    refine vl_goto dL_law_1610 ?_
    refine vl_callF dL_law_1614 (qX12_whose_0 hs1 hz1 ((xs 1).toInt) ((xs 2).toInt) ((xs 3).toInt) 1) rfl okX12_whose viX12_whose lkL_183 (s_54 hs1) cl_12 rfl (Nat.le_of_ble_eq_true rfl) (Nat.le_of_ble_eq_true rfl) (Nat.le_of_ble_eq_true rfl) (Nat.le_of_ble_eq_true rfl) ?_
    refine vl_icmp_eq dL_law_1617 (fun _ => ?_) (fun h9 => absurd (rfl) h9)
    exact fin _ _ _ (Nat.le_of_ble_eq_true rfl) (Nat.le_of_ble_eq_true rfl)
set_option maxRecDepth 8000 in
theorem lc_heard {l : Launch} {b : Nat} {xs : Nat → Int32} {M : Mem} (hF : F0s M) (fin : ∀ (M2 : Mem) (kc ks : Nat), kc ≤ 600000 → ks ≤ 7302250 → VL l b 6 xs 1694 [none, some (aR 0), some (aR 54), some (aI 0)] [] M2 kc ks) : VL l b 6 xs 1622 [none, some (aR 0), some (aR 54), some (aI 0)] [] M 75 12789 := by
  obtain ⟨hS, zc, zm, hx, hl⟩ := hF
  refine vl_aload_n dL_law_1622 rfl ?_
  refine vl_sk dL_law_1623 dL_law_1624 dL_law_1625 dL_law_1626 dL_law_1627 rfl rfl (by decide) (by decide) (by decide) ?_
  refine vl_topI (xs 1).toInt rfl ?_
  refine vl_callF dL_law_1628 (qX11_heard_0 hS zc ((xs 1).toInt)) rfl okX11_heard viX11_heard lkL_184 (s_0 hS) cl_11 rfl (Nat.le_of_ble_eq_true rfl) (Nat.le_of_ble_eq_true rfl) (Nat.le_of_ble_eq_true rfl) (Nat.le_of_ble_eq_true rfl) ?_
  have hs1 := hS
  have hz1 := zm
  refine vl_aload_n dL_law_1631 rfl ?_
  refine vl_sk dL_law_1632 dL_law_1633 dL_law_1634 dL_law_1635 dL_law_1636 rfl rfl (by decide) (by decide) (by decide) ?_
  refine vl_topI (xs 1).toInt rfl ?_
  refine vl_callF dL_law_1637 (qX12_heard_0 hs1 hz1 ((xs 1).toInt)) rfl okX12_heard viX12_heard lkL_187 (s_54 hs1) cl_12 rfl (Nat.le_of_ble_eq_true rfl) (Nat.le_of_ble_eq_true rfl) (Nat.le_of_ble_eq_true rfl) (Nat.le_of_ble_eq_true rfl) ?_
  refine vl_icmp_eq dL_law_1640 (fun _ => ?_) (fun h9 => absurd (rfl) h9)
  exact fin _ _ _ (Nat.le_of_ble_eq_true rfl) (Nat.le_of_ble_eq_true rfl)
set_option maxRecDepth 8000 in
theorem lc_image {l : Launch} {b : Nat} {xs : Nat → Int32} {M : Mem} (hF : F0s M) (fin : ∀ (M2 : Mem) (kc ks : Nat), kc ≤ 600000 → ks ≤ 7302250 → VL l b 6 xs 1694 [none, some (aR 0), some (aR 54), some (aI 0)] [] M2 kc ks) : VL l b 6 xs 1645 [none, some (aR 0), some (aR 54), some (aI 0)] [] M 75 12789 := by
  obtain ⟨hS, zc, zm, hx, hl⟩ := hF
  refine vl_aload_n dL_law_1645 rfl ?_
  refine vl_callF dL_law_1646 (qX11_image hS hx) rfl okX11_image viX11_image lkL_188 (s_0 hS) cl_11 rfl (Nat.le_of_ble_eq_true rfl) (Nat.le_of_ble_eq_true rfl) (Nat.le_of_ble_eq_true rfl) (Nat.le_of_ble_eq_true rfl) ?_
  have hs1 : St (gX11_image M) := tX11_image hS
  have hz1 : Zm (gX11_image M) := zX11_image zm
  refine vl_aload_n dL_law_1649 rfl ?_
  refine vl_callF dL_law_1650 (qX12_image hs1) rfl okX12_image viX12_image lkL_191 (s_54 hs1) cl_12 rfl (Nat.le_of_ble_eq_true rfl) (Nat.le_of_ble_eq_true rfl) (Nat.le_of_ble_eq_true rfl) (Nat.le_of_ble_eq_true rfl) ?_
  refine vl_icmp_eq dL_law_1653 (fun _ => ?_) (fun h9 => absurd (e_image zc hz1) h9)
  exact fin _ _ _ (Nat.le_of_ble_eq_true rfl) (Nat.le_of_ble_eq_true rfl)
set_option maxRecDepth 8000 in
theorem lc_back {l : Launch} {b : Nat} {xs : Nat → Int32} {M : Mem} (hF : F0s M) (fin : ∀ (M2 : Mem) (kc ks : Nat), kc ≤ 600000 → ks ≤ 7302250 → VL l b 6 xs 1694 [none, some (aR 0), some (aR 54), some (aI 0)] [] M2 kc ks) : VL l b 6 xs 1658 [none, some (aR 0), some (aR 54), some (aI 0)] [] M 75 12789 := by
  obtain ⟨hS, zc, zm, hx, hl⟩ := hF
  refine vl_aload_n dL_law_1658 rfl ?_
  refine vl_callF dL_law_1659 (qX11_back hS hx) rfl okX11_back viX11_back lkL_192 (s_0 hS) cl_11 rfl (Nat.le_of_ble_eq_true rfl) (Nat.le_of_ble_eq_true rfl) (Nat.le_of_ble_eq_true rfl) (Nat.le_of_ble_eq_true rfl) ?_
  have hs1 : St (gX11_back M) := tX11_back hS
  have hz1 : Zm (gX11_back M) := zX11_back zm
  refine vl_aload_n dL_law_1662 rfl ?_
  refine vl_callF dL_law_1663 (qX12_back hs1) rfl okX12_back viX12_back lkL_195 (s_54 hs1) cl_12 rfl (Nat.le_of_ble_eq_true rfl) (Nat.le_of_ble_eq_true rfl) (Nat.le_of_ble_eq_true rfl) (Nat.le_of_ble_eq_true rfl) ?_
  refine vl_icmp_eq dL_law_1666 (fun _ => ?_) (fun h9 => absurd (e_back zc hz1) h9)
  exact fin _ _ _ (Nat.le_of_ble_eq_true rfl) (Nat.le_of_ble_eq_true rfl)
set_option maxRecDepth 8000 in
theorem lc_about {l : Launch} {b : Nat} {xs : Nat → Int32} {M : Mem} (hF : F0s M) (fin : ∀ (M2 : Mem) (kc ks : Nat), kc ≤ 600000 → ks ≤ 7302250 → VL l b 6 xs 1694 [none, some (aR 0), some (aR 54), some (aI 0)] [] M2 kc ks) : VL l b 6 xs 1671 [none, some (aR 0), some (aR 54), some (aI 0)] [] M 75 12789 := by
  obtain ⟨hS, zc, zm, hx, hl⟩ := hF
  refine vl_aload_n dL_law_1671 rfl ?_
  refine vl_sk dL_law_1672 dL_law_1673 dL_law_1674 dL_law_1675 dL_law_1676 rfl rfl (by decide) (by decide) (by decide) ?_
  refine vl_topI (xs 1).toInt rfl ?_
  refine vl_callF dL_law_1677 (qX11_about_0 hS zc ((xs 1).toInt)) rfl okX11_about viX11_about lkL_196 (s_0 hS) cl_11 rfl (Nat.le_of_ble_eq_true rfl) (Nat.le_of_ble_eq_true rfl) (Nat.le_of_ble_eq_true rfl) (Nat.le_of_ble_eq_true rfl) ?_
  have hs1 := hS
  have hz1 := zm
  refine vl_aload_n dL_law_1680 rfl ?_
  refine vl_sk dL_law_1681 dL_law_1682 dL_law_1683 dL_law_1684 dL_law_1685 rfl rfl (by decide) (by decide) (by decide) ?_
  refine vl_topI (xs 1).toInt rfl ?_
  refine vl_callF dL_law_1686 (qX12_about_0 hs1 hz1 ((xs 1).toInt)) rfl okX12_about viX12_about lkL_199 (s_54 hs1) cl_12 rfl (Nat.le_of_ble_eq_true rfl) (Nat.le_of_ble_eq_true rfl) (Nat.le_of_ble_eq_true rfl) (Nat.le_of_ble_eq_true rfl) ?_
  refine vl_icmp_eq dL_law_1689 (fun _ => ?_) (fun h9 => absurd (e_about hz1 ((xs 1).toInt)) h9)
  exact fin _ _ _ (Nat.le_of_ble_eq_true rfl) (Nat.le_of_ble_eq_true rfl)
